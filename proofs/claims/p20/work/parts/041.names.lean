theorem dL_draw_0 : decode cL_draw 0 = .ok (.iload_n 1, 1) := by decide +kernel
theorem dL_draw_1 : decode cL_draw 1 = .ok (.aload_n 0, 1) := by decide +kernel
theorem dL_draw_2 : decode cL_draw 2 = .ok (.arraylength, 1) := by decide +kernel
theorem dL_draw_3 : decode cL_draw 3 = .ok (.if_icmp .ge 9, 3) := by decide +kernel
theorem dL_draw_6 : decode cL_draw 6 = .ok (.aload_n 0, 1) := by decide +kernel
theorem dL_draw_7 : decode cL_draw 7 = .ok (.iload_n 1, 1) := by decide +kernel
theorem dL_draw_8 : decode cL_draw 8 = .ok (.iaload, 1) := by decide +kernel
theorem dL_draw_9 : decode cL_draw 9 = .ok (.goto 14, 3) := by decide +kernel
theorem dL_draw_12 : decode cL_draw 12 = .ok (.ldc 7, 2) := by decide +kernel
theorem dL_draw_14 : decode cL_draw 14 = .ok (.iload_n 1, 1) := by decide +kernel
theorem dL_draw_15 : decode cL_draw 15 = .ok (.sipush 239, 3) := by decide +kernel
theorem dL_draw_18 : decode cL_draw 18 = .ok (.iadd, 1) := by decide +kernel
theorem dL_draw_19 : decode cL_draw 19 = .ok (.imul, 1) := by decide +kernel
theorem dL_draw_20 : decode cL_draw 20 = .ok (.ldc 8, 2) := by decide +kernel
theorem dL_draw_22 : decode cL_draw 22 = .ok (.iadd, 1) := by decide +kernel
theorem dL_draw_23 : decode cL_draw 23 = .ok (.istore_n 3, 1) := by decide +kernel
theorem dL_draw_24 : decode cL_draw 24 = .ok (.iload_n 3, 1) := by decide +kernel
theorem dL_draw_25 : decode cL_draw 25 = .ok (.ldc 9, 2) := by decide +kernel
theorem dL_draw_27 : decode cL_draw 27 = .ok (.iand, 1) := by decide +kernel
theorem dL_draw_28 : decode cL_draw 28 = .ok (.iload_n 2, 1) := by decide +kernel
theorem dL_draw_29 : decode cL_draw 29 = .ok (.irem, 1) := by decide +kernel
theorem dL_draw_30 : decode cL_draw 30 = .ok (.ireturn, 1) := by decide +kernel
theorem dL_under_0 : decode cL_under 0 = .ok (.aload_n 0, 1) := by decide +kernel
theorem dL_under_1 : decode cL_under 1 = .ok (.iload_n 1, 1) := by decide +kernel
theorem dL_under_2 : decode cL_under 2 = .ok (.iaload, 1) := by decide +kernel
theorem dL_under_3 : decode cL_under 3 = .ok (.iconst 2, 1) := by decide +kernel
theorem dL_under_4 : decode cL_under 4 = .ok (.idiv, 1) := by decide +kernel
theorem dL_under_5 : decode cL_under 5 = .ok (.iconst 1, 1) := by decide +kernel
theorem dL_under_6 : decode cL_under 6 = .ok (.isub, 1) := by decide +kernel
theorem dL_under_7 : decode cL_under 7 = .ok (.ireturn, 1) := by decide +kernel
theorem dL_weight_0 : decode cL_weight 0 = .ok (.aload_n 0, 1) := by decide +kernel
theorem dL_weight_1 : decode cL_weight 1 = .ok (.iload_n 1, 1) := by decide +kernel
theorem dL_weight_2 : decode cL_weight 2 = .ok (.iaload, 1) := by decide +kernel
theorem dL_weight_3 : decode cL_weight 3 = .ok (.iconst 2, 1) := by decide +kernel
theorem dL_weight_4 : decode cL_weight 4 = .ok (.irem, 1) := by decide +kernel
theorem dL_weight_5 : decode cL_weight 5 = .ok (.iconst 1, 1) := by decide +kernel
theorem dL_weight_6 : decode cL_weight 6 = .ok (.if_icmp .ne 7, 3) := by decide +kernel
theorem dL_weight_9 : decode cL_weight 9 = .ok (.iconst 1, 1) := by decide +kernel
theorem dL_weight_10 : decode cL_weight 10 = .ok (.goto 4, 3) := by decide +kernel
theorem dL_weight_13 : decode cL_weight 13 = .ok (.iconst (-1), 1) := by decide +kernel
theorem dL_weight_14 : decode cL_weight 14 = .ok (.ireturn, 1) := by decide +kernel
set_option maxRecDepth 20000 in
theorem ggL_held_X4_doubt : GoodIn wsL_held wsX4_doubt := goodIn_ca (goodIn_ca (goodIn_r _ [7, 8, 9, 10, 11, 6, 12, 13, 14, 15, 16, 17, 18, 19, 20, 21, 22, 23, 24, 25, 26, 27, 28, 29, 30, 31, 32, 33, 34, 35, 36, 37, 38, 39, 40, 41, 42, 43, 44, 45, 51, 52, 53, 54, 55, 56, 57, 58, 59, 60, 61, 62, 63, 64, 65, 66, 67] (by decide +kernel) (by decide +kernel)) (goodIn_sub (fun _ h => List.mem_cons_of_mem _ (List.mem_append_left _ (List.mem_append_right _ h))) (by decide +kernel))) (goodIn_sub (fun _ h => List.mem_cons_of_mem _ (List.mem_append_right _ h)) (by decide +kernel))
set_option maxRecDepth 20000 in
theorem gL_held_X4_doubt : GoodIn wsL_held (wsV RL 10 RX4 yX4_doubt wsX4_doubt) := goodIn_app (goodIn_of _ (by decide +kernel)) ggL_held_X4_doubt
set_option maxRecDepth 20000 in
theorem ggL_held_X4_value : GoodIn wsL_held wsX4_value := goodIn_ca (goodIn_ca (goodIn_r _ [49, 50, 9, 10, 11, 6, 12, 13, 14, 15, 16, 17, 18, 19, 20, 21, 22, 23, 24, 25, 26, 27, 28, 29, 30, 31, 32, 33, 34, 35, 36, 37, 38, 39, 40, 41, 42, 43, 44, 45, 51, 52, 53, 54, 55, 56, 57, 58, 59, 60, 61, 62, 63, 64, 65, 66, 67] (by decide +kernel) (by decide +kernel)) (goodIn_sub (fun _ h => List.mem_cons_of_mem _ (List.mem_append_left _ (List.mem_append_right _ h))) (by decide +kernel))) (goodIn_sub (fun _ h => List.mem_cons_of_mem _ (List.mem_append_right _ h)) (by decide +kernel))
set_option maxRecDepth 20000 in
theorem gL_held_X4_value : GoodIn wsL_held (wsV RL 16 RX4 yX4_value wsX4_value) := goodIn_app (goodIn_of _ (by decide +kernel)) ggL_held_X4_value
theorem dL_held_0 : decode cL_held 0 = .ok (.iload_n 1, 1) := by decide +kernel
theorem dL_held_1 : decode cL_held 1 = .ok (.ifCond .eq 16, 3) := by decide +kernel
theorem dL_held_4 : decode cL_held 4 = .ok (.aload_n 0, 1) := by decide +kernel
theorem dL_held_5 : decode cL_held 5 = .ok (.iload_n 2, 1) := by decide +kernel
theorem dL_held_6 : decode cL_held 6 = .ok (.iload_n 3, 1) := by decide +kernel
theorem dL_held_7 : decode cL_held 7 = .ok (.iload 4, 2) := by decide +kernel
theorem dL_held_9 : decode cL_held 9 = .ok (.iload 5, 2) := by decide +kernel
theorem dL_held_11 : decode cL_held 11 = .ok (.invokevirtual 10, 3) := by decide +kernel
theorem dL_held_14 : decode cL_held 14 = .ok (.goto 13, 3) := by decide +kernel
theorem dL_held_17 : decode cL_held 17 = .ok (.aload_n 0, 1) := by decide +kernel
theorem dL_held_18 : decode cL_held 18 = .ok (.iload_n 2, 1) := by decide +kernel
theorem dL_held_19 : decode cL_held 19 = .ok (.iload_n 3, 1) := by decide +kernel
theorem dL_held_20 : decode cL_held 20 = .ok (.iload 4, 2) := by decide +kernel
theorem dL_held_22 : decode cL_held 22 = .ok (.iload 5, 2) := by decide +kernel
theorem dL_held_24 : decode cL_held 24 = .ok (.invokevirtual 16, 3) := by decide +kernel
theorem dL_held_27 : decode cL_held 27 = .ok (.ireturn, 1) := by decide +kernel
theorem dL_held_28 : decode cL_held 28 = .ok (.astore 6, 2) := by decide +kernel
theorem dL_held_30 : decode cL_held 30 = .ok (.ldc 21, 2) := by decide +kernel
theorem dL_held_32 : decode cL_held 32 = .ok (.ireturn, 1) := by decide +kernel
set_option maxRecDepth 20000 in
theorem ggL_derived_X4_derived : GoodIn wsL_derived wsX4_derived := goodIn_ca (goodIn_ca (goodIn_r _ [7, 8, 9, 10, 11, 12, 13, 14, 15, 16, 6, 17, 18, 19, 20, 21, 22, 23, 24, 25, 26, 27, 28, 29, 30, 31, 32, 33, 34, 35, 36, 37, 38, 39, 40, 41, 42, 43, 44, 45, 46, 47, 48, 49, 50, 51, 52, 53, 54, 55, 56, 57, 58, 59, 60, 61, 62, 63, 64, 65, 66] (by decide +kernel) (by decide +kernel)) (goodIn_sub (fun _ h => List.mem_cons_of_mem _ (List.mem_append_left _ (List.mem_append_right _ h))) (by decide +kernel))) (goodIn_sub (fun _ h => List.mem_cons_of_mem _ (List.mem_append_right _ h)) (by decide +kernel))
set_option maxRecDepth 20000 in
theorem gL_derived_X4_derived : GoodIn wsL_derived (wsV RL 22 RX4 yX4_derived wsX4_derived) := goodIn_app (goodIn_of _ (by decide +kernel)) ggL_derived_X4_derived
theorem dL_derived_0 : decode cL_derived 0 = .ok (.aload_n 0, 1) := by decide +kernel
theorem dL_derived_1 : decode cL_derived 1 = .ok (.iload_n 1, 1) := by decide +kernel
theorem dL_derived_2 : decode cL_derived 2 = .ok (.iload_n 2, 1) := by decide +kernel
theorem dL_derived_3 : decode cL_derived 3 = .ok (.iload_n 3, 1) := by decide +kernel
theorem dL_derived_4 : decode cL_derived 4 = .ok (.iload 4, 2) := by decide +kernel
theorem dL_derived_6 : decode cL_derived 6 = .ok (.invokevirtual 22, 3) := by decide +kernel
theorem dL_derived_9 : decode cL_derived 9 = .ok (.ireturn, 1) := by decide +kernel
theorem dL_derived_10 : decode cL_derived 10 = .ok (.astore 5, 2) := by decide +kernel
theorem dL_derived_12 : decode cL_derived 12 = .ok (.ldc 21, 2) := by decide +kernel
theorem dL_derived_14 : decode cL_derived 14 = .ok (.ireturn, 1) := by decide +kernel
set_option maxRecDepth 20000 in
theorem ggL_hangs_X4_hang : GoodIn wsL_hangs wsX4_hang := goodIn_ca (goodIn_ca (goodIn_r _ [6, 7, 8, 9, 10, 11, 12, 13, 5, 14, 15, 16, 17, 18, 19, 20, 21, 22, 23, 24, 25, 26, 27, 28, 29, 30, 31, 32] (by decide +kernel) (by decide +kernel)) (goodIn_sub (fun _ h => List.mem_cons_of_mem _ (List.mem_append_left _ (List.mem_append_right _ h))) (by decide +kernel))) (goodIn_sub (fun _ h => List.mem_cons_of_mem _ (List.mem_append_right _ h)) (by decide +kernel))
set_option maxRecDepth 20000 in
theorem gL_hangs_X4_hang : GoodIn wsL_hangs (wsV RL 25 RX4 yX4_hang wsX4_hang) := goodIn_app (goodIn_of _ (by decide +kernel)) ggL_hangs_X4_hang
theorem dL_hangs_0 : decode cL_hangs 0 = .ok (.aload_n 0, 1) := by decide +kernel
theorem dL_hangs_1 : decode cL_hangs 1 = .ok (.iload_n 1, 1) := by decide +kernel
theorem dL_hangs_2 : decode cL_hangs 2 = .ok (.iload_n 2, 1) := by decide +kernel
theorem dL_hangs_3 : decode cL_hangs 3 = .ok (.iload_n 3, 1) := by decide +kernel
theorem dL_hangs_4 : decode cL_hangs 4 = .ok (.invokevirtual 25, 3) := by decide +kernel
theorem dL_hangs_7 : decode cL_hangs 7 = .ok (.ireturn, 1) := by decide +kernel
theorem dL_hangs_8 : decode cL_hangs 8 = .ok (.astore 4, 2) := by decide +kernel
theorem dL_hangs_10 : decode cL_hangs 10 = .ok (.bipush (-9), 2) := by decide +kernel
theorem dL_hangs_12 : decode cL_hangs 12 = .ok (.ireturn, 1) := by decide +kernel
set_option maxRecDepth 20000 in
theorem ggL_rolls_X4_addRoll : GoodIn wsL_rolls wsX4_addRoll := goodIn_ca (goodIn_ca (goodIn_ca (goodIn_r _ [7, 8, 9, 10, 11, 12, 13, 14, 15, 16, 17, 6, 18, 19, 20, 21, 22, 23, 24, 25, 26, 27, 28, 29, 30, 31, 32] (by decide +kernel) (by decide +kernel)) (goodIn_sub (fun _ h => List.mem_cons_of_mem _ (List.mem_append_left _ (List.mem_append_left _ (List.mem_append_right _ h)))) (by decide +kernel))) (goodIn_sub (fun _ h => List.mem_cons_of_mem _ (List.mem_append_left _ (List.mem_append_right _ h))) (by decide +kernel))) (goodIn_sub (fun _ h => List.mem_cons_of_mem _ (List.mem_append_right _ h)) (by decide +kernel))
set_option maxRecDepth 20000 in
theorem gL_rolls_X4_addRoll : GoodIn wsL_rolls (wsV RL 31 RX4 yX4_addRoll wsX4_addRoll) := goodIn_app (goodIn_of _ (by decide +kernel)) ggL_rolls_X4_addRoll
theorem dL_rolls_0 : decode cL_rolls 0 = .ok (.aload_n 0, 1) := by decide +kernel
theorem dL_rolls_1 : decode cL_rolls 1 = .ok (.iload_n 1, 1) := by decide +kernel
theorem dL_rolls_2 : decode cL_rolls 2 = .ok (.iload_n 2, 1) := by decide +kernel
theorem dL_rolls_3 : decode cL_rolls 3 = .ok (.invokevirtual 31, 3) := by decide +kernel
theorem dL_rolls_6 : decode cL_rolls 6 = .ok (.ireturn, 1) := by decide +kernel
theorem dL_rolls_7 : decode cL_rolls 7 = .ok (.astore_n 3, 1) := by decide +kernel
theorem dL_rolls_8 : decode cL_rolls 8 = .ok (.bipush (-9), 2) := by decide +kernel
theorem dL_rolls_10 : decode cL_rolls 10 = .ok (.ireturn, 1) := by decide +kernel
theorem dL_rolls_11 : decode cL_rolls 11 = .ok (.astore_n 3, 1) := by decide +kernel
theorem dL_rolls_12 : decode cL_rolls 12 = .ok (.bipush (-8), 2) := by decide +kernel
theorem dL_rolls_14 : decode cL_rolls 14 = .ok (.ireturn, 1) := by decide +kernel
set_option maxRecDepth 20000 in
theorem ggL_files_X4_file : GoodIn wsL_files wsX4_file := goodIn_ca (goodIn_r _ [6, 7, 8, 9, 10, 11, 12, 13, 14, 15, 16, 17, 18, 19, 20] (by decide +kernel) (by decide +kernel)) (goodIn_sub (fun _ h => List.mem_cons_of_mem _ (List.mem_append_right _ h)) (by decide +kernel))
set_option maxRecDepth 20000 in
theorem gL_files_X4_file : GoodIn wsL_files (wsV RL 37 RX4 yX4_file wsX4_file) := goodIn_app (goodIn_of _ (by decide +kernel)) ggL_files_X4_file
theorem dL_files_0 : decode cL_files 0 = .ok (.aload_n 0, 1) := by decide +kernel
theorem dL_files_1 : decode cL_files 1 = .ok (.invokevirtual 37, 3) := by decide +kernel
theorem dL_files_4 : decode cL_files 4 = .ok (.ireturn, 1) := by decide +kernel
theorem dL_files_5 : decode cL_files 5 = .ok (.astore_n 1, 1) := by decide +kernel
theorem dL_files_6 : decode cL_files 6 = .ok (.bipush (-8), 2) := by decide +kernel
theorem dL_files_8 : decode cL_files 8 = .ok (.ireturn, 1) := by decide +kernel
theorem dL_isFar_0 : decode cL_isFar 0 = .ok (.iload_n 0, 1) := by decide +kernel
theorem dL_isFar_1 : decode cL_isFar 1 = .ok (.iload_n 1, 1) := by decide +kernel
theorem dL_isFar_2 : decode cL_isFar 2 = .ok (.isub, 1) := by decide +kernel
theorem dL_isFar_3 : decode cL_isFar 3 = .ok (.istore_n 3, 1) := by decide +kernel
theorem dL_isFar_4 : decode cL_isFar 4 = .ok (.iconst 2, 1) := by decide +kernel
theorem dL_isFar_5 : decode cL_isFar 5 = .ok (.iload_n 3, 1) := by decide +kernel
theorem dL_isFar_6 : decode cL_isFar 6 = .ok (.ifCond .ge 8, 3) := by decide +kernel
theorem dL_isFar_9 : decode cL_isFar 9 = .ok (.iload_n 3, 1) := by decide +kernel
theorem dL_isFar_10 : decode cL_isFar 10 = .ok (.ineg, 1) := by decide +kernel
theorem dL_isFar_11 : decode cL_isFar 11 = .ok (.goto 4, 3) := by decide +kernel
theorem dL_isFar_14 : decode cL_isFar 14 = .ok (.iload_n 3, 1) := by decide +kernel
theorem dL_isFar_15 : decode cL_isFar 15 = .ok (.imul, 1) := by decide +kernel
theorem dL_isFar_16 : decode cL_isFar 16 = .ok (.iload_n 2, 1) := by decide +kernel
theorem dL_isFar_17 : decode cL_isFar 17 = .ok (.if_icmp .le 7, 3) := by decide +kernel
theorem dL_isFar_20 : decode cL_isFar 20 = .ok (.iconst 1, 1) := by decide +kernel
theorem dL_isFar_21 : decode cL_isFar 21 = .ok (.goto 4, 3) := by decide +kernel
theorem dL_isFar_24 : decode cL_isFar 24 = .ok (.iconst 0, 1) := by decide +kernel
theorem dL_isFar_25 : decode cL_isFar 25 = .ok (.ireturn, 1) := by decide +kernel
set_option maxRecDepth 20000 in
theorem ggL_isKey_L_held : GoodIn wsL_isKey wsL_held := goodIn_ca (goodIn_ca (goodIn_r _ [5, 6, 1, 7, 8, 9, 10, 11, 12, 13, 14, 15, 16, 17, 18, 19, 20, 21, 22, 23, 24, 25, 26, 27, 28, 29, 30, 31, 32, 33, 34, 35, 36, 37, 38, 39, 40, 41, 42, 43, 44, 45, 46, 47, 48, 49, 50, 51, 52, 53, 54, 120, 121, 122, 123, 124, 125, 126, 127, 128, 129, 130, 131, 132, 133, 134, 135, 136] (by decide +kernel) (by decide +kernel)) (goodIn_sub (fun _ h => List.mem_cons_of_mem _ (List.mem_append_left _ (List.mem_append_right _ h))) (by decide +kernel))) (goodIn_sub (fun _ h => List.mem_cons_of_mem _ (List.mem_append_right _ h)) (by decide +kernel))
set_option maxRecDepth 20000 in
theorem gL_isKey_L_held : GoodIn wsL_isKey (va_wsS RL 41 yL_held wsL_held) := goodIn_app (goodIn_of _ (by decide +kernel)) ggL_isKey_L_held
set_option maxRecDepth 20000 in
theorem ggL_isKey_L_under : GoodIn wsL_isKey wsL_under := goodIn_r _ [57] (by decide +kernel) (by decide +kernel)
set_option maxRecDepth 20000 in
theorem gL_isKey_L_under : GoodIn wsL_isKey (va_wsS RL 47 yL_under wsL_under) := goodIn_app (goodIn_of _ (by decide +kernel)) ggL_isKey_L_under
set_option maxRecDepth 20000 in
theorem ggL_isKey_L_derived : GoodIn wsL_isKey wsL_derived := goodIn_ca (goodIn_ca (goodIn_r _ [60, 6, 1, 61, 62, 63, 10, 64, 17, 18, 65, 66, 19, 54, 20, 21, 22, 23, 24, 25, 26, 27, 28, 29, 30, 31, 32, 33, 34, 35, 36, 37, 38, 39, 40, 41, 42, 43, 44, 45, 46, 47, 48, 49, 67, 68, 69, 70, 71, 72, 125, 126, 127, 128, 129, 130, 131, 132, 133, 134, 135, 120, 121, 122, 123, 124, 136] (by decide +kernel) (by decide +kernel)) (goodIn_sub (fun _ h => List.mem_cons_of_mem _ (List.mem_append_left _ (List.mem_append_right _ h))) (by decide +kernel))) (goodIn_sub (fun _ h => List.mem_cons_of_mem _ (List.mem_append_right _ h)) (by decide +kernel))
set_option maxRecDepth 20000 in
theorem gL_isKey_L_derived : GoodIn wsL_isKey (va_wsS RL 51 yL_derived wsL_derived) := goodIn_app (goodIn_of _ (by decide +kernel)) ggL_isKey_L_derived
set_option maxRecDepth 20000 in
theorem ggL_isKey_L_weight : GoodIn wsL_isKey wsL_weight := goodIn_r _ [75] (by decide +kernel) (by decide +kernel)
set_option maxRecDepth 20000 in
theorem gL_isKey_L_weight : GoodIn wsL_isKey (va_wsS RL 54 yL_weight wsL_weight) := goodIn_app (goodIn_of _ (by decide +kernel)) ggL_isKey_L_weight
set_option maxRecDepth 20000 in
theorem ggL_isKey_L_isFar : GoodIn wsL_isKey wsL_isFar := goodIn_r _ [78] (by decide +kernel) (by decide +kernel)
set_option maxRecDepth 20000 in
theorem gL_isKey_L_isFar : GoodIn wsL_isKey (va_wsS RL 57 yL_isFar wsL_isFar) := goodIn_app (goodIn_of _ (by decide +kernel)) ggL_isKey_L_isFar
set_option maxRecDepth 20000 in
theorem ggL_isKey_X4_sum : GoodIn wsL_isKey wsX4_sum := goodIn_ca (goodIn_r _ [82, 30, 19, 72, 54, 20, 21, 22, 10, 23, 24, 25, 26, 27, 28, 29, 31, 32, 33, 34, 35, 36, 37, 38, 39, 40, 41, 83, 84, 85, 86, 71, 87, 88, 89, 43, 45, 46, 47, 48, 49, 90, 91, 92, 93, 94, 95, 96, 97, 98, 99, 100, 101, 102, 103, 104, 125, 126, 127, 128, 129, 130, 131, 132, 133, 134, 135, 120, 121, 122, 123, 124, 136, 137, 138] (by decide +kernel) (by decide +kernel)) (goodIn_sub (fun _ h => List.mem_cons_of_mem _ (List.mem_append_right _ h)) (by decide +kernel))
set_option maxRecDepth 20000 in
theorem gL_isKey_X4_sum : GoodIn wsL_isKey (wsV RL 61 RX4 yX4_sum wsX4_sum) := goodIn_app (goodIn_of _ (by decide +kernel)) ggL_isKey_X4_sum
set_option maxRecDepth 20000 in
theorem ggL_isKey_X4_isSumOff : GoodIn wsL_isKey wsX4_isSumOff := goodIn_ca (goodIn_r _ [108, 19, 20, 21, 22, 10, 23, 24, 25, 26, 27, 28, 29, 30, 31, 32, 33, 34, 35, 36, 37, 38, 109, 110, 111, 112, 12, 72, 54, 39, 40, 41, 87, 88, 89, 43, 45, 46, 47, 48, 49, 90, 91, 92, 93, 94, 95, 96, 97, 98, 99, 100, 101, 102, 103, 104, 83, 84, 85, 86, 71, 113, 114, 115, 116, 117, 118, 119, 125, 126, 127, 128, 129, 130, 131, 132, 133, 134, 135, 120, 121, 122, 123, 124, 136, 137, 138] (by decide +kernel) (by decide +kernel)) (goodIn_sub (fun _ h => List.mem_cons_of_mem _ (List.mem_append_right _ h)) (by decide +kernel))
set_option maxRecDepth 20000 in
theorem gL_isKey_X4_isSumOff : GoodIn wsL_isKey (wsV RL 64 RX4 yX4_isSumOff wsX4_isSumOff) := goodIn_app (goodIn_of _ (by decide +kernel)) ggL_isKey_X4_isSumOff
theorem dL_isKey_0 : decode cL_isKey 0 = .ok (.aload_n 0, 1) := by decide +kernel
theorem dL_isKey_1 : decode cL_isKey 1 = .ok (.iconst 0, 1) := by decide +kernel
theorem dL_isKey_2 : decode cL_isKey 2 = .ok (.iload_n 3, 1) := by decide +kernel
theorem dL_isKey_3 : decode cL_isKey 3 = .ok (.iload 4, 2) := by decide +kernel
theorem dL_isKey_5 : decode cL_isKey 5 = .ok (.iload 5, 2) := by decide +kernel
theorem dL_isKey_7 : decode cL_isKey 7 = .ok (.iload 6, 2) := by decide +kernel
theorem dL_isKey_9 : decode cL_isKey 9 = .ok (.invokestatic 41, 3) := by decide +kernel
theorem dL_isKey_12 : decode cL_isKey 12 = .ok (.istore 7, 2) := by decide +kernel
theorem dL_isKey_14 : decode cL_isKey 14 = .ok (.iload 7, 2) := by decide +kernel
theorem dL_isKey_16 : decode cL_isKey 16 = .ok (.ldc 21, 2) := by decide +kernel
theorem dL_isKey_18 : decode cL_isKey 18 = .ok (.if_icmp .ne 7, 3) := by decide +kernel
theorem dL_isKey_21 : decode cL_isKey 21 = .ok (.iconst 0, 1) := by decide +kernel
theorem dL_isKey_22 : decode cL_isKey 22 = .ok (.goto 15, 3) := by decide +kernel
theorem dL_isKey_25 : decode cL_isKey 25 = .ok (.aload_n 0, 1) := by decide +kernel
theorem dL_isKey_26 : decode cL_isKey 26 = .ok (.iconst 1, 1) := by decide +kernel
theorem dL_isKey_27 : decode cL_isKey 27 = .ok (.iload_n 3, 1) := by decide +kernel
theorem dL_isKey_28 : decode cL_isKey 28 = .ok (.iload 4, 2) := by decide +kernel
theorem dL_isKey_30 : decode cL_isKey 30 = .ok (.iload 5, 2) := by decide +kernel
theorem dL_isKey_32 : decode cL_isKey 32 = .ok (.iload 6, 2) := by decide +kernel
theorem dL_isKey_34 : decode cL_isKey 34 = .ok (.invokestatic 41, 3) := by decide +kernel
theorem dL_isKey_37 : decode cL_isKey 37 = .ok (.istore 8, 2) := by decide +kernel
theorem dL_isKey_39 : decode cL_isKey 39 = .ok (.iconst 0, 1) := by decide +kernel
theorem dL_isKey_40 : decode cL_isKey 40 = .ok (.istore 9, 2) := by decide +kernel
theorem dL_isKey_42 : decode cL_isKey 42 = .ok (.iconst 0, 1) := by decide +kernel
theorem dL_isKey_43 : decode cL_isKey 43 = .ok (.istore 10, 2) := by decide +kernel
theorem dL_isKey_45 : decode cL_isKey 45 = .ok (.iconst 0, 1) := by decide +kernel
theorem dL_isKey_46 : decode cL_isKey 46 = .ok (.istore 11, 2) := by decide +kernel
theorem dL_isKey_48 : decode cL_isKey 48 = .ok (.iconst 0, 1) := by decide +kernel
theorem dL_isKey_49 : decode cL_isKey 49 = .ok (.istore 12, 2) := by decide +kernel
theorem dL_isKey_51 : decode cL_isKey 51 = .ok (.iconst 0, 1) := by decide +kernel
theorem dL_isKey_52 : decode cL_isKey 52 = .ok (.istore 13, 2) := by decide +kernel
theorem dL_isKey_54 : decode cL_isKey 54 = .ok (.iconst 0, 1) := by decide +kernel
theorem dL_isKey_55 : decode cL_isKey 55 = .ok (.istore 14, 2) := by decide +kernel
theorem dL_isKey_57 : decode cL_isKey 57 = .ok (.iload 14, 2) := by decide +kernel
theorem dL_isKey_59 : decode cL_isKey 59 = .ok (.aload_n 2, 1) := by decide +kernel
theorem dL_isKey_60 : decode cL_isKey 60 = .ok (.iconst 0, 1) := by decide +kernel
theorem dL_isKey_61 : decode cL_isKey 61 = .ok (.iaload, 1) := by decide +kernel
theorem dL_isKey_62 : decode cL_isKey 62 = .ok (.if_icmp .ge 164, 3) := by decide +kernel
theorem dL_isKey_65 : decode cL_isKey 65 = .ok (.aload_n 1, 1) := by decide +kernel
theorem dL_isKey_66 : decode cL_isKey 66 = .ok (.iload 14, 2) := by decide +kernel
theorem dL_isKey_68 : decode cL_isKey 68 = .ok (.invokestatic 47, 3) := by decide +kernel
theorem dL_isKey_71 : decode cL_isKey 71 = .ok (.iload_n 3, 1) := by decide +kernel
theorem dL_isKey_72 : decode cL_isKey 72 = .ok (.if_icmp .ne 148, 3) := by decide +kernel
theorem dL_isKey_75 : decode cL_isKey 75 = .ok (.aload_n 0, 1) := by decide +kernel
theorem dL_isKey_76 : decode cL_isKey 76 = .ok (.iconst 0, 1) := by decide +kernel
theorem dL_isKey_77 : decode cL_isKey 77 = .ok (.iload 14, 2) := by decide +kernel
theorem dL_isKey_79 : decode cL_isKey 79 = .ok (.iload 4, 2) := by decide +kernel
theorem dL_isKey_81 : decode cL_isKey 81 = .ok (.iload 5, 2) := by decide +kernel
theorem dL_isKey_83 : decode cL_isKey 83 = .ok (.iload 6, 2) := by decide +kernel
theorem dL_isKey_85 : decode cL_isKey 85 = .ok (.invokestatic 41, 3) := by decide +kernel
theorem dL_isKey_88 : decode cL_isKey 88 = .ok (.istore 15, 2) := by decide +kernel
theorem dL_isKey_90 : decode cL_isKey 90 = .ok (.aload_n 0, 1) := by decide +kernel
theorem dL_isKey_91 : decode cL_isKey 91 = .ok (.iload 14, 2) := by decide +kernel
theorem dL_isKey_93 : decode cL_isKey 93 = .ok (.iload 4, 2) := by decide +kernel
theorem dL_isKey_95 : decode cL_isKey 95 = .ok (.iload 5, 2) := by decide +kernel
theorem dL_isKey_97 : decode cL_isKey 97 = .ok (.iload 6, 2) := by decide +kernel
theorem dL_isKey_99 : decode cL_isKey 99 = .ok (.invokestatic 51, 3) := by decide +kernel
theorem dL_isKey_102 : decode cL_isKey 102 = .ok (.istore 16, 2) := by decide +kernel
theorem dL_isKey_104 : decode cL_isKey 104 = .ok (.iload 9, 2) := by decide +kernel
theorem dL_isKey_106 : decode cL_isKey 106 = .ok (.iload 15, 2) := by decide +kernel
theorem dL_isKey_108 : decode cL_isKey 108 = .ok (.ldc 21, 2) := by decide +kernel
theorem dL_isKey_110 : decode cL_isKey 110 = .ok (.if_icmp .ne 7, 3) := by decide +kernel
theorem dL_isKey_113 : decode cL_isKey 113 = .ok (.iconst 0, 1) := by decide +kernel
theorem dL_isKey_114 : decode cL_isKey 114 = .ok (.goto 12, 3) := by decide +kernel
theorem dL_isKey_117 : decode cL_isKey 117 = .ok (.aload_n 1, 1) := by decide +kernel
theorem dL_isKey_118 : decode cL_isKey 118 = .ok (.iload 14, 2) := by decide +kernel
theorem dL_isKey_120 : decode cL_isKey 120 = .ok (.invokestatic 54, 3) := by decide +kernel
theorem dL_isKey_123 : decode cL_isKey 123 = .ok (.iload 15, 2) := by decide +kernel
theorem dL_isKey_125 : decode cL_isKey 125 = .ok (.imul, 1) := by decide +kernel
theorem dL_isKey_126 : decode cL_isKey 126 = .ok (.iadd, 1) := by decide +kernel
theorem dL_isKey_127 : decode cL_isKey 127 = .ok (.istore 9, 2) := by decide +kernel
theorem dL_isKey_129 : decode cL_isKey 129 = .ok (.iload 8, 2) := by decide +kernel
theorem dL_isKey_131 : decode cL_isKey 131 = .ok (.iload 15, 2) := by decide +kernel
theorem dL_isKey_133 : decode cL_isKey 133 = .ok (.ldc 21, 2) := by decide +kernel
theorem dL_isKey_135 : decode cL_isKey 135 = .ok (.if_icmp .ne 7, 3) := by decide +kernel
theorem dL_isKey_138 : decode cL_isKey 138 = .ok (.iconst 0, 1) := by decide +kernel
theorem dL_isKey_139 : decode cL_isKey 139 = .ok (.goto 16, 3) := by decide +kernel
theorem dL_isKey_142 : decode cL_isKey 142 = .ok (.aload_n 0, 1) := by decide +kernel
theorem dL_isKey_143 : decode cL_isKey 143 = .ok (.iconst 1, 1) := by decide +kernel
theorem dL_isKey_144 : decode cL_isKey 144 = .ok (.iload 14, 2) := by decide +kernel
theorem dL_isKey_146 : decode cL_isKey 146 = .ok (.iload 4, 2) := by decide +kernel
theorem dL_isKey_148 : decode cL_isKey 148 = .ok (.iload 5, 2) := by decide +kernel
theorem dL_isKey_150 : decode cL_isKey 150 = .ok (.iload 6, 2) := by decide +kernel
theorem dL_isKey_152 : decode cL_isKey 152 = .ok (.invokestatic 41, 3) := by decide +kernel
theorem dL_isKey_155 : decode cL_isKey 155 = .ok (.iadd, 1) := by decide +kernel
theorem dL_isKey_156 : decode cL_isKey 156 = .ok (.istore 8, 2) := by decide +kernel
theorem dL_isKey_158 : decode cL_isKey 158 = .ok (.iload 10, 2) := by decide +kernel
theorem dL_isKey_160 : decode cL_isKey 160 = .ok (.iload 15, 2) := by decide +kernel
theorem dL_isKey_162 : decode cL_isKey 162 = .ok (.ldc 21, 2) := by decide +kernel
theorem dL_isKey_164 : decode cL_isKey 164 = .ok (.if_icmp .ne 7, 3) := by decide +kernel
theorem dL_isKey_167 : decode cL_isKey 167 = .ok (.iconst 0, 1) := by decide +kernel
theorem dL_isKey_168 : decode cL_isKey 168 = .ok (.goto 4, 3) := by decide +kernel
theorem dL_isKey_171 : decode cL_isKey 171 = .ok (.iconst 1, 1) := by decide +kernel
theorem dL_isKey_172 : decode cL_isKey 172 = .ok (.iadd, 1) := by decide +kernel
theorem dL_isKey_173 : decode cL_isKey 173 = .ok (.istore 10, 2) := by decide +kernel
theorem dL_isKey_175 : decode cL_isKey 175 = .ok (.iload 11, 2) := by decide +kernel
theorem dL_isKey_177 : decode cL_isKey 177 = .ok (.iload 16, 2) := by decide +kernel
theorem dL_isKey_179 : decode cL_isKey 179 = .ok (.ldc 21, 2) := by decide +kernel
theorem dL_isKey_181 : decode cL_isKey 181 = .ok (.if_icmp .ne 7, 3) := by decide +kernel
theorem dL_isKey_184 : decode cL_isKey 184 = .ok (.iconst 0, 1) := by decide +kernel
theorem dL_isKey_185 : decode cL_isKey 185 = .ok (.goto 12, 3) := by decide +kernel
theorem dL_isKey_188 : decode cL_isKey 188 = .ok (.aload_n 1, 1) := by decide +kernel
theorem dL_isKey_189 : decode cL_isKey 189 = .ok (.iload 14, 2) := by decide +kernel
theorem dL_isKey_191 : decode cL_isKey 191 = .ok (.invokestatic 54, 3) := by decide +kernel
theorem dL_isKey_194 : decode cL_isKey 194 = .ok (.iload 16, 2) := by decide +kernel
theorem dL_isKey_196 : decode cL_isKey 196 = .ok (.imul, 1) := by decide +kernel
theorem dL_isKey_197 : decode cL_isKey 197 = .ok (.iadd, 1) := by decide +kernel
theorem dL_isKey_198 : decode cL_isKey 198 = .ok (.istore 11, 2) := by decide +kernel
theorem dL_isKey_200 : decode cL_isKey 200 = .ok (.iload 12, 2) := by decide +kernel
theorem dL_isKey_202 : decode cL_isKey 202 = .ok (.iload 16, 2) := by decide +kernel
theorem dL_isKey_204 : decode cL_isKey 204 = .ok (.ldc 21, 2) := by decide +kernel
theorem dL_isKey_206 : decode cL_isKey 206 = .ok (.if_icmp .ne 7, 3) := by decide +kernel
theorem dL_isKey_209 : decode cL_isKey 209 = .ok (.iconst 0, 1) := by decide +kernel
theorem dL_isKey_210 : decode cL_isKey 210 = .ok (.goto 4, 3) := by decide +kernel
theorem dL_isKey_213 : decode cL_isKey 213 = .ok (.iconst 1, 1) := by decide +kernel
theorem dL_isKey_214 : decode cL_isKey 214 = .ok (.iadd, 1) := by decide +kernel
theorem dL_isKey_215 : decode cL_isKey 215 = .ok (.istore 12, 2) := by decide +kernel
theorem dL_isKey_217 : decode cL_isKey 217 = .ok (.iinc 13 1, 3) := by decide +kernel
theorem dL_isKey_220 : decode cL_isKey 220 = .ok (.iinc 14 1, 3) := by decide +kernel
theorem dL_isKey_223 : decode cL_isKey 223 = .ok (.goto (-166), 3) := by decide +kernel
theorem dL_isKey_226 : decode cL_isKey 226 = .ok (.iload 7, 2) := by decide +kernel
theorem dL_isKey_228 : decode cL_isKey 228 = .ok (.ldc 21, 2) := by decide +kernel
theorem dL_isKey_230 : decode cL_isKey 230 = .ok (.if_icmp .eq 24, 3) := by decide +kernel
theorem dL_isKey_233 : decode cL_isKey 233 = .ok (.iload 10, 2) := by decide +kernel
theorem dL_isKey_235 : decode cL_isKey 235 = .ok (.ifCond .le 19, 3) := by decide +kernel
theorem dL_isKey_238 : decode cL_isKey 238 = .ok (.iload 7, 2) := by decide +kernel
theorem dL_isKey_240 : decode cL_isKey 240 = .ok (.iload 9, 2) := by decide +kernel
theorem dL_isKey_242 : decode cL_isKey 242 = .ok (.iload 8, 2) := by decide +kernel
theorem dL_isKey_244 : decode cL_isKey 244 = .ok (.invokestatic 57, 3) := by decide +kernel
theorem dL_isKey_247 : decode cL_isKey 247 = .ok (.ifCond .eq 7, 3) := by decide +kernel
theorem dL_isKey_250 : decode cL_isKey 250 = .ok (.iconst 1, 1) := by decide +kernel
theorem dL_isKey_251 : decode cL_isKey 251 = .ok (.goto 4, 3) := by decide +kernel
theorem dL_isKey_254 : decode cL_isKey 254 = .ok (.iconst 0, 1) := by decide +kernel
theorem dL_isKey_255 : decode cL_isKey 255 = .ok (.istore 14, 2) := by decide +kernel
theorem dL_isKey_257 : decode cL_isKey 257 = .ok (.iload 7, 2) := by decide +kernel
theorem dL_isKey_259 : decode cL_isKey 259 = .ok (.ldc 21, 2) := by decide +kernel
theorem dL_isKey_261 : decode cL_isKey 261 = .ok (.if_icmp .eq 8, 3) := by decide +kernel
theorem dL_isKey_264 : decode cL_isKey 264 = .ok (.iload 7, 2) := by decide +kernel
theorem dL_isKey_266 : decode cL_isKey 266 = .ok (.goto 22, 3) := by decide +kernel
theorem dL_isKey_269 : decode cL_isKey 269 = .ok (.iload 13, 2) := by decide +kernel
theorem dL_isKey_271 : decode cL_isKey 271 = .ok (.ifCond .le 15, 3) := by decide +kernel
theorem dL_isKey_274 : decode cL_isKey 274 = .ok (.iload 12, 2) := by decide +kernel
theorem dL_isKey_276 : decode cL_isKey 276 = .ok (.iload 13, 2) := by decide +kernel
theorem dL_isKey_278 : decode cL_isKey 278 = .ok (.if_icmp .ne 8, 3) := by decide +kernel
theorem dL_isKey_281 : decode cL_isKey 281 = .ok (.iload 11, 2) := by decide +kernel
theorem dL_isKey_283 : decode cL_isKey 283 = .ok (.goto 5, 3) := by decide +kernel
theorem dL_isKey_286 : decode cL_isKey 286 = .ok (.ldc 21, 2) := by decide +kernel
theorem dL_isKey_288 : decode cL_isKey 288 = .ok (.istore 15, 2) := by decide +kernel
theorem dL_isKey_290 : decode cL_isKey 290 = .ok (.aload_n 0, 1) := by decide +kernel
theorem dL_isKey_291 : decode cL_isKey 291 = .ok (.iload_n 3, 1) := by decide +kernel
theorem dL_isKey_292 : decode cL_isKey 292 = .ok (.iload 4, 2) := by decide +kernel
theorem dL_isKey_294 : decode cL_isKey 294 = .ok (.iload 5, 2) := by decide +kernel
theorem dL_isKey_296 : decode cL_isKey 296 = .ok (.iload 6, 2) := by decide +kernel
theorem dL_isKey_298 : decode cL_isKey 298 = .ok (.invokevirtual 61, 3) := by decide +kernel
theorem dL_isKey_301 : decode cL_isKey 301 = .ok (.iload 9, 2) := by decide +kernel
theorem dL_isKey_303 : decode cL_isKey 303 = .ok (.if_icmp .ne 76, 3) := by decide +kernel
theorem dL_isKey_306 : decode cL_isKey 306 = .ok (.aload_n 0, 1) := by decide +kernel
theorem dL_isKey_307 : decode cL_isKey 307 = .ok (.iload_n 3, 1) := by decide +kernel
theorem dL_isKey_308 : decode cL_isKey 308 = .ok (.iload 4, 2) := by decide +kernel
theorem dL_isKey_310 : decode cL_isKey 310 = .ok (.iload 5, 2) := by decide +kernel
theorem dL_isKey_312 : decode cL_isKey 312 = .ok (.iload 6, 2) := by decide +kernel
theorem dL_isKey_314 : decode cL_isKey 314 = .ok (.invokevirtual 64, 3) := by decide +kernel
theorem dL_isKey_317 : decode cL_isKey 317 = .ok (.iload 14, 2) := by decide +kernel
theorem dL_isKey_319 : decode cL_isKey 319 = .ok (.if_icmp .ne 60, 3) := by decide +kernel
theorem dL_isKey_322 : decode cL_isKey 322 = .ok (.aload_n 0, 1) := by decide +kernel
theorem dL_isKey_323 : decode cL_isKey 323 = .ok (.iload_n 3, 1) := by decide +kernel
theorem dL_isKey_324 : decode cL_isKey 324 = .ok (.iload 4, 2) := by decide +kernel
theorem dL_isKey_326 : decode cL_isKey 326 = .ok (.iload 5, 2) := by decide +kernel
theorem dL_isKey_328 : decode cL_isKey 328 = .ok (.iload 6, 2) := by decide +kernel
theorem dL_isKey_330 : decode cL_isKey 330 = .ok (.invokestatic 51, 3) := by decide +kernel
theorem dL_isKey_333 : decode cL_isKey 333 = .ok (.iload 15, 2) := by decide +kernel
theorem dL_isKey_335 : decode cL_isKey 335 = .ok (.if_icmp .ne 44, 3) := by decide +kernel
theorem dL_isKey_338 : decode cL_isKey 338 = .ok (.iload 7, 2) := by decide +kernel
theorem dL_isKey_340 : decode cL_isKey 340 = .ok (.ldc 21, 2) := by decide +kernel
theorem dL_isKey_342 : decode cL_isKey 342 = .ok (.if_icmp .ne 7, 3) := by decide +kernel
theorem dL_isKey_345 : decode cL_isKey 345 = .ok (.iconst 1, 1) := by decide +kernel
theorem dL_isKey_346 : decode cL_isKey 346 = .ok (.goto 4, 3) := by decide +kernel
theorem dL_isKey_349 : decode cL_isKey 349 = .ok (.iconst 0, 1) := by decide +kernel
theorem dL_isKey_350 : decode cL_isKey 350 = .ok (.aload_n 0, 1) := by decide +kernel
theorem dL_isKey_351 : decode cL_isKey 351 = .ok (.iconst 1, 1) := by decide +kernel
theorem dL_isKey_352 : decode cL_isKey 352 = .ok (.iload_n 3, 1) := by decide +kernel
theorem dL_isKey_353 : decode cL_isKey 353 = .ok (.iload 4, 2) := by decide +kernel
theorem dL_isKey_355 : decode cL_isKey 355 = .ok (.iload 5, 2) := by decide +kernel
theorem dL_isKey_357 : decode cL_isKey 357 = .ok (.iload 6, 2) := by decide +kernel
theorem dL_isKey_359 : decode cL_isKey 359 = .ok (.invokestatic 41, 3) := by decide +kernel
theorem dL_isKey_362 : decode cL_isKey 362 = .ok (.ldc 21, 2) := by decide +kernel
theorem dL_isKey_364 : decode cL_isKey 364 = .ok (.if_icmp .ne 7, 3) := by decide +kernel
theorem dL_isKey_367 : decode cL_isKey 367 = .ok (.iconst 1, 1) := by decide +kernel
theorem dL_isKey_368 : decode cL_isKey 368 = .ok (.goto 4, 3) := by decide +kernel
theorem dL_isKey_371 : decode cL_isKey 371 = .ok (.iconst 0, 1) := by decide +kernel
theorem dL_isKey_372 : decode cL_isKey 372 = .ok (.if_icmp .ne 7, 3) := by decide +kernel
theorem dL_isKey_375 : decode cL_isKey 375 = .ok (.iconst 1, 1) := by decide +kernel
theorem dL_isKey_376 : decode cL_isKey 376 = .ok (.goto 4, 3) := by decide +kernel
theorem dL_isKey_379 : decode cL_isKey 379 = .ok (.iconst 0, 1) := by decide +kernel
theorem dL_isKey_380 : decode cL_isKey 380 = .ok (.ireturn, 1) := by decide +kernel
set_option maxRecDepth 20000 in
theorem ggL_areMembers_L_held : GoodIn wsL_areMembers wsL_held := goodIn_ca (goodIn_ca (goodIn_r _ [5, 6, 1, 7, 8, 9, 10, 11, 12, 13, 14, 15, 16, 17, 18, 19, 20, 21, 22, 23, 24, 25, 26, 27, 28, 29, 30, 31, 32, 33, 34, 35, 36, 37, 38, 39, 40, 41, 42, 43, 44, 45, 46, 47, 48, 49, 50, 51, 52, 53, 54, 90, 91, 92, 93, 94, 95, 96, 97, 98, 99, 100, 101, 102, 103, 104, 105, 106] (by decide +kernel) (by decide +kernel)) (goodIn_sub (fun _ h => List.mem_cons_of_mem _ (List.mem_append_left _ (List.mem_append_right _ h))) (by decide +kernel))) (goodIn_sub (fun _ h => List.mem_cons_of_mem _ (List.mem_append_right _ h)) (by decide +kernel))
set_option maxRecDepth 20000 in
theorem gL_areMembers_L_held : GoodIn wsL_areMembers (va_wsS RL 41 yL_held wsL_held) := goodIn_app (goodIn_of _ (by decide +kernel)) ggL_areMembers_L_held
set_option maxRecDepth 20000 in
theorem ggL_areMembers_X4_areMembersOff : GoodIn wsL_areMembers wsX4_areMembersOff := goodIn_ca (goodIn_r _ [58, 19, 20, 21, 22, 10, 23, 24, 25, 26, 27, 28, 29, 30, 31, 32, 33, 34, 35, 36, 37, 38, 59, 60, 61, 12, 54, 39, 40, 41, 62, 63, 64, 43, 45, 46, 47, 48, 49, 65, 66, 67, 68, 69, 70, 71, 72, 73, 74, 75, 76, 77, 78, 79, 80, 81, 82, 83, 84, 85, 86, 95, 96, 97, 98, 99, 100, 101, 102, 103, 104, 105, 90, 91, 92, 93, 94, 106, 107, 108] (by decide +kernel) (by decide +kernel)) (goodIn_sub (fun _ h => List.mem_cons_of_mem _ (List.mem_append_right _ h)) (by decide +kernel))
set_option maxRecDepth 20000 in
theorem gL_areMembers_X4_areMembersOff : GoodIn wsL_areMembers (wsV RL 68 RX4 yX4_areMembersOff wsX4_areMembersOff) := goodIn_app (goodIn_of _ (by decide +kernel)) ggL_areMembers_X4_areMembersOff
set_option maxRecDepth 20000 in
theorem ggL_areMembers_L_isFar : GoodIn wsL_areMembers wsL_isFar := goodIn_r _ [89] (by decide +kernel) (by decide +kernel)
set_option maxRecDepth 20000 in
theorem gL_areMembers_L_isFar : GoodIn wsL_areMembers (va_wsS RL 57 yL_isFar wsL_isFar) := goodIn_app (goodIn_of _ (by decide +kernel)) ggL_areMembers_L_isFar
theorem dL_areMembers_0 : decode cL_areMembers 0 = .ok (.iconst 0, 1) := by decide +kernel
theorem dL_areMembers_1 : decode cL_areMembers 1 = .ok (.istore 4, 2) := by decide +kernel
theorem dL_areMembers_3 : decode cL_areMembers 3 = .ok (.iconst 0, 1) := by decide +kernel
theorem dL_areMembers_4 : decode cL_areMembers 4 = .ok (.istore 5, 2) := by decide +kernel
theorem dL_areMembers_6 : decode cL_areMembers 6 = .ok (.iconst 1, 1) := by decide +kernel
theorem dL_areMembers_7 : decode cL_areMembers 7 = .ok (.istore 6, 2) := by decide +kernel
theorem dL_areMembers_9 : decode cL_areMembers 9 = .ok (.iconst 0, 1) := by decide +kernel
theorem dL_areMembers_10 : decode cL_areMembers 10 = .ok (.istore 7, 2) := by decide +kernel
theorem dL_areMembers_12 : decode cL_areMembers 12 = .ok (.iload 7, 2) := by decide +kernel
theorem dL_areMembers_14 : decode cL_areMembers 14 = .ok (.iconst 4, 1) := by decide +kernel
theorem dL_areMembers_15 : decode cL_areMembers 15 = .ok (.if_icmp .ge 89, 3) := by decide +kernel
theorem dL_areMembers_18 : decode cL_areMembers 18 = .ok (.aload_n 0, 1) := by decide +kernel
theorem dL_areMembers_19 : decode cL_areMembers 19 = .ok (.iconst 0, 1) := by decide +kernel
theorem dL_areMembers_20 : decode cL_areMembers 20 = .ok (.iload_n 1, 1) := by decide +kernel
theorem dL_areMembers_21 : decode cL_areMembers 21 = .ok (.iload_n 2, 1) := by decide +kernel
theorem dL_areMembers_22 : decode cL_areMembers 22 = .ok (.iload 7, 2) := by decide +kernel
theorem dL_areMembers_24 : decode cL_areMembers 24 = .ok (.iload_n 3, 1) := by decide +kernel
theorem dL_areMembers_25 : decode cL_areMembers 25 = .ok (.invokestatic 41, 3) := by decide +kernel
theorem dL_areMembers_28 : decode cL_areMembers 28 = .ok (.istore 8, 2) := by decide +kernel
theorem dL_areMembers_30 : decode cL_areMembers 30 = .ok (.iload 6, 2) := by decide +kernel
theorem dL_areMembers_32 : decode cL_areMembers 32 = .ok (.ifCond .eq 14, 3) := by decide +kernel
theorem dL_areMembers_35 : decode cL_areMembers 35 = .ok (.iload 8, 2) := by decide +kernel
theorem dL_areMembers_37 : decode cL_areMembers 37 = .ok (.ldc 21, 2) := by decide +kernel
theorem dL_areMembers_39 : decode cL_areMembers 39 = .ok (.if_icmp .eq 7, 3) := by decide +kernel
theorem dL_areMembers_42 : decode cL_areMembers 42 = .ok (.iconst 1, 1) := by decide +kernel
theorem dL_areMembers_43 : decode cL_areMembers 43 = .ok (.goto 4, 3) := by decide +kernel
theorem dL_areMembers_46 : decode cL_areMembers 46 = .ok (.iconst 0, 1) := by decide +kernel
theorem dL_areMembers_47 : decode cL_areMembers 47 = .ok (.istore 6, 2) := by decide +kernel
theorem dL_areMembers_49 : decode cL_areMembers 49 = .ok (.iload 4, 2) := by decide +kernel
theorem dL_areMembers_51 : decode cL_areMembers 51 = .ok (.iload 7, 2) := by decide +kernel
theorem dL_areMembers_53 : decode cL_areMembers 53 = .ok (.ifCond .eq 10, 3) := by decide +kernel
theorem dL_areMembers_56 : decode cL_areMembers 56 = .ok (.iload 8, 2) := by decide +kernel
theorem dL_areMembers_58 : decode cL_areMembers 58 = .ok (.ldc 21, 2) := by decide +kernel
theorem dL_areMembers_60 : decode cL_areMembers 60 = .ok (.if_icmp .ne 7, 3) := by decide +kernel
theorem dL_areMembers_63 : decode cL_areMembers 63 = .ok (.iconst 0, 1) := by decide +kernel
theorem dL_areMembers_64 : decode cL_areMembers 64 = .ok (.goto 5, 3) := by decide +kernel
theorem dL_areMembers_67 : decode cL_areMembers 67 = .ok (.iload 8, 2) := by decide +kernel
theorem dL_areMembers_69 : decode cL_areMembers 69 = .ok (.iadd, 1) := by decide +kernel
theorem dL_areMembers_70 : decode cL_areMembers 70 = .ok (.istore 4, 2) := by decide +kernel
theorem dL_areMembers_72 : decode cL_areMembers 72 = .ok (.iload 5, 2) := by decide +kernel
theorem dL_areMembers_74 : decode cL_areMembers 74 = .ok (.iload 8, 2) := by decide +kernel
theorem dL_areMembers_76 : decode cL_areMembers 76 = .ok (.ldc 21, 2) := by decide +kernel
theorem dL_areMembers_78 : decode cL_areMembers 78 = .ok (.if_icmp .ne 7, 3) := by decide +kernel
theorem dL_areMembers_81 : decode cL_areMembers 81 = .ok (.iconst 0, 1) := by decide +kernel
theorem dL_areMembers_82 : decode cL_areMembers 82 = .ok (.goto 13, 3) := by decide +kernel
theorem dL_areMembers_85 : decode cL_areMembers 85 = .ok (.aload_n 0, 1) := by decide +kernel
theorem dL_areMembers_86 : decode cL_areMembers 86 = .ok (.iconst 1, 1) := by decide +kernel
theorem dL_areMembers_87 : decode cL_areMembers 87 = .ok (.iload_n 1, 1) := by decide +kernel
theorem dL_areMembers_88 : decode cL_areMembers 88 = .ok (.iload_n 2, 1) := by decide +kernel
theorem dL_areMembers_89 : decode cL_areMembers 89 = .ok (.iload 7, 2) := by decide +kernel
theorem dL_areMembers_91 : decode cL_areMembers 91 = .ok (.iload_n 3, 1) := by decide +kernel
theorem dL_areMembers_92 : decode cL_areMembers 92 = .ok (.invokestatic 41, 3) := by decide +kernel
theorem dL_areMembers_95 : decode cL_areMembers 95 = .ok (.iadd, 1) := by decide +kernel
theorem dL_areMembers_96 : decode cL_areMembers 96 = .ok (.istore 5, 2) := by decide +kernel
theorem dL_areMembers_98 : decode cL_areMembers 98 = .ok (.iinc 7 1, 3) := by decide +kernel
theorem dL_areMembers_101 : decode cL_areMembers 101 = .ok (.goto (-89), 3) := by decide +kernel
theorem dL_areMembers_104 : decode cL_areMembers 104 = .ok (.aload_n 0, 1) := by decide +kernel
theorem dL_areMembers_105 : decode cL_areMembers 105 = .ok (.iload_n 1, 1) := by decide +kernel
theorem dL_areMembers_106 : decode cL_areMembers 106 = .ok (.iload_n 2, 1) := by decide +kernel
theorem dL_areMembers_107 : decode cL_areMembers 107 = .ok (.iload_n 3, 1) := by decide +kernel
theorem dL_areMembers_108 : decode cL_areMembers 108 = .ok (.invokevirtual 68, 3) := by decide +kernel
theorem dL_areMembers_111 : decode cL_areMembers 111 = .ok (.iload 6, 2) := by decide +kernel
theorem dL_areMembers_113 : decode cL_areMembers 113 = .ok (.ifCond .eq 26, 3) := by decide +kernel
theorem dL_areMembers_116 : decode cL_areMembers 116 = .ok (.aload_n 0, 1) := by decide +kernel
theorem dL_areMembers_117 : decode cL_areMembers 117 = .ok (.iconst 0, 1) := by decide +kernel
theorem dL_areMembers_118 : decode cL_areMembers 118 = .ok (.iload_n 1, 1) := by decide +kernel
theorem dL_areMembers_119 : decode cL_areMembers 119 = .ok (.iload_n 2, 1) := by decide +kernel
theorem dL_areMembers_120 : decode cL_areMembers 120 = .ok (.iconst 0, 1) := by decide +kernel
theorem dL_areMembers_121 : decode cL_areMembers 121 = .ok (.iload_n 3, 1) := by decide +kernel
theorem dL_areMembers_122 : decode cL_areMembers 122 = .ok (.invokestatic 41, 3) := by decide +kernel
theorem dL_areMembers_125 : decode cL_areMembers 125 = .ok (.iload 4, 2) := by decide +kernel
theorem dL_areMembers_127 : decode cL_areMembers 127 = .ok (.iload 5, 2) := by decide +kernel
theorem dL_areMembers_129 : decode cL_areMembers 129 = .ok (.invokestatic 57, 3) := by decide +kernel
theorem dL_areMembers_132 : decode cL_areMembers 132 = .ok (.ifCond .eq 7, 3) := by decide +kernel
theorem dL_areMembers_135 : decode cL_areMembers 135 = .ok (.iconst 1, 1) := by decide +kernel
theorem dL_areMembers_136 : decode cL_areMembers 136 = .ok (.goto 4, 3) := by decide +kernel
theorem dL_areMembers_139 : decode cL_areMembers 139 = .ok (.iconst 0, 1) := by decide +kernel
theorem dL_areMembers_140 : decode cL_areMembers 140 = .ok (.if_icmp .ne 7, 3) := by decide +kernel
theorem dL_areMembers_143 : decode cL_areMembers 143 = .ok (.iconst 1, 1) := by decide +kernel
theorem dL_areMembers_144 : decode cL_areMembers 144 = .ok (.goto 4, 3) := by decide +kernel
theorem dL_areMembers_147 : decode cL_areMembers 147 = .ok (.iconst 0, 1) := by decide +kernel
theorem dL_areMembers_148 : decode cL_areMembers 148 = .ok (.ireturn, 1) := by decide +kernel
set_option maxRecDepth 20000 in
theorem ggL_isRoll_X4_isRollOff : GoodIn wsL_isRoll wsX4_isRollOff := goodIn_ca (goodIn_r _ [6, 7, 8, 9, 10, 11, 12, 5, 13, 14, 15, 16, 17, 18, 19, 20, 21, 22, 23, 24, 25, 26, 27, 28, 29, 30, 31, 32, 33, 34, 35, 36, 37, 38, 39, 40, 41, 42, 43, 44, 45, 46, 47, 48, 49, 50, 51, 52, 53, 54, 55, 56, 57, 58, 59, 60, 94, 95, 96, 97, 98, 99, 100, 101, 102, 103, 104, 105, 106, 107, 108, 109, 110, 111, 112] (by decide +kernel) (by decide +kernel)) (goodIn_sub (fun _ h => List.mem_cons_of_mem _ (List.mem_append_left _ (List.mem_append_right _ h))) (by decide +kernel))
set_option maxRecDepth 20000 in
theorem gL_isRoll_X4_isRollOff : GoodIn wsL_isRoll (wsV RL 71 RX4 yX4_isRollOff wsX4_isRollOff) := goodIn_app (goodIn_of _ (by decide +kernel)) ggL_isRoll_X4_isRollOff
set_option maxRecDepth 20000 in
theorem ggL_isRoll_L_held : GoodIn wsL_isRoll wsL_held := goodIn_ca (goodIn_ca (goodIn_r _ [64, 65, 1, 66, 67, 68, 5, 69, 26, 70, 71, 72, 73, 74, 75, 10, 76, 77, 78, 79, 80, 81, 82, 83, 7, 8, 84, 11, 12, 13, 14, 15, 16, 17, 18, 27, 28, 29, 85, 33, 86, 34, 35, 36, 37, 38, 87, 88, 89, 90, 25, 105, 106, 107, 108, 109, 94, 95, 96, 97, 98, 99, 100, 101, 102, 103, 104, 110] (by decide +kernel) (by decide +kernel)) (goodIn_sub (fun _ h => List.mem_cons_of_mem _ (List.mem_append_right _ h)) (by decide +kernel))) (goodIn_sub (fun _ h => List.mem_cons_of_mem _ (List.mem_append_left _ (List.mem_append_right _ h))) (by decide +kernel))
set_option maxRecDepth 20000 in
theorem gL_isRoll_L_held : GoodIn wsL_isRoll (va_wsS RL 41 yL_held wsL_held) := goodIn_app (goodIn_of _ (by decide +kernel)) ggL_isRoll_L_held
set_option maxRecDepth 20000 in
theorem ggL_isRoll_L_isFar : GoodIn wsL_isRoll wsL_isFar := goodIn_r _ [93] (by decide +kernel) (by decide +kernel)
set_option maxRecDepth 20000 in
theorem gL_isRoll_L_isFar : GoodIn wsL_isRoll (va_wsS RL 57 yL_isFar wsL_isFar) := goodIn_app (goodIn_of _ (by decide +kernel)) ggL_isRoll_L_isFar
theorem dL_isRoll_0 : decode cL_isRoll 0 = .ok (.iload_n 3, 1) := by decide +kernel
theorem dL_isRoll_1 : decode cL_isRoll 1 = .ok (.ifCond .ne 22, 3) := by decide +kernel
theorem dL_isRoll_4 : decode cL_isRoll 4 = .ok (.aload_n 0, 1) := by decide +kernel
theorem dL_isRoll_5 : decode cL_isRoll 5 = .ok (.iload_n 2, 1) := by decide +kernel
theorem dL_isRoll_6 : decode cL_isRoll 6 = .ok (.iconst 0, 1) := by decide +kernel
theorem dL_isRoll_7 : decode cL_isRoll 7 = .ok (.iload 4, 2) := by decide +kernel
theorem dL_isRoll_9 : decode cL_isRoll 9 = .ok (.iload 5, 2) := by decide +kernel
theorem dL_isRoll_11 : decode cL_isRoll 11 = .ok (.invokevirtual 71, 3) := by decide +kernel
theorem dL_isRoll_14 : decode cL_isRoll 14 = .ok (.ifCond .ne 7, 3) := by decide +kernel
theorem dL_isRoll_17 : decode cL_isRoll 17 = .ok (.iconst 1, 1) := by decide +kernel
theorem dL_isRoll_18 : decode cL_isRoll 18 = .ok (.goto 4, 3) := by decide +kernel
theorem dL_isRoll_21 : decode cL_isRoll 21 = .ok (.iconst 0, 1) := by decide +kernel
theorem dL_isRoll_22 : decode cL_isRoll 22 = .ok (.ireturn, 1) := by decide +kernel
theorem dL_isRoll_23 : decode cL_isRoll 23 = .ok (.aload_n 0, 1) := by decide +kernel
theorem dL_isRoll_24 : decode cL_isRoll 24 = .ok (.iconst 0, 1) := by decide +kernel
theorem dL_isRoll_25 : decode cL_isRoll 25 = .ok (.aload_n 1, 1) := by decide +kernel
theorem dL_isRoll_26 : decode cL_isRoll 26 = .ok (.iconst 2, 1) := by decide +kernel
theorem dL_isRoll_27 : decode cL_isRoll 27 = .ok (.iload_n 2, 1) := by decide +kernel
theorem dL_isRoll_28 : decode cL_isRoll 28 = .ok (.imul, 1) := by decide +kernel
theorem dL_isRoll_29 : decode cL_isRoll 29 = .ok (.iaload, 1) := by decide +kernel
theorem dL_isRoll_30 : decode cL_isRoll 30 = .ok (.iload_n 3, 1) := by decide +kernel
theorem dL_isRoll_31 : decode cL_isRoll 31 = .ok (.iload 4, 2) := by decide +kernel
theorem dL_isRoll_33 : decode cL_isRoll 33 = .ok (.iload 5, 2) := by decide +kernel
theorem dL_isRoll_35 : decode cL_isRoll 35 = .ok (.invokestatic 41, 3) := by decide +kernel
theorem dL_isRoll_38 : decode cL_isRoll 38 = .ok (.istore 6, 2) := by decide +kernel
theorem dL_isRoll_40 : decode cL_isRoll 40 = .ok (.aload_n 0, 1) := by decide +kernel
theorem dL_isRoll_41 : decode cL_isRoll 41 = .ok (.iconst 0, 1) := by decide +kernel
theorem dL_isRoll_42 : decode cL_isRoll 42 = .ok (.aload_n 1, 1) := by decide +kernel
theorem dL_isRoll_43 : decode cL_isRoll 43 = .ok (.iconst 2, 1) := by decide +kernel
theorem dL_isRoll_44 : decode cL_isRoll 44 = .ok (.iload_n 2, 1) := by decide +kernel
theorem dL_isRoll_45 : decode cL_isRoll 45 = .ok (.imul, 1) := by decide +kernel
theorem dL_isRoll_46 : decode cL_isRoll 46 = .ok (.iaload, 1) := by decide +kernel
theorem dL_isRoll_47 : decode cL_isRoll 47 = .ok (.iload_n 3, 1) := by decide +kernel
theorem dL_isRoll_48 : decode cL_isRoll 48 = .ok (.iconst 1, 1) := by decide +kernel
theorem dL_isRoll_49 : decode cL_isRoll 49 = .ok (.isub, 1) := by decide +kernel
theorem dL_isRoll_50 : decode cL_isRoll 50 = .ok (.iload 4, 2) := by decide +kernel
theorem dL_isRoll_52 : decode cL_isRoll 52 = .ok (.iload 5, 2) := by decide +kernel
theorem dL_isRoll_54 : decode cL_isRoll 54 = .ok (.invokestatic 41, 3) := by decide +kernel
theorem dL_isRoll_57 : decode cL_isRoll 57 = .ok (.istore 7, 2) := by decide +kernel
theorem dL_isRoll_59 : decode cL_isRoll 59 = .ok (.aload_n 0, 1) := by decide +kernel
theorem dL_isRoll_60 : decode cL_isRoll 60 = .ok (.iconst 0, 1) := by decide +kernel
theorem dL_isRoll_61 : decode cL_isRoll 61 = .ok (.aload_n 1, 1) := by decide +kernel
theorem dL_isRoll_62 : decode cL_isRoll 62 = .ok (.iconst 2, 1) := by decide +kernel
theorem dL_isRoll_63 : decode cL_isRoll 63 = .ok (.iload_n 2, 1) := by decide +kernel
theorem dL_isRoll_64 : decode cL_isRoll 64 = .ok (.imul, 1) := by decide +kernel
theorem dL_isRoll_65 : decode cL_isRoll 65 = .ok (.iconst 1, 1) := by decide +kernel
theorem dL_isRoll_66 : decode cL_isRoll 66 = .ok (.iadd, 1) := by decide +kernel
theorem dL_isRoll_67 : decode cL_isRoll 67 = .ok (.iaload, 1) := by decide +kernel
theorem dL_isRoll_68 : decode cL_isRoll 68 = .ok (.iload_n 3, 1) := by decide +kernel
theorem dL_isRoll_69 : decode cL_isRoll 69 = .ok (.iload 4, 2) := by decide +kernel
theorem dL_isRoll_71 : decode cL_isRoll 71 = .ok (.iload 5, 2) := by decide +kernel
theorem dL_isRoll_73 : decode cL_isRoll 73 = .ok (.invokestatic 41, 3) := by decide +kernel
theorem dL_isRoll_76 : decode cL_isRoll 76 = .ok (.istore 8, 2) := by decide +kernel
theorem dL_isRoll_78 : decode cL_isRoll 78 = .ok (.iload 6, 2) := by decide +kernel
theorem dL_isRoll_80 : decode cL_isRoll 80 = .ok (.ldc 21, 2) := by decide +kernel
theorem dL_isRoll_82 : decode cL_isRoll 82 = .ok (.if_icmp .eq 21, 3) := by decide +kernel
theorem dL_isRoll_85 : decode cL_isRoll 85 = .ok (.iload 7, 2) := by decide +kernel
theorem dL_isRoll_87 : decode cL_isRoll 87 = .ok (.ldc 21, 2) := by decide +kernel
theorem dL_isRoll_89 : decode cL_isRoll 89 = .ok (.if_icmp .eq 14, 3) := by decide +kernel
theorem dL_isRoll_92 : decode cL_isRoll 92 = .ok (.iload 8, 2) := by decide +kernel
theorem dL_isRoll_94 : decode cL_isRoll 94 = .ok (.ldc 21, 2) := by decide +kernel
theorem dL_isRoll_96 : decode cL_isRoll 96 = .ok (.if_icmp .eq 7, 3) := by decide +kernel
theorem dL_isRoll_99 : decode cL_isRoll 99 = .ok (.iconst 1, 1) := by decide +kernel
theorem dL_isRoll_100 : decode cL_isRoll 100 = .ok (.goto 4, 3) := by decide +kernel
theorem dL_isRoll_103 : decode cL_isRoll 103 = .ok (.iconst 0, 1) := by decide +kernel
theorem dL_isRoll_104 : decode cL_isRoll 104 = .ok (.istore 9, 2) := by decide +kernel
theorem dL_isRoll_106 : decode cL_isRoll 106 = .ok (.aload_n 0, 1) := by decide +kernel
theorem dL_isRoll_107 : decode cL_isRoll 107 = .ok (.iconst 1, 1) := by decide +kernel
theorem dL_isRoll_108 : decode cL_isRoll 108 = .ok (.aload_n 1, 1) := by decide +kernel
theorem dL_isRoll_109 : decode cL_isRoll 109 = .ok (.iconst 2, 1) := by decide +kernel
theorem dL_isRoll_110 : decode cL_isRoll 110 = .ok (.iload_n 2, 1) := by decide +kernel
theorem dL_isRoll_111 : decode cL_isRoll 111 = .ok (.imul, 1) := by decide +kernel
theorem dL_isRoll_112 : decode cL_isRoll 112 = .ok (.iaload, 1) := by decide +kernel
theorem dL_isRoll_113 : decode cL_isRoll 113 = .ok (.iload_n 3, 1) := by decide +kernel
theorem dL_isRoll_114 : decode cL_isRoll 114 = .ok (.iload 4, 2) := by decide +kernel
theorem dL_isRoll_116 : decode cL_isRoll 116 = .ok (.iload 5, 2) := by decide +kernel
theorem dL_isRoll_118 : decode cL_isRoll 118 = .ok (.invokestatic 41, 3) := by decide +kernel
theorem dL_isRoll_121 : decode cL_isRoll 121 = .ok (.aload_n 0, 1) := by decide +kernel
theorem dL_isRoll_122 : decode cL_isRoll 122 = .ok (.iconst 1, 1) := by decide +kernel
theorem dL_isRoll_123 : decode cL_isRoll 123 = .ok (.aload_n 1, 1) := by decide +kernel
theorem dL_isRoll_124 : decode cL_isRoll 124 = .ok (.iconst 2, 1) := by decide +kernel
theorem dL_isRoll_125 : decode cL_isRoll 125 = .ok (.iload_n 2, 1) := by decide +kernel
theorem dL_isRoll_126 : decode cL_isRoll 126 = .ok (.imul, 1) := by decide +kernel
theorem dL_isRoll_127 : decode cL_isRoll 127 = .ok (.iaload, 1) := by decide +kernel
theorem dL_isRoll_128 : decode cL_isRoll 128 = .ok (.iload_n 3, 1) := by decide +kernel
theorem dL_isRoll_129 : decode cL_isRoll 129 = .ok (.iconst 1, 1) := by decide +kernel
theorem dL_isRoll_130 : decode cL_isRoll 130 = .ok (.isub, 1) := by decide +kernel
theorem dL_isRoll_131 : decode cL_isRoll 131 = .ok (.iload 4, 2) := by decide +kernel
theorem dL_isRoll_133 : decode cL_isRoll 133 = .ok (.iload 5, 2) := by decide +kernel
theorem dL_isRoll_135 : decode cL_isRoll 135 = .ok (.invokestatic 41, 3) := by decide +kernel
theorem dL_isRoll_138 : decode cL_isRoll 138 = .ok (.iadd, 1) := by decide +kernel
theorem dL_isRoll_139 : decode cL_isRoll 139 = .ok (.aload_n 0, 1) := by decide +kernel
theorem dL_isRoll_140 : decode cL_isRoll 140 = .ok (.iconst 1, 1) := by decide +kernel
theorem dL_isRoll_141 : decode cL_isRoll 141 = .ok (.aload_n 1, 1) := by decide +kernel
theorem dL_isRoll_142 : decode cL_isRoll 142 = .ok (.iconst 2, 1) := by decide +kernel
theorem dL_isRoll_143 : decode cL_isRoll 143 = .ok (.iload_n 2, 1) := by decide +kernel
theorem dL_isRoll_144 : decode cL_isRoll 144 = .ok (.imul, 1) := by decide +kernel
theorem dL_isRoll_145 : decode cL_isRoll 145 = .ok (.iconst 1, 1) := by decide +kernel
theorem dL_isRoll_146 : decode cL_isRoll 146 = .ok (.iadd, 1) := by decide +kernel
theorem dL_isRoll_147 : decode cL_isRoll 147 = .ok (.iaload, 1) := by decide +kernel
theorem dL_isRoll_148 : decode cL_isRoll 148 = .ok (.iload_n 3, 1) := by decide +kernel
theorem dL_isRoll_149 : decode cL_isRoll 149 = .ok (.iload 4, 2) := by decide +kernel
theorem dL_isRoll_151 : decode cL_isRoll 151 = .ok (.iload 5, 2) := by decide +kernel
theorem dL_isRoll_153 : decode cL_isRoll 153 = .ok (.invokestatic 41, 3) := by decide +kernel
theorem dL_isRoll_156 : decode cL_isRoll 156 = .ok (.iadd, 1) := by decide +kernel
theorem dL_isRoll_157 : decode cL_isRoll 157 = .ok (.istore 10, 2) := by decide +kernel
theorem dL_isRoll_159 : decode cL_isRoll 159 = .ok (.aload_n 0, 1) := by decide +kernel
theorem dL_isRoll_160 : decode cL_isRoll 160 = .ok (.iload_n 2, 1) := by decide +kernel
theorem dL_isRoll_161 : decode cL_isRoll 161 = .ok (.iload_n 3, 1) := by decide +kernel
theorem dL_isRoll_162 : decode cL_isRoll 162 = .ok (.iload 4, 2) := by decide +kernel
theorem dL_isRoll_164 : decode cL_isRoll 164 = .ok (.iload 5, 2) := by decide +kernel
theorem dL_isRoll_166 : decode cL_isRoll 166 = .ok (.invokevirtual 71, 3) := by decide +kernel
theorem dL_isRoll_169 : decode cL_isRoll 169 = .ok (.iload 9, 2) := by decide +kernel
theorem dL_isRoll_171 : decode cL_isRoll 171 = .ok (.ifCond .eq 22, 3) := by decide +kernel
theorem dL_isRoll_174 : decode cL_isRoll 174 = .ok (.iload 6, 2) := by decide +kernel
theorem dL_isRoll_176 : decode cL_isRoll 176 = .ok (.iload 7, 2) := by decide +kernel
theorem dL_isRoll_178 : decode cL_isRoll 178 = .ok (.iload 8, 2) := by decide +kernel
theorem dL_isRoll_180 : decode cL_isRoll 180 = .ok (.iadd, 1) := by decide +kernel
theorem dL_isRoll_181 : decode cL_isRoll 181 = .ok (.iload 10, 2) := by decide +kernel
theorem dL_isRoll_183 : decode cL_isRoll 183 = .ok (.invokestatic 57, 3) := by decide +kernel
theorem dL_isRoll_186 : decode cL_isRoll 186 = .ok (.ifCond .eq 7, 3) := by decide +kernel
theorem dL_isRoll_189 : decode cL_isRoll 189 = .ok (.iconst 1, 1) := by decide +kernel
theorem dL_isRoll_190 : decode cL_isRoll 190 = .ok (.goto 4, 3) := by decide +kernel
theorem dL_isRoll_193 : decode cL_isRoll 193 = .ok (.iconst 0, 1) := by decide +kernel
theorem dL_isRoll_194 : decode cL_isRoll 194 = .ok (.if_icmp .ne 7, 3) := by decide +kernel
theorem dL_isRoll_197 : decode cL_isRoll 197 = .ok (.iconst 1, 1) := by decide +kernel
theorem dL_isRoll_198 : decode cL_isRoll 198 = .ok (.goto 4, 3) := by decide +kernel
theorem dL_isRoll_201 : decode cL_isRoll 201 = .ok (.iconst 0, 1) := by decide +kernel
theorem dL_isRoll_202 : decode cL_isRoll 202 = .ok (.ireturn, 1) := by decide +kernel
set_option maxRecDepth 20000 in
theorem ggL_areFaults_X4_isSumOff : GoodIn wsL_areFaults wsX4_isSumOff := goodIn_ca (goodIn_r _ [5, 6, 7, 8, 9, 4, 10, 11, 12, 13, 14, 15, 16, 17, 18, 19, 20, 21, 22, 23, 24, 25, 26, 27, 28, 29, 30, 31, 32, 33, 34, 35, 36, 37, 38, 39, 40, 41, 42, 43, 44, 45, 46, 47, 48, 49, 50, 51, 52, 53, 54, 55, 56, 57, 58, 59, 60, 61, 62, 63, 64, 65, 66, 67, 68, 69, 70, 71, 110, 111, 112, 113, 114, 115, 116, 117, 118, 119, 120, 121, 122, 123, 124, 125, 126, 127, 128] (by decide +kernel) (by decide +kernel)) (goodIn_sub (fun _ h => List.mem_cons_of_mem _ (List.mem_append_right _ h)) (by decide +kernel))
set_option maxRecDepth 20000 in
theorem gL_areFaults_X4_isSumOff : GoodIn wsL_areFaults (wsV RL 64 RX4 yX4_isSumOff wsX4_isSumOff) := goodIn_app (goodIn_of _ (by decide +kernel)) ggL_areFaults_X4_isSumOff
set_option maxRecDepth 20000 in
theorem ggL_areFaults_X4_areMembersOff : GoodIn wsL_areFaults wsX4_areMembersOff := goodIn_ca (goodIn_r _ [75, 6, 7, 8, 9, 4, 10, 11, 12, 13, 14, 15, 16, 17, 18, 19, 20, 21, 22, 23, 24, 25, 76, 77, 78, 30, 32, 33, 34, 35, 36, 37, 38, 39, 40, 41, 42, 43, 44, 45, 46, 47, 48, 49, 50, 51, 52, 53, 54, 55, 56, 57, 58, 59, 65, 66, 67, 68, 69, 70, 71, 110, 111, 112, 113, 114, 115, 116, 117, 118, 119, 120, 121, 122, 123, 124, 125, 126, 127, 128] (by decide +kernel) (by decide +kernel)) (goodIn_sub (fun _ h => List.mem_cons_of_mem _ (List.mem_append_right _ h)) (by decide +kernel))
set_option maxRecDepth 20000 in
theorem gL_areFaults_X4_areMembersOff : GoodIn wsL_areFaults (wsV RL 68 RX4 yX4_areMembersOff wsX4_areMembersOff) := goodIn_app (goodIn_of _ (by decide +kernel)) ggL_areFaults_X4_areMembersOff
set_option maxRecDepth 20000 in
theorem ggL_areFaults_X4_isRollOff : GoodIn wsL_areFaults wsX4_isRollOff := goodIn_ca (goodIn_r _ [82, 15, 16, 83, 6, 18, 19, 4, 20, 21, 22, 23, 24, 25, 84, 85, 86, 87, 88, 89, 32, 30, 33, 34, 35, 36, 37, 38, 39, 40, 41, 42, 43, 44, 45, 46, 47, 48, 49, 50, 51, 52, 53, 54, 55, 56, 57, 58, 59, 65, 66, 67, 68, 69, 70, 71, 110, 111, 112, 113, 114, 115, 116, 117, 118, 119, 120, 121, 122, 123, 124, 125, 126, 127, 128] (by decide +kernel) (by decide +kernel)) (goodIn_sub (fun _ h => List.mem_cons_of_mem _ (List.mem_append_right _ h)) (by decide +kernel))
set_option maxRecDepth 20000 in
theorem gL_areFaults_X4_isRollOff : GoodIn wsL_areFaults (wsV RL 71 RX4 yX4_isRollOff wsX4_isRollOff) := goodIn_app (goodIn_of _ (by decide +kernel)) ggL_areFaults_X4_isRollOff
set_option maxRecDepth 20000 in
theorem ggL_areFaults_X4_faults : GoodIn wsL_areFaults wsX4_faults := goodIn_ca (goodIn_r _ [93, 17, 6, 21, 22, 23, 4, 24, 15, 16, 25, 94, 39, 95, 40, 41, 42, 43, 44, 96, 97, 98, 99, 83, 88, 26, 27, 28, 29, 30, 31, 32, 33, 34, 35, 36, 37, 38, 45, 46, 47, 48, 49, 50, 51, 52, 53, 54, 55, 56, 57, 58, 59, 60, 61, 62, 63, 64, 65, 66, 67, 68, 69, 70, 71, 76, 77, 78, 84, 85, 86, 87, 89, 110, 111, 112, 113, 114, 115, 116, 117, 118, 119, 120, 126, 121, 122, 123, 124, 125, 127, 128] (by decide +kernel) (by decide +kernel)) (goodIn_sub (fun _ h => List.mem_cons_of_mem _ (List.mem_append_right _ h)) (by decide +kernel))
set_option maxRecDepth 20000 in
theorem gL_areFaults_X4_faults : GoodIn wsL_areFaults (wsV RL 74 RX4 yX4_faults wsX4_faults) := goodIn_app (goodIn_of _ (by decide +kernel)) ggL_areFaults_X4_faults
set_option maxRecDepth 20000 in
theorem ggL_areFaults_X4_faultsByList : GoodIn wsL_areFaults wsX4_faultsByList := goodIn_ca (goodIn_r _ [103, 104, 105, 106, 107, 21, 22, 23, 4, 24, 15, 16, 25, 108, 46, 109, 47, 48, 49, 50, 51, 52, 53, 54, 55, 56, 57, 58, 59, 96, 97, 98, 99, 83, 88, 26, 27, 28, 29, 30, 17, 31, 32, 33, 34, 35, 36, 37, 38, 39, 40, 41, 42, 43, 44, 45, 60, 61, 62, 63, 64, 65, 66, 67, 68, 69, 70, 71, 76, 77, 78, 84, 85, 86, 87, 89, 110, 111, 112, 113, 114, 115, 116, 117, 118, 119, 120, 127, 128, 121, 122, 123, 124, 125, 126] (by decide +kernel) (by decide +kernel)) (goodIn_sub (fun _ h => List.mem_cons_of_mem _ (List.mem_append_right _ h)) (by decide +kernel))
set_option maxRecDepth 20000 in
theorem gL_areFaults_X4_faultsByList : GoodIn wsL_areFaults (wsV RL 78 RX4 yX4_faultsByList wsX4_faultsByList) := goodIn_app (goodIn_of _ (by decide +kernel)) ggL_areFaults_X4_faultsByList
theorem dL_areFaults_0 : decode cL_areFaults 0 = .ok (.iconst 0, 1) := by decide +kernel
theorem dL_areFaults_1 : decode cL_areFaults 1 = .ok (.istore_n 3, 1) := by decide +kernel
theorem dL_areFaults_2 : decode cL_areFaults 2 = .ok (.iconst 0, 1) := by decide +kernel
theorem dL_areFaults_3 : decode cL_areFaults 3 = .ok (.istore 4, 2) := by decide +kernel
theorem dL_areFaults_5 : decode cL_areFaults 5 = .ok (.iload 4, 2) := by decide +kernel
theorem dL_areFaults_7 : decode cL_areFaults 7 = .ok (.bipush 10, 2) := by decide +kernel
theorem dL_areFaults_9 : decode cL_areFaults 9 = .ok (.if_icmp .ge 128, 3) := by decide +kernel
theorem dL_areFaults_12 : decode cL_areFaults 12 = .ok (.iconst 0, 1) := by decide +kernel
theorem dL_areFaults_13 : decode cL_areFaults 13 = .ok (.istore 5, 2) := by decide +kernel
theorem dL_areFaults_15 : decode cL_areFaults 15 = .ok (.iload 5, 2) := by decide +kernel
theorem dL_areFaults_17 : decode cL_areFaults 17 = .ok (.iconst 4, 1) := by decide +kernel
theorem dL_areFaults_18 : decode cL_areFaults 18 = .ok (.aload_n 1, 1) := by decide +kernel
theorem dL_areFaults_19 : decode cL_areFaults 19 = .ok (.iconst 0, 1) := by decide +kernel
theorem dL_areFaults_20 : decode cL_areFaults 20 = .ok (.iaload, 1) := by decide +kernel
theorem dL_areFaults_21 : decode cL_areFaults 21 = .ok (.imul, 1) := by decide +kernel
theorem dL_areFaults_22 : decode cL_areFaults 22 = .ok (.if_icmp .ge 64, 3) := by decide +kernel
theorem dL_areFaults_25 : decode cL_areFaults 25 = .ok (.iload_n 3, 1) := by decide +kernel
theorem dL_areFaults_26 : decode cL_areFaults 26 = .ok (.aload_n 0, 1) := by decide +kernel
theorem dL_areFaults_27 : decode cL_areFaults 27 = .ok (.iload 5, 2) := by decide +kernel
theorem dL_areFaults_29 : decode cL_areFaults 29 = .ok (.iconst 4, 1) := by decide +kernel
theorem dL_areFaults_30 : decode cL_areFaults 30 = .ok (.idiv, 1) := by decide +kernel
theorem dL_areFaults_31 : decode cL_areFaults 31 = .ok (.iload 4, 2) := by decide +kernel
theorem dL_areFaults_33 : decode cL_areFaults 33 = .ok (.iload 5, 2) := by decide +kernel
theorem dL_areFaults_35 : decode cL_areFaults 35 = .ok (.iconst 4, 1) := by decide +kernel
theorem dL_areFaults_36 : decode cL_areFaults 36 = .ok (.irem, 1) := by decide +kernel
theorem dL_areFaults_37 : decode cL_areFaults 37 = .ok (.iload_n 2, 1) := by decide +kernel
theorem dL_areFaults_38 : decode cL_areFaults 38 = .ok (.invokevirtual 64, 3) := by decide +kernel
theorem dL_areFaults_41 : decode cL_areFaults 41 = .ok (.ifCond .eq 7, 3) := by decide +kernel
theorem dL_areFaults_44 : decode cL_areFaults 44 = .ok (.iconst 1, 1) := by decide +kernel
theorem dL_areFaults_45 : decode cL_areFaults 45 = .ok (.goto 4, 3) := by decide +kernel
theorem dL_areFaults_48 : decode cL_areFaults 48 = .ok (.iconst 0, 1) := by decide +kernel
theorem dL_areFaults_49 : decode cL_areFaults 49 = .ok (.iadd, 1) := by decide +kernel
theorem dL_areFaults_50 : decode cL_areFaults 50 = .ok (.istore_n 3, 1) := by decide +kernel
theorem dL_areFaults_51 : decode cL_areFaults 51 = .ok (.iload_n 3, 1) := by decide +kernel
theorem dL_areFaults_52 : decode cL_areFaults 52 = .ok (.iload 5, 2) := by decide +kernel
theorem dL_areFaults_54 : decode cL_areFaults 54 = .ok (.iconst 4, 1) := by decide +kernel
theorem dL_areFaults_55 : decode cL_areFaults 55 = .ok (.irem, 1) := by decide +kernel
theorem dL_areFaults_56 : decode cL_areFaults 56 = .ok (.ifCond .ne 21, 3) := by decide +kernel
theorem dL_areFaults_59 : decode cL_areFaults 59 = .ok (.aload_n 0, 1) := by decide +kernel
theorem dL_areFaults_60 : decode cL_areFaults 60 = .ok (.iload 5, 2) := by decide +kernel
theorem dL_areFaults_62 : decode cL_areFaults 62 = .ok (.iconst 4, 1) := by decide +kernel
theorem dL_areFaults_63 : decode cL_areFaults 63 = .ok (.idiv, 1) := by decide +kernel
theorem dL_areFaults_64 : decode cL_areFaults 64 = .ok (.iload 4, 2) := by decide +kernel
theorem dL_areFaults_66 : decode cL_areFaults 66 = .ok (.iload_n 2, 1) := by decide +kernel
theorem dL_areFaults_67 : decode cL_areFaults 67 = .ok (.invokevirtual 68, 3) := by decide +kernel
theorem dL_areFaults_70 : decode cL_areFaults 70 = .ok (.ifCond .eq 7, 3) := by decide +kernel
theorem dL_areFaults_73 : decode cL_areFaults 73 = .ok (.iconst 1, 1) := by decide +kernel
theorem dL_areFaults_74 : decode cL_areFaults 74 = .ok (.goto 4, 3) := by decide +kernel
theorem dL_areFaults_77 : decode cL_areFaults 77 = .ok (.iconst 0, 1) := by decide +kernel
theorem dL_areFaults_78 : decode cL_areFaults 78 = .ok (.iadd, 1) := by decide +kernel
theorem dL_areFaults_79 : decode cL_areFaults 79 = .ok (.istore_n 3, 1) := by decide +kernel
theorem dL_areFaults_80 : decode cL_areFaults 80 = .ok (.iinc 5 1, 3) := by decide +kernel
theorem dL_areFaults_83 : decode cL_areFaults 83 = .ok (.goto (-68), 3) := by decide +kernel
theorem dL_areFaults_86 : decode cL_areFaults 86 = .ok (.iconst 0, 1) := by decide +kernel
theorem dL_areFaults_87 : decode cL_areFaults 87 = .ok (.istore 5, 2) := by decide +kernel
theorem dL_areFaults_89 : decode cL_areFaults 89 = .ok (.iload 5, 2) := by decide +kernel
theorem dL_areFaults_91 : decode cL_areFaults 91 = .ok (.iconst 4, 1) := by decide +kernel
theorem dL_areFaults_92 : decode cL_areFaults 92 = .ok (.aload_n 1, 1) := by decide +kernel
theorem dL_areFaults_93 : decode cL_areFaults 93 = .ok (.iconst 1, 1) := by decide +kernel
theorem dL_areFaults_94 : decode cL_areFaults 94 = .ok (.iaload, 1) := by decide +kernel
theorem dL_areFaults_95 : decode cL_areFaults 95 = .ok (.imul, 1) := by decide +kernel
theorem dL_areFaults_96 : decode cL_areFaults 96 = .ok (.if_icmp .ge 35, 3) := by decide +kernel
theorem dL_areFaults_99 : decode cL_areFaults 99 = .ok (.iload_n 3, 1) := by decide +kernel
theorem dL_areFaults_100 : decode cL_areFaults 100 = .ok (.aload_n 0, 1) := by decide +kernel
theorem dL_areFaults_101 : decode cL_areFaults 101 = .ok (.iload 5, 2) := by decide +kernel
theorem dL_areFaults_103 : decode cL_areFaults 103 = .ok (.iconst 4, 1) := by decide +kernel
theorem dL_areFaults_104 : decode cL_areFaults 104 = .ok (.idiv, 1) := by decide +kernel
theorem dL_areFaults_105 : decode cL_areFaults 105 = .ok (.iload 4, 2) := by decide +kernel
theorem dL_areFaults_107 : decode cL_areFaults 107 = .ok (.iload 5, 2) := by decide +kernel
theorem dL_areFaults_109 : decode cL_areFaults 109 = .ok (.iconst 4, 1) := by decide +kernel
theorem dL_areFaults_110 : decode cL_areFaults 110 = .ok (.irem, 1) := by decide +kernel
theorem dL_areFaults_111 : decode cL_areFaults 111 = .ok (.iload_n 2, 1) := by decide +kernel
theorem dL_areFaults_112 : decode cL_areFaults 112 = .ok (.invokevirtual 71, 3) := by decide +kernel
theorem dL_areFaults_115 : decode cL_areFaults 115 = .ok (.ifCond .eq 7, 3) := by decide +kernel
theorem dL_areFaults_118 : decode cL_areFaults 118 = .ok (.iconst 1, 1) := by decide +kernel
theorem dL_areFaults_119 : decode cL_areFaults 119 = .ok (.goto 4, 3) := by decide +kernel
theorem dL_areFaults_122 : decode cL_areFaults 122 = .ok (.iconst 0, 1) := by decide +kernel
theorem dL_areFaults_123 : decode cL_areFaults 123 = .ok (.iadd, 1) := by decide +kernel
theorem dL_areFaults_124 : decode cL_areFaults 124 = .ok (.istore_n 3, 1) := by decide +kernel
theorem dL_areFaults_125 : decode cL_areFaults 125 = .ok (.iinc 5 1, 3) := by decide +kernel
theorem dL_areFaults_128 : decode cL_areFaults 128 = .ok (.goto (-39), 3) := by decide +kernel
theorem dL_areFaults_131 : decode cL_areFaults 131 = .ok (.iinc 4 1, 3) := by decide +kernel
theorem dL_areFaults_134 : decode cL_areFaults 134 = .ok (.goto (-129), 3) := by decide +kernel
theorem dL_areFaults_137 : decode cL_areFaults 137 = .ok (.aload_n 0, 1) := by decide +kernel
theorem dL_areFaults_138 : decode cL_areFaults 138 = .ok (.iload_n 2, 1) := by decide +kernel
theorem dL_areFaults_139 : decode cL_areFaults 139 = .ok (.invokevirtual 74, 3) := by decide +kernel
theorem dL_areFaults_142 : decode cL_areFaults 142 = .ok (.iload_n 3, 1) := by decide +kernel
theorem dL_areFaults_143 : decode cL_areFaults 143 = .ok (.if_icmp .ne 16, 3) := by decide +kernel
theorem dL_areFaults_146 : decode cL_areFaults 146 = .ok (.aload_n 0, 1) := by decide +kernel
theorem dL_areFaults_147 : decode cL_areFaults 147 = .ok (.iload_n 2, 1) := by decide +kernel
theorem dL_areFaults_148 : decode cL_areFaults 148 = .ok (.invokevirtual 78, 3) := by decide +kernel
theorem dL_areFaults_151 : decode cL_areFaults 151 = .ok (.iload_n 3, 1) := by decide +kernel
theorem dL_areFaults_152 : decode cL_areFaults 152 = .ok (.if_icmp .ne 7, 3) := by decide +kernel
theorem dL_areFaults_155 : decode cL_areFaults 155 = .ok (.iconst 1, 1) := by decide +kernel
theorem dL_areFaults_156 : decode cL_areFaults 156 = .ok (.goto 4, 3) := by decide +kernel
theorem dL_areFaults_159 : decode cL_areFaults 159 = .ok (.iconst 0, 1) := by decide +kernel
theorem dL_areFaults_160 : decode cL_areFaults 160 = .ok (.ireturn, 1) := by decide +kernel
set_option maxRecDepth 20000 in
theorem ggL_hangsUnder_L_under : GoodIn wsL_hangsUnder wsL_under := goodIn_r _ [4] (by decide +kernel) (by decide +kernel)
set_option maxRecDepth 20000 in
theorem gL_hangsUnder_L_under : GoodIn wsL_hangsUnder (va_wsS RL 47 yL_under wsL_under) := goodIn_app (goodIn_of _ (by decide +kernel)) ggL_hangsUnder_L_under
theorem dL_hangsUnder_0 : decode cL_hangsUnder 0 = .ok (.iload_n 1, 1) := by decide +kernel
theorem dL_hangsUnder_1 : decode cL_hangsUnder 1 = .ok (.istore_n 3, 1) := by decide +kernel
theorem dL_hangsUnder_2 : decode cL_hangsUnder 2 = .ok (.iload_n 3, 1) := by decide +kernel
theorem dL_hangsUnder_3 : decode cL_hangsUnder 3 = .ok (.ifCond .lt 17, 3) := by decide +kernel
theorem dL_hangsUnder_6 : decode cL_hangsUnder 6 = .ok (.iload_n 3, 1) := by decide +kernel
theorem dL_hangsUnder_7 : decode cL_hangsUnder 7 = .ok (.iload_n 2, 1) := by decide +kernel
theorem dL_hangsUnder_8 : decode cL_hangsUnder 8 = .ok (.if_icmp .eq 12, 3) := by decide +kernel
theorem dL_hangsUnder_11 : decode cL_hangsUnder 11 = .ok (.aload_n 0, 1) := by decide +kernel
theorem dL_hangsUnder_12 : decode cL_hangsUnder 12 = .ok (.iload_n 3, 1) := by decide +kernel
theorem dL_hangsUnder_13 : decode cL_hangsUnder 13 = .ok (.invokestatic 47, 3) := by decide +kernel
theorem dL_hangsUnder_16 : decode cL_hangsUnder 16 = .ok (.istore_n 3, 1) := by decide +kernel
theorem dL_hangsUnder_17 : decode cL_hangsUnder 17 = .ok (.goto (-15), 3) := by decide +kernel
theorem dL_hangsUnder_20 : decode cL_hangsUnder 20 = .ok (.iload_n 3, 1) := by decide +kernel
theorem dL_hangsUnder_21 : decode cL_hangsUnder 21 = .ok (.iload_n 2, 1) := by decide +kernel
theorem dL_hangsUnder_22 : decode cL_hangsUnder 22 = .ok (.if_icmp .ne 7, 3) := by decide +kernel
theorem dL_hangsUnder_25 : decode cL_hangsUnder 25 = .ok (.iconst 1, 1) := by decide +kernel
theorem dL_hangsUnder_26 : decode cL_hangsUnder 26 = .ok (.goto 4, 3) := by decide +kernel
theorem dL_hangsUnder_29 : decode cL_hangsUnder 29 = .ok (.iconst 0, 1) := by decide +kernel
theorem dL_hangsUnder_30 : decode cL_hangsUnder 30 = .ok (.ireturn, 1) := by decide +kernel
set_option maxRecDepth 20000 in
theorem ggL_tells_L_held : GoodIn wsL_tells wsL_held := goodIn_ca (goodIn_ca (goodIn_r _ [6, 7, 8, 9, 10, 11, 12, 13, 14, 15, 16, 17, 18, 19, 20, 21, 22, 23, 24, 25, 26, 27, 28, 29, 30, 31, 32, 33, 34, 35, 36, 37, 38, 39, 40, 41, 42, 43, 44, 45, 46, 47, 48, 49, 50, 51, 52, 53, 54, 55, 56, 123, 124, 125, 126, 127, 128, 129, 130, 131, 132, 133, 134, 135, 136, 137, 138, 139] (by decide +kernel) (by decide +kernel)) (goodIn_sub (fun _ h => List.mem_cons_of_mem _ (List.mem_append_left _ (List.mem_append_left _ (List.mem_append_left _ (List.mem_append_right _ h))))) (by decide +kernel))) (goodIn_sub (fun _ h => List.mem_cons_of_mem _ (List.mem_append_left _ (List.mem_append_left _ (List.mem_append_right _ h)))) (by decide +kernel))
set_option maxRecDepth 20000 in
theorem gL_tells_L_held : GoodIn wsL_tells (va_wsS RL 41 yL_held wsL_held) := goodIn_app (goodIn_of _ (by decide +kernel)) ggL_tells_L_held
set_option maxRecDepth 20000 in
theorem ggL_tells_X4_disagreements : GoodIn wsL_tells wsX4_disagreements := goodIn_ca (goodIn_r _ [60, 61, 62, 63, 64, 36, 37, 38, 12, 39, 30, 31, 40, 65, 66, 67, 68, 69, 70, 71, 72, 73, 74, 75, 76, 77, 78, 79, 80, 81, 82, 83, 84, 85, 128, 129, 130, 131, 132, 133, 134, 135, 136, 137, 138, 140, 141, 123, 124, 125, 126, 127] (by decide +kernel) (by decide +kernel)) (goodIn_sub (fun _ h => List.mem_cons_of_mem _ (List.mem_append_left _ (List.mem_append_left _ (List.mem_append_right _ h)))) (by decide +kernel))
set_option maxRecDepth 20000 in
theorem gL_tells_X4_disagreements : GoodIn wsL_tells (wsV RL 83 RX4 yX4_disagreements wsX4_disagreements) := goodIn_app (goodIn_of _ (by decide +kernel)) ggL_tells_X4_disagreements
set_option maxRecDepth 20000 in
theorem ggL_tells_X4_tell : GoodIn wsL_tells wsX4_tell := goodIn_ca (goodIn_ca (goodIn_ca (goodIn_r _ [89, 90, 91, 92, 93, 94, 95, 61, 96, 97, 74, 40, 98, 21, 62, 22, 23, 24, 12, 25, 26, 27, 28, 29, 30, 31, 32, 33, 34, 35, 99, 100, 101, 68, 102, 103, 41, 42, 43, 104, 105, 106, 107, 108, 109, 77, 76, 78, 79, 110, 111, 112, 113, 70, 114, 115, 116, 47, 117, 49, 118, 51, 119, 120, 121, 122, 128, 129, 130, 131, 132, 133, 134, 135, 136, 137, 138, 123, 124, 125, 126, 127, 140, 141, 139] (by decide +kernel) (by decide +kernel)) (goodIn_sub (fun _ h => List.mem_cons_of_mem _ (List.mem_append_left _ (List.mem_append_right _ h))) (by decide +kernel))) (goodIn_sub (fun _ h => List.mem_cons_of_mem _ (List.mem_append_right _ h)) (by decide +kernel))) (goodIn_sub (fun _ h => List.mem_cons_of_mem _ (List.mem_append_left _ (List.mem_append_left _ (List.mem_append_right _ h)))) (by decide +kernel))
set_option maxRecDepth 20000 in
theorem gL_tells_X4_tell : GoodIn wsL_tells (wsV RL 86 RX4 yX4_tell wsX4_tell) := goodIn_app (goodIn_of _ (by decide +kernel)) ggL_tells_X4_tell
theorem dL_tells_0 : decode cL_tells 0 = .ok (.aload_n 3, 1) := by decide +kernel
theorem dL_tells_1 : decode cL_tells 1 = .ok (.iconst 3, 1) := by decide +kernel
theorem dL_tells_2 : decode cL_tells 2 = .ok (.iaload, 1) := by decide +kernel
theorem dL_tells_3 : decode cL_tells 3 = .ok (.bipush 80, 2) := by decide +kernel
theorem dL_tells_5 : decode cL_tells 5 = .ok (.if_icmp .ne 5, 3) := by decide +kernel
theorem dL_tells_8 : decode cL_tells 8 = .ok (.iconst 1, 1) := by decide +kernel
theorem dL_tells_9 : decode cL_tells 9 = .ok (.ireturn, 1) := by decide +kernel
theorem dL_tells_10 : decode cL_tells 10 = .ok (.iload_n 1, 1) := by decide +kernel
theorem dL_tells_11 : decode cL_tells 11 = .ok (.aload_n 3, 1) := by decide +kernel
theorem dL_tells_12 : decode cL_tells 12 = .ok (.iconst 0, 1) := by decide +kernel
theorem dL_tells_13 : decode cL_tells 13 = .ok (.iaload, 1) := by decide +kernel
theorem dL_tells_14 : decode cL_tells 14 = .ok (.irem, 1) := by decide +kernel
theorem dL_tells_15 : decode cL_tells 15 = .ok (.istore 4, 2) := by decide +kernel
theorem dL_tells_17 : decode cL_tells 17 = .ok (.iload_n 1, 1) := by decide +kernel
theorem dL_tells_18 : decode cL_tells 18 = .ok (.bipush 12, 2) := by decide +kernel
theorem dL_tells_20 : decode cL_tells 20 = .ok (.idiv, 1) := by decide +kernel
theorem dL_tells_21 : decode cL_tells 21 = .ok (.iconst 4, 1) := by decide +kernel
theorem dL_tells_22 : decode cL_tells 22 = .ok (.irem, 1) := by decide +kernel
theorem dL_tells_23 : decode cL_tells 23 = .ok (.istore 5, 2) := by decide +kernel
theorem dL_tells_25 : decode cL_tells 25 = .ok (.iload_n 1, 1) := by decide +kernel
theorem dL_tells_26 : decode cL_tells 26 = .ok (.bipush 48, 2) := by decide +kernel
theorem dL_tells_28 : decode cL_tells 28 = .ok (.idiv, 1) := by decide +kernel
theorem dL_tells_29 : decode cL_tells 29 = .ok (.iconst 4, 1) := by decide +kernel
theorem dL_tells_30 : decode cL_tells 30 = .ok (.irem, 1) := by decide +kernel
theorem dL_tells_31 : decode cL_tells 31 = .ok (.istore 6, 2) := by decide +kernel
theorem dL_tells_33 : decode cL_tells 33 = .ok (.iload_n 2, 1) := by decide +kernel
theorem dL_tells_34 : decode cL_tells 34 = .ok (.iconst 3, 1) := by decide +kernel
theorem dL_tells_35 : decode cL_tells 35 = .ok (.irem, 1) := by decide +kernel
theorem dL_tells_36 : decode cL_tells 36 = .ok (.ifCond .ne 15, 3) := by decide +kernel
theorem dL_tells_39 : decode cL_tells 39 = .ok (.iload_n 2, 1) := by decide +kernel
theorem dL_tells_40 : decode cL_tells 40 = .ok (.iconst 3, 1) := by decide +kernel
theorem dL_tells_41 : decode cL_tells 41 = .ok (.idiv, 1) := by decide +kernel
theorem dL_tells_42 : decode cL_tells 42 = .ok (.ldc 81, 2) := by decide +kernel
theorem dL_tells_44 : decode cL_tells 44 = .ok (.irem, 1) := by decide +kernel
theorem dL_tells_45 : decode cL_tells 45 = .ok (.ldc 82, 2) := by decide +kernel
theorem dL_tells_47 : decode cL_tells 47 = .ok (.isub, 1) := by decide +kernel
theorem dL_tells_48 : decode cL_tells 48 = .ok (.goto 12, 3) := by decide +kernel
theorem dL_tells_51 : decode cL_tells 51 = .ok (.iload_n 2, 1) := by decide +kernel
theorem dL_tells_52 : decode cL_tells 52 = .ok (.iconst 3, 1) := by decide +kernel
theorem dL_tells_53 : decode cL_tells 53 = .ok (.idiv, 1) := by decide +kernel
theorem dL_tells_54 : decode cL_tells 54 = .ok (.bipush 60, 2) := by decide +kernel
theorem dL_tells_56 : decode cL_tells 56 = .ok (.irem, 1) := by decide +kernel
theorem dL_tells_57 : decode cL_tells 57 = .ok (.bipush 20, 2) := by decide +kernel
theorem dL_tells_59 : decode cL_tells 59 = .ok (.isub, 1) := by decide +kernel
theorem dL_tells_60 : decode cL_tells 60 = .ok (.istore 7, 2) := by decide +kernel
theorem dL_tells_62 : decode cL_tells 62 = .ok (.iload_n 2, 1) := by decide +kernel
theorem dL_tells_63 : decode cL_tells 63 = .ok (.bipush 7, 2) := by decide +kernel
theorem dL_tells_65 : decode cL_tells 65 = .ok (.irem, 1) := by decide +kernel
theorem dL_tells_66 : decode cL_tells 66 = .ok (.iconst 4, 1) := by decide +kernel
theorem dL_tells_67 : decode cL_tells 67 = .ok (.if_icmp .ge 7, 3) := by decide +kernel
theorem dL_tells_70 : decode cL_tells 70 = .ok (.iconst 0, 1) := by decide +kernel
theorem dL_tells_71 : decode cL_tells 71 = .ok (.goto 10, 3) := by decide +kernel
theorem dL_tells_74 : decode cL_tells 74 = .ok (.iload_n 2, 1) := by decide +kernel
theorem dL_tells_75 : decode cL_tells 75 = .ok (.sipush 180, 3) := by decide +kernel
theorem dL_tells_78 : decode cL_tells 78 = .ok (.idiv, 1) := by decide +kernel
theorem dL_tells_79 : decode cL_tells 79 = .ok (.iconst 5, 1) := by decide +kernel
theorem dL_tells_80 : decode cL_tells 80 = .ok (.irem, 1) := by decide +kernel
theorem dL_tells_81 : decode cL_tells 81 = .ok (.istore 8, 2) := by decide +kernel
theorem dL_tells_83 : decode cL_tells 83 = .ok (.aload_n 3, 1) := by decide +kernel
theorem dL_tells_84 : decode cL_tells 84 = .ok (.iconst 2, 1) := by decide +kernel
theorem dL_tells_85 : decode cL_tells 85 = .ok (.iaload, 1) := by decide +kernel
theorem dL_tells_86 : decode cL_tells 86 = .ok (.iconst 1, 1) := by decide +kernel
theorem dL_tells_87 : decode cL_tells 87 = .ok (.isub, 1) := by decide +kernel
theorem dL_tells_88 : decode cL_tells 88 = .ok (.istore 9, 2) := by decide +kernel
theorem dL_tells_90 : decode cL_tells 90 = .ok (.iload 8, 2) := by decide +kernel
theorem dL_tells_92 : decode cL_tells 92 = .ok (.ifCond .ne 7, 3) := by decide +kernel
theorem dL_tells_95 : decode cL_tells 95 = .ok (.iconst 1, 1) := by decide +kernel
theorem dL_tells_96 : decode cL_tells 96 = .ok (.goto 40, 3) := by decide +kernel
theorem dL_tells_99 : decode cL_tells 99 = .ok (.iload 8, 2) := by decide +kernel
theorem dL_tells_101 : decode cL_tells 101 = .ok (.iconst 1, 1) := by decide +kernel
theorem dL_tells_102 : decode cL_tells 102 = .ok (.if_icmp .ne 8, 3) := by decide +kernel
theorem dL_tells_105 : decode cL_tells 105 = .ok (.bipush 10, 2) := by decide +kernel
theorem dL_tells_107 : decode cL_tells 107 = .ok (.goto 29, 3) := by decide +kernel
theorem dL_tells_110 : decode cL_tells 110 = .ok (.iload 8, 2) := by decide +kernel
theorem dL_tells_112 : decode cL_tells 112 = .ok (.iconst 2, 1) := by decide +kernel
theorem dL_tells_113 : decode cL_tells 113 = .ok (.if_icmp .ne 8, 3) := by decide +kernel
theorem dL_tells_116 : decode cL_tells 116 = .ok (.bipush 100, 2) := by decide +kernel
theorem dL_tells_118 : decode cL_tells 118 = .ok (.goto 18, 3) := by decide +kernel
theorem dL_tells_121 : decode cL_tells 121 = .ok (.iload 8, 2) := by decide +kernel
theorem dL_tells_123 : decode cL_tells 123 = .ok (.iconst 3, 1) := by decide +kernel
theorem dL_tells_124 : decode cL_tells 124 = .ok (.if_icmp .ne 9, 3) := by decide +kernel
theorem dL_tells_127 : decode cL_tells 127 = .ok (.sipush 1000, 3) := by decide +kernel
theorem dL_tells_130 : decode cL_tells 130 = .ok (.goto 6, 3) := by decide +kernel
theorem dL_tells_133 : decode cL_tells 133 = .ok (.sipush 10000, 3) := by decide +kernel
theorem dL_tells_136 : decode cL_tells 136 = .ok (.istore 10, 2) := by decide +kernel
theorem dL_tells_138 : decode cL_tells 138 = .ok (.aload_n 0, 1) := by decide +kernel
theorem dL_tells_139 : decode cL_tells 139 = .ok (.iconst 0, 1) := by decide +kernel
theorem dL_tells_140 : decode cL_tells 140 = .ok (.iload 4, 2) := by decide +kernel
theorem dL_tells_142 : decode cL_tells 142 = .ok (.iload 5, 2) := by decide +kernel
theorem dL_tells_144 : decode cL_tells 144 = .ok (.iload 6, 2) := by decide +kernel
theorem dL_tells_146 : decode cL_tells 146 = .ok (.iload 9, 2) := by decide +kernel
theorem dL_tells_148 : decode cL_tells 148 = .ok (.invokestatic 41, 3) := by decide +kernel
theorem dL_tells_151 : decode cL_tells 151 = .ok (.istore 11, 2) := by decide +kernel
theorem dL_tells_153 : decode cL_tells 153 = .ok (.iload 9, 2) := by decide +kernel
theorem dL_tells_155 : decode cL_tells 155 = .ok (.ifCond .ne 7, 3) := by decide +kernel
theorem dL_tells_158 : decode cL_tells 158 = .ok (.iconst 0, 1) := by decide +kernel
theorem dL_tells_159 : decode cL_tells 159 = .ok (.goto 18, 3) := by decide +kernel
theorem dL_tells_162 : decode cL_tells 162 = .ok (.aload_n 0, 1) := by decide +kernel
theorem dL_tells_163 : decode cL_tells 163 = .ok (.iconst 0, 1) := by decide +kernel
theorem dL_tells_164 : decode cL_tells 164 = .ok (.iload 4, 2) := by decide +kernel
theorem dL_tells_166 : decode cL_tells 166 = .ok (.iload 5, 2) := by decide +kernel
theorem dL_tells_168 : decode cL_tells 168 = .ok (.iload 6, 2) := by decide +kernel
theorem dL_tells_170 : decode cL_tells 170 = .ok (.iload 9, 2) := by decide +kernel
theorem dL_tells_172 : decode cL_tells 172 = .ok (.iconst 1, 1) := by decide +kernel
theorem dL_tells_173 : decode cL_tells 173 = .ok (.isub, 1) := by decide +kernel
theorem dL_tells_174 : decode cL_tells 174 = .ok (.invokestatic 41, 3) := by decide +kernel
theorem dL_tells_177 : decode cL_tells 177 = .ok (.istore 12, 2) := by decide +kernel
theorem dL_tells_179 : decode cL_tells 179 = .ok (.aload_n 0, 1) := by decide +kernel
theorem dL_tells_180 : decode cL_tells 180 = .ok (.iload 9, 2) := by decide +kernel
theorem dL_tells_182 : decode cL_tells 182 = .ok (.invokevirtual 83, 3) := by decide +kernel
theorem dL_tells_185 : decode cL_tells 185 = .ok (.istore 13, 2) := by decide +kernel
theorem dL_tells_187 : decode cL_tells 187 = .ok (.aload_n 3, 1) := by decide +kernel
theorem dL_tells_188 : decode cL_tells 188 = .ok (.iconst 3, 1) := by decide +kernel
theorem dL_tells_189 : decode cL_tells 189 = .ok (.dup2, 1) := by decide +kernel
theorem dL_tells_190 : decode cL_tells 190 = .ok (.iaload, 1) := by decide +kernel
theorem dL_tells_191 : decode cL_tells 191 = .ok (.iconst 1, 1) := by decide +kernel
theorem dL_tells_192 : decode cL_tells 192 = .ok (.iadd, 1) := by decide +kernel
theorem dL_tells_193 : decode cL_tells 193 = .ok (.iastore, 1) := by decide +kernel
theorem dL_tells_194 : decode cL_tells 194 = .ok (.aload_n 0, 1) := by decide +kernel
theorem dL_tells_195 : decode cL_tells 195 = .ok (.iload 4, 2) := by decide +kernel
theorem dL_tells_197 : decode cL_tells 197 = .ok (.iload 5, 2) := by decide +kernel
theorem dL_tells_199 : decode cL_tells 199 = .ok (.iload 6, 2) := by decide +kernel
theorem dL_tells_201 : decode cL_tells 201 = .ok (.iload 7, 2) := by decide +kernel
theorem dL_tells_203 : decode cL_tells 203 = .ok (.iload 8, 2) := by decide +kernel
theorem dL_tells_205 : decode cL_tells 205 = .ok (.invokevirtual 86, 3) := by decide +kernel
theorem dL_tells_208 : decode cL_tells 208 = .ok (.aload_n 3, 1) := by decide +kernel
theorem dL_tells_209 : decode cL_tells 209 = .ok (.iconst 3, 1) := by decide +kernel
theorem dL_tells_210 : decode cL_tells 210 = .ok (.iaload, 1) := by decide +kernel
theorem dL_tells_211 : decode cL_tells 211 = .ok (.if_icmp .ne 7, 3) := by decide +kernel
theorem dL_tells_214 : decode cL_tells 214 = .ok (.iconst 1, 1) := by decide +kernel
theorem dL_tells_215 : decode cL_tells 215 = .ok (.goto 4, 3) := by decide +kernel
theorem dL_tells_218 : decode cL_tells 218 = .ok (.iconst 0, 1) := by decide +kernel
theorem dL_tells_219 : decode cL_tells 219 = .ok (.istore 14, 2) := by decide +kernel
theorem dL_tells_221 : decode cL_tells 221 = .ok (.aload_n 0, 1) := by decide +kernel
theorem dL_tells_222 : decode cL_tells 222 = .ok (.iconst 0, 1) := by decide +kernel
theorem dL_tells_223 : decode cL_tells 223 = .ok (.iload 4, 2) := by decide +kernel
theorem dL_tells_225 : decode cL_tells 225 = .ok (.iload 5, 2) := by decide +kernel
theorem dL_tells_227 : decode cL_tells 227 = .ok (.iload 6, 2) := by decide +kernel
theorem dL_tells_229 : decode cL_tells 229 = .ok (.iload 9, 2) := by decide +kernel
theorem dL_tells_231 : decode cL_tells 231 = .ok (.invokestatic 41, 3) := by decide +kernel
theorem dL_tells_234 : decode cL_tells 234 = .ok (.istore 15, 2) := by decide +kernel
theorem dL_tells_236 : decode cL_tells 236 = .ok (.aload_n 0, 1) := by decide +kernel
theorem dL_tells_237 : decode cL_tells 237 = .ok (.iconst 1, 1) := by decide +kernel
theorem dL_tells_238 : decode cL_tells 238 = .ok (.iload 4, 2) := by decide +kernel
theorem dL_tells_240 : decode cL_tells 240 = .ok (.iload 5, 2) := by decide +kernel
theorem dL_tells_242 : decode cL_tells 242 = .ok (.iload 6, 2) := by decide +kernel
theorem dL_tells_244 : decode cL_tells 244 = .ok (.iload 9, 2) := by decide +kernel
theorem dL_tells_246 : decode cL_tells 246 = .ok (.invokestatic 41, 3) := by decide +kernel
theorem dL_tells_249 : decode cL_tells 249 = .ok (.istore 16, 2) := by decide +kernel
theorem dL_tells_251 : decode cL_tells 251 = .ok (.iload 14, 2) := by decide +kernel
theorem dL_tells_253 : decode cL_tells 253 = .ok (.ifCond .eq 46, 3) := by decide +kernel
theorem dL_tells_256 : decode cL_tells 256 = .ok (.iload 15, 2) := by decide +kernel
theorem dL_tells_258 : decode cL_tells 258 = .ok (.iload 7, 2) := by decide +kernel
theorem dL_tells_260 : decode cL_tells 260 = .ok (.if_icmp .ne 10, 3) := by decide +kernel
theorem dL_tells_263 : decode cL_tells 263 = .ok (.iload 16, 2) := by decide +kernel
theorem dL_tells_265 : decode cL_tells 265 = .ok (.iload 10, 2) := by decide +kernel
theorem dL_tells_267 : decode cL_tells 267 = .ok (.if_icmp .le 17, 3) := by decide +kernel
theorem dL_tells_270 : decode cL_tells 270 = .ok (.iload 15, 2) := by decide +kernel
theorem dL_tells_272 : decode cL_tells 272 = .ok (.iload 11, 2) := by decide +kernel
theorem dL_tells_274 : decode cL_tells 274 = .ok (.if_icmp .ne 25, 3) := by decide +kernel
theorem dL_tells_277 : decode cL_tells 277 = .ok (.iload 16, 2) := by decide +kernel
theorem dL_tells_279 : decode cL_tells 279 = .ok (.iload 10, 2) := by decide +kernel
theorem dL_tells_281 : decode cL_tells 281 = .ok (.if_icmp .gt 18, 3) := by decide +kernel
theorem dL_tells_284 : decode cL_tells 284 = .ok (.aload_n 0, 1) := by decide +kernel
theorem dL_tells_285 : decode cL_tells 285 = .ok (.iload 9, 2) := by decide +kernel
theorem dL_tells_287 : decode cL_tells 287 = .ok (.invokevirtual 83, 3) := by decide +kernel
theorem dL_tells_290 : decode cL_tells 290 = .ok (.iload 13, 2) := by decide +kernel
theorem dL_tells_292 : decode cL_tells 292 = .ok (.if_icmp .lt 7, 3) := by decide +kernel
theorem dL_tells_295 : decode cL_tells 295 = .ok (.iconst 1, 1) := by decide +kernel
theorem dL_tells_296 : decode cL_tells 296 = .ok (.goto 4, 3) := by decide +kernel
theorem dL_tells_299 : decode cL_tells 299 = .ok (.iconst 0, 1) := by decide +kernel
theorem dL_tells_300 : decode cL_tells 300 = .ok (.istore 14, 2) := by decide +kernel
theorem dL_tells_302 : decode cL_tells 302 = .ok (.iload 14, 2) := by decide +kernel
theorem dL_tells_304 : decode cL_tells 304 = .ok (.ifCond .eq 32, 3) := by decide +kernel
theorem dL_tells_307 : decode cL_tells 307 = .ok (.iload 9, 2) := by decide +kernel
theorem dL_tells_309 : decode cL_tells 309 = .ok (.ifCond .eq 23, 3) := by decide +kernel
theorem dL_tells_312 : decode cL_tells 312 = .ok (.aload_n 0, 1) := by decide +kernel
theorem dL_tells_313 : decode cL_tells 313 = .ok (.iconst 0, 1) := by decide +kernel
theorem dL_tells_314 : decode cL_tells 314 = .ok (.iload 4, 2) := by decide +kernel
theorem dL_tells_316 : decode cL_tells 316 = .ok (.iload 5, 2) := by decide +kernel
theorem dL_tells_318 : decode cL_tells 318 = .ok (.iload 6, 2) := by decide +kernel
theorem dL_tells_320 : decode cL_tells 320 = .ok (.iload 9, 2) := by decide +kernel
theorem dL_tells_322 : decode cL_tells 322 = .ok (.iconst 1, 1) := by decide +kernel
theorem dL_tells_323 : decode cL_tells 323 = .ok (.isub, 1) := by decide +kernel
theorem dL_tells_324 : decode cL_tells 324 = .ok (.invokestatic 41, 3) := by decide +kernel
theorem dL_tells_327 : decode cL_tells 327 = .ok (.iload 12, 2) := by decide +kernel
theorem dL_tells_329 : decode cL_tells 329 = .ok (.if_icmp .ne 7, 3) := by decide +kernel
theorem dL_tells_332 : decode cL_tells 332 = .ok (.iconst 1, 1) := by decide +kernel
theorem dL_tells_333 : decode cL_tells 333 = .ok (.goto 4, 3) := by decide +kernel
theorem dL_tells_336 : decode cL_tells 336 = .ok (.iconst 0, 1) := by decide +kernel
theorem dL_tells_337 : decode cL_tells 337 = .ok (.ireturn, 1) := by decide +kernel
set_option maxRecDepth 20000 in
theorem ggL_step_X4_addConcept : GoodIn wsL_step wsX4_addConcept := goodIn_ca (goodIn_r _ [5, 6, 7, 8, 9, 180, 181, 182, 183, 184, 185, 186, 187, 188, 189, 190] (by decide +kernel) (by decide +kernel)) (goodIn_sub (fun _ h => List.mem_cons_of_mem _ (List.mem_append_left _ (List.mem_append_left _ (List.mem_append_left _ (List.mem_append_right _ h))))) (by decide +kernel))
set_option maxRecDepth 20000 in
theorem gL_step_X4_addConcept : GoodIn wsL_step (wsV RL 90 RX4 yX4_addConcept wsX4_addConcept) := goodIn_app (goodIn_of _ (by decide +kernel)) ggL_step_X4_addConcept
set_option maxRecDepth 20000 in
theorem ggL_step_L_hangsUnder : GoodIn wsL_step wsL_hangsUnder := goodIn_r _ [13, 14, 15, 12, 16] (by decide +kernel) (by decide +kernel)
set_option maxRecDepth 20000 in
theorem gL_step_L_hangsUnder : GoodIn wsL_step (va_wsS RL 93 yL_hangsUnder wsL_hangsUnder) := goodIn_app (goodIn_of _ (by decide +kernel)) ggL_step_L_hangsUnder
set_option maxRecDepth 20000 in
theorem ggL_step_L_under : GoodIn wsL_step wsL_under := goodIn_r _ [16] (by decide +kernel) (by decide +kernel)
set_option maxRecDepth 20000 in
theorem gL_step_L_under : GoodIn wsL_step (va_wsS RL 47 yL_under wsL_under) := goodIn_app (goodIn_of _ (by decide +kernel)) ggL_step_L_under
set_option maxRecDepth 20000 in
theorem ggL_step_L_hangs : GoodIn wsL_step wsL_hangs := goodIn_ca (goodIn_ca (goodIn_r _ [19, 20, 21, 22, 23, 4, 24, 25, 26, 9, 27, 28, 29, 30, 31, 32, 33, 8, 34, 35, 36, 37, 180, 181, 182, 183, 184, 185, 186, 187, 188, 189, 190] (by decide +kernel) (by decide +kernel)) (goodIn_sub (fun _ h => List.mem_cons_of_mem _ (List.mem_append_left _ (List.mem_append_left _ (List.mem_append_right _ h)))) (by decide +kernel))) (goodIn_sub (fun _ h => List.mem_cons_of_mem _ (List.mem_append_left _ (List.mem_append_right _ h))) (by decide +kernel))
set_option maxRecDepth 20000 in
theorem gL_step_L_hangs : GoodIn wsL_step (va_wsS RL 97 yL_hangs wsL_hangs) := goodIn_app (goodIn_of _ (by decide +kernel)) ggL_step_L_hangs
set_option maxRecDepth 20000 in
theorem ggL_step_X4_unhang : GoodIn wsL_step wsX4_unhang := goodIn_ca (goodIn_r _ [41, 9, 28, 29, 30, 4, 31, 32, 33, 8, 180, 181, 182, 183, 184, 185, 186, 187, 188, 189, 190] (by decide +kernel) (by decide +kernel)) (goodIn_sub (fun _ h => List.mem_cons_of_mem _ (List.mem_append_left _ (List.mem_append_right _ h))) (by decide +kernel))
set_option maxRecDepth 20000 in
theorem gL_step_X4_unhang : GoodIn wsL_step (wsV RL 101 RX4 yX4_unhang wsX4_unhang) := goodIn_app (goodIn_of _ (by decide +kernel)) ggL_step_X4_unhang
set_option maxRecDepth 20000 in
theorem ggL_step_L_rolls : GoodIn wsL_step wsL_rolls := goodIn_ca (goodIn_ca (goodIn_ca (goodIn_r _ [44, 20, 45, 46, 47, 48, 4, 49, 25, 26, 6, 7, 50, 51, 52, 28, 29, 30, 31, 32, 33, 8, 180, 181, 182, 183, 184, 185, 186, 187, 188, 189, 190] (by decide +kernel) (by decide +kernel)) (goodIn_sub (fun _ h => List.mem_cons_of_mem _ (List.mem_append_left _ (List.mem_append_left _ (List.mem_append_right _ h)))) (by decide +kernel))) (goodIn_sub (fun _ h => List.mem_cons_of_mem _ (List.mem_append_left _ (List.mem_append_left _ (List.mem_append_left _ (List.mem_append_right _ h))))) (by decide +kernel))) (goodIn_sub (fun _ h => List.mem_cons_of_mem _ (List.mem_append_left _ (List.mem_append_right _ h))) (by decide +kernel))
set_option maxRecDepth 20000 in
theorem gL_step_L_rolls : GoodIn wsL_step (va_wsS RL 104 yL_rolls wsL_rolls) := goodIn_app (goodIn_of _ (by decide +kernel)) ggL_step_L_rolls
set_option maxRecDepth 20000 in
theorem ggL_step_L_files : GoodIn wsL_step wsL_files := goodIn_ca (goodIn_r _ [55, 45, 56, 57, 58, 4, 59, 6, 7, 60, 180, 181, 182, 183, 184, 185, 186, 187, 188, 189, 190] (by decide +kernel) (by decide +kernel)) (goodIn_sub (fun _ h => List.mem_cons_of_mem _ (List.mem_append_left _ (List.mem_append_left _ (List.mem_append_left _ (List.mem_append_right _ h))))) (by decide +kernel))
set_option maxRecDepth 20000 in
theorem gL_step_L_files : GoodIn wsL_step (va_wsS RL 108 yL_files wsL_files) := goodIn_app (goodIn_of _ (by decide +kernel)) ggL_step_L_files
set_option maxRecDepth 20000 in
theorem ggL_step_X4_disagreements : GoodIn wsL_step wsX4_disagreements := goodIn_ca (goodIn_r _ [64, 65, 66, 67, 68, 69, 70, 71, 4, 72, 32, 33, 60, 73, 74, 75, 76, 77, 78, 79, 80, 81, 82, 83, 84, 85, 86, 87, 88, 89, 90, 91, 92, 93, 180, 181, 182, 183, 184, 185, 186, 187, 188, 189, 190, 191, 192, 193, 194, 195, 196, 197] (by decide +kernel) (by decide +kernel)) (goodIn_sub (fun _ h => List.mem_cons_of_mem _ (List.mem_append_left _ (List.mem_append_right _ h))) (by decide +kernel))
set_option maxRecDepth 20000 in
theorem gL_step_X4_disagreements : GoodIn wsL_step (wsV RL 83 RX4 yX4_disagreements wsX4_disagreements) := goodIn_app (goodIn_of _ (by decide +kernel)) ggL_step_X4_disagreements
set_option maxRecDepth 20000 in
theorem ggL_step_X4_restated : GoodIn wsL_step wsX4_restated := goodIn_ca (goodIn_r _ [97, 8, 69, 70, 71, 4, 72, 32, 33, 60, 98, 99, 100, 101, 102, 68, 103, 104, 105, 106, 107, 108, 109, 110, 111, 180, 181, 182, 183, 184, 185, 186, 187, 188, 189, 190, 193, 194, 195, 196, 197, 198] (by decide +kernel) (by decide +kernel)) (goodIn_sub (fun _ h => List.mem_cons_of_mem _ (List.mem_append_left _ (List.mem_append_right _ h))) (by decide +kernel))
set_option maxRecDepth 20000 in
theorem gL_step_X4_restated : GoodIn wsL_step (wsV RL 112 RX4 yX4_restated wsX4_restated) := goodIn_app (goodIn_of _ (by decide +kernel)) ggL_step_X4_restated
set_option maxRecDepth 20000 in
theorem ggL_step_L_tells : GoodIn wsL_step wsL_tells := goodIn_ca (goodIn_ca (goodIn_ca (goodIn_ca (goodIn_r _ [114, 115, 116, 117, 118, 12, 119, 120, 121, 122, 123, 124, 4, 125, 126, 127, 128, 129, 130, 131, 132, 102, 133, 134, 135, 136, 28, 29, 30, 31, 32, 33, 8, 137, 138, 139, 69, 70, 71, 72, 60, 140, 141, 142, 104, 105, 106, 107, 108, 109, 110, 111, 143, 144, 145, 146, 103, 61, 62, 63, 64, 65, 66, 67, 68, 73, 74, 75, 76, 77, 78, 79, 80, 81, 82, 83, 84, 85, 86, 87, 88, 89, 90, 91, 92, 93, 147, 148, 149, 150, 25, 26, 6, 7, 151, 152, 153, 154, 155, 156, 157, 158, 159, 160, 161, 162, 163, 164, 165, 166, 167, 168, 169, 170, 171, 172, 173, 174, 175, 176, 177, 178, 179, 193, 194, 195, 196, 197, 180, 181, 182, 183, 184, 185, 186, 187, 188, 189, 190, 198, 191, 192] (by decide +kernel) (by decide +kernel)) (goodIn_sub (fun _ h => List.mem_cons_of_mem _ (List.mem_append_right _ h)) (by decide +kernel))) (goodIn_sub (fun _ h => List.mem_cons_of_mem _ (List.mem_append_left _ (List.mem_append_right _ h))) (by decide +kernel))) (goodIn_sub (fun _ h => List.mem_cons_of_mem _ (List.mem_append_left _ (List.mem_append_left _ (List.mem_append_right _ h)))) (by decide +kernel))) (goodIn_sub (fun _ h => List.mem_cons_of_mem _ (List.mem_append_left _ (List.mem_append_left _ (List.mem_append_left _ (List.mem_append_right _ h))))) (by decide +kernel))
set_option maxRecDepth 20000 in
theorem gL_step_L_tells : GoodIn wsL_step (va_wsS RL 115 yL_tells wsL_tells) := goodIn_app (goodIn_of _ (by decide +kernel)) ggL_step_L_tells
