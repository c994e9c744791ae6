theorem dX4_tag_2 : decode cX4_tag 2 = .ok (.iconst 4, 1) := by decide +kernel
theorem dX4_tag_3 : decode cX4_tag 3 = .ok (.invokestatic 58, 3) := by decide +kernel
theorem dX4_tag_6 : decode cX4_tag 6 = .ok (.ifCond .eq 12, 3) := by decide +kernel
theorem dX4_tag_9 : decode cX4_tag 9 = .ok (.aload_n 0, 1) := by decide +kernel
theorem dX4_tag_10 : decode cX4_tag 10 = .ok (.getfield 7, 3) := by decide +kernel
theorem dX4_tag_13 : decode cX4_tag 13 = .ok (.iload_n 1, 1) := by decide +kernel
theorem dX4_tag_14 : decode cX4_tag 14 = .ok (.iaload, 1) := by decide +kernel
theorem dX4_tag_15 : decode cX4_tag 15 = .ok (.goto 4, 3) := by decide +kernel
theorem dX4_tag_18 : decode cX4_tag 18 = .ok (.iconst (-1), 1) := by decide +kernel
theorem dX4_tag_19 : decode cX4_tag 19 = .ok (.ireturn, 1) := by decide +kernel
set_option maxRecDepth 20000 in
theorem ggX4_value_X4_within : GoodIn wsX4_value wsX4_within := goodIn_r _ [5] (by decide +kernel) (by decide +kernel)
set_option maxRecDepth 20000 in
theorem gX4_value_X4_within : GoodIn wsX4_value (va_wsS RX4 58 yX4_within wsX4_within) := goodIn_app (goodIn_of _ (by decide +kernel)) ggX4_value_X4_within
theorem dX4_value_0 : decode cX4_value 0 = .ok (.iload_n 1, 1) := by decide +kernel
theorem dX4_value_1 : decode cX4_value 1 = .ok (.iconst 0, 1) := by decide +kernel
theorem dX4_value_2 : decode cX4_value 2 = .ok (.iconst 4, 1) := by decide +kernel
theorem dX4_value_3 : decode cX4_value 3 = .ok (.invokestatic 58, 3) := by decide +kernel
theorem dX4_value_6 : decode cX4_value 6 = .ok (.ifCond .eq 12, 3) := by decide +kernel
theorem dX4_value_9 : decode cX4_value 9 = .ok (.aload_n 0, 1) := by decide +kernel
theorem dX4_value_10 : decode cX4_value 10 = .ok (.getfield 13, 3) := by decide +kernel
theorem dX4_value_13 : decode cX4_value 13 = .ok (.iload_n 1, 1) := by decide +kernel
theorem dX4_value_14 : decode cX4_value 14 = .ok (.iaload, 1) := by decide +kernel
theorem dX4_value_15 : decode cX4_value 15 = .ok (.goto 4, 3) := by decide +kernel
theorem dX4_value_18 : decode cX4_value 18 = .ok (.iconst 0, 1) := by decide +kernel
theorem dX4_value_19 : decode cX4_value 19 = .ok (.ireturn, 1) := by decide +kernel
set_option maxRecDepth 20000 in
theorem ggX4_failed_X4_within : GoodIn wsX4_failed wsX4_within := goodIn_r _ [5] (by decide +kernel) (by decide +kernel)
set_option maxRecDepth 20000 in
theorem gX4_failed_X4_within : GoodIn wsX4_failed (va_wsS RX4 58 yX4_within wsX4_within) := goodIn_app (goodIn_of _ (by decide +kernel)) ggX4_failed_X4_within
theorem dX4_failed_0 : decode cX4_failed 0 = .ok (.iload_n 1, 1) := by decide +kernel
theorem dX4_failed_1 : decode cX4_failed 1 = .ok (.iconst 0, 1) := by decide +kernel
theorem dX4_failed_2 : decode cX4_failed 2 = .ok (.iconst 4, 1) := by decide +kernel
theorem dX4_failed_3 : decode cX4_failed 3 = .ok (.invokestatic 58, 3) := by decide +kernel
theorem dX4_failed_6 : decode cX4_failed 6 = .ok (.ifCond .eq 16, 3) := by decide +kernel
theorem dX4_failed_9 : decode cX4_failed 9 = .ok (.aload_n 0, 1) := by decide +kernel
theorem dX4_failed_10 : decode cX4_failed 10 = .ok (.getfield 16, 3) := by decide +kernel
theorem dX4_failed_13 : decode cX4_failed 13 = .ok (.iload_n 1, 1) := by decide +kernel
theorem dX4_failed_14 : decode cX4_failed 14 = .ok (.baload, 1) := by decide +kernel
theorem dX4_failed_15 : decode cX4_failed 15 = .ok (.ifCond .eq 7, 3) := by decide +kernel
theorem dX4_failed_18 : decode cX4_failed 18 = .ok (.iconst 1, 1) := by decide +kernel
theorem dX4_failed_19 : decode cX4_failed 19 = .ok (.goto 4, 3) := by decide +kernel
theorem dX4_failed_22 : decode cX4_failed 22 = .ok (.iconst 0, 1) := by decide +kernel
theorem dX4_failed_23 : decode cX4_failed 23 = .ok (.ireturn, 1) := by decide +kernel
set_option maxRecDepth 20000 in
theorem ggX4_phase_X4_within : GoodIn wsX4_phase wsX4_within := goodIn_r _ [5] (by decide +kernel) (by decide +kernel)
set_option maxRecDepth 20000 in
theorem gX4_phase_X4_within : GoodIn wsX4_phase (va_wsS RX4 58 yX4_within wsX4_within) := goodIn_app (goodIn_of _ (by decide +kernel)) ggX4_phase_X4_within
theorem dX4_phase_0 : decode cX4_phase 0 = .ok (.iload_n 1, 1) := by decide +kernel
theorem dX4_phase_1 : decode cX4_phase 1 = .ok (.iconst 0, 1) := by decide +kernel
theorem dX4_phase_2 : decode cX4_phase 2 = .ok (.iconst 2, 1) := by decide +kernel
theorem dX4_phase_3 : decode cX4_phase 3 = .ok (.invokestatic 58, 3) := by decide +kernel
theorem dX4_phase_6 : decode cX4_phase 6 = .ok (.ifCond .eq 12, 3) := by decide +kernel
theorem dX4_phase_9 : decode cX4_phase 9 = .ok (.aload_n 0, 1) := by decide +kernel
theorem dX4_phase_10 : decode cX4_phase 10 = .ok (.getfield 20, 3) := by decide +kernel
theorem dX4_phase_13 : decode cX4_phase 13 = .ok (.iload_n 1, 1) := by decide +kernel
theorem dX4_phase_14 : decode cX4_phase 14 = .ok (.iaload, 1) := by decide +kernel
theorem dX4_phase_15 : decode cX4_phase 15 = .ok (.goto 4, 3) := by decide +kernel
theorem dX4_phase_18 : decode cX4_phase 18 = .ok (.iconst (-1), 1) := by decide +kernel
theorem dX4_phase_19 : decode cX4_phase 19 = .ok (.ireturn, 1) := by decide +kernel
set_option maxRecDepth 20000 in
theorem ggX4_answered_X4_within : GoodIn wsX4_answered wsX4_within := goodIn_r _ [6] (by decide +kernel) (by decide +kernel)
set_option maxRecDepth 20000 in
theorem gX4_answered_X4_within : GoodIn wsX4_answered (va_wsS RX4 58 yX4_within wsX4_within) := goodIn_app (goodIn_of _ (by decide +kernel)) ggX4_answered_X4_within
theorem dX4_answered_0 : decode cX4_answered 0 = .ok (.iload_n 1, 1) := by decide +kernel
theorem dX4_answered_1 : decode cX4_answered 1 = .ok (.iconst 0, 1) := by decide +kernel
theorem dX4_answered_2 : decode cX4_answered 2 = .ok (.iconst 2, 1) := by decide +kernel
theorem dX4_answered_3 : decode cX4_answered 3 = .ok (.invokestatic 58, 3) := by decide +kernel
theorem dX4_answered_6 : decode cX4_answered 6 = .ok (.ifCond .ne 7, 3) := by decide +kernel
theorem dX4_answered_9 : decode cX4_answered 9 = .ok (.iconst (-1), 1) := by decide +kernel
theorem dX4_answered_10 : decode cX4_answered 10 = .ok (.goto 22, 3) := by decide +kernel
theorem dX4_answered_13 : decode cX4_answered 13 = .ok (.aload_n 0, 1) := by decide +kernel
theorem dX4_answered_14 : decode cX4_answered 14 = .ok (.getfield 20, 3) := by decide +kernel
theorem dX4_answered_17 : decode cX4_answered 17 = .ok (.iload_n 1, 1) := by decide +kernel
theorem dX4_answered_18 : decode cX4_answered 18 = .ok (.iaload, 1) := by decide +kernel
theorem dX4_answered_19 : decode cX4_answered 19 = .ok (.ifCond .ne 7, 3) := by decide +kernel
theorem dX4_answered_22 : decode cX4_answered 22 = .ok (.iconst 0, 1) := by decide +kernel
theorem dX4_answered_23 : decode cX4_answered 23 = .ok (.goto 9, 3) := by decide +kernel
theorem dX4_answered_26 : decode cX4_answered 26 = .ok (.aload_n 0, 1) := by decide +kernel
theorem dX4_answered_27 : decode cX4_answered 27 = .ok (.getfield 32, 3) := by decide +kernel
theorem dX4_answered_30 : decode cX4_answered 30 = .ok (.iload_n 1, 1) := by decide +kernel
theorem dX4_answered_31 : decode cX4_answered 31 = .ok (.iaload, 1) := by decide +kernel
theorem dX4_answered_32 : decode cX4_answered 32 = .ok (.ireturn, 1) := by decide +kernel
theorem dX4_finished_0 : decode cX4_finished 0 = .ok (.aload_n 0, 1) := by decide +kernel
theorem dX4_finished_1 : decode cX4_finished 1 = .ok (.getfield 78, 3) := by decide +kernel
theorem dX4_finished_4 : decode cX4_finished 4 = .ok (.ireturn, 1) := by decide +kernel
set_option maxRecDepth 20000 in
theorem ggX4_operation_X4_within : GoodIn wsX4_operation wsX4_within := goodIn_r _ [6] (by decide +kernel) (by decide +kernel)
set_option maxRecDepth 20000 in
theorem gX4_operation_X4_within : GoodIn wsX4_operation (va_wsS RX4 58 yX4_within wsX4_within) := goodIn_app (goodIn_of _ (by decide +kernel)) ggX4_operation_X4_within
theorem dX4_operation_0 : decode cX4_operation 0 = .ok (.iload_n 1, 1) := by decide +kernel
theorem dX4_operation_1 : decode cX4_operation 1 = .ok (.iconst 0, 1) := by decide +kernel
theorem dX4_operation_2 : decode cX4_operation 2 = .ok (.aload_n 0, 1) := by decide +kernel
theorem dX4_operation_3 : decode cX4_operation 3 = .ok (.getfield 78, 3) := by decide +kernel
theorem dX4_operation_6 : decode cX4_operation 6 = .ok (.iconst 1, 1) := by decide +kernel
theorem dX4_operation_7 : decode cX4_operation 7 = .ok (.isub, 1) := by decide +kernel
theorem dX4_operation_8 : decode cX4_operation 8 = .ok (.invokestatic 58, 3) := by decide +kernel
theorem dX4_operation_11 : decode cX4_operation 11 = .ok (.ifCond .ne 5, 3) := by decide +kernel
theorem dX4_operation_14 : decode cX4_operation 14 = .ok (.iconst (-1), 1) := by decide +kernel
theorem dX4_operation_15 : decode cX4_operation 15 = .ok (.ireturn, 1) := by decide +kernel
theorem dX4_operation_16 : decode cX4_operation 16 = .ok (.iload_n 2, 1) := by decide +kernel
theorem dX4_operation_17 : decode cX4_operation 17 = .ok (.iconst 0, 1) := by decide +kernel
theorem dX4_operation_18 : decode cX4_operation 18 = .ok (.iconst 4, 1) := by decide +kernel
theorem dX4_operation_19 : decode cX4_operation 19 = .ok (.invokestatic 58, 3) := by decide +kernel
theorem dX4_operation_22 : decode cX4_operation 22 = .ok (.ifCond .eq 16, 3) := by decide +kernel
theorem dX4_operation_25 : decode cX4_operation 25 = .ok (.aload_n 0, 1) := by decide +kernel
theorem dX4_operation_26 : decode cX4_operation 26 = .ok (.getfield 47, 3) := by decide +kernel
theorem dX4_operation_29 : decode cX4_operation 29 = .ok (.iconst 5, 1) := by decide +kernel
theorem dX4_operation_30 : decode cX4_operation 30 = .ok (.iload_n 1, 1) := by decide +kernel
theorem dX4_operation_31 : decode cX4_operation 31 = .ok (.imul, 1) := by decide +kernel
theorem dX4_operation_32 : decode cX4_operation 32 = .ok (.iload_n 2, 1) := by decide +kernel
theorem dX4_operation_33 : decode cX4_operation 33 = .ok (.iadd, 1) := by decide +kernel
theorem dX4_operation_34 : decode cX4_operation 34 = .ok (.iaload, 1) := by decide +kernel
theorem dX4_operation_35 : decode cX4_operation 35 = .ok (.goto 4, 3) := by decide +kernel
theorem dX4_operation_38 : decode cX4_operation 38 = .ok (.iconst 0, 1) := by decide +kernel
theorem dX4_operation_39 : decode cX4_operation 39 = .ok (.ireturn, 1) := by decide +kernel
theorem dJ6_bitCount_0f7a4_0 : decode cJ6_bitCount_0f7a4 0 = .ok (.iload_n 0, 1) := by decide +kernel
theorem dJ6_bitCount_0f7a4_1 : decode cJ6_bitCount_0f7a4 1 = .ok (.iload_n 0, 1) := by decide +kernel
theorem dJ6_bitCount_0f7a4_2 : decode cJ6_bitCount_0f7a4 2 = .ok (.iconst 1, 1) := by decide +kernel
theorem dJ6_bitCount_0f7a4_3 : decode cJ6_bitCount_0f7a4 3 = .ok (.iushr, 1) := by decide +kernel
theorem dJ6_bitCount_0f7a4_4 : decode cJ6_bitCount_0f7a4 4 = .ok (.ldc_w 265, 3) := by decide +kernel
theorem dJ6_bitCount_0f7a4_7 : decode cJ6_bitCount_0f7a4 7 = .ok (.iand, 1) := by decide +kernel
theorem dJ6_bitCount_0f7a4_8 : decode cJ6_bitCount_0f7a4 8 = .ok (.isub, 1) := by decide +kernel
theorem dJ6_bitCount_0f7a4_9 : decode cJ6_bitCount_0f7a4 9 = .ok (.istore_n 0, 1) := by decide +kernel
theorem dJ6_bitCount_0f7a4_10 : decode cJ6_bitCount_0f7a4 10 = .ok (.iload_n 0, 1) := by decide +kernel
theorem dJ6_bitCount_0f7a4_11 : decode cJ6_bitCount_0f7a4 11 = .ok (.ldc_w 266, 3) := by decide +kernel
theorem dJ6_bitCount_0f7a4_14 : decode cJ6_bitCount_0f7a4 14 = .ok (.iand, 1) := by decide +kernel
theorem dJ6_bitCount_0f7a4_15 : decode cJ6_bitCount_0f7a4 15 = .ok (.iload_n 0, 1) := by decide +kernel
theorem dJ6_bitCount_0f7a4_16 : decode cJ6_bitCount_0f7a4 16 = .ok (.iconst 2, 1) := by decide +kernel
theorem dJ6_bitCount_0f7a4_17 : decode cJ6_bitCount_0f7a4 17 = .ok (.iushr, 1) := by decide +kernel
theorem dJ6_bitCount_0f7a4_18 : decode cJ6_bitCount_0f7a4 18 = .ok (.ldc_w 266, 3) := by decide +kernel
theorem dJ6_bitCount_0f7a4_21 : decode cJ6_bitCount_0f7a4 21 = .ok (.iand, 1) := by decide +kernel
theorem dJ6_bitCount_0f7a4_22 : decode cJ6_bitCount_0f7a4 22 = .ok (.iadd, 1) := by decide +kernel
theorem dJ6_bitCount_0f7a4_23 : decode cJ6_bitCount_0f7a4 23 = .ok (.istore_n 0, 1) := by decide +kernel
theorem dJ6_bitCount_0f7a4_24 : decode cJ6_bitCount_0f7a4 24 = .ok (.iload_n 0, 1) := by decide +kernel
theorem dJ6_bitCount_0f7a4_25 : decode cJ6_bitCount_0f7a4 25 = .ok (.iload_n 0, 1) := by decide +kernel
theorem dJ6_bitCount_0f7a4_26 : decode cJ6_bitCount_0f7a4 26 = .ok (.iconst 4, 1) := by decide +kernel
theorem dJ6_bitCount_0f7a4_27 : decode cJ6_bitCount_0f7a4 27 = .ok (.iushr, 1) := by decide +kernel
theorem dJ6_bitCount_0f7a4_28 : decode cJ6_bitCount_0f7a4 28 = .ok (.iadd, 1) := by decide +kernel
theorem dJ6_bitCount_0f7a4_29 : decode cJ6_bitCount_0f7a4 29 = .ok (.ldc_w 267, 3) := by decide +kernel
theorem dJ6_bitCount_0f7a4_32 : decode cJ6_bitCount_0f7a4 32 = .ok (.iand, 1) := by decide +kernel
theorem dJ6_bitCount_0f7a4_33 : decode cJ6_bitCount_0f7a4 33 = .ok (.istore_n 0, 1) := by decide +kernel
theorem dJ6_bitCount_0f7a4_34 : decode cJ6_bitCount_0f7a4 34 = .ok (.iload_n 0, 1) := by decide +kernel
theorem dJ6_bitCount_0f7a4_35 : decode cJ6_bitCount_0f7a4 35 = .ok (.iload_n 0, 1) := by decide +kernel
theorem dJ6_bitCount_0f7a4_36 : decode cJ6_bitCount_0f7a4 36 = .ok (.bipush 8, 2) := by decide +kernel
theorem dJ6_bitCount_0f7a4_38 : decode cJ6_bitCount_0f7a4 38 = .ok (.iushr, 1) := by decide +kernel
theorem dJ6_bitCount_0f7a4_39 : decode cJ6_bitCount_0f7a4 39 = .ok (.iadd, 1) := by decide +kernel
theorem dJ6_bitCount_0f7a4_40 : decode cJ6_bitCount_0f7a4 40 = .ok (.istore_n 0, 1) := by decide +kernel
theorem dJ6_bitCount_0f7a4_41 : decode cJ6_bitCount_0f7a4 41 = .ok (.iload_n 0, 1) := by decide +kernel
theorem dJ6_bitCount_0f7a4_42 : decode cJ6_bitCount_0f7a4 42 = .ok (.iload_n 0, 1) := by decide +kernel
theorem dJ6_bitCount_0f7a4_43 : decode cJ6_bitCount_0f7a4 43 = .ok (.bipush 16, 2) := by decide +kernel
theorem dJ6_bitCount_0f7a4_45 : decode cJ6_bitCount_0f7a4 45 = .ok (.iushr, 1) := by decide +kernel
theorem dJ6_bitCount_0f7a4_46 : decode cJ6_bitCount_0f7a4 46 = .ok (.iadd, 1) := by decide +kernel
theorem dJ6_bitCount_0f7a4_47 : decode cJ6_bitCount_0f7a4 47 = .ok (.istore_n 0, 1) := by decide +kernel
theorem dJ6_bitCount_0f7a4_48 : decode cJ6_bitCount_0f7a4 48 = .ok (.iload_n 0, 1) := by decide +kernel
theorem dJ6_bitCount_0f7a4_49 : decode cJ6_bitCount_0f7a4 49 = .ok (.bipush 63, 2) := by decide +kernel
theorem dJ6_bitCount_0f7a4_51 : decode cJ6_bitCount_0f7a4 51 = .ok (.iand, 1) := by decide +kernel
theorem dJ6_bitCount_0f7a4_52 : decode cJ6_bitCount_0f7a4 52 = .ok (.ireturn, 1) := by decide +kernel
theorem dJ9_max_7cf53_0 : decode cJ9_max_7cf53 0 = .ok (.iload_n 0, 1) := by decide +kernel
theorem dJ9_max_7cf53_1 : decode cJ9_max_7cf53 1 = .ok (.iload_n 1, 1) := by decide +kernel
theorem dJ9_max_7cf53_2 : decode cJ9_max_7cf53 2 = .ok (.if_icmp .lt 7, 3) := by decide +kernel
theorem dJ9_max_7cf53_5 : decode cJ9_max_7cf53 5 = .ok (.iload_n 0, 1) := by decide +kernel
theorem dJ9_max_7cf53_6 : decode cJ9_max_7cf53 6 = .ok (.goto 4, 3) := by decide +kernel
theorem dJ9_max_7cf53_9 : decode cJ9_max_7cf53 9 = .ok (.iload_n 1, 1) := by decide +kernel
theorem dJ9_max_7cf53_10 : decode cJ9_max_7cf53 10 = .ok (.ireturn, 1) := by decide +kernel
set_option maxRecDepth 20000 in
theorem ggL_law_X3_init : GoodIn wsL_law wsX3_init := goodIn_r _ [8, 9, 10, 11, 12, 13, 14, 15, 16, 17, 18, 19, 20, 21, 22, 23, 24, 25, 26, 27, 28, 29, 30, 31, 32, 33, 34, 35, 36, 37, 38, 39, 40, 41, 42, 338, 339, 340, 341, 358, 359, 360, 361, 362, 363, 364, 365, 366, 367, 368, 369, 370, 371, 372] (by decide +kernel) (by decide +kernel)
set_option maxRecDepth 20000 in
theorem gL_law_X3_init : GoodIn wsL_law (wsX3_init) := ggL_law_X3_init
set_option maxRecDepth 20000 in
theorem ggL_law_X4_init : GoodIn wsL_law wsX4_init := goodIn_r _ [45, 46, 10, 11, 41, 47, 48, 49, 50, 51, 52, 53, 54, 55, 56, 57, 58, 59, 60, 342, 343, 344, 345, 346, 347, 348, 349, 350, 351, 352, 353, 354, 355, 356, 357] (by decide +kernel) (by decide +kernel)
set_option maxRecDepth 20000 in
theorem gL_law_X4_init : GoodIn wsL_law (wsX4_init) := ggL_law_X4_init
set_option maxRecDepth 20000 in
theorem ggL_law_X3_write : GoodIn wsL_law wsX3_write := goodIn_r _ [64, 65, 66, 67, 2, 68, 17, 69, 70, 71, 72, 73, 74, 75, 76, 77, 78, 79, 80, 81, 23, 82, 83, 84, 85, 19, 86, 87, 88, 89, 90, 91, 92, 93, 94, 95, 96, 97, 98, 99, 22, 100, 101, 40, 102, 103, 104, 105, 42, 39, 106, 107, 108, 109, 110, 111, 112, 113, 338, 339, 340, 341, 361, 362, 363, 364, 365, 366, 367, 368, 369, 370, 371, 372] (by decide +kernel) (by decide +kernel)
set_option maxRecDepth 20000 in
theorem gL_law_X3_write : GoodIn wsL_law (wsV RL 13 RX3 yX3_write wsX3_write) := goodIn_app (goodIn_of _ (by decide +kernel)) ggL_law_X3_write
set_option maxRecDepth 20000 in
theorem ggL_law_X4_write : GoodIn wsL_law wsX4_write := goodIn_r _ [117, 118, 119, 120, 5, 121, 51, 122, 52, 53, 54, 55, 56, 57, 123, 124, 125, 126, 127, 128, 129, 130, 131, 132, 133, 59, 342, 343, 344, 345, 346, 347, 348, 349, 350, 351, 352, 353, 354, 355, 356, 357] (by decide +kernel) (by decide +kernel)
set_option maxRecDepth 20000 in
theorem gL_law_X4_write : GoodIn wsL_law (wsV RL 17 RX4 yX4_write wsX4_write) := goodIn_app (goodIn_of _ (by decide +kernel)) ggL_law_X4_write
set_option maxRecDepth 20000 in
theorem ggL_law_X3_read : GoodIn wsL_law wsX3_read := goodIn_r _ [137, 65, 66, 67, 2, 68, 17, 69, 70, 71, 72, 73, 74, 75, 76, 77, 78, 79, 80, 81, 23, 82, 83, 84, 85, 19, 86, 87, 88, 89, 90, 91, 92, 93, 94, 95, 96, 97, 98, 99, 22, 100, 101, 40, 102, 103, 104, 105, 42, 39, 106, 107, 108, 109, 110, 111, 112, 113, 338, 339, 340, 341, 361, 362, 363, 364, 365, 366, 367, 368, 369, 370, 371, 372] (by decide +kernel) (by decide +kernel)
set_option maxRecDepth 20000 in
theorem gL_law_X3_read : GoodIn wsL_law (wsV RL 18 RX3 yX3_read wsX3_read) := goodIn_app (goodIn_of _ (by decide +kernel)) ggL_law_X3_read
set_option maxRecDepth 20000 in
theorem ggL_law_X4_read : GoodIn wsL_law wsX4_read := goodIn_r _ [141, 118, 119, 120, 5, 121, 51, 122, 52, 53, 54, 55, 56, 57, 123, 124, 125, 126, 127, 128, 129, 130, 131, 132, 133, 59, 342, 343, 344, 345, 346, 347, 348, 349, 350, 351, 352, 353, 354, 355, 356, 357] (by decide +kernel) (by decide +kernel)
set_option maxRecDepth 20000 in
theorem gL_law_X4_read : GoodIn wsL_law (wsV RL 22 RX4 yX4_read wsX4_read) := goodIn_app (goodIn_of _ (by decide +kernel)) ggL_law_X4_read
set_option maxRecDepth 20000 in
theorem ggL_law_X3_leave : GoodIn wsL_law wsX3_leave := goodIn_r _ [145, 17, 69, 75, 76, 2, 77, 83, 84, 85, 19, 86, 87, 88, 338, 339, 340, 341, 361, 362, 363, 364, 365, 366, 367, 368] (by decide +kernel) (by decide +kernel)
set_option maxRecDepth 20000 in
theorem gL_law_X3_leave : GoodIn wsL_law (wsV RL 23 RX3 yX3_leave wsX3_leave) := goodIn_app (goodIn_of _ (by decide +kernel)) ggL_law_X3_leave
set_option maxRecDepth 20000 in
theorem ggL_law_X4_leave : GoodIn wsL_law wsX4_leave := goodIn_r _ [149, 51, 123, 124, 5, 125, 342, 343, 344, 345, 346, 347, 348, 349, 350, 351, 352, 353, 354, 355, 356, 357] (by decide +kernel) (by decide +kernel)
set_option maxRecDepth 20000 in
theorem gL_law_X4_leave : GoodIn wsL_law (wsV RL 27 RX4 yX4_leave wsX4_leave) := goodIn_app (goodIn_of _ (by decide +kernel)) ggL_law_X4_leave
set_option maxRecDepth 20000 in
theorem ggL_law_X3_deliver : GoodIn wsL_law wsX3_deliver := goodIn_r _ [153, 23, 82, 154, 107, 108, 22, 109, 101, 155, 156, 157, 158, 42, 39, 106, 110, 111, 112, 113, 75, 76, 2, 77, 159, 160, 161, 162, 163, 164, 165, 166, 167, 168, 169, 170, 171, 172, 173, 13, 174, 175, 176, 93, 94, 95, 96, 97, 98, 99, 100, 40, 102, 103, 104, 105, 177, 178, 179, 180, 17, 73, 74, 181, 182, 183, 19, 184, 185, 87, 88, 186, 187, 188, 189, 190, 191, 192, 193, 194, 195, 196, 197, 198, 199, 200, 201, 202, 203, 204, 71, 205, 206, 36, 37, 38, 72, 83, 84, 85, 86, 89, 90, 91, 92, 70, 207, 208, 209, 210, 211, 212, 213, 214, 215, 216, 217, 218, 24, 338, 339, 340, 341, 369, 370, 371, 372, 358, 359, 360, 361, 362, 363, 364, 365, 366, 367, 368] (by decide +kernel) (by decide +kernel)
set_option maxRecDepth 20000 in
theorem gL_law_X3_deliver : GoodIn wsL_law (wsV RL 28 RX3 yX3_deliver wsX3_deliver) := goodIn_app (goodIn_of _ (by decide +kernel)) ggL_law_X3_deliver
set_option maxRecDepth 20000 in
theorem ggL_law_X4_deliver : GoodIn wsL_law wsX4_deliver := goodIn_r _ [222, 122, 59, 50, 47, 48, 52, 51, 55, 56, 57, 53, 58, 54, 223, 60, 123, 124, 5, 125, 224, 225, 226, 227, 130, 131, 132, 133, 228, 229, 230, 126, 127, 128, 129, 342, 343, 344, 345, 346, 347, 348, 349, 350, 351, 352, 353, 354, 355, 356, 357] (by decide +kernel) (by decide +kernel)
set_option maxRecDepth 20000 in
theorem gL_law_X4_deliver : GoodIn wsL_law (wsV RL 31 RX4 yX4_deliver wsX4_deliver) := goodIn_app (goodIn_of _ (by decide +kernel)) ggL_law_X4_deliver
set_option maxRecDepth 20000 in
theorem ggL_law_X3_lose : GoodIn wsL_law wsX3_lose := goodIn_r _ [234, 23, 154, 107, 108, 22, 109, 101, 162, 163, 164, 165, 39, 42, 166, 167, 168, 169, 106, 338, 339, 340, 341, 369, 370, 371, 372] (by decide +kernel) (by decide +kernel)
set_option maxRecDepth 20000 in
theorem gL_law_X3_lose : GoodIn wsL_law (wsV RL 32 RX3 yX3_lose wsX3_lose) := goodIn_app (goodIn_of _ (by decide +kernel)) ggL_law_X3_lose
set_option maxRecDepth 20000 in
theorem ggL_law_X4_lose : GoodIn wsL_law wsX4_lose := goodIn_r _ [238, 122, 123, 124, 5, 125, 224, 225, 226, 227, 59, 342, 343, 344, 345, 346, 347, 348, 349, 350, 351, 352, 353, 354, 355, 356, 357] (by decide +kernel) (by decide +kernel)
set_option maxRecDepth 20000 in
theorem gL_law_X4_lose : GoodIn wsL_law (wsV RL 35 RX4 yX4_lose wsX4_lose) := goodIn_app (goodIn_of _ (by decide +kernel)) ggL_law_X4_lose
set_option maxRecDepth 20000 in
theorem ggL_law_X3_repeat : GoodIn wsL_law wsX3_repeat := goodIn_r _ [242, 23, 154, 107, 108, 22, 109, 101, 78, 79, 80, 2, 81, 82, 243, 244, 245, 246, 42, 39, 166, 167, 168, 169, 106, 247, 98, 99, 100, 40, 338, 339, 340, 341, 369, 370, 371, 372] (by decide +kernel) (by decide +kernel)
set_option maxRecDepth 20000 in
theorem gL_law_X3_repeat : GoodIn wsL_law (wsV RL 36 RX3 yX3_repeat wsX3_repeat) := goodIn_app (goodIn_of _ (by decide +kernel)) ggL_law_X3_repeat
set_option maxRecDepth 20000 in
theorem ggL_law_X4_repeat : GoodIn wsL_law wsX4_repeat := goodIn_r _ [251, 122, 59, 123, 124, 5, 125, 130, 131, 132, 133, 342, 343, 344, 345, 346, 347, 348, 349, 350, 351, 352, 353, 354, 355, 356, 357] (by decide +kernel) (by decide +kernel)
set_option maxRecDepth 20000 in
theorem gL_law_X4_repeat : GoodIn wsL_law (wsV RL 39 RX4 yX4_repeat wsX4_repeat) := goodIn_app (goodIn_of _ (by decide +kernel)) ggL_law_X4_repeat
set_option maxRecDepth 20000 in
theorem ggL_law_X3_fail : GoodIn wsL_law wsX3_fail := goodIn_r _ [255, 13, 174, 159, 160, 2, 161, 256, 257, 258, 259, 338, 339, 340, 341, 358, 359, 360] (by decide +kernel) (by decide +kernel)
set_option maxRecDepth 20000 in
theorem gL_law_X3_fail : GoodIn wsL_law (wsV RL 40 RX3 yX3_fail wsX3_fail) := goodIn_app (goodIn_of _ (by decide +kernel)) ggL_law_X3_fail
set_option maxRecDepth 20000 in
theorem ggL_law_X4_fail : GoodIn wsL_law wsX4_fail := goodIn_r _ [263, 50, 264, 123, 124, 5, 125, 342, 343, 344, 345, 346, 347, 348, 349, 350, 351, 352, 353, 354, 355, 356, 357] (by decide +kernel) (by decide +kernel)
set_option maxRecDepth 20000 in
theorem gL_law_X4_fail : GoodIn wsL_law (wsV RL 43 RX4 yX4_fail wsX4_fail) := goodIn_app (goodIn_of _ (by decide +kernel)) ggL_law_X4_fail
set_option maxRecDepth 20000 in
theorem ggL_law_X3_messages : GoodIn wsL_law wsX3_messages := goodIn_r _ [268, 23, 82, 338, 339, 340, 341, 369, 370, 371, 372] (by decide +kernel) (by decide +kernel)
set_option maxRecDepth 20000 in
theorem gL_law_X3_messages : GoodIn wsL_law (wsV RL 44 RX3 yX3_messages wsX3_messages) := goodIn_app (goodIn_of _ (by decide +kernel)) ggL_law_X3_messages
set_option maxRecDepth 20000 in
theorem ggL_law_X4_messages : GoodIn wsL_law wsX4_messages := goodIn_r _ [272, 122, 342, 343, 344, 345, 346, 347, 348, 349, 350, 351, 352, 353, 354, 355, 356, 357] (by decide +kernel) (by decide +kernel)
set_option maxRecDepth 20000 in
theorem gL_law_X4_messages : GoodIn wsL_law (wsV RL 48 RX4 yX4_messages wsX4_messages) := goodIn_app (goodIn_of _ (by decide +kernel)) ggL_law_X4_messages
set_option maxRecDepth 20000 in
theorem ggL_law_X3_message : GoodIn wsL_law wsX3_message := goodIn_r _ [276, 23, 155, 156, 157, 22, 158, 42, 39, 106, 107, 108, 109, 101, 110, 111, 112, 113, 338, 339, 340, 341, 369, 370, 371, 372] (by decide +kernel) (by decide +kernel)
set_option maxRecDepth 20000 in
theorem gL_law_X3_message : GoodIn wsL_law (wsV RL 49 RX3 yX3_message wsX3_message) := goodIn_app (goodIn_of _ (by decide +kernel)) ggL_law_X3_message
set_option maxRecDepth 20000 in
theorem ggL_law_X4_message : GoodIn wsL_law wsX4_message := goodIn_r _ [280, 122, 59, 123, 124, 5, 125, 342, 343, 344, 345, 346, 347, 348, 349, 350, 351, 352, 353, 354, 355, 356, 357] (by decide +kernel) (by decide +kernel)
set_option maxRecDepth 20000 in
theorem gL_law_X4_message : GoodIn wsL_law (wsV RL 52 RX4 yX4_message wsX4_message) := goodIn_app (goodIn_of _ (by decide +kernel)) ggL_law_X4_message
set_option maxRecDepth 20000 in
theorem ggL_law_X3_tag : GoodIn wsL_law wsX3_tag := goodIn_r _ [284, 13, 175, 159, 160, 2, 161, 338, 339, 340, 341, 358, 359, 360] (by decide +kernel) (by decide +kernel)
set_option maxRecDepth 20000 in
theorem gL_law_X3_tag : GoodIn wsL_law (wsV RL 53 RX3 yX3_tag wsX3_tag) := goodIn_app (goodIn_of _ (by decide +kernel)) ggL_law_X3_tag
set_option maxRecDepth 20000 in
theorem ggL_law_X4_tag : GoodIn wsL_law wsX4_tag := goodIn_r _ [288, 47, 123, 124, 5, 125, 342, 343, 344, 345, 346, 347, 348, 349, 350, 351, 352, 353, 354, 355, 356, 357] (by decide +kernel) (by decide +kernel)
set_option maxRecDepth 20000 in
theorem gL_law_X4_tag : GoodIn wsL_law (wsV RL 56 RX4 yX4_tag wsX4_tag) := goodIn_app (goodIn_of _ (by decide +kernel)) ggL_law_X4_tag
set_option maxRecDepth 20000 in
theorem ggL_law_X3_value : GoodIn wsL_law wsX3_value := goodIn_r _ [292, 13, 176, 159, 160, 2, 161, 338, 339, 340, 341, 358, 359, 360] (by decide +kernel) (by decide +kernel)
set_option maxRecDepth 20000 in
theorem gL_law_X3_value : GoodIn wsL_law (wsV RL 57 RX3 yX3_value wsX3_value) := goodIn_app (goodIn_of _ (by decide +kernel)) ggL_law_X3_value
set_option maxRecDepth 20000 in
theorem ggL_law_X4_value : GoodIn wsL_law wsX4_value := goodIn_r _ [296, 48, 123, 124, 5, 125, 342, 343, 344, 345, 346, 347, 348, 349, 350, 351, 352, 353, 354, 355, 356, 357] (by decide +kernel) (by decide +kernel)
set_option maxRecDepth 20000 in
theorem gL_law_X4_value : GoodIn wsL_law (wsV RL 60 RX4 yX4_value wsX4_value) := goodIn_app (goodIn_of _ (by decide +kernel)) ggL_law_X4_value
set_option maxRecDepth 20000 in
theorem ggL_law_X3_failed : GoodIn wsL_law wsX3_failed := goodIn_r _ [300, 13, 174, 159, 160, 2, 161, 338, 339, 340, 341, 358, 359, 360] (by decide +kernel) (by decide +kernel)
set_option maxRecDepth 20000 in
theorem gL_law_X3_failed : GoodIn wsL_law (wsV RL 61 RX3 yX3_failed wsX3_failed) := goodIn_app (goodIn_of _ (by decide +kernel)) ggL_law_X3_failed
set_option maxRecDepth 20000 in
theorem ggL_law_X4_failed : GoodIn wsL_law wsX4_failed := goodIn_r _ [304, 50, 123, 124, 5, 125, 342, 343, 344, 345, 346, 347, 348, 349, 350, 351, 352, 353, 354, 355, 356, 357] (by decide +kernel) (by decide +kernel)
set_option maxRecDepth 20000 in
theorem gL_law_X4_failed : GoodIn wsL_law (wsV RL 64 RX4 yX4_failed wsX4_failed) := goodIn_app (goodIn_of _ (by decide +kernel)) ggL_law_X4_failed
set_option maxRecDepth 20000 in
theorem ggL_law_X3_phase : GoodIn wsL_law wsX3_phase := goodIn_r _ [308, 17, 69, 75, 76, 2, 77, 338, 339, 340, 341, 361, 362, 363, 364, 365, 366, 367, 368] (by decide +kernel) (by decide +kernel)
set_option maxRecDepth 20000 in
theorem gL_law_X3_phase : GoodIn wsL_law (wsV RL 65 RX3 yX3_phase wsX3_phase) := goodIn_app (goodIn_of _ (by decide +kernel)) ggL_law_X3_phase
set_option maxRecDepth 20000 in
theorem ggL_law_X4_phase : GoodIn wsL_law wsX4_phase := goodIn_r _ [312, 51, 123, 124, 5, 125, 342, 343, 344, 345, 346, 347, 348, 349, 350, 351, 352, 353, 354, 355, 356, 357] (by decide +kernel) (by decide +kernel)
set_option maxRecDepth 20000 in
theorem gL_law_X4_phase : GoodIn wsL_law (wsV RL 68 RX4 yX4_phase wsX4_phase) := goodIn_app (goodIn_of _ (by decide +kernel)) ggL_law_X4_phase
set_option maxRecDepth 20000 in
theorem ggL_law_X3_answered : GoodIn wsL_law wsX3_answered := goodIn_r _ [316, 17, 317, 75, 76, 2, 77, 338, 339, 340, 341, 361, 362, 363, 364, 365, 366, 367, 368] (by decide +kernel) (by decide +kernel)
set_option maxRecDepth 20000 in
theorem gL_law_X3_answered : GoodIn wsL_law (wsV RL 69 RX3 yX3_answered wsX3_answered) := goodIn_app (goodIn_of _ (by decide +kernel)) ggL_law_X3_answered
set_option maxRecDepth 20000 in
theorem ggL_law_X4_answered : GoodIn wsL_law wsX4_answered := goodIn_r _ [321, 51, 55, 123, 124, 5, 125, 342, 343, 344, 345, 346, 347, 348, 349, 350, 351, 352, 353, 354, 355, 356, 357] (by decide +kernel) (by decide +kernel)
set_option maxRecDepth 20000 in
theorem gL_law_X4_answered : GoodIn wsL_law (wsV RL 72 RX4 yX4_answered wsX4_answered) := goodIn_app (goodIn_of _ (by decide +kernel)) ggL_law_X4_answered
set_option maxRecDepth 20000 in
theorem ggL_law_X3_finished : GoodIn wsL_law wsX3_finished := goodIn_r _ [325, 24, 82, 338, 339, 340, 341, 369, 370, 371, 372] (by decide +kernel) (by decide +kernel)
set_option maxRecDepth 20000 in
theorem gL_law_X3_finished : GoodIn wsL_law (wsV RL 73 RX3 yX3_finished wsX3_finished) := goodIn_app (goodIn_of _ (by decide +kernel)) ggL_law_X3_finished
set_option maxRecDepth 20000 in
theorem ggL_law_X4_finished : GoodIn wsL_law wsX4_finished := goodIn_r _ [329, 223, 342, 343, 344, 345, 346, 347, 348, 349, 350, 351, 352, 353, 354, 355, 356, 357] (by decide +kernel) (by decide +kernel)
set_option maxRecDepth 20000 in
theorem gL_law_X4_finished : GoodIn wsL_law (wsV RL 76 RX4 yX4_finished wsX4_finished) := goodIn_app (goodIn_of _ (by decide +kernel)) ggL_law_X4_finished
set_option maxRecDepth 20000 in
theorem ggL_law_X3_operation : GoodIn wsL_law wsX3_operation := goodIn_r _ [333, 24, 155, 156, 157, 22, 158, 42, 39, 106, 107, 108, 109, 101, 110, 111, 112, 113, 338, 339, 340, 341, 369, 370, 371, 372] (by decide +kernel) (by decide +kernel)
set_option maxRecDepth 20000 in
theorem gL_law_X3_operation : GoodIn wsL_law (wsV RL 77 RX3 yX3_operation wsX3_operation) := goodIn_app (goodIn_of _ (by decide +kernel)) ggL_law_X3_operation
set_option maxRecDepth 20000 in
theorem ggL_law_X4_operation : GoodIn wsL_law wsX4_operation := goodIn_r _ [337, 223, 60, 123, 124, 5, 125, 342, 343, 344, 345, 346, 347, 348, 349, 350, 351, 352, 353, 354, 355, 356, 357] (by decide +kernel) (by decide +kernel)
set_option maxRecDepth 20000 in
theorem gL_law_X4_operation : GoodIn wsL_law (wsV RL 80 RX4 yX4_operation wsX4_operation) := goodIn_app (goodIn_of _ (by decide +kernel)) ggL_law_X4_operation
theorem dL_law_0 : decode cL_law 0 = .ok (.new 7, 3) := by decide +kernel
theorem dL_law_3 : decode cL_law 3 = .ok (.dup, 1) := by decide +kernel
theorem dL_law_4 : decode cL_law 4 = .ok (.invokespecial 9, 3) := by decide +kernel
theorem dL_law_7 : decode cL_law 7 = .ok (.astore_n 1, 1) := by decide +kernel
theorem dL_law_8 : decode cL_law 8 = .ok (.new 10, 3) := by decide +kernel
theorem dL_law_11 : decode cL_law 11 = .ok (.dup, 1) := by decide +kernel
theorem dL_law_12 : decode cL_law 12 = .ok (.invokespecial 12, 3) := by decide +kernel
theorem dL_law_15 : decode cL_law 15 = .ok (.astore_n 2, 1) := by decide +kernel
theorem dL_law_16 : decode cL_law 16 = .ok (.iconst 0, 1) := by decide +kernel
theorem dL_law_17 : decode cL_law 17 = .ok (.istore_n 3, 1) := by decide +kernel
theorem dL_law_18 : decode cL_law 18 = .ok (.iload_n 3, 1) := by decide +kernel
theorem dL_law_19 : decode cL_law 19 = .ok (.aload_n 0, 1) := by decide +kernel
theorem dL_law_20 : decode cL_law 20 = .ok (.arraylength, 1) := by decide +kernel
theorem dL_law_21 : decode cL_law 21 = .ok (.iconst 3, 1) := by decide +kernel
theorem dL_law_22 : decode cL_law 22 = .ok (.isub, 1) := by decide +kernel
theorem dL_law_23 : decode cL_law 23 = .ok (.if_icmp .gt 473, 3) := by decide +kernel
theorem dL_law_26 : decode cL_law 26 = .ok (.aload_n 0, 1) := by decide +kernel
theorem dL_law_27 : decode cL_law 27 = .ok (.iload_n 3, 1) := by decide +kernel
theorem dL_law_28 : decode cL_law 28 = .ok (.iaload, 1) := by decide +kernel
theorem dL_law_29 : decode cL_law 29 = .ok (.bipush 15, 2) := by decide +kernel
theorem dL_law_31 : decode cL_law 31 = .ok (.iand, 1) := by decide +kernel
theorem dL_law_32 : decode cL_law 32 = .ok (.tableswitch 458 0 15 #[80, 113, 136, 159, 182, 205, 228, 251, 264, 297, 320, 343, 366, 389, 412, 425], 80) := by decide +kernel
theorem dL_law_112 : decode cL_law 112 = .ok (.aload_n 1, 1) := by decide +kernel
theorem dL_law_113 : decode cL_law 113 = .ok (.aload_n 0, 1) := by decide +kernel
theorem dL_law_114 : decode cL_law 114 = .ok (.iload_n 3, 1) := by decide +kernel
theorem dL_law_115 : decode cL_law 115 = .ok (.iconst 1, 1) := by decide +kernel
theorem dL_law_116 : decode cL_law 116 = .ok (.iadd, 1) := by decide +kernel
theorem dL_law_117 : decode cL_law 117 = .ok (.iaload, 1) := by decide +kernel
theorem dL_law_118 : decode cL_law 118 = .ok (.aload_n 0, 1) := by decide +kernel
theorem dL_law_119 : decode cL_law 119 = .ok (.iload_n 3, 1) := by decide +kernel
theorem dL_law_120 : decode cL_law 120 = .ok (.iconst 2, 1) := by decide +kernel
theorem dL_law_121 : decode cL_law 121 = .ok (.iadd, 1) := by decide +kernel
theorem dL_law_122 : decode cL_law 122 = .ok (.iaload, 1) := by decide +kernel
theorem dL_law_123 : decode cL_law 123 = .ok (.invokevirtual 13, 3) := by decide +kernel
theorem dL_law_126 : decode cL_law 126 = .ok (.aload_n 2, 1) := by decide +kernel
theorem dL_law_127 : decode cL_law 127 = .ok (.aload_n 0, 1) := by decide +kernel
theorem dL_law_128 : decode cL_law 128 = .ok (.iload_n 3, 1) := by decide +kernel
theorem dL_law_129 : decode cL_law 129 = .ok (.iconst 1, 1) := by decide +kernel
theorem dL_law_130 : decode cL_law 130 = .ok (.iadd, 1) := by decide +kernel
theorem dL_law_131 : decode cL_law 131 = .ok (.iaload, 1) := by decide +kernel
theorem dL_law_132 : decode cL_law 132 = .ok (.aload_n 0, 1) := by decide +kernel
theorem dL_law_133 : decode cL_law 133 = .ok (.iload_n 3, 1) := by decide +kernel
theorem dL_law_134 : decode cL_law 134 = .ok (.iconst 2, 1) := by decide +kernel
theorem dL_law_135 : decode cL_law 135 = .ok (.iadd, 1) := by decide +kernel
theorem dL_law_136 : decode cL_law 136 = .ok (.iaload, 1) := by decide +kernel
theorem dL_law_137 : decode cL_law 137 = .ok (.invokevirtual 17, 3) := by decide +kernel
theorem dL_law_140 : decode cL_law 140 = .ok (.if_icmp .eq 350, 3) := by decide +kernel
theorem dL_law_143 : decode cL_law 143 = .ok (.iconst 0, 1) := by decide +kernel
theorem dL_law_144 : decode cL_law 144 = .ok (.ireturn, 1) := by decide +kernel
theorem dL_law_145 : decode cL_law 145 = .ok (.aload_n 1, 1) := by decide +kernel
theorem dL_law_146 : decode cL_law 146 = .ok (.aload_n 0, 1) := by decide +kernel
theorem dL_law_147 : decode cL_law 147 = .ok (.iload_n 3, 1) := by decide +kernel
theorem dL_law_148 : decode cL_law 148 = .ok (.iconst 1, 1) := by decide +kernel
theorem dL_law_149 : decode cL_law 149 = .ok (.iadd, 1) := by decide +kernel
theorem dL_law_150 : decode cL_law 150 = .ok (.iaload, 1) := by decide +kernel
theorem dL_law_151 : decode cL_law 151 = .ok (.invokevirtual 18, 3) := by decide +kernel
theorem dL_law_154 : decode cL_law 154 = .ok (.aload_n 2, 1) := by decide +kernel
theorem dL_law_155 : decode cL_law 155 = .ok (.aload_n 0, 1) := by decide +kernel
theorem dL_law_156 : decode cL_law 156 = .ok (.iload_n 3, 1) := by decide +kernel
theorem dL_law_157 : decode cL_law 157 = .ok (.iconst 1, 1) := by decide +kernel
theorem dL_law_158 : decode cL_law 158 = .ok (.iadd, 1) := by decide +kernel
theorem dL_law_159 : decode cL_law 159 = .ok (.iaload, 1) := by decide +kernel
theorem dL_law_160 : decode cL_law 160 = .ok (.invokevirtual 22, 3) := by decide +kernel
theorem dL_law_163 : decode cL_law 163 = .ok (.if_icmp .eq 327, 3) := by decide +kernel
theorem dL_law_166 : decode cL_law 166 = .ok (.iconst 0, 1) := by decide +kernel
theorem dL_law_167 : decode cL_law 167 = .ok (.ireturn, 1) := by decide +kernel
theorem dL_law_168 : decode cL_law 168 = .ok (.aload_n 1, 1) := by decide +kernel
theorem dL_law_169 : decode cL_law 169 = .ok (.aload_n 0, 1) := by decide +kernel
theorem dL_law_170 : decode cL_law 170 = .ok (.iload_n 3, 1) := by decide +kernel
theorem dL_law_171 : decode cL_law 171 = .ok (.iconst 1, 1) := by decide +kernel
theorem dL_law_172 : decode cL_law 172 = .ok (.iadd, 1) := by decide +kernel
theorem dL_law_173 : decode cL_law 173 = .ok (.iaload, 1) := by decide +kernel
theorem dL_law_174 : decode cL_law 174 = .ok (.invokevirtual 23, 3) := by decide +kernel
theorem dL_law_177 : decode cL_law 177 = .ok (.aload_n 2, 1) := by decide +kernel
theorem dL_law_178 : decode cL_law 178 = .ok (.aload_n 0, 1) := by decide +kernel
theorem dL_law_179 : decode cL_law 179 = .ok (.iload_n 3, 1) := by decide +kernel
theorem dL_law_180 : decode cL_law 180 = .ok (.iconst 1, 1) := by decide +kernel
theorem dL_law_181 : decode cL_law 181 = .ok (.iadd, 1) := by decide +kernel
theorem dL_law_182 : decode cL_law 182 = .ok (.iaload, 1) := by decide +kernel
theorem dL_law_183 : decode cL_law 183 = .ok (.invokevirtual 27, 3) := by decide +kernel
theorem dL_law_186 : decode cL_law 186 = .ok (.if_icmp .eq 304, 3) := by decide +kernel
theorem dL_law_189 : decode cL_law 189 = .ok (.iconst 0, 1) := by decide +kernel
theorem dL_law_190 : decode cL_law 190 = .ok (.ireturn, 1) := by decide +kernel
theorem dL_law_191 : decode cL_law 191 = .ok (.aload_n 1, 1) := by decide +kernel
theorem dL_law_192 : decode cL_law 192 = .ok (.aload_n 0, 1) := by decide +kernel
theorem dL_law_193 : decode cL_law 193 = .ok (.iload_n 3, 1) := by decide +kernel
theorem dL_law_194 : decode cL_law 194 = .ok (.iconst 1, 1) := by decide +kernel
theorem dL_law_195 : decode cL_law 195 = .ok (.iadd, 1) := by decide +kernel
theorem dL_law_196 : decode cL_law 196 = .ok (.iaload, 1) := by decide +kernel
theorem dL_law_197 : decode cL_law 197 = .ok (.invokevirtual 28, 3) := by decide +kernel
theorem dL_law_200 : decode cL_law 200 = .ok (.aload_n 2, 1) := by decide +kernel
theorem dL_law_201 : decode cL_law 201 = .ok (.aload_n 0, 1) := by decide +kernel
theorem dL_law_202 : decode cL_law 202 = .ok (.iload_n 3, 1) := by decide +kernel
theorem dL_law_203 : decode cL_law 203 = .ok (.iconst 1, 1) := by decide +kernel
theorem dL_law_204 : decode cL_law 204 = .ok (.iadd, 1) := by decide +kernel
theorem dL_law_205 : decode cL_law 205 = .ok (.iaload, 1) := by decide +kernel
theorem dL_law_206 : decode cL_law 206 = .ok (.invokevirtual 31, 3) := by decide +kernel
theorem dL_law_209 : decode cL_law 209 = .ok (.if_icmp .eq 281, 3) := by decide +kernel
theorem dL_law_212 : decode cL_law 212 = .ok (.iconst 0, 1) := by decide +kernel
theorem dL_law_213 : decode cL_law 213 = .ok (.ireturn, 1) := by decide +kernel
theorem dL_law_214 : decode cL_law 214 = .ok (.aload_n 1, 1) := by decide +kernel
theorem dL_law_215 : decode cL_law 215 = .ok (.aload_n 0, 1) := by decide +kernel
theorem dL_law_216 : decode cL_law 216 = .ok (.iload_n 3, 1) := by decide +kernel
theorem dL_law_217 : decode cL_law 217 = .ok (.iconst 1, 1) := by decide +kernel
theorem dL_law_218 : decode cL_law 218 = .ok (.iadd, 1) := by decide +kernel
theorem dL_law_219 : decode cL_law 219 = .ok (.iaload, 1) := by decide +kernel
theorem dL_law_220 : decode cL_law 220 = .ok (.invokevirtual 32, 3) := by decide +kernel
theorem dL_law_223 : decode cL_law 223 = .ok (.aload_n 2, 1) := by decide +kernel
theorem dL_law_224 : decode cL_law 224 = .ok (.aload_n 0, 1) := by decide +kernel
theorem dL_law_225 : decode cL_law 225 = .ok (.iload_n 3, 1) := by decide +kernel
theorem dL_law_226 : decode cL_law 226 = .ok (.iconst 1, 1) := by decide +kernel
theorem dL_law_227 : decode cL_law 227 = .ok (.iadd, 1) := by decide +kernel
theorem dL_law_228 : decode cL_law 228 = .ok (.iaload, 1) := by decide +kernel
theorem dL_law_229 : decode cL_law 229 = .ok (.invokevirtual 35, 3) := by decide +kernel
theorem dL_law_232 : decode cL_law 232 = .ok (.if_icmp .eq 258, 3) := by decide +kernel
theorem dL_law_235 : decode cL_law 235 = .ok (.iconst 0, 1) := by decide +kernel
theorem dL_law_236 : decode cL_law 236 = .ok (.ireturn, 1) := by decide +kernel
theorem dL_law_237 : decode cL_law 237 = .ok (.aload_n 1, 1) := by decide +kernel
theorem dL_law_238 : decode cL_law 238 = .ok (.aload_n 0, 1) := by decide +kernel
theorem dL_law_239 : decode cL_law 239 = .ok (.iload_n 3, 1) := by decide +kernel
theorem dL_law_240 : decode cL_law 240 = .ok (.iconst 1, 1) := by decide +kernel
theorem dL_law_241 : decode cL_law 241 = .ok (.iadd, 1) := by decide +kernel
theorem dL_law_242 : decode cL_law 242 = .ok (.iaload, 1) := by decide +kernel
theorem dL_law_243 : decode cL_law 243 = .ok (.invokevirtual 36, 3) := by decide +kernel
theorem dL_law_246 : decode cL_law 246 = .ok (.aload_n 2, 1) := by decide +kernel
theorem dL_law_247 : decode cL_law 247 = .ok (.aload_n 0, 1) := by decide +kernel
theorem dL_law_248 : decode cL_law 248 = .ok (.iload_n 3, 1) := by decide +kernel
theorem dL_law_249 : decode cL_law 249 = .ok (.iconst 1, 1) := by decide +kernel
theorem dL_law_250 : decode cL_law 250 = .ok (.iadd, 1) := by decide +kernel
theorem dL_law_251 : decode cL_law 251 = .ok (.iaload, 1) := by decide +kernel
theorem dL_law_252 : decode cL_law 252 = .ok (.invokevirtual 39, 3) := by decide +kernel
theorem dL_law_255 : decode cL_law 255 = .ok (.if_icmp .eq 235, 3) := by decide +kernel
theorem dL_law_258 : decode cL_law 258 = .ok (.iconst 0, 1) := by decide +kernel
theorem dL_law_259 : decode cL_law 259 = .ok (.ireturn, 1) := by decide +kernel
theorem dL_law_260 : decode cL_law 260 = .ok (.aload_n 1, 1) := by decide +kernel
theorem dL_law_261 : decode cL_law 261 = .ok (.aload_n 0, 1) := by decide +kernel
theorem dL_law_262 : decode cL_law 262 = .ok (.iload_n 3, 1) := by decide +kernel
theorem dL_law_263 : decode cL_law 263 = .ok (.iconst 1, 1) := by decide +kernel
theorem dL_law_264 : decode cL_law 264 = .ok (.iadd, 1) := by decide +kernel
theorem dL_law_265 : decode cL_law 265 = .ok (.iaload, 1) := by decide +kernel
theorem dL_law_266 : decode cL_law 266 = .ok (.invokevirtual 40, 3) := by decide +kernel
theorem dL_law_269 : decode cL_law 269 = .ok (.aload_n 2, 1) := by decide +kernel
theorem dL_law_270 : decode cL_law 270 = .ok (.aload_n 0, 1) := by decide +kernel
theorem dL_law_271 : decode cL_law 271 = .ok (.iload_n 3, 1) := by decide +kernel
theorem dL_law_272 : decode cL_law 272 = .ok (.iconst 1, 1) := by decide +kernel
theorem dL_law_273 : decode cL_law 273 = .ok (.iadd, 1) := by decide +kernel
theorem dL_law_274 : decode cL_law 274 = .ok (.iaload, 1) := by decide +kernel
theorem dL_law_275 : decode cL_law 275 = .ok (.invokevirtual 43, 3) := by decide +kernel
theorem dL_law_278 : decode cL_law 278 = .ok (.if_icmp .eq 212, 3) := by decide +kernel
theorem dL_law_281 : decode cL_law 281 = .ok (.iconst 0, 1) := by decide +kernel
theorem dL_law_282 : decode cL_law 282 = .ok (.ireturn, 1) := by decide +kernel
theorem dL_law_283 : decode cL_law 283 = .ok (.aload_n 1, 1) := by decide +kernel
theorem dL_law_284 : decode cL_law 284 = .ok (.invokevirtual 44, 3) := by decide +kernel
theorem dL_law_287 : decode cL_law 287 = .ok (.aload_n 2, 1) := by decide +kernel
theorem dL_law_288 : decode cL_law 288 = .ok (.invokevirtual 48, 3) := by decide +kernel
theorem dL_law_291 : decode cL_law 291 = .ok (.if_icmp .eq 199, 3) := by decide +kernel
theorem dL_law_294 : decode cL_law 294 = .ok (.iconst 0, 1) := by decide +kernel
theorem dL_law_295 : decode cL_law 295 = .ok (.ireturn, 1) := by decide +kernel
theorem dL_law_296 : decode cL_law 296 = .ok (.aload_n 1, 1) := by decide +kernel
theorem dL_law_297 : decode cL_law 297 = .ok (.aload_n 0, 1) := by decide +kernel
theorem dL_law_298 : decode cL_law 298 = .ok (.iload_n 3, 1) := by decide +kernel
theorem dL_law_299 : decode cL_law 299 = .ok (.iconst 1, 1) := by decide +kernel
theorem dL_law_300 : decode cL_law 300 = .ok (.iadd, 1) := by decide +kernel
theorem dL_law_301 : decode cL_law 301 = .ok (.iaload, 1) := by decide +kernel
theorem dL_law_302 : decode cL_law 302 = .ok (.aload_n 0, 1) := by decide +kernel
theorem dL_law_303 : decode cL_law 303 = .ok (.iload_n 3, 1) := by decide +kernel
theorem dL_law_304 : decode cL_law 304 = .ok (.iconst 2, 1) := by decide +kernel
theorem dL_law_305 : decode cL_law 305 = .ok (.iadd, 1) := by decide +kernel
theorem dL_law_306 : decode cL_law 306 = .ok (.iaload, 1) := by decide +kernel
theorem dL_law_307 : decode cL_law 307 = .ok (.invokevirtual 49, 3) := by decide +kernel
theorem dL_law_310 : decode cL_law 310 = .ok (.aload_n 2, 1) := by decide +kernel
theorem dL_law_311 : decode cL_law 311 = .ok (.aload_n 0, 1) := by decide +kernel
theorem dL_law_312 : decode cL_law 312 = .ok (.iload_n 3, 1) := by decide +kernel
theorem dL_law_313 : decode cL_law 313 = .ok (.iconst 1, 1) := by decide +kernel
theorem dL_law_314 : decode cL_law 314 = .ok (.iadd, 1) := by decide +kernel
theorem dL_law_315 : decode cL_law 315 = .ok (.iaload, 1) := by decide +kernel
theorem dL_law_316 : decode cL_law 316 = .ok (.aload_n 0, 1) := by decide +kernel
theorem dL_law_317 : decode cL_law 317 = .ok (.iload_n 3, 1) := by decide +kernel
theorem dL_law_318 : decode cL_law 318 = .ok (.iconst 2, 1) := by decide +kernel
theorem dL_law_319 : decode cL_law 319 = .ok (.iadd, 1) := by decide +kernel
theorem dL_law_320 : decode cL_law 320 = .ok (.iaload, 1) := by decide +kernel
theorem dL_law_321 : decode cL_law 321 = .ok (.invokevirtual 52, 3) := by decide +kernel
theorem dL_law_324 : decode cL_law 324 = .ok (.if_icmp .eq 166, 3) := by decide +kernel
theorem dL_law_327 : decode cL_law 327 = .ok (.iconst 0, 1) := by decide +kernel
theorem dL_law_328 : decode cL_law 328 = .ok (.ireturn, 1) := by decide +kernel
theorem dL_law_329 : decode cL_law 329 = .ok (.aload_n 1, 1) := by decide +kernel
theorem dL_law_330 : decode cL_law 330 = .ok (.aload_n 0, 1) := by decide +kernel
theorem dL_law_331 : decode cL_law 331 = .ok (.iload_n 3, 1) := by decide +kernel
theorem dL_law_332 : decode cL_law 332 = .ok (.iconst 1, 1) := by decide +kernel
theorem dL_law_333 : decode cL_law 333 = .ok (.iadd, 1) := by decide +kernel
theorem dL_law_334 : decode cL_law 334 = .ok (.iaload, 1) := by decide +kernel
theorem dL_law_335 : decode cL_law 335 = .ok (.invokevirtual 53, 3) := by decide +kernel
theorem dL_law_338 : decode cL_law 338 = .ok (.aload_n 2, 1) := by decide +kernel
theorem dL_law_339 : decode cL_law 339 = .ok (.aload_n 0, 1) := by decide +kernel
theorem dL_law_340 : decode cL_law 340 = .ok (.iload_n 3, 1) := by decide +kernel
theorem dL_law_341 : decode cL_law 341 = .ok (.iconst 1, 1) := by decide +kernel
theorem dL_law_342 : decode cL_law 342 = .ok (.iadd, 1) := by decide +kernel
theorem dL_law_343 : decode cL_law 343 = .ok (.iaload, 1) := by decide +kernel
theorem dL_law_344 : decode cL_law 344 = .ok (.invokevirtual 56, 3) := by decide +kernel
theorem dL_law_347 : decode cL_law 347 = .ok (.if_icmp .eq 143, 3) := by decide +kernel
theorem dL_law_350 : decode cL_law 350 = .ok (.iconst 0, 1) := by decide +kernel
theorem dL_law_351 : decode cL_law 351 = .ok (.ireturn, 1) := by decide +kernel
theorem dL_law_352 : decode cL_law 352 = .ok (.aload_n 1, 1) := by decide +kernel
theorem dL_law_353 : decode cL_law 353 = .ok (.aload_n 0, 1) := by decide +kernel
theorem dL_law_354 : decode cL_law 354 = .ok (.iload_n 3, 1) := by decide +kernel
theorem dL_law_355 : decode cL_law 355 = .ok (.iconst 1, 1) := by decide +kernel
theorem dL_law_356 : decode cL_law 356 = .ok (.iadd, 1) := by decide +kernel
theorem dL_law_357 : decode cL_law 357 = .ok (.iaload, 1) := by decide +kernel
theorem dL_law_358 : decode cL_law 358 = .ok (.invokevirtual 57, 3) := by decide +kernel
theorem dL_law_361 : decode cL_law 361 = .ok (.aload_n 2, 1) := by decide +kernel
theorem dL_law_362 : decode cL_law 362 = .ok (.aload_n 0, 1) := by decide +kernel
theorem dL_law_363 : decode cL_law 363 = .ok (.iload_n 3, 1) := by decide +kernel
theorem dL_law_364 : decode cL_law 364 = .ok (.iconst 1, 1) := by decide +kernel
theorem dL_law_365 : decode cL_law 365 = .ok (.iadd, 1) := by decide +kernel
theorem dL_law_366 : decode cL_law 366 = .ok (.iaload, 1) := by decide +kernel
theorem dL_law_367 : decode cL_law 367 = .ok (.invokevirtual 60, 3) := by decide +kernel
theorem dL_law_370 : decode cL_law 370 = .ok (.if_icmp .eq 120, 3) := by decide +kernel
theorem dL_law_373 : decode cL_law 373 = .ok (.iconst 0, 1) := by decide +kernel
theorem dL_law_374 : decode cL_law 374 = .ok (.ireturn, 1) := by decide +kernel
theorem dL_law_375 : decode cL_law 375 = .ok (.aload_n 1, 1) := by decide +kernel
theorem dL_law_376 : decode cL_law 376 = .ok (.aload_n 0, 1) := by decide +kernel
theorem dL_law_377 : decode cL_law 377 = .ok (.iload_n 3, 1) := by decide +kernel
theorem dL_law_378 : decode cL_law 378 = .ok (.iconst 1, 1) := by decide +kernel
theorem dL_law_379 : decode cL_law 379 = .ok (.iadd, 1) := by decide +kernel
theorem dL_law_380 : decode cL_law 380 = .ok (.iaload, 1) := by decide +kernel
theorem dL_law_381 : decode cL_law 381 = .ok (.invokevirtual 61, 3) := by decide +kernel
theorem dL_law_384 : decode cL_law 384 = .ok (.aload_n 2, 1) := by decide +kernel
theorem dL_law_385 : decode cL_law 385 = .ok (.aload_n 0, 1) := by decide +kernel
theorem dL_law_386 : decode cL_law 386 = .ok (.iload_n 3, 1) := by decide +kernel
theorem dL_law_387 : decode cL_law 387 = .ok (.iconst 1, 1) := by decide +kernel
theorem dL_law_388 : decode cL_law 388 = .ok (.iadd, 1) := by decide +kernel
theorem dL_law_389 : decode cL_law 389 = .ok (.iaload, 1) := by decide +kernel
theorem dL_law_390 : decode cL_law 390 = .ok (.invokevirtual 64, 3) := by decide +kernel
theorem dL_law_393 : decode cL_law 393 = .ok (.if_icmp .eq 97, 3) := by decide +kernel
theorem dL_law_396 : decode cL_law 396 = .ok (.iconst 0, 1) := by decide +kernel
theorem dL_law_397 : decode cL_law 397 = .ok (.ireturn, 1) := by decide +kernel
theorem dL_law_398 : decode cL_law 398 = .ok (.aload_n 1, 1) := by decide +kernel
theorem dL_law_399 : decode cL_law 399 = .ok (.aload_n 0, 1) := by decide +kernel
theorem dL_law_400 : decode cL_law 400 = .ok (.iload_n 3, 1) := by decide +kernel
theorem dL_law_401 : decode cL_law 401 = .ok (.iconst 1, 1) := by decide +kernel
theorem dL_law_402 : decode cL_law 402 = .ok (.iadd, 1) := by decide +kernel
theorem dL_law_403 : decode cL_law 403 = .ok (.iaload, 1) := by decide +kernel
theorem dL_law_404 : decode cL_law 404 = .ok (.invokevirtual 65, 3) := by decide +kernel
theorem dL_law_407 : decode cL_law 407 = .ok (.aload_n 2, 1) := by decide +kernel
theorem dL_law_408 : decode cL_law 408 = .ok (.aload_n 0, 1) := by decide +kernel
theorem dL_law_409 : decode cL_law 409 = .ok (.iload_n 3, 1) := by decide +kernel
theorem dL_law_410 : decode cL_law 410 = .ok (.iconst 1, 1) := by decide +kernel
theorem dL_law_411 : decode cL_law 411 = .ok (.iadd, 1) := by decide +kernel
theorem dL_law_412 : decode cL_law 412 = .ok (.iaload, 1) := by decide +kernel
theorem dL_law_413 : decode cL_law 413 = .ok (.invokevirtual 68, 3) := by decide +kernel
theorem dL_law_416 : decode cL_law 416 = .ok (.if_icmp .eq 74, 3) := by decide +kernel
theorem dL_law_419 : decode cL_law 419 = .ok (.iconst 0, 1) := by decide +kernel
theorem dL_law_420 : decode cL_law 420 = .ok (.ireturn, 1) := by decide +kernel
theorem dL_law_421 : decode cL_law 421 = .ok (.aload_n 1, 1) := by decide +kernel
theorem dL_law_422 : decode cL_law 422 = .ok (.aload_n 0, 1) := by decide +kernel
theorem dL_law_423 : decode cL_law 423 = .ok (.iload_n 3, 1) := by decide +kernel
theorem dL_law_424 : decode cL_law 424 = .ok (.iconst 1, 1) := by decide +kernel
theorem dL_law_425 : decode cL_law 425 = .ok (.iadd, 1) := by decide +kernel
theorem dL_law_426 : decode cL_law 426 = .ok (.iaload, 1) := by decide +kernel
theorem dL_law_427 : decode cL_law 427 = .ok (.invokevirtual 69, 3) := by decide +kernel
theorem dL_law_430 : decode cL_law 430 = .ok (.aload_n 2, 1) := by decide +kernel
theorem dL_law_431 : decode cL_law 431 = .ok (.aload_n 0, 1) := by decide +kernel
theorem dL_law_432 : decode cL_law 432 = .ok (.iload_n 3, 1) := by decide +kernel
theorem dL_law_433 : decode cL_law 433 = .ok (.iconst 1, 1) := by decide +kernel
theorem dL_law_434 : decode cL_law 434 = .ok (.iadd, 1) := by decide +kernel
theorem dL_law_435 : decode cL_law 435 = .ok (.iaload, 1) := by decide +kernel
theorem dL_law_436 : decode cL_law 436 = .ok (.invokevirtual 72, 3) := by decide +kernel
theorem dL_law_439 : decode cL_law 439 = .ok (.if_icmp .eq 51, 3) := by decide +kernel
theorem dL_law_442 : decode cL_law 442 = .ok (.iconst 0, 1) := by decide +kernel
theorem dL_law_443 : decode cL_law 443 = .ok (.ireturn, 1) := by decide +kernel
theorem dL_law_444 : decode cL_law 444 = .ok (.aload_n 1, 1) := by decide +kernel
theorem dL_law_445 : decode cL_law 445 = .ok (.invokevirtual 73, 3) := by decide +kernel
theorem dL_law_448 : decode cL_law 448 = .ok (.aload_n 2, 1) := by decide +kernel
theorem dL_law_449 : decode cL_law 449 = .ok (.invokevirtual 76, 3) := by decide +kernel
theorem dL_law_452 : decode cL_law 452 = .ok (.if_icmp .eq 38, 3) := by decide +kernel
theorem dL_law_455 : decode cL_law 455 = .ok (.iconst 0, 1) := by decide +kernel
theorem dL_law_456 : decode cL_law 456 = .ok (.ireturn, 1) := by decide +kernel
theorem dL_law_457 : decode cL_law 457 = .ok (.aload_n 1, 1) := by decide +kernel
theorem dL_law_458 : decode cL_law 458 = .ok (.aload_n 0, 1) := by decide +kernel
theorem dL_law_459 : decode cL_law 459 = .ok (.iload_n 3, 1) := by decide +kernel
theorem dL_law_460 : decode cL_law 460 = .ok (.iconst 1, 1) := by decide +kernel
theorem dL_law_461 : decode cL_law 461 = .ok (.iadd, 1) := by decide +kernel
theorem dL_law_462 : decode cL_law 462 = .ok (.iaload, 1) := by decide +kernel
theorem dL_law_463 : decode cL_law 463 = .ok (.aload_n 0, 1) := by decide +kernel
theorem dL_law_464 : decode cL_law 464 = .ok (.iload_n 3, 1) := by decide +kernel
theorem dL_law_465 : decode cL_law 465 = .ok (.iconst 2, 1) := by decide +kernel
theorem dL_law_466 : decode cL_law 466 = .ok (.iadd, 1) := by decide +kernel
theorem dL_law_467 : decode cL_law 467 = .ok (.iaload, 1) := by decide +kernel
theorem dL_law_468 : decode cL_law 468 = .ok (.invokevirtual 77, 3) := by decide +kernel
theorem dL_law_471 : decode cL_law 471 = .ok (.aload_n 2, 1) := by decide +kernel
theorem dL_law_472 : decode cL_law 472 = .ok (.aload_n 0, 1) := by decide +kernel
theorem dL_law_473 : decode cL_law 473 = .ok (.iload_n 3, 1) := by decide +kernel
theorem dL_law_474 : decode cL_law 474 = .ok (.iconst 1, 1) := by decide +kernel
theorem dL_law_475 : decode cL_law 475 = .ok (.iadd, 1) := by decide +kernel
theorem dL_law_476 : decode cL_law 476 = .ok (.iaload, 1) := by decide +kernel
theorem dL_law_477 : decode cL_law 477 = .ok (.aload_n 0, 1) := by decide +kernel
theorem dL_law_478 : decode cL_law 478 = .ok (.iload_n 3, 1) := by decide +kernel
theorem dL_law_479 : decode cL_law 479 = .ok (.iconst 2, 1) := by decide +kernel
theorem dL_law_480 : decode cL_law 480 = .ok (.iadd, 1) := by decide +kernel
theorem dL_law_481 : decode cL_law 481 = .ok (.iaload, 1) := by decide +kernel
theorem dL_law_482 : decode cL_law 482 = .ok (.invokevirtual 80, 3) := by decide +kernel
theorem dL_law_485 : decode cL_law 485 = .ok (.if_icmp .eq 5, 3) := by decide +kernel
theorem dL_law_488 : decode cL_law 488 = .ok (.iconst 0, 1) := by decide +kernel
theorem dL_law_489 : decode cL_law 489 = .ok (.ireturn, 1) := by decide +kernel
theorem dL_law_490 : decode cL_law 490 = .ok (.iinc 3 3, 3) := by decide +kernel
theorem dL_law_493 : decode cL_law 493 = .ok (.goto (-475), 3) := by decide +kernel
theorem dL_law_496 : decode cL_law 496 = .ok (.iconst 1, 1) := by decide +kernel
theorem dL_law_497 : decode cL_law 497 = .ok (.ireturn, 1) := by decide +kernel
