theorem dX3_answered_1 : decode cX3_answered 1 = .ok (.invokestatic 39, 3) := by decide +kernel
theorem dX3_answered_4 : decode cX3_answered 4 = .ok (.ifCond .eq 15, 3) := by decide +kernel
theorem dX3_answered_7 : decode cX3_answered 7 = .ok (.aload_n 0, 1) := by decide +kernel
theorem dX3_answered_8 : decode cX3_answered 8 = .ok (.getfield 18, 3) := by decide +kernel
theorem dX3_answered_11 : decode cX3_answered 11 = .ok (.iload_n 1, 1) := by decide +kernel
theorem dX3_answered_12 : decode cX3_answered 12 = .ok (.aaload, 1) := by decide +kernel
theorem dX3_answered_13 : decode cX3_answered 13 = .ok (.getfield 102, 3) := by decide +kernel
theorem dX3_answered_16 : decode cX3_answered 16 = .ok (.goto 4, 3) := by decide +kernel
theorem dX3_answered_19 : decode cX3_answered 19 = .ok (.iconst (-1), 1) := by decide +kernel
theorem dX3_answered_20 : decode cX3_answered 20 = .ok (.ireturn, 1) := by decide +kernel
theorem dX3_finished_0 : decode cX3_finished 0 = .ok (.aload_n 0, 1) := by decide +kernel
theorem dX3_finished_1 : decode cX3_finished 1 = .ok (.getfield 32, 3) := by decide +kernel
theorem dX3_finished_4 : decode cX3_finished 4 = .ok (.getfield 64, 3) := by decide +kernel
theorem dX3_finished_7 : decode cX3_finished 7 = .ok (.ireturn, 1) := by decide +kernel
set_option maxRecDepth 20000 in
theorem ggX3_operation_X2_cell : GoodIn wsX3_operation wsX2_cell := goodIn_r _ [6, 7, 8, 9, 10, 11, 5, 12, 13, 14, 15, 16, 17, 22, 23, 24, 25] (by decide +kernel) (by decide +kernel)
set_option maxRecDepth 20000 in
theorem gX3_operation_X2_cell : GoodIn wsX3_operation (wsV RX3 54 RX2 yX2_cell wsX2_cell) := goodIn_app (goodIn_of _ (by decide +kernel)) ggX3_operation_X2_cell
theorem dX3_operation_0 : decode cX3_operation 0 = .ok (.aload_n 0, 1) := by decide +kernel
theorem dX3_operation_1 : decode cX3_operation 1 = .ok (.getfield 32, 3) := by decide +kernel
theorem dX3_operation_4 : decode cX3_operation 4 = .ok (.iload_n 1, 1) := by decide +kernel
theorem dX3_operation_5 : decode cX3_operation 5 = .ok (.iload_n 2, 1) := by decide +kernel
theorem dX3_operation_6 : decode cX3_operation 6 = .ok (.invokevirtual 54, 3) := by decide +kernel
theorem dX3_operation_9 : decode cX3_operation 9 = .ok (.ireturn, 1) := by decide +kernel
theorem dX3_isClient_0 : decode cX3_isClient 0 = .ok (.iload_n 0, 1) := by decide +kernel
theorem dX3_isClient_1 : decode cX3_isClient 1 = .ok (.ifCond .lt 12, 3) := by decide +kernel
theorem dX3_isClient_4 : decode cX3_isClient 4 = .ok (.iload_n 0, 1) := by decide +kernel
theorem dX3_isClient_5 : decode cX3_isClient 5 = .ok (.iconst 3, 1) := by decide +kernel
theorem dX3_isClient_6 : decode cX3_isClient 6 = .ok (.if_icmp .ge 7, 3) := by decide +kernel
theorem dX3_isClient_9 : decode cX3_isClient 9 = .ok (.iconst 1, 1) := by decide +kernel
theorem dX3_isClient_10 : decode cX3_isClient 10 = .ok (.goto 4, 3) := by decide +kernel
theorem dX3_isClient_13 : decode cX3_isClient 13 = .ok (.iconst 0, 1) := by decide +kernel
theorem dX3_isClient_14 : decode cX3_isClient 14 = .ok (.ireturn, 1) := by decide +kernel
theorem dX3_isReplica_0 : decode cX3_isReplica 0 = .ok (.iload_n 0, 1) := by decide +kernel
theorem dX3_isReplica_1 : decode cX3_isReplica 1 = .ok (.ifCond .lt 12, 3) := by decide +kernel
theorem dX3_isReplica_4 : decode cX3_isReplica 4 = .ok (.iload_n 0, 1) := by decide +kernel
theorem dX3_isReplica_5 : decode cX3_isReplica 5 = .ok (.iconst 5, 1) := by decide +kernel
theorem dX3_isReplica_6 : decode cX3_isReplica 6 = .ok (.if_icmp .ge 7, 3) := by decide +kernel
theorem dX3_isReplica_9 : decode cX3_isReplica 9 = .ok (.iconst 1, 1) := by decide +kernel
theorem dX3_isReplica_10 : decode cX3_isReplica 10 = .ok (.goto 4, 3) := by decide +kernel
theorem dX3_isReplica_13 : decode cX3_isReplica 13 = .ok (.iconst 0, 1) := by decide +kernel
theorem dX3_isReplica_14 : decode cX3_isReplica 14 = .ok (.ireturn, 1) := by decide +kernel
theorem dX3_isCrowded_0 : decode cX3_isCrowded 0 = .ok (.aload_n 0, 1) := by decide +kernel
theorem dX3_isCrowded_1 : decode cX3_isCrowded 1 = .ok (.getfield 28, 3) := by decide +kernel
theorem dX3_isCrowded_4 : decode cX3_isCrowded 4 = .ok (.getfield 64, 3) := by decide +kernel
theorem dX3_isCrowded_7 : decode cX3_isCrowded 7 = .ok (.bipush 60, 2) := by decide +kernel
theorem dX3_isCrowded_9 : decode cX3_isCrowded 9 = .ok (.if_icmp .le 7, 3) := by decide +kernel
theorem dX3_isCrowded_12 : decode cX3_isCrowded 12 = .ok (.iconst 1, 1) := by decide +kernel
theorem dX3_isCrowded_13 : decode cX3_isCrowded 13 = .ok (.goto 4, 3) := by decide +kernel
theorem dX3_isCrowded_16 : decode cX3_isCrowded 16 = .ok (.iconst 0, 1) := by decide +kernel
theorem dX3_isCrowded_17 : decode cX3_isCrowded 17 = .ok (.ireturn, 1) := by decide +kernel
theorem dX3_countFailed_0 : decode cX3_countFailed 0 = .ok (.iconst 0, 1) := by decide +kernel
theorem dX3_countFailed_1 : decode cX3_countFailed 1 = .ok (.istore_n 1, 1) := by decide +kernel
theorem dX3_countFailed_2 : decode cX3_countFailed 2 = .ok (.iconst 0, 1) := by decide +kernel
theorem dX3_countFailed_3 : decode cX3_countFailed 3 = .ok (.istore_n 2, 1) := by decide +kernel
theorem dX3_countFailed_4 : decode cX3_countFailed 4 = .ok (.iload_n 2, 1) := by decide +kernel
theorem dX3_countFailed_5 : decode cX3_countFailed 5 = .ok (.iconst 5, 1) := by decide +kernel
theorem dX3_countFailed_6 : decode cX3_countFailed 6 = .ok (.if_icmp .ge 24, 3) := by decide +kernel
theorem dX3_countFailed_9 : decode cX3_countFailed 9 = .ok (.aload_n 0, 1) := by decide +kernel
theorem dX3_countFailed_10 : decode cX3_countFailed 10 = .ok (.getfield 11, 3) := by decide +kernel
theorem dX3_countFailed_13 : decode cX3_countFailed 13 = .ok (.iload_n 2, 1) := by decide +kernel
theorem dX3_countFailed_14 : decode cX3_countFailed 14 = .ok (.aaload, 1) := by decide +kernel
theorem dX3_countFailed_15 : decode cX3_countFailed 15 = .ok (.getfield 88, 3) := by decide +kernel
theorem dX3_countFailed_18 : decode cX3_countFailed 18 = .ok (.ifCond .eq 6, 3) := by decide +kernel
theorem dX3_countFailed_21 : decode cX3_countFailed 21 = .ok (.iinc 1 1, 3) := by decide +kernel
theorem dX3_countFailed_24 : decode cX3_countFailed 24 = .ok (.iinc 2 1, 3) := by decide +kernel
theorem dX3_countFailed_27 : decode cX3_countFailed 27 = .ok (.goto (-23), 3) := by decide +kernel
theorem dX3_countFailed_30 : decode cX3_countFailed 30 = .ok (.iload_n 1, 1) := by decide +kernel
theorem dX3_countFailed_31 : decode cX3_countFailed 31 = .ok (.ireturn, 1) := by decide +kernel
set_option maxRecDepth 20000 in
theorem ggX3_begin_X3_isClient : GoodIn wsX3_begin wsX3_isClient := goodIn_r _ [11] (by decide +kernel) (by decide +kernel)
set_option maxRecDepth 20000 in
theorem gX3_begin_X3_isClient : GoodIn wsX3_begin (va_wsS RX3 39 yX3_isClient wsX3_isClient) := goodIn_app (goodIn_of _ (by decide +kernel)) ggX3_begin_X3_isClient
set_option maxRecDepth 20000 in
theorem ggX3_begin_X3_isCrowded : GoodIn wsX3_begin wsX3_isCrowded := goodIn_r _ [15, 16, 17, 54, 55, 56, 57, 66, 67, 68, 69] (by decide +kernel) (by decide +kernel)
set_option maxRecDepth 20000 in
theorem gX3_begin_X3_isCrowded : GoodIn wsX3_begin (wsV RX3 81 RX3 yX3_isCrowded wsX3_isCrowded) := goodIn_app (goodIn_of _ (by decide +kernel)) ggX3_begin_X3_isCrowded
set_option maxRecDepth 20000 in
theorem ggX3_begin_X0_enter : GoodIn wsX3_begin wsX0_enter := goodIn_r _ [22, 23, 24, 58, 59, 60, 61, 62, 63, 64, 65] (by decide +kernel) (by decide +kernel)
set_option maxRecDepth 20000 in
theorem gX3_begin_X0_enter : GoodIn wsX3_begin (wsV RX3 47 RX0 yX0_enter wsX0_enter) := goodIn_app (goodIn_of _ (by decide +kernel)) ggX3_begin_X0_enter
set_option maxRecDepth 20000 in
theorem ggX3_begin_X3_sendToAll : GoodIn wsX3_begin wsX3_sendToAll := goodIn_r _ [28, 1, 3, 29, 30, 31, 10, 32, 16, 33, 34, 35, 36, 37, 38, 39, 40, 41, 42, 43, 44, 45, 46, 47, 48, 49, 50, 51, 52, 53, 54, 55, 56, 57, 58, 59, 60, 61, 62, 63, 64, 65, 66, 67, 68, 69] (by decide +kernel) (by decide +kernel)
set_option maxRecDepth 20000 in
theorem gX3_begin_X3_sendToAll : GoodIn wsX3_begin (wsV RX3 116 RX3 yX3_sendToAll wsX3_sendToAll) := goodIn_app (goodIn_of _ (by decide +kernel)) ggX3_begin_X3_sendToAll
theorem dX3_begin_0 : decode cX3_begin 0 = .ok (.iload_n 1, 1) := by decide +kernel
theorem dX3_begin_1 : decode cX3_begin 1 = .ok (.invokestatic 39, 3) := by decide +kernel
theorem dX3_begin_4 : decode cX3_begin 4 = .ok (.ifCond .ne 5, 3) := by decide +kernel
theorem dX3_begin_7 : decode cX3_begin 7 = .ok (.iconst (-1), 1) := by decide +kernel
theorem dX3_begin_8 : decode cX3_begin 8 = .ok (.ireturn, 1) := by decide +kernel
theorem dX3_begin_9 : decode cX3_begin 9 = .ok (.aload_n 0, 1) := by decide +kernel
theorem dX3_begin_10 : decode cX3_begin 10 = .ok (.getfield 18, 3) := by decide +kernel
theorem dX3_begin_13 : decode cX3_begin 13 = .ok (.iload_n 1, 1) := by decide +kernel
theorem dX3_begin_14 : decode cX3_begin 14 = .ok (.aaload, 1) := by decide +kernel
theorem dX3_begin_15 : decode cX3_begin 15 = .ok (.astore 4, 2) := by decide +kernel
theorem dX3_begin_17 : decode cX3_begin 17 = .ok (.aload 4, 2) := by decide +kernel
theorem dX3_begin_19 : decode cX3_begin 19 = .ok (.getfield 43, 3) := by decide +kernel
theorem dX3_begin_22 : decode cX3_begin 22 = .ok (.ifCond .eq 6, 3) := by decide +kernel
theorem dX3_begin_25 : decode cX3_begin 25 = .ok (.bipush (-2), 2) := by decide +kernel
theorem dX3_begin_27 : decode cX3_begin 27 = .ok (.ireturn, 1) := by decide +kernel
theorem dX3_begin_28 : decode cX3_begin 28 = .ok (.aload_n 0, 1) := by decide +kernel
theorem dX3_begin_29 : decode cX3_begin 29 = .ok (.invokevirtual 81, 3) := by decide +kernel
theorem dX3_begin_32 : decode cX3_begin 32 = .ok (.ifCond .eq 6, 3) := by decide +kernel
theorem dX3_begin_35 : decode cX3_begin 35 = .ok (.bipush (-3), 2) := by decide +kernel
theorem dX3_begin_37 : decode cX3_begin 37 = .ok (.ireturn, 1) := by decide +kernel
theorem dX3_begin_38 : decode cX3_begin 38 = .ok (.aload 4, 2) := by decide +kernel
theorem dX3_begin_40 : decode cX3_begin 40 = .ok (.dup, 1) := by decide +kernel
theorem dX3_begin_41 : decode cX3_begin 41 = .ok (.getfield 105, 3) := by decide +kernel
theorem dX3_begin_44 : decode cX3_begin 44 = .ok (.iconst 1, 1) := by decide +kernel
theorem dX3_begin_45 : decode cX3_begin 45 = .ok (.iadd, 1) := by decide +kernel
theorem dX3_begin_46 : decode cX3_begin 46 = .ok (.putfield 105, 3) := by decide +kernel
theorem dX3_begin_49 : decode cX3_begin 49 = .ok (.aload 4, 2) := by decide +kernel
theorem dX3_begin_51 : decode cX3_begin 51 = .ok (.iload_n 2, 1) := by decide +kernel
theorem dX3_begin_52 : decode cX3_begin 52 = .ok (.putfield 108, 3) := by decide +kernel
theorem dX3_begin_55 : decode cX3_begin 55 = .ok (.aload 4, 2) := by decide +kernel
theorem dX3_begin_57 : decode cX3_begin 57 = .ok (.iload_n 3, 1) := by decide +kernel
theorem dX3_begin_58 : decode cX3_begin 58 = .ok (.putfield 111, 3) := by decide +kernel
theorem dX3_begin_61 : decode cX3_begin 61 = .ok (.aload 4, 2) := by decide +kernel
theorem dX3_begin_63 : decode cX3_begin 63 = .ok (.iconst 0, 1) := by decide +kernel
theorem dX3_begin_64 : decode cX3_begin 64 = .ok (.putfield 114, 3) := by decide +kernel
theorem dX3_begin_67 : decode cX3_begin 67 = .ok (.aload 4, 2) := by decide +kernel
theorem dX3_begin_69 : decode cX3_begin 69 = .ok (.iconst 0, 1) := by decide +kernel
theorem dX3_begin_70 : decode cX3_begin 70 = .ok (.putfield 115, 3) := by decide +kernel
theorem dX3_begin_73 : decode cX3_begin 73 = .ok (.aload 4, 2) := by decide +kernel
theorem dX3_begin_75 : decode cX3_begin 75 = .ok (.iconst 1, 1) := by decide +kernel
theorem dX3_begin_76 : decode cX3_begin 76 = .ok (.invokevirtual 47, 3) := by decide +kernel
theorem dX3_begin_79 : decode cX3_begin 79 = .ok (.aload_n 0, 1) := by decide +kernel
theorem dX3_begin_80 : decode cX3_begin 80 = .ok (.iconst 0, 1) := by decide +kernel
theorem dX3_begin_81 : decode cX3_begin 81 = .ok (.iload_n 1, 1) := by decide +kernel
theorem dX3_begin_82 : decode cX3_begin 82 = .ok (.iconst 0, 1) := by decide +kernel
theorem dX3_begin_83 : decode cX3_begin 83 = .ok (.iconst 0, 1) := by decide +kernel
theorem dX3_begin_84 : decode cX3_begin 84 = .ok (.invokevirtual 116, 3) := by decide +kernel
theorem dX3_begin_87 : decode cX3_begin 87 = .ok (.aload 4, 2) := by decide +kernel
theorem dX3_begin_89 : decode cX3_begin 89 = .ok (.getfield 105, 3) := by decide +kernel
theorem dX3_begin_92 : decode cX3_begin 92 = .ok (.ireturn, 1) := by decide +kernel
set_option maxRecDepth 20000 in
theorem ggX3_takeAsk_X3_send : GoodIn wsX3_takeAsk wsX3_send := goodIn_r _ [9, 10, 11, 12, 13, 14, 15, 16, 17, 18, 19, 20, 21, 22, 23, 24, 25, 26, 27, 28, 29, 30, 31, 32, 33, 34, 35, 39, 40, 41, 42] (by decide +kernel) (by decide +kernel)
set_option maxRecDepth 20000 in
theorem gX3_takeAsk_X3_send : GoodIn wsX3_takeAsk (wsV RX3 120 RX3 yX3_send wsX3_send) := goodIn_app (goodIn_of _ (by decide +kernel)) ggX3_takeAsk_X3_send
theorem dX3_takeAsk_0 : decode cX3_takeAsk 0 = .ok (.aload_n 0, 1) := by decide +kernel
theorem dX3_takeAsk_1 : decode cX3_takeAsk 1 = .ok (.getfield 11, 3) := by decide +kernel
theorem dX3_takeAsk_4 : decode cX3_takeAsk 4 = .ok (.iload_n 2, 1) := by decide +kernel
theorem dX3_takeAsk_5 : decode cX3_takeAsk 5 = .ok (.aaload, 1) := by decide +kernel
theorem dX3_takeAsk_6 : decode cX3_takeAsk 6 = .ok (.astore 4, 2) := by decide +kernel
theorem dX3_takeAsk_8 : decode cX3_takeAsk 8 = .ok (.aload 4, 2) := by decide +kernel
theorem dX3_takeAsk_10 : decode cX3_takeAsk 10 = .ok (.getfield 88, 3) := by decide +kernel
theorem dX3_takeAsk_13 : decode cX3_takeAsk 13 = .ok (.ifCond .eq 4, 3) := by decide +kernel
theorem dX3_takeAsk_16 : decode cX3_takeAsk 16 = .ok (.return_, 1) := by decide +kernel
theorem dX3_takeAsk_17 : decode cX3_takeAsk 17 = .ok (.aload_n 0, 1) := by decide +kernel
theorem dX3_takeAsk_18 : decode cX3_takeAsk 18 = .ok (.iconst 1, 1) := by decide +kernel
theorem dX3_takeAsk_19 : decode cX3_takeAsk 19 = .ok (.iload_n 1, 1) := by decide +kernel
theorem dX3_takeAsk_20 : decode cX3_takeAsk 20 = .ok (.iload_n 2, 1) := by decide +kernel
theorem dX3_takeAsk_21 : decode cX3_takeAsk 21 = .ok (.iload_n 3, 1) := by decide +kernel
theorem dX3_takeAsk_22 : decode cX3_takeAsk 22 = .ok (.aload 4, 2) := by decide +kernel
theorem dX3_takeAsk_24 : decode cX3_takeAsk 24 = .ok (.getfield 96, 3) := by decide +kernel
theorem dX3_takeAsk_27 : decode cX3_takeAsk 27 = .ok (.aload 4, 2) := by decide +kernel
theorem dX3_takeAsk_29 : decode cX3_takeAsk 29 = .ok (.getfield 99, 3) := by decide +kernel
theorem dX3_takeAsk_32 : decode cX3_takeAsk 32 = .ok (.invokevirtual 120, 3) := by decide +kernel
theorem dX3_takeAsk_35 : decode cX3_takeAsk 35 = .ok (.return_, 1) := by decide +kernel
set_option maxRecDepth 20000 in
theorem ggX3_takeStore_X3_send : GoodIn wsX3_takeStore wsX3_send := goodIn_r _ [9, 10, 11, 12, 13, 14, 15, 16, 17, 18, 19, 20, 21, 22, 23, 24, 25, 26, 27, 28, 29, 30, 31, 32, 33, 34, 35, 39, 40, 41, 42] (by decide +kernel) (by decide +kernel)
set_option maxRecDepth 20000 in
theorem gX3_takeStore_X3_send : GoodIn wsX3_takeStore (wsV RX3 120 RX3 yX3_send wsX3_send) := goodIn_app (goodIn_of _ (by decide +kernel)) ggX3_takeStore_X3_send
theorem dX3_takeStore_0 : decode cX3_takeStore 0 = .ok (.aload_n 0, 1) := by decide +kernel
theorem dX3_takeStore_1 : decode cX3_takeStore 1 = .ok (.getfield 11, 3) := by decide +kernel
theorem dX3_takeStore_4 : decode cX3_takeStore 4 = .ok (.iload_n 2, 1) := by decide +kernel
theorem dX3_takeStore_5 : decode cX3_takeStore 5 = .ok (.aaload, 1) := by decide +kernel
theorem dX3_takeStore_6 : decode cX3_takeStore 6 = .ok (.astore 6, 2) := by decide +kernel
theorem dX3_takeStore_8 : decode cX3_takeStore 8 = .ok (.aload 6, 2) := by decide +kernel
theorem dX3_takeStore_10 : decode cX3_takeStore 10 = .ok (.getfield 88, 3) := by decide +kernel
theorem dX3_takeStore_13 : decode cX3_takeStore 13 = .ok (.ifCond .eq 4, 3) := by decide +kernel
theorem dX3_takeStore_16 : decode cX3_takeStore 16 = .ok (.return_, 1) := by decide +kernel
theorem dX3_takeStore_17 : decode cX3_takeStore 17 = .ok (.iload 4, 2) := by decide +kernel
theorem dX3_takeStore_19 : decode cX3_takeStore 19 = .ok (.aload 6, 2) := by decide +kernel
theorem dX3_takeStore_21 : decode cX3_takeStore 21 = .ok (.getfield 96, 3) := by decide +kernel
theorem dX3_takeStore_24 : decode cX3_takeStore 24 = .ok (.if_icmp .le 17, 3) := by decide +kernel
theorem dX3_takeStore_27 : decode cX3_takeStore 27 = .ok (.aload 6, 2) := by decide +kernel
theorem dX3_takeStore_29 : decode cX3_takeStore 29 = .ok (.iload 4, 2) := by decide +kernel
theorem dX3_takeStore_31 : decode cX3_takeStore 31 = .ok (.putfield 96, 3) := by decide +kernel
theorem dX3_takeStore_34 : decode cX3_takeStore 34 = .ok (.aload 6, 2) := by decide +kernel
theorem dX3_takeStore_36 : decode cX3_takeStore 36 = .ok (.iload 5, 2) := by decide +kernel
theorem dX3_takeStore_38 : decode cX3_takeStore 38 = .ok (.putfield 99, 3) := by decide +kernel
theorem dX3_takeStore_41 : decode cX3_takeStore 41 = .ok (.aload_n 0, 1) := by decide +kernel
theorem dX3_takeStore_42 : decode cX3_takeStore 42 = .ok (.iconst 3, 1) := by decide +kernel
theorem dX3_takeStore_43 : decode cX3_takeStore 43 = .ok (.iload_n 1, 1) := by decide +kernel
theorem dX3_takeStore_44 : decode cX3_takeStore 44 = .ok (.iload_n 2, 1) := by decide +kernel
theorem dX3_takeStore_45 : decode cX3_takeStore 45 = .ok (.iload_n 3, 1) := by decide +kernel
theorem dX3_takeStore_46 : decode cX3_takeStore 46 = .ok (.iconst 0, 1) := by decide +kernel
theorem dX3_takeStore_47 : decode cX3_takeStore 47 = .ok (.iconst 0, 1) := by decide +kernel
theorem dX3_takeStore_48 : decode cX3_takeStore 48 = .ok (.invokevirtual 120, 3) := by decide +kernel
theorem dX3_takeStore_51 : decode cX3_takeStore 51 = .ok (.return_, 1) := by decide +kernel
set_option maxRecDepth 20000 in
theorem ggX3_takeTell_X0_awaits : GoodIn wsX3_takeTell wsX0_awaits := goodIn_r _ [8, 9, 10, 11, 78, 79, 80, 81, 82, 83, 84, 85] (by decide +kernel) (by decide +kernel)
set_option maxRecDepth 20000 in
theorem gX3_takeTell_X0_awaits : GoodIn wsX3_takeTell (wsV RX3 124 RX0 yX0_awaits wsX0_awaits) := goodIn_app (goodIn_of _ (by decide +kernel)) ggX3_takeTell_X0_awaits
set_option maxRecDepth 20000 in
theorem ggX3_takeTell_X0_hear : GoodIn wsX3_takeTell wsX0_hear := goodIn_r _ [15, 11, 78, 79, 80, 81, 82, 83, 84, 85] (by decide +kernel) (by decide +kernel)
set_option maxRecDepth 20000 in
theorem gX3_takeTell_X0_hear : GoodIn wsX3_takeTell (wsV RX3 128 RX0 yX0_hear wsX0_hear) := goodIn_app (goodIn_of _ (by decide +kernel)) ggX3_takeTell_X0_hear
set_option maxRecDepth 20000 in
theorem ggX3_takeTell_X0_hasQuorum : GoodIn wsX3_takeTell wsX0_hasQuorum := goodIn_r _ [19, 11, 20, 21, 22, 23, 24, 25, 26, 78, 79, 80, 81, 82, 83, 84, 85] (by decide +kernel) (by decide +kernel)
set_option maxRecDepth 20000 in
theorem gX3_takeTell_X0_hasQuorum : GoodIn wsX3_takeTell (wsV RX3 131 RX0 yX0_hasQuorum wsX0_hasQuorum) := goodIn_app (goodIn_of _ (by decide +kernel)) ggX3_takeTell_X0_hasQuorum
set_option maxRecDepth 20000 in
theorem ggX3_takeTell_X3_store : GoodIn wsX3_takeTell wsX3_store := goodIn_r _ [31, 1, 32, 2, 33, 34, 35, 36, 37, 38, 3, 39, 40, 41, 7, 42, 10, 11, 43, 44, 45, 30, 46, 47, 48, 49, 50, 51, 52, 53, 54, 55, 56, 57, 58, 59, 60, 61, 62, 63, 64, 65, 66, 67, 68, 69, 70, 71, 72, 73, 74, 75, 76, 77, 78, 79, 80, 81, 82, 83, 84, 85, 86, 87, 88, 89] (by decide +kernel) (by decide +kernel)
set_option maxRecDepth 20000 in
theorem gX3_takeTell_X3_store : GoodIn wsX3_takeTell (wsV RX3 134 RX3 yX3_store wsX3_store) := goodIn_app (goodIn_of _ (by decide +kernel)) ggX3_takeTell_X3_store
theorem dX3_takeTell_0 : decode cX3_takeTell 0 = .ok (.aload_n 0, 1) := by decide +kernel
theorem dX3_takeTell_1 : decode cX3_takeTell 1 = .ok (.getfield 18, 3) := by decide +kernel
theorem dX3_takeTell_4 : decode cX3_takeTell 4 = .ok (.iload_n 1, 1) := by decide +kernel
theorem dX3_takeTell_5 : decode cX3_takeTell 5 = .ok (.aaload, 1) := by decide +kernel
theorem dX3_takeTell_6 : decode cX3_takeTell 6 = .ok (.astore 6, 2) := by decide +kernel
theorem dX3_takeTell_8 : decode cX3_takeTell 8 = .ok (.aload 6, 2) := by decide +kernel
theorem dX3_takeTell_10 : decode cX3_takeTell 10 = .ok (.iconst 1, 1) := by decide +kernel
theorem dX3_takeTell_11 : decode cX3_takeTell 11 = .ok (.iload_n 2, 1) := by decide +kernel
theorem dX3_takeTell_12 : decode cX3_takeTell 12 = .ok (.iload_n 3, 1) := by decide +kernel
theorem dX3_takeTell_13 : decode cX3_takeTell 13 = .ok (.invokevirtual 124, 3) := by decide +kernel
theorem dX3_takeTell_16 : decode cX3_takeTell 16 = .ok (.ifCond .ne 4, 3) := by decide +kernel
theorem dX3_takeTell_19 : decode cX3_takeTell 19 = .ok (.return_, 1) := by decide +kernel
theorem dX3_takeTell_20 : decode cX3_takeTell 20 = .ok (.aload 6, 2) := by decide +kernel
theorem dX3_takeTell_22 : decode cX3_takeTell 22 = .ok (.iload_n 2, 1) := by decide +kernel
theorem dX3_takeTell_23 : decode cX3_takeTell 23 = .ok (.invokevirtual 128, 3) := by decide +kernel
theorem dX3_takeTell_26 : decode cX3_takeTell 26 = .ok (.iload 4, 2) := by decide +kernel
theorem dX3_takeTell_28 : decode cX3_takeTell 28 = .ok (.aload 6, 2) := by decide +kernel
theorem dX3_takeTell_30 : decode cX3_takeTell 30 = .ok (.getfield 114, 3) := by decide +kernel
theorem dX3_takeTell_33 : decode cX3_takeTell 33 = .ok (.if_icmp .le 17, 3) := by decide +kernel
theorem dX3_takeTell_36 : decode cX3_takeTell 36 = .ok (.aload 6, 2) := by decide +kernel
theorem dX3_takeTell_38 : decode cX3_takeTell 38 = .ok (.iload 4, 2) := by decide +kernel
theorem dX3_takeTell_40 : decode cX3_takeTell 40 = .ok (.putfield 114, 3) := by decide +kernel
theorem dX3_takeTell_43 : decode cX3_takeTell 43 = .ok (.aload 6, 2) := by decide +kernel
theorem dX3_takeTell_45 : decode cX3_takeTell 45 = .ok (.iload 5, 2) := by decide +kernel
theorem dX3_takeTell_47 : decode cX3_takeTell 47 = .ok (.putfield 115, 3) := by decide +kernel
theorem dX3_takeTell_50 : decode cX3_takeTell 50 = .ok (.aload 6, 2) := by decide +kernel
theorem dX3_takeTell_52 : decode cX3_takeTell 52 = .ok (.invokevirtual 131, 3) := by decide +kernel
theorem dX3_takeTell_55 : decode cX3_takeTell 55 = .ok (.ifCond .eq 8, 3) := by decide +kernel
theorem dX3_takeTell_58 : decode cX3_takeTell 58 = .ok (.aload_n 0, 1) := by decide +kernel
theorem dX3_takeTell_59 : decode cX3_takeTell 59 = .ok (.iload_n 1, 1) := by decide +kernel
theorem dX3_takeTell_60 : decode cX3_takeTell 60 = .ok (.invokevirtual 134, 3) := by decide +kernel
theorem dX3_takeTell_63 : decode cX3_takeTell 63 = .ok (.return_, 1) := by decide +kernel
set_option maxRecDepth 20000 in
theorem ggX3_store_X0_enter : GoodIn wsX3_store wsX0_enter := goodIn_r _ [15, 16, 17, 54, 55, 56, 57, 58, 59, 60, 61] (by decide +kernel) (by decide +kernel)
set_option maxRecDepth 20000 in
theorem gX3_store_X0_enter : GoodIn wsX3_store (wsV RX3 47 RX0 yX0_enter wsX0_enter) := goodIn_app (goodIn_of _ (by decide +kernel)) ggX3_store_X0_enter
set_option maxRecDepth 20000 in
theorem ggX3_store_X3_sendToAll : GoodIn wsX3_store wsX3_sendToAll := goodIn_r _ [22, 1, 23, 24, 25, 26, 21, 27, 28, 29, 30, 31, 32, 33, 34, 35, 36, 37, 38, 39, 40, 41, 42, 43, 44, 45, 46, 47, 48, 49, 50, 51, 52, 53, 54, 55, 56, 57, 58, 59, 60, 61, 62, 63, 64, 65] (by decide +kernel) (by decide +kernel)
set_option maxRecDepth 20000 in
theorem gX3_store_X3_sendToAll : GoodIn wsX3_store (wsV RX3 116 RX3 yX3_sendToAll wsX3_sendToAll) := goodIn_app (goodIn_of _ (by decide +kernel)) ggX3_store_X3_sendToAll
theorem dX3_store_0 : decode cX3_store 0 = .ok (.aload_n 0, 1) := by decide +kernel
theorem dX3_store_1 : decode cX3_store 1 = .ok (.getfield 18, 3) := by decide +kernel
theorem dX3_store_4 : decode cX3_store 4 = .ok (.iload_n 1, 1) := by decide +kernel
theorem dX3_store_5 : decode cX3_store 5 = .ok (.aaload, 1) := by decide +kernel
theorem dX3_store_6 : decode cX3_store 6 = .ok (.astore_n 2, 1) := by decide +kernel
theorem dX3_store_7 : decode cX3_store 7 = .ok (.aload_n 2, 1) := by decide +kernel
theorem dX3_store_8 : decode cX3_store 8 = .ok (.getfield 108, 3) := by decide +kernel
theorem dX3_store_11 : decode cX3_store 11 = .ok (.ifCond .eq 41, 3) := by decide +kernel
theorem dX3_store_14 : decode cX3_store 14 = .ok (.iconst 1, 1) := by decide +kernel
theorem dX3_store_15 : decode cX3_store 15 = .ok (.aload_n 2, 1) := by decide +kernel
theorem dX3_store_16 : decode cX3_store 16 = .ok (.getfield 114, 3) := by decide +kernel
theorem dX3_store_19 : decode cX3_store 19 = .ok (.iconst 4, 1) := by decide +kernel
theorem dX3_store_20 : decode cX3_store 20 = .ok (.idiv, 1) := by decide +kernel
theorem dX3_store_21 : decode cX3_store 21 = .ok (.aload_n 2, 1) := by decide +kernel
theorem dX3_store_22 : decode cX3_store 22 = .ok (.getfield 137, 3) := by decide +kernel
theorem dX3_store_25 : decode cX3_store 25 = .ok (.invokestatic 140, 3) := by decide +kernel
theorem dX3_store_28 : decode cX3_store 28 = .ok (.iadd, 1) := by decide +kernel
theorem dX3_store_29 : decode cX3_store 29 = .ok (.istore_n 3, 1) := by decide +kernel
theorem dX3_store_30 : decode cX3_store 30 = .ok (.aload_n 2, 1) := by decide +kernel
theorem dX3_store_31 : decode cX3_store 31 = .ok (.iload_n 3, 1) := by decide +kernel
theorem dX3_store_32 : decode cX3_store 32 = .ok (.putfield 137, 3) := by decide +kernel
theorem dX3_store_35 : decode cX3_store 35 = .ok (.aload_n 2, 1) := by decide +kernel
theorem dX3_store_36 : decode cX3_store 36 = .ok (.iconst 4, 1) := by decide +kernel
theorem dX3_store_37 : decode cX3_store 37 = .ok (.iload_n 3, 1) := by decide +kernel
theorem dX3_store_38 : decode cX3_store 38 = .ok (.imul, 1) := by decide +kernel
theorem dX3_store_39 : decode cX3_store 39 = .ok (.iload_n 1, 1) := by decide +kernel
theorem dX3_store_40 : decode cX3_store 40 = .ok (.iadd, 1) := by decide +kernel
theorem dX3_store_41 : decode cX3_store 41 = .ok (.putfield 114, 3) := by decide +kernel
theorem dX3_store_44 : decode cX3_store 44 = .ok (.aload_n 2, 1) := by decide +kernel
theorem dX3_store_45 : decode cX3_store 45 = .ok (.aload_n 2, 1) := by decide +kernel
theorem dX3_store_46 : decode cX3_store 46 = .ok (.getfield 111, 3) := by decide +kernel
theorem dX3_store_49 : decode cX3_store 49 = .ok (.putfield 115, 3) := by decide +kernel
theorem dX3_store_52 : decode cX3_store 52 = .ok (.aload_n 2, 1) := by decide +kernel
theorem dX3_store_53 : decode cX3_store 53 = .ok (.iconst 2, 1) := by decide +kernel
theorem dX3_store_54 : decode cX3_store 54 = .ok (.invokevirtual 47, 3) := by decide +kernel
theorem dX3_store_57 : decode cX3_store 57 = .ok (.aload_n 0, 1) := by decide +kernel
theorem dX3_store_58 : decode cX3_store 58 = .ok (.iconst 2, 1) := by decide +kernel
theorem dX3_store_59 : decode cX3_store 59 = .ok (.iload_n 1, 1) := by decide +kernel
theorem dX3_store_60 : decode cX3_store 60 = .ok (.aload_n 2, 1) := by decide +kernel
theorem dX3_store_61 : decode cX3_store 61 = .ok (.getfield 114, 3) := by decide +kernel
theorem dX3_store_64 : decode cX3_store 64 = .ok (.aload_n 2, 1) := by decide +kernel
theorem dX3_store_65 : decode cX3_store 65 = .ok (.getfield 115, 3) := by decide +kernel
theorem dX3_store_68 : decode cX3_store 68 = .ok (.invokevirtual 116, 3) := by decide +kernel
theorem dX3_store_71 : decode cX3_store 71 = .ok (.return_, 1) := by decide +kernel
set_option maxRecDepth 20000 in
theorem ggX3_takeStored_X0_awaits : GoodIn wsX3_takeStored wsX0_awaits := goodIn_r _ [6, 7, 8, 9, 64, 65, 66, 67, 68, 69, 70, 71] (by decide +kernel) (by decide +kernel)
set_option maxRecDepth 20000 in
theorem gX3_takeStored_X0_awaits : GoodIn wsX3_takeStored (wsV RX3 124 RX0 yX0_awaits wsX0_awaits) := goodIn_app (goodIn_of _ (by decide +kernel)) ggX3_takeStored_X0_awaits
set_option maxRecDepth 20000 in
theorem ggX3_takeStored_X0_hear : GoodIn wsX3_takeStored wsX0_hear := goodIn_r _ [13, 9, 64, 65, 66, 67, 68, 69, 70, 71] (by decide +kernel) (by decide +kernel)
set_option maxRecDepth 20000 in
theorem gX3_takeStored_X0_hear : GoodIn wsX3_takeStored (wsV RX3 128 RX0 yX0_hear wsX0_hear) := goodIn_app (goodIn_of _ (by decide +kernel)) ggX3_takeStored_X0_hear
set_option maxRecDepth 20000 in
theorem ggX3_takeStored_X0_hasQuorum : GoodIn wsX3_takeStored wsX0_hasQuorum := goodIn_r _ [17, 9, 18, 19, 20, 21, 22, 23, 24, 64, 65, 66, 67, 68, 69, 70, 71] (by decide +kernel) (by decide +kernel)
set_option maxRecDepth 20000 in
theorem gX3_takeStored_X0_hasQuorum : GoodIn wsX3_takeStored (wsV RX3 131 RX0 yX0_hasQuorum wsX0_hasQuorum) := goodIn_app (goodIn_of _ (by decide +kernel)) ggX3_takeStored_X0_hasQuorum
set_option maxRecDepth 20000 in
theorem ggX3_takeStored_X3_finish : GoodIn wsX3_takeStored wsX3_finish := goodIn_r _ [29, 1, 30, 31, 32, 33, 34, 35, 36, 37, 38, 39, 40, 41, 42, 43, 44, 45, 46, 47, 48, 49, 50, 51, 52, 53, 54, 55, 56, 57, 58, 5, 59, 8, 9, 60, 61, 62, 63, 64, 65, 66, 67, 68, 69, 70, 71, 72, 73, 74, 75] (by decide +kernel) (by decide +kernel)
set_option maxRecDepth 20000 in
theorem gX3_takeStored_X3_finish : GoodIn wsX3_takeStored (wsV RX3 145 RX3 yX3_finish wsX3_finish) := goodIn_app (goodIn_of _ (by decide +kernel)) ggX3_takeStored_X3_finish
theorem dX3_takeStored_0 : decode cX3_takeStored 0 = .ok (.aload_n 0, 1) := by decide +kernel
theorem dX3_takeStored_1 : decode cX3_takeStored 1 = .ok (.getfield 18, 3) := by decide +kernel
theorem dX3_takeStored_4 : decode cX3_takeStored 4 = .ok (.iload_n 1, 1) := by decide +kernel
theorem dX3_takeStored_5 : decode cX3_takeStored 5 = .ok (.aaload, 1) := by decide +kernel
theorem dX3_takeStored_6 : decode cX3_takeStored 6 = .ok (.astore 4, 2) := by decide +kernel
theorem dX3_takeStored_8 : decode cX3_takeStored 8 = .ok (.aload 4, 2) := by decide +kernel
theorem dX3_takeStored_10 : decode cX3_takeStored 10 = .ok (.iconst 2, 1) := by decide +kernel
theorem dX3_takeStored_11 : decode cX3_takeStored 11 = .ok (.iload_n 2, 1) := by decide +kernel
theorem dX3_takeStored_12 : decode cX3_takeStored 12 = .ok (.iload_n 3, 1) := by decide +kernel
theorem dX3_takeStored_13 : decode cX3_takeStored 13 = .ok (.invokevirtual 124, 3) := by decide +kernel
theorem dX3_takeStored_16 : decode cX3_takeStored 16 = .ok (.ifCond .ne 4, 3) := by decide +kernel
theorem dX3_takeStored_19 : decode cX3_takeStored 19 = .ok (.return_, 1) := by decide +kernel
theorem dX3_takeStored_20 : decode cX3_takeStored 20 = .ok (.aload 4, 2) := by decide +kernel
theorem dX3_takeStored_22 : decode cX3_takeStored 22 = .ok (.iload_n 2, 1) := by decide +kernel
theorem dX3_takeStored_23 : decode cX3_takeStored 23 = .ok (.invokevirtual 128, 3) := by decide +kernel
theorem dX3_takeStored_26 : decode cX3_takeStored 26 = .ok (.aload 4, 2) := by decide +kernel
theorem dX3_takeStored_28 : decode cX3_takeStored 28 = .ok (.invokevirtual 131, 3) := by decide +kernel
theorem dX3_takeStored_31 : decode cX3_takeStored 31 = .ok (.ifCond .eq 8, 3) := by decide +kernel
theorem dX3_takeStored_34 : decode cX3_takeStored 34 = .ok (.aload_n 0, 1) := by decide +kernel
theorem dX3_takeStored_35 : decode cX3_takeStored 35 = .ok (.iload_n 1, 1) := by decide +kernel
theorem dX3_takeStored_36 : decode cX3_takeStored 36 = .ok (.invokevirtual 145, 3) := by decide +kernel
theorem dX3_takeStored_39 : decode cX3_takeStored 39 = .ok (.return_, 1) := by decide +kernel
set_option maxRecDepth 20000 in
theorem ggX3_finish_X2_add : GoodIn wsX3_finish wsX2_add := goodIn_r _ [11, 12, 13, 47, 48, 49, 50] (by decide +kernel) (by decide +kernel)
set_option maxRecDepth 20000 in
theorem gX3_finish_X2_add : GoodIn wsX3_finish (wsV RX3 148 RX2 yX2_add wsX2_add) := goodIn_app (goodIn_of _ (by decide +kernel)) ggX3_finish_X2_add
set_option maxRecDepth 20000 in
theorem ggX3_finish_X2_set : GoodIn wsX3_finish wsX2_set := goodIn_r _ [17, 18, 19, 20, 21, 22, 10, 23, 12, 24, 25, 26, 27, 47, 48, 49, 50] (by decide +kernel) (by decide +kernel)
set_option maxRecDepth 20000 in
theorem gX3_finish_X2_set : GoodIn wsX3_finish (wsV RX3 151 RX2 yX2_set wsX2_set) := goodIn_app (goodIn_of _ (by decide +kernel)) ggX3_finish_X2_set
set_option maxRecDepth 20000 in
theorem ggX3_finish_X0_enter : GoodIn wsX3_finish wsX0_enter := goodIn_r _ [32, 33, 34, 39, 40, 41, 42, 43, 44, 45, 46] (by decide +kernel) (by decide +kernel)
set_option maxRecDepth 20000 in
theorem gX3_finish_X0_enter : GoodIn wsX3_finish (wsV RX3 47 RX0 yX0_enter wsX0_enter) := goodIn_app (goodIn_of _ (by decide +kernel)) ggX3_finish_X0_enter
theorem dX3_finish_0 : decode cX3_finish 0 = .ok (.aload_n 0, 1) := by decide +kernel
theorem dX3_finish_1 : decode cX3_finish 1 = .ok (.getfield 18, 3) := by decide +kernel
theorem dX3_finish_4 : decode cX3_finish 4 = .ok (.iload_n 1, 1) := by decide +kernel
theorem dX3_finish_5 : decode cX3_finish 5 = .ok (.aaload, 1) := by decide +kernel
theorem dX3_finish_6 : decode cX3_finish 6 = .ok (.astore_n 2, 1) := by decide +kernel
theorem dX3_finish_7 : decode cX3_finish 7 = .ok (.aload_n 0, 1) := by decide +kernel
theorem dX3_finish_8 : decode cX3_finish 8 = .ok (.getfield 32, 3) := by decide +kernel
theorem dX3_finish_11 : decode cX3_finish 11 = .ok (.invokevirtual 148, 3) := by decide +kernel
theorem dX3_finish_14 : decode cX3_finish 14 = .ok (.istore_n 3, 1) := by decide +kernel
theorem dX3_finish_15 : decode cX3_finish 15 = .ok (.aload_n 0, 1) := by decide +kernel
theorem dX3_finish_16 : decode cX3_finish 16 = .ok (.getfield 32, 3) := by decide +kernel
theorem dX3_finish_19 : decode cX3_finish 19 = .ok (.iload_n 3, 1) := by decide +kernel
theorem dX3_finish_20 : decode cX3_finish 20 = .ok (.iconst 0, 1) := by decide +kernel
theorem dX3_finish_21 : decode cX3_finish 21 = .ok (.iload_n 1, 1) := by decide +kernel
theorem dX3_finish_22 : decode cX3_finish 22 = .ok (.invokevirtual 151, 3) := by decide +kernel
theorem dX3_finish_25 : decode cX3_finish 25 = .ok (.aload_n 0, 1) := by decide +kernel
theorem dX3_finish_26 : decode cX3_finish 26 = .ok (.getfield 32, 3) := by decide +kernel
theorem dX3_finish_29 : decode cX3_finish 29 = .ok (.iload_n 3, 1) := by decide +kernel
theorem dX3_finish_30 : decode cX3_finish 30 = .ok (.iconst 1, 1) := by decide +kernel
theorem dX3_finish_31 : decode cX3_finish 31 = .ok (.aload_n 2, 1) := by decide +kernel
theorem dX3_finish_32 : decode cX3_finish 32 = .ok (.getfield 105, 3) := by decide +kernel
theorem dX3_finish_35 : decode cX3_finish 35 = .ok (.invokevirtual 151, 3) := by decide +kernel
theorem dX3_finish_38 : decode cX3_finish 38 = .ok (.aload_n 0, 1) := by decide +kernel
theorem dX3_finish_39 : decode cX3_finish 39 = .ok (.getfield 32, 3) := by decide +kernel
theorem dX3_finish_42 : decode cX3_finish 42 = .ok (.iload_n 3, 1) := by decide +kernel
theorem dX3_finish_43 : decode cX3_finish 43 = .ok (.iconst 2, 1) := by decide +kernel
theorem dX3_finish_44 : decode cX3_finish 44 = .ok (.aload_n 2, 1) := by decide +kernel
theorem dX3_finish_45 : decode cX3_finish 45 = .ok (.getfield 108, 3) := by decide +kernel
theorem dX3_finish_48 : decode cX3_finish 48 = .ok (.ifCond .eq 7, 3) := by decide +kernel
theorem dX3_finish_51 : decode cX3_finish 51 = .ok (.iconst 1, 1) := by decide +kernel
theorem dX3_finish_52 : decode cX3_finish 52 = .ok (.goto 4, 3) := by decide +kernel
theorem dX3_finish_55 : decode cX3_finish 55 = .ok (.iconst 0, 1) := by decide +kernel
theorem dX3_finish_56 : decode cX3_finish 56 = .ok (.invokevirtual 151, 3) := by decide +kernel
theorem dX3_finish_59 : decode cX3_finish 59 = .ok (.aload_n 0, 1) := by decide +kernel
theorem dX3_finish_60 : decode cX3_finish 60 = .ok (.getfield 32, 3) := by decide +kernel
theorem dX3_finish_63 : decode cX3_finish 63 = .ok (.iload_n 3, 1) := by decide +kernel
theorem dX3_finish_64 : decode cX3_finish 64 = .ok (.iconst 3, 1) := by decide +kernel
theorem dX3_finish_65 : decode cX3_finish 65 = .ok (.aload_n 2, 1) := by decide +kernel
theorem dX3_finish_66 : decode cX3_finish 66 = .ok (.getfield 115, 3) := by decide +kernel
theorem dX3_finish_69 : decode cX3_finish 69 = .ok (.invokevirtual 151, 3) := by decide +kernel
theorem dX3_finish_72 : decode cX3_finish 72 = .ok (.aload_n 0, 1) := by decide +kernel
theorem dX3_finish_73 : decode cX3_finish 73 = .ok (.getfield 32, 3) := by decide +kernel
theorem dX3_finish_76 : decode cX3_finish 76 = .ok (.iload_n 3, 1) := by decide +kernel
theorem dX3_finish_77 : decode cX3_finish 77 = .ok (.iconst 4, 1) := by decide +kernel
theorem dX3_finish_78 : decode cX3_finish 78 = .ok (.aload_n 2, 1) := by decide +kernel
theorem dX3_finish_79 : decode cX3_finish 79 = .ok (.getfield 114, 3) := by decide +kernel
theorem dX3_finish_82 : decode cX3_finish 82 = .ok (.invokevirtual 151, 3) := by decide +kernel
theorem dX3_finish_85 : decode cX3_finish 85 = .ok (.aload_n 2, 1) := by decide +kernel
theorem dX3_finish_86 : decode cX3_finish 86 = .ok (.iconst 0, 1) := by decide +kernel
theorem dX3_finish_87 : decode cX3_finish 87 = .ok (.invokevirtual 47, 3) := by decide +kernel
theorem dX3_finish_90 : decode cX3_finish 90 = .ok (.return_, 1) := by decide +kernel
set_option maxRecDepth 20000 in
theorem ggX3_sendToAll_X3_send : GoodIn wsX3_sendToAll wsX3_send := goodIn_r _ [7, 8, 9, 10, 11, 12, 13, 14, 15, 16, 17, 18, 19, 20, 21, 22, 23, 24, 25, 26, 27, 28, 29, 30, 31, 32, 33, 42, 43, 44, 45] (by decide +kernel) (by decide +kernel)
set_option maxRecDepth 20000 in
theorem gX3_sendToAll_X3_send : GoodIn wsX3_sendToAll (wsV RX3 120 RX3 yX3_send wsX3_send) := goodIn_app (goodIn_of _ (by decide +kernel)) ggX3_sendToAll_X3_send
theorem dX3_sendToAll_0 : decode cX3_sendToAll 0 = .ok (.iconst 0, 1) := by decide +kernel
theorem dX3_sendToAll_1 : decode cX3_sendToAll 1 = .ok (.istore 5, 2) := by decide +kernel
theorem dX3_sendToAll_3 : decode cX3_sendToAll 3 = .ok (.iload 5, 2) := by decide +kernel
theorem dX3_sendToAll_5 : decode cX3_sendToAll 5 = .ok (.iconst 5, 1) := by decide +kernel
theorem dX3_sendToAll_6 : decode cX3_sendToAll 6 = .ok (.if_icmp .ge 29, 3) := by decide +kernel
theorem dX3_sendToAll_9 : decode cX3_sendToAll 9 = .ok (.aload_n 0, 1) := by decide +kernel
theorem dX3_sendToAll_10 : decode cX3_sendToAll 10 = .ok (.iload_n 1, 1) := by decide +kernel
theorem dX3_sendToAll_11 : decode cX3_sendToAll 11 = .ok (.iload_n 2, 1) := by decide +kernel
theorem dX3_sendToAll_12 : decode cX3_sendToAll 12 = .ok (.iload 5, 2) := by decide +kernel
theorem dX3_sendToAll_14 : decode cX3_sendToAll 14 = .ok (.aload_n 0, 1) := by decide +kernel
theorem dX3_sendToAll_15 : decode cX3_sendToAll 15 = .ok (.getfield 18, 3) := by decide +kernel
theorem dX3_sendToAll_18 : decode cX3_sendToAll 18 = .ok (.iload_n 2, 1) := by decide +kernel
theorem dX3_sendToAll_19 : decode cX3_sendToAll 19 = .ok (.aaload, 1) := by decide +kernel
theorem dX3_sendToAll_20 : decode cX3_sendToAll 20 = .ok (.getfield 105, 3) := by decide +kernel
theorem dX3_sendToAll_23 : decode cX3_sendToAll 23 = .ok (.iload_n 3, 1) := by decide +kernel
theorem dX3_sendToAll_24 : decode cX3_sendToAll 24 = .ok (.iload 4, 2) := by decide +kernel
theorem dX3_sendToAll_26 : decode cX3_sendToAll 26 = .ok (.invokevirtual 120, 3) := by decide +kernel
theorem dX3_sendToAll_29 : decode cX3_sendToAll 29 = .ok (.iinc 5 1, 3) := by decide +kernel
theorem dX3_sendToAll_32 : decode cX3_sendToAll 32 = .ok (.goto (-29), 3) := by decide +kernel
theorem dX3_sendToAll_35 : decode cX3_sendToAll 35 = .ok (.return_, 1) := by decide +kernel
set_option maxRecDepth 20000 in
theorem ggX3_send_X2_add : GoodIn wsX3_send wsX2_add := goodIn_r _ [6, 7, 8, 27, 28, 29, 30] (by decide +kernel) (by decide +kernel)
set_option maxRecDepth 20000 in
theorem gX3_send_X2_add : GoodIn wsX3_send (wsV RX3 148 RX2 yX2_add wsX2_add) := goodIn_app (goodIn_of _ (by decide +kernel)) ggX3_send_X2_add
set_option maxRecDepth 20000 in
theorem ggX3_send_X2_set : GoodIn wsX3_send wsX2_set := goodIn_r _ [12, 13, 14, 15, 16, 17, 5, 18, 7, 19, 20, 21, 22, 27, 28, 29, 30] (by decide +kernel) (by decide +kernel)
set_option maxRecDepth 20000 in
theorem gX3_send_X2_set : GoodIn wsX3_send (wsV RX3 151 RX2 yX2_set wsX2_set) := goodIn_app (goodIn_of _ (by decide +kernel)) ggX3_send_X2_set
theorem dX3_send_0 : decode cX3_send 0 = .ok (.aload_n 0, 1) := by decide +kernel
theorem dX3_send_1 : decode cX3_send 1 = .ok (.getfield 28, 3) := by decide +kernel
theorem dX3_send_4 : decode cX3_send 4 = .ok (.invokevirtual 148, 3) := by decide +kernel
theorem dX3_send_7 : decode cX3_send 7 = .ok (.istore 7, 2) := by decide +kernel
theorem dX3_send_9 : decode cX3_send 9 = .ok (.aload_n 0, 1) := by decide +kernel
theorem dX3_send_10 : decode cX3_send 10 = .ok (.getfield 28, 3) := by decide +kernel
theorem dX3_send_13 : decode cX3_send 13 = .ok (.iload 7, 2) := by decide +kernel
theorem dX3_send_15 : decode cX3_send 15 = .ok (.iconst 0, 1) := by decide +kernel
theorem dX3_send_16 : decode cX3_send 16 = .ok (.iload_n 1, 1) := by decide +kernel
theorem dX3_send_17 : decode cX3_send 17 = .ok (.invokevirtual 151, 3) := by decide +kernel
theorem dX3_send_20 : decode cX3_send 20 = .ok (.aload_n 0, 1) := by decide +kernel
theorem dX3_send_21 : decode cX3_send 21 = .ok (.getfield 28, 3) := by decide +kernel
theorem dX3_send_24 : decode cX3_send 24 = .ok (.iload 7, 2) := by decide +kernel
theorem dX3_send_26 : decode cX3_send 26 = .ok (.iconst 1, 1) := by decide +kernel
theorem dX3_send_27 : decode cX3_send 27 = .ok (.iload_n 2, 1) := by decide +kernel
theorem dX3_send_28 : decode cX3_send 28 = .ok (.invokevirtual 151, 3) := by decide +kernel
theorem dX3_send_31 : decode cX3_send 31 = .ok (.aload_n 0, 1) := by decide +kernel
theorem dX3_send_32 : decode cX3_send 32 = .ok (.getfield 28, 3) := by decide +kernel
theorem dX3_send_35 : decode cX3_send 35 = .ok (.iload 7, 2) := by decide +kernel
theorem dX3_send_37 : decode cX3_send 37 = .ok (.iconst 2, 1) := by decide +kernel
theorem dX3_send_38 : decode cX3_send 38 = .ok (.iload_n 3, 1) := by decide +kernel
theorem dX3_send_39 : decode cX3_send 39 = .ok (.invokevirtual 151, 3) := by decide +kernel
theorem dX3_send_42 : decode cX3_send 42 = .ok (.aload_n 0, 1) := by decide +kernel
theorem dX3_send_43 : decode cX3_send 43 = .ok (.getfield 28, 3) := by decide +kernel
theorem dX3_send_46 : decode cX3_send 46 = .ok (.iload 7, 2) := by decide +kernel
theorem dX3_send_48 : decode cX3_send 48 = .ok (.iconst 3, 1) := by decide +kernel
theorem dX3_send_49 : decode cX3_send 49 = .ok (.iload 4, 2) := by decide +kernel
theorem dX3_send_51 : decode cX3_send 51 = .ok (.invokevirtual 151, 3) := by decide +kernel
theorem dX3_send_54 : decode cX3_send 54 = .ok (.aload_n 0, 1) := by decide +kernel
theorem dX3_send_55 : decode cX3_send 55 = .ok (.getfield 28, 3) := by decide +kernel
theorem dX3_send_58 : decode cX3_send 58 = .ok (.iload 7, 2) := by decide +kernel
theorem dX3_send_60 : decode cX3_send 60 = .ok (.iconst 4, 1) := by decide +kernel
theorem dX3_send_61 : decode cX3_send 61 = .ok (.iload 5, 2) := by decide +kernel
theorem dX3_send_63 : decode cX3_send 63 = .ok (.invokevirtual 151, 3) := by decide +kernel
theorem dX3_send_66 : decode cX3_send 66 = .ok (.aload_n 0, 1) := by decide +kernel
theorem dX3_send_67 : decode cX3_send 67 = .ok (.getfield 28, 3) := by decide +kernel
theorem dX3_send_70 : decode cX3_send 70 = .ok (.iload 7, 2) := by decide +kernel
theorem dX3_send_72 : decode cX3_send 72 = .ok (.iconst 5, 1) := by decide +kernel
theorem dX3_send_73 : decode cX3_send 73 = .ok (.iload 6, 2) := by decide +kernel
theorem dX3_send_75 : decode cX3_send 75 = .ok (.invokevirtual 151, 3) := by decide +kernel
theorem dX3_send_78 : decode cX3_send 78 = .ok (.return_, 1) := by decide +kernel
theorem dX4_init_0 : decode cX4_init 0 = .ok (.aload_n 0, 1) := by decide +kernel
theorem dX4_init_1 : decode cX4_init 1 = .ok (.invokespecial 1, 3) := by decide +kernel
theorem dX4_init_4 : decode cX4_init 4 = .ok (.aload_n 0, 1) := by decide +kernel
theorem dX4_init_5 : decode cX4_init 5 = .ok (.iconst 5, 1) := by decide +kernel
theorem dX4_init_6 : decode cX4_init 6 = .ok (.newarray .int, 2) := by decide +kernel
theorem dX4_init_8 : decode cX4_init 8 = .ok (.putfield 7, 3) := by decide +kernel
theorem dX4_init_11 : decode cX4_init 11 = .ok (.aload_n 0, 1) := by decide +kernel
theorem dX4_init_12 : decode cX4_init 12 = .ok (.iconst 5, 1) := by decide +kernel
theorem dX4_init_13 : decode cX4_init 13 = .ok (.newarray .int, 2) := by decide +kernel
theorem dX4_init_15 : decode cX4_init 15 = .ok (.putfield 13, 3) := by decide +kernel
theorem dX4_init_18 : decode cX4_init 18 = .ok (.aload_n 0, 1) := by decide +kernel
theorem dX4_init_19 : decode cX4_init 19 = .ok (.iconst 5, 1) := by decide +kernel
theorem dX4_init_20 : decode cX4_init 20 = .ok (.newarray .boolean, 2) := by decide +kernel
theorem dX4_init_22 : decode cX4_init 22 = .ok (.putfield 16, 3) := by decide +kernel
theorem dX4_init_25 : decode cX4_init 25 = .ok (.aload_n 0, 1) := by decide +kernel
theorem dX4_init_26 : decode cX4_init 26 = .ok (.iconst 3, 1) := by decide +kernel
theorem dX4_init_27 : decode cX4_init 27 = .ok (.newarray .int, 2) := by decide +kernel
theorem dX4_init_29 : decode cX4_init 29 = .ok (.putfield 20, 3) := by decide +kernel
theorem dX4_init_32 : decode cX4_init 32 = .ok (.aload_n 0, 1) := by decide +kernel
theorem dX4_init_33 : decode cX4_init 33 = .ok (.iconst 3, 1) := by decide +kernel
theorem dX4_init_34 : decode cX4_init 34 = .ok (.newarray .int, 2) := by decide +kernel
theorem dX4_init_36 : decode cX4_init 36 = .ok (.putfield 23, 3) := by decide +kernel
theorem dX4_init_39 : decode cX4_init 39 = .ok (.aload_n 0, 1) := by decide +kernel
theorem dX4_init_40 : decode cX4_init 40 = .ok (.iconst 3, 1) := by decide +kernel
theorem dX4_init_41 : decode cX4_init 41 = .ok (.newarray .boolean, 2) := by decide +kernel
theorem dX4_init_43 : decode cX4_init 43 = .ok (.putfield 26, 3) := by decide +kernel
theorem dX4_init_46 : decode cX4_init 46 = .ok (.aload_n 0, 1) := by decide +kernel
theorem dX4_init_47 : decode cX4_init 47 = .ok (.iconst 3, 1) := by decide +kernel
theorem dX4_init_48 : decode cX4_init 48 = .ok (.newarray .int, 2) := by decide +kernel
theorem dX4_init_50 : decode cX4_init 50 = .ok (.putfield 29, 3) := by decide +kernel
theorem dX4_init_53 : decode cX4_init 53 = .ok (.aload_n 0, 1) := by decide +kernel
theorem dX4_init_54 : decode cX4_init 54 = .ok (.iconst 3, 1) := by decide +kernel
theorem dX4_init_55 : decode cX4_init 55 = .ok (.newarray .int, 2) := by decide +kernel
theorem dX4_init_57 : decode cX4_init 57 = .ok (.putfield 32, 3) := by decide +kernel
theorem dX4_init_60 : decode cX4_init 60 = .ok (.aload_n 0, 1) := by decide +kernel
theorem dX4_init_61 : decode cX4_init 61 = .ok (.iconst 3, 1) := by decide +kernel
theorem dX4_init_62 : decode cX4_init 62 = .ok (.newarray .int, 2) := by decide +kernel
theorem dX4_init_64 : decode cX4_init 64 = .ok (.putfield 35, 3) := by decide +kernel
theorem dX4_init_67 : decode cX4_init 67 = .ok (.aload_n 0, 1) := by decide +kernel
theorem dX4_init_68 : decode cX4_init 68 = .ok (.iconst 3, 1) := by decide +kernel
theorem dX4_init_69 : decode cX4_init 69 = .ok (.newarray .int, 2) := by decide +kernel
theorem dX4_init_71 : decode cX4_init 71 = .ok (.putfield 38, 3) := by decide +kernel
theorem dX4_init_74 : decode cX4_init 74 = .ok (.aload_n 0, 1) := by decide +kernel
theorem dX4_init_75 : decode cX4_init 75 = .ok (.iconst 3, 1) := by decide +kernel
theorem dX4_init_76 : decode cX4_init 76 = .ok (.newarray .int, 2) := by decide +kernel
theorem dX4_init_78 : decode cX4_init 78 = .ok (.putfield 41, 3) := by decide +kernel
theorem dX4_init_81 : decode cX4_init 81 = .ok (.aload_n 0, 1) := by decide +kernel
theorem dX4_init_82 : decode cX4_init 82 = .ok (.sipush 600, 3) := by decide +kernel
theorem dX4_init_85 : decode cX4_init 85 = .ok (.newarray .int, 2) := by decide +kernel
theorem dX4_init_87 : decode cX4_init 87 = .ok (.putfield 44, 3) := by decide +kernel
theorem dX4_init_90 : decode cX4_init 90 = .ok (.aload_n 0, 1) := by decide +kernel
theorem dX4_init_91 : decode cX4_init 91 = .ok (.sipush 2560, 3) := by decide +kernel
theorem dX4_init_94 : decode cX4_init 94 = .ok (.newarray .int, 2) := by decide +kernel
theorem dX4_init_96 : decode cX4_init 96 = .ok (.putfield 47, 3) := by decide +kernel
theorem dX4_init_99 : decode cX4_init 99 = .ok (.return_, 1) := by decide +kernel
theorem dX4_within_0 : decode cX4_within 0 = .ok (.iload_n 0, 1) := by decide +kernel
theorem dX4_within_1 : decode cX4_within 1 = .ok (.iload_n 1, 1) := by decide +kernel
theorem dX4_within_2 : decode cX4_within 2 = .ok (.if_icmp .lt 12, 3) := by decide +kernel
theorem dX4_within_5 : decode cX4_within 5 = .ok (.iload_n 0, 1) := by decide +kernel
theorem dX4_within_6 : decode cX4_within 6 = .ok (.iload_n 2, 1) := by decide +kernel
theorem dX4_within_7 : decode cX4_within 7 = .ok (.if_icmp .gt 7, 3) := by decide +kernel
theorem dX4_within_10 : decode cX4_within 10 = .ok (.iconst 1, 1) := by decide +kernel
theorem dX4_within_11 : decode cX4_within 11 = .ok (.goto 4, 3) := by decide +kernel
theorem dX4_within_14 : decode cX4_within 14 = .ok (.iconst 0, 1) := by decide +kernel
theorem dX4_within_15 : decode cX4_within 15 = .ok (.ireturn, 1) := by decide +kernel
theorem dX4_send_0 : decode cX4_send 0 = .ok (.bipush 6, 2) := by decide +kernel
theorem dX4_send_2 : decode cX4_send 2 = .ok (.aload_n 0, 1) := by decide +kernel
theorem dX4_send_3 : decode cX4_send 3 = .ok (.getfield 50, 3) := by decide +kernel
theorem dX4_send_6 : decode cX4_send 6 = .ok (.imul, 1) := by decide +kernel
theorem dX4_send_7 : decode cX4_send 7 = .ok (.istore 7, 2) := by decide +kernel
theorem dX4_send_9 : decode cX4_send 9 = .ok (.aload_n 0, 1) := by decide +kernel
theorem dX4_send_10 : decode cX4_send 10 = .ok (.getfield 44, 3) := by decide +kernel
theorem dX4_send_13 : decode cX4_send 13 = .ok (.iload 7, 2) := by decide +kernel
theorem dX4_send_15 : decode cX4_send 15 = .ok (.iload_n 1, 1) := by decide +kernel
theorem dX4_send_16 : decode cX4_send 16 = .ok (.iastore, 1) := by decide +kernel
theorem dX4_send_17 : decode cX4_send 17 = .ok (.aload_n 0, 1) := by decide +kernel
theorem dX4_send_18 : decode cX4_send 18 = .ok (.getfield 44, 3) := by decide +kernel
theorem dX4_send_21 : decode cX4_send 21 = .ok (.iload 7, 2) := by decide +kernel
theorem dX4_send_23 : decode cX4_send 23 = .ok (.iconst 1, 1) := by decide +kernel
theorem dX4_send_24 : decode cX4_send 24 = .ok (.iadd, 1) := by decide +kernel
theorem dX4_send_25 : decode cX4_send 25 = .ok (.iload_n 2, 1) := by decide +kernel
theorem dX4_send_26 : decode cX4_send 26 = .ok (.iastore, 1) := by decide +kernel
theorem dX4_send_27 : decode cX4_send 27 = .ok (.aload_n 0, 1) := by decide +kernel
theorem dX4_send_28 : decode cX4_send 28 = .ok (.getfield 44, 3) := by decide +kernel
theorem dX4_send_31 : decode cX4_send 31 = .ok (.iload 7, 2) := by decide +kernel
theorem dX4_send_33 : decode cX4_send 33 = .ok (.iconst 2, 1) := by decide +kernel
theorem dX4_send_34 : decode cX4_send 34 = .ok (.iadd, 1) := by decide +kernel
theorem dX4_send_35 : decode cX4_send 35 = .ok (.iload_n 3, 1) := by decide +kernel
theorem dX4_send_36 : decode cX4_send 36 = .ok (.iastore, 1) := by decide +kernel
theorem dX4_send_37 : decode cX4_send 37 = .ok (.aload_n 0, 1) := by decide +kernel
theorem dX4_send_38 : decode cX4_send 38 = .ok (.getfield 44, 3) := by decide +kernel
theorem dX4_send_41 : decode cX4_send 41 = .ok (.iload 7, 2) := by decide +kernel
theorem dX4_send_43 : decode cX4_send 43 = .ok (.iconst 3, 1) := by decide +kernel
theorem dX4_send_44 : decode cX4_send 44 = .ok (.iadd, 1) := by decide +kernel
theorem dX4_send_45 : decode cX4_send 45 = .ok (.iload 4, 2) := by decide +kernel
theorem dX4_send_47 : decode cX4_send 47 = .ok (.iastore, 1) := by decide +kernel
theorem dX4_send_48 : decode cX4_send 48 = .ok (.aload_n 0, 1) := by decide +kernel
theorem dX4_send_49 : decode cX4_send 49 = .ok (.getfield 44, 3) := by decide +kernel
theorem dX4_send_52 : decode cX4_send 52 = .ok (.iload 7, 2) := by decide +kernel
theorem dX4_send_54 : decode cX4_send 54 = .ok (.iconst 4, 1) := by decide +kernel
theorem dX4_send_55 : decode cX4_send 55 = .ok (.iadd, 1) := by decide +kernel
theorem dX4_send_56 : decode cX4_send 56 = .ok (.iload 5, 2) := by decide +kernel
theorem dX4_send_58 : decode cX4_send 58 = .ok (.iastore, 1) := by decide +kernel
theorem dX4_send_59 : decode cX4_send 59 = .ok (.aload_n 0, 1) := by decide +kernel
theorem dX4_send_60 : decode cX4_send 60 = .ok (.getfield 44, 3) := by decide +kernel
theorem dX4_send_63 : decode cX4_send 63 = .ok (.iload 7, 2) := by decide +kernel
theorem dX4_send_65 : decode cX4_send 65 = .ok (.iconst 5, 1) := by decide +kernel
theorem dX4_send_66 : decode cX4_send 66 = .ok (.iadd, 1) := by decide +kernel
theorem dX4_send_67 : decode cX4_send 67 = .ok (.iload 6, 2) := by decide +kernel
theorem dX4_send_69 : decode cX4_send 69 = .ok (.iastore, 1) := by decide +kernel
theorem dX4_send_70 : decode cX4_send 70 = .ok (.aload_n 0, 1) := by decide +kernel
theorem dX4_send_71 : decode cX4_send 71 = .ok (.dup, 1) := by decide +kernel
theorem dX4_send_72 : decode cX4_send 72 = .ok (.getfield 50, 3) := by decide +kernel
theorem dX4_send_75 : decode cX4_send 75 = .ok (.iconst 1, 1) := by decide +kernel
theorem dX4_send_76 : decode cX4_send 76 = .ok (.iadd, 1) := by decide +kernel
theorem dX4_send_77 : decode cX4_send 77 = .ok (.putfield 50, 3) := by decide +kernel
theorem dX4_send_80 : decode cX4_send 80 = .ok (.return_, 1) := by decide +kernel
set_option maxRecDepth 20000 in
theorem ggX4_sendAll_X4_send : GoodIn wsX4_sendAll wsX4_send := goodIn_r _ [6, 7, 8, 9, 10, 11, 12, 13, 14, 15, 16, 17, 18, 19, 20, 21, 22, 23, 24] (by decide +kernel) (by decide +kernel)
set_option maxRecDepth 20000 in
theorem gX4_sendAll_X4_send : GoodIn wsX4_sendAll (wsV RX4 54 RX4 yX4_send wsX4_send) := goodIn_app (goodIn_of _ (by decide +kernel)) ggX4_sendAll_X4_send
theorem dX4_sendAll_0 : decode cX4_sendAll 0 = .ok (.iconst 0, 1) := by decide +kernel
theorem dX4_sendAll_1 : decode cX4_sendAll 1 = .ok (.istore 5, 2) := by decide +kernel
theorem dX4_sendAll_3 : decode cX4_sendAll 3 = .ok (.iload 5, 2) := by decide +kernel
theorem dX4_sendAll_5 : decode cX4_sendAll 5 = .ok (.iconst 5, 1) := by decide +kernel
theorem dX4_sendAll_6 : decode cX4_sendAll 6 = .ok (.if_icmp .ge 26, 3) := by decide +kernel
theorem dX4_sendAll_9 : decode cX4_sendAll 9 = .ok (.aload_n 0, 1) := by decide +kernel
theorem dX4_sendAll_10 : decode cX4_sendAll 10 = .ok (.iload_n 1, 1) := by decide +kernel
theorem dX4_sendAll_11 : decode cX4_sendAll 11 = .ok (.iload_n 2, 1) := by decide +kernel
theorem dX4_sendAll_12 : decode cX4_sendAll 12 = .ok (.iload 5, 2) := by decide +kernel
theorem dX4_sendAll_14 : decode cX4_sendAll 14 = .ok (.aload_n 0, 1) := by decide +kernel
theorem dX4_sendAll_15 : decode cX4_sendAll 15 = .ok (.getfield 23, 3) := by decide +kernel
theorem dX4_sendAll_18 : decode cX4_sendAll 18 = .ok (.iload_n 2, 1) := by decide +kernel
theorem dX4_sendAll_19 : decode cX4_sendAll 19 = .ok (.iaload, 1) := by decide +kernel
theorem dX4_sendAll_20 : decode cX4_sendAll 20 = .ok (.iload_n 3, 1) := by decide +kernel
theorem dX4_sendAll_21 : decode cX4_sendAll 21 = .ok (.iload 4, 2) := by decide +kernel
theorem dX4_sendAll_23 : decode cX4_sendAll 23 = .ok (.invokevirtual 54, 3) := by decide +kernel
theorem dX4_sendAll_26 : decode cX4_sendAll 26 = .ok (.iinc 5 1, 3) := by decide +kernel
theorem dX4_sendAll_29 : decode cX4_sendAll 29 = .ok (.goto (-26), 3) := by decide +kernel
theorem dX4_sendAll_32 : decode cX4_sendAll 32 = .ok (.return_, 1) := by decide +kernel
set_option maxRecDepth 20000 in
theorem ggX4_begin_X4_within : GoodIn wsX4_begin wsX4_within := goodIn_r _ [12] (by decide +kernel) (by decide +kernel)
set_option maxRecDepth 20000 in
theorem gX4_begin_X4_within : GoodIn wsX4_begin (va_wsS RX4 58 yX4_within wsX4_within) := goodIn_app (goodIn_of _ (by decide +kernel)) ggX4_begin_X4_within
set_option maxRecDepth 20000 in
theorem ggX4_begin_X4_sendAll : GoodIn wsX4_begin wsX4_sendAll := goodIn_r _ [16, 3, 17, 18, 19, 11, 20, 2, 21, 22, 23, 24, 25, 26, 27, 28, 29, 30, 31, 32, 33, 34, 35, 36, 37] (by decide +kernel) (by decide +kernel)
set_option maxRecDepth 20000 in
theorem gX4_begin_X4_sendAll : GoodIn wsX4_begin (wsV RX4 62 RX4 yX4_sendAll wsX4_sendAll) := goodIn_app (goodIn_of _ (by decide +kernel)) ggX4_begin_X4_sendAll
theorem dX4_begin_0 : decode cX4_begin 0 = .ok (.iload_n 1, 1) := by decide +kernel
theorem dX4_begin_1 : decode cX4_begin 1 = .ok (.iconst 0, 1) := by decide +kernel
theorem dX4_begin_2 : decode cX4_begin 2 = .ok (.iconst 2, 1) := by decide +kernel
theorem dX4_begin_3 : decode cX4_begin 3 = .ok (.invokestatic 58, 3) := by decide +kernel
theorem dX4_begin_6 : decode cX4_begin 6 = .ok (.ifCond .ne 5, 3) := by decide +kernel
theorem dX4_begin_9 : decode cX4_begin 9 = .ok (.iconst (-1), 1) := by decide +kernel
theorem dX4_begin_10 : decode cX4_begin 10 = .ok (.ireturn, 1) := by decide +kernel
theorem dX4_begin_11 : decode cX4_begin 11 = .ok (.aload_n 0, 1) := by decide +kernel
theorem dX4_begin_12 : decode cX4_begin 12 = .ok (.getfield 20, 3) := by decide +kernel
theorem dX4_begin_15 : decode cX4_begin 15 = .ok (.iload_n 1, 1) := by decide +kernel
theorem dX4_begin_16 : decode cX4_begin 16 = .ok (.iaload, 1) := by decide +kernel
theorem dX4_begin_17 : decode cX4_begin 17 = .ok (.ifCond .eq 6, 3) := by decide +kernel
theorem dX4_begin_20 : decode cX4_begin 20 = .ok (.bipush (-2), 2) := by decide +kernel
theorem dX4_begin_22 : decode cX4_begin 22 = .ok (.ireturn, 1) := by decide +kernel
theorem dX4_begin_23 : decode cX4_begin 23 = .ok (.aload_n 0, 1) := by decide +kernel
theorem dX4_begin_24 : decode cX4_begin 24 = .ok (.getfield 50, 3) := by decide +kernel
theorem dX4_begin_27 : decode cX4_begin 27 = .ok (.bipush 60, 2) := by decide +kernel
theorem dX4_begin_29 : decode cX4_begin 29 = .ok (.if_icmp .le 6, 3) := by decide +kernel
theorem dX4_begin_32 : decode cX4_begin 32 = .ok (.bipush (-3), 2) := by decide +kernel
theorem dX4_begin_34 : decode cX4_begin 34 = .ok (.ireturn, 1) := by decide +kernel
theorem dX4_begin_35 : decode cX4_begin 35 = .ok (.aload_n 0, 1) := by decide +kernel
theorem dX4_begin_36 : decode cX4_begin 36 = .ok (.getfield 23, 3) := by decide +kernel
theorem dX4_begin_39 : decode cX4_begin 39 = .ok (.iload_n 1, 1) := by decide +kernel
theorem dX4_begin_40 : decode cX4_begin 40 = .ok (.dup2, 1) := by decide +kernel
theorem dX4_begin_41 : decode cX4_begin 41 = .ok (.iaload, 1) := by decide +kernel
theorem dX4_begin_42 : decode cX4_begin 42 = .ok (.iconst 1, 1) := by decide +kernel
theorem dX4_begin_43 : decode cX4_begin 43 = .ok (.iadd, 1) := by decide +kernel
theorem dX4_begin_44 : decode cX4_begin 44 = .ok (.iastore, 1) := by decide +kernel
theorem dX4_begin_45 : decode cX4_begin 45 = .ok (.aload_n 0, 1) := by decide +kernel
theorem dX4_begin_46 : decode cX4_begin 46 = .ok (.getfield 20, 3) := by decide +kernel
theorem dX4_begin_49 : decode cX4_begin 49 = .ok (.iload_n 1, 1) := by decide +kernel
theorem dX4_begin_50 : decode cX4_begin 50 = .ok (.iconst 1, 1) := by decide +kernel
theorem dX4_begin_51 : decode cX4_begin 51 = .ok (.iastore, 1) := by decide +kernel
theorem dX4_begin_52 : decode cX4_begin 52 = .ok (.aload_n 0, 1) := by decide +kernel
theorem dX4_begin_53 : decode cX4_begin 53 = .ok (.getfield 26, 3) := by decide +kernel
theorem dX4_begin_56 : decode cX4_begin 56 = .ok (.iload_n 1, 1) := by decide +kernel
theorem dX4_begin_57 : decode cX4_begin 57 = .ok (.iload_n 2, 1) := by decide +kernel
