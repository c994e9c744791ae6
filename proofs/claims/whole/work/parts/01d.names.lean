theorem dX4_begin_58 : decode cX4_begin 58 = .ok (.bastore, 1) := by decide +kernel
theorem dX4_begin_59 : decode cX4_begin 59 = .ok (.aload_n 0, 1) := by decide +kernel
theorem dX4_begin_60 : decode cX4_begin 60 = .ok (.getfield 29, 3) := by decide +kernel
theorem dX4_begin_63 : decode cX4_begin 63 = .ok (.iload_n 1, 1) := by decide +kernel
theorem dX4_begin_64 : decode cX4_begin 64 = .ok (.iload_n 3, 1) := by decide +kernel
theorem dX4_begin_65 : decode cX4_begin 65 = .ok (.iastore, 1) := by decide +kernel
theorem dX4_begin_66 : decode cX4_begin 66 = .ok (.aload_n 0, 1) := by decide +kernel
theorem dX4_begin_67 : decode cX4_begin 67 = .ok (.getfield 32, 3) := by decide +kernel
theorem dX4_begin_70 : decode cX4_begin 70 = .ok (.iload_n 1, 1) := by decide +kernel
theorem dX4_begin_71 : decode cX4_begin 71 = .ok (.iconst 0, 1) := by decide +kernel
theorem dX4_begin_72 : decode cX4_begin 72 = .ok (.iastore, 1) := by decide +kernel
theorem dX4_begin_73 : decode cX4_begin 73 = .ok (.aload_n 0, 1) := by decide +kernel
theorem dX4_begin_74 : decode cX4_begin 74 = .ok (.getfield 35, 3) := by decide +kernel
theorem dX4_begin_77 : decode cX4_begin 77 = .ok (.iload_n 1, 1) := by decide +kernel
theorem dX4_begin_78 : decode cX4_begin 78 = .ok (.iconst 0, 1) := by decide +kernel
theorem dX4_begin_79 : decode cX4_begin 79 = .ok (.iastore, 1) := by decide +kernel
theorem dX4_begin_80 : decode cX4_begin 80 = .ok (.aload_n 0, 1) := by decide +kernel
theorem dX4_begin_81 : decode cX4_begin 81 = .ok (.getfield 38, 3) := by decide +kernel
theorem dX4_begin_84 : decode cX4_begin 84 = .ok (.iload_n 1, 1) := by decide +kernel
theorem dX4_begin_85 : decode cX4_begin 85 = .ok (.iconst 0, 1) := by decide +kernel
theorem dX4_begin_86 : decode cX4_begin 86 = .ok (.iastore, 1) := by decide +kernel
theorem dX4_begin_87 : decode cX4_begin 87 = .ok (.aload_n 0, 1) := by decide +kernel
theorem dX4_begin_88 : decode cX4_begin 88 = .ok (.iconst 0, 1) := by decide +kernel
theorem dX4_begin_89 : decode cX4_begin 89 = .ok (.iload_n 1, 1) := by decide +kernel
theorem dX4_begin_90 : decode cX4_begin 90 = .ok (.iconst 0, 1) := by decide +kernel
theorem dX4_begin_91 : decode cX4_begin 91 = .ok (.iconst 0, 1) := by decide +kernel
theorem dX4_begin_92 : decode cX4_begin 92 = .ok (.invokevirtual 62, 3) := by decide +kernel
theorem dX4_begin_95 : decode cX4_begin 95 = .ok (.aload_n 0, 1) := by decide +kernel
theorem dX4_begin_96 : decode cX4_begin 96 = .ok (.getfield 23, 3) := by decide +kernel
theorem dX4_begin_99 : decode cX4_begin 99 = .ok (.iload_n 1, 1) := by decide +kernel
theorem dX4_begin_100 : decode cX4_begin 100 = .ok (.iaload, 1) := by decide +kernel
theorem dX4_begin_101 : decode cX4_begin 101 = .ok (.ireturn, 1) := by decide +kernel
set_option maxRecDepth 20000 in
theorem ggX4_write_X4_begin : GoodIn wsX4_write wsX4_begin := goodIn_r _ [5, 6, 7, 8, 9, 10, 11, 12, 13, 14, 15, 4, 16, 17, 18, 19, 20, 21, 22, 23, 24, 25, 26, 27, 28, 29, 30, 31, 32, 33, 34, 35, 36, 37, 38, 39, 40, 41] (by decide +kernel) (by decide +kernel)
set_option maxRecDepth 20000 in
theorem gX4_write_X4_begin : GoodIn wsX4_write (wsV RX4 66 RX4 yX4_begin wsX4_begin) := goodIn_app (goodIn_of _ (by decide +kernel)) ggX4_write_X4_begin
theorem dX4_write_0 : decode cX4_write 0 = .ok (.aload_n 0, 1) := by decide +kernel
theorem dX4_write_1 : decode cX4_write 1 = .ok (.iload_n 1, 1) := by decide +kernel
theorem dX4_write_2 : decode cX4_write 2 = .ok (.iconst 1, 1) := by decide +kernel
theorem dX4_write_3 : decode cX4_write 3 = .ok (.iload_n 2, 1) := by decide +kernel
theorem dX4_write_4 : decode cX4_write 4 = .ok (.invokevirtual 66, 3) := by decide +kernel
theorem dX4_write_7 : decode cX4_write 7 = .ok (.ireturn, 1) := by decide +kernel
set_option maxRecDepth 20000 in
theorem ggX4_read_X4_begin : GoodIn wsX4_read wsX4_begin := goodIn_r _ [5, 6, 7, 8, 9, 10, 11, 12, 13, 14, 15, 4, 16, 17, 18, 19, 20, 21, 22, 23, 24, 25, 26, 27, 28, 29, 30, 31, 32, 33, 34, 35, 36, 37, 38, 39, 40, 41] (by decide +kernel) (by decide +kernel)
set_option maxRecDepth 20000 in
theorem gX4_read_X4_begin : GoodIn wsX4_read (wsV RX4 66 RX4 yX4_begin wsX4_begin) := goodIn_app (goodIn_of _ (by decide +kernel)) ggX4_read_X4_begin
theorem dX4_read_0 : decode cX4_read 0 = .ok (.aload_n 0, 1) := by decide +kernel
theorem dX4_read_1 : decode cX4_read 1 = .ok (.iload_n 1, 1) := by decide +kernel
theorem dX4_read_2 : decode cX4_read 2 = .ok (.iconst 0, 1) := by decide +kernel
theorem dX4_read_3 : decode cX4_read 3 = .ok (.iconst 0, 1) := by decide +kernel
theorem dX4_read_4 : decode cX4_read 4 = .ok (.invokevirtual 66, 3) := by decide +kernel
theorem dX4_read_7 : decode cX4_read 7 = .ok (.ireturn, 1) := by decide +kernel
set_option maxRecDepth 20000 in
theorem ggX4_leave_X4_within : GoodIn wsX4_leave wsX4_within := goodIn_r _ [5] (by decide +kernel) (by decide +kernel)
set_option maxRecDepth 20000 in
theorem gX4_leave_X4_within : GoodIn wsX4_leave (va_wsS RX4 58 yX4_within wsX4_within) := goodIn_app (goodIn_of _ (by decide +kernel)) ggX4_leave_X4_within
theorem dX4_leave_0 : decode cX4_leave 0 = .ok (.iload_n 1, 1) := by decide +kernel
theorem dX4_leave_1 : decode cX4_leave 1 = .ok (.iconst 0, 1) := by decide +kernel
theorem dX4_leave_2 : decode cX4_leave 2 = .ok (.iconst 2, 1) := by decide +kernel
theorem dX4_leave_3 : decode cX4_leave 3 = .ok (.invokestatic 58, 3) := by decide +kernel
theorem dX4_leave_6 : decode cX4_leave 6 = .ok (.ifCond .eq 12, 3) := by decide +kernel
theorem dX4_leave_9 : decode cX4_leave 9 = .ok (.aload_n 0, 1) := by decide +kernel
theorem dX4_leave_10 : decode cX4_leave 10 = .ok (.getfield 20, 3) := by decide +kernel
theorem dX4_leave_13 : decode cX4_leave 13 = .ok (.iload_n 1, 1) := by decide +kernel
theorem dX4_leave_14 : decode cX4_leave 14 = .ok (.iaload, 1) := by decide +kernel
theorem dX4_leave_15 : decode cX4_leave 15 = .ok (.ifCond .ne 5, 3) := by decide +kernel
theorem dX4_leave_18 : decode cX4_leave 18 = .ok (.iconst 0, 1) := by decide +kernel
theorem dX4_leave_19 : decode cX4_leave 19 = .ok (.ireturn, 1) := by decide +kernel
theorem dX4_leave_20 : decode cX4_leave 20 = .ok (.aload_n 0, 1) := by decide +kernel
theorem dX4_leave_21 : decode cX4_leave 21 = .ok (.getfield 20, 3) := by decide +kernel
theorem dX4_leave_24 : decode cX4_leave 24 = .ok (.iload_n 1, 1) := by decide +kernel
theorem dX4_leave_25 : decode cX4_leave 25 = .ok (.iconst 0, 1) := by decide +kernel
theorem dX4_leave_26 : decode cX4_leave 26 = .ok (.iastore, 1) := by decide +kernel
theorem dX4_leave_27 : decode cX4_leave 27 = .ok (.iconst 1, 1) := by decide +kernel
theorem dX4_leave_28 : decode cX4_leave 28 = .ok (.ireturn, 1) := by decide +kernel
theorem dX4_drop_0 : decode cX4_drop 0 = .ok (.aload_n 0, 1) := by decide +kernel
theorem dX4_drop_1 : decode cX4_drop 1 = .ok (.dup, 1) := by decide +kernel
theorem dX4_drop_2 : decode cX4_drop 2 = .ok (.getfield 50, 3) := by decide +kernel
theorem dX4_drop_5 : decode cX4_drop 5 = .ok (.iconst 1, 1) := by decide +kernel
theorem dX4_drop_6 : decode cX4_drop 6 = .ok (.isub, 1) := by decide +kernel
theorem dX4_drop_7 : decode cX4_drop 7 = .ok (.putfield 50, 3) := by decide +kernel
theorem dX4_drop_10 : decode cX4_drop 10 = .ok (.bipush 6, 2) := by decide +kernel
theorem dX4_drop_12 : decode cX4_drop 12 = .ok (.iload_n 1, 1) := by decide +kernel
theorem dX4_drop_13 : decode cX4_drop 13 = .ok (.imul, 1) := by decide +kernel
theorem dX4_drop_14 : decode cX4_drop 14 = .ok (.istore_n 2, 1) := by decide +kernel
theorem dX4_drop_15 : decode cX4_drop 15 = .ok (.iload_n 2, 1) := by decide +kernel
theorem dX4_drop_16 : decode cX4_drop 16 = .ok (.bipush 6, 2) := by decide +kernel
theorem dX4_drop_18 : decode cX4_drop 18 = .ok (.aload_n 0, 1) := by decide +kernel
theorem dX4_drop_19 : decode cX4_drop 19 = .ok (.getfield 50, 3) := by decide +kernel
theorem dX4_drop_22 : decode cX4_drop 22 = .ok (.imul, 1) := by decide +kernel
theorem dX4_drop_23 : decode cX4_drop 23 = .ok (.if_icmp .ge 24, 3) := by decide +kernel
theorem dX4_drop_26 : decode cX4_drop 26 = .ok (.aload_n 0, 1) := by decide +kernel
theorem dX4_drop_27 : decode cX4_drop 27 = .ok (.getfield 44, 3) := by decide +kernel
theorem dX4_drop_30 : decode cX4_drop 30 = .ok (.iload_n 2, 1) := by decide +kernel
theorem dX4_drop_31 : decode cX4_drop 31 = .ok (.aload_n 0, 1) := by decide +kernel
theorem dX4_drop_32 : decode cX4_drop 32 = .ok (.getfield 44, 3) := by decide +kernel
theorem dX4_drop_35 : decode cX4_drop 35 = .ok (.iload_n 2, 1) := by decide +kernel
theorem dX4_drop_36 : decode cX4_drop 36 = .ok (.bipush 6, 2) := by decide +kernel
theorem dX4_drop_38 : decode cX4_drop 38 = .ok (.iadd, 1) := by decide +kernel
theorem dX4_drop_39 : decode cX4_drop 39 = .ok (.iaload, 1) := by decide +kernel
theorem dX4_drop_40 : decode cX4_drop 40 = .ok (.iastore, 1) := by decide +kernel
theorem dX4_drop_41 : decode cX4_drop 41 = .ok (.iinc 2 1, 3) := by decide +kernel
theorem dX4_drop_44 : decode cX4_drop 44 = .ok (.goto (-29), 3) := by decide +kernel
theorem dX4_drop_47 : decode cX4_drop 47 = .ok (.return_, 1) := by decide +kernel
theorem dX4_bits_0 : decode cX4_bits 0 = .ok (.iconst 0, 1) := by decide +kernel
theorem dX4_bits_1 : decode cX4_bits 1 = .ok (.istore_n 1, 1) := by decide +kernel
theorem dX4_bits_2 : decode cX4_bits 2 = .ok (.iconst 0, 1) := by decide +kernel
theorem dX4_bits_3 : decode cX4_bits 3 = .ok (.istore_n 2, 1) := by decide +kernel
theorem dX4_bits_4 : decode cX4_bits 4 = .ok (.iload_n 2, 1) := by decide +kernel
theorem dX4_bits_5 : decode cX4_bits 5 = .ok (.iconst 5, 1) := by decide +kernel
theorem dX4_bits_6 : decode cX4_bits 6 = .ok (.if_icmp .ge 17, 3) := by decide +kernel
theorem dX4_bits_9 : decode cX4_bits 9 = .ok (.iload_n 1, 1) := by decide +kernel
theorem dX4_bits_10 : decode cX4_bits 10 = .ok (.iload_n 0, 1) := by decide +kernel
theorem dX4_bits_11 : decode cX4_bits 11 = .ok (.iload_n 2, 1) := by decide +kernel
theorem dX4_bits_12 : decode cX4_bits 12 = .ok (.ishr, 1) := by decide +kernel
theorem dX4_bits_13 : decode cX4_bits 13 = .ok (.iconst 1, 1) := by decide +kernel
theorem dX4_bits_14 : decode cX4_bits 14 = .ok (.iand, 1) := by decide +kernel
theorem dX4_bits_15 : decode cX4_bits 15 = .ok (.iadd, 1) := by decide +kernel
theorem dX4_bits_16 : decode cX4_bits 16 = .ok (.istore_n 1, 1) := by decide +kernel
theorem dX4_bits_17 : decode cX4_bits 17 = .ok (.iinc 2 1, 3) := by decide +kernel
theorem dX4_bits_20 : decode cX4_bits 20 = .ok (.goto (-16), 3) := by decide +kernel
theorem dX4_bits_23 : decode cX4_bits 23 = .ok (.iload_n 1, 1) := by decide +kernel
theorem dX4_bits_24 : decode cX4_bits 24 = .ok (.ireturn, 1) := by decide +kernel
set_option maxRecDepth 20000 in
theorem ggX4_deliver_X4_within : GoodIn wsX4_deliver wsX4_within := goodIn_r _ [19] (by decide +kernel) (by decide +kernel)
set_option maxRecDepth 20000 in
theorem gX4_deliver_X4_within : GoodIn wsX4_deliver (va_wsS RX4 58 yX4_within wsX4_within) := goodIn_app (goodIn_of _ (by decide +kernel)) ggX4_deliver_X4_within
set_option maxRecDepth 20000 in
theorem ggX4_deliver_X4_drop : GoodIn wsX4_deliver wsX4_drop := goodIn_r _ [23, 1, 2, 35, 36, 37, 38, 39, 40, 41, 42, 43, 44, 45, 46, 47, 48, 49, 50] (by decide +kernel) (by decide +kernel)
set_option maxRecDepth 20000 in
theorem gX4_deliver_X4_drop : GoodIn wsX4_deliver (wsV RX4 70 RX4 yX4_drop wsX4_drop) := goodIn_app (goodIn_of _ (by decide +kernel)) ggX4_deliver_X4_drop
set_option maxRecDepth 20000 in
theorem ggX4_deliver_X4_send : GoodIn wsX4_deliver wsX4_send := goodIn_r _ [27, 1, 2, 35, 36, 37, 38, 39, 40, 41, 42, 43, 44, 45, 46, 47, 48, 49, 50] (by decide +kernel) (by decide +kernel)
set_option maxRecDepth 20000 in
theorem gX4_deliver_X4_send : GoodIn wsX4_deliver (wsV RX4 54 RX4 yX4_send wsX4_send) := goodIn_app (goodIn_of _ (by decide +kernel)) ggX4_deliver_X4_send
set_option maxRecDepth 20000 in
theorem ggX4_deliver_X4_bits : GoodIn wsX4_deliver wsX4_bits := goodIn_r _ [30] (by decide +kernel) (by decide +kernel)
set_option maxRecDepth 20000 in
theorem gX4_deliver_X4_bits : GoodIn wsX4_deliver (va_wsS RX4 74 yX4_bits wsX4_bits) := goodIn_app (goodIn_of _ (by decide +kernel)) ggX4_deliver_X4_bits
set_option maxRecDepth 20000 in
theorem ggX4_deliver_X4_sendAll : GoodIn wsX4_deliver wsX4_sendAll := goodIn_r _ [34, 6, 24, 25, 26, 18, 27, 1, 2, 35, 36, 37, 38, 39, 40, 41, 42, 43, 44, 45, 46, 47, 48, 49, 50] (by decide +kernel) (by decide +kernel)
set_option maxRecDepth 20000 in
theorem gX4_deliver_X4_sendAll : GoodIn wsX4_deliver (wsV RX4 62 RX4 yX4_sendAll wsX4_sendAll) := goodIn_app (goodIn_of _ (by decide +kernel)) ggX4_deliver_X4_sendAll
theorem dX4_deliver_0 : decode cX4_deliver 0 = .ok (.iload_n 1, 1) := by decide +kernel
theorem dX4_deliver_1 : decode cX4_deliver 1 = .ok (.iconst 0, 1) := by decide +kernel
theorem dX4_deliver_2 : decode cX4_deliver 2 = .ok (.aload_n 0, 1) := by decide +kernel
theorem dX4_deliver_3 : decode cX4_deliver 3 = .ok (.getfield 50, 3) := by decide +kernel
theorem dX4_deliver_6 : decode cX4_deliver 6 = .ok (.iconst 1, 1) := by decide +kernel
theorem dX4_deliver_7 : decode cX4_deliver 7 = .ok (.isub, 1) := by decide +kernel
theorem dX4_deliver_8 : decode cX4_deliver 8 = .ok (.invokestatic 58, 3) := by decide +kernel
theorem dX4_deliver_11 : decode cX4_deliver 11 = .ok (.ifCond .ne 5, 3) := by decide +kernel
theorem dX4_deliver_14 : decode cX4_deliver 14 = .ok (.iconst (-1), 1) := by decide +kernel
theorem dX4_deliver_15 : decode cX4_deliver 15 = .ok (.ireturn, 1) := by decide +kernel
theorem dX4_deliver_16 : decode cX4_deliver 16 = .ok (.aload_n 0, 1) := by decide +kernel
theorem dX4_deliver_17 : decode cX4_deliver 17 = .ok (.getfield 44, 3) := by decide +kernel
theorem dX4_deliver_20 : decode cX4_deliver 20 = .ok (.bipush 6, 2) := by decide +kernel
theorem dX4_deliver_22 : decode cX4_deliver 22 = .ok (.iload_n 1, 1) := by decide +kernel
theorem dX4_deliver_23 : decode cX4_deliver 23 = .ok (.imul, 1) := by decide +kernel
theorem dX4_deliver_24 : decode cX4_deliver 24 = .ok (.iaload, 1) := by decide +kernel
theorem dX4_deliver_25 : decode cX4_deliver 25 = .ok (.istore_n 2, 1) := by decide +kernel
theorem dX4_deliver_26 : decode cX4_deliver 26 = .ok (.aload_n 0, 1) := by decide +kernel
theorem dX4_deliver_27 : decode cX4_deliver 27 = .ok (.getfield 44, 3) := by decide +kernel
theorem dX4_deliver_30 : decode cX4_deliver 30 = .ok (.bipush 6, 2) := by decide +kernel
theorem dX4_deliver_32 : decode cX4_deliver 32 = .ok (.iload_n 1, 1) := by decide +kernel
theorem dX4_deliver_33 : decode cX4_deliver 33 = .ok (.imul, 1) := by decide +kernel
theorem dX4_deliver_34 : decode cX4_deliver 34 = .ok (.iconst 1, 1) := by decide +kernel
theorem dX4_deliver_35 : decode cX4_deliver 35 = .ok (.iadd, 1) := by decide +kernel
theorem dX4_deliver_36 : decode cX4_deliver 36 = .ok (.iaload, 1) := by decide +kernel
theorem dX4_deliver_37 : decode cX4_deliver 37 = .ok (.istore_n 3, 1) := by decide +kernel
theorem dX4_deliver_38 : decode cX4_deliver 38 = .ok (.aload_n 0, 1) := by decide +kernel
theorem dX4_deliver_39 : decode cX4_deliver 39 = .ok (.getfield 44, 3) := by decide +kernel
theorem dX4_deliver_42 : decode cX4_deliver 42 = .ok (.bipush 6, 2) := by decide +kernel
theorem dX4_deliver_44 : decode cX4_deliver 44 = .ok (.iload_n 1, 1) := by decide +kernel
theorem dX4_deliver_45 : decode cX4_deliver 45 = .ok (.imul, 1) := by decide +kernel
theorem dX4_deliver_46 : decode cX4_deliver 46 = .ok (.iconst 2, 1) := by decide +kernel
theorem dX4_deliver_47 : decode cX4_deliver 47 = .ok (.iadd, 1) := by decide +kernel
theorem dX4_deliver_48 : decode cX4_deliver 48 = .ok (.iaload, 1) := by decide +kernel
theorem dX4_deliver_49 : decode cX4_deliver 49 = .ok (.istore 4, 2) := by decide +kernel
theorem dX4_deliver_51 : decode cX4_deliver 51 = .ok (.aload_n 0, 1) := by decide +kernel
theorem dX4_deliver_52 : decode cX4_deliver 52 = .ok (.getfield 44, 3) := by decide +kernel
theorem dX4_deliver_55 : decode cX4_deliver 55 = .ok (.bipush 6, 2) := by decide +kernel
theorem dX4_deliver_57 : decode cX4_deliver 57 = .ok (.iload_n 1, 1) := by decide +kernel
theorem dX4_deliver_58 : decode cX4_deliver 58 = .ok (.imul, 1) := by decide +kernel
theorem dX4_deliver_59 : decode cX4_deliver 59 = .ok (.iconst 3, 1) := by decide +kernel
theorem dX4_deliver_60 : decode cX4_deliver 60 = .ok (.iadd, 1) := by decide +kernel
theorem dX4_deliver_61 : decode cX4_deliver 61 = .ok (.iaload, 1) := by decide +kernel
theorem dX4_deliver_62 : decode cX4_deliver 62 = .ok (.istore 5, 2) := by decide +kernel
theorem dX4_deliver_64 : decode cX4_deliver 64 = .ok (.aload_n 0, 1) := by decide +kernel
theorem dX4_deliver_65 : decode cX4_deliver 65 = .ok (.getfield 44, 3) := by decide +kernel
theorem dX4_deliver_68 : decode cX4_deliver 68 = .ok (.bipush 6, 2) := by decide +kernel
theorem dX4_deliver_70 : decode cX4_deliver 70 = .ok (.iload_n 1, 1) := by decide +kernel
theorem dX4_deliver_71 : decode cX4_deliver 71 = .ok (.imul, 1) := by decide +kernel
theorem dX4_deliver_72 : decode cX4_deliver 72 = .ok (.iconst 4, 1) := by decide +kernel
theorem dX4_deliver_73 : decode cX4_deliver 73 = .ok (.iadd, 1) := by decide +kernel
theorem dX4_deliver_74 : decode cX4_deliver 74 = .ok (.iaload, 1) := by decide +kernel
theorem dX4_deliver_75 : decode cX4_deliver 75 = .ok (.istore 6, 2) := by decide +kernel
theorem dX4_deliver_77 : decode cX4_deliver 77 = .ok (.aload_n 0, 1) := by decide +kernel
theorem dX4_deliver_78 : decode cX4_deliver 78 = .ok (.getfield 44, 3) := by decide +kernel
theorem dX4_deliver_81 : decode cX4_deliver 81 = .ok (.bipush 6, 2) := by decide +kernel
theorem dX4_deliver_83 : decode cX4_deliver 83 = .ok (.iload_n 1, 1) := by decide +kernel
theorem dX4_deliver_84 : decode cX4_deliver 84 = .ok (.imul, 1) := by decide +kernel
theorem dX4_deliver_85 : decode cX4_deliver 85 = .ok (.iconst 5, 1) := by decide +kernel
theorem dX4_deliver_86 : decode cX4_deliver 86 = .ok (.iadd, 1) := by decide +kernel
theorem dX4_deliver_87 : decode cX4_deliver 87 = .ok (.iaload, 1) := by decide +kernel
theorem dX4_deliver_88 : decode cX4_deliver 88 = .ok (.istore 7, 2) := by decide +kernel
theorem dX4_deliver_90 : decode cX4_deliver 90 = .ok (.aload_n 0, 1) := by decide +kernel
theorem dX4_deliver_91 : decode cX4_deliver 91 = .ok (.iload_n 1, 1) := by decide +kernel
theorem dX4_deliver_92 : decode cX4_deliver 92 = .ok (.invokevirtual 70, 3) := by decide +kernel
theorem dX4_deliver_95 : decode cX4_deliver 95 = .ok (.aload_n 0, 1) := by decide +kernel
theorem dX4_deliver_96 : decode cX4_deliver 96 = .ok (.getfield 50, 3) := by decide +kernel
theorem dX4_deliver_99 : decode cX4_deliver 99 = .ok (.istore 8, 2) := by decide +kernel
theorem dX4_deliver_101 : decode cX4_deliver 101 = .ok (.iload_n 2, 1) := by decide +kernel
theorem dX4_deliver_102 : decode cX4_deliver 102 = .ok (.ifCond .eq 8, 3) := by decide +kernel
theorem dX4_deliver_105 : decode cX4_deliver 105 = .ok (.iload_n 2, 1) := by decide +kernel
theorem dX4_deliver_106 : decode cX4_deliver 106 = .ok (.iconst 2, 1) := by decide +kernel
theorem dX4_deliver_107 : decode cX4_deliver 107 = .ok (.if_icmp .ne 90, 3) := by decide +kernel
theorem dX4_deliver_110 : decode cX4_deliver 110 = .ok (.aload_n 0, 1) := by decide +kernel
theorem dX4_deliver_111 : decode cX4_deliver 111 = .ok (.getfield 16, 3) := by decide +kernel
theorem dX4_deliver_114 : decode cX4_deliver 114 = .ok (.iload 4, 2) := by decide +kernel
theorem dX4_deliver_116 : decode cX4_deliver 116 = .ok (.baload, 1) := by decide +kernel
theorem dX4_deliver_117 : decode cX4_deliver 117 = .ok (.ifCond .eq 5, 3) := by decide +kernel
theorem dX4_deliver_120 : decode cX4_deliver 120 = .ok (.iconst 0, 1) := by decide +kernel
theorem dX4_deliver_121 : decode cX4_deliver 121 = .ok (.ireturn, 1) := by decide +kernel
theorem dX4_deliver_122 : decode cX4_deliver 122 = .ok (.iload_n 2, 1) := by decide +kernel
theorem dX4_deliver_123 : decode cX4_deliver 123 = .ok (.ifCond .ne 30, 3) := by decide +kernel
theorem dX4_deliver_126 : decode cX4_deliver 126 = .ok (.aload_n 0, 1) := by decide +kernel
theorem dX4_deliver_127 : decode cX4_deliver 127 = .ok (.iconst 1, 1) := by decide +kernel
theorem dX4_deliver_128 : decode cX4_deliver 128 = .ok (.iload_n 3, 1) := by decide +kernel
theorem dX4_deliver_129 : decode cX4_deliver 129 = .ok (.iload 4, 2) := by decide +kernel
theorem dX4_deliver_131 : decode cX4_deliver 131 = .ok (.iload 5, 2) := by decide +kernel
theorem dX4_deliver_133 : decode cX4_deliver 133 = .ok (.aload_n 0, 1) := by decide +kernel
theorem dX4_deliver_134 : decode cX4_deliver 134 = .ok (.getfield 7, 3) := by decide +kernel
theorem dX4_deliver_137 : decode cX4_deliver 137 = .ok (.iload 4, 2) := by decide +kernel
theorem dX4_deliver_139 : decode cX4_deliver 139 = .ok (.iaload, 1) := by decide +kernel
theorem dX4_deliver_140 : decode cX4_deliver 140 = .ok (.aload_n 0, 1) := by decide +kernel
theorem dX4_deliver_141 : decode cX4_deliver 141 = .ok (.getfield 13, 3) := by decide +kernel
theorem dX4_deliver_144 : decode cX4_deliver 144 = .ok (.iload 4, 2) := by decide +kernel
theorem dX4_deliver_146 : decode cX4_deliver 146 = .ok (.iaload, 1) := by decide +kernel
theorem dX4_deliver_147 : decode cX4_deliver 147 = .ok (.invokevirtual 54, 3) := by decide +kernel
theorem dX4_deliver_150 : decode cX4_deliver 150 = .ok (.goto 45, 3) := by decide +kernel
theorem dX4_deliver_153 : decode cX4_deliver 153 = .ok (.iload 6, 2) := by decide +kernel
theorem dX4_deliver_155 : decode cX4_deliver 155 = .ok (.aload_n 0, 1) := by decide +kernel
theorem dX4_deliver_156 : decode cX4_deliver 156 = .ok (.getfield 7, 3) := by decide +kernel
theorem dX4_deliver_159 : decode cX4_deliver 159 = .ok (.iload 4, 2) := by decide +kernel
theorem dX4_deliver_161 : decode cX4_deliver 161 = .ok (.iaload, 1) := by decide +kernel
theorem dX4_deliver_162 : decode cX4_deliver 162 = .ok (.if_icmp .le 21, 3) := by decide +kernel
theorem dX4_deliver_165 : decode cX4_deliver 165 = .ok (.aload_n 0, 1) := by decide +kernel
theorem dX4_deliver_166 : decode cX4_deliver 166 = .ok (.getfield 7, 3) := by decide +kernel
theorem dX4_deliver_169 : decode cX4_deliver 169 = .ok (.iload 4, 2) := by decide +kernel
theorem dX4_deliver_171 : decode cX4_deliver 171 = .ok (.iload 6, 2) := by decide +kernel
theorem dX4_deliver_173 : decode cX4_deliver 173 = .ok (.iastore, 1) := by decide +kernel
theorem dX4_deliver_174 : decode cX4_deliver 174 = .ok (.aload_n 0, 1) := by decide +kernel
theorem dX4_deliver_175 : decode cX4_deliver 175 = .ok (.getfield 13, 3) := by decide +kernel
theorem dX4_deliver_178 : decode cX4_deliver 178 = .ok (.iload 4, 2) := by decide +kernel
theorem dX4_deliver_180 : decode cX4_deliver 180 = .ok (.iload 7, 2) := by decide +kernel
theorem dX4_deliver_182 : decode cX4_deliver 182 = .ok (.iastore, 1) := by decide +kernel
theorem dX4_deliver_183 : decode cX4_deliver 183 = .ok (.aload_n 0, 1) := by decide +kernel
theorem dX4_deliver_184 : decode cX4_deliver 184 = .ok (.iconst 3, 1) := by decide +kernel
theorem dX4_deliver_185 : decode cX4_deliver 185 = .ok (.iload_n 3, 1) := by decide +kernel
theorem dX4_deliver_186 : decode cX4_deliver 186 = .ok (.iload 4, 2) := by decide +kernel
theorem dX4_deliver_188 : decode cX4_deliver 188 = .ok (.iload 5, 2) := by decide +kernel
theorem dX4_deliver_190 : decode cX4_deliver 190 = .ok (.iconst 0, 1) := by decide +kernel
theorem dX4_deliver_191 : decode cX4_deliver 191 = .ok (.iconst 0, 1) := by decide +kernel
theorem dX4_deliver_192 : decode cX4_deliver 192 = .ok (.invokevirtual 54, 3) := by decide +kernel
theorem dX4_deliver_195 : decode cX4_deliver 195 = .ok (.iconst 1, 1) := by decide +kernel
theorem dX4_deliver_196 : decode cX4_deliver 196 = .ok (.ireturn, 1) := by decide +kernel
theorem dX4_deliver_197 : decode cX4_deliver 197 = .ok (.aload_n 0, 1) := by decide +kernel
theorem dX4_deliver_198 : decode cX4_deliver 198 = .ok (.getfield 23, 3) := by decide +kernel
theorem dX4_deliver_201 : decode cX4_deliver 201 = .ok (.iload_n 3, 1) := by decide +kernel
theorem dX4_deliver_202 : decode cX4_deliver 202 = .ok (.iaload, 1) := by decide +kernel
theorem dX4_deliver_203 : decode cX4_deliver 203 = .ok (.iload 5, 2) := by decide +kernel
theorem dX4_deliver_205 : decode cX4_deliver 205 = .ok (.if_icmp .ne 37, 3) := by decide +kernel
theorem dX4_deliver_208 : decode cX4_deliver 208 = .ok (.aload_n 0, 1) := by decide +kernel
theorem dX4_deliver_209 : decode cX4_deliver 209 = .ok (.getfield 20, 3) := by decide +kernel
theorem dX4_deliver_212 : decode cX4_deliver 212 = .ok (.iload_n 3, 1) := by decide +kernel
theorem dX4_deliver_213 : decode cX4_deliver 213 = .ok (.iaload, 1) := by decide +kernel
theorem dX4_deliver_214 : decode cX4_deliver 214 = .ok (.iload_n 2, 1) := by decide +kernel
theorem dX4_deliver_215 : decode cX4_deliver 215 = .ok (.iconst 1, 1) := by decide +kernel
theorem dX4_deliver_216 : decode cX4_deliver 216 = .ok (.if_icmp .ne 7, 3) := by decide +kernel
theorem dX4_deliver_219 : decode cX4_deliver 219 = .ok (.iconst 1, 1) := by decide +kernel
theorem dX4_deliver_220 : decode cX4_deliver 220 = .ok (.goto 4, 3) := by decide +kernel
theorem dX4_deliver_223 : decode cX4_deliver 223 = .ok (.iconst 2, 1) := by decide +kernel
theorem dX4_deliver_224 : decode cX4_deliver 224 = .ok (.if_icmp .ne 18, 3) := by decide +kernel
theorem dX4_deliver_227 : decode cX4_deliver 227 = .ok (.aload_n 0, 1) := by decide +kernel
theorem dX4_deliver_228 : decode cX4_deliver 228 = .ok (.getfield 32, 3) := by decide +kernel
theorem dX4_deliver_231 : decode cX4_deliver 231 = .ok (.iload_n 3, 1) := by decide +kernel
theorem dX4_deliver_232 : decode cX4_deliver 232 = .ok (.iaload, 1) := by decide +kernel
theorem dX4_deliver_233 : decode cX4_deliver 233 = .ok (.iload 4, 2) := by decide +kernel
theorem dX4_deliver_235 : decode cX4_deliver 235 = .ok (.ishr, 1) := by decide +kernel
theorem dX4_deliver_236 : decode cX4_deliver 236 = .ok (.iconst 1, 1) := by decide +kernel
theorem dX4_deliver_237 : decode cX4_deliver 237 = .ok (.iand, 1) := by decide +kernel
theorem dX4_deliver_238 : decode cX4_deliver 238 = .ok (.iconst 1, 1) := by decide +kernel
theorem dX4_deliver_239 : decode cX4_deliver 239 = .ok (.if_icmp .ne 5, 3) := by decide +kernel
theorem dX4_deliver_242 : decode cX4_deliver 242 = .ok (.iconst 0, 1) := by decide +kernel
theorem dX4_deliver_243 : decode cX4_deliver 243 = .ok (.ireturn, 1) := by decide +kernel
theorem dX4_deliver_244 : decode cX4_deliver 244 = .ok (.aload_n 0, 1) := by decide +kernel
theorem dX4_deliver_245 : decode cX4_deliver 245 = .ok (.getfield 32, 3) := by decide +kernel
theorem dX4_deliver_248 : decode cX4_deliver 248 = .ok (.iload_n 3, 1) := by decide +kernel
theorem dX4_deliver_249 : decode cX4_deliver 249 = .ok (.aload_n 0, 1) := by decide +kernel
theorem dX4_deliver_250 : decode cX4_deliver 250 = .ok (.getfield 32, 3) := by decide +kernel
theorem dX4_deliver_253 : decode cX4_deliver 253 = .ok (.iload_n 3, 1) := by decide +kernel
theorem dX4_deliver_254 : decode cX4_deliver 254 = .ok (.iaload, 1) := by decide +kernel
theorem dX4_deliver_255 : decode cX4_deliver 255 = .ok (.iconst 1, 1) := by decide +kernel
theorem dX4_deliver_256 : decode cX4_deliver 256 = .ok (.iload 4, 2) := by decide +kernel
theorem dX4_deliver_258 : decode cX4_deliver 258 = .ok (.ishl, 1) := by decide +kernel
theorem dX4_deliver_259 : decode cX4_deliver 259 = .ok (.ior, 1) := by decide +kernel
theorem dX4_deliver_260 : decode cX4_deliver 260 = .ok (.iastore, 1) := by decide +kernel
theorem dX4_deliver_261 : decode cX4_deliver 261 = .ok (.iload_n 2, 1) := by decide +kernel
theorem dX4_deliver_262 : decode cX4_deliver 262 = .ok (.iconst 1, 1) := by decide +kernel
theorem dX4_deliver_263 : decode cX4_deliver 263 = .ok (.if_icmp .ne 30, 3) := by decide +kernel
theorem dX4_deliver_266 : decode cX4_deliver 266 = .ok (.iload 6, 2) := by decide +kernel
theorem dX4_deliver_268 : decode cX4_deliver 268 = .ok (.aload_n 0, 1) := by decide +kernel
theorem dX4_deliver_269 : decode cX4_deliver 269 = .ok (.getfield 35, 3) := by decide +kernel
theorem dX4_deliver_272 : decode cX4_deliver 272 = .ok (.iload_n 3, 1) := by decide +kernel
theorem dX4_deliver_273 : decode cX4_deliver 273 = .ok (.iaload, 1) := by decide +kernel
theorem dX4_deliver_274 : decode cX4_deliver 274 = .ok (.if_icmp .le 19, 3) := by decide +kernel
theorem dX4_deliver_277 : decode cX4_deliver 277 = .ok (.aload_n 0, 1) := by decide +kernel
theorem dX4_deliver_278 : decode cX4_deliver 278 = .ok (.getfield 35, 3) := by decide +kernel
theorem dX4_deliver_281 : decode cX4_deliver 281 = .ok (.iload_n 3, 1) := by decide +kernel
theorem dX4_deliver_282 : decode cX4_deliver 282 = .ok (.iload 6, 2) := by decide +kernel
theorem dX4_deliver_284 : decode cX4_deliver 284 = .ok (.iastore, 1) := by decide +kernel
theorem dX4_deliver_285 : decode cX4_deliver 285 = .ok (.aload_n 0, 1) := by decide +kernel
theorem dX4_deliver_286 : decode cX4_deliver 286 = .ok (.getfield 38, 3) := by decide +kernel
theorem dX4_deliver_289 : decode cX4_deliver 289 = .ok (.iload_n 3, 1) := by decide +kernel
theorem dX4_deliver_290 : decode cX4_deliver 290 = .ok (.iload 7, 2) := by decide +kernel
theorem dX4_deliver_292 : decode cX4_deliver 292 = .ok (.iastore, 1) := by decide +kernel
theorem dX4_deliver_293 : decode cX4_deliver 293 = .ok (.aload_n 0, 1) := by decide +kernel
theorem dX4_deliver_294 : decode cX4_deliver 294 = .ok (.getfield 32, 3) := by decide +kernel
theorem dX4_deliver_297 : decode cX4_deliver 297 = .ok (.iload_n 3, 1) := by decide +kernel
theorem dX4_deliver_298 : decode cX4_deliver 298 = .ok (.iaload, 1) := by decide +kernel
theorem dX4_deliver_299 : decode cX4_deliver 299 = .ok (.invokestatic 74, 3) := by decide +kernel
theorem dX4_deliver_302 : decode cX4_deliver 302 = .ok (.iconst 3, 1) := by decide +kernel
theorem dX4_deliver_303 : decode cX4_deliver 303 = .ok (.if_icmp .ge 5, 3) := by decide +kernel
theorem dX4_deliver_306 : decode cX4_deliver 306 = .ok (.iconst 0, 1) := by decide +kernel
theorem dX4_deliver_307 : decode cX4_deliver 307 = .ok (.ireturn, 1) := by decide +kernel
theorem dX4_deliver_308 : decode cX4_deliver 308 = .ok (.iload_n 2, 1) := by decide +kernel
theorem dX4_deliver_309 : decode cX4_deliver 309 = .ok (.iconst 1, 1) := by decide +kernel
theorem dX4_deliver_310 : decode cX4_deliver 310 = .ok (.if_icmp .ne 121, 3) := by decide +kernel
theorem dX4_deliver_313 : decode cX4_deliver 313 = .ok (.aload_n 0, 1) := by decide +kernel
theorem dX4_deliver_314 : decode cX4_deliver 314 = .ok (.getfield 26, 3) := by decide +kernel
theorem dX4_deliver_317 : decode cX4_deliver 317 = .ok (.iload_n 3, 1) := by decide +kernel
theorem dX4_deliver_318 : decode cX4_deliver 318 = .ok (.baload, 1) := by decide +kernel
theorem dX4_deliver_319 : decode cX4_deliver 319 = .ok (.ifCond .eq 77, 3) := by decide +kernel
theorem dX4_deliver_322 : decode cX4_deliver 322 = .ok (.aload_n 0, 1) := by decide +kernel
theorem dX4_deliver_323 : decode cX4_deliver 323 = .ok (.getfield 35, 3) := by decide +kernel
theorem dX4_deliver_326 : decode cX4_deliver 326 = .ok (.iload_n 3, 1) := by decide +kernel
theorem dX4_deliver_327 : decode cX4_deliver 327 = .ok (.iaload, 1) := by decide +kernel
theorem dX4_deliver_328 : decode cX4_deliver 328 = .ok (.iconst 4, 1) := by decide +kernel
theorem dX4_deliver_329 : decode cX4_deliver 329 = .ok (.idiv, 1) := by decide +kernel
theorem dX4_deliver_330 : decode cX4_deliver 330 = .ok (.aload_n 0, 1) := by decide +kernel
theorem dX4_deliver_331 : decode cX4_deliver 331 = .ok (.getfield 41, 3) := by decide +kernel
theorem dX4_deliver_334 : decode cX4_deliver 334 = .ok (.iload_n 3, 1) := by decide +kernel
theorem dX4_deliver_335 : decode cX4_deliver 335 = .ok (.iaload, 1) := by decide +kernel
theorem dX4_deliver_336 : decode cX4_deliver 336 = .ok (.if_icmp .le 14, 3) := by decide +kernel
theorem dX4_deliver_339 : decode cX4_deliver 339 = .ok (.aload_n 0, 1) := by decide +kernel
theorem dX4_deliver_340 : decode cX4_deliver 340 = .ok (.getfield 35, 3) := by decide +kernel
theorem dX4_deliver_343 : decode cX4_deliver 343 = .ok (.iload_n 3, 1) := by decide +kernel
theorem dX4_deliver_344 : decode cX4_deliver 344 = .ok (.iaload, 1) := by decide +kernel
theorem dX4_deliver_345 : decode cX4_deliver 345 = .ok (.iconst 4, 1) := by decide +kernel
theorem dX4_deliver_346 : decode cX4_deliver 346 = .ok (.idiv, 1) := by decide +kernel
theorem dX4_deliver_347 : decode cX4_deliver 347 = .ok (.goto 9, 3) := by decide +kernel
theorem dX4_deliver_350 : decode cX4_deliver 350 = .ok (.aload_n 0, 1) := by decide +kernel
theorem dX4_deliver_351 : decode cX4_deliver 351 = .ok (.getfield 41, 3) := by decide +kernel
theorem dX4_deliver_354 : decode cX4_deliver 354 = .ok (.iload_n 3, 1) := by decide +kernel
theorem dX4_deliver_355 : decode cX4_deliver 355 = .ok (.iaload, 1) := by decide +kernel
theorem dX4_deliver_356 : decode cX4_deliver 356 = .ok (.istore 9, 2) := by decide +kernel
theorem dX4_deliver_358 : decode cX4_deliver 358 = .ok (.aload_n 0, 1) := by decide +kernel
theorem dX4_deliver_359 : decode cX4_deliver 359 = .ok (.getfield 41, 3) := by decide +kernel
theorem dX4_deliver_362 : decode cX4_deliver 362 = .ok (.iload_n 3, 1) := by decide +kernel
theorem dX4_deliver_363 : decode cX4_deliver 363 = .ok (.iload 9, 2) := by decide +kernel
theorem dX4_deliver_365 : decode cX4_deliver 365 = .ok (.iconst 1, 1) := by decide +kernel
theorem dX4_deliver_366 : decode cX4_deliver 366 = .ok (.iadd, 1) := by decide +kernel
theorem dX4_deliver_367 : decode cX4_deliver 367 = .ok (.iastore, 1) := by decide +kernel
theorem dX4_deliver_368 : decode cX4_deliver 368 = .ok (.aload_n 0, 1) := by decide +kernel
theorem dX4_deliver_369 : decode cX4_deliver 369 = .ok (.getfield 35, 3) := by decide +kernel
theorem dX4_deliver_372 : decode cX4_deliver 372 = .ok (.iload_n 3, 1) := by decide +kernel
theorem dX4_deliver_373 : decode cX4_deliver 373 = .ok (.iconst 4, 1) := by decide +kernel
theorem dX4_deliver_374 : decode cX4_deliver 374 = .ok (.aload_n 0, 1) := by decide +kernel
theorem dX4_deliver_375 : decode cX4_deliver 375 = .ok (.getfield 41, 3) := by decide +kernel
theorem dX4_deliver_378 : decode cX4_deliver 378 = .ok (.iload_n 3, 1) := by decide +kernel
theorem dX4_deliver_379 : decode cX4_deliver 379 = .ok (.iaload, 1) := by decide +kernel
theorem dX4_deliver_380 : decode cX4_deliver 380 = .ok (.imul, 1) := by decide +kernel
theorem dX4_deliver_381 : decode cX4_deliver 381 = .ok (.iload_n 3, 1) := by decide +kernel
theorem dX4_deliver_382 : decode cX4_deliver 382 = .ok (.iadd, 1) := by decide +kernel
theorem dX4_deliver_383 : decode cX4_deliver 383 = .ok (.iastore, 1) := by decide +kernel
theorem dX4_deliver_384 : decode cX4_deliver 384 = .ok (.aload_n 0, 1) := by decide +kernel
theorem dX4_deliver_385 : decode cX4_deliver 385 = .ok (.getfield 38, 3) := by decide +kernel
theorem dX4_deliver_388 : decode cX4_deliver 388 = .ok (.iload_n 3, 1) := by decide +kernel
theorem dX4_deliver_389 : decode cX4_deliver 389 = .ok (.aload_n 0, 1) := by decide +kernel
theorem dX4_deliver_390 : decode cX4_deliver 390 = .ok (.getfield 29, 3) := by decide +kernel
theorem dX4_deliver_393 : decode cX4_deliver 393 = .ok (.iload_n 3, 1) := by decide +kernel
theorem dX4_deliver_394 : decode cX4_deliver 394 = .ok (.iaload, 1) := by decide +kernel
theorem dX4_deliver_395 : decode cX4_deliver 395 = .ok (.iastore, 1) := by decide +kernel
theorem dX4_deliver_396 : decode cX4_deliver 396 = .ok (.aload_n 0, 1) := by decide +kernel
theorem dX4_deliver_397 : decode cX4_deliver 397 = .ok (.getfield 20, 3) := by decide +kernel
theorem dX4_deliver_400 : decode cX4_deliver 400 = .ok (.iload_n 3, 1) := by decide +kernel
theorem dX4_deliver_401 : decode cX4_deliver 401 = .ok (.iconst 2, 1) := by decide +kernel
theorem dX4_deliver_402 : decode cX4_deliver 402 = .ok (.iastore, 1) := by decide +kernel
theorem dX4_deliver_403 : decode cX4_deliver 403 = .ok (.aload_n 0, 1) := by decide +kernel
theorem dX4_deliver_404 : decode cX4_deliver 404 = .ok (.getfield 32, 3) := by decide +kernel
theorem dX4_deliver_407 : decode cX4_deliver 407 = .ok (.iload_n 3, 1) := by decide +kernel
theorem dX4_deliver_408 : decode cX4_deliver 408 = .ok (.iconst 0, 1) := by decide +kernel
theorem dX4_deliver_409 : decode cX4_deliver 409 = .ok (.iastore, 1) := by decide +kernel
theorem dX4_deliver_410 : decode cX4_deliver 410 = .ok (.aload_n 0, 1) := by decide +kernel
theorem dX4_deliver_411 : decode cX4_deliver 411 = .ok (.iconst 2, 1) := by decide +kernel
theorem dX4_deliver_412 : decode cX4_deliver 412 = .ok (.iload_n 3, 1) := by decide +kernel
theorem dX4_deliver_413 : decode cX4_deliver 413 = .ok (.aload_n 0, 1) := by decide +kernel
theorem dX4_deliver_414 : decode cX4_deliver 414 = .ok (.getfield 35, 3) := by decide +kernel
theorem dX4_deliver_417 : decode cX4_deliver 417 = .ok (.iload_n 3, 1) := by decide +kernel
theorem dX4_deliver_418 : decode cX4_deliver 418 = .ok (.iaload, 1) := by decide +kernel
theorem dX4_deliver_419 : decode cX4_deliver 419 = .ok (.aload_n 0, 1) := by decide +kernel
theorem dX4_deliver_420 : decode cX4_deliver 420 = .ok (.getfield 38, 3) := by decide +kernel
theorem dX4_deliver_423 : decode cX4_deliver 423 = .ok (.iload_n 3, 1) := by decide +kernel
theorem dX4_deliver_424 : decode cX4_deliver 424 = .ok (.iaload, 1) := by decide +kernel
theorem dX4_deliver_425 : decode cX4_deliver 425 = .ok (.invokevirtual 62, 3) := by decide +kernel
theorem dX4_deliver_428 : decode cX4_deliver 428 = .ok (.goto 100, 3) := by decide +kernel
theorem dX4_deliver_431 : decode cX4_deliver 431 = .ok (.aload_n 0, 1) := by decide +kernel
theorem dX4_deliver_432 : decode cX4_deliver 432 = .ok (.getfield 20, 3) := by decide +kernel
theorem dX4_deliver_435 : decode cX4_deliver 435 = .ok (.iload_n 3, 1) := by decide +kernel
theorem dX4_deliver_436 : decode cX4_deliver 436 = .ok (.iconst 0, 1) := by decide +kernel
theorem dX4_deliver_437 : decode cX4_deliver 437 = .ok (.iastore, 1) := by decide +kernel
theorem dX4_deliver_438 : decode cX4_deliver 438 = .ok (.iconst 5, 1) := by decide +kernel
theorem dX4_deliver_439 : decode cX4_deliver 439 = .ok (.aload_n 0, 1) := by decide +kernel
theorem dX4_deliver_440 : decode cX4_deliver 440 = .ok (.getfield 78, 3) := by decide +kernel
theorem dX4_deliver_443 : decode cX4_deliver 443 = .ok (.imul, 1) := by decide +kernel
theorem dX4_deliver_444 : decode cX4_deliver 444 = .ok (.istore 9, 2) := by decide +kernel
theorem dX4_deliver_446 : decode cX4_deliver 446 = .ok (.aload_n 0, 1) := by decide +kernel
theorem dX4_deliver_447 : decode cX4_deliver 447 = .ok (.getfield 47, 3) := by decide +kernel
theorem dX4_deliver_450 : decode cX4_deliver 450 = .ok (.iload 9, 2) := by decide +kernel
theorem dX4_deliver_452 : decode cX4_deliver 452 = .ok (.iload_n 3, 1) := by decide +kernel
theorem dX4_deliver_453 : decode cX4_deliver 453 = .ok (.iastore, 1) := by decide +kernel
theorem dX4_deliver_454 : decode cX4_deliver 454 = .ok (.aload_n 0, 1) := by decide +kernel
theorem dX4_deliver_455 : decode cX4_deliver 455 = .ok (.getfield 47, 3) := by decide +kernel
theorem dX4_deliver_458 : decode cX4_deliver 458 = .ok (.iload 9, 2) := by decide +kernel
theorem dX4_deliver_460 : decode cX4_deliver 460 = .ok (.iconst 1, 1) := by decide +kernel
theorem dX4_deliver_461 : decode cX4_deliver 461 = .ok (.iadd, 1) := by decide +kernel
theorem dX4_deliver_462 : decode cX4_deliver 462 = .ok (.iload 5, 2) := by decide +kernel
theorem dX4_deliver_464 : decode cX4_deliver 464 = .ok (.iastore, 1) := by decide +kernel
theorem dX4_deliver_465 : decode cX4_deliver 465 = .ok (.aload_n 0, 1) := by decide +kernel
theorem dX4_deliver_466 : decode cX4_deliver 466 = .ok (.getfield 47, 3) := by decide +kernel
theorem dX4_deliver_469 : decode cX4_deliver 469 = .ok (.iload 9, 2) := by decide +kernel
theorem dX4_deliver_471 : decode cX4_deliver 471 = .ok (.iconst 2, 1) := by decide +kernel
theorem dX4_deliver_472 : decode cX4_deliver 472 = .ok (.iadd, 1) := by decide +kernel
theorem dX4_deliver_473 : decode cX4_deliver 473 = .ok (.aload_n 0, 1) := by decide +kernel
theorem dX4_deliver_474 : decode cX4_deliver 474 = .ok (.getfield 26, 3) := by decide +kernel
theorem dX4_deliver_477 : decode cX4_deliver 477 = .ok (.iload_n 3, 1) := by decide +kernel
theorem dX4_deliver_478 : decode cX4_deliver 478 = .ok (.baload, 1) := by decide +kernel
theorem dX4_deliver_479 : decode cX4_deliver 479 = .ok (.ifCond .eq 7, 3) := by decide +kernel
theorem dX4_deliver_482 : decode cX4_deliver 482 = .ok (.iconst 1, 1) := by decide +kernel
theorem dX4_deliver_483 : decode cX4_deliver 483 = .ok (.goto 4, 3) := by decide +kernel
theorem dX4_deliver_486 : decode cX4_deliver 486 = .ok (.iconst 0, 1) := by decide +kernel
theorem dX4_deliver_487 : decode cX4_deliver 487 = .ok (.iastore, 1) := by decide +kernel
theorem dX4_deliver_488 : decode cX4_deliver 488 = .ok (.aload_n 0, 1) := by decide +kernel
theorem dX4_deliver_489 : decode cX4_deliver 489 = .ok (.getfield 47, 3) := by decide +kernel
theorem dX4_deliver_492 : decode cX4_deliver 492 = .ok (.iload 9, 2) := by decide +kernel
theorem dX4_deliver_494 : decode cX4_deliver 494 = .ok (.iconst 3, 1) := by decide +kernel
theorem dX4_deliver_495 : decode cX4_deliver 495 = .ok (.iadd, 1) := by decide +kernel
theorem dX4_deliver_496 : decode cX4_deliver 496 = .ok (.aload_n 0, 1) := by decide +kernel
theorem dX4_deliver_497 : decode cX4_deliver 497 = .ok (.getfield 38, 3) := by decide +kernel
theorem dX4_deliver_500 : decode cX4_deliver 500 = .ok (.iload_n 3, 1) := by decide +kernel
theorem dX4_deliver_501 : decode cX4_deliver 501 = .ok (.iaload, 1) := by decide +kernel
theorem dX4_deliver_502 : decode cX4_deliver 502 = .ok (.iastore, 1) := by decide +kernel
theorem dX4_deliver_503 : decode cX4_deliver 503 = .ok (.aload_n 0, 1) := by decide +kernel
theorem dX4_deliver_504 : decode cX4_deliver 504 = .ok (.getfield 47, 3) := by decide +kernel
theorem dX4_deliver_507 : decode cX4_deliver 507 = .ok (.iload 9, 2) := by decide +kernel
theorem dX4_deliver_509 : decode cX4_deliver 509 = .ok (.iconst 4, 1) := by decide +kernel
theorem dX4_deliver_510 : decode cX4_deliver 510 = .ok (.iadd, 1) := by decide +kernel
theorem dX4_deliver_511 : decode cX4_deliver 511 = .ok (.aload_n 0, 1) := by decide +kernel
theorem dX4_deliver_512 : decode cX4_deliver 512 = .ok (.getfield 35, 3) := by decide +kernel
theorem dX4_deliver_515 : decode cX4_deliver 515 = .ok (.iload_n 3, 1) := by decide +kernel
theorem dX4_deliver_516 : decode cX4_deliver 516 = .ok (.iaload, 1) := by decide +kernel
theorem dX4_deliver_517 : decode cX4_deliver 517 = .ok (.iastore, 1) := by decide +kernel
theorem dX4_deliver_518 : decode cX4_deliver 518 = .ok (.aload_n 0, 1) := by decide +kernel
theorem dX4_deliver_519 : decode cX4_deliver 519 = .ok (.dup, 1) := by decide +kernel
theorem dX4_deliver_520 : decode cX4_deliver 520 = .ok (.getfield 78, 3) := by decide +kernel
theorem dX4_deliver_523 : decode cX4_deliver 523 = .ok (.iconst 1, 1) := by decide +kernel
theorem dX4_deliver_524 : decode cX4_deliver 524 = .ok (.iadd, 1) := by decide +kernel
theorem dX4_deliver_525 : decode cX4_deliver 525 = .ok (.putfield 78, 3) := by decide +kernel
theorem dX4_deliver_528 : decode cX4_deliver 528 = .ok (.aload_n 0, 1) := by decide +kernel
theorem dX4_deliver_529 : decode cX4_deliver 529 = .ok (.getfield 50, 3) := by decide +kernel
theorem dX4_deliver_532 : decode cX4_deliver 532 = .ok (.iload 8, 2) := by decide +kernel
theorem dX4_deliver_534 : decode cX4_deliver 534 = .ok (.isub, 1) := by decide +kernel
theorem dX4_deliver_535 : decode cX4_deliver 535 = .ok (.ireturn, 1) := by decide +kernel
set_option maxRecDepth 20000 in
theorem ggX4_lose_X4_within : GoodIn wsX4_lose wsX4_within := goodIn_r _ [5] (by decide +kernel) (by decide +kernel)
set_option maxRecDepth 20000 in
theorem gX4_lose_X4_within : GoodIn wsX4_lose (va_wsS RX4 58 yX4_within wsX4_within) := goodIn_app (goodIn_of _ (by decide +kernel)) ggX4_lose_X4_within
set_option maxRecDepth 20000 in
theorem ggX4_lose_X4_drop : GoodIn wsX4_lose wsX4_drop := goodIn_r _ [9, 1, 10, 11, 12, 13, 14, 15, 16, 17, 18, 19, 20, 21, 22, 23, 24, 25, 26] (by decide +kernel) (by decide +kernel)
set_option maxRecDepth 20000 in
theorem gX4_lose_X4_drop : GoodIn wsX4_lose (wsV RX4 70 RX4 yX4_drop wsX4_drop) := goodIn_app (goodIn_of _ (by decide +kernel)) ggX4_lose_X4_drop
theorem dX4_lose_0 : decode cX4_lose 0 = .ok (.iload_n 1, 1) := by decide +kernel
theorem dX4_lose_1 : decode cX4_lose 1 = .ok (.iconst 0, 1) := by decide +kernel
theorem dX4_lose_2 : decode cX4_lose 2 = .ok (.aload_n 0, 1) := by decide +kernel
theorem dX4_lose_3 : decode cX4_lose 3 = .ok (.getfield 50, 3) := by decide +kernel
theorem dX4_lose_6 : decode cX4_lose 6 = .ok (.iconst 1, 1) := by decide +kernel
theorem dX4_lose_7 : decode cX4_lose 7 = .ok (.isub, 1) := by decide +kernel
theorem dX4_lose_8 : decode cX4_lose 8 = .ok (.invokestatic 58, 3) := by decide +kernel
theorem dX4_lose_11 : decode cX4_lose 11 = .ok (.ifCond .ne 5, 3) := by decide +kernel
theorem dX4_lose_14 : decode cX4_lose 14 = .ok (.iconst 0, 1) := by decide +kernel
theorem dX4_lose_15 : decode cX4_lose 15 = .ok (.ireturn, 1) := by decide +kernel
theorem dX4_lose_16 : decode cX4_lose 16 = .ok (.aload_n 0, 1) := by decide +kernel
theorem dX4_lose_17 : decode cX4_lose 17 = .ok (.iload_n 1, 1) := by decide +kernel
theorem dX4_lose_18 : decode cX4_lose 18 = .ok (.invokevirtual 70, 3) := by decide +kernel
theorem dX4_lose_21 : decode cX4_lose 21 = .ok (.iconst 1, 1) := by decide +kernel
theorem dX4_lose_22 : decode cX4_lose 22 = .ok (.ireturn, 1) := by decide +kernel
set_option maxRecDepth 20000 in
theorem ggX4_repeat_X4_within : GoodIn wsX4_repeat wsX4_within := goodIn_r _ [6] (by decide +kernel) (by decide +kernel)
set_option maxRecDepth 20000 in
theorem gX4_repeat_X4_within : GoodIn wsX4_repeat (va_wsS RX4 58 yX4_within wsX4_within) := goodIn_app (goodIn_of _ (by decide +kernel)) ggX4_repeat_X4_within
set_option maxRecDepth 20000 in
theorem ggX4_repeat_X4_send : GoodIn wsX4_repeat wsX4_send := goodIn_r _ [10, 1, 2, 11, 12, 13, 14, 15, 16, 17, 18, 19, 20, 21, 22, 23, 24, 25, 26] (by decide +kernel) (by decide +kernel)
set_option maxRecDepth 20000 in
theorem gX4_repeat_X4_send : GoodIn wsX4_repeat (wsV RX4 54 RX4 yX4_send wsX4_send) := goodIn_app (goodIn_of _ (by decide +kernel)) ggX4_repeat_X4_send
theorem dX4_repeat_0 : decode cX4_repeat 0 = .ok (.iload_n 1, 1) := by decide +kernel
theorem dX4_repeat_1 : decode cX4_repeat 1 = .ok (.iconst 0, 1) := by decide +kernel
theorem dX4_repeat_2 : decode cX4_repeat 2 = .ok (.aload_n 0, 1) := by decide +kernel
theorem dX4_repeat_3 : decode cX4_repeat 3 = .ok (.getfield 50, 3) := by decide +kernel
theorem dX4_repeat_6 : decode cX4_repeat 6 = .ok (.iconst 1, 1) := by decide +kernel
theorem dX4_repeat_7 : decode cX4_repeat 7 = .ok (.isub, 1) := by decide +kernel
theorem dX4_repeat_8 : decode cX4_repeat 8 = .ok (.invokestatic 58, 3) := by decide +kernel
theorem dX4_repeat_11 : decode cX4_repeat 11 = .ok (.ifCond .eq 12, 3) := by decide +kernel
theorem dX4_repeat_14 : decode cX4_repeat 14 = .ok (.aload_n 0, 1) := by decide +kernel
theorem dX4_repeat_15 : decode cX4_repeat 15 = .ok (.getfield 50, 3) := by decide +kernel
theorem dX4_repeat_18 : decode cX4_repeat 18 = .ok (.bipush 60, 2) := by decide +kernel
theorem dX4_repeat_20 : decode cX4_repeat 20 = .ok (.if_icmp .le 5, 3) := by decide +kernel
theorem dX4_repeat_23 : decode cX4_repeat 23 = .ok (.iconst 0, 1) := by decide +kernel
theorem dX4_repeat_24 : decode cX4_repeat 24 = .ok (.ireturn, 1) := by decide +kernel
theorem dX4_repeat_25 : decode cX4_repeat 25 = .ok (.aload_n 0, 1) := by decide +kernel
theorem dX4_repeat_26 : decode cX4_repeat 26 = .ok (.aload_n 0, 1) := by decide +kernel
theorem dX4_repeat_27 : decode cX4_repeat 27 = .ok (.getfield 44, 3) := by decide +kernel
theorem dX4_repeat_30 : decode cX4_repeat 30 = .ok (.bipush 6, 2) := by decide +kernel
theorem dX4_repeat_32 : decode cX4_repeat 32 = .ok (.iload_n 1, 1) := by decide +kernel
theorem dX4_repeat_33 : decode cX4_repeat 33 = .ok (.imul, 1) := by decide +kernel
theorem dX4_repeat_34 : decode cX4_repeat 34 = .ok (.iaload, 1) := by decide +kernel
theorem dX4_repeat_35 : decode cX4_repeat 35 = .ok (.aload_n 0, 1) := by decide +kernel
theorem dX4_repeat_36 : decode cX4_repeat 36 = .ok (.getfield 44, 3) := by decide +kernel
theorem dX4_repeat_39 : decode cX4_repeat 39 = .ok (.bipush 6, 2) := by decide +kernel
theorem dX4_repeat_41 : decode cX4_repeat 41 = .ok (.iload_n 1, 1) := by decide +kernel
theorem dX4_repeat_42 : decode cX4_repeat 42 = .ok (.imul, 1) := by decide +kernel
theorem dX4_repeat_43 : decode cX4_repeat 43 = .ok (.iconst 1, 1) := by decide +kernel
theorem dX4_repeat_44 : decode cX4_repeat 44 = .ok (.iadd, 1) := by decide +kernel
theorem dX4_repeat_45 : decode cX4_repeat 45 = .ok (.iaload, 1) := by decide +kernel
theorem dX4_repeat_46 : decode cX4_repeat 46 = .ok (.aload_n 0, 1) := by decide +kernel
theorem dX4_repeat_47 : decode cX4_repeat 47 = .ok (.getfield 44, 3) := by decide +kernel
theorem dX4_repeat_50 : decode cX4_repeat 50 = .ok (.bipush 6, 2) := by decide +kernel
theorem dX4_repeat_52 : decode cX4_repeat 52 = .ok (.iload_n 1, 1) := by decide +kernel
theorem dX4_repeat_53 : decode cX4_repeat 53 = .ok (.imul, 1) := by decide +kernel
theorem dX4_repeat_54 : decode cX4_repeat 54 = .ok (.iconst 2, 1) := by decide +kernel
theorem dX4_repeat_55 : decode cX4_repeat 55 = .ok (.iadd, 1) := by decide +kernel
theorem dX4_repeat_56 : decode cX4_repeat 56 = .ok (.iaload, 1) := by decide +kernel
theorem dX4_repeat_57 : decode cX4_repeat 57 = .ok (.aload_n 0, 1) := by decide +kernel
theorem dX4_repeat_58 : decode cX4_repeat 58 = .ok (.getfield 44, 3) := by decide +kernel
theorem dX4_repeat_61 : decode cX4_repeat 61 = .ok (.bipush 6, 2) := by decide +kernel
theorem dX4_repeat_63 : decode cX4_repeat 63 = .ok (.iload_n 1, 1) := by decide +kernel
theorem dX4_repeat_64 : decode cX4_repeat 64 = .ok (.imul, 1) := by decide +kernel
theorem dX4_repeat_65 : decode cX4_repeat 65 = .ok (.iconst 3, 1) := by decide +kernel
theorem dX4_repeat_66 : decode cX4_repeat 66 = .ok (.iadd, 1) := by decide +kernel
theorem dX4_repeat_67 : decode cX4_repeat 67 = .ok (.iaload, 1) := by decide +kernel
theorem dX4_repeat_68 : decode cX4_repeat 68 = .ok (.aload_n 0, 1) := by decide +kernel
theorem dX4_repeat_69 : decode cX4_repeat 69 = .ok (.getfield 44, 3) := by decide +kernel
theorem dX4_repeat_72 : decode cX4_repeat 72 = .ok (.bipush 6, 2) := by decide +kernel
theorem dX4_repeat_74 : decode cX4_repeat 74 = .ok (.iload_n 1, 1) := by decide +kernel
theorem dX4_repeat_75 : decode cX4_repeat 75 = .ok (.imul, 1) := by decide +kernel
theorem dX4_repeat_76 : decode cX4_repeat 76 = .ok (.iconst 4, 1) := by decide +kernel
theorem dX4_repeat_77 : decode cX4_repeat 77 = .ok (.iadd, 1) := by decide +kernel
theorem dX4_repeat_78 : decode cX4_repeat 78 = .ok (.iaload, 1) := by decide +kernel
theorem dX4_repeat_79 : decode cX4_repeat 79 = .ok (.aload_n 0, 1) := by decide +kernel
theorem dX4_repeat_80 : decode cX4_repeat 80 = .ok (.getfield 44, 3) := by decide +kernel
theorem dX4_repeat_83 : decode cX4_repeat 83 = .ok (.bipush 6, 2) := by decide +kernel
theorem dX4_repeat_85 : decode cX4_repeat 85 = .ok (.iload_n 1, 1) := by decide +kernel
theorem dX4_repeat_86 : decode cX4_repeat 86 = .ok (.imul, 1) := by decide +kernel
theorem dX4_repeat_87 : decode cX4_repeat 87 = .ok (.iconst 5, 1) := by decide +kernel
theorem dX4_repeat_88 : decode cX4_repeat 88 = .ok (.iadd, 1) := by decide +kernel
theorem dX4_repeat_89 : decode cX4_repeat 89 = .ok (.iaload, 1) := by decide +kernel
theorem dX4_repeat_90 : decode cX4_repeat 90 = .ok (.invokevirtual 54, 3) := by decide +kernel
theorem dX4_repeat_93 : decode cX4_repeat 93 = .ok (.iconst 1, 1) := by decide +kernel
theorem dX4_repeat_94 : decode cX4_repeat 94 = .ok (.ireturn, 1) := by decide +kernel
set_option maxRecDepth 20000 in
theorem ggX4_fail_X4_within : GoodIn wsX4_fail wsX4_within := goodIn_r _ [6] (by decide +kernel) (by decide +kernel)
set_option maxRecDepth 20000 in
theorem gX4_fail_X4_within : GoodIn wsX4_fail (va_wsS RX4 58 yX4_within wsX4_within) := goodIn_app (goodIn_of _ (by decide +kernel)) ggX4_fail_X4_within
theorem dX4_fail_0 : decode cX4_fail 0 = .ok (.iload_n 1, 1) := by decide +kernel
theorem dX4_fail_1 : decode cX4_fail 1 = .ok (.iconst 0, 1) := by decide +kernel
theorem dX4_fail_2 : decode cX4_fail 2 = .ok (.iconst 4, 1) := by decide +kernel
theorem dX4_fail_3 : decode cX4_fail 3 = .ok (.invokestatic 58, 3) := by decide +kernel
theorem dX4_fail_6 : decode cX4_fail 6 = .ok (.ifCond .eq 20, 3) := by decide +kernel
theorem dX4_fail_9 : decode cX4_fail 9 = .ok (.aload_n 0, 1) := by decide +kernel
theorem dX4_fail_10 : decode cX4_fail 10 = .ok (.getfield 16, 3) := by decide +kernel
theorem dX4_fail_13 : decode cX4_fail 13 = .ok (.iload_n 1, 1) := by decide +kernel
theorem dX4_fail_14 : decode cX4_fail 14 = .ok (.baload, 1) := by decide +kernel
theorem dX4_fail_15 : decode cX4_fail 15 = .ok (.ifCond .ne 11, 3) := by decide +kernel
theorem dX4_fail_18 : decode cX4_fail 18 = .ok (.aload_n 0, 1) := by decide +kernel
theorem dX4_fail_19 : decode cX4_fail 19 = .ok (.getfield 81, 3) := by decide +kernel
theorem dX4_fail_22 : decode cX4_fail 22 = .ok (.iconst 2, 1) := by decide +kernel
theorem dX4_fail_23 : decode cX4_fail 23 = .ok (.if_icmp .ne 5, 3) := by decide +kernel
theorem dX4_fail_26 : decode cX4_fail 26 = .ok (.iconst 0, 1) := by decide +kernel
theorem dX4_fail_27 : decode cX4_fail 27 = .ok (.ireturn, 1) := by decide +kernel
theorem dX4_fail_28 : decode cX4_fail 28 = .ok (.aload_n 0, 1) := by decide +kernel
theorem dX4_fail_29 : decode cX4_fail 29 = .ok (.getfield 16, 3) := by decide +kernel
theorem dX4_fail_32 : decode cX4_fail 32 = .ok (.iload_n 1, 1) := by decide +kernel
theorem dX4_fail_33 : decode cX4_fail 33 = .ok (.iconst 1, 1) := by decide +kernel
theorem dX4_fail_34 : decode cX4_fail 34 = .ok (.bastore, 1) := by decide +kernel
theorem dX4_fail_35 : decode cX4_fail 35 = .ok (.aload_n 0, 1) := by decide +kernel
theorem dX4_fail_36 : decode cX4_fail 36 = .ok (.dup, 1) := by decide +kernel
theorem dX4_fail_37 : decode cX4_fail 37 = .ok (.getfield 81, 3) := by decide +kernel
theorem dX4_fail_40 : decode cX4_fail 40 = .ok (.iconst 1, 1) := by decide +kernel
theorem dX4_fail_41 : decode cX4_fail 41 = .ok (.iadd, 1) := by decide +kernel
theorem dX4_fail_42 : decode cX4_fail 42 = .ok (.putfield 81, 3) := by decide +kernel
theorem dX4_fail_45 : decode cX4_fail 45 = .ok (.iconst 1, 1) := by decide +kernel
theorem dX4_fail_46 : decode cX4_fail 46 = .ok (.ireturn, 1) := by decide +kernel
theorem dX4_messages_0 : decode cX4_messages 0 = .ok (.aload_n 0, 1) := by decide +kernel
theorem dX4_messages_1 : decode cX4_messages 1 = .ok (.getfield 50, 3) := by decide +kernel
theorem dX4_messages_4 : decode cX4_messages 4 = .ok (.ireturn, 1) := by decide +kernel
set_option maxRecDepth 20000 in
theorem ggX4_message_X4_within : GoodIn wsX4_message wsX4_within := goodIn_r _ [6] (by decide +kernel) (by decide +kernel)
set_option maxRecDepth 20000 in
theorem gX4_message_X4_within : GoodIn wsX4_message (va_wsS RX4 58 yX4_within wsX4_within) := goodIn_app (goodIn_of _ (by decide +kernel)) ggX4_message_X4_within
theorem dX4_message_0 : decode cX4_message 0 = .ok (.iload_n 1, 1) := by decide +kernel
theorem dX4_message_1 : decode cX4_message 1 = .ok (.iconst 0, 1) := by decide +kernel
theorem dX4_message_2 : decode cX4_message 2 = .ok (.aload_n 0, 1) := by decide +kernel
theorem dX4_message_3 : decode cX4_message 3 = .ok (.getfield 50, 3) := by decide +kernel
theorem dX4_message_6 : decode cX4_message 6 = .ok (.iconst 1, 1) := by decide +kernel
theorem dX4_message_7 : decode cX4_message 7 = .ok (.isub, 1) := by decide +kernel
theorem dX4_message_8 : decode cX4_message 8 = .ok (.invokestatic 58, 3) := by decide +kernel
theorem dX4_message_11 : decode cX4_message 11 = .ok (.ifCond .ne 5, 3) := by decide +kernel
theorem dX4_message_14 : decode cX4_message 14 = .ok (.iconst (-1), 1) := by decide +kernel
theorem dX4_message_15 : decode cX4_message 15 = .ok (.ireturn, 1) := by decide +kernel
theorem dX4_message_16 : decode cX4_message 16 = .ok (.iload_n 2, 1) := by decide +kernel
theorem dX4_message_17 : decode cX4_message 17 = .ok (.iconst 0, 1) := by decide +kernel
theorem dX4_message_18 : decode cX4_message 18 = .ok (.iconst 5, 1) := by decide +kernel
theorem dX4_message_19 : decode cX4_message 19 = .ok (.invokestatic 58, 3) := by decide +kernel
theorem dX4_message_22 : decode cX4_message 22 = .ok (.ifCond .eq 17, 3) := by decide +kernel
theorem dX4_message_25 : decode cX4_message 25 = .ok (.aload_n 0, 1) := by decide +kernel
theorem dX4_message_26 : decode cX4_message 26 = .ok (.getfield 44, 3) := by decide +kernel
theorem dX4_message_29 : decode cX4_message 29 = .ok (.bipush 6, 2) := by decide +kernel
theorem dX4_message_31 : decode cX4_message 31 = .ok (.iload_n 1, 1) := by decide +kernel
theorem dX4_message_32 : decode cX4_message 32 = .ok (.imul, 1) := by decide +kernel
theorem dX4_message_33 : decode cX4_message 33 = .ok (.iload_n 2, 1) := by decide +kernel
theorem dX4_message_34 : decode cX4_message 34 = .ok (.iadd, 1) := by decide +kernel
theorem dX4_message_35 : decode cX4_message 35 = .ok (.iaload, 1) := by decide +kernel
theorem dX4_message_36 : decode cX4_message 36 = .ok (.goto 4, 3) := by decide +kernel
theorem dX4_message_39 : decode cX4_message 39 = .ok (.iconst 0, 1) := by decide +kernel
theorem dX4_message_40 : decode cX4_message 40 = .ok (.ireturn, 1) := by decide +kernel
set_option maxRecDepth 20000 in
theorem ggX4_tag_X4_within : GoodIn wsX4_tag wsX4_within := goodIn_r _ [5] (by decide +kernel) (by decide +kernel)
set_option maxRecDepth 20000 in
theorem gX4_tag_X4_within : GoodIn wsX4_tag (va_wsS RX4 58 yX4_within wsX4_within) := goodIn_app (goodIn_of _ (by decide +kernel)) ggX4_tag_X4_within
theorem dX4_tag_0 : decode cX4_tag 0 = .ok (.iload_n 1, 1) := by decide +kernel
theorem dX4_tag_1 : decode cX4_tag 1 = .ok (.iconst 0, 1) := by decide +kernel
