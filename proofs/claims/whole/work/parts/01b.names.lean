theorem inJ6 : ∀ w ∈ wsJ60, w ∈ lw_tbl := by decide +kernel
theorem inJ9 : ∀ w ∈ wsJ90, w ∈ lw_tbl := by decide +kernel
theorem inJ10 : ∀ w ∈ wsJ100, w ∈ lw_tbl := by decide +kernel
theorem dX0_init_0 : decode cX0_init 0 = .ok (.aload_n 0, 1) := by decide +kernel
theorem dX0_init_1 : decode cX0_init 1 = .ok (.invokespecial 3, 3) := by decide +kernel
theorem dX0_init_4 : decode cX0_init 4 = .ok (.return_, 1) := by decide +kernel
theorem dX0_enter_0 : decode cX0_enter 0 = .ok (.aload_n 0, 1) := by decide +kernel
theorem dX0_enter_1 : decode cX0_enter 1 = .ok (.iload_n 1, 1) := by decide +kernel
theorem dX0_enter_2 : decode cX0_enter 2 = .ok (.putfield 9, 3) := by decide +kernel
theorem dX0_enter_5 : decode cX0_enter 5 = .ok (.aload_n 0, 1) := by decide +kernel
theorem dX0_enter_6 : decode cX0_enter 6 = .ok (.iconst 0, 1) := by decide +kernel
theorem dX0_enter_7 : decode cX0_enter 7 = .ok (.putfield 15, 3) := by decide +kernel
theorem dX0_enter_10 : decode cX0_enter 10 = .ok (.return_, 1) := by decide +kernel
theorem dX0_awaits_0 : decode cX0_awaits 0 = .ok (.aload_n 0, 1) := by decide +kernel
theorem dX0_awaits_1 : decode cX0_awaits 1 = .ok (.getfield 18, 3) := by decide +kernel
theorem dX0_awaits_4 : decode cX0_awaits 4 = .ok (.iload_n 3, 1) := by decide +kernel
theorem dX0_awaits_5 : decode cX0_awaits 5 = .ok (.if_icmp .ne 26, 3) := by decide +kernel
theorem dX0_awaits_8 : decode cX0_awaits 8 = .ok (.aload_n 0, 1) := by decide +kernel
theorem dX0_awaits_9 : decode cX0_awaits 9 = .ok (.getfield 9, 3) := by decide +kernel
theorem dX0_awaits_12 : decode cX0_awaits 12 = .ok (.iload_n 1, 1) := by decide +kernel
theorem dX0_awaits_13 : decode cX0_awaits 13 = .ok (.if_icmp .ne 18, 3) := by decide +kernel
theorem dX0_awaits_16 : decode cX0_awaits 16 = .ok (.aload_n 0, 1) := by decide +kernel
theorem dX0_awaits_17 : decode cX0_awaits 17 = .ok (.getfield 15, 3) := by decide +kernel
theorem dX0_awaits_20 : decode cX0_awaits 20 = .ok (.iconst 1, 1) := by decide +kernel
theorem dX0_awaits_21 : decode cX0_awaits 21 = .ok (.iload_n 2, 1) := by decide +kernel
theorem dX0_awaits_22 : decode cX0_awaits 22 = .ok (.ishl, 1) := by decide +kernel
theorem dX0_awaits_23 : decode cX0_awaits 23 = .ok (.iand, 1) := by decide +kernel
theorem dX0_awaits_24 : decode cX0_awaits 24 = .ok (.ifCond .ne 7, 3) := by decide +kernel
theorem dX0_awaits_27 : decode cX0_awaits 27 = .ok (.iconst 1, 1) := by decide +kernel
theorem dX0_awaits_28 : decode cX0_awaits 28 = .ok (.goto 4, 3) := by decide +kernel
theorem dX0_awaits_31 : decode cX0_awaits 31 = .ok (.iconst 0, 1) := by decide +kernel
theorem dX0_awaits_32 : decode cX0_awaits 32 = .ok (.ireturn, 1) := by decide +kernel
theorem dX0_hear_0 : decode cX0_hear 0 = .ok (.aload_n 0, 1) := by decide +kernel
theorem dX0_hear_1 : decode cX0_hear 1 = .ok (.dup, 1) := by decide +kernel
theorem dX0_hear_2 : decode cX0_hear 2 = .ok (.getfield 15, 3) := by decide +kernel
theorem dX0_hear_5 : decode cX0_hear 5 = .ok (.iconst 1, 1) := by decide +kernel
theorem dX0_hear_6 : decode cX0_hear 6 = .ok (.iload_n 1, 1) := by decide +kernel
theorem dX0_hear_7 : decode cX0_hear 7 = .ok (.ishl, 1) := by decide +kernel
theorem dX0_hear_8 : decode cX0_hear 8 = .ok (.ior, 1) := by decide +kernel
theorem dX0_hear_9 : decode cX0_hear 9 = .ok (.putfield 15, 3) := by decide +kernel
theorem dX0_hear_12 : decode cX0_hear 12 = .ok (.return_, 1) := by decide +kernel
set_option maxRecDepth 20000 in
theorem ggX0_hasQuorum_J6_bitCount_0f7a4 : GoodIn wsX0_hasQuorum wsJ6_bitCount_0f7a4 := goodIn_r _ [5, 6, 7, 8] (by decide +kernel) (by decide +kernel)
set_option maxRecDepth 20000 in
theorem gX0_hasQuorum_J6_bitCount_0f7a4 : GoodIn wsX0_hasQuorum (va_wsS RX0 21 yJ6_bitCount_0f7a4 wsJ6_bitCount_0f7a4) := goodIn_app (goodIn_of _ (by decide +kernel)) ggX0_hasQuorum_J6_bitCount_0f7a4
theorem dX0_hasQuorum_0 : decode cX0_hasQuorum 0 = .ok (.aload_n 0, 1) := by decide +kernel
theorem dX0_hasQuorum_1 : decode cX0_hasQuorum 1 = .ok (.getfield 15, 3) := by decide +kernel
theorem dX0_hasQuorum_4 : decode cX0_hasQuorum 4 = .ok (.invokestatic 21, 3) := by decide +kernel
theorem dX0_hasQuorum_7 : decode cX0_hasQuorum 7 = .ok (.iconst 3, 1) := by decide +kernel
theorem dX0_hasQuorum_8 : decode cX0_hasQuorum 8 = .ok (.if_icmp .lt 7, 3) := by decide +kernel
theorem dX0_hasQuorum_11 : decode cX0_hasQuorum 11 = .ok (.iconst 1, 1) := by decide +kernel
theorem dX0_hasQuorum_12 : decode cX0_hasQuorum 12 = .ok (.goto 4, 3) := by decide +kernel
theorem dX0_hasQuorum_15 : decode cX0_hasQuorum 15 = .ok (.iconst 0, 1) := by decide +kernel
theorem dX0_hasQuorum_16 : decode cX0_hasQuorum 16 = .ok (.ireturn, 1) := by decide +kernel
theorem dX1_init_0 : decode cX1_init 0 = .ok (.aload_n 0, 1) := by decide +kernel
theorem dX1_init_1 : decode cX1_init 1 = .ok (.invokespecial 1, 3) := by decide +kernel
theorem dX1_init_4 : decode cX1_init 4 = .ok (.return_, 1) := by decide +kernel
theorem dX2_init_0 : decode cX2_init 0 = .ok (.aload_n 0, 1) := by decide +kernel
theorem dX2_init_1 : decode cX2_init 1 = .ok (.invokespecial 1, 3) := by decide +kernel
theorem dX2_init_4 : decode cX2_init 4 = .ok (.aload_n 0, 1) := by decide +kernel
theorem dX2_init_5 : decode cX2_init 5 = .ok (.iload_n 1, 1) := by decide +kernel
theorem dX2_init_6 : decode cX2_init 6 = .ok (.iconst 0, 1) := by decide +kernel
theorem dX2_init_7 : decode cX2_init 7 = .ok (.invokestatic 7, 3) := by decide +kernel
theorem dX2_init_10 : decode cX2_init 10 = .ok (.putfield 13, 3) := by decide +kernel
theorem dX2_init_13 : decode cX2_init 13 = .ok (.aload_n 0, 1) := by decide +kernel
theorem dX2_init_14 : decode cX2_init 14 = .ok (.iload_n 2, 1) := by decide +kernel
theorem dX2_init_15 : decode cX2_init 15 = .ok (.iconst 0, 1) := by decide +kernel
theorem dX2_init_16 : decode cX2_init 16 = .ok (.invokestatic 7, 3) := by decide +kernel
theorem dX2_init_19 : decode cX2_init 19 = .ok (.putfield 19, 3) := by decide +kernel
theorem dX2_init_22 : decode cX2_init 22 = .ok (.aload_n 0, 1) := by decide +kernel
theorem dX2_init_23 : decode cX2_init 23 = .ok (.aload_n 0, 1) := by decide +kernel
theorem dX2_init_24 : decode cX2_init 24 = .ok (.getfield 13, 3) := by decide +kernel
theorem dX2_init_27 : decode cX2_init 27 = .ok (.aload_n 0, 1) := by decide +kernel
theorem dX2_init_28 : decode cX2_init 28 = .ok (.getfield 19, 3) := by decide +kernel
theorem dX2_init_31 : decode cX2_init 31 = .ok (.imul, 1) := by decide +kernel
theorem dX2_init_32 : decode cX2_init 32 = .ok (.newarray .int, 2) := by decide +kernel
theorem dX2_init_34 : decode cX2_init 34 = .ok (.putfield 22, 3) := by decide +kernel
theorem dX2_init_37 : decode cX2_init 37 = .ok (.return_, 1) := by decide +kernel
theorem dX2_has_0 : decode cX2_has 0 = .ok (.iload_n 1, 1) := by decide +kernel
theorem dX2_has_1 : decode cX2_has 1 = .ok (.ifCond .lt 15, 3) := by decide +kernel
theorem dX2_has_4 : decode cX2_has 4 = .ok (.iload_n 1, 1) := by decide +kernel
theorem dX2_has_5 : decode cX2_has 5 = .ok (.aload_n 0, 1) := by decide +kernel
theorem dX2_has_6 : decode cX2_has 6 = .ok (.getfield 26, 3) := by decide +kernel
theorem dX2_has_9 : decode cX2_has 9 = .ok (.if_icmp .ge 7, 3) := by decide +kernel
theorem dX2_has_12 : decode cX2_has 12 = .ok (.iconst 1, 1) := by decide +kernel
theorem dX2_has_13 : decode cX2_has 13 = .ok (.goto 4, 3) := by decide +kernel
theorem dX2_has_16 : decode cX2_has 16 = .ok (.iconst 0, 1) := by decide +kernel
theorem dX2_has_17 : decode cX2_has 17 = .ok (.ireturn, 1) := by decide +kernel
theorem dX2_hasColumn_0 : decode cX2_hasColumn 0 = .ok (.iload_n 1, 1) := by decide +kernel
theorem dX2_hasColumn_1 : decode cX2_hasColumn 1 = .ok (.ifCond .lt 15, 3) := by decide +kernel
theorem dX2_hasColumn_4 : decode cX2_hasColumn 4 = .ok (.iload_n 1, 1) := by decide +kernel
theorem dX2_hasColumn_5 : decode cX2_hasColumn 5 = .ok (.aload_n 0, 1) := by decide +kernel
theorem dX2_hasColumn_6 : decode cX2_hasColumn 6 = .ok (.getfield 13, 3) := by decide +kernel
theorem dX2_hasColumn_9 : decode cX2_hasColumn 9 = .ok (.if_icmp .ge 7, 3) := by decide +kernel
theorem dX2_hasColumn_12 : decode cX2_hasColumn 12 = .ok (.iconst 1, 1) := by decide +kernel
theorem dX2_hasColumn_13 : decode cX2_hasColumn 13 = .ok (.goto 4, 3) := by decide +kernel
theorem dX2_hasColumn_16 : decode cX2_hasColumn 16 = .ok (.iconst 0, 1) := by decide +kernel
theorem dX2_hasColumn_17 : decode cX2_hasColumn 17 = .ok (.ireturn, 1) := by decide +kernel
set_option maxRecDepth 20000 in
theorem ggX2_cell_X2_has : GoodIn wsX2_cell wsX2_has := goodIn_r _ [7, 8, 13, 14, 15, 16] (by decide +kernel) (by decide +kernel)
set_option maxRecDepth 20000 in
theorem gX2_cell_X2_has : GoodIn wsX2_cell (wsV RX2 29 RX2 yX2_has wsX2_has) := goodIn_app (goodIn_of _ (by decide +kernel)) ggX2_cell_X2_has
set_option maxRecDepth 20000 in
theorem ggX2_cell_X2_hasColumn : GoodIn wsX2_cell wsX2_hasColumn := goodIn_r _ [12, 2, 13, 14, 15, 16] (by decide +kernel) (by decide +kernel)
set_option maxRecDepth 20000 in
theorem gX2_cell_X2_hasColumn : GoodIn wsX2_cell (wsV RX2 33 RX2 yX2_hasColumn wsX2_hasColumn) := goodIn_app (goodIn_of _ (by decide +kernel)) ggX2_cell_X2_hasColumn
theorem dX2_cell_0 : decode cX2_cell 0 = .ok (.aload_n 0, 1) := by decide +kernel
theorem dX2_cell_1 : decode cX2_cell 1 = .ok (.iload_n 1, 1) := by decide +kernel
theorem dX2_cell_2 : decode cX2_cell 2 = .ok (.invokevirtual 29, 3) := by decide +kernel
theorem dX2_cell_5 : decode cX2_cell 5 = .ok (.ifCond .ne 5, 3) := by decide +kernel
theorem dX2_cell_8 : decode cX2_cell 8 = .ok (.iconst (-1), 1) := by decide +kernel
theorem dX2_cell_9 : decode cX2_cell 9 = .ok (.ireturn, 1) := by decide +kernel
theorem dX2_cell_10 : decode cX2_cell 10 = .ok (.aload_n 0, 1) := by decide +kernel
theorem dX2_cell_11 : decode cX2_cell 11 = .ok (.iload_n 2, 1) := by decide +kernel
theorem dX2_cell_12 : decode cX2_cell 12 = .ok (.invokevirtual 33, 3) := by decide +kernel
theorem dX2_cell_15 : decode cX2_cell 15 = .ok (.ifCond .eq 19, 3) := by decide +kernel
theorem dX2_cell_18 : decode cX2_cell 18 = .ok (.aload_n 0, 1) := by decide +kernel
theorem dX2_cell_19 : decode cX2_cell 19 = .ok (.getfield 22, 3) := by decide +kernel
theorem dX2_cell_22 : decode cX2_cell 22 = .ok (.iload_n 1, 1) := by decide +kernel
theorem dX2_cell_23 : decode cX2_cell 23 = .ok (.aload_n 0, 1) := by decide +kernel
theorem dX2_cell_24 : decode cX2_cell 24 = .ok (.getfield 13, 3) := by decide +kernel
theorem dX2_cell_27 : decode cX2_cell 27 = .ok (.imul, 1) := by decide +kernel
theorem dX2_cell_28 : decode cX2_cell 28 = .ok (.iload_n 2, 1) := by decide +kernel
theorem dX2_cell_29 : decode cX2_cell 29 = .ok (.iadd, 1) := by decide +kernel
theorem dX2_cell_30 : decode cX2_cell 30 = .ok (.iaload, 1) := by decide +kernel
theorem dX2_cell_31 : decode cX2_cell 31 = .ok (.goto 4, 3) := by decide +kernel
theorem dX2_cell_34 : decode cX2_cell 34 = .ok (.iconst 0, 1) := by decide +kernel
theorem dX2_cell_35 : decode cX2_cell 35 = .ok (.ireturn, 1) := by decide +kernel
theorem dX2_add_0 : decode cX2_add 0 = .ok (.aload_n 0, 1) := by decide +kernel
theorem dX2_add_1 : decode cX2_add 1 = .ok (.getfield 26, 3) := by decide +kernel
theorem dX2_add_4 : decode cX2_add 4 = .ok (.aload_n 0, 1) := by decide +kernel
theorem dX2_add_5 : decode cX2_add 5 = .ok (.getfield 19, 3) := by decide +kernel
theorem dX2_add_8 : decode cX2_add 8 = .ok (.if_icmp .lt 5, 3) := by decide +kernel
theorem dX2_add_11 : decode cX2_add 11 = .ok (.iconst (-1), 1) := by decide +kernel
theorem dX2_add_12 : decode cX2_add 12 = .ok (.ireturn, 1) := by decide +kernel
theorem dX2_add_13 : decode cX2_add 13 = .ok (.aload_n 0, 1) := by decide +kernel
theorem dX2_add_14 : decode cX2_add 14 = .ok (.dup, 1) := by decide +kernel
theorem dX2_add_15 : decode cX2_add 15 = .ok (.getfield 26, 3) := by decide +kernel
theorem dX2_add_18 : decode cX2_add 18 = .ok (.iconst 1, 1) := by decide +kernel
theorem dX2_add_19 : decode cX2_add 19 = .ok (.iadd, 1) := by decide +kernel
theorem dX2_add_20 : decode cX2_add 20 = .ok (.putfield 26, 3) := by decide +kernel
theorem dX2_add_23 : decode cX2_add 23 = .ok (.aload_n 0, 1) := by decide +kernel
theorem dX2_add_24 : decode cX2_add 24 = .ok (.getfield 26, 3) := by decide +kernel
theorem dX2_add_27 : decode cX2_add 27 = .ok (.iconst 1, 1) := by decide +kernel
theorem dX2_add_28 : decode cX2_add 28 = .ok (.isub, 1) := by decide +kernel
theorem dX2_add_29 : decode cX2_add 29 = .ok (.ireturn, 1) := by decide +kernel
set_option maxRecDepth 20000 in
theorem ggX2_set_X2_has : GoodIn wsX2_set wsX2_has := goodIn_r _ [7, 8, 13, 14, 15, 16] (by decide +kernel) (by decide +kernel)
set_option maxRecDepth 20000 in
theorem gX2_set_X2_has : GoodIn wsX2_set (wsV RX2 29 RX2 yX2_has wsX2_has) := goodIn_app (goodIn_of _ (by decide +kernel)) ggX2_set_X2_has
set_option maxRecDepth 20000 in
theorem ggX2_set_X2_hasColumn : GoodIn wsX2_set wsX2_hasColumn := goodIn_r _ [12, 2, 13, 14, 15, 16] (by decide +kernel) (by decide +kernel)
set_option maxRecDepth 20000 in
theorem gX2_set_X2_hasColumn : GoodIn wsX2_set (wsV RX2 33 RX2 yX2_hasColumn wsX2_hasColumn) := goodIn_app (goodIn_of _ (by decide +kernel)) ggX2_set_X2_hasColumn
theorem dX2_set_0 : decode cX2_set 0 = .ok (.aload_n 0, 1) := by decide +kernel
theorem dX2_set_1 : decode cX2_set 1 = .ok (.iload_n 1, 1) := by decide +kernel
theorem dX2_set_2 : decode cX2_set 2 = .ok (.invokevirtual 29, 3) := by decide +kernel
theorem dX2_set_5 : decode cX2_set 5 = .ok (.ifCond .eq 25, 3) := by decide +kernel
theorem dX2_set_8 : decode cX2_set 8 = .ok (.aload_n 0, 1) := by decide +kernel
theorem dX2_set_9 : decode cX2_set 9 = .ok (.iload_n 2, 1) := by decide +kernel
theorem dX2_set_10 : decode cX2_set 10 = .ok (.invokevirtual 33, 3) := by decide +kernel
theorem dX2_set_13 : decode cX2_set 13 = .ok (.ifCond .eq 17, 3) := by decide +kernel
theorem dX2_set_16 : decode cX2_set 16 = .ok (.aload_n 0, 1) := by decide +kernel
theorem dX2_set_17 : decode cX2_set 17 = .ok (.getfield 22, 3) := by decide +kernel
theorem dX2_set_20 : decode cX2_set 20 = .ok (.iload_n 1, 1) := by decide +kernel
theorem dX2_set_21 : decode cX2_set 21 = .ok (.aload_n 0, 1) := by decide +kernel
theorem dX2_set_22 : decode cX2_set 22 = .ok (.getfield 13, 3) := by decide +kernel
theorem dX2_set_25 : decode cX2_set 25 = .ok (.imul, 1) := by decide +kernel
theorem dX2_set_26 : decode cX2_set 26 = .ok (.iload_n 2, 1) := by decide +kernel
theorem dX2_set_27 : decode cX2_set 27 = .ok (.iadd, 1) := by decide +kernel
theorem dX2_set_28 : decode cX2_set 28 = .ok (.iload_n 3, 1) := by decide +kernel
theorem dX2_set_29 : decode cX2_set 29 = .ok (.iastore, 1) := by decide +kernel
theorem dX2_set_30 : decode cX2_set 30 = .ok (.return_, 1) := by decide +kernel
set_option maxRecDepth 20000 in
theorem ggX2_addCopy_X2_has : GoodIn wsX2_addCopy wsX2_has := goodIn_r _ [11, 12, 18, 19, 20, 21] (by decide +kernel) (by decide +kernel)
set_option maxRecDepth 20000 in
theorem gX2_addCopy_X2_has : GoodIn wsX2_addCopy (wsV RX2 29 RX2 yX2_has wsX2_has) := goodIn_app (goodIn_of _ (by decide +kernel)) ggX2_addCopy_X2_has
set_option maxRecDepth 20000 in
theorem ggX2_addCopy_X2_add : GoodIn wsX2_addCopy wsX2_add := goodIn_r _ [16, 12, 17, 18, 19, 20, 21] (by decide +kernel) (by decide +kernel)
set_option maxRecDepth 20000 in
theorem gX2_addCopy_X2_add : GoodIn wsX2_addCopy (wsV RX2 36 RX2 yX2_add wsX2_add) := goodIn_app (goodIn_of _ (by decide +kernel)) ggX2_addCopy_X2_add
theorem dX2_addCopy_0 : decode cX2_addCopy 0 = .ok (.aload_n 0, 1) := by decide +kernel
theorem dX2_addCopy_1 : decode cX2_addCopy 1 = .ok (.iload_n 1, 1) := by decide +kernel
theorem dX2_addCopy_2 : decode cX2_addCopy 2 = .ok (.invokevirtual 29, 3) := by decide +kernel
theorem dX2_addCopy_5 : decode cX2_addCopy 5 = .ok (.ifCond .ne 4, 3) := by decide +kernel
theorem dX2_addCopy_8 : decode cX2_addCopy 8 = .ok (.return_, 1) := by decide +kernel
theorem dX2_addCopy_9 : decode cX2_addCopy 9 = .ok (.aload_n 0, 1) := by decide +kernel
theorem dX2_addCopy_10 : decode cX2_addCopy 10 = .ok (.invokevirtual 36, 3) := by decide +kernel
theorem dX2_addCopy_13 : decode cX2_addCopy 13 = .ok (.istore_n 2, 1) := by decide +kernel
theorem dX2_addCopy_14 : decode cX2_addCopy 14 = .ok (.iload_n 2, 1) := by decide +kernel
theorem dX2_addCopy_15 : decode cX2_addCopy 15 = .ok (.ifCond .lt 30, 3) := by decide +kernel
theorem dX2_addCopy_18 : decode cX2_addCopy 18 = .ok (.aload_n 0, 1) := by decide +kernel
theorem dX2_addCopy_19 : decode cX2_addCopy 19 = .ok (.getfield 22, 3) := by decide +kernel
theorem dX2_addCopy_22 : decode cX2_addCopy 22 = .ok (.iload_n 1, 1) := by decide +kernel
theorem dX2_addCopy_23 : decode cX2_addCopy 23 = .ok (.aload_n 0, 1) := by decide +kernel
theorem dX2_addCopy_24 : decode cX2_addCopy 24 = .ok (.getfield 13, 3) := by decide +kernel
theorem dX2_addCopy_27 : decode cX2_addCopy 27 = .ok (.imul, 1) := by decide +kernel
theorem dX2_addCopy_28 : decode cX2_addCopy 28 = .ok (.aload_n 0, 1) := by decide +kernel
theorem dX2_addCopy_29 : decode cX2_addCopy 29 = .ok (.getfield 22, 3) := by decide +kernel
theorem dX2_addCopy_32 : decode cX2_addCopy 32 = .ok (.iload_n 2, 1) := by decide +kernel
theorem dX2_addCopy_33 : decode cX2_addCopy 33 = .ok (.aload_n 0, 1) := by decide +kernel
theorem dX2_addCopy_34 : decode cX2_addCopy 34 = .ok (.getfield 13, 3) := by decide +kernel
theorem dX2_addCopy_37 : decode cX2_addCopy 37 = .ok (.imul, 1) := by decide +kernel
theorem dX2_addCopy_38 : decode cX2_addCopy 38 = .ok (.aload_n 0, 1) := by decide +kernel
theorem dX2_addCopy_39 : decode cX2_addCopy 39 = .ok (.getfield 13, 3) := by decide +kernel
theorem dX2_addCopy_42 : decode cX2_addCopy 42 = .ok (.invokestatic 40, 3) := by decide +kernel
theorem dX2_addCopy_45 : decode cX2_addCopy 45 = .ok (.return_, 1) := by decide +kernel
set_option maxRecDepth 20000 in
theorem ggX2_remove_X2_has : GoodIn wsX2_remove wsX2_has := goodIn_r _ [12, 3, 13, 14, 15, 16] (by decide +kernel) (by decide +kernel)
set_option maxRecDepth 20000 in
theorem gX2_remove_X2_has : GoodIn wsX2_remove (wsV RX2 29 RX2 yX2_has wsX2_has) := goodIn_app (goodIn_of _ (by decide +kernel)) ggX2_remove_X2_has
theorem dX2_remove_0 : decode cX2_remove 0 = .ok (.aload_n 0, 1) := by decide +kernel
theorem dX2_remove_1 : decode cX2_remove 1 = .ok (.iload_n 1, 1) := by decide +kernel
theorem dX2_remove_2 : decode cX2_remove 2 = .ok (.invokevirtual 29, 3) := by decide +kernel
theorem dX2_remove_5 : decode cX2_remove 5 = .ok (.ifCond .ne 4, 3) := by decide +kernel
theorem dX2_remove_8 : decode cX2_remove 8 = .ok (.return_, 1) := by decide +kernel
theorem dX2_remove_9 : decode cX2_remove 9 = .ok (.iload_n 1, 1) := by decide +kernel
theorem dX2_remove_10 : decode cX2_remove 10 = .ok (.iconst 1, 1) := by decide +kernel
theorem dX2_remove_11 : decode cX2_remove 11 = .ok (.iadd, 1) := by decide +kernel
theorem dX2_remove_12 : decode cX2_remove 12 = .ok (.aload_n 0, 1) := by decide +kernel
theorem dX2_remove_13 : decode cX2_remove 13 = .ok (.getfield 13, 3) := by decide +kernel
theorem dX2_remove_16 : decode cX2_remove 16 = .ok (.imul, 1) := by decide +kernel
theorem dX2_remove_17 : decode cX2_remove 17 = .ok (.istore_n 2, 1) := by decide +kernel
theorem dX2_remove_18 : decode cX2_remove 18 = .ok (.aload_n 0, 1) := by decide +kernel
theorem dX2_remove_19 : decode cX2_remove 19 = .ok (.getfield 22, 3) := by decide +kernel
theorem dX2_remove_22 : decode cX2_remove 22 = .ok (.iload_n 2, 1) := by decide +kernel
theorem dX2_remove_23 : decode cX2_remove 23 = .ok (.aload_n 0, 1) := by decide +kernel
theorem dX2_remove_24 : decode cX2_remove 24 = .ok (.getfield 22, 3) := by decide +kernel
theorem dX2_remove_27 : decode cX2_remove 27 = .ok (.iload_n 1, 1) := by decide +kernel
theorem dX2_remove_28 : decode cX2_remove 28 = .ok (.aload_n 0, 1) := by decide +kernel
theorem dX2_remove_29 : decode cX2_remove 29 = .ok (.getfield 13, 3) := by decide +kernel
theorem dX2_remove_32 : decode cX2_remove 32 = .ok (.imul, 1) := by decide +kernel
theorem dX2_remove_33 : decode cX2_remove 33 = .ok (.aload_n 0, 1) := by decide +kernel
theorem dX2_remove_34 : decode cX2_remove 34 = .ok (.getfield 26, 3) := by decide +kernel
theorem dX2_remove_37 : decode cX2_remove 37 = .ok (.aload_n 0, 1) := by decide +kernel
theorem dX2_remove_38 : decode cX2_remove 38 = .ok (.getfield 13, 3) := by decide +kernel
theorem dX2_remove_41 : decode cX2_remove 41 = .ok (.imul, 1) := by decide +kernel
theorem dX2_remove_42 : decode cX2_remove 42 = .ok (.iload_n 2, 1) := by decide +kernel
theorem dX2_remove_43 : decode cX2_remove 43 = .ok (.isub, 1) := by decide +kernel
theorem dX2_remove_44 : decode cX2_remove 44 = .ok (.invokestatic 40, 3) := by decide +kernel
theorem dX2_remove_47 : decode cX2_remove 47 = .ok (.aload_n 0, 1) := by decide +kernel
theorem dX2_remove_48 : decode cX2_remove 48 = .ok (.dup, 1) := by decide +kernel
theorem dX2_remove_49 : decode cX2_remove 49 = .ok (.getfield 26, 3) := by decide +kernel
theorem dX2_remove_52 : decode cX2_remove 52 = .ok (.iconst 1, 1) := by decide +kernel
theorem dX2_remove_53 : decode cX2_remove 53 = .ok (.isub, 1) := by decide +kernel
theorem dX2_remove_54 : decode cX2_remove 54 = .ok (.putfield 26, 3) := by decide +kernel
theorem dX2_remove_57 : decode cX2_remove 57 = .ok (.return_, 1) := by decide +kernel
set_option maxRecDepth 20000 in
theorem ggX3_init_X1_init : GoodIn wsX3_init wsX1_init := goodIn_r _ [18, 19, 2, 3] (by decide +kernel) (by decide +kernel)
set_option maxRecDepth 20000 in
theorem gX3_init_X1_init_n15 : GoodIn wsX3_init (wsX1_init) := ggX3_init_X1_init
set_option maxRecDepth 20000 in
theorem ggX3_init_X0_init : GoodIn wsX3_init wsX0_init := goodIn_r _ [21, 22, 2, 3] (by decide +kernel) (by decide +kernel)
set_option maxRecDepth 20000 in
theorem gX3_init_X0_init_n22 : GoodIn wsX3_init (wsX0_init) := ggX3_init_X0_init
set_option maxRecDepth 20000 in
theorem ggX3_init_X2_init : GoodIn wsX3_init wsX2_init := goodIn_r _ [25, 26, 2, 3, 27, 28, 29, 30, 31, 32, 33, 34, 50, 51, 52, 53] (by decide +kernel) (by decide +kernel)
set_option maxRecDepth 20000 in
theorem gX3_init_X2_init : GoodIn wsX3_init (wsX2_init) := ggX3_init_X2_init
theorem dX3_init_0 : decode cX3_init 0 = .ok (.aload_n 0, 1) := by decide +kernel
theorem dX3_init_1 : decode cX3_init 1 = .ok (.invokespecial 3, 3) := by decide +kernel
theorem dX3_init_4 : decode cX3_init 4 = .ok (.aload_n 0, 1) := by decide +kernel
theorem dX3_init_5 : decode cX3_init 5 = .ok (.iconst 5, 1) := by decide +kernel
theorem dX3_init_6 : decode cX3_init 6 = .ok (.anewarray 9, 3) := by decide +kernel
theorem dX3_init_9 : decode cX3_init 9 = .ok (.putfield 11, 3) := by decide +kernel
theorem dX3_init_12 : decode cX3_init 12 = .ok (.iconst 0, 1) := by decide +kernel
theorem dX3_init_13 : decode cX3_init 13 = .ok (.istore_n 1, 1) := by decide +kernel
theorem dX3_init_14 : decode cX3_init 14 = .ok (.iload_n 1, 1) := by decide +kernel
theorem dX3_init_15 : decode cX3_init 15 = .ok (.iconst 5, 1) := by decide +kernel
theorem dX3_init_16 : decode cX3_init 16 = .ok (.if_icmp .ge 22, 3) := by decide +kernel
theorem dX3_init_19 : decode cX3_init 19 = .ok (.aload_n 0, 1) := by decide +kernel
theorem dX3_init_20 : decode cX3_init 20 = .ok (.getfield 11, 3) := by decide +kernel
theorem dX3_init_23 : decode cX3_init 23 = .ok (.iload_n 1, 1) := by decide +kernel
theorem dX3_init_24 : decode cX3_init 24 = .ok (.new 9, 3) := by decide +kernel
theorem dX3_init_27 : decode cX3_init 27 = .ok (.dup, 1) := by decide +kernel
theorem dX3_init_28 : decode cX3_init 28 = .ok (.invokespecial 15, 3) := by decide +kernel
theorem dX3_init_31 : decode cX3_init 31 = .ok (.aastore, 1) := by decide +kernel
theorem dX3_init_32 : decode cX3_init 32 = .ok (.iinc 1 1, 3) := by decide +kernel
theorem dX3_init_35 : decode cX3_init 35 = .ok (.goto (-21), 3) := by decide +kernel
theorem dX3_init_38 : decode cX3_init 38 = .ok (.aload_n 0, 1) := by decide +kernel
theorem dX3_init_39 : decode cX3_init 39 = .ok (.iconst 3, 1) := by decide +kernel
theorem dX3_init_40 : decode cX3_init 40 = .ok (.anewarray 16, 3) := by decide +kernel
theorem dX3_init_43 : decode cX3_init 43 = .ok (.putfield 18, 3) := by decide +kernel
theorem dX3_init_46 : decode cX3_init 46 = .ok (.iconst 0, 1) := by decide +kernel
theorem dX3_init_47 : decode cX3_init 47 = .ok (.istore_n 1, 1) := by decide +kernel
theorem dX3_init_48 : decode cX3_init 48 = .ok (.iload_n 1, 1) := by decide +kernel
theorem dX3_init_49 : decode cX3_init 49 = .ok (.iconst 3, 1) := by decide +kernel
theorem dX3_init_50 : decode cX3_init 50 = .ok (.if_icmp .ge 22, 3) := by decide +kernel
theorem dX3_init_53 : decode cX3_init 53 = .ok (.aload_n 0, 1) := by decide +kernel
theorem dX3_init_54 : decode cX3_init 54 = .ok (.getfield 18, 3) := by decide +kernel
theorem dX3_init_57 : decode cX3_init 57 = .ok (.iload_n 1, 1) := by decide +kernel
theorem dX3_init_58 : decode cX3_init 58 = .ok (.new 16, 3) := by decide +kernel
theorem dX3_init_61 : decode cX3_init 61 = .ok (.dup, 1) := by decide +kernel
theorem dX3_init_62 : decode cX3_init 62 = .ok (.invokespecial 22, 3) := by decide +kernel
theorem dX3_init_65 : decode cX3_init 65 = .ok (.aastore, 1) := by decide +kernel
theorem dX3_init_66 : decode cX3_init 66 = .ok (.iinc 1 1, 3) := by decide +kernel
theorem dX3_init_69 : decode cX3_init 69 = .ok (.goto (-21), 3) := by decide +kernel
theorem dX3_init_72 : decode cX3_init 72 = .ok (.aload_n 0, 1) := by decide +kernel
theorem dX3_init_73 : decode cX3_init 73 = .ok (.new 23, 3) := by decide +kernel
theorem dX3_init_76 : decode cX3_init 76 = .ok (.dup, 1) := by decide +kernel
theorem dX3_init_77 : decode cX3_init 77 = .ok (.bipush 6, 2) := by decide +kernel
theorem dX3_init_79 : decode cX3_init 79 = .ok (.bipush 77, 2) := by decide +kernel
theorem dX3_init_81 : decode cX3_init 81 = .ok (.invokespecial 25, 3) := by decide +kernel
theorem dX3_init_84 : decode cX3_init 84 = .ok (.putfield 28, 3) := by decide +kernel
theorem dX3_init_87 : decode cX3_init 87 = .ok (.aload_n 0, 1) := by decide +kernel
theorem dX3_init_88 : decode cX3_init 88 = .ok (.new 23, 3) := by decide +kernel
theorem dX3_init_91 : decode cX3_init 91 = .ok (.dup, 1) := by decide +kernel
theorem dX3_init_92 : decode cX3_init 92 = .ok (.iconst 5, 1) := by decide +kernel
theorem dX3_init_93 : decode cX3_init 93 = .ok (.bipush 39, 2) := by decide +kernel
theorem dX3_init_95 : decode cX3_init 95 = .ok (.invokespecial 25, 3) := by decide +kernel
theorem dX3_init_98 : decode cX3_init 98 = .ok (.putfield 32, 3) := by decide +kernel
theorem dX3_init_101 : decode cX3_init 101 = .ok (.return_, 1) := by decide +kernel
set_option maxRecDepth 20000 in
theorem ggX3_write_X3_begin : GoodIn wsX3_write wsX3_begin := goodIn_r _ [5, 6, 7, 8, 9, 10, 11, 12, 13, 14, 4, 15, 16, 17, 18, 19, 20, 21, 22, 23, 24, 25, 26, 27, 28, 29, 30, 31, 32, 33, 34, 35, 36, 37, 38, 39, 40, 41, 42, 43, 44, 45, 46, 47, 48, 49, 50, 51, 52, 53, 54, 55, 56, 57, 58, 59, 60, 61, 62, 63, 64, 65, 66, 67, 68, 69, 70, 71, 72, 73] (by decide +kernel) (by decide +kernel)
set_option maxRecDepth 20000 in
theorem gX3_write_X3_begin : GoodIn wsX3_write (wsV RX3 35 RX3 yX3_begin wsX3_begin) := goodIn_app (goodIn_of _ (by decide +kernel)) ggX3_write_X3_begin
theorem dX3_write_0 : decode cX3_write 0 = .ok (.aload_n 0, 1) := by decide +kernel
theorem dX3_write_1 : decode cX3_write 1 = .ok (.iload_n 1, 1) := by decide +kernel
theorem dX3_write_2 : decode cX3_write 2 = .ok (.iconst 1, 1) := by decide +kernel
theorem dX3_write_3 : decode cX3_write 3 = .ok (.iload_n 2, 1) := by decide +kernel
theorem dX3_write_4 : decode cX3_write 4 = .ok (.invokevirtual 35, 3) := by decide +kernel
theorem dX3_write_7 : decode cX3_write 7 = .ok (.ireturn, 1) := by decide +kernel
set_option maxRecDepth 20000 in
theorem ggX3_read_X3_begin : GoodIn wsX3_read wsX3_begin := goodIn_r _ [5, 6, 7, 8, 9, 10, 11, 12, 13, 14, 4, 15, 16, 17, 18, 19, 20, 21, 22, 23, 24, 25, 26, 27, 28, 29, 30, 31, 32, 33, 34, 35, 36, 37, 38, 39, 40, 41, 42, 43, 44, 45, 46, 47, 48, 49, 50, 51, 52, 53, 54, 55, 56, 57, 58, 59, 60, 61, 62, 63, 64, 65, 66, 67, 68, 69, 70, 71, 72, 73] (by decide +kernel) (by decide +kernel)
set_option maxRecDepth 20000 in
theorem gX3_read_X3_begin : GoodIn wsX3_read (wsV RX3 35 RX3 yX3_begin wsX3_begin) := goodIn_app (goodIn_of _ (by decide +kernel)) ggX3_read_X3_begin
theorem dX3_read_0 : decode cX3_read 0 = .ok (.aload_n 0, 1) := by decide +kernel
theorem dX3_read_1 : decode cX3_read 1 = .ok (.iload_n 1, 1) := by decide +kernel
theorem dX3_read_2 : decode cX3_read 2 = .ok (.iconst 0, 1) := by decide +kernel
theorem dX3_read_3 : decode cX3_read 3 = .ok (.iconst 0, 1) := by decide +kernel
theorem dX3_read_4 : decode cX3_read 4 = .ok (.invokevirtual 35, 3) := by decide +kernel
theorem dX3_read_7 : decode cX3_read 7 = .ok (.ireturn, 1) := by decide +kernel
set_option maxRecDepth 20000 in
theorem ggX3_leave_X3_isClient : GoodIn wsX3_leave wsX3_isClient := goodIn_r _ [6] (by decide +kernel) (by decide +kernel)
set_option maxRecDepth 20000 in
theorem gX3_leave_X3_isClient : GoodIn wsX3_leave (va_wsS RX3 39 yX3_isClient wsX3_isClient) := goodIn_app (goodIn_of _ (by decide +kernel)) ggX3_leave_X3_isClient
set_option maxRecDepth 20000 in
theorem ggX3_leave_X0_enter : GoodIn wsX3_leave wsX0_enter := goodIn_r _ [11, 12, 13, 18, 19, 20, 21, 22, 23, 24, 25] (by decide +kernel) (by decide +kernel)
set_option maxRecDepth 20000 in
theorem gX3_leave_X0_enter : GoodIn wsX3_leave (wsV RX3 47 RX0 yX0_enter wsX0_enter) := goodIn_app (goodIn_of _ (by decide +kernel)) ggX3_leave_X0_enter
theorem dX3_leave_0 : decode cX3_leave 0 = .ok (.iload_n 1, 1) := by decide +kernel
theorem dX3_leave_1 : decode cX3_leave 1 = .ok (.invokestatic 39, 3) := by decide +kernel
theorem dX3_leave_4 : decode cX3_leave 4 = .ok (.ifCond .eq 15, 3) := by decide +kernel
theorem dX3_leave_7 : decode cX3_leave 7 = .ok (.aload_n 0, 1) := by decide +kernel
theorem dX3_leave_8 : decode cX3_leave 8 = .ok (.getfield 18, 3) := by decide +kernel
theorem dX3_leave_11 : decode cX3_leave 11 = .ok (.iload_n 1, 1) := by decide +kernel
theorem dX3_leave_12 : decode cX3_leave 12 = .ok (.aaload, 1) := by decide +kernel
theorem dX3_leave_13 : decode cX3_leave 13 = .ok (.getfield 43, 3) := by decide +kernel
theorem dX3_leave_16 : decode cX3_leave 16 = .ok (.ifCond .ne 5, 3) := by decide +kernel
theorem dX3_leave_19 : decode cX3_leave 19 = .ok (.iconst 0, 1) := by decide +kernel
theorem dX3_leave_20 : decode cX3_leave 20 = .ok (.ireturn, 1) := by decide +kernel
theorem dX3_leave_21 : decode cX3_leave 21 = .ok (.aload_n 0, 1) := by decide +kernel
theorem dX3_leave_22 : decode cX3_leave 22 = .ok (.getfield 18, 3) := by decide +kernel
theorem dX3_leave_25 : decode cX3_leave 25 = .ok (.iload_n 1, 1) := by decide +kernel
theorem dX3_leave_26 : decode cX3_leave 26 = .ok (.aaload, 1) := by decide +kernel
theorem dX3_leave_27 : decode cX3_leave 27 = .ok (.iconst 0, 1) := by decide +kernel
theorem dX3_leave_28 : decode cX3_leave 28 = .ok (.invokevirtual 47, 3) := by decide +kernel
theorem dX3_leave_31 : decode cX3_leave 31 = .ok (.iconst 1, 1) := by decide +kernel
theorem dX3_leave_32 : decode cX3_leave 32 = .ok (.ireturn, 1) := by decide +kernel
set_option maxRecDepth 20000 in
theorem ggX3_deliver_X2_has : GoodIn wsX3_deliver wsX2_has := goodIn_r _ [7, 8, 123, 124, 125, 126] (by decide +kernel) (by decide +kernel)
set_option maxRecDepth 20000 in
theorem gX3_deliver_X2_has : GoodIn wsX3_deliver (wsV RX3 51 RX2 yX2_has wsX2_has) := goodIn_app (goodIn_of _ (by decide +kernel)) ggX3_deliver_X2_has
set_option maxRecDepth 20000 in
theorem ggX3_deliver_X2_cell : GoodIn wsX3_deliver wsX2_cell := goodIn_r _ [12, 13, 14, 15, 4, 5, 6, 7, 8, 16, 17, 18, 19, 123, 124, 125, 126] (by decide +kernel) (by decide +kernel)
set_option maxRecDepth 20000 in
theorem gX3_deliver_X2_cell : GoodIn wsX3_deliver (wsV RX3 54 RX2 yX2_cell wsX2_cell) := goodIn_app (goodIn_of _ (by decide +kernel)) ggX3_deliver_X2_cell
set_option maxRecDepth 20000 in
theorem ggX3_deliver_X3_isClient : GoodIn wsX3_deliver wsX3_isClient := goodIn_r _ [23] (by decide +kernel) (by decide +kernel)
set_option maxRecDepth 20000 in
theorem gX3_deliver_X3_isClient : GoodIn wsX3_deliver (va_wsS RX3 39 yX3_isClient wsX3_isClient) := goodIn_app (goodIn_of _ (by decide +kernel)) ggX3_deliver_X3_isClient
set_option maxRecDepth 20000 in
theorem ggX3_deliver_X3_isReplica : GoodIn wsX3_deliver wsX3_isReplica := goodIn_r _ [26] (by decide +kernel) (by decide +kernel)
set_option maxRecDepth 20000 in
theorem gX3_deliver_X3_isReplica : GoodIn wsX3_deliver (va_wsS RX3 58 yX3_isReplica wsX3_isReplica) := goodIn_app (goodIn_of _ (by decide +kernel)) ggX3_deliver_X3_isReplica
set_option maxRecDepth 20000 in
theorem ggX3_deliver_X2_remove : GoodIn wsX3_deliver wsX2_remove := goodIn_r _ [30, 14, 13, 8, 31, 32, 33, 34, 15, 4, 5, 6, 7, 123, 124, 125, 126] (by decide +kernel) (by decide +kernel)
set_option maxRecDepth 20000 in
theorem gX3_deliver_X2_remove : GoodIn wsX3_deliver (wsV RX3 61 RX2 yX2_remove wsX2_remove) := goodIn_app (goodIn_of _ (by decide +kernel)) ggX3_deliver_X2_remove
set_option maxRecDepth 20000 in
theorem ggX3_deliver_X3_takeAsk : GoodIn wsX3_deliver wsX3_takeAsk := goodIn_r _ [38, 39, 40, 41, 42, 43, 44, 45, 22, 46, 1, 47, 48, 49, 6, 50, 8, 51, 52, 53, 54, 55, 13, 14, 15, 4, 5, 7, 16, 17, 18, 19, 119, 120, 121, 122, 127, 128, 129, 123, 124, 125, 126] (by decide +kernel) (by decide +kernel)
set_option maxRecDepth 20000 in
theorem gX3_deliver_X3_takeAsk : GoodIn wsX3_deliver (wsV RX3 67 RX3 yX3_takeAsk wsX3_takeAsk) := goodIn_app (goodIn_of _ (by decide +kernel)) ggX3_deliver_X3_takeAsk
set_option maxRecDepth 20000 in
theorem ggX3_deliver_X3_takeTell : GoodIn wsX3_deliver wsX3_takeTell := goodIn_r _ [59, 60, 61, 62, 63, 64, 65, 66, 67, 68, 69, 70, 71, 72, 73, 74, 75, 76, 77, 78, 79, 80, 81, 82, 83, 84, 85, 86, 87, 88, 22, 89, 90, 91, 92, 93, 94, 95, 96, 97, 98, 99, 100, 101, 102, 103, 104, 105, 43, 44, 45, 46, 1, 47, 48, 49, 6, 50, 8, 51, 52, 53, 54, 55, 13, 14, 15, 4, 5, 7, 16, 17, 18, 19, 119, 120, 121, 122, 130, 131, 132, 133, 134, 135, 136, 137, 123, 124, 125, 126] (by decide +kernel) (by decide +kernel)
set_option maxRecDepth 20000 in
theorem gX3_deliver_X3_takeTell : GoodIn wsX3_deliver (wsV RX3 71 RX3 yX3_takeTell wsX3_takeTell) := goodIn_app (goodIn_of _ (by decide +kernel)) ggX3_deliver_X3_takeTell
set_option maxRecDepth 20000 in
theorem ggX3_deliver_X3_takeStore : GoodIn wsX3_deliver wsX3_takeStore := goodIn_r _ [109, 39, 40, 41, 42, 43, 44, 45, 22, 46, 1, 47, 48, 49, 6, 50, 8, 51, 52, 53, 54, 55, 13, 14, 15, 4, 5, 7, 16, 17, 18, 19, 119, 120, 121, 122, 127, 128, 129, 123, 124, 125, 126] (by decide +kernel) (by decide +kernel)
set_option maxRecDepth 20000 in
theorem gX3_deliver_X3_takeStore : GoodIn wsX3_deliver (wsV RX3 75 RX3 yX3_takeStore wsX3_takeStore) := goodIn_app (goodIn_of _ (by decide +kernel)) ggX3_deliver_X3_takeStore
set_option maxRecDepth 20000 in
theorem ggX3_deliver_X3_takeStored : GoodIn wsX3_deliver wsX3_takeStored := goodIn_r _ [113, 60, 63, 64, 65, 66, 67, 68, 69, 70, 71, 72, 73, 74, 75, 76, 77, 78, 79, 80, 81, 82, 83, 84, 85, 114, 115, 116, 22, 117, 118, 105, 90, 62, 61, 47, 48, 49, 6, 50, 8, 51, 52, 53, 54, 55, 13, 14, 15, 4, 5, 7, 16, 17, 18, 19, 97, 98, 99, 100, 119, 120, 121, 122, 130, 131, 132, 133, 134, 135, 136, 137, 123, 124, 125, 126] (by decide +kernel) (by decide +kernel)
set_option maxRecDepth 20000 in
theorem gX3_deliver_X3_takeStored : GoodIn wsX3_deliver (wsV RX3 78 RX3 yX3_takeStored wsX3_takeStored) := goodIn_app (goodIn_of _ (by decide +kernel)) ggX3_deliver_X3_takeStored
theorem dX3_deliver_0 : decode cX3_deliver 0 = .ok (.aload_n 0, 1) := by decide +kernel
theorem dX3_deliver_1 : decode cX3_deliver 1 = .ok (.getfield 28, 3) := by decide +kernel
theorem dX3_deliver_4 : decode cX3_deliver 4 = .ok (.iload_n 1, 1) := by decide +kernel
theorem dX3_deliver_5 : decode cX3_deliver 5 = .ok (.invokevirtual 51, 3) := by decide +kernel
theorem dX3_deliver_8 : decode cX3_deliver 8 = .ok (.ifCond .ne 5, 3) := by decide +kernel
theorem dX3_deliver_11 : decode cX3_deliver 11 = .ok (.iconst (-1), 1) := by decide +kernel
theorem dX3_deliver_12 : decode cX3_deliver 12 = .ok (.ireturn, 1) := by decide +kernel
theorem dX3_deliver_13 : decode cX3_deliver 13 = .ok (.aload_n 0, 1) := by decide +kernel
theorem dX3_deliver_14 : decode cX3_deliver 14 = .ok (.getfield 28, 3) := by decide +kernel
theorem dX3_deliver_17 : decode cX3_deliver 17 = .ok (.iload_n 1, 1) := by decide +kernel
theorem dX3_deliver_18 : decode cX3_deliver 18 = .ok (.iconst 0, 1) := by decide +kernel
theorem dX3_deliver_19 : decode cX3_deliver 19 = .ok (.invokevirtual 54, 3) := by decide +kernel
theorem dX3_deliver_22 : decode cX3_deliver 22 = .ok (.istore_n 2, 1) := by decide +kernel
theorem dX3_deliver_23 : decode cX3_deliver 23 = .ok (.aload_n 0, 1) := by decide +kernel
theorem dX3_deliver_24 : decode cX3_deliver 24 = .ok (.getfield 28, 3) := by decide +kernel
theorem dX3_deliver_27 : decode cX3_deliver 27 = .ok (.iload_n 1, 1) := by decide +kernel
theorem dX3_deliver_28 : decode cX3_deliver 28 = .ok (.iconst 1, 1) := by decide +kernel
theorem dX3_deliver_29 : decode cX3_deliver 29 = .ok (.invokevirtual 54, 3) := by decide +kernel
theorem dX3_deliver_32 : decode cX3_deliver 32 = .ok (.istore_n 3, 1) := by decide +kernel
theorem dX3_deliver_33 : decode cX3_deliver 33 = .ok (.aload_n 0, 1) := by decide +kernel
theorem dX3_deliver_34 : decode cX3_deliver 34 = .ok (.getfield 28, 3) := by decide +kernel
theorem dX3_deliver_37 : decode cX3_deliver 37 = .ok (.iload_n 1, 1) := by decide +kernel
theorem dX3_deliver_38 : decode cX3_deliver 38 = .ok (.iconst 2, 1) := by decide +kernel
theorem dX3_deliver_39 : decode cX3_deliver 39 = .ok (.invokevirtual 54, 3) := by decide +kernel
theorem dX3_deliver_42 : decode cX3_deliver 42 = .ok (.istore 4, 2) := by decide +kernel
theorem dX3_deliver_44 : decode cX3_deliver 44 = .ok (.aload_n 0, 1) := by decide +kernel
theorem dX3_deliver_45 : decode cX3_deliver 45 = .ok (.getfield 28, 3) := by decide +kernel
theorem dX3_deliver_48 : decode cX3_deliver 48 = .ok (.iload_n 1, 1) := by decide +kernel
theorem dX3_deliver_49 : decode cX3_deliver 49 = .ok (.iconst 3, 1) := by decide +kernel
theorem dX3_deliver_50 : decode cX3_deliver 50 = .ok (.invokevirtual 54, 3) := by decide +kernel
theorem dX3_deliver_53 : decode cX3_deliver 53 = .ok (.istore 5, 2) := by decide +kernel
theorem dX3_deliver_55 : decode cX3_deliver 55 = .ok (.aload_n 0, 1) := by decide +kernel
theorem dX3_deliver_56 : decode cX3_deliver 56 = .ok (.getfield 28, 3) := by decide +kernel
theorem dX3_deliver_59 : decode cX3_deliver 59 = .ok (.iload_n 1, 1) := by decide +kernel
theorem dX3_deliver_60 : decode cX3_deliver 60 = .ok (.iconst 4, 1) := by decide +kernel
theorem dX3_deliver_61 : decode cX3_deliver 61 = .ok (.invokevirtual 54, 3) := by decide +kernel
theorem dX3_deliver_64 : decode cX3_deliver 64 = .ok (.istore 6, 2) := by decide +kernel
theorem dX3_deliver_66 : decode cX3_deliver 66 = .ok (.aload_n 0, 1) := by decide +kernel
theorem dX3_deliver_67 : decode cX3_deliver 67 = .ok (.getfield 28, 3) := by decide +kernel
theorem dX3_deliver_70 : decode cX3_deliver 70 = .ok (.iload_n 1, 1) := by decide +kernel
theorem dX3_deliver_71 : decode cX3_deliver 71 = .ok (.iconst 5, 1) := by decide +kernel
theorem dX3_deliver_72 : decode cX3_deliver 72 = .ok (.invokevirtual 54, 3) := by decide +kernel
theorem dX3_deliver_75 : decode cX3_deliver 75 = .ok (.istore 7, 2) := by decide +kernel
theorem dX3_deliver_77 : decode cX3_deliver 77 = .ok (.iload_n 3, 1) := by decide +kernel
theorem dX3_deliver_78 : decode cX3_deliver 78 = .ok (.invokestatic 39, 3) := by decide +kernel
theorem dX3_deliver_81 : decode cX3_deliver 81 = .ok (.ifCond .eq 11, 3) := by decide +kernel
theorem dX3_deliver_84 : decode cX3_deliver 84 = .ok (.iload 4, 2) := by decide +kernel
theorem dX3_deliver_86 : decode cX3_deliver 86 = .ok (.invokestatic 58, 3) := by decide +kernel
theorem dX3_deliver_89 : decode cX3_deliver 89 = .ok (.ifCond .ne 5, 3) := by decide +kernel
theorem dX3_deliver_92 : decode cX3_deliver 92 = .ok (.iconst (-1), 1) := by decide +kernel
theorem dX3_deliver_93 : decode cX3_deliver 93 = .ok (.ireturn, 1) := by decide +kernel
theorem dX3_deliver_94 : decode cX3_deliver 94 = .ok (.aload_n 0, 1) := by decide +kernel
theorem dX3_deliver_95 : decode cX3_deliver 95 = .ok (.getfield 28, 3) := by decide +kernel
theorem dX3_deliver_98 : decode cX3_deliver 98 = .ok (.iload_n 1, 1) := by decide +kernel
theorem dX3_deliver_99 : decode cX3_deliver 99 = .ok (.invokevirtual 61, 3) := by decide +kernel
theorem dX3_deliver_102 : decode cX3_deliver 102 = .ok (.aload_n 0, 1) := by decide +kernel
theorem dX3_deliver_103 : decode cX3_deliver 103 = .ok (.getfield 28, 3) := by decide +kernel
theorem dX3_deliver_106 : decode cX3_deliver 106 = .ok (.getfield 64, 3) := by decide +kernel
theorem dX3_deliver_109 : decode cX3_deliver 109 = .ok (.istore 8, 2) := by decide +kernel
theorem dX3_deliver_111 : decode cX3_deliver 111 = .ok (.iload_n 2, 1) := by decide +kernel
theorem dX3_deliver_112 : decode cX3_deliver 112 = .ok (.tableswitch 72 0 2 #[28, 40, 56], 28) := by decide +kernel
theorem dX3_deliver_140 : decode cX3_deliver 140 = .ok (.aload_n 0, 1) := by decide +kernel
theorem dX3_deliver_141 : decode cX3_deliver 141 = .ok (.iload_n 3, 1) := by decide +kernel
theorem dX3_deliver_142 : decode cX3_deliver 142 = .ok (.iload 4, 2) := by decide +kernel
theorem dX3_deliver_144 : decode cX3_deliver 144 = .ok (.iload 5, 2) := by decide +kernel
theorem dX3_deliver_146 : decode cX3_deliver 146 = .ok (.invokevirtual 67, 3) := by decide +kernel
theorem dX3_deliver_149 : decode cX3_deliver 149 = .ok (.goto 44, 3) := by decide +kernel
theorem dX3_deliver_152 : decode cX3_deliver 152 = .ok (.aload_n 0, 1) := by decide +kernel
theorem dX3_deliver_153 : decode cX3_deliver 153 = .ok (.iload_n 3, 1) := by decide +kernel
theorem dX3_deliver_154 : decode cX3_deliver 154 = .ok (.iload 4, 2) := by decide +kernel
theorem dX3_deliver_156 : decode cX3_deliver 156 = .ok (.iload 5, 2) := by decide +kernel
theorem dX3_deliver_158 : decode cX3_deliver 158 = .ok (.iload 6, 2) := by decide +kernel
theorem dX3_deliver_160 : decode cX3_deliver 160 = .ok (.iload 7, 2) := by decide +kernel
theorem dX3_deliver_162 : decode cX3_deliver 162 = .ok (.invokevirtual 71, 3) := by decide +kernel
theorem dX3_deliver_165 : decode cX3_deliver 165 = .ok (.goto 28, 3) := by decide +kernel
theorem dX3_deliver_168 : decode cX3_deliver 168 = .ok (.aload_n 0, 1) := by decide +kernel
theorem dX3_deliver_169 : decode cX3_deliver 169 = .ok (.iload_n 3, 1) := by decide +kernel
theorem dX3_deliver_170 : decode cX3_deliver 170 = .ok (.iload 4, 2) := by decide +kernel
theorem dX3_deliver_172 : decode cX3_deliver 172 = .ok (.iload 5, 2) := by decide +kernel
theorem dX3_deliver_174 : decode cX3_deliver 174 = .ok (.iload 6, 2) := by decide +kernel
theorem dX3_deliver_176 : decode cX3_deliver 176 = .ok (.iload 7, 2) := by decide +kernel
theorem dX3_deliver_178 : decode cX3_deliver 178 = .ok (.invokevirtual 75, 3) := by decide +kernel
theorem dX3_deliver_181 : decode cX3_deliver 181 = .ok (.goto 12, 3) := by decide +kernel
theorem dX3_deliver_184 : decode cX3_deliver 184 = .ok (.aload_n 0, 1) := by decide +kernel
theorem dX3_deliver_185 : decode cX3_deliver 185 = .ok (.iload_n 3, 1) := by decide +kernel
theorem dX3_deliver_186 : decode cX3_deliver 186 = .ok (.iload 4, 2) := by decide +kernel
theorem dX3_deliver_188 : decode cX3_deliver 188 = .ok (.iload 5, 2) := by decide +kernel
theorem dX3_deliver_190 : decode cX3_deliver 190 = .ok (.invokevirtual 78, 3) := by decide +kernel
theorem dX3_deliver_193 : decode cX3_deliver 193 = .ok (.aload_n 0, 1) := by decide +kernel
theorem dX3_deliver_194 : decode cX3_deliver 194 = .ok (.getfield 28, 3) := by decide +kernel
theorem dX3_deliver_197 : decode cX3_deliver 197 = .ok (.getfield 64, 3) := by decide +kernel
theorem dX3_deliver_200 : decode cX3_deliver 200 = .ok (.iload 8, 2) := by decide +kernel
theorem dX3_deliver_202 : decode cX3_deliver 202 = .ok (.isub, 1) := by decide +kernel
theorem dX3_deliver_203 : decode cX3_deliver 203 = .ok (.ireturn, 1) := by decide +kernel
set_option maxRecDepth 20000 in
theorem ggX3_lose_X2_has : GoodIn wsX3_lose wsX2_has := goodIn_r _ [6, 7, 23, 24, 25, 26] (by decide +kernel) (by decide +kernel)
set_option maxRecDepth 20000 in
theorem gX3_lose_X2_has : GoodIn wsX3_lose (wsV RX3 51 RX2 yX2_has wsX2_has) := goodIn_app (goodIn_of _ (by decide +kernel)) ggX3_lose_X2_has
set_option maxRecDepth 20000 in
theorem ggX3_lose_X2_remove : GoodIn wsX3_lose wsX2_remove := goodIn_r _ [11, 12, 13, 7, 14, 15, 16, 17, 18, 3, 4, 5, 6, 23, 24, 25, 26] (by decide +kernel) (by decide +kernel)
set_option maxRecDepth 20000 in
theorem gX3_lose_X2_remove : GoodIn wsX3_lose (wsV RX3 61 RX2 yX2_remove wsX2_remove) := goodIn_app (goodIn_of _ (by decide +kernel)) ggX3_lose_X2_remove
theorem dX3_lose_0 : decode cX3_lose 0 = .ok (.aload_n 0, 1) := by decide +kernel
theorem dX3_lose_1 : decode cX3_lose 1 = .ok (.getfield 28, 3) := by decide +kernel
theorem dX3_lose_4 : decode cX3_lose 4 = .ok (.iload_n 1, 1) := by decide +kernel
theorem dX3_lose_5 : decode cX3_lose 5 = .ok (.invokevirtual 51, 3) := by decide +kernel
theorem dX3_lose_8 : decode cX3_lose 8 = .ok (.ifCond .ne 5, 3) := by decide +kernel
theorem dX3_lose_11 : decode cX3_lose 11 = .ok (.iconst 0, 1) := by decide +kernel
theorem dX3_lose_12 : decode cX3_lose 12 = .ok (.ireturn, 1) := by decide +kernel
theorem dX3_lose_13 : decode cX3_lose 13 = .ok (.aload_n 0, 1) := by decide +kernel
theorem dX3_lose_14 : decode cX3_lose 14 = .ok (.getfield 28, 3) := by decide +kernel
theorem dX3_lose_17 : decode cX3_lose 17 = .ok (.iload_n 1, 1) := by decide +kernel
theorem dX3_lose_18 : decode cX3_lose 18 = .ok (.invokevirtual 61, 3) := by decide +kernel
theorem dX3_lose_21 : decode cX3_lose 21 = .ok (.iconst 1, 1) := by decide +kernel
theorem dX3_lose_22 : decode cX3_lose 22 = .ok (.ireturn, 1) := by decide +kernel
set_option maxRecDepth 20000 in
theorem ggX3_repeat_X2_has : GoodIn wsX3_repeat wsX2_has := goodIn_r _ [6, 7, 34, 35, 36, 37] (by decide +kernel) (by decide +kernel)
set_option maxRecDepth 20000 in
theorem gX3_repeat_X2_has : GoodIn wsX3_repeat (wsV RX3 51 RX2 yX2_has wsX2_has) := goodIn_app (goodIn_of _ (by decide +kernel)) ggX3_repeat_X2_has
set_option maxRecDepth 20000 in
theorem ggX3_repeat_X3_isCrowded : GoodIn wsX3_repeat wsX3_isCrowded := goodIn_r _ [12, 1, 13, 30, 31, 32, 33, 34, 35, 36, 37] (by decide +kernel) (by decide +kernel)
set_option maxRecDepth 20000 in
theorem gX3_repeat_X3_isCrowded : GoodIn wsX3_repeat (wsV RX3 81 RX3 yX3_isCrowded wsX3_isCrowded) := goodIn_app (goodIn_of _ (by decide +kernel)) ggX3_repeat_X3_isCrowded
set_option maxRecDepth 20000 in
theorem ggX3_repeat_X2_addCopy : GoodIn wsX3_repeat wsX2_addCopy := goodIn_r _ [17, 18, 19, 20, 21, 22, 23, 24, 3, 4, 5, 6, 7, 25, 26, 27, 28, 29, 34, 35, 36, 37] (by decide +kernel) (by decide +kernel)
set_option maxRecDepth 20000 in
theorem gX3_repeat_X2_addCopy : GoodIn wsX3_repeat (wsV RX3 85 RX2 yX2_addCopy wsX2_addCopy) := goodIn_app (goodIn_of _ (by decide +kernel)) ggX3_repeat_X2_addCopy
theorem dX3_repeat_0 : decode cX3_repeat 0 = .ok (.aload_n 0, 1) := by decide +kernel
theorem dX3_repeat_1 : decode cX3_repeat 1 = .ok (.getfield 28, 3) := by decide +kernel
theorem dX3_repeat_4 : decode cX3_repeat 4 = .ok (.iload_n 1, 1) := by decide +kernel
theorem dX3_repeat_5 : decode cX3_repeat 5 = .ok (.invokevirtual 51, 3) := by decide +kernel
theorem dX3_repeat_8 : decode cX3_repeat 8 = .ok (.ifCond .eq 10, 3) := by decide +kernel
theorem dX3_repeat_11 : decode cX3_repeat 11 = .ok (.aload_n 0, 1) := by decide +kernel
theorem dX3_repeat_12 : decode cX3_repeat 12 = .ok (.invokevirtual 81, 3) := by decide +kernel
theorem dX3_repeat_15 : decode cX3_repeat 15 = .ok (.ifCond .eq 5, 3) := by decide +kernel
theorem dX3_repeat_18 : decode cX3_repeat 18 = .ok (.iconst 0, 1) := by decide +kernel
theorem dX3_repeat_19 : decode cX3_repeat 19 = .ok (.ireturn, 1) := by decide +kernel
theorem dX3_repeat_20 : decode cX3_repeat 20 = .ok (.aload_n 0, 1) := by decide +kernel
theorem dX3_repeat_21 : decode cX3_repeat 21 = .ok (.getfield 28, 3) := by decide +kernel
theorem dX3_repeat_24 : decode cX3_repeat 24 = .ok (.iload_n 1, 1) := by decide +kernel
theorem dX3_repeat_25 : decode cX3_repeat 25 = .ok (.invokevirtual 85, 3) := by decide +kernel
theorem dX3_repeat_28 : decode cX3_repeat 28 = .ok (.iconst 1, 1) := by decide +kernel
theorem dX3_repeat_29 : decode cX3_repeat 29 = .ok (.ireturn, 1) := by decide +kernel
set_option maxRecDepth 20000 in
theorem ggX3_fail_X3_isReplica : GoodIn wsX3_fail wsX3_isReplica := goodIn_r _ [6] (by decide +kernel) (by decide +kernel)
set_option maxRecDepth 20000 in
theorem gX3_fail_X3_isReplica : GoodIn wsX3_fail (va_wsS RX3 58 yX3_isReplica wsX3_isReplica) := goodIn_app (goodIn_of _ (by decide +kernel)) ggX3_fail_X3_isReplica
set_option maxRecDepth 20000 in
theorem ggX3_fail_X3_countFailed : GoodIn wsX3_fail wsX3_countFailed := goodIn_r _ [10, 1, 2, 11, 12, 13, 14, 15, 16, 17] (by decide +kernel) (by decide +kernel)
set_option maxRecDepth 20000 in
theorem gX3_fail_X3_countFailed : GoodIn wsX3_fail (wsV RX3 92 RX3 yX3_countFailed wsX3_countFailed) := goodIn_app (goodIn_of _ (by decide +kernel)) ggX3_fail_X3_countFailed
theorem dX3_fail_0 : decode cX3_fail 0 = .ok (.iload_n 1, 1) := by decide +kernel
theorem dX3_fail_1 : decode cX3_fail 1 = .ok (.invokestatic 58, 3) := by decide +kernel
theorem dX3_fail_4 : decode cX3_fail 4 = .ok (.ifCond .eq 23, 3) := by decide +kernel
theorem dX3_fail_7 : decode cX3_fail 7 = .ok (.aload_n 0, 1) := by decide +kernel
theorem dX3_fail_8 : decode cX3_fail 8 = .ok (.getfield 11, 3) := by decide +kernel
theorem dX3_fail_11 : decode cX3_fail 11 = .ok (.iload_n 1, 1) := by decide +kernel
theorem dX3_fail_12 : decode cX3_fail 12 = .ok (.aaload, 1) := by decide +kernel
theorem dX3_fail_13 : decode cX3_fail 13 = .ok (.getfield 88, 3) := by decide +kernel
theorem dX3_fail_16 : decode cX3_fail 16 = .ok (.ifCond .ne 11, 3) := by decide +kernel
theorem dX3_fail_19 : decode cX3_fail 19 = .ok (.aload_n 0, 1) := by decide +kernel
theorem dX3_fail_20 : decode cX3_fail 20 = .ok (.invokevirtual 92, 3) := by decide +kernel
theorem dX3_fail_23 : decode cX3_fail 23 = .ok (.iconst 2, 1) := by decide +kernel
theorem dX3_fail_24 : decode cX3_fail 24 = .ok (.if_icmp .lt 5, 3) := by decide +kernel
theorem dX3_fail_27 : decode cX3_fail 27 = .ok (.iconst 0, 1) := by decide +kernel
theorem dX3_fail_28 : decode cX3_fail 28 = .ok (.ireturn, 1) := by decide +kernel
theorem dX3_fail_29 : decode cX3_fail 29 = .ok (.aload_n 0, 1) := by decide +kernel
theorem dX3_fail_30 : decode cX3_fail 30 = .ok (.getfield 11, 3) := by decide +kernel
theorem dX3_fail_33 : decode cX3_fail 33 = .ok (.iload_n 1, 1) := by decide +kernel
theorem dX3_fail_34 : decode cX3_fail 34 = .ok (.aaload, 1) := by decide +kernel
theorem dX3_fail_35 : decode cX3_fail 35 = .ok (.iconst 1, 1) := by decide +kernel
theorem dX3_fail_36 : decode cX3_fail 36 = .ok (.putfield 88, 3) := by decide +kernel
theorem dX3_fail_39 : decode cX3_fail 39 = .ok (.iconst 1, 1) := by decide +kernel
theorem dX3_fail_40 : decode cX3_fail 40 = .ok (.ireturn, 1) := by decide +kernel
theorem dX3_messages_0 : decode cX3_messages 0 = .ok (.aload_n 0, 1) := by decide +kernel
theorem dX3_messages_1 : decode cX3_messages 1 = .ok (.getfield 28, 3) := by decide +kernel
theorem dX3_messages_4 : decode cX3_messages 4 = .ok (.getfield 64, 3) := by decide +kernel
theorem dX3_messages_7 : decode cX3_messages 7 = .ok (.ireturn, 1) := by decide +kernel
set_option maxRecDepth 20000 in
theorem ggX3_message_X2_cell : GoodIn wsX3_message wsX2_cell := goodIn_r _ [6, 7, 8, 9, 10, 11, 5, 12, 13, 14, 15, 16, 17, 22, 23, 24, 25] (by decide +kernel) (by decide +kernel)
set_option maxRecDepth 20000 in
theorem gX3_message_X2_cell : GoodIn wsX3_message (wsV RX3 54 RX2 yX2_cell wsX2_cell) := goodIn_app (goodIn_of _ (by decide +kernel)) ggX3_message_X2_cell
theorem dX3_message_0 : decode cX3_message 0 = .ok (.aload_n 0, 1) := by decide +kernel
theorem dX3_message_1 : decode cX3_message 1 = .ok (.getfield 28, 3) := by decide +kernel
theorem dX3_message_4 : decode cX3_message 4 = .ok (.iload_n 1, 1) := by decide +kernel
theorem dX3_message_5 : decode cX3_message 5 = .ok (.iload_n 2, 1) := by decide +kernel
theorem dX3_message_6 : decode cX3_message 6 = .ok (.invokevirtual 54, 3) := by decide +kernel
theorem dX3_message_9 : decode cX3_message 9 = .ok (.ireturn, 1) := by decide +kernel
set_option maxRecDepth 20000 in
theorem ggX3_tag_X3_isReplica : GoodIn wsX3_tag wsX3_isReplica := goodIn_r _ [6] (by decide +kernel) (by decide +kernel)
set_option maxRecDepth 20000 in
theorem gX3_tag_X3_isReplica : GoodIn wsX3_tag (va_wsS RX3 58 yX3_isReplica wsX3_isReplica) := goodIn_app (goodIn_of _ (by decide +kernel)) ggX3_tag_X3_isReplica
theorem dX3_tag_0 : decode cX3_tag 0 = .ok (.iload_n 1, 1) := by decide +kernel
theorem dX3_tag_1 : decode cX3_tag 1 = .ok (.invokestatic 58, 3) := by decide +kernel
theorem dX3_tag_4 : decode cX3_tag 4 = .ok (.ifCond .eq 15, 3) := by decide +kernel
theorem dX3_tag_7 : decode cX3_tag 7 = .ok (.aload_n 0, 1) := by decide +kernel
theorem dX3_tag_8 : decode cX3_tag 8 = .ok (.getfield 11, 3) := by decide +kernel
theorem dX3_tag_11 : decode cX3_tag 11 = .ok (.iload_n 1, 1) := by decide +kernel
theorem dX3_tag_12 : decode cX3_tag 12 = .ok (.aaload, 1) := by decide +kernel
theorem dX3_tag_13 : decode cX3_tag 13 = .ok (.getfield 96, 3) := by decide +kernel
theorem dX3_tag_16 : decode cX3_tag 16 = .ok (.goto 4, 3) := by decide +kernel
theorem dX3_tag_19 : decode cX3_tag 19 = .ok (.iconst (-1), 1) := by decide +kernel
theorem dX3_tag_20 : decode cX3_tag 20 = .ok (.ireturn, 1) := by decide +kernel
set_option maxRecDepth 20000 in
theorem ggX3_value_X3_isReplica : GoodIn wsX3_value wsX3_isReplica := goodIn_r _ [6] (by decide +kernel) (by decide +kernel)
set_option maxRecDepth 20000 in
theorem gX3_value_X3_isReplica : GoodIn wsX3_value (va_wsS RX3 58 yX3_isReplica wsX3_isReplica) := goodIn_app (goodIn_of _ (by decide +kernel)) ggX3_value_X3_isReplica
theorem dX3_value_0 : decode cX3_value 0 = .ok (.iload_n 1, 1) := by decide +kernel
theorem dX3_value_1 : decode cX3_value 1 = .ok (.invokestatic 58, 3) := by decide +kernel
theorem dX3_value_4 : decode cX3_value 4 = .ok (.ifCond .eq 15, 3) := by decide +kernel
theorem dX3_value_7 : decode cX3_value 7 = .ok (.aload_n 0, 1) := by decide +kernel
theorem dX3_value_8 : decode cX3_value 8 = .ok (.getfield 11, 3) := by decide +kernel
theorem dX3_value_11 : decode cX3_value 11 = .ok (.iload_n 1, 1) := by decide +kernel
theorem dX3_value_12 : decode cX3_value 12 = .ok (.aaload, 1) := by decide +kernel
theorem dX3_value_13 : decode cX3_value 13 = .ok (.getfield 99, 3) := by decide +kernel
theorem dX3_value_16 : decode cX3_value 16 = .ok (.goto 4, 3) := by decide +kernel
theorem dX3_value_19 : decode cX3_value 19 = .ok (.iconst 0, 1) := by decide +kernel
theorem dX3_value_20 : decode cX3_value 20 = .ok (.ireturn, 1) := by decide +kernel
set_option maxRecDepth 20000 in
theorem ggX3_failed_X3_isReplica : GoodIn wsX3_failed wsX3_isReplica := goodIn_r _ [6] (by decide +kernel) (by decide +kernel)
set_option maxRecDepth 20000 in
theorem gX3_failed_X3_isReplica : GoodIn wsX3_failed (va_wsS RX3 58 yX3_isReplica wsX3_isReplica) := goodIn_app (goodIn_of _ (by decide +kernel)) ggX3_failed_X3_isReplica
theorem dX3_failed_0 : decode cX3_failed 0 = .ok (.iload_n 1, 1) := by decide +kernel
theorem dX3_failed_1 : decode cX3_failed 1 = .ok (.invokestatic 58, 3) := by decide +kernel
theorem dX3_failed_4 : decode cX3_failed 4 = .ok (.ifCond .eq 19, 3) := by decide +kernel
theorem dX3_failed_7 : decode cX3_failed 7 = .ok (.aload_n 0, 1) := by decide +kernel
theorem dX3_failed_8 : decode cX3_failed 8 = .ok (.getfield 11, 3) := by decide +kernel
theorem dX3_failed_11 : decode cX3_failed 11 = .ok (.iload_n 1, 1) := by decide +kernel
theorem dX3_failed_12 : decode cX3_failed 12 = .ok (.aaload, 1) := by decide +kernel
theorem dX3_failed_13 : decode cX3_failed 13 = .ok (.getfield 88, 3) := by decide +kernel
theorem dX3_failed_16 : decode cX3_failed 16 = .ok (.ifCond .eq 7, 3) := by decide +kernel
theorem dX3_failed_19 : decode cX3_failed 19 = .ok (.iconst 1, 1) := by decide +kernel
theorem dX3_failed_20 : decode cX3_failed 20 = .ok (.goto 4, 3) := by decide +kernel
theorem dX3_failed_23 : decode cX3_failed 23 = .ok (.iconst 0, 1) := by decide +kernel
theorem dX3_failed_24 : decode cX3_failed 24 = .ok (.ireturn, 1) := by decide +kernel
set_option maxRecDepth 20000 in
theorem ggX3_phase_X3_isClient : GoodIn wsX3_phase wsX3_isClient := goodIn_r _ [6] (by decide +kernel) (by decide +kernel)
set_option maxRecDepth 20000 in
theorem gX3_phase_X3_isClient : GoodIn wsX3_phase (va_wsS RX3 39 yX3_isClient wsX3_isClient) := goodIn_app (goodIn_of _ (by decide +kernel)) ggX3_phase_X3_isClient
theorem dX3_phase_0 : decode cX3_phase 0 = .ok (.iload_n 1, 1) := by decide +kernel
theorem dX3_phase_1 : decode cX3_phase 1 = .ok (.invokestatic 39, 3) := by decide +kernel
theorem dX3_phase_4 : decode cX3_phase 4 = .ok (.ifCond .eq 15, 3) := by decide +kernel
theorem dX3_phase_7 : decode cX3_phase 7 = .ok (.aload_n 0, 1) := by decide +kernel
theorem dX3_phase_8 : decode cX3_phase 8 = .ok (.getfield 18, 3) := by decide +kernel
theorem dX3_phase_11 : decode cX3_phase 11 = .ok (.iload_n 1, 1) := by decide +kernel
theorem dX3_phase_12 : decode cX3_phase 12 = .ok (.aaload, 1) := by decide +kernel
theorem dX3_phase_13 : decode cX3_phase 13 = .ok (.getfield 43, 3) := by decide +kernel
theorem dX3_phase_16 : decode cX3_phase 16 = .ok (.goto 4, 3) := by decide +kernel
theorem dX3_phase_19 : decode cX3_phase 19 = .ok (.iconst (-1), 1) := by decide +kernel
theorem dX3_phase_20 : decode cX3_phase 20 = .ok (.ireturn, 1) := by decide +kernel
set_option maxRecDepth 20000 in
theorem ggX3_answered_X3_isClient : GoodIn wsX3_answered wsX3_isClient := goodIn_r _ [6] (by decide +kernel) (by decide +kernel)
set_option maxRecDepth 20000 in
theorem gX3_answered_X3_isClient : GoodIn wsX3_answered (va_wsS RX3 39 yX3_isClient wsX3_isClient) := goodIn_app (goodIn_of _ (by decide +kernel)) ggX3_answered_X3_isClient
theorem dX3_answered_0 : decode cX3_answered 0 = .ok (.iload_n 1, 1) := by decide +kernel
