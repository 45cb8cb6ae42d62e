theorem dX0_init_0 : decode cX0_init 0 = .ok (.aload_n 0, 1) := by decide +kernel
theorem dX0_init_1 : decode cX0_init 1 = .ok (.invokespecial 3, 3) := by decide +kernel
theorem dX0_init_4 : decode cX0_init 4 = .ok (.aload_n 0, 1) := by decide +kernel
theorem dX0_init_5 : decode cX0_init 5 = .ok (.bipush 64, 2) := by decide +kernel
theorem dX0_init_7 : decode cX0_init 7 = .ok (.newarray .byte, 2) := by decide +kernel
theorem dX0_init_9 : decode cX0_init 9 = .ok (.putfield 9, 3) := by decide +kernel
theorem dX0_init_12 : decode cX0_init 12 = .ok (.aload_n 0, 1) := by decide +kernel
theorem dX0_init_13 : decode cX0_init 13 = .ok (.iconst 0, 1) := by decide +kernel
theorem dX0_init_14 : decode cX0_init 14 = .ok (.putfield 15, 3) := by decide +kernel
theorem dX0_init_17 : decode cX0_init 17 = .ok (.return_, 1) := by decide +kernel
theorem dX0_get_0 : decode cX0_get 0 = .ok (.iload_n 1, 1) := by decide +kernel
theorem dX0_get_1 : decode cX0_get 1 = .ok (.ifCond .lt 33, 3) := by decide +kernel
theorem dX0_get_4 : decode cX0_get 4 = .ok (.iload_n 1, 1) := by decide +kernel
theorem dX0_get_5 : decode cX0_get 5 = .ok (.aload_n 0, 1) := by decide +kernel
theorem dX0_get_6 : decode cX0_get 6 = .ok (.getfield 15, 3) := by decide +kernel
theorem dX0_get_9 : decode cX0_get 9 = .ok (.if_icmp .ge 25, 3) := by decide +kernel
theorem dX0_get_12 : decode cX0_get 12 = .ok (.iload_n 1, 1) := by decide +kernel
theorem dX0_get_13 : decode cX0_get 13 = .ok (.aload_n 0, 1) := by decide +kernel
theorem dX0_get_14 : decode cX0_get 14 = .ok (.getfield 9, 3) := by decide +kernel
theorem dX0_get_17 : decode cX0_get 17 = .ok (.arraylength, 1) := by decide +kernel
theorem dX0_get_18 : decode cX0_get 18 = .ok (.if_icmp .ge 16, 3) := by decide +kernel
theorem dX0_get_21 : decode cX0_get 21 = .ok (.aload_n 0, 1) := by decide +kernel
theorem dX0_get_22 : decode cX0_get 22 = .ok (.getfield 9, 3) := by decide +kernel
theorem dX0_get_25 : decode cX0_get 25 = .ok (.iload_n 1, 1) := by decide +kernel
theorem dX0_get_26 : decode cX0_get 26 = .ok (.baload, 1) := by decide +kernel
theorem dX0_get_27 : decode cX0_get 27 = .ok (.sipush 255, 3) := by decide +kernel
theorem dX0_get_30 : decode cX0_get 30 = .ok (.iand, 1) := by decide +kernel
theorem dX0_get_31 : decode cX0_get 31 = .ok (.goto 4, 3) := by decide +kernel
theorem dX0_get_34 : decode cX0_get 34 = .ok (.iconst 0, 1) := by decide +kernel
theorem dX0_get_35 : decode cX0_get 35 = .ok (.ireturn, 1) := by decide +kernel
set_option maxRecDepth 20000 in
theorem ggX0_add_J7_copyOf_9075b : GoodIn wsX0_add wsJ7_copyOf_9075b := goodIn_r _ [6, 7, 8, 9, 10, 11, 12, 13, 14, 15, 16, 17, 18, 19, 20, 21] (by decide +kernel) (by decide +kernel)
set_option maxRecDepth 20000 in
theorem gX0_add_J7_copyOf_9075b : GoodIn wsX0_add (va_wsS RX0 19 yJ7_copyOf_9075b wsJ7_copyOf_9075b) := goodIn_app (goodIn_of _ (by decide +kernel)) ggX0_add_J7_copyOf_9075b
theorem dX0_add_0 : decode cX0_add 0 = .ok (.aload_n 0, 1) := by decide +kernel
theorem dX0_add_1 : decode cX0_add 1 = .ok (.getfield 15, 3) := by decide +kernel
theorem dX0_add_4 : decode cX0_add 4 = .ok (.aload_n 0, 1) := by decide +kernel
theorem dX0_add_5 : decode cX0_add 5 = .ok (.getfield 9, 3) := by decide +kernel
theorem dX0_add_8 : decode cX0_add 8 = .ok (.arraylength, 1) := by decide +kernel
theorem dX0_add_9 : decode cX0_add 9 = .ok (.if_icmp .lt 22, 3) := by decide +kernel
theorem dX0_add_12 : decode cX0_add 12 = .ok (.aload_n 0, 1) := by decide +kernel
theorem dX0_add_13 : decode cX0_add 13 = .ok (.aload_n 0, 1) := by decide +kernel
theorem dX0_add_14 : decode cX0_add 14 = .ok (.getfield 9, 3) := by decide +kernel
theorem dX0_add_17 : decode cX0_add 17 = .ok (.iconst 2, 1) := by decide +kernel
theorem dX0_add_18 : decode cX0_add 18 = .ok (.aload_n 0, 1) := by decide +kernel
theorem dX0_add_19 : decode cX0_add 19 = .ok (.getfield 15, 3) := by decide +kernel
theorem dX0_add_22 : decode cX0_add 22 = .ok (.imul, 1) := by decide +kernel
theorem dX0_add_23 : decode cX0_add 23 = .ok (.iconst 1, 1) := by decide +kernel
theorem dX0_add_24 : decode cX0_add 24 = .ok (.iadd, 1) := by decide +kernel
theorem dX0_add_25 : decode cX0_add 25 = .ok (.invokestatic 19, 3) := by decide +kernel
theorem dX0_add_28 : decode cX0_add 28 = .ok (.putfield 9, 3) := by decide +kernel
theorem dX0_add_31 : decode cX0_add 31 = .ok (.aload_n 0, 1) := by decide +kernel
theorem dX0_add_32 : decode cX0_add 32 = .ok (.getfield 9, 3) := by decide +kernel
theorem dX0_add_35 : decode cX0_add 35 = .ok (.aload_n 0, 1) := by decide +kernel
theorem dX0_add_36 : decode cX0_add 36 = .ok (.getfield 15, 3) := by decide +kernel
theorem dX0_add_39 : decode cX0_add 39 = .ok (.iload_n 1, 1) := by decide +kernel
theorem dX0_add_40 : decode cX0_add 40 = .ok (.i2b, 1) := by decide +kernel
theorem dX0_add_41 : decode cX0_add 41 = .ok (.bastore, 1) := by decide +kernel
theorem dX0_add_42 : decode cX0_add 42 = .ok (.aload_n 0, 1) := by decide +kernel
theorem dX0_add_43 : decode cX0_add 43 = .ok (.dup, 1) := by decide +kernel
theorem dX0_add_44 : decode cX0_add 44 = .ok (.getfield 15, 3) := by decide +kernel
theorem dX0_add_47 : decode cX0_add 47 = .ok (.iconst 1, 1) := by decide +kernel
theorem dX0_add_48 : decode cX0_add 48 = .ok (.iadd, 1) := by decide +kernel
theorem dX0_add_49 : decode cX0_add 49 = .ok (.putfield 15, 3) := by decide +kernel
theorem dX0_add_52 : decode cX0_add 52 = .ok (.return_, 1) := by decide +kernel
set_option maxRecDepth 20000 in
theorem ggX0_addCount_X0_add : GoodIn wsX0_addCount wsX0_add := goodIn_r _ [6, 7, 8, 9, 10, 11, 12, 13, 14, 15, 16, 17, 18, 19, 20, 21, 22, 23, 24, 25, 26, 27, 28, 29] (by decide +kernel) (by decide +kernel)
set_option maxRecDepth 20000 in
theorem gX0_addCount_X0_add : GoodIn wsX0_addCount (wsV RX0 27 RX0 yX0_add wsX0_add) := goodIn_app (goodIn_of _ (by decide +kernel)) ggX0_addCount_X0_add
theorem dX0_addCount_0 : decode cX0_addCount 0 = .ok (.lload_n 1, 1) := by decide +kernel
theorem dX0_addCount_1 : decode cX0_addCount 1 = .ok (.lstore_n 3, 1) := by decide +kernel
theorem dX0_addCount_2 : decode cX0_addCount 2 = .ok (.iconst 1, 1) := by decide +kernel
theorem dX0_addCount_3 : decode cX0_addCount 3 = .ok (.istore 5, 2) := by decide +kernel
theorem dX0_addCount_5 : decode cX0_addCount 5 = .ok (.iload 5, 2) := by decide +kernel
theorem dX0_addCount_7 : decode cX0_addCount 7 = .ok (.bipush 9, 2) := by decide +kernel
theorem dX0_addCount_9 : decode cX0_addCount 9 = .ok (.if_icmp .ge 36, 3) := by decide +kernel
theorem dX0_addCount_12 : decode cX0_addCount 12 = .ok (.lload_n 3, 1) := by decide +kernel
theorem dX0_addCount_13 : decode cX0_addCount 13 = .ok (.ldc2_w 25, 3) := by decide +kernel
theorem dX0_addCount_16 : decode cX0_addCount 16 = .ok (.lcmp, 1) := by decide +kernel
theorem dX0_addCount_17 : decode cX0_addCount 17 = .ok (.ifCond .le 28, 3) := by decide +kernel
theorem dX0_addCount_20 : decode cX0_addCount 20 = .ok (.aload_n 0, 1) := by decide +kernel
theorem dX0_addCount_21 : decode cX0_addCount 21 = .ok (.lload_n 3, 1) := by decide +kernel
theorem dX0_addCount_22 : decode cX0_addCount 22 = .ok (.ldc2_w 25, 3) := by decide +kernel
theorem dX0_addCount_25 : decode cX0_addCount 25 = .ok (.land, 1) := by decide +kernel
theorem dX0_addCount_26 : decode cX0_addCount 26 = .ok (.l2i, 1) := by decide +kernel
theorem dX0_addCount_27 : decode cX0_addCount 27 = .ok (.sipush 128, 3) := by decide +kernel
theorem dX0_addCount_30 : decode cX0_addCount 30 = .ok (.ior, 1) := by decide +kernel
theorem dX0_addCount_31 : decode cX0_addCount 31 = .ok (.invokevirtual 27, 3) := by decide +kernel
theorem dX0_addCount_34 : decode cX0_addCount 34 = .ok (.lload_n 3, 1) := by decide +kernel
theorem dX0_addCount_35 : decode cX0_addCount 35 = .ok (.bipush 7, 2) := by decide +kernel
theorem dX0_addCount_37 : decode cX0_addCount 37 = .ok (.lushr, 1) := by decide +kernel
theorem dX0_addCount_38 : decode cX0_addCount 38 = .ok (.lstore_n 3, 1) := by decide +kernel
theorem dX0_addCount_39 : decode cX0_addCount 39 = .ok (.iinc 5 1, 3) := by decide +kernel
theorem dX0_addCount_42 : decode cX0_addCount 42 = .ok (.goto (-37), 3) := by decide +kernel
theorem dX0_addCount_45 : decode cX0_addCount 45 = .ok (.aload_n 0, 1) := by decide +kernel
theorem dX0_addCount_46 : decode cX0_addCount 46 = .ok (.lload_n 3, 1) := by decide +kernel
theorem dX0_addCount_47 : decode cX0_addCount 47 = .ok (.l2i, 1) := by decide +kernel
theorem dX0_addCount_48 : decode cX0_addCount 48 = .ok (.invokevirtual 27, 3) := by decide +kernel
theorem dX0_addCount_51 : decode cX0_addCount 51 = .ok (.return_, 1) := by decide +kernel
theorem dX0_cut_0 : decode cX0_cut 0 = .ok (.iload_n 1, 1) := by decide +kernel
theorem dX0_cut_1 : decode cX0_cut 1 = .ok (.ifCond .lt 16, 3) := by decide +kernel
theorem dX0_cut_4 : decode cX0_cut 4 = .ok (.iload_n 1, 1) := by decide +kernel
theorem dX0_cut_5 : decode cX0_cut 5 = .ok (.aload_n 0, 1) := by decide +kernel
theorem dX0_cut_6 : decode cX0_cut 6 = .ok (.getfield 15, 3) := by decide +kernel
theorem dX0_cut_9 : decode cX0_cut 9 = .ok (.if_icmp .gt 8, 3) := by decide +kernel
theorem dX0_cut_12 : decode cX0_cut 12 = .ok (.aload_n 0, 1) := by decide +kernel
theorem dX0_cut_13 : decode cX0_cut 13 = .ok (.iload_n 1, 1) := by decide +kernel
theorem dX0_cut_14 : decode cX0_cut 14 = .ok (.putfield 15, 3) := by decide +kernel
theorem dX0_cut_17 : decode cX0_cut 17 = .ok (.return_, 1) := by decide +kernel
theorem dX1_init_0 : decode cX1_init 0 = .ok (.aload_n 0, 1) := by decide +kernel
theorem dX1_init_1 : decode cX1_init 1 = .ok (.invokespecial 1, 3) := by decide +kernel
theorem dX1_init_4 : decode cX1_init 4 = .ok (.aload_n 0, 1) := by decide +kernel
theorem dX1_init_5 : decode cX1_init 5 = .ok (.iload_n 1, 1) := by decide +kernel
theorem dX1_init_6 : decode cX1_init 6 = .ok (.putfield 7, 3) := by decide +kernel
theorem dX1_init_9 : decode cX1_init 9 = .ok (.aload_n 0, 1) := by decide +kernel
theorem dX1_init_10 : decode cX1_init 10 = .ok (.iload_n 2, 1) := by decide +kernel
theorem dX1_init_11 : decode cX1_init 11 = .ok (.putfield 13, 3) := by decide +kernel
theorem dX1_init_14 : decode cX1_init 14 = .ok (.aload_n 0, 1) := by decide +kernel
theorem dX1_init_15 : decode cX1_init 15 = .ok (.iload_n 3, 1) := by decide +kernel
theorem dX1_init_16 : decode cX1_init 16 = .ok (.putfield 16, 3) := by decide +kernel
theorem dX1_init_19 : decode cX1_init 19 = .ok (.aload_n 0, 1) := by decide +kernel
theorem dX1_init_20 : decode cX1_init 20 = .ok (.iload 4, 2) := by decide +kernel
theorem dX1_init_22 : decode cX1_init 22 = .ok (.putfield 19, 3) := by decide +kernel
theorem dX1_init_25 : decode cX1_init 25 = .ok (.return_, 1) := by decide +kernel
theorem dX1_isOf_0 : decode cX1_isOf 0 = .ok (.aload_n 0, 1) := by decide +kernel
theorem dX1_isOf_1 : decode cX1_isOf 1 = .ok (.getfield 7, 3) := by decide +kernel
theorem dX1_isOf_4 : decode cX1_isOf 4 = .ok (.iload_n 1, 1) := by decide +kernel
theorem dX1_isOf_5 : decode cX1_isOf 5 = .ok (.if_icmp .ne 15, 3) := by decide +kernel
theorem dX1_isOf_8 : decode cX1_isOf 8 = .ok (.aload_n 0, 1) := by decide +kernel
theorem dX1_isOf_9 : decode cX1_isOf 9 = .ok (.getfield 13, 3) := by decide +kernel
theorem dX1_isOf_12 : decode cX1_isOf 12 = .ok (.iload_n 2, 1) := by decide +kernel
theorem dX1_isOf_13 : decode cX1_isOf 13 = .ok (.if_icmp .ne 7, 3) := by decide +kernel
theorem dX1_isOf_16 : decode cX1_isOf 16 = .ok (.iconst 1, 1) := by decide +kernel
theorem dX1_isOf_17 : decode cX1_isOf 17 = .ok (.goto 4, 3) := by decide +kernel
theorem dX1_isOf_20 : decode cX1_isOf 20 = .ok (.iconst 0, 1) := by decide +kernel
theorem dX1_isOf_21 : decode cX1_isOf 21 = .ok (.ireturn, 1) := by decide +kernel
theorem dX1_standsBefore_0 : decode cX1_standsBefore 0 = .ok (.aload_n 0, 1) := by decide +kernel
theorem dX1_standsBefore_1 : decode cX1_standsBefore 1 = .ok (.getfield 7, 3) := by decide +kernel
theorem dX1_standsBefore_4 : decode cX1_standsBefore 4 = .ok (.iload_n 1, 1) := by decide +kernel
theorem dX1_standsBefore_5 : decode cX1_standsBefore 5 = .ok (.if_icmp .lt 19, 3) := by decide +kernel
theorem dX1_standsBefore_8 : decode cX1_standsBefore 8 = .ok (.aload_n 0, 1) := by decide +kernel
theorem dX1_standsBefore_9 : decode cX1_standsBefore 9 = .ok (.getfield 7, 3) := by decide +kernel
theorem dX1_standsBefore_12 : decode cX1_standsBefore 12 = .ok (.iload_n 1, 1) := by decide +kernel
theorem dX1_standsBefore_13 : decode cX1_standsBefore 13 = .ok (.if_icmp .ne 15, 3) := by decide +kernel
theorem dX1_standsBefore_16 : decode cX1_standsBefore 16 = .ok (.aload_n 0, 1) := by decide +kernel
theorem dX1_standsBefore_17 : decode cX1_standsBefore 17 = .ok (.getfield 13, 3) := by decide +kernel
theorem dX1_standsBefore_20 : decode cX1_standsBefore 20 = .ok (.iload_n 2, 1) := by decide +kernel
theorem dX1_standsBefore_21 : decode cX1_standsBefore 21 = .ok (.if_icmp .ge 7, 3) := by decide +kernel
theorem dX1_standsBefore_24 : decode cX1_standsBefore 24 = .ok (.iconst 1, 1) := by decide +kernel
theorem dX1_standsBefore_25 : decode cX1_standsBefore 25 = .ok (.goto 4, 3) := by decide +kernel
theorem dX1_standsBefore_28 : decode cX1_standsBefore 28 = .ok (.iconst 0, 1) := by decide +kernel
theorem dX1_standsBefore_29 : decode cX1_standsBefore 29 = .ok (.ireturn, 1) := by decide +kernel
set_option maxRecDepth 20000 in
theorem ggX2_init_Jx4a65c_init_da8c8 : GoodIn wsX2_init wsJx4a65c_init_da8c8 := goodIn_r _ [13, 14, 15, 16, 17, 18, 19, 20, 21, 22, 23, 24, 25, 2, 3, 30, 31, 32] (by decide +kernel) (by decide +kernel)
set_option maxRecDepth 20000 in
theorem gX2_init_Jx4a65c_init_da8c8 : GoodIn wsX2_init (wsJx4a65c_init_da8c8) := ggX2_init_Jx4a65c_init_da8c8
theorem dX2_init_0 : decode cX2_init 0 = .ok (.aload_n 0, 1) := by decide +kernel
theorem dX2_init_1 : decode cX2_init 1 = .ok (.invokespecial 3, 3) := by decide +kernel
theorem dX2_init_4 : decode cX2_init 4 = .ok (.aload_n 0, 1) := by decide +kernel
theorem dX2_init_5 : decode cX2_init 5 = .ok (.lload_n 1, 1) := by decide +kernel
theorem dX2_init_6 : decode cX2_init 6 = .ok (.putfield 9, 3) := by decide +kernel
theorem dX2_init_9 : decode cX2_init 9 = .ok (.aload_n 0, 1) := by decide +kernel
theorem dX2_init_10 : decode cX2_init 10 = .ok (.lload_n 3, 1) := by decide +kernel
theorem dX2_init_11 : decode cX2_init 11 = .ok (.putfield 15, 3) := by decide +kernel
theorem dX2_init_14 : decode cX2_init 14 = .ok (.aload_n 0, 1) := by decide +kernel
theorem dX2_init_15 : decode cX2_init 15 = .ok (.new 18, 3) := by decide +kernel
theorem dX2_init_18 : decode cX2_init 18 = .ok (.dup, 1) := by decide +kernel
theorem dX2_init_19 : decode cX2_init 19 = .ok (.invokespecial 20, 3) := by decide +kernel
theorem dX2_init_22 : decode cX2_init 22 = .ok (.putfield 21, 3) := by decide +kernel
theorem dX2_init_25 : decode cX2_init 25 = .ok (.aload_n 0, 1) := by decide +kernel
theorem dX2_init_26 : decode cX2_init 26 = .ok (.iconst (-1), 1) := by decide +kernel
theorem dX2_init_27 : decode cX2_init 27 = .ok (.putfield 25, 3) := by decide +kernel
theorem dX2_init_30 : decode cX2_init 30 = .ok (.return_, 1) := by decide +kernel
theorem dX2_isLaterThan_0 : decode cX2_isLaterThan 0 = .ok (.aload_n 0, 1) := by decide +kernel
theorem dX2_isLaterThan_1 : decode cX2_isLaterThan 1 = .ok (.getfield 9, 3) := by decide +kernel
theorem dX2_isLaterThan_4 : decode cX2_isLaterThan 4 = .ok (.lload_n 1, 1) := by decide +kernel
theorem dX2_isLaterThan_5 : decode cX2_isLaterThan 5 = .ok (.lcmp, 1) := by decide +kernel
theorem dX2_isLaterThan_6 : decode cX2_isLaterThan 6 = .ok (.ifCond .gt 21, 3) := by decide +kernel
theorem dX2_isLaterThan_9 : decode cX2_isLaterThan 9 = .ok (.aload_n 0, 1) := by decide +kernel
theorem dX2_isLaterThan_10 : decode cX2_isLaterThan 10 = .ok (.getfield 9, 3) := by decide +kernel
theorem dX2_isLaterThan_13 : decode cX2_isLaterThan 13 = .ok (.lload_n 1, 1) := by decide +kernel
theorem dX2_isLaterThan_14 : decode cX2_isLaterThan 14 = .ok (.lcmp, 1) := by decide +kernel
theorem dX2_isLaterThan_15 : decode cX2_isLaterThan 15 = .ok (.ifCond .ne 16, 3) := by decide +kernel
theorem dX2_isLaterThan_18 : decode cX2_isLaterThan 18 = .ok (.aload_n 0, 1) := by decide +kernel
theorem dX2_isLaterThan_19 : decode cX2_isLaterThan 19 = .ok (.getfield 15, 3) := by decide +kernel
theorem dX2_isLaterThan_22 : decode cX2_isLaterThan 22 = .ok (.lload_n 3, 1) := by decide +kernel
theorem dX2_isLaterThan_23 : decode cX2_isLaterThan 23 = .ok (.lcmp, 1) := by decide +kernel
theorem dX2_isLaterThan_24 : decode cX2_isLaterThan 24 = .ok (.ifCond .le 7, 3) := by decide +kernel
theorem dX2_isLaterThan_27 : decode cX2_isLaterThan 27 = .ok (.iconst 1, 1) := by decide +kernel
theorem dX2_isLaterThan_28 : decode cX2_isLaterThan 28 = .ok (.goto 4, 3) := by decide +kernel
theorem dX2_isLaterThan_31 : decode cX2_isLaterThan 31 = .ok (.iconst 0, 1) := by decide +kernel
theorem dX2_isLaterThan_32 : decode cX2_isLaterThan 32 = .ok (.ireturn, 1) := by decide +kernel
set_option maxRecDepth 20000 in
theorem ggX2_changesWire_X2_indexFor : GoodIn wsX2_changesWire wsX2_indexFor := goodIn_r _ [7, 1, 2, 8, 9, 10, 11, 12, 13, 14, 15, 16, 17, 18, 19, 20, 21, 22, 23, 24, 25, 26, 27, 28, 29, 30, 31, 32, 33, 34, 35, 36, 37, 38, 39, 40, 41, 46, 47, 48, 42, 43, 44, 45] (by decide +kernel) (by decide +kernel)
set_option maxRecDepth 20000 in
theorem gX2_changesWire_X2_indexFor : GoodIn wsX2_changesWire (wsV RX2 29 RX2 yX2_indexFor wsX2_indexFor) := goodIn_app (goodIn_of _ (by decide +kernel)) ggX2_changesWire_X2_indexFor
set_option maxRecDepth 20000 in
theorem ggX2_changesWire_Jx4a65c_size_8abf5 : GoodIn wsX2_changesWire wsJx4a65c_size_8abf5 := goodIn_r _ [12, 13, 46, 47, 48] (by decide +kernel) (by decide +kernel)
set_option maxRecDepth 20000 in
theorem gX2_changesWire_Jx4a65c_size_8abf5 : GoodIn wsX2_changesWire (wsV RX2 33 RJx4a65c yJx4a65c_size_8abf5 wsJx4a65c_size_8abf5) := goodIn_app (goodIn_of _ (by decide +kernel)) ggX2_changesWire_Jx4a65c_size_8abf5
set_option maxRecDepth 20000 in
theorem ggX2_changesWire_Jx4a65c_get_915e3 : GoodIn wsX2_changesWire wsJx4a65c_get_915e3 := goodIn_r _ [17, 13, 18, 19, 20, 21, 22, 23, 24, 25, 26, 27, 28, 11, 29, 30, 46, 47, 48] (by decide +kernel) (by decide +kernel)
set_option maxRecDepth 20000 in
theorem gX2_changesWire_Jx4a65c_get_915e3 : GoodIn wsX2_changesWire (wsV RX2 37 RJx4a65c yJx4a65c_get_915e3 wsJx4a65c_get_915e3) := goodIn_app (goodIn_of _ (by decide +kernel)) ggX2_changesWire_Jx4a65c_get_915e3
theorem dX2_changesWire_0 : decode cX2_changesWire 0 = .ok (.aload_n 0, 1) := by decide +kernel
theorem dX2_changesWire_1 : decode cX2_changesWire 1 = .ok (.iload_n 1, 1) := by decide +kernel
theorem dX2_changesWire_2 : decode cX2_changesWire 2 = .ok (.iconst 0, 1) := by decide +kernel
theorem dX2_changesWire_3 : decode cX2_changesWire 3 = .ok (.invokevirtual 29, 3) := by decide +kernel
theorem dX2_changesWire_6 : decode cX2_changesWire 6 = .ok (.istore_n 2, 1) := by decide +kernel
theorem dX2_changesWire_7 : decode cX2_changesWire 7 = .ok (.iload_n 2, 1) := by decide +kernel
theorem dX2_changesWire_8 : decode cX2_changesWire 8 = .ok (.aload_n 0, 1) := by decide +kernel
theorem dX2_changesWire_9 : decode cX2_changesWire 9 = .ok (.getfield 21, 3) := by decide +kernel
theorem dX2_changesWire_12 : decode cX2_changesWire 12 = .ok (.invokevirtual 33, 3) := by decide +kernel
theorem dX2_changesWire_15 : decode cX2_changesWire 15 = .ok (.if_icmp .ge 25, 3) := by decide +kernel
theorem dX2_changesWire_18 : decode cX2_changesWire 18 = .ok (.aload_n 0, 1) := by decide +kernel
theorem dX2_changesWire_19 : decode cX2_changesWire 19 = .ok (.getfield 21, 3) := by decide +kernel
theorem dX2_changesWire_22 : decode cX2_changesWire 22 = .ok (.iload_n 2, 1) := by decide +kernel
theorem dX2_changesWire_23 : decode cX2_changesWire 23 = .ok (.invokevirtual 37, 3) := by decide +kernel
theorem dX2_changesWire_26 : decode cX2_changesWire 26 = .ok (.checkcast 41, 3) := by decide +kernel
theorem dX2_changesWire_29 : decode cX2_changesWire 29 = .ok (.getfield 43, 3) := by decide +kernel
theorem dX2_changesWire_32 : decode cX2_changesWire 32 = .ok (.iload_n 1, 1) := by decide +kernel
theorem dX2_changesWire_33 : decode cX2_changesWire 33 = .ok (.if_icmp .ne 7, 3) := by decide +kernel
theorem dX2_changesWire_36 : decode cX2_changesWire 36 = .ok (.iconst 1, 1) := by decide +kernel
theorem dX2_changesWire_37 : decode cX2_changesWire 37 = .ok (.goto 4, 3) := by decide +kernel
theorem dX2_changesWire_40 : decode cX2_changesWire 40 = .ok (.iconst 0, 1) := by decide +kernel
theorem dX2_changesWire_41 : decode cX2_changesWire 41 = .ok (.ireturn, 1) := by decide +kernel
set_option maxRecDepth 20000 in
theorem ggX2_valueBehind_X2_indexFor : GoodIn wsX2_valueBehind wsX2_indexFor := goodIn_r _ [7, 1, 2, 8, 9, 10, 11, 12, 13, 14, 15, 16, 17, 18, 19, 20, 21, 22, 23, 24, 25, 26, 27, 28, 29, 30, 31, 32, 33, 34, 35, 36, 37, 46, 47, 48, 49, 54, 55, 56, 50, 51, 52, 53] (by decide +kernel) (by decide +kernel)
set_option maxRecDepth 20000 in
theorem gX2_valueBehind_X2_indexFor : GoodIn wsX2_valueBehind (wsV RX2 29 RX2 yX2_indexFor wsX2_indexFor) := goodIn_app (goodIn_of _ (by decide +kernel)) ggX2_valueBehind_X2_indexFor
set_option maxRecDepth 20000 in
theorem ggX2_valueBehind_X2_isChangeOf : GoodIn wsX2_valueBehind wsX2_isChangeOf := goodIn_r _ [41, 1, 2, 8, 9, 10, 11, 12, 13, 14, 15, 16, 17, 18, 19, 20, 21, 22, 23, 24, 25, 26, 27, 28, 29, 30, 42, 43, 44, 34, 45, 36, 37, 46, 47, 48, 49, 54, 55, 56, 50, 51, 52, 53] (by decide +kernel) (by decide +kernel)
set_option maxRecDepth 20000 in
theorem gX2_valueBehind_X2_isChangeOf : GoodIn wsX2_valueBehind (wsV RX2 46 RX2 yX2_isChangeOf wsX2_isChangeOf) := goodIn_app (goodIn_of _ (by decide +kernel)) ggX2_valueBehind_X2_isChangeOf
set_option maxRecDepth 20000 in
theorem ggX2_valueBehind_Jx4a65c_get_915e3 : GoodIn wsX2_valueBehind wsJx4a65c_get_915e3 := goodIn_r _ [17, 13, 18, 19, 20, 21, 22, 23, 24, 25, 26, 27, 28, 11, 29, 30, 54, 55, 56] (by decide +kernel) (by decide +kernel)
set_option maxRecDepth 20000 in
theorem gX2_valueBehind_Jx4a65c_get_915e3 : GoodIn wsX2_valueBehind (wsV RX2 37 RJx4a65c yJx4a65c_get_915e3 wsJx4a65c_get_915e3) := goodIn_app (goodIn_of _ (by decide +kernel)) ggX2_valueBehind_Jx4a65c_get_915e3
theorem dX2_valueBehind_0 : decode cX2_valueBehind 0 = .ok (.aload_n 0, 1) := by decide +kernel
theorem dX2_valueBehind_1 : decode cX2_valueBehind 1 = .ok (.iload_n 1, 1) := by decide +kernel
theorem dX2_valueBehind_2 : decode cX2_valueBehind 2 = .ok (.iload_n 2, 1) := by decide +kernel
theorem dX2_valueBehind_3 : decode cX2_valueBehind 3 = .ok (.invokevirtual 29, 3) := by decide +kernel
theorem dX2_valueBehind_6 : decode cX2_valueBehind 6 = .ok (.istore 4, 2) := by decide +kernel
theorem dX2_valueBehind_8 : decode cX2_valueBehind 8 = .ok (.aload_n 0, 1) := by decide +kernel
theorem dX2_valueBehind_9 : decode cX2_valueBehind 9 = .ok (.iload 4, 2) := by decide +kernel
theorem dX2_valueBehind_11 : decode cX2_valueBehind 11 = .ok (.iload_n 1, 1) := by decide +kernel
theorem dX2_valueBehind_12 : decode cX2_valueBehind 12 = .ok (.iload_n 2, 1) := by decide +kernel
theorem dX2_valueBehind_13 : decode cX2_valueBehind 13 = .ok (.invokevirtual 46, 3) := by decide +kernel
theorem dX2_valueBehind_16 : decode cX2_valueBehind 16 = .ok (.ifCond .eq 21, 3) := by decide +kernel
theorem dX2_valueBehind_19 : decode cX2_valueBehind 19 = .ok (.aload_n 0, 1) := by decide +kernel
theorem dX2_valueBehind_20 : decode cX2_valueBehind 20 = .ok (.getfield 21, 3) := by decide +kernel
theorem dX2_valueBehind_23 : decode cX2_valueBehind 23 = .ok (.iload 4, 2) := by decide +kernel
theorem dX2_valueBehind_25 : decode cX2_valueBehind 25 = .ok (.invokevirtual 37, 3) := by decide +kernel
theorem dX2_valueBehind_28 : decode cX2_valueBehind 28 = .ok (.checkcast 41, 3) := by decide +kernel
theorem dX2_valueBehind_31 : decode cX2_valueBehind 31 = .ok (.getfield 50, 3) := by decide +kernel
theorem dX2_valueBehind_34 : decode cX2_valueBehind 34 = .ok (.goto 4, 3) := by decide +kernel
theorem dX2_valueBehind_37 : decode cX2_valueBehind 37 = .ok (.iload_n 3, 1) := by decide +kernel
theorem dX2_valueBehind_38 : decode cX2_valueBehind 38 = .ok (.ireturn, 1) := by decide +kernel
set_option maxRecDepth 20000 in
theorem ggX2_put_X2_indexFor : GoodIn wsX2_put wsX2_indexFor := goodIn_r _ [10, 1, 2, 11, 12, 13, 14, 15, 16, 17, 18, 19, 20, 21, 22, 23, 24, 25, 26, 27, 28, 29, 30, 31, 32, 33, 34, 35, 36, 5, 37, 38, 39, 122, 123, 124, 125, 130, 131, 132, 126, 127, 128, 129] (by decide +kernel) (by decide +kernel)
set_option maxRecDepth 20000 in
theorem gX2_put_X2_indexFor : GoodIn wsX2_put (wsV RX2 29 RX2 yX2_indexFor wsX2_indexFor) := goodIn_app (goodIn_of _ (by decide +kernel)) ggX2_put_X2_indexFor
set_option maxRecDepth 20000 in
theorem ggX2_put_X2_isChangeOf : GoodIn wsX2_put wsX2_isChangeOf := goodIn_r _ [43, 1, 2, 11, 12, 13, 14, 15, 16, 17, 18, 19, 20, 21, 22, 23, 24, 25, 26, 27, 28, 29, 30, 31, 32, 33, 44, 45, 46, 5, 47, 38, 39, 122, 123, 124, 125, 130, 131, 132, 126, 127, 128, 129] (by decide +kernel) (by decide +kernel)
set_option maxRecDepth 20000 in
theorem gX2_put_X2_isChangeOf : GoodIn wsX2_put (wsV RX2 46 RX2 yX2_isChangeOf wsX2_isChangeOf) := goodIn_app (goodIn_of _ (by decide +kernel)) ggX2_put_X2_isChangeOf
set_option maxRecDepth 20000 in
theorem ggX2_put_Jx4a65c_get_915e3 : GoodIn wsX2_put wsJx4a65c_get_915e3 := goodIn_r _ [20, 16, 21, 22, 23, 24, 25, 26, 27, 28, 29, 30, 31, 14, 32, 33, 130, 131, 132] (by decide +kernel) (by decide +kernel)
set_option maxRecDepth 20000 in
theorem gX2_put_Jx4a65c_get_915e3 : GoodIn wsX2_put (wsV RX2 37 RJx4a65c yJx4a65c_get_915e3 wsJx4a65c_get_915e3) := goodIn_app (goodIn_of _ (by decide +kernel)) ggX2_put_Jx4a65c_get_915e3
set_option maxRecDepth 20000 in
theorem ggX2_put_X1_init : GoodIn wsX2_put wsX1_init := goodIn_r _ [50, 51, 52, 53, 38, 39, 54, 55, 126, 127, 128, 129] (by decide +kernel) (by decide +kernel)
set_option maxRecDepth 20000 in
theorem gX2_put_X1_init : GoodIn wsX2_put (wsX1_init) := ggX2_put_X1_init
set_option maxRecDepth 20000 in
theorem ggX2_put_Jx4a65c_add_7a177 : GoodIn wsX2_put wsJx4a65c_add_7a177 := goodIn_r _ [59, 60, 61, 16, 33, 62, 63, 64, 65, 66, 67, 68, 14, 69, 70, 71, 72, 73, 74, 75, 76, 77, 78, 79, 80, 81, 82, 83, 84, 85, 86, 87, 88, 89, 90, 91, 92, 93, 94, 95, 96, 97, 98, 99, 100, 101, 102, 103, 104, 105, 106, 107, 108, 109, 130, 131, 132] (by decide +kernel) (by decide +kernel)
set_option maxRecDepth 20000 in
theorem gX2_put_Jx4a65c_add_7a177 : GoodIn wsX2_put (wsV RX2 56 RJx4a65c yJx4a65c_add_7a177 wsJx4a65c_add_7a177) := goodIn_app (goodIn_of _ (by decide +kernel)) ggX2_put_Jx4a65c_add_7a177
set_option maxRecDepth 20000 in
theorem ggX2_put_Jx4a65c_remove_915e3 : GoodIn wsX2_put wsJx4a65c_remove_915e3 := goodIn_r _ [113, 16, 33, 21, 22, 23, 24, 25, 26, 27, 28, 114, 115, 116, 14, 117, 60, 61, 62, 63, 64, 65, 130, 131, 132] (by decide +kernel) (by decide +kernel)
set_option maxRecDepth 20000 in
theorem gX2_put_Jx4a65c_remove_915e3 : GoodIn wsX2_put (wsV RX2 60 RJx4a65c yJx4a65c_remove_915e3 wsJx4a65c_remove_915e3) := goodIn_app (goodIn_of _ (by decide +kernel)) ggX2_put_Jx4a65c_remove_915e3
set_option maxRecDepth 20000 in
theorem ggX2_put_Jx4a65c_set_bcc79 : GoodIn wsX2_put wsJx4a65c_set_bcc79 := goodIn_r _ [121, 16, 33, 21, 22, 23, 24, 25, 26, 27, 28, 29, 30, 31, 14, 32, 130, 131, 132] (by decide +kernel) (by decide +kernel)
set_option maxRecDepth 20000 in
theorem gX2_put_Jx4a65c_set_bcc79 : GoodIn wsX2_put (wsV RX2 63 RJx4a65c yJx4a65c_set_bcc79 wsJx4a65c_set_bcc79) := goodIn_app (goodIn_of _ (by decide +kernel)) ggX2_put_Jx4a65c_set_bcc79
theorem dX2_put_0 : decode cX2_put 0 = .ok (.aload_n 0, 1) := by decide +kernel
theorem dX2_put_1 : decode cX2_put 1 = .ok (.iload_n 1, 1) := by decide +kernel
theorem dX2_put_2 : decode cX2_put 2 = .ok (.iload_n 2, 1) := by decide +kernel
theorem dX2_put_3 : decode cX2_put 3 = .ok (.invokevirtual 29, 3) := by decide +kernel
theorem dX2_put_6 : decode cX2_put 6 = .ok (.istore 5, 2) := by decide +kernel
theorem dX2_put_8 : decode cX2_put 8 = .ok (.aload_n 0, 1) := by decide +kernel
theorem dX2_put_9 : decode cX2_put 9 = .ok (.iload 5, 2) := by decide +kernel
theorem dX2_put_11 : decode cX2_put 11 = .ok (.iload_n 1, 1) := by decide +kernel
theorem dX2_put_12 : decode cX2_put 12 = .ok (.iload_n 2, 1) := by decide +kernel
theorem dX2_put_13 : decode cX2_put 13 = .ok (.invokevirtual 46, 3) := by decide +kernel
theorem dX2_put_16 : decode cX2_put 16 = .ok (.istore 6, 2) := by decide +kernel
theorem dX2_put_18 : decode cX2_put 18 = .ok (.iload 6, 2) := by decide +kernel
theorem dX2_put_20 : decode cX2_put 20 = .ok (.ifCond .eq 21, 3) := by decide +kernel
theorem dX2_put_23 : decode cX2_put 23 = .ok (.aload_n 0, 1) := by decide +kernel
theorem dX2_put_24 : decode cX2_put 24 = .ok (.getfield 21, 3) := by decide +kernel
theorem dX2_put_27 : decode cX2_put 27 = .ok (.iload 5, 2) := by decide +kernel
theorem dX2_put_29 : decode cX2_put 29 = .ok (.invokevirtual 37, 3) := by decide +kernel
theorem dX2_put_32 : decode cX2_put 32 = .ok (.checkcast 41, 3) := by decide +kernel
theorem dX2_put_35 : decode cX2_put 35 = .ok (.getfield 50, 3) := by decide +kernel
theorem dX2_put_38 : decode cX2_put 38 = .ok (.goto 5, 3) := by decide +kernel
theorem dX2_put_41 : decode cX2_put 41 = .ok (.iload 4, 2) := by decide +kernel
theorem dX2_put_43 : decode cX2_put 43 = .ok (.istore 7, 2) := by decide +kernel
theorem dX2_put_45 : decode cX2_put 45 = .ok (.iload_n 3, 1) := by decide +kernel
theorem dX2_put_46 : decode cX2_put 46 = .ok (.iload 7, 2) := by decide +kernel
theorem dX2_put_48 : decode cX2_put 48 = .ok (.if_icmp .ne 5, 3) := by decide +kernel
theorem dX2_put_51 : decode cX2_put 51 = .ok (.iconst 0, 1) := by decide +kernel
theorem dX2_put_52 : decode cX2_put 52 = .ok (.ireturn, 1) := by decide +kernel
theorem dX2_put_53 : decode cX2_put 53 = .ok (.iload 6, 2) := by decide +kernel
theorem dX2_put_55 : decode cX2_put 55 = .ok (.ifCond .ne 27, 3) := by decide +kernel
theorem dX2_put_58 : decode cX2_put 58 = .ok (.aload_n 0, 1) := by decide +kernel
theorem dX2_put_59 : decode cX2_put 59 = .ok (.getfield 21, 3) := by decide +kernel
theorem dX2_put_62 : decode cX2_put 62 = .ok (.iload 5, 2) := by decide +kernel
theorem dX2_put_64 : decode cX2_put 64 = .ok (.new 41, 3) := by decide +kernel
theorem dX2_put_67 : decode cX2_put 67 = .ok (.dup, 1) := by decide +kernel
theorem dX2_put_68 : decode cX2_put 68 = .ok (.iload_n 1, 1) := by decide +kernel
theorem dX2_put_69 : decode cX2_put 69 = .ok (.iload_n 2, 1) := by decide +kernel
theorem dX2_put_70 : decode cX2_put 70 = .ok (.iload_n 3, 1) := by decide +kernel
theorem dX2_put_71 : decode cX2_put 71 = .ok (.iload 4, 2) := by decide +kernel
theorem dX2_put_73 : decode cX2_put 73 = .ok (.invokespecial 53, 3) := by decide +kernel
theorem dX2_put_76 : decode cX2_put 76 = .ok (.invokevirtual 56, 3) := by decide +kernel
theorem dX2_put_79 : decode cX2_put 79 = .ok (.goto 44, 3) := by decide +kernel
theorem dX2_put_82 : decode cX2_put 82 = .ok (.iload_n 3, 1) := by decide +kernel
theorem dX2_put_83 : decode cX2_put 83 = .ok (.iload 4, 2) := by decide +kernel
theorem dX2_put_85 : decode cX2_put 85 = .ok (.if_icmp .ne 16, 3) := by decide +kernel
theorem dX2_put_88 : decode cX2_put 88 = .ok (.aload_n 0, 1) := by decide +kernel
theorem dX2_put_89 : decode cX2_put 89 = .ok (.getfield 21, 3) := by decide +kernel
theorem dX2_put_92 : decode cX2_put 92 = .ok (.iload 5, 2) := by decide +kernel
theorem dX2_put_94 : decode cX2_put 94 = .ok (.invokevirtual 60, 3) := by decide +kernel
theorem dX2_put_97 : decode cX2_put 97 = .ok (.pop, 1) := by decide +kernel
theorem dX2_put_98 : decode cX2_put 98 = .ok (.goto 25, 3) := by decide +kernel
theorem dX2_put_101 : decode cX2_put 101 = .ok (.aload_n 0, 1) := by decide +kernel
theorem dX2_put_102 : decode cX2_put 102 = .ok (.getfield 21, 3) := by decide +kernel
theorem dX2_put_105 : decode cX2_put 105 = .ok (.iload 5, 2) := by decide +kernel
theorem dX2_put_107 : decode cX2_put 107 = .ok (.new 41, 3) := by decide +kernel
theorem dX2_put_110 : decode cX2_put 110 = .ok (.dup, 1) := by decide +kernel
theorem dX2_put_111 : decode cX2_put 111 = .ok (.iload_n 1, 1) := by decide +kernel
theorem dX2_put_112 : decode cX2_put 112 = .ok (.iload_n 2, 1) := by decide +kernel
theorem dX2_put_113 : decode cX2_put 113 = .ok (.iload_n 3, 1) := by decide +kernel
theorem dX2_put_114 : decode cX2_put 114 = .ok (.iload 4, 2) := by decide +kernel
theorem dX2_put_116 : decode cX2_put 116 = .ok (.invokespecial 53, 3) := by decide +kernel
theorem dX2_put_119 : decode cX2_put 119 = .ok (.invokevirtual 63, 3) := by decide +kernel
theorem dX2_put_122 : decode cX2_put 122 = .ok (.pop, 1) := by decide +kernel
theorem dX2_put_123 : decode cX2_put 123 = .ok (.iconst 1, 1) := by decide +kernel
theorem dX2_put_124 : decode cX2_put 124 = .ok (.ireturn, 1) := by decide +kernel
set_option maxRecDepth 20000 in
theorem ggX2_indexFor_Jx4a65c_size_8abf5 : GoodIn wsX2_indexFor wsJx4a65c_size_8abf5 := goodIn_r _ [7, 8, 37, 38, 39] (by decide +kernel) (by decide +kernel)
set_option maxRecDepth 20000 in
theorem gX2_indexFor_Jx4a65c_size_8abf5 : GoodIn wsX2_indexFor (wsV RX2 33 RJx4a65c yJx4a65c_size_8abf5 wsJx4a65c_size_8abf5) := goodIn_app (goodIn_of _ (by decide +kernel)) ggX2_indexFor_Jx4a65c_size_8abf5
set_option maxRecDepth 20000 in
theorem ggX2_indexFor_Jx4a65c_get_915e3 : GoodIn wsX2_indexFor wsJx4a65c_get_915e3 := goodIn_r _ [12, 8, 13, 14, 15, 16, 17, 18, 19, 20, 21, 22, 23, 6, 24, 25, 37, 38, 39] (by decide +kernel) (by decide +kernel)
set_option maxRecDepth 20000 in
theorem gX2_indexFor_Jx4a65c_get_915e3 : GoodIn wsX2_indexFor (wsV RX2 37 RJx4a65c yJx4a65c_get_915e3 wsJx4a65c_get_915e3) := goodIn_app (goodIn_of _ (by decide +kernel)) ggX2_indexFor_Jx4a65c_get_915e3
set_option maxRecDepth 20000 in
theorem ggX2_indexFor_X1_standsBefore : GoodIn wsX2_indexFor wsX1_standsBefore := goodIn_r _ [30, 31, 32, 40, 41, 42, 43] (by decide +kernel) (by decide +kernel)
set_option maxRecDepth 20000 in
theorem gX2_indexFor_X1_standsBefore : GoodIn wsX2_indexFor (wsV RX2 67 RX1 yX1_standsBefore wsX1_standsBefore) := goodIn_app (goodIn_of _ (by decide +kernel)) ggX2_indexFor_X1_standsBefore
theorem dX2_indexFor_0 : decode cX2_indexFor 0 = .ok (.iconst 0, 1) := by decide +kernel
theorem dX2_indexFor_1 : decode cX2_indexFor 1 = .ok (.istore_n 3, 1) := by decide +kernel
theorem dX2_indexFor_2 : decode cX2_indexFor 2 = .ok (.iload_n 3, 1) := by decide +kernel
theorem dX2_indexFor_3 : decode cX2_indexFor 3 = .ok (.aload_n 0, 1) := by decide +kernel
theorem dX2_indexFor_4 : decode cX2_indexFor 4 = .ok (.getfield 21, 3) := by decide +kernel
theorem dX2_indexFor_7 : decode cX2_indexFor 7 = .ok (.invokevirtual 33, 3) := by decide +kernel
theorem dX2_indexFor_10 : decode cX2_indexFor 10 = .ok (.if_icmp .ge 30, 3) := by decide +kernel
theorem dX2_indexFor_13 : decode cX2_indexFor 13 = .ok (.aload_n 0, 1) := by decide +kernel
theorem dX2_indexFor_14 : decode cX2_indexFor 14 = .ok (.getfield 21, 3) := by decide +kernel
theorem dX2_indexFor_17 : decode cX2_indexFor 17 = .ok (.iload_n 3, 1) := by decide +kernel
theorem dX2_indexFor_18 : decode cX2_indexFor 18 = .ok (.invokevirtual 37, 3) := by decide +kernel
theorem dX2_indexFor_21 : decode cX2_indexFor 21 = .ok (.checkcast 41, 3) := by decide +kernel
theorem dX2_indexFor_24 : decode cX2_indexFor 24 = .ok (.iload_n 1, 1) := by decide +kernel
theorem dX2_indexFor_25 : decode cX2_indexFor 25 = .ok (.iload_n 2, 1) := by decide +kernel
theorem dX2_indexFor_26 : decode cX2_indexFor 26 = .ok (.invokevirtual 67, 3) := by decide +kernel
theorem dX2_indexFor_29 : decode cX2_indexFor 29 = .ok (.ifCond .ne 5, 3) := by decide +kernel
theorem dX2_indexFor_32 : decode cX2_indexFor 32 = .ok (.iload_n 3, 1) := by decide +kernel
theorem dX2_indexFor_33 : decode cX2_indexFor 33 = .ok (.ireturn, 1) := by decide +kernel
theorem dX2_indexFor_34 : decode cX2_indexFor 34 = .ok (.iinc 3 1, 3) := by decide +kernel
theorem dX2_indexFor_37 : decode cX2_indexFor 37 = .ok (.goto (-35), 3) := by decide +kernel
theorem dX2_indexFor_40 : decode cX2_indexFor 40 = .ok (.aload_n 0, 1) := by decide +kernel
theorem dX2_indexFor_41 : decode cX2_indexFor 41 = .ok (.getfield 21, 3) := by decide +kernel
theorem dX2_indexFor_44 : decode cX2_indexFor 44 = .ok (.invokevirtual 33, 3) := by decide +kernel
theorem dX2_indexFor_47 : decode cX2_indexFor 47 = .ok (.ireturn, 1) := by decide +kernel
set_option maxRecDepth 20000 in
theorem ggX2_isChangeOf_Jx4a65c_size_8abf5 : GoodIn wsX2_isChangeOf wsJx4a65c_size_8abf5 := goodIn_r _ [7, 8, 37, 38, 39] (by decide +kernel) (by decide +kernel)
set_option maxRecDepth 20000 in
theorem gX2_isChangeOf_Jx4a65c_size_8abf5 : GoodIn wsX2_isChangeOf (wsV RX2 33 RJx4a65c yJx4a65c_size_8abf5 wsJx4a65c_size_8abf5) := goodIn_app (goodIn_of _ (by decide +kernel)) ggX2_isChangeOf_Jx4a65c_size_8abf5
set_option maxRecDepth 20000 in
theorem ggX2_isChangeOf_Jx4a65c_get_915e3 : GoodIn wsX2_isChangeOf wsJx4a65c_get_915e3 := goodIn_r _ [12, 8, 13, 14, 15, 16, 17, 18, 19, 20, 21, 22, 23, 6, 24, 25, 37, 38, 39] (by decide +kernel) (by decide +kernel)
set_option maxRecDepth 20000 in
theorem gX2_isChangeOf_Jx4a65c_get_915e3 : GoodIn wsX2_isChangeOf (wsV RX2 37 RJx4a65c yJx4a65c_get_915e3 wsJx4a65c_get_915e3) := goodIn_app (goodIn_of _ (by decide +kernel)) ggX2_isChangeOf_Jx4a65c_get_915e3
set_option maxRecDepth 20000 in
theorem ggX2_isChangeOf_X1_isOf : GoodIn wsX2_isChangeOf wsX1_isOf := goodIn_r _ [30, 31, 32, 40, 41, 42, 43] (by decide +kernel) (by decide +kernel)
set_option maxRecDepth 20000 in
theorem gX2_isChangeOf_X1_isOf : GoodIn wsX2_isChangeOf (wsV RX2 71 RX1 yX1_isOf wsX1_isOf) := goodIn_app (goodIn_of _ (by decide +kernel)) ggX2_isChangeOf_X1_isOf
theorem dX2_isChangeOf_0 : decode cX2_isChangeOf 0 = .ok (.iload_n 1, 1) := by decide +kernel
theorem dX2_isChangeOf_1 : decode cX2_isChangeOf 1 = .ok (.aload_n 0, 1) := by decide +kernel
theorem dX2_isChangeOf_2 : decode cX2_isChangeOf 2 = .ok (.getfield 21, 3) := by decide +kernel
theorem dX2_isChangeOf_5 : decode cX2_isChangeOf 5 = .ok (.invokevirtual 33, 3) := by decide +kernel
theorem dX2_isChangeOf_8 : decode cX2_isChangeOf 8 = .ok (.if_icmp .ge 26, 3) := by decide +kernel
theorem dX2_isChangeOf_11 : decode cX2_isChangeOf 11 = .ok (.aload_n 0, 1) := by decide +kernel
theorem dX2_isChangeOf_12 : decode cX2_isChangeOf 12 = .ok (.getfield 21, 3) := by decide +kernel
theorem dX2_isChangeOf_15 : decode cX2_isChangeOf 15 = .ok (.iload_n 1, 1) := by decide +kernel
theorem dX2_isChangeOf_16 : decode cX2_isChangeOf 16 = .ok (.invokevirtual 37, 3) := by decide +kernel
theorem dX2_isChangeOf_19 : decode cX2_isChangeOf 19 = .ok (.checkcast 41, 3) := by decide +kernel
theorem dX2_isChangeOf_22 : decode cX2_isChangeOf 22 = .ok (.iload_n 2, 1) := by decide +kernel
theorem dX2_isChangeOf_23 : decode cX2_isChangeOf 23 = .ok (.iload_n 3, 1) := by decide +kernel
theorem dX2_isChangeOf_24 : decode cX2_isChangeOf 24 = .ok (.invokevirtual 71, 3) := by decide +kernel
theorem dX2_isChangeOf_27 : decode cX2_isChangeOf 27 = .ok (.ifCond .eq 7, 3) := by decide +kernel
theorem dX2_isChangeOf_30 : decode cX2_isChangeOf 30 = .ok (.iconst 1, 1) := by decide +kernel
theorem dX2_isChangeOf_31 : decode cX2_isChangeOf 31 = .ok (.goto 4, 3) := by decide +kernel
theorem dX2_isChangeOf_34 : decode cX2_isChangeOf 34 = .ok (.iconst 0, 1) := by decide +kernel
theorem dX2_isChangeOf_35 : decode cX2_isChangeOf 35 = .ok (.ireturn, 1) := by decide +kernel
theorem dX3_init_0 : decode cX3_init 0 = .ok (.aload_n 0, 1) := by decide +kernel
theorem dX3_init_1 : decode cX3_init 1 = .ok (.invokespecial 3, 3) := by decide +kernel
theorem dX3_init_4 : decode cX3_init 4 = .ok (.aload_n 0, 1) := by decide +kernel
theorem dX3_init_5 : decode cX3_init 5 = .ok (.aload_n 1, 1) := by decide +kernel
theorem dX3_init_6 : decode cX3_init 6 = .ok (.putfield 9, 3) := by decide +kernel
theorem dX3_init_9 : decode cX3_init 9 = .ok (.aload_n 0, 1) := by decide +kernel
theorem dX3_init_10 : decode cX3_init 10 = .ok (.aload_n 2, 1) := by decide +kernel
theorem dX3_init_11 : decode cX3_init 11 = .ok (.putfield 15, 3) := by decide +kernel
theorem dX3_init_14 : decode cX3_init 14 = .ok (.aload_n 0, 1) := by decide +kernel
theorem dX3_init_15 : decode cX3_init 15 = .ok (.aload_n 3, 1) := by decide +kernel
theorem dX3_init_16 : decode cX3_init 16 = .ok (.putfield 19, 3) := by decide +kernel
theorem dX3_init_19 : decode cX3_init 19 = .ok (.aload_n 0, 1) := by decide +kernel
theorem dX3_init_20 : decode cX3_init 20 = .ok (.iconst 0, 1) := by decide +kernel
theorem dX3_init_21 : decode cX3_init 21 = .ok (.putfield 23, 3) := by decide +kernel
theorem dX3_init_24 : decode cX3_init 24 = .ok (.aload_n 0, 1) := by decide +kernel
theorem dX3_init_25 : decode cX3_init 25 = .ok (.iconst (-1), 1) := by decide +kernel
theorem dX3_init_26 : decode cX3_init 26 = .ok (.putfield 27, 3) := by decide +kernel
theorem dX3_init_29 : decode cX3_init 29 = .ok (.return_, 1) := by decide +kernel
set_option maxRecDepth 20000 in
theorem ggX3_readRow_X3_readMoment : GoodIn wsX3_readRow wsX3_readMoment := goodIn_r _ [9, 2, 3, 4, 10, 11, 12, 13, 14, 1, 15, 16, 17, 8, 18, 19, 20, 21, 22, 23, 24, 25, 26, 27, 28, 29, 30, 31, 32, 33, 34, 35, 36, 37, 38, 39, 40, 41, 42, 43, 44, 45, 46, 47, 48, 49, 50, 51, 52, 53, 54, 55, 56, 57, 58, 59, 60, 61, 62, 63, 64, 65, 66, 67, 68, 69, 70, 71, 72, 73, 74, 75, 76, 77, 78, 79, 80, 81, 82, 83, 84, 85, 86, 87, 88, 89, 90, 91, 92, 93, 94, 95, 96, 97, 98, 99, 100, 101, 102, 103, 104, 105, 106, 107, 108, 109, 110, 111, 112, 113, 114, 115, 116, 117, 118, 119, 120, 121, 122, 123, 124, 125, 126, 127, 128, 129, 130, 131, 132, 133, 134, 135, 136, 137, 138, 139, 140, 141, 142, 143, 144, 145, 146, 147, 148, 149, 150, 151, 152, 153, 154, 155, 156, 157, 158, 159, 160, 161, 162, 163, 164, 165, 166, 167, 168, 169, 170, 171, 172, 173, 174, 175, 176, 177, 178, 179, 180, 181, 182, 183, 184, 185, 186, 187, 188, 189, 234, 235, 236, 237, 238, 241, 242, 243, 244, 239, 240, 245, 246, 247, 248, 249, 250, 251, 252, 253, 254, 255, 256] (by decide +kernel) (by decide +kernel)
set_option maxRecDepth 20000 in
theorem gX3_readRow_X3_readMoment : GoodIn wsX3_readRow (wsV RX3 35 RX3 yX3_readMoment wsX3_readMoment) := goodIn_app (goodIn_of _ (by decide +kernel)) ggX3_readRow_X3_readMoment
set_option maxRecDepth 20000 in
theorem ggX3_readRow_X4_append : GoodIn wsX3_readRow wsX4_append := goodIn_r _ [193, 194, 195, 37, 196, 197, 198, 199, 31, 200, 201, 202, 29, 30, 32, 33, 34, 35, 36, 38, 39, 40, 41, 42, 43, 44, 45, 46, 47, 48, 49, 50, 51, 52, 53, 54, 55, 56, 57, 58, 59, 60, 61, 62, 63, 64, 65, 203, 67, 68, 69, 70, 204, 205, 206, 24, 207, 208, 209, 210, 211, 212, 26, 27, 213, 214, 172, 215, 216, 217, 218, 219, 220, 221, 222, 183, 184, 158, 185, 186, 187, 188, 189, 223, 224, 225, 226, 227, 139, 140, 141, 142, 143, 144, 145, 146, 147, 148, 149, 150, 151, 152, 153, 154, 155, 90, 156, 157, 159, 160, 161, 162, 163, 164, 165, 166, 167, 168, 169, 170, 171, 173, 174, 175, 176, 177, 178, 179, 180, 181, 182, 228, 229, 230, 231, 129, 232, 233, 245, 246, 247, 239, 240, 241, 242, 243, 244, 251, 252, 253, 254, 248, 249, 250] (by decide +kernel) (by decide +kernel)
set_option maxRecDepth 20000 in
theorem gX3_readRow_X4_append : GoodIn wsX3_readRow (wsV RX3 39 RX4 yX4_append wsX4_append) := goodIn_app (goodIn_of _ (by decide +kernel)) ggX3_readRow_X4_append
theorem dX3_readRow_0 : decode cX3_readRow 0 = .ok (.iconst 0, 1) := by decide +kernel
theorem dX3_readRow_1 : decode cX3_readRow 1 = .ok (.istore_n 1, 1) := by decide +kernel
theorem dX3_readRow_2 : decode cX3_readRow 2 = .ok (.iload_n 1, 1) := by decide +kernel
theorem dX3_readRow_3 : decode cX3_readRow 3 = .ok (.aload_n 0, 1) := by decide +kernel
theorem dX3_readRow_4 : decode cX3_readRow 4 = .ok (.getfield 9, 3) := by decide +kernel
theorem dX3_readRow_7 : decode cX3_readRow 7 = .ok (.getfield 30, 3) := by decide +kernel
theorem dX3_readRow_10 : decode cX3_readRow 10 = .ok (.if_icmp .ge 49, 3) := by decide +kernel
theorem dX3_readRow_13 : decode cX3_readRow 13 = .ok (.aload_n 0, 1) := by decide +kernel
theorem dX3_readRow_14 : decode cX3_readRow 14 = .ok (.getfield 23, 3) := by decide +kernel
theorem dX3_readRow_17 : decode cX3_readRow 17 = .ok (.aload_n 0, 1) := by decide +kernel
theorem dX3_readRow_18 : decode cX3_readRow 18 = .ok (.getfield 9, 3) := by decide +kernel
theorem dX3_readRow_21 : decode cX3_readRow 21 = .ok (.getfield 30, 3) := by decide +kernel
theorem dX3_readRow_24 : decode cX3_readRow 24 = .ok (.if_icmp .ge 35, 3) := by decide +kernel
theorem dX3_readRow_27 : decode cX3_readRow 27 = .ok (.aload_n 0, 1) := by decide +kernel
theorem dX3_readRow_28 : decode cX3_readRow 28 = .ok (.getfield 27, 3) := by decide +kernel
theorem dX3_readRow_31 : decode cX3_readRow 31 = .ok (.iconst (-1), 1) := by decide +kernel
theorem dX3_readRow_32 : decode cX3_readRow 32 = .ok (.if_icmp .ne 27, 3) := by decide +kernel
theorem dX3_readRow_35 : decode cX3_readRow 35 = .ok (.aload_n 0, 1) := by decide +kernel
theorem dX3_readRow_36 : decode cX3_readRow 36 = .ok (.invokevirtual 35, 3) := by decide +kernel
theorem dX3_readRow_39 : decode cX3_readRow 39 = .ok (.astore_n 2, 1) := by decide +kernel
theorem dX3_readRow_40 : decode cX3_readRow 40 = .ok (.aload_n 2, 1) := by decide +kernel
theorem dX3_readRow_41 : decode cX3_readRow 41 = .ok (.ifnull 12, 3) := by decide +kernel
theorem dX3_readRow_44 : decode cX3_readRow 44 = .ok (.aload_n 0, 1) := by decide +kernel
theorem dX3_readRow_45 : decode cX3_readRow 45 = .ok (.getfield 19, 3) := by decide +kernel
theorem dX3_readRow_48 : decode cX3_readRow 48 = .ok (.aload_n 2, 1) := by decide +kernel
theorem dX3_readRow_49 : decode cX3_readRow 49 = .ok (.invokevirtual 39, 3) := by decide +kernel
theorem dX3_readRow_52 : decode cX3_readRow 52 = .ok (.pop, 1) := by decide +kernel
theorem dX3_readRow_53 : decode cX3_readRow 53 = .ok (.iinc 1 1, 3) := by decide +kernel
theorem dX3_readRow_56 : decode cX3_readRow 56 = .ok (.goto (-54), 3) := by decide +kernel
theorem dX3_readRow_59 : decode cX3_readRow 59 = .ok (.aload_n 0, 1) := by decide +kernel
theorem dX3_readRow_60 : decode cX3_readRow 60 = .ok (.getfield 27, 3) := by decide +kernel
theorem dX3_readRow_63 : decode cX3_readRow 63 = .ok (.ireturn, 1) := by decide +kernel
set_option maxRecDepth 20000 in
theorem ggX3_readMoment_X3_readCount : GoodIn wsX3_readMoment wsX3_readCount := goodIn_r _ [14, 2, 15, 1, 9, 16, 5, 17, 18, 19, 20, 21, 22, 23, 186, 187, 188, 189, 190, 195, 196] (by decide +kernel) (by decide +kernel)
set_option maxRecDepth 20000 in
theorem gX3_readMoment_X3_readCount : GoodIn wsX3_readMoment (wsV RX3 45 RX3 yX3_readCount wsX3_readCount) := goodIn_app (goodIn_of _ (by decide +kernel)) ggX3_readMoment_X3_readCount
set_option maxRecDepth 20000 in
theorem ggX3_readMoment_X4_lastTime : GoodIn wsX3_readMoment wsX4_lastTime := goodIn_r _ [28, 29, 30, 31, 27, 32, 33, 34, 35, 36, 37, 38, 39, 40, 41, 42, 43, 44, 45, 46, 47, 48, 49, 50, 51, 52, 53, 54, 55, 56, 57, 58, 59, 60, 61, 191, 192, 193, 194, 197, 198, 199, 200, 201, 202] (by decide +kernel) (by decide +kernel)
set_option maxRecDepth 20000 in
theorem gX3_readMoment_X4_lastTime : GoodIn wsX3_readMoment (wsV RX3 49 RX4 yX4_lastTime wsX4_lastTime) := goodIn_app (goodIn_of _ (by decide +kernel)) ggX3_readMoment_X4_lastTime
set_option maxRecDepth 20000 in
theorem ggX3_readMoment_X4_lastStep : GoodIn wsX3_readMoment wsX4_lastStep := goodIn_r _ [65, 66, 29, 30, 31, 27, 32, 33, 34, 35, 36, 37, 38, 39, 40, 41, 42, 43, 44, 45, 46, 47, 48, 49, 50, 51, 52, 53, 54, 55, 56, 57, 58, 59, 60, 61, 191, 192, 193, 194, 197, 198, 199, 200, 201, 202] (by decide +kernel) (by decide +kernel)
set_option maxRecDepth 20000 in
theorem gX3_readMoment_X4_lastStep : GoodIn wsX3_readMoment (wsV RX3 52 RX4 yX4_lastStep wsX4_lastStep) := goodIn_app (goodIn_of _ (by decide +kernel)) ggX3_readMoment_X4_lastStep
set_option maxRecDepth 20000 in
theorem ggX3_readMoment_X3_readCountWithin : GoodIn wsX3_readMoment wsX3_readCountWithin := goodIn_r _ [70, 1, 2, 10, 11, 12, 13, 14, 15, 9, 16, 5, 17, 18, 19, 20, 21, 22, 23, 186, 187, 188, 189, 190, 195, 196] (by decide +kernel) (by decide +kernel)
set_option maxRecDepth 20000 in
theorem gX3_readMoment_X3_readCountWithin : GoodIn wsX3_readMoment (wsV RX3 57 RX3 yX3_readCountWithin wsX3_readCountWithin) := goodIn_app (goodIn_of _ (by decide +kernel)) ggX3_readMoment_X3_readCountWithin
set_option maxRecDepth 20000 in
theorem ggX3_readMoment_X2_init : GoodIn wsX3_readMoment wsX2_init := goodIn_r _ [73, 74, 75, 76, 77, 78, 79, 80, 38, 81, 82, 83, 84, 85, 86, 61, 87, 88, 89, 90, 91, 92, 93, 94, 95, 96, 191, 192, 193, 194, 200, 201, 202] (by decide +kernel) (by decide +kernel)
set_option maxRecDepth 20000 in
theorem gX3_readMoment_X2_init : GoodIn wsX3_readMoment (wsX2_init) := ggX3_readMoment_X2_init
set_option maxRecDepth 20000 in
theorem ggX3_readMoment_X3_readChange : GoodIn wsX3_readMoment wsX3_readChange := goodIn_r _ [100, 101, 102, 1, 2, 103, 3, 104, 105, 106, 107, 36, 37, 38, 39, 40, 108, 42, 43, 44, 109, 46, 47, 48, 49, 50, 51, 52, 53, 54, 55, 56, 57, 58, 59, 60, 61, 67, 68, 69, 13, 70, 10, 11, 12, 14, 15, 9, 16, 5, 17, 18, 19, 20, 21, 22, 23, 110, 111, 112, 113, 114, 115, 116, 117, 118, 119, 120, 121, 122, 123, 27, 124, 125, 126, 127, 128, 129, 75, 76, 130, 131, 132, 133, 134, 135, 136, 137, 138, 139, 140, 141, 142, 143, 144, 145, 146, 147, 148, 149, 150, 151, 86, 152, 153, 154, 155, 156, 157, 158, 159, 160, 161, 162, 163, 164, 165, 166, 167, 168, 169, 170, 171, 172, 173, 174, 175, 176, 177, 178, 179, 180, 181, 182, 183, 184, 185, 203, 204, 205, 206, 186, 187, 188, 189, 190, 207, 208, 200, 201, 202, 195, 196, 197, 198, 199] (by decide +kernel) (by decide +kernel)
set_option maxRecDepth 20000 in
theorem gX3_readMoment_X3_readChange : GoodIn wsX3_readMoment (wsV RX3 72 RX3 yX3_readChange wsX3_readChange) := goodIn_app (goodIn_of _ (by decide +kernel)) ggX3_readMoment_X3_readChange
theorem dX3_readMoment_0 : decode cX3_readMoment 0 = .ok (.aload_n 0, 1) := by decide +kernel
theorem dX3_readMoment_1 : decode cX3_readMoment 1 = .ok (.getfield 23, 3) := by decide +kernel
theorem dX3_readMoment_4 : decode cX3_readMoment 4 = .ok (.istore_n 1, 1) := by decide +kernel
theorem dX3_readMoment_5 : decode cX3_readMoment 5 = .ok (.aload_n 0, 1) := by decide +kernel
theorem dX3_readMoment_6 : decode cX3_readMoment 6 = .ok (.invokevirtual 45, 3) := by decide +kernel
theorem dX3_readMoment_9 : decode cX3_readMoment 9 = .ok (.lstore_n 2, 1) := by decide +kernel
theorem dX3_readMoment_10 : decode cX3_readMoment 10 = .ok (.aload_n 0, 1) := by decide +kernel
theorem dX3_readMoment_11 : decode cX3_readMoment 11 = .ok (.getfield 27, 3) := by decide +kernel
theorem dX3_readMoment_14 : decode cX3_readMoment 14 = .ok (.iconst (-1), 1) := by decide +kernel
theorem dX3_readMoment_15 : decode cX3_readMoment 15 = .ok (.if_icmp .eq 5, 3) := by decide +kernel
theorem dX3_readMoment_18 : decode cX3_readMoment 18 = .ok (.aconst_null, 1) := by decide +kernel
theorem dX3_readMoment_19 : decode cX3_readMoment 19 = .ok (.areturn, 1) := by decide +kernel
theorem dX3_readMoment_20 : decode cX3_readMoment 20 = .ok (.lload_n 2, 1) := by decide +kernel
theorem dX3_readMoment_21 : decode cX3_readMoment 21 = .ok (.lconst 1, 1) := by decide +kernel
theorem dX3_readMoment_22 : decode cX3_readMoment 22 = .ok (.land, 1) := by decide +kernel
theorem dX3_readMoment_23 : decode cX3_readMoment 23 = .ok (.lconst 1, 1) := by decide +kernel
theorem dX3_readMoment_24 : decode cX3_readMoment 24 = .ok (.lcmp, 1) := by decide +kernel
theorem dX3_readMoment_25 : decode cX3_readMoment 25 = .ok (.ifCond .ne 7, 3) := by decide +kernel
theorem dX3_readMoment_28 : decode cX3_readMoment 28 = .ok (.iconst 1, 1) := by decide +kernel
theorem dX3_readMoment_29 : decode cX3_readMoment 29 = .ok (.goto 4, 3) := by decide +kernel
theorem dX3_readMoment_32 : decode cX3_readMoment 32 = .ok (.iconst 0, 1) := by decide +kernel
theorem dX3_readMoment_33 : decode cX3_readMoment 33 = .ok (.istore 4, 2) := by decide +kernel
theorem dX3_readMoment_35 : decode cX3_readMoment 35 = .ok (.lload_n 2, 1) := by decide +kernel
theorem dX3_readMoment_36 : decode cX3_readMoment 36 = .ok (.iconst 1, 1) := by decide +kernel
theorem dX3_readMoment_37 : decode cX3_readMoment 37 = .ok (.lshr, 1) := by decide +kernel
theorem dX3_readMoment_38 : decode cX3_readMoment 38 = .ok (.lstore 5, 2) := by decide +kernel
theorem dX3_readMoment_40 : decode cX3_readMoment 40 = .ok (.iload 4, 2) := by decide +kernel
theorem dX3_readMoment_42 : decode cX3_readMoment 42 = .ok (.ifCond .eq 13, 3) := by decide +kernel
theorem dX3_readMoment_45 : decode cX3_readMoment 45 = .ok (.aload_n 0, 1) := by decide +kernel
theorem dX3_readMoment_46 : decode cX3_readMoment 46 = .ok (.getfield 19, 3) := by decide +kernel
theorem dX3_readMoment_49 : decode cX3_readMoment 49 = .ok (.invokevirtual 49, 3) := by decide +kernel
theorem dX3_readMoment_52 : decode cX3_readMoment 52 = .ok (.goto 13, 3) := by decide +kernel
theorem dX3_readMoment_55 : decode cX3_readMoment 55 = .ok (.aload_n 0, 1) := by decide +kernel
theorem dX3_readMoment_56 : decode cX3_readMoment 56 = .ok (.getfield 19, 3) := by decide +kernel
theorem dX3_readMoment_59 : decode cX3_readMoment 59 = .ok (.invokevirtual 49, 3) := by decide +kernel
theorem dX3_readMoment_62 : decode cX3_readMoment 62 = .ok (.lload 5, 2) := by decide +kernel
theorem dX3_readMoment_64 : decode cX3_readMoment 64 = .ok (.ladd, 1) := by decide +kernel
theorem dX3_readMoment_65 : decode cX3_readMoment 65 = .ok (.lstore 7, 2) := by decide +kernel
theorem dX3_readMoment_67 : decode cX3_readMoment 67 = .ok (.iload 4, 2) := by decide +kernel
theorem dX3_readMoment_69 : decode cX3_readMoment 69 = .ok (.ifCond .eq 16, 3) := by decide +kernel
theorem dX3_readMoment_72 : decode cX3_readMoment 72 = .ok (.aload_n 0, 1) := by decide +kernel
theorem dX3_readMoment_73 : decode cX3_readMoment 73 = .ok (.getfield 19, 3) := by decide +kernel
theorem dX3_readMoment_76 : decode cX3_readMoment 76 = .ok (.invokevirtual 52, 3) := by decide +kernel
theorem dX3_readMoment_79 : decode cX3_readMoment 79 = .ok (.lload 5, 2) := by decide +kernel
theorem dX3_readMoment_81 : decode cX3_readMoment 81 = .ok (.ladd, 1) := by decide +kernel
theorem dX3_readMoment_82 : decode cX3_readMoment 82 = .ok (.goto 4, 3) := by decide +kernel
theorem dX3_readMoment_85 : decode cX3_readMoment 85 = .ok (.lconst 0, 1) := by decide +kernel
theorem dX3_readMoment_86 : decode cX3_readMoment 86 = .ok (.lstore 9, 2) := by decide +kernel
theorem dX3_readMoment_88 : decode cX3_readMoment 88 = .ok (.lload 5, 2) := by decide +kernel
theorem dX3_readMoment_90 : decode cX3_readMoment 90 = .ok (.lconst 0, 1) := by decide +kernel
theorem dX3_readMoment_91 : decode cX3_readMoment 91 = .ok (.lcmp, 1) := by decide +kernel
theorem dX3_readMoment_92 : decode cX3_readMoment 92 = .ok (.ifCond .eq 21, 3) := by decide +kernel
theorem dX3_readMoment_95 : decode cX3_readMoment 95 = .ok (.lload 7, 2) := by decide +kernel
theorem dX3_readMoment_97 : decode cX3_readMoment 97 = .ok (.ldc2_w 55, 3) := by decide +kernel
theorem dX3_readMoment_100 : decode cX3_readMoment 100 = .ok (.lcmp, 1) := by decide +kernel
theorem dX3_readMoment_101 : decode cX3_readMoment 101 = .ok (.ifCond .gt 12, 3) := by decide +kernel
theorem dX3_readMoment_104 : decode cX3_readMoment 104 = .ok (.lload 9, 2) := by decide +kernel
theorem dX3_readMoment_106 : decode cX3_readMoment 106 = .ok (.ldc2_w 55, 3) := by decide +kernel
theorem dX3_readMoment_109 : decode cX3_readMoment 109 = .ok (.lcmp, 1) := by decide +kernel
theorem dX3_readMoment_110 : decode cX3_readMoment 110 = .ok (.ifCond .le 10, 3) := by decide +kernel
theorem dX3_readMoment_113 : decode cX3_readMoment 113 = .ok (.aload_n 0, 1) := by decide +kernel
theorem dX3_readMoment_114 : decode cX3_readMoment 114 = .ok (.iload_n 1, 1) := by decide +kernel
theorem dX3_readMoment_115 : decode cX3_readMoment 115 = .ok (.putfield 27, 3) := by decide +kernel
theorem dX3_readMoment_118 : decode cX3_readMoment 118 = .ok (.aconst_null, 1) := by decide +kernel
theorem dX3_readMoment_119 : decode cX3_readMoment 119 = .ok (.areturn, 1) := by decide +kernel
theorem dX3_readMoment_120 : decode cX3_readMoment 120 = .ok (.iload 4, 2) := by decide +kernel
theorem dX3_readMoment_122 : decode cX3_readMoment 122 = .ok (.ifCond .ne 13, 3) := by decide +kernel
theorem dX3_readMoment_125 : decode cX3_readMoment 125 = .ok (.aload_n 0, 1) := by decide +kernel
theorem dX3_readMoment_126 : decode cX3_readMoment 126 = .ok (.lconst 0, 1) := by decide +kernel
theorem dX3_readMoment_127 : decode cX3_readMoment 127 = .ok (.ldc2_w 55, 3) := by decide +kernel
theorem dX3_readMoment_130 : decode cX3_readMoment 130 = .ok (.invokevirtual 57, 3) := by decide +kernel
theorem dX3_readMoment_133 : decode cX3_readMoment 133 = .ok (.lstore 9, 2) := by decide +kernel
theorem dX3_readMoment_135 : decode cX3_readMoment 135 = .ok (.aload_n 0, 1) := by decide +kernel
theorem dX3_readMoment_136 : decode cX3_readMoment 136 = .ok (.lconst 1, 1) := by decide +kernel
theorem dX3_readMoment_137 : decode cX3_readMoment 137 = .ok (.ldc2_w 61, 3) := by decide +kernel
theorem dX3_readMoment_140 : decode cX3_readMoment 140 = .ok (.invokevirtual 57, 3) := by decide +kernel
theorem dX3_readMoment_143 : decode cX3_readMoment 143 = .ok (.lstore 11, 2) := by decide +kernel
theorem dX3_readMoment_145 : decode cX3_readMoment 145 = .ok (.new 63, 3) := by decide +kernel
theorem dX3_readMoment_148 : decode cX3_readMoment 148 = .ok (.dup, 1) := by decide +kernel
theorem dX3_readMoment_149 : decode cX3_readMoment 149 = .ok (.lload 7, 2) := by decide +kernel
theorem dX3_readMoment_151 : decode cX3_readMoment 151 = .ok (.lload 9, 2) := by decide +kernel
theorem dX3_readMoment_153 : decode cX3_readMoment 153 = .ok (.invokespecial 65, 3) := by decide +kernel
theorem dX3_readMoment_156 : decode cX3_readMoment 156 = .ok (.astore 13, 2) := by decide +kernel
theorem dX3_readMoment_158 : decode cX3_readMoment 158 = .ok (.iconst 0, 1) := by decide +kernel
theorem dX3_readMoment_159 : decode cX3_readMoment 159 = .ok (.istore 14, 2) := by decide +kernel
theorem dX3_readMoment_161 : decode cX3_readMoment 161 = .ok (.iload 14, 2) := by decide +kernel
theorem dX3_readMoment_163 : decode cX3_readMoment 163 = .ok (.i2l, 1) := by decide +kernel
theorem dX3_readMoment_164 : decode cX3_readMoment 164 = .ok (.lload 11, 2) := by decide +kernel
theorem dX3_readMoment_166 : decode cX3_readMoment 166 = .ok (.lcmp, 1) := by decide +kernel
theorem dX3_readMoment_167 : decode cX3_readMoment 167 = .ok (.ifCond .ge 38, 3) := by decide +kernel
theorem dX3_readMoment_170 : decode cX3_readMoment 170 = .ok (.iload 14, 2) := by decide +kernel
theorem dX3_readMoment_172 : decode cX3_readMoment 172 = .ok (.aload_n 0, 1) := by decide +kernel
theorem dX3_readMoment_173 : decode cX3_readMoment 173 = .ok (.getfield 9, 3) := by decide +kernel
theorem dX3_readMoment_176 : decode cX3_readMoment 176 = .ok (.getfield 30, 3) := by decide +kernel
theorem dX3_readMoment_179 : decode cX3_readMoment 179 = .ok (.if_icmp .ge 26, 3) := by decide +kernel
theorem dX3_readMoment_182 : decode cX3_readMoment 182 = .ok (.aload_n 0, 1) := by decide +kernel
theorem dX3_readMoment_183 : decode cX3_readMoment 183 = .ok (.getfield 27, 3) := by decide +kernel
theorem dX3_readMoment_186 : decode cX3_readMoment 186 = .ok (.iconst (-1), 1) := by decide +kernel
theorem dX3_readMoment_187 : decode cX3_readMoment 187 = .ok (.if_icmp .ne 18, 3) := by decide +kernel
theorem dX3_readMoment_190 : decode cX3_readMoment 190 = .ok (.aload_n 0, 1) := by decide +kernel
theorem dX3_readMoment_191 : decode cX3_readMoment 191 = .ok (.aload 13, 2) := by decide +kernel
theorem dX3_readMoment_193 : decode cX3_readMoment 193 = .ok (.getfield 68, 3) := by decide +kernel
theorem dX3_readMoment_196 : decode cX3_readMoment 196 = .ok (.invokevirtual 72, 3) := by decide +kernel
theorem dX3_readMoment_199 : decode cX3_readMoment 199 = .ok (.iinc 14 1, 3) := by decide +kernel
theorem dX3_readMoment_202 : decode cX3_readMoment 202 = .ok (.goto (-41), 3) := by decide +kernel
theorem dX3_readMoment_205 : decode cX3_readMoment 205 = .ok (.aload_n 0, 1) := by decide +kernel
theorem dX3_readMoment_206 : decode cX3_readMoment 206 = .ok (.getfield 27, 3) := by decide +kernel
theorem dX3_readMoment_209 : decode cX3_readMoment 209 = .ok (.iconst (-1), 1) := by decide +kernel
theorem dX3_readMoment_210 : decode cX3_readMoment 210 = .ok (.if_icmp .ne 8, 3) := by decide +kernel
theorem dX3_readMoment_213 : decode cX3_readMoment 213 = .ok (.aload 13, 2) := by decide +kernel
theorem dX3_readMoment_215 : decode cX3_readMoment 215 = .ok (.goto 4, 3) := by decide +kernel
theorem dX3_readMoment_218 : decode cX3_readMoment 218 = .ok (.aconst_null, 1) := by decide +kernel
theorem dX3_readMoment_219 : decode cX3_readMoment 219 = .ok (.areturn, 1) := by decide +kernel
set_option maxRecDepth 20000 in
theorem ggX3_readChange_Jx4a65c_isEmpty_aae02 : GoodIn wsX3_readChange wsJx4a65c_isEmpty_aae02 := goodIn_r _ [14, 15, 148, 149, 150] (by decide +kernel) (by decide +kernel)
set_option maxRecDepth 20000 in
theorem gX3_readChange_Jx4a65c_isEmpty_aae02 : GoodIn wsX3_readChange (wsV RX3 76 RJx4a65c yJx4a65c_isEmpty_aae02 wsJx4a65c_isEmpty_aae02) := goodIn_app (goodIn_of _ (by decide +kernel)) ggX3_readChange_Jx4a65c_isEmpty_aae02
set_option maxRecDepth 20000 in
theorem ggX3_readChange_Jx4a65c_size_8abf5 : GoodIn wsX3_readChange wsJx4a65c_size_8abf5 := goodIn_r _ [19, 15, 148, 149, 150] (by decide +kernel) (by decide +kernel)
set_option maxRecDepth 20000 in
theorem gX3_readChange_Jx4a65c_size_8abf5 : GoodIn wsX3_readChange (wsV RX3 82 RJx4a65c yJx4a65c_size_8abf5 wsJx4a65c_size_8abf5) := goodIn_app (goodIn_of _ (by decide +kernel)) ggX3_readChange_Jx4a65c_size_8abf5
set_option maxRecDepth 20000 in
theorem ggX3_readChange_Jx4a65c_get_915e3 : GoodIn wsX3_readChange wsJx4a65c_get_915e3 := goodIn_r _ [23, 15, 24, 25, 26, 27, 28, 29, 30, 31, 32, 33, 34, 13, 35, 36, 148, 149, 150] (by decide +kernel) (by decide +kernel)
set_option maxRecDepth 20000 in
theorem gX3_readChange_Jx4a65c_get_915e3 : GoodIn wsX3_readChange (wsV RX3 86 RJx4a65c yJx4a65c_get_915e3 wsJx4a65c_get_915e3) := goodIn_app (goodIn_of _ (by decide +kernel)) ggX3_readChange_Jx4a65c_get_915e3
set_option maxRecDepth 20000 in
theorem ggX3_readChange_X3_readCountWithin : GoodIn wsX3_readChange wsX3_readCountWithin := goodIn_r _ [41, 3, 4, 42, 43, 44, 40, 45, 46, 47, 48, 49, 50, 51, 52, 53, 54, 55, 56, 141, 142, 143, 144, 145, 151, 152] (by decide +kernel) (by decide +kernel)
set_option maxRecDepth 20000 in
theorem gX3_readChange_X3_readCountWithin : GoodIn wsX3_readChange (wsV RX3 57 RX3 yX3_readCountWithin wsX3_readCountWithin) := goodIn_app (goodIn_of _ (by decide +kernel)) ggX3_readChange_X3_readCountWithin
set_option maxRecDepth 20000 in
theorem ggX3_readChange_X3_readCount : GoodIn wsX3_readChange wsX3_readCount := goodIn_r _ [45, 4, 46, 3, 47, 48, 49, 50, 51, 52, 53, 54, 55, 56, 141, 142, 143, 144, 145, 151, 152] (by decide +kernel) (by decide +kernel)
set_option maxRecDepth 20000 in
theorem gX3_readChange_X3_readCount : GoodIn wsX3_readChange (wsV RX3 45 RX3 yX3_readCount wsX3_readCount) := goodIn_app (goodIn_of _ (by decide +kernel)) ggX3_readChange_X3_readCount
set_option maxRecDepth 20000 in
theorem ggX3_readChange_X5_widthOf : GoodIn wsX3_readChange wsX5_widthOf := goodIn_r _ [61, 62, 63, 64, 65, 60, 66, 67, 146, 147] (by decide +kernel) (by decide +kernel)
set_option maxRecDepth 20000 in
theorem gX3_readChange_X5_widthOf : GoodIn wsX3_readChange (wsV RX3 105 RX5 yX5_widthOf wsX5_widthOf) := goodIn_app (goodIn_of _ (by decide +kernel)) ggX3_readChange_X5_widthOf
set_option maxRecDepth 20000 in
theorem ggX3_readChange_X4_valueOf : GoodIn wsX3_readChange wsX4_valueOf := goodIn_r _ [72, 73, 153, 154, 155] (by decide +kernel) (by decide +kernel)
set_option maxRecDepth 20000 in
theorem gX3_readChange_X4_valueOf : GoodIn wsX3_readChange (wsV RX3 109 RX4 yX4_valueOf wsX4_valueOf) := goodIn_app (goodIn_of _ (by decide +kernel)) ggX3_readChange_X4_valueOf
set_option maxRecDepth 20000 in
theorem ggX3_readChange_X1_init : GoodIn wsX3_readChange wsX1_init := goodIn_r _ [76, 77, 78, 79, 80, 81, 82, 83, 137, 138, 139, 140] (by decide +kernel) (by decide +kernel)
set_option maxRecDepth 20000 in
theorem gX3_readChange_X1_init : GoodIn wsX3_readChange (wsX1_init) := ggX3_readChange_X1_init
set_option maxRecDepth 20000 in
theorem ggX3_readChange_Jx4a65c_add_9ea2d : GoodIn wsX3_readChange wsJx4a65c_add_9ea2d := goodIn_r _ [87, 88, 89, 36, 15, 90, 91, 92, 13, 93, 94, 95, 96, 97, 98, 99, 100, 101, 102, 103, 104, 105, 106, 107, 108, 109, 110, 111, 112, 113, 114, 115, 116, 117, 118, 119, 120, 121, 122, 123, 124, 125, 126, 127, 128, 129, 130, 131, 132, 133, 134, 135, 136, 148, 149, 150] (by decide +kernel) (by decide +kernel)
set_option maxRecDepth 20000 in
theorem gX3_readChange_Jx4a65c_add_9ea2d : GoodIn wsX3_readChange (wsV RX3 116 RJx4a65c yJx4a65c_add_9ea2d wsJx4a65c_add_9ea2d) := goodIn_app (goodIn_of _ (by decide +kernel)) ggX3_readChange_Jx4a65c_add_9ea2d
theorem dX3_readChange_0 : decode cX3_readChange 0 = .ok (.aload_n 1, 1) := by decide +kernel
theorem dX3_readChange_1 : decode cX3_readChange 1 = .ok (.invokevirtual 76, 3) := by decide +kernel
theorem dX3_readChange_4 : decode cX3_readChange 4 = .ok (.ifCond .eq 7, 3) := by decide +kernel
theorem dX3_readChange_7 : decode cX3_readChange 7 = .ok (.aconst_null, 1) := by decide +kernel
theorem dX3_readChange_8 : decode cX3_readChange 8 = .ok (.goto 16, 3) := by decide +kernel
theorem dX3_readChange_11 : decode cX3_readChange 11 = .ok (.aload_n 1, 1) := by decide +kernel
theorem dX3_readChange_12 : decode cX3_readChange 12 = .ok (.aload_n 1, 1) := by decide +kernel
theorem dX3_readChange_13 : decode cX3_readChange 13 = .ok (.invokevirtual 82, 3) := by decide +kernel
theorem dX3_readChange_16 : decode cX3_readChange 16 = .ok (.iconst 1, 1) := by decide +kernel
theorem dX3_readChange_17 : decode cX3_readChange 17 = .ok (.isub, 1) := by decide +kernel
theorem dX3_readChange_18 : decode cX3_readChange 18 = .ok (.invokevirtual 86, 3) := by decide +kernel
theorem dX3_readChange_21 : decode cX3_readChange 21 = .ok (.checkcast 90, 3) := by decide +kernel
theorem dX3_readChange_24 : decode cX3_readChange 24 = .ok (.astore_n 2, 1) := by decide +kernel
theorem dX3_readChange_25 : decode cX3_readChange 25 = .ok (.aload_n 2, 1) := by decide +kernel
theorem dX3_readChange_26 : decode cX3_readChange 26 = .ok (.ifnonnull 7, 3) := by decide +kernel
theorem dX3_readChange_29 : decode cX3_readChange 29 = .ok (.iconst 0, 1) := by decide +kernel
theorem dX3_readChange_30 : decode cX3_readChange 30 = .ok (.goto 7, 3) := by decide +kernel
theorem dX3_readChange_33 : decode cX3_readChange 33 = .ok (.aload_n 2, 1) := by decide +kernel
theorem dX3_readChange_34 : decode cX3_readChange 34 = .ok (.getfield 92, 3) := by decide +kernel
theorem dX3_readChange_37 : decode cX3_readChange 37 = .ok (.istore_n 3, 1) := by decide +kernel
theorem dX3_readChange_38 : decode cX3_readChange 38 = .ok (.aload_n 2, 1) := by decide +kernel
theorem dX3_readChange_39 : decode cX3_readChange 39 = .ok (.ifnonnull 7, 3) := by decide +kernel
theorem dX3_readChange_42 : decode cX3_readChange 42 = .ok (.iconst (-1), 1) := by decide +kernel
theorem dX3_readChange_43 : decode cX3_readChange 43 = .ok (.goto 7, 3) := by decide +kernel
theorem dX3_readChange_46 : decode cX3_readChange 46 = .ok (.aload_n 2, 1) := by decide +kernel
theorem dX3_readChange_47 : decode cX3_readChange 47 = .ok (.getfield 95, 3) := by decide +kernel
theorem dX3_readChange_50 : decode cX3_readChange 50 = .ok (.istore 4, 2) := by decide +kernel
theorem dX3_readChange_52 : decode cX3_readChange 52 = .ok (.aload_n 0, 1) := by decide +kernel
theorem dX3_readChange_53 : decode cX3_readChange 53 = .ok (.lconst 0, 1) := by decide +kernel
theorem dX3_readChange_54 : decode cX3_readChange 54 = .ok (.aload_n 0, 1) := by decide +kernel
theorem dX3_readChange_55 : decode cX3_readChange 55 = .ok (.getfield 15, 3) := by decide +kernel
theorem dX3_readChange_58 : decode cX3_readChange 58 = .ok (.getfield 98, 3) := by decide +kernel
theorem dX3_readChange_61 : decode cX3_readChange 61 = .ok (.iconst 1, 1) := by decide +kernel
theorem dX3_readChange_62 : decode cX3_readChange 62 = .ok (.isub, 1) := by decide +kernel
theorem dX3_readChange_63 : decode cX3_readChange 63 = .ok (.iload_n 3, 1) := by decide +kernel
theorem dX3_readChange_64 : decode cX3_readChange 64 = .ok (.isub, 1) := by decide +kernel
theorem dX3_readChange_65 : decode cX3_readChange 65 = .ok (.i2l, 1) := by decide +kernel
theorem dX3_readChange_66 : decode cX3_readChange 66 = .ok (.invokevirtual 57, 3) := by decide +kernel
theorem dX3_readChange_69 : decode cX3_readChange 69 = .ok (.lstore 5, 2) := by decide +kernel
theorem dX3_readChange_71 : decode cX3_readChange 71 = .ok (.aload_n 0, 1) := by decide +kernel
theorem dX3_readChange_72 : decode cX3_readChange 72 = .ok (.getfield 23, 3) := by decide +kernel
theorem dX3_readChange_75 : decode cX3_readChange 75 = .ok (.istore 7, 2) := by decide +kernel
theorem dX3_readChange_77 : decode cX3_readChange 77 = .ok (.aload_n 0, 1) := by decide +kernel
theorem dX3_readChange_78 : decode cX3_readChange 78 = .ok (.invokevirtual 45, 3) := by decide +kernel
theorem dX3_readChange_81 : decode cX3_readChange 81 = .ok (.lstore 8, 2) := by decide +kernel
theorem dX3_readChange_83 : decode cX3_readChange 83 = .ok (.aload_n 0, 1) := by decide +kernel
theorem dX3_readChange_84 : decode cX3_readChange 84 = .ok (.getfield 27, 3) := by decide +kernel
theorem dX3_readChange_87 : decode cX3_readChange 87 = .ok (.iconst (-1), 1) := by decide +kernel
theorem dX3_readChange_88 : decode cX3_readChange 88 = .ok (.if_icmp .eq 4, 3) := by decide +kernel
theorem dX3_readChange_91 : decode cX3_readChange 91 = .ok (.return_, 1) := by decide +kernel
theorem dX3_readChange_92 : decode cX3_readChange 92 = .ok (.iload_n 3, 1) := by decide +kernel
theorem dX3_readChange_93 : decode cX3_readChange 93 = .ok (.lload 5, 2) := by decide +kernel
theorem dX3_readChange_95 : decode cX3_readChange 95 = .ok (.l2i, 1) := by decide +kernel
theorem dX3_readChange_96 : decode cX3_readChange 96 = .ok (.iadd, 1) := by decide +kernel
theorem dX3_readChange_97 : decode cX3_readChange 97 = .ok (.istore 10, 2) := by decide +kernel
theorem dX3_readChange_99 : decode cX3_readChange 99 = .ok (.lload 8, 2) := by decide +kernel
theorem dX3_readChange_101 : decode cX3_readChange 101 = .ok (.iconst 4, 1) := by decide +kernel
theorem dX3_readChange_102 : decode cX3_readChange 102 = .ok (.lshr, 1) := by decide +kernel
theorem dX3_readChange_103 : decode cX3_readChange 103 = .ok (.lstore 11, 2) := by decide +kernel
theorem dX3_readChange_105 : decode cX3_readChange 105 = .ok (.lload 8, 2) := by decide +kernel
theorem dX3_readChange_107 : decode cX3_readChange 107 = .ok (.ldc2_w 103, 3) := by decide +kernel
theorem dX3_readChange_110 : decode cX3_readChange 110 = .ok (.land, 1) := by decide +kernel
theorem dX3_readChange_111 : decode cX3_readChange 111 = .ok (.l2i, 1) := by decide +kernel
theorem dX3_readChange_112 : decode cX3_readChange 112 = .ok (.istore 13, 2) := by decide +kernel
theorem dX3_readChange_114 : decode cX3_readChange 114 = .ok (.lload 5, 2) := by decide +kernel
theorem dX3_readChange_116 : decode cX3_readChange 116 = .ok (.lconst 0, 1) := by decide +kernel
theorem dX3_readChange_117 : decode cX3_readChange 117 = .ok (.lcmp, 1) := by decide +kernel
theorem dX3_readChange_118 : decode cX3_readChange 118 = .ok (.ifCond .gt 12, 3) := by decide +kernel
theorem dX3_readChange_121 : decode cX3_readChange 121 = .ok (.lload 11, 2) := by decide +kernel
theorem dX3_readChange_123 : decode cX3_readChange 123 = .ok (.iload 4, 2) := by decide +kernel
theorem dX3_readChange_125 : decode cX3_readChange 125 = .ok (.i2l, 1) := by decide +kernel
theorem dX3_readChange_126 : decode cX3_readChange 126 = .ok (.lcmp, 1) := by decide +kernel
theorem dX3_readChange_127 : decode cX3_readChange 127 = .ok (.ifCond .le 7, 3) := by decide +kernel
theorem dX3_readChange_130 : decode cX3_readChange 130 = .ok (.iconst 1, 1) := by decide +kernel
theorem dX3_readChange_131 : decode cX3_readChange 131 = .ok (.goto 4, 3) := by decide +kernel
theorem dX3_readChange_134 : decode cX3_readChange 134 = .ok (.iconst 0, 1) := by decide +kernel
theorem dX3_readChange_135 : decode cX3_readChange 135 = .ok (.istore 14, 2) := by decide +kernel
theorem dX3_readChange_137 : decode cX3_readChange 137 = .ok (.iload 14, 2) := by decide +kernel
theorem dX3_readChange_139 : decode cX3_readChange 139 = .ok (.ifCond .eq 26, 3) := by decide +kernel
theorem dX3_readChange_142 : decode cX3_readChange 142 = .ok (.lload 11, 2) := by decide +kernel
theorem dX3_readChange_144 : decode cX3_readChange 144 = .ok (.aload_n 0, 1) := by decide +kernel
theorem dX3_readChange_145 : decode cX3_readChange 145 = .ok (.getfield 15, 3) := by decide +kernel
theorem dX3_readChange_148 : decode cX3_readChange 148 = .ok (.iload 10, 2) := by decide +kernel
theorem dX3_readChange_150 : decode cX3_readChange 150 = .ok (.invokevirtual 105, 3) := by decide +kernel
theorem dX3_readChange_153 : decode cX3_readChange 153 = .ok (.i2l, 1) := by decide +kernel
theorem dX3_readChange_154 : decode cX3_readChange 154 = .ok (.lcmp, 1) := by decide +kernel
theorem dX3_readChange_155 : decode cX3_readChange 155 = .ok (.ifCond .ge 10, 3) := by decide +kernel
theorem dX3_readChange_158 : decode cX3_readChange 158 = .ok (.iload 13, 2) := by decide +kernel
theorem dX3_readChange_160 : decode cX3_readChange 160 = .ok (.bipush 8, 2) := by decide +kernel
theorem dX3_readChange_162 : decode cX3_readChange 162 = .ok (.if_icmp .le 10, 3) := by decide +kernel
theorem dX3_readChange_165 : decode cX3_readChange 165 = .ok (.aload_n 0, 1) := by decide +kernel
theorem dX3_readChange_166 : decode cX3_readChange 166 = .ok (.iload 7, 2) := by decide +kernel
theorem dX3_readChange_168 : decode cX3_readChange 168 = .ok (.putfield 27, 3) := by decide +kernel
theorem dX3_readChange_171 : decode cX3_readChange 171 = .ok (.return_, 1) := by decide +kernel
theorem dX3_readChange_172 : decode cX3_readChange 172 = .ok (.aload_n 0, 1) := by decide +kernel
theorem dX3_readChange_173 : decode cX3_readChange 173 = .ok (.getfield 19, 3) := by decide +kernel
theorem dX3_readChange_176 : decode cX3_readChange 176 = .ok (.iload 10, 2) := by decide +kernel
theorem dX3_readChange_178 : decode cX3_readChange 178 = .ok (.lload 11, 2) := by decide +kernel
theorem dX3_readChange_180 : decode cX3_readChange 180 = .ok (.l2i, 1) := by decide +kernel
theorem dX3_readChange_181 : decode cX3_readChange 181 = .ok (.invokevirtual 109, 3) := by decide +kernel
theorem dX3_readChange_184 : decode cX3_readChange 184 = .ok (.istore 15, 2) := by decide +kernel
theorem dX3_readChange_186 : decode cX3_readChange 186 = .ok (.iload 13, 2) := by decide +kernel
theorem dX3_readChange_188 : decode cX3_readChange 188 = .ok (.iload 15, 2) := by decide +kernel
theorem dX3_readChange_190 : decode cX3_readChange 190 = .ok (.if_icmp .ne 10, 3) := by decide +kernel
theorem dX3_readChange_193 : decode cX3_readChange 193 = .ok (.aload_n 0, 1) := by decide +kernel
theorem dX3_readChange_194 : decode cX3_readChange 194 = .ok (.iload 7, 2) := by decide +kernel
theorem dX3_readChange_196 : decode cX3_readChange 196 = .ok (.putfield 27, 3) := by decide +kernel
theorem dX3_readChange_199 : decode cX3_readChange 199 = .ok (.return_, 1) := by decide +kernel
theorem dX3_readChange_200 : decode cX3_readChange 200 = .ok (.aload_n 1, 1) := by decide +kernel
theorem dX3_readChange_201 : decode cX3_readChange 201 = .ok (.new 90, 3) := by decide +kernel
theorem dX3_readChange_204 : decode cX3_readChange 204 = .ok (.dup, 1) := by decide +kernel
theorem dX3_readChange_205 : decode cX3_readChange 205 = .ok (.iload 10, 2) := by decide +kernel
theorem dX3_readChange_207 : decode cX3_readChange 207 = .ok (.lload 11, 2) := by decide +kernel
theorem dX3_readChange_209 : decode cX3_readChange 209 = .ok (.l2i, 1) := by decide +kernel
theorem dX3_readChange_210 : decode cX3_readChange 210 = .ok (.iload 13, 2) := by decide +kernel
theorem dX3_readChange_212 : decode cX3_readChange 212 = .ok (.iload 15, 2) := by decide +kernel
theorem dX3_readChange_214 : decode cX3_readChange 214 = .ok (.invokespecial 113, 3) := by decide +kernel
theorem dX3_readChange_217 : decode cX3_readChange 217 = .ok (.invokevirtual 116, 3) := by decide +kernel
theorem dX3_readChange_220 : decode cX3_readChange 220 = .ok (.pop, 1) := by decide +kernel
theorem dX3_readChange_221 : decode cX3_readChange 221 = .ok (.return_, 1) := by decide +kernel
set_option maxRecDepth 20000 in
theorem ggX3_readCountWithin_X3_readCount : GoodIn wsX3_readCountWithin wsX3_readCount := goodIn_r _ [7, 2, 8, 1, 9, 10, 11, 12, 13, 14, 15, 16, 17, 18, 19, 20, 21, 22, 23, 24, 25] (by decide +kernel) (by decide +kernel)
set_option maxRecDepth 20000 in
theorem gX3_readCountWithin_X3_readCount : GoodIn wsX3_readCountWithin (wsV RX3 45 RX3 yX3_readCount wsX3_readCount) := goodIn_app (goodIn_of _ (by decide +kernel)) ggX3_readCountWithin_X3_readCount
theorem dX3_readCountWithin_0 : decode cX3_readCountWithin 0 = .ok (.aload_n 0, 1) := by decide +kernel
theorem dX3_readCountWithin_1 : decode cX3_readCountWithin 1 = .ok (.getfield 23, 3) := by decide +kernel
theorem dX3_readCountWithin_4 : decode cX3_readCountWithin 4 = .ok (.istore 5, 2) := by decide +kernel
theorem dX3_readCountWithin_6 : decode cX3_readCountWithin 6 = .ok (.aload_n 0, 1) := by decide +kernel
theorem dX3_readCountWithin_7 : decode cX3_readCountWithin 7 = .ok (.invokevirtual 45, 3) := by decide +kernel
theorem dX3_readCountWithin_10 : decode cX3_readCountWithin 10 = .ok (.lstore 6, 2) := by decide +kernel
theorem dX3_readCountWithin_12 : decode cX3_readCountWithin 12 = .ok (.aload_n 0, 1) := by decide +kernel
theorem dX3_readCountWithin_13 : decode cX3_readCountWithin 13 = .ok (.getfield 27, 3) := by decide +kernel
theorem dX3_readCountWithin_16 : decode cX3_readCountWithin 16 = .ok (.iconst (-1), 1) := by decide +kernel
theorem dX3_readCountWithin_17 : decode cX3_readCountWithin 17 = .ok (.if_icmp .ne 23, 3) := by decide +kernel
theorem dX3_readCountWithin_20 : decode cX3_readCountWithin 20 = .ok (.lload 6, 2) := by decide +kernel
theorem dX3_readCountWithin_22 : decode cX3_readCountWithin 22 = .ok (.lload_n 1, 1) := by decide +kernel
theorem dX3_readCountWithin_23 : decode cX3_readCountWithin 23 = .ok (.lcmp, 1) := by decide +kernel
theorem dX3_readCountWithin_24 : decode cX3_readCountWithin 24 = .ok (.ifCond .lt 10, 3) := by decide +kernel
theorem dX3_readCountWithin_27 : decode cX3_readCountWithin 27 = .ok (.lload 6, 2) := by decide +kernel
theorem dX3_readCountWithin_29 : decode cX3_readCountWithin 29 = .ok (.lload_n 3, 1) := by decide +kernel
theorem dX3_readCountWithin_30 : decode cX3_readCountWithin 30 = .ok (.lcmp, 1) := by decide +kernel
theorem dX3_readCountWithin_31 : decode cX3_readCountWithin 31 = .ok (.ifCond .le 9, 3) := by decide +kernel
theorem dX3_readCountWithin_34 : decode cX3_readCountWithin 34 = .ok (.aload_n 0, 1) := by decide +kernel
theorem dX3_readCountWithin_35 : decode cX3_readCountWithin 35 = .ok (.iload 5, 2) := by decide +kernel
theorem dX3_readCountWithin_37 : decode cX3_readCountWithin 37 = .ok (.putfield 27, 3) := by decide +kernel
theorem dX3_readCountWithin_40 : decode cX3_readCountWithin 40 = .ok (.lload 6, 2) := by decide +kernel
theorem dX3_readCountWithin_42 : decode cX3_readCountWithin 42 = .ok (.lreturn, 1) := by decide +kernel
set_option maxRecDepth 20000 in
theorem ggX3_readCount_X0_get : GoodIn wsX3_readCount wsX0_get := goodIn_r _ [11, 12, 13, 19, 20] (by decide +kernel) (by decide +kernel)
set_option maxRecDepth 20000 in
theorem gX3_readCount_X0_get : GoodIn wsX3_readCount (wsV RX3 122 RX0 yX0_get wsX0_get) := goodIn_app (goodIn_of _ (by decide +kernel)) ggX3_readCount_X0_get
theorem dX3_readCount_0 : decode cX3_readCount 0 = .ok (.aload_n 0, 1) := by decide +kernel
theorem dX3_readCount_1 : decode cX3_readCount 1 = .ok (.getfield 27, 3) := by decide +kernel
theorem dX3_readCount_4 : decode cX3_readCount 4 = .ok (.iconst (-1), 1) := by decide +kernel
theorem dX3_readCount_5 : decode cX3_readCount 5 = .ok (.if_icmp .eq 7, 3) := by decide +kernel
theorem dX3_readCount_8 : decode cX3_readCount 8 = .ok (.ldc2_w 120, 3) := by decide +kernel
theorem dX3_readCount_11 : decode cX3_readCount 11 = .ok (.lreturn, 1) := by decide +kernel
theorem dX3_readCount_12 : decode cX3_readCount 12 = .ok (.aload_n 0, 1) := by decide +kernel
theorem dX3_readCount_13 : decode cX3_readCount 13 = .ok (.getfield 23, 3) := by decide +kernel
theorem dX3_readCount_16 : decode cX3_readCount 16 = .ok (.istore_n 1, 1) := by decide +kernel
theorem dX3_readCount_17 : decode cX3_readCount 17 = .ok (.lconst 0, 1) := by decide +kernel
theorem dX3_readCount_18 : decode cX3_readCount 18 = .ok (.lstore_n 2, 1) := by decide +kernel
theorem dX3_readCount_19 : decode cX3_readCount 19 = .ok (.iconst 0, 1) := by decide +kernel
theorem dX3_readCount_20 : decode cX3_readCount 20 = .ok (.istore 4, 2) := by decide +kernel
theorem dX3_readCount_22 : decode cX3_readCount 22 = .ok (.iload 4, 2) := by decide +kernel
theorem dX3_readCount_24 : decode cX3_readCount 24 = .ok (.bipush 9, 2) := by decide +kernel
theorem dX3_readCount_26 : decode cX3_readCount 26 = .ok (.if_icmp .ge 125, 3) := by decide +kernel
theorem dX3_readCount_29 : decode cX3_readCount 29 = .ok (.aload_n 0, 1) := by decide +kernel
theorem dX3_readCount_30 : decode cX3_readCount 30 = .ok (.getfield 23, 3) := by decide +kernel
theorem dX3_readCount_33 : decode cX3_readCount 33 = .ok (.aload_n 0, 1) := by decide +kernel
theorem dX3_readCount_34 : decode cX3_readCount 34 = .ok (.getfield 9, 3) := by decide +kernel
theorem dX3_readCount_37 : decode cX3_readCount 37 = .ok (.getfield 30, 3) := by decide +kernel
theorem dX3_readCount_40 : decode cX3_readCount 40 = .ok (.if_icmp .ge 111, 3) := by decide +kernel
theorem dX3_readCount_43 : decode cX3_readCount 43 = .ok (.aload_n 0, 1) := by decide +kernel
theorem dX3_readCount_44 : decode cX3_readCount 44 = .ok (.getfield 9, 3) := by decide +kernel
theorem dX3_readCount_47 : decode cX3_readCount 47 = .ok (.aload_n 0, 1) := by decide +kernel
theorem dX3_readCount_48 : decode cX3_readCount 48 = .ok (.getfield 23, 3) := by decide +kernel
theorem dX3_readCount_51 : decode cX3_readCount 51 = .ok (.invokevirtual 122, 3) := by decide +kernel
theorem dX3_readCount_54 : decode cX3_readCount 54 = .ok (.istore 5, 2) := by decide +kernel
theorem dX3_readCount_56 : decode cX3_readCount 56 = .ok (.aload_n 0, 1) := by decide +kernel
theorem dX3_readCount_57 : decode cX3_readCount 57 = .ok (.dup, 1) := by decide +kernel
theorem dX3_readCount_58 : decode cX3_readCount 58 = .ok (.getfield 23, 3) := by decide +kernel
theorem dX3_readCount_61 : decode cX3_readCount 61 = .ok (.iconst 1, 1) := by decide +kernel
theorem dX3_readCount_62 : decode cX3_readCount 62 = .ok (.iadd, 1) := by decide +kernel
theorem dX3_readCount_63 : decode cX3_readCount 63 = .ok (.putfield 23, 3) := by decide +kernel
theorem dX3_readCount_66 : decode cX3_readCount 66 = .ok (.lload_n 2, 1) := by decide +kernel
theorem dX3_readCount_67 : decode cX3_readCount 67 = .ok (.iload 5, 2) := by decide +kernel
theorem dX3_readCount_69 : decode cX3_readCount 69 = .ok (.i2l, 1) := by decide +kernel
theorem dX3_readCount_70 : decode cX3_readCount 70 = .ok (.ldc2_w 124, 3) := by decide +kernel
theorem dX3_readCount_73 : decode cX3_readCount 73 = .ok (.land, 1) := by decide +kernel
theorem dX3_readCount_74 : decode cX3_readCount 74 = .ok (.bipush 7, 2) := by decide +kernel
theorem dX3_readCount_76 : decode cX3_readCount 76 = .ok (.iload 4, 2) := by decide +kernel
theorem dX3_readCount_78 : decode cX3_readCount 78 = .ok (.imul, 1) := by decide +kernel
theorem dX3_readCount_79 : decode cX3_readCount 79 = .ok (.lshl, 1) := by decide +kernel
theorem dX3_readCount_80 : decode cX3_readCount 80 = .ok (.lor, 1) := by decide +kernel
theorem dX3_readCount_81 : decode cX3_readCount 81 = .ok (.lstore_n 2, 1) := by decide +kernel
theorem dX3_readCount_82 : decode cX3_readCount 82 = .ok (.iload 5, 2) := by decide +kernel
theorem dX3_readCount_84 : decode cX3_readCount 84 = .ok (.sipush 128, 3) := by decide +kernel
theorem dX3_readCount_87 : decode cX3_readCount 87 = .ok (.if_icmp .ge 58, 3) := by decide +kernel
theorem dX3_readCount_90 : decode cX3_readCount 90 = .ok (.iload 5, 2) := by decide +kernel
theorem dX3_readCount_92 : decode cX3_readCount 92 = .ok (.ifCond .ne 12, 3) := by decide +kernel
theorem dX3_readCount_95 : decode cX3_readCount 95 = .ok (.iload 4, 2) := by decide +kernel
theorem dX3_readCount_97 : decode cX3_readCount 97 = .ok (.ifCond .le 7, 3) := by decide +kernel
theorem dX3_readCount_100 : decode cX3_readCount 100 = .ok (.iconst 1, 1) := by decide +kernel
theorem dX3_readCount_101 : decode cX3_readCount 101 = .ok (.goto 4, 3) := by decide +kernel
theorem dX3_readCount_104 : decode cX3_readCount 104 = .ok (.iconst 0, 1) := by decide +kernel
theorem dX3_readCount_105 : decode cX3_readCount 105 = .ok (.istore 6, 2) := by decide +kernel
theorem dX3_readCount_107 : decode cX3_readCount 107 = .ok (.aload_n 0, 1) := by decide +kernel
theorem dX3_readCount_108 : decode cX3_readCount 108 = .ok (.iload 6, 2) := by decide +kernel
theorem dX3_readCount_110 : decode cX3_readCount 110 = .ok (.ifCond .ne 11, 3) := by decide +kernel
theorem dX3_readCount_113 : decode cX3_readCount 113 = .ok (.lload_n 2, 1) := by decide +kernel
theorem dX3_readCount_114 : decode cX3_readCount 114 = .ok (.ldc2_w 61, 3) := by decide +kernel
theorem dX3_readCount_117 : decode cX3_readCount 117 = .ok (.lcmp, 1) := by decide +kernel
theorem dX3_readCount_118 : decode cX3_readCount 118 = .ok (.ifCond .le 7, 3) := by decide +kernel
theorem dX3_readCount_121 : decode cX3_readCount 121 = .ok (.iload_n 1, 1) := by decide +kernel
theorem dX3_readCount_122 : decode cX3_readCount 122 = .ok (.goto 4, 3) := by decide +kernel
theorem dX3_readCount_125 : decode cX3_readCount 125 = .ok (.iconst (-1), 1) := by decide +kernel
theorem dX3_readCount_126 : decode cX3_readCount 126 = .ok (.putfield 27, 3) := by decide +kernel
theorem dX3_readCount_129 : decode cX3_readCount 129 = .ok (.aload_n 0, 1) := by decide +kernel
theorem dX3_readCount_130 : decode cX3_readCount 130 = .ok (.getfield 27, 3) := by decide +kernel
theorem dX3_readCount_133 : decode cX3_readCount 133 = .ok (.iconst (-1), 1) := by decide +kernel
theorem dX3_readCount_134 : decode cX3_readCount 134 = .ok (.if_icmp .ne 7, 3) := by decide +kernel
theorem dX3_readCount_137 : decode cX3_readCount 137 = .ok (.lload_n 2, 1) := by decide +kernel
theorem dX3_readCount_138 : decode cX3_readCount 138 = .ok (.goto 6, 3) := by decide +kernel
theorem dX3_readCount_141 : decode cX3_readCount 141 = .ok (.ldc2_w 120, 3) := by decide +kernel
theorem dX3_readCount_144 : decode cX3_readCount 144 = .ok (.lreturn, 1) := by decide +kernel
theorem dX3_readCount_145 : decode cX3_readCount 145 = .ok (.iinc 4 1, 3) := by decide +kernel
theorem dX3_readCount_148 : decode cX3_readCount 148 = .ok (.goto (-126), 3) := by decide +kernel
theorem dX3_readCount_151 : decode cX3_readCount 151 = .ok (.aload_n 0, 1) := by decide +kernel
theorem dX3_readCount_152 : decode cX3_readCount 152 = .ok (.aload_n 0, 1) := by decide +kernel
theorem dX3_readCount_153 : decode cX3_readCount 153 = .ok (.getfield 23, 3) := by decide +kernel
theorem dX3_readCount_156 : decode cX3_readCount 156 = .ok (.aload_n 0, 1) := by decide +kernel
theorem dX3_readCount_157 : decode cX3_readCount 157 = .ok (.getfield 9, 3) := by decide +kernel
theorem dX3_readCount_160 : decode cX3_readCount 160 = .ok (.getfield 30, 3) := by decide +kernel
theorem dX3_readCount_163 : decode cX3_readCount 163 = .ok (.if_icmp .ge 7, 3) := by decide +kernel
theorem dX3_readCount_166 : decode cX3_readCount 166 = .ok (.iload_n 1, 1) := by decide +kernel
theorem dX3_readCount_167 : decode cX3_readCount 167 = .ok (.goto 10, 3) := by decide +kernel
theorem dX3_readCount_170 : decode cX3_readCount 170 = .ok (.aload_n 0, 1) := by decide +kernel
theorem dX3_readCount_171 : decode cX3_readCount 171 = .ok (.getfield 9, 3) := by decide +kernel
theorem dX3_readCount_174 : decode cX3_readCount 174 = .ok (.getfield 30, 3) := by decide +kernel
theorem dX3_readCount_177 : decode cX3_readCount 177 = .ok (.putfield 27, 3) := by decide +kernel
theorem dX3_readCount_180 : decode cX3_readCount 180 = .ok (.ldc2_w 120, 3) := by decide +kernel
theorem dX3_readCount_183 : decode cX3_readCount 183 = .ok (.lreturn, 1) := by decide +kernel
set_option maxRecDepth 20000 in
theorem ggX4_init_X0_init : GoodIn wsX4_init wsX0_init := goodIn_r _ [16, 17, 2, 3, 12, 18, 19, 35, 36] (by decide +kernel) (by decide +kernel)
set_option maxRecDepth 20000 in
theorem gX4_init_X0_init : GoodIn wsX4_init (wsX0_init) := ggX4_init_X0_init
set_option maxRecDepth 20000 in
theorem ggX4_init_Jx4a65c_init_da8c8 : GoodIn wsX4_init wsJx4a65c_init_da8c8 := goodIn_r _ [22, 23, 24, 25, 26, 27, 28, 29, 30, 31, 32, 33, 34, 2, 3, 40, 41, 42] (by decide +kernel) (by decide +kernel)
set_option maxRecDepth 20000 in
theorem gX4_init_Jx4a65c_init_da8c8 : GoodIn wsX4_init (wsJx4a65c_init_da8c8) := ggX4_init_Jx4a65c_init_da8c8
theorem dX4_init_0 : decode cX4_init 0 = .ok (.aload_n 0, 1) := by decide +kernel
theorem dX4_init_1 : decode cX4_init 1 = .ok (.invokespecial 3, 3) := by decide +kernel
theorem dX4_init_4 : decode cX4_init 4 = .ok (.aload_n 0, 1) := by decide +kernel
theorem dX4_init_5 : decode cX4_init 5 = .ok (.new 9, 3) := by decide +kernel
theorem dX4_init_8 : decode cX4_init 8 = .ok (.dup, 1) := by decide +kernel
theorem dX4_init_9 : decode cX4_init 9 = .ok (.invokespecial 11, 3) := by decide +kernel
theorem dX4_init_12 : decode cX4_init 12 = .ok (.putfield 12, 3) := by decide +kernel
theorem dX4_init_15 : decode cX4_init 15 = .ok (.aload_n 0, 1) := by decide +kernel
theorem dX4_init_16 : decode cX4_init 16 = .ok (.new 18, 3) := by decide +kernel
theorem dX4_init_19 : decode cX4_init 19 = .ok (.dup, 1) := by decide +kernel
theorem dX4_init_20 : decode cX4_init 20 = .ok (.invokespecial 20, 3) := by decide +kernel
theorem dX4_init_23 : decode cX4_init 23 = .ok (.putfield 21, 3) := by decide +kernel
theorem dX4_init_26 : decode cX4_init 26 = .ok (.aload_n 0, 1) := by decide +kernel
theorem dX4_init_27 : decode cX4_init 27 = .ok (.bipush 64, 2) := by decide +kernel
theorem dX4_init_29 : decode cX4_init 29 = .ok (.newarray .byte, 2) := by decide +kernel
theorem dX4_init_31 : decode cX4_init 31 = .ok (.putfield 25, 3) := by decide +kernel
theorem dX4_init_34 : decode cX4_init 34 = .ok (.return_, 1) := by decide +kernel
set_option maxRecDepth 20000 in
theorem ggX4_clear_X0_cut : GoodIn wsX4_clear wsX0_cut := goodIn_r _ [8, 9, 26, 27] (by decide +kernel) (by decide +kernel)
set_option maxRecDepth 20000 in
theorem gX4_clear_X0_cut : GoodIn wsX4_clear (wsV RX4 29 RX0 yX0_cut wsX0_cut) := goodIn_app (goodIn_of _ (by decide +kernel)) ggX4_clear_X0_cut
set_option maxRecDepth 20000 in
theorem ggX4_clear_Jx4a65c_clear_da8c8 : GoodIn wsX4_clear wsJx4a65c_clear_da8c8 := goodIn_r _ [14, 15, 16, 17, 18, 28, 29, 30] (by decide +kernel) (by decide +kernel)
set_option maxRecDepth 20000 in
theorem gX4_clear_Jx4a65c_clear_da8c8 : GoodIn wsX4_clear (wsV RX4 33 RJx4a65c yJx4a65c_clear_da8c8 wsJx4a65c_clear_da8c8) := goodIn_app (goodIn_of _ (by decide +kernel)) ggX4_clear_Jx4a65c_clear_da8c8
set_option maxRecDepth 20000 in
theorem ggX4_clear_J7_fill_031fb : GoodIn wsX4_clear wsJ7_fill_031fb := goodIn_r _ [22] (by decide +kernel) (by decide +kernel)
set_option maxRecDepth 20000 in
theorem gX4_clear_J7_fill_031fb : GoodIn wsX4_clear (va_wsS RX4 36 yJ7_fill_031fb wsJ7_fill_031fb) := goodIn_app (goodIn_of _ (by decide +kernel)) ggX4_clear_J7_fill_031fb
theorem dX4_clear_0 : decode cX4_clear 0 = .ok (.aload_n 0, 1) := by decide +kernel
theorem dX4_clear_1 : decode cX4_clear 1 = .ok (.getfield 12, 3) := by decide +kernel
theorem dX4_clear_4 : decode cX4_clear 4 = .ok (.iconst 0, 1) := by decide +kernel
theorem dX4_clear_5 : decode cX4_clear 5 = .ok (.invokevirtual 29, 3) := by decide +kernel
theorem dX4_clear_8 : decode cX4_clear 8 = .ok (.aload_n 0, 1) := by decide +kernel
theorem dX4_clear_9 : decode cX4_clear 9 = .ok (.getfield 21, 3) := by decide +kernel
theorem dX4_clear_12 : decode cX4_clear 12 = .ok (.invokevirtual 33, 3) := by decide +kernel
theorem dX4_clear_15 : decode cX4_clear 15 = .ok (.aload_n 0, 1) := by decide +kernel
theorem dX4_clear_16 : decode cX4_clear 16 = .ok (.getfield 25, 3) := by decide +kernel
theorem dX4_clear_19 : decode cX4_clear 19 = .ok (.iconst 0, 1) := by decide +kernel
theorem dX4_clear_20 : decode cX4_clear 20 = .ok (.invokestatic 36, 3) := by decide +kernel
theorem dX4_clear_23 : decode cX4_clear 23 = .ok (.return_, 1) := by decide +kernel
set_option maxRecDepth 20000 in
theorem ggX4_lastMoment_Jx4a65c_isEmpty_aae02 : GoodIn wsX4_lastMoment wsJx4a65c_isEmpty_aae02 := goodIn_r _ [7, 8, 33, 34, 35] (by decide +kernel) (by decide +kernel)
set_option maxRecDepth 20000 in
theorem gX4_lastMoment_Jx4a65c_isEmpty_aae02 : GoodIn wsX4_lastMoment (wsV RX4 42 RJx4a65c yJx4a65c_isEmpty_aae02 wsJx4a65c_isEmpty_aae02) := goodIn_app (goodIn_of _ (by decide +kernel)) ggX4_lastMoment_Jx4a65c_isEmpty_aae02
set_option maxRecDepth 20000 in
theorem ggX4_lastMoment_Jx4a65c_size_8abf5 : GoodIn wsX4_lastMoment wsJx4a65c_size_8abf5 := goodIn_r _ [12, 8, 33, 34, 35] (by decide +kernel) (by decide +kernel)
set_option maxRecDepth 20000 in
theorem gX4_lastMoment_Jx4a65c_size_8abf5 : GoodIn wsX4_lastMoment (wsV RX4 46 RJx4a65c yJx4a65c_size_8abf5 wsJx4a65c_size_8abf5) := goodIn_app (goodIn_of _ (by decide +kernel)) ggX4_lastMoment_Jx4a65c_size_8abf5
set_option maxRecDepth 20000 in
theorem ggX4_lastMoment_Jx4a65c_get_915e3 : GoodIn wsX4_lastMoment wsJx4a65c_get_915e3 := goodIn_r _ [16, 8, 17, 18, 19, 20, 21, 22, 23, 24, 25, 26, 27, 6, 28, 29, 33, 34, 35] (by decide +kernel) (by decide +kernel)
set_option maxRecDepth 20000 in
theorem gX4_lastMoment_Jx4a65c_get_915e3 : GoodIn wsX4_lastMoment (wsV RX4 50 RJx4a65c yJx4a65c_get_915e3 wsJx4a65c_get_915e3) := goodIn_app (goodIn_of _ (by decide +kernel)) ggX4_lastMoment_Jx4a65c_get_915e3
theorem dX4_lastMoment_0 : decode cX4_lastMoment 0 = .ok (.aload_n 0, 1) := by decide +kernel
theorem dX4_lastMoment_1 : decode cX4_lastMoment 1 = .ok (.getfield 21, 3) := by decide +kernel
theorem dX4_lastMoment_4 : decode cX4_lastMoment 4 = .ok (.invokevirtual 42, 3) := by decide +kernel
theorem dX4_lastMoment_7 : decode cX4_lastMoment 7 = .ok (.ifCond .eq 7, 3) := by decide +kernel
theorem dX4_lastMoment_10 : decode cX4_lastMoment 10 = .ok (.aconst_null, 1) := by decide +kernel
theorem dX4_lastMoment_11 : decode cX4_lastMoment 11 = .ok (.goto 22, 3) := by decide +kernel
theorem dX4_lastMoment_14 : decode cX4_lastMoment 14 = .ok (.aload_n 0, 1) := by decide +kernel
theorem dX4_lastMoment_15 : decode cX4_lastMoment 15 = .ok (.getfield 21, 3) := by decide +kernel
theorem dX4_lastMoment_18 : decode cX4_lastMoment 18 = .ok (.aload_n 0, 1) := by decide +kernel
theorem dX4_lastMoment_19 : decode cX4_lastMoment 19 = .ok (.getfield 21, 3) := by decide +kernel
theorem dX4_lastMoment_22 : decode cX4_lastMoment 22 = .ok (.invokevirtual 46, 3) := by decide +kernel
theorem dX4_lastMoment_25 : decode cX4_lastMoment 25 = .ok (.iconst 1, 1) := by decide +kernel
theorem dX4_lastMoment_26 : decode cX4_lastMoment 26 = .ok (.isub, 1) := by decide +kernel
theorem dX4_lastMoment_27 : decode cX4_lastMoment 27 = .ok (.invokevirtual 50, 3) := by decide +kernel
theorem dX4_lastMoment_30 : decode cX4_lastMoment 30 = .ok (.checkcast 54, 3) := by decide +kernel
theorem dX4_lastMoment_33 : decode cX4_lastMoment 33 = .ok (.areturn, 1) := by decide +kernel
set_option maxRecDepth 20000 in
theorem ggX4_lastTime_X4_lastMoment : GoodIn wsX4_lastTime wsX4_lastMoment := goodIn_r _ [5, 6, 7, 8, 9, 10, 11, 12, 13, 14, 15, 16, 17, 18, 19, 20, 21, 22, 23, 24, 25, 26, 27, 28, 29, 30, 31, 32, 33, 34, 39, 40, 41, 42, 43, 44] (by decide +kernel) (by decide +kernel)
set_option maxRecDepth 20000 in
theorem gX4_lastTime_X4_lastMoment : GoodIn wsX4_lastTime (wsV RX4 56 RX4 yX4_lastMoment wsX4_lastMoment) := goodIn_app (goodIn_of _ (by decide +kernel)) ggX4_lastTime_X4_lastMoment
theorem dX4_lastTime_0 : decode cX4_lastTime 0 = .ok (.aload_n 0, 1) := by decide +kernel
theorem dX4_lastTime_1 : decode cX4_lastTime 1 = .ok (.invokevirtual 56, 3) := by decide +kernel
theorem dX4_lastTime_4 : decode cX4_lastTime 4 = .ok (.astore_n 1, 1) := by decide +kernel
theorem dX4_lastTime_5 : decode cX4_lastTime 5 = .ok (.aload_n 1, 1) := by decide +kernel
theorem dX4_lastTime_6 : decode cX4_lastTime 6 = .ok (.ifnonnull 7, 3) := by decide +kernel
theorem dX4_lastTime_9 : decode cX4_lastTime 9 = .ok (.lconst 0, 1) := by decide +kernel
theorem dX4_lastTime_10 : decode cX4_lastTime 10 = .ok (.goto 7, 3) := by decide +kernel
theorem dX4_lastTime_13 : decode cX4_lastTime 13 = .ok (.aload_n 1, 1) := by decide +kernel
theorem dX4_lastTime_14 : decode cX4_lastTime 14 = .ok (.getfield 60, 3) := by decide +kernel
theorem dX4_lastTime_17 : decode cX4_lastTime 17 = .ok (.lreturn, 1) := by decide +kernel
set_option maxRecDepth 20000 in
theorem ggX4_lastStep_X4_lastMoment : GoodIn wsX4_lastStep wsX4_lastMoment := goodIn_r _ [6, 7, 8, 9, 10, 11, 12, 13, 14, 15, 16, 17, 18, 19, 20, 21, 22, 23, 24, 25, 26, 27, 28, 29, 30, 31, 32, 33, 34, 35, 40, 41, 42, 43, 44, 45] (by decide +kernel) (by decide +kernel)
set_option maxRecDepth 20000 in
theorem gX4_lastStep_X4_lastMoment : GoodIn wsX4_lastStep (wsV RX4 56 RX4 yX4_lastMoment wsX4_lastMoment) := goodIn_app (goodIn_of _ (by decide +kernel)) ggX4_lastStep_X4_lastMoment
theorem dX4_lastStep_0 : decode cX4_lastStep 0 = .ok (.aload_n 0, 1) := by decide +kernel
theorem dX4_lastStep_1 : decode cX4_lastStep 1 = .ok (.invokevirtual 56, 3) := by decide +kernel
theorem dX4_lastStep_4 : decode cX4_lastStep 4 = .ok (.astore_n 1, 1) := by decide +kernel
theorem dX4_lastStep_5 : decode cX4_lastStep 5 = .ok (.aload_n 1, 1) := by decide +kernel
theorem dX4_lastStep_6 : decode cX4_lastStep 6 = .ok (.ifnonnull 9, 3) := by decide +kernel
theorem dX4_lastStep_9 : decode cX4_lastStep 9 = .ok (.ldc2_w 64, 3) := by decide +kernel
theorem dX4_lastStep_12 : decode cX4_lastStep 12 = .ok (.goto 7, 3) := by decide +kernel
theorem dX4_lastStep_15 : decode cX4_lastStep 15 = .ok (.aload_n 1, 1) := by decide +kernel
theorem dX4_lastStep_16 : decode cX4_lastStep 16 = .ok (.getfield 66, 3) := by decide +kernel
theorem dX4_lastStep_19 : decode cX4_lastStep 19 = .ok (.lreturn, 1) := by decide +kernel
theorem dX4_valueOf_0 : decode cX4_valueOf 0 = .ok (.iload_n 1, 1) := by decide +kernel
theorem dX4_valueOf_1 : decode cX4_valueOf 1 = .ok (.bipush 64, 2) := by decide +kernel
theorem dX4_valueOf_3 : decode cX4_valueOf 3 = .ok (.imul, 1) := by decide +kernel
theorem dX4_valueOf_4 : decode cX4_valueOf 4 = .ok (.iload_n 2, 1) := by decide +kernel
theorem dX4_valueOf_5 : decode cX4_valueOf 5 = .ok (.iadd, 1) := by decide +kernel
theorem dX4_valueOf_6 : decode cX4_valueOf 6 = .ok (.istore_n 3, 1) := by decide +kernel
theorem dX4_valueOf_7 : decode cX4_valueOf 7 = .ok (.iload_n 3, 1) := by decide +kernel
theorem dX4_valueOf_8 : decode cX4_valueOf 8 = .ok (.ifCond .lt 21, 3) := by decide +kernel
theorem dX4_valueOf_11 : decode cX4_valueOf 11 = .ok (.iload_n 3, 1) := by decide +kernel
theorem dX4_valueOf_12 : decode cX4_valueOf 12 = .ok (.aload_n 0, 1) := by decide +kernel
theorem dX4_valueOf_13 : decode cX4_valueOf 13 = .ok (.getfield 25, 3) := by decide +kernel
theorem dX4_valueOf_16 : decode cX4_valueOf 16 = .ok (.arraylength, 1) := by decide +kernel
theorem dX4_valueOf_17 : decode cX4_valueOf 17 = .ok (.if_icmp .ge 12, 3) := by decide +kernel
theorem dX4_valueOf_20 : decode cX4_valueOf 20 = .ok (.aload_n 0, 1) := by decide +kernel
theorem dX4_valueOf_21 : decode cX4_valueOf 21 = .ok (.getfield 25, 3) := by decide +kernel
theorem dX4_valueOf_24 : decode cX4_valueOf 24 = .ok (.iload_n 3, 1) := by decide +kernel
theorem dX4_valueOf_25 : decode cX4_valueOf 25 = .ok (.baload, 1) := by decide +kernel
theorem dX4_valueOf_26 : decode cX4_valueOf 26 = .ok (.goto 4, 3) := by decide +kernel
theorem dX4_valueOf_29 : decode cX4_valueOf 29 = .ok (.iconst 0, 1) := by decide +kernel
theorem dX4_valueOf_30 : decode cX4_valueOf 30 = .ok (.ireturn, 1) := by decide +kernel
set_option maxRecDepth 20000 in
theorem ggX4_valueBehind_Jx4a65c_size_8abf5 : GoodIn wsX4_valueBehind wsJx4a65c_size_8abf5 := goodIn_r _ [7, 8, 63, 64, 65] (by decide +kernel) (by decide +kernel)
set_option maxRecDepth 20000 in
theorem gX4_valueBehind_Jx4a65c_size_8abf5 : GoodIn wsX4_valueBehind (wsV RX4 46 RJx4a65c yJx4a65c_size_8abf5 wsJx4a65c_size_8abf5) := goodIn_app (goodIn_of _ (by decide +kernel)) ggX4_valueBehind_Jx4a65c_size_8abf5
set_option maxRecDepth 20000 in
theorem ggX4_valueBehind_Jx4a65c_get_915e3 : GoodIn wsX4_valueBehind wsJx4a65c_get_915e3 := goodIn_r _ [12, 8, 13, 14, 15, 16, 17, 18, 19, 20, 21, 22, 23, 6, 24, 25, 63, 64, 65] (by decide +kernel) (by decide +kernel)
set_option maxRecDepth 20000 in
theorem gX4_valueBehind_Jx4a65c_get_915e3 : GoodIn wsX4_valueBehind (wsV RX4 50 RJx4a65c yJx4a65c_get_915e3 wsJx4a65c_get_915e3) := goodIn_app (goodIn_of _ (by decide +kernel)) ggX4_valueBehind_Jx4a65c_get_915e3
set_option maxRecDepth 20000 in
theorem ggX4_valueBehind_X2_isLaterThan : GoodIn wsX4_valueBehind wsX2_isLaterThan := goodIn_r _ [30, 31, 32, 66, 67, 68, 69] (by decide +kernel) (by decide +kernel)
set_option maxRecDepth 20000 in
theorem gX4_valueBehind_X2_isLaterThan : GoodIn wsX4_valueBehind (wsV RX4 69 RX2 yX2_isLaterThan wsX2_isLaterThan) := goodIn_app (goodIn_of _ (by decide +kernel)) ggX4_valueBehind_X2_isLaterThan
set_option maxRecDepth 20000 in
theorem ggX4_valueBehind_X2_valueBehind : GoodIn wsX4_valueBehind wsX2_valueBehind := goodIn_r _ [36, 37, 38, 39, 40, 41, 29, 42, 43, 4, 5, 6, 7, 8, 44, 10, 11, 12, 13, 14, 15, 16, 17, 18, 19, 20, 21, 22, 23, 24, 25, 45, 46, 47, 48, 49, 50, 51, 52, 53, 54, 55, 56, 57, 58, 59, 66, 67, 68, 69, 70, 71, 72, 73, 63, 64, 65] (by decide +kernel) (by decide +kernel)
set_option maxRecDepth 20000 in
theorem gX4_valueBehind_X2_valueBehind : GoodIn wsX4_valueBehind (wsV RX4 73 RX2 yX2_valueBehind wsX2_valueBehind) := goodIn_app (goodIn_of _ (by decide +kernel)) ggX4_valueBehind_X2_valueBehind
theorem dX4_valueBehind_0 : decode cX4_valueBehind 0 = .ok (.iconst 0, 1) := by decide +kernel
theorem dX4_valueBehind_1 : decode cX4_valueBehind 1 = .ok (.istore 7, 2) := by decide +kernel
theorem dX4_valueBehind_3 : decode cX4_valueBehind 3 = .ok (.iconst 0, 1) := by decide +kernel
theorem dX4_valueBehind_4 : decode cX4_valueBehind 4 = .ok (.istore 8, 2) := by decide +kernel
theorem dX4_valueBehind_6 : decode cX4_valueBehind 6 = .ok (.iload 8, 2) := by decide +kernel
theorem dX4_valueBehind_8 : decode cX4_valueBehind 8 = .ok (.aload_n 0, 1) := by decide +kernel
theorem dX4_valueBehind_9 : decode cX4_valueBehind 9 = .ok (.getfield 21, 3) := by decide +kernel
theorem dX4_valueBehind_12 : decode cX4_valueBehind 12 = .ok (.invokevirtual 46, 3) := by decide +kernel
theorem dX4_valueBehind_15 : decode cX4_valueBehind 15 = .ok (.if_icmp .ge 49, 3) := by decide +kernel
theorem dX4_valueBehind_18 : decode cX4_valueBehind 18 = .ok (.aload_n 0, 1) := by decide +kernel
theorem dX4_valueBehind_19 : decode cX4_valueBehind 19 = .ok (.getfield 21, 3) := by decide +kernel
theorem dX4_valueBehind_22 : decode cX4_valueBehind 22 = .ok (.iload 8, 2) := by decide +kernel
theorem dX4_valueBehind_24 : decode cX4_valueBehind 24 = .ok (.invokevirtual 50, 3) := by decide +kernel
theorem dX4_valueBehind_27 : decode cX4_valueBehind 27 = .ok (.checkcast 54, 3) := by decide +kernel
theorem dX4_valueBehind_30 : decode cX4_valueBehind 30 = .ok (.astore 9, 2) := by decide +kernel
theorem dX4_valueBehind_32 : decode cX4_valueBehind 32 = .ok (.aload 9, 2) := by decide +kernel
theorem dX4_valueBehind_34 : decode cX4_valueBehind 34 = .ok (.lload_n 1, 1) := by decide +kernel
theorem dX4_valueBehind_35 : decode cX4_valueBehind 35 = .ok (.lload_n 3, 1) := by decide +kernel
theorem dX4_valueBehind_36 : decode cX4_valueBehind 36 = .ok (.invokevirtual 69, 3) := by decide +kernel
theorem dX4_valueBehind_39 : decode cX4_valueBehind 39 = .ok (.ifCond .eq 6, 3) := by decide +kernel
theorem dX4_valueBehind_42 : decode cX4_valueBehind 42 = .ok (.iload 7, 2) := by decide +kernel
theorem dX4_valueBehind_44 : decode cX4_valueBehind 44 = .ok (.ireturn, 1) := by decide +kernel
theorem dX4_valueBehind_45 : decode cX4_valueBehind 45 = .ok (.aload 9, 2) := by decide +kernel
theorem dX4_valueBehind_47 : decode cX4_valueBehind 47 = .ok (.iload 5, 2) := by decide +kernel
theorem dX4_valueBehind_49 : decode cX4_valueBehind 49 = .ok (.iload 6, 2) := by decide +kernel
theorem dX4_valueBehind_51 : decode cX4_valueBehind 51 = .ok (.iload 7, 2) := by decide +kernel
theorem dX4_valueBehind_53 : decode cX4_valueBehind 53 = .ok (.invokevirtual 73, 3) := by decide +kernel
theorem dX4_valueBehind_56 : decode cX4_valueBehind 56 = .ok (.istore 7, 2) := by decide +kernel
theorem dX4_valueBehind_58 : decode cX4_valueBehind 58 = .ok (.iinc 8 1, 3) := by decide +kernel
theorem dX4_valueBehind_61 : decode cX4_valueBehind 61 = .ok (.goto (-55), 3) := by decide +kernel
theorem dX4_valueBehind_64 : decode cX4_valueBehind 64 = .ok (.iload 7, 2) := by decide +kernel
theorem dX4_valueBehind_66 : decode cX4_valueBehind 66 = .ok (.ireturn, 1) := by decide +kernel
set_option maxRecDepth 20000 in
theorem ggX4_append_X4_writeMoment : GoodIn wsX4_append wsX4_writeMoment := goodIn_r _ [9, 1, 10, 4, 11, 12, 13, 8, 14, 15, 16, 17, 18, 3, 19, 20, 21, 22, 23, 24, 25, 26, 27, 28, 29, 30, 31, 32, 33, 34, 35, 36, 37, 38, 39, 40, 41, 42, 43, 44, 45, 46, 47, 48, 49, 50, 51, 52, 53, 54, 55, 56, 57, 58, 59, 60, 61, 62, 63, 64, 65, 66, 67, 68, 69, 70, 71, 72, 73, 74, 75, 76, 77, 78, 79, 80, 81, 82, 143, 144, 145, 146, 138, 139, 140, 147, 148, 149, 150, 151, 152, 153, 141, 142] (by decide +kernel) (by decide +kernel)
set_option maxRecDepth 20000 in
theorem gX4_append_X4_writeMoment : GoodIn wsX4_append (wsV RX4 81 RX4 yX4_writeMoment wsX4_writeMoment) := goodIn_app (goodIn_of _ (by decide +kernel)) ggX4_append_X4_writeMoment
set_option maxRecDepth 20000 in
theorem ggX4_append_X0_cut : GoodIn wsX4_append wsX0_cut := goodIn_r _ [86, 62, 141, 142] (by decide +kernel) (by decide +kernel)
set_option maxRecDepth 20000 in
theorem gX4_append_X0_cut : GoodIn wsX4_append (wsV RX4 29 RX0 yX0_cut wsX0_cut) := goodIn_app (goodIn_of _ (by decide +kernel)) ggX4_append_X0_cut
set_option maxRecDepth 20000 in
theorem ggX4_append_Jx4a65c_add_9ea2d : GoodIn wsX4_append wsJx4a65c_add_9ea2d := goodIn_r _ [90, 91, 92, 46, 25, 93, 94, 95, 23, 96, 97, 98, 99, 100, 101, 102, 103, 104, 105, 106, 107, 77, 108, 109, 110, 111, 112, 113, 114, 115, 116, 117, 118, 119, 120, 66, 121, 122, 123, 124, 125, 126, 127, 128, 129, 130, 75, 76, 78, 79, 80, 81, 82, 151, 152, 153] (by decide +kernel) (by decide +kernel)
set_option maxRecDepth 20000 in
theorem gX4_append_Jx4a65c_add_9ea2d : GoodIn wsX4_append (wsV RX4 89 RJx4a65c yJx4a65c_add_9ea2d wsJx4a65c_add_9ea2d) := goodIn_app (goodIn_of _ (by decide +kernel)) ggX4_append_Jx4a65c_add_9ea2d
set_option maxRecDepth 20000 in
theorem ggX4_append_Jx4a65c_size_8abf5 : GoodIn wsX4_append wsJx4a65c_size_8abf5 := goodIn_r _ [29, 25, 151, 152, 153] (by decide +kernel) (by decide +kernel)
set_option maxRecDepth 20000 in
theorem gX4_append_Jx4a65c_size_8abf5 : GoodIn wsX4_append (wsV RX4 46 RJx4a65c yJx4a65c_size_8abf5 wsJx4a65c_size_8abf5) := goodIn_app (goodIn_of _ (by decide +kernel)) ggX4_append_Jx4a65c_size_8abf5
set_option maxRecDepth 20000 in
theorem ggX4_append_Jx4a65c_get_915e3 : GoodIn wsX4_append wsJx4a65c_get_915e3 := goodIn_r _ [33, 25, 34, 35, 36, 37, 38, 39, 40, 41, 42, 43, 44, 23, 45, 46, 151, 152, 153] (by decide +kernel) (by decide +kernel)
set_option maxRecDepth 20000 in
theorem gX4_append_Jx4a65c_get_915e3 : GoodIn wsX4_append (wsV RX4 50 RJx4a65c yJx4a65c_get_915e3 wsJx4a65c_get_915e3) := goodIn_app (goodIn_of _ (by decide +kernel)) ggX4_append_Jx4a65c_get_915e3
set_option maxRecDepth 20000 in
theorem ggX4_append_X4_keepValue : GoodIn wsX4_append wsX4_keepValue := goodIn_r _ [134, 135, 136, 107, 77, 108, 137, 65, 66, 67, 68, 69, 70, 71, 72, 73, 74, 75, 76, 78, 79, 80, 81, 82, 147, 148, 149, 150, 138, 139, 140] (by decide +kernel) (by decide +kernel)
set_option maxRecDepth 20000 in
theorem gX4_append_X4_keepValue : GoodIn wsX4_append (wsV RX4 98 RX4 yX4_keepValue wsX4_keepValue) := goodIn_app (goodIn_of _ (by decide +kernel)) ggX4_append_X4_keepValue
theorem dX4_append_0 : decode cX4_append 0 = .ok (.aload_n 0, 1) := by decide +kernel
theorem dX4_append_1 : decode cX4_append 1 = .ok (.getfield 12, 3) := by decide +kernel
theorem dX4_append_4 : decode cX4_append 4 = .ok (.getfield 77, 3) := by decide +kernel
theorem dX4_append_7 : decode cX4_append 7 = .ok (.istore_n 2, 1) := by decide +kernel
theorem dX4_append_8 : decode cX4_append 8 = .ok (.aload_n 0, 1) := by decide +kernel
theorem dX4_append_9 : decode cX4_append 9 = .ok (.aload_n 1, 1) := by decide +kernel
theorem dX4_append_10 : decode cX4_append 10 = .ok (.invokevirtual 81, 3) := by decide +kernel
theorem dX4_append_13 : decode cX4_append 13 = .ok (.aload_n 0, 1) := by decide +kernel
theorem dX4_append_14 : decode cX4_append 14 = .ok (.getfield 12, 3) := by decide +kernel
theorem dX4_append_17 : decode cX4_append 17 = .ok (.getfield 77, 3) := by decide +kernel
theorem dX4_append_20 : decode cX4_append 20 = .ok (.ldc 85, 2) := by decide +kernel
theorem dX4_append_22 : decode cX4_append 22 = .ok (.if_icmp .le 13, 3) := by decide +kernel
theorem dX4_append_25 : decode cX4_append 25 = .ok (.aload_n 0, 1) := by decide +kernel
theorem dX4_append_26 : decode cX4_append 26 = .ok (.getfield 12, 3) := by decide +kernel
theorem dX4_append_29 : decode cX4_append 29 = .ok (.iload_n 2, 1) := by decide +kernel
theorem dX4_append_30 : decode cX4_append 30 = .ok (.invokevirtual 29, 3) := by decide +kernel
theorem dX4_append_33 : decode cX4_append 33 = .ok (.iconst 0, 1) := by decide +kernel
theorem dX4_append_34 : decode cX4_append 34 = .ok (.ireturn, 1) := by decide +kernel
theorem dX4_append_35 : decode cX4_append 35 = .ok (.aload_n 1, 1) := by decide +kernel
theorem dX4_append_36 : decode cX4_append 36 = .ok (.iload_n 2, 1) := by decide +kernel
theorem dX4_append_37 : decode cX4_append 37 = .ok (.putfield 86, 3) := by decide +kernel
theorem dX4_append_40 : decode cX4_append 40 = .ok (.aload_n 0, 1) := by decide +kernel
theorem dX4_append_41 : decode cX4_append 41 = .ok (.getfield 21, 3) := by decide +kernel
theorem dX4_append_44 : decode cX4_append 44 = .ok (.aload_n 1, 1) := by decide +kernel
theorem dX4_append_45 : decode cX4_append 45 = .ok (.invokevirtual 89, 3) := by decide +kernel
theorem dX4_append_48 : decode cX4_append 48 = .ok (.pop, 1) := by decide +kernel
theorem dX4_append_49 : decode cX4_append 49 = .ok (.iconst 0, 1) := by decide +kernel
theorem dX4_append_50 : decode cX4_append 50 = .ok (.istore_n 3, 1) := by decide +kernel
theorem dX4_append_51 : decode cX4_append 51 = .ok (.iload_n 3, 1) := by decide +kernel
theorem dX4_append_52 : decode cX4_append 52 = .ok (.aload_n 1, 1) := by decide +kernel
theorem dX4_append_53 : decode cX4_append 53 = .ok (.getfield 93, 3) := by decide +kernel
theorem dX4_append_56 : decode cX4_append 56 = .ok (.invokevirtual 46, 3) := by decide +kernel
theorem dX4_append_59 : decode cX4_append 59 = .ok (.if_icmp .ge 24, 3) := by decide +kernel
theorem dX4_append_62 : decode cX4_append 62 = .ok (.aload_n 0, 1) := by decide +kernel
theorem dX4_append_63 : decode cX4_append 63 = .ok (.aload_n 1, 1) := by decide +kernel
theorem dX4_append_64 : decode cX4_append 64 = .ok (.getfield 93, 3) := by decide +kernel
theorem dX4_append_67 : decode cX4_append 67 = .ok (.iload_n 3, 1) := by decide +kernel
theorem dX4_append_68 : decode cX4_append 68 = .ok (.invokevirtual 50, 3) := by decide +kernel
theorem dX4_append_71 : decode cX4_append 71 = .ok (.checkcast 96, 3) := by decide +kernel
theorem dX4_append_74 : decode cX4_append 74 = .ok (.invokevirtual 98, 3) := by decide +kernel
theorem dX4_append_77 : decode cX4_append 77 = .ok (.iinc 3 1, 3) := by decide +kernel
theorem dX4_append_80 : decode cX4_append 80 = .ok (.goto (-29), 3) := by decide +kernel
theorem dX4_append_83 : decode cX4_append 83 = .ok (.iconst 1, 1) := by decide +kernel
theorem dX4_append_84 : decode cX4_append 84 = .ok (.ireturn, 1) := by decide +kernel
set_option maxRecDepth 20000 in
theorem ggX4_writeMoment_X4_lastTime : GoodIn wsX4_writeMoment wsX4_lastTime := goodIn_r _ [8, 9, 10, 11, 7, 12, 13, 14, 15, 16, 17, 18, 19, 20, 21, 22, 23, 24, 25, 26, 27, 28, 29, 30, 31, 32, 33, 34, 35, 36, 37, 38, 39, 40, 41, 78, 79, 80, 81, 82, 83, 84, 89, 90, 91] (by decide +kernel) (by decide +kernel)
set_option maxRecDepth 20000 in
theorem gX4_writeMoment_X4_lastTime : GoodIn wsX4_writeMoment (wsV RX4 102 RX4 yX4_lastTime wsX4_lastTime) := goodIn_app (goodIn_of _ (by decide +kernel)) ggX4_writeMoment_X4_lastTime
set_option maxRecDepth 20000 in
theorem ggX4_writeMoment_X4_lastStep : GoodIn wsX4_writeMoment wsX4_lastStep := goodIn_r _ [45, 46, 9, 10, 11, 7, 12, 13, 14, 15, 16, 17, 18, 19, 20, 21, 22, 23, 24, 25, 26, 27, 28, 29, 30, 31, 32, 33, 34, 35, 36, 37, 38, 39, 40, 41, 78, 79, 80, 81, 82, 83, 84, 89, 90, 91] (by decide +kernel) (by decide +kernel)
set_option maxRecDepth 20000 in
theorem gX4_writeMoment_X4_lastStep : GoodIn wsX4_writeMoment (wsV RX4 108 RX4 yX4_lastStep wsX4_lastStep) := goodIn_app (goodIn_of _ (by decide +kernel)) ggX4_writeMoment_X4_lastStep
set_option maxRecDepth 20000 in
theorem ggX4_writeMoment_X0_addCount : GoodIn wsX4_writeMoment wsX0_addCount := goodIn_r _ [51, 52, 53, 54, 55, 50, 56, 57, 58, 59, 60, 61, 62, 63, 64, 65, 66, 67, 68, 69, 70, 71, 72, 73, 74, 75, 76, 77, 92, 93] (by decide +kernel) (by decide +kernel)
set_option maxRecDepth 20000 in
theorem gX4_writeMoment_X0_addCount : GoodIn wsX4_writeMoment (wsV RX4 111 RX0 yX0_addCount wsX0_addCount) := goodIn_app (goodIn_of _ (by decide +kernel)) ggX4_writeMoment_X0_addCount
set_option maxRecDepth 20000 in
theorem ggX4_writeMoment_Jx4a65c_size_8abf5 : GoodIn wsX4_writeMoment wsJx4a65c_size_8abf5 := goodIn_r _ [24, 20, 89, 90, 91] (by decide +kernel) (by decide +kernel)
set_option maxRecDepth 20000 in
theorem gX4_writeMoment_Jx4a65c_size_8abf5 : GoodIn wsX4_writeMoment (wsV RX4 46 RJx4a65c yJx4a65c_size_8abf5 wsJx4a65c_size_8abf5) := goodIn_app (goodIn_of _ (by decide +kernel)) ggX4_writeMoment_Jx4a65c_size_8abf5
set_option maxRecDepth 20000 in
theorem ggX4_writeMoment_Jx4a65c_get_915e3 : GoodIn wsX4_writeMoment wsJx4a65c_get_915e3 := goodIn_r _ [28, 20, 29, 30, 31, 32, 33, 34, 35, 36, 37, 38, 39, 18, 40, 41, 89, 90, 91] (by decide +kernel) (by decide +kernel)
set_option maxRecDepth 20000 in
theorem gX4_writeMoment_Jx4a65c_get_915e3 : GoodIn wsX4_writeMoment (wsV RX4 50 RJx4a65c yJx4a65c_get_915e3 wsJx4a65c_get_915e3) := goodIn_app (goodIn_of _ (by decide +kernel)) ggX4_writeMoment_Jx4a65c_get_915e3
theorem dX4_writeMoment_0 : decode cX4_writeMoment 0 = .ok (.aload_n 1, 1) := by decide +kernel
theorem dX4_writeMoment_1 : decode cX4_writeMoment 1 = .ok (.getfield 60, 3) := by decide +kernel
theorem dX4_writeMoment_4 : decode cX4_writeMoment 4 = .ok (.aload_n 0, 1) := by decide +kernel
theorem dX4_writeMoment_5 : decode cX4_writeMoment 5 = .ok (.invokevirtual 102, 3) := by decide +kernel
theorem dX4_writeMoment_8 : decode cX4_writeMoment 8 = .ok (.lsub, 1) := by decide +kernel
theorem dX4_writeMoment_9 : decode cX4_writeMoment 9 = .ok (.lstore_n 2, 1) := by decide +kernel
theorem dX4_writeMoment_10 : decode cX4_writeMoment 10 = .ok (.lload_n 2, 1) := by decide +kernel
theorem dX4_writeMoment_11 : decode cX4_writeMoment 11 = .ok (.lconst 0, 1) := by decide +kernel
theorem dX4_writeMoment_12 : decode cX4_writeMoment 12 = .ok (.lcmp, 1) := by decide +kernel
theorem dX4_writeMoment_13 : decode cX4_writeMoment 13 = .ok (.ifCond .ne 28, 3) := by decide +kernel
theorem dX4_writeMoment_16 : decode cX4_writeMoment 16 = .ok (.aload_n 0, 1) := by decide +kernel
theorem dX4_writeMoment_17 : decode cX4_writeMoment 17 = .ok (.getfield 12, 3) := by decide +kernel
theorem dX4_writeMoment_20 : decode cX4_writeMoment 20 = .ok (.ldc2_w 106, 3) := by decide +kernel
theorem dX4_writeMoment_23 : decode cX4_writeMoment 23 = .ok (.aload_n 1, 1) := by decide +kernel
theorem dX4_writeMoment_24 : decode cX4_writeMoment 24 = .ok (.getfield 66, 3) := by decide +kernel
theorem dX4_writeMoment_27 : decode cX4_writeMoment 27 = .ok (.aload_n 0, 1) := by decide +kernel
theorem dX4_writeMoment_28 : decode cX4_writeMoment 28 = .ok (.invokevirtual 108, 3) := by decide +kernel
theorem dX4_writeMoment_31 : decode cX4_writeMoment 31 = .ok (.lsub, 1) := by decide +kernel
theorem dX4_writeMoment_32 : decode cX4_writeMoment 32 = .ok (.lmul, 1) := by decide +kernel
theorem dX4_writeMoment_33 : decode cX4_writeMoment 33 = .ok (.lconst 1, 1) := by decide +kernel
theorem dX4_writeMoment_34 : decode cX4_writeMoment 34 = .ok (.ladd, 1) := by decide +kernel
theorem dX4_writeMoment_35 : decode cX4_writeMoment 35 = .ok (.invokevirtual 111, 3) := by decide +kernel
theorem dX4_writeMoment_38 : decode cX4_writeMoment 38 = .ok (.goto 26, 3) := by decide +kernel
theorem dX4_writeMoment_41 : decode cX4_writeMoment 41 = .ok (.aload_n 0, 1) := by decide +kernel
theorem dX4_writeMoment_42 : decode cX4_writeMoment 42 = .ok (.getfield 12, 3) := by decide +kernel
theorem dX4_writeMoment_45 : decode cX4_writeMoment 45 = .ok (.ldc2_w 106, 3) := by decide +kernel
theorem dX4_writeMoment_48 : decode cX4_writeMoment 48 = .ok (.lload_n 2, 1) := by decide +kernel
theorem dX4_writeMoment_49 : decode cX4_writeMoment 49 = .ok (.lmul, 1) := by decide +kernel
theorem dX4_writeMoment_50 : decode cX4_writeMoment 50 = .ok (.invokevirtual 111, 3) := by decide +kernel
theorem dX4_writeMoment_53 : decode cX4_writeMoment 53 = .ok (.aload_n 0, 1) := by decide +kernel
theorem dX4_writeMoment_54 : decode cX4_writeMoment 54 = .ok (.getfield 12, 3) := by decide +kernel
theorem dX4_writeMoment_57 : decode cX4_writeMoment 57 = .ok (.aload_n 1, 1) := by decide +kernel
theorem dX4_writeMoment_58 : decode cX4_writeMoment 58 = .ok (.getfield 66, 3) := by decide +kernel
theorem dX4_writeMoment_61 : decode cX4_writeMoment 61 = .ok (.invokevirtual 111, 3) := by decide +kernel
theorem dX4_writeMoment_64 : decode cX4_writeMoment 64 = .ok (.aload_n 0, 1) := by decide +kernel
theorem dX4_writeMoment_65 : decode cX4_writeMoment 65 = .ok (.getfield 12, 3) := by decide +kernel
theorem dX4_writeMoment_68 : decode cX4_writeMoment 68 = .ok (.aload_n 1, 1) := by decide +kernel
theorem dX4_writeMoment_69 : decode cX4_writeMoment 69 = .ok (.getfield 93, 3) := by decide +kernel
theorem dX4_writeMoment_72 : decode cX4_writeMoment 72 = .ok (.invokevirtual 46, 3) := by decide +kernel
theorem dX4_writeMoment_75 : decode cX4_writeMoment 75 = .ok (.i2l, 1) := by decide +kernel
theorem dX4_writeMoment_76 : decode cX4_writeMoment 76 = .ok (.invokevirtual 111, 3) := by decide +kernel
theorem dX4_writeMoment_79 : decode cX4_writeMoment 79 = .ok (.iconst 0, 1) := by decide +kernel
theorem dX4_writeMoment_80 : decode cX4_writeMoment 80 = .ok (.istore 4, 2) := by decide +kernel
theorem dX4_writeMoment_82 : decode cX4_writeMoment 82 = .ok (.iconst 0, 1) := by decide +kernel
theorem dX4_writeMoment_83 : decode cX4_writeMoment 83 = .ok (.istore 5, 2) := by decide +kernel
theorem dX4_writeMoment_85 : decode cX4_writeMoment 85 = .ok (.iload 5, 2) := by decide +kernel
theorem dX4_writeMoment_87 : decode cX4_writeMoment 87 = .ok (.aload_n 1, 1) := by decide +kernel
theorem dX4_writeMoment_88 : decode cX4_writeMoment 88 = .ok (.getfield 93, 3) := by decide +kernel
theorem dX4_writeMoment_91 : decode cX4_writeMoment 91 = .ok (.invokevirtual 46, 3) := by decide +kernel
theorem dX4_writeMoment_94 : decode cX4_writeMoment 94 = .ok (.if_icmp .ge 68, 3) := by decide +kernel
theorem dX4_writeMoment_97 : decode cX4_writeMoment 97 = .ok (.aload_n 1, 1) := by decide +kernel
theorem dX4_writeMoment_98 : decode cX4_writeMoment 98 = .ok (.getfield 93, 3) := by decide +kernel
theorem dX4_writeMoment_101 : decode cX4_writeMoment 101 = .ok (.iload 5, 2) := by decide +kernel
theorem dX4_writeMoment_103 : decode cX4_writeMoment 103 = .ok (.invokevirtual 50, 3) := by decide +kernel
theorem dX4_writeMoment_106 : decode cX4_writeMoment 106 = .ok (.checkcast 96, 3) := by decide +kernel
theorem dX4_writeMoment_109 : decode cX4_writeMoment 109 = .ok (.astore 6, 2) := by decide +kernel
theorem dX4_writeMoment_111 : decode cX4_writeMoment 111 = .ok (.aload_n 0, 1) := by decide +kernel
theorem dX4_writeMoment_112 : decode cX4_writeMoment 112 = .ok (.getfield 12, 3) := by decide +kernel
theorem dX4_writeMoment_115 : decode cX4_writeMoment 115 = .ok (.aload 6, 2) := by decide +kernel
theorem dX4_writeMoment_117 : decode cX4_writeMoment 117 = .ok (.getfield 115, 3) := by decide +kernel
theorem dX4_writeMoment_120 : decode cX4_writeMoment 120 = .ok (.iload 4, 2) := by decide +kernel
theorem dX4_writeMoment_122 : decode cX4_writeMoment 122 = .ok (.isub, 1) := by decide +kernel
theorem dX4_writeMoment_123 : decode cX4_writeMoment 123 = .ok (.i2l, 1) := by decide +kernel
theorem dX4_writeMoment_124 : decode cX4_writeMoment 124 = .ok (.invokevirtual 111, 3) := by decide +kernel
theorem dX4_writeMoment_127 : decode cX4_writeMoment 127 = .ok (.aload_n 0, 1) := by decide +kernel
theorem dX4_writeMoment_128 : decode cX4_writeMoment 128 = .ok (.getfield 12, 3) := by decide +kernel
theorem dX4_writeMoment_131 : decode cX4_writeMoment 131 = .ok (.bipush 16, 2) := by decide +kernel
theorem dX4_writeMoment_133 : decode cX4_writeMoment 133 = .ok (.aload 6, 2) := by decide +kernel
theorem dX4_writeMoment_135 : decode cX4_writeMoment 135 = .ok (.getfield 118, 3) := by decide +kernel
theorem dX4_writeMoment_138 : decode cX4_writeMoment 138 = .ok (.imul, 1) := by decide +kernel
theorem dX4_writeMoment_139 : decode cX4_writeMoment 139 = .ok (.aload 6, 2) := by decide +kernel
theorem dX4_writeMoment_141 : decode cX4_writeMoment 141 = .ok (.getfield 121, 3) := by decide +kernel
theorem dX4_writeMoment_144 : decode cX4_writeMoment 144 = .ok (.iadd, 1) := by decide +kernel
theorem dX4_writeMoment_145 : decode cX4_writeMoment 145 = .ok (.i2l, 1) := by decide +kernel
theorem dX4_writeMoment_146 : decode cX4_writeMoment 146 = .ok (.invokevirtual 111, 3) := by decide +kernel
theorem dX4_writeMoment_149 : decode cX4_writeMoment 149 = .ok (.aload 6, 2) := by decide +kernel
theorem dX4_writeMoment_151 : decode cX4_writeMoment 151 = .ok (.getfield 115, 3) := by decide +kernel
theorem dX4_writeMoment_154 : decode cX4_writeMoment 154 = .ok (.istore 4, 2) := by decide +kernel
theorem dX4_writeMoment_156 : decode cX4_writeMoment 156 = .ok (.iinc 5 1, 3) := by decide +kernel
theorem dX4_writeMoment_159 : decode cX4_writeMoment 159 = .ok (.goto (-74), 3) := by decide +kernel
theorem dX4_writeMoment_162 : decode cX4_writeMoment 162 = .ok (.return_, 1) := by decide +kernel
set_option maxRecDepth 20000 in
theorem ggX4_keepValue_J7_copyOf_9075b : GoodIn wsX4_keepValue wsJ7_copyOf_9075b := goodIn_r _ [9, 10, 11, 12, 13, 14, 15, 16, 17, 18, 4, 19, 20, 21, 22, 23] (by decide +kernel) (by decide +kernel)
set_option maxRecDepth 20000 in
theorem gX4_keepValue_J7_copyOf_9075b : GoodIn wsX4_keepValue (va_wsS RX4 130 yJ7_copyOf_9075b wsJ7_copyOf_9075b) := goodIn_app (goodIn_of _ (by decide +kernel)) ggX4_keepValue_J7_copyOf_9075b
theorem dX4_keepValue_0 : decode cX4_keepValue 0 = .ok (.aload_n 1, 1) := by decide +kernel
theorem dX4_keepValue_1 : decode cX4_keepValue 1 = .ok (.getfield 115, 3) := by decide +kernel
theorem dX4_keepValue_4 : decode cX4_keepValue 4 = .ok (.bipush 64, 2) := by decide +kernel
theorem dX4_keepValue_6 : decode cX4_keepValue 6 = .ok (.imul, 1) := by decide +kernel
theorem dX4_keepValue_7 : decode cX4_keepValue 7 = .ok (.aload_n 1, 1) := by decide +kernel
theorem dX4_keepValue_8 : decode cX4_keepValue 8 = .ok (.getfield 118, 3) := by decide +kernel
theorem dX4_keepValue_11 : decode cX4_keepValue 11 = .ok (.iadd, 1) := by decide +kernel
theorem dX4_keepValue_12 : decode cX4_keepValue 12 = .ok (.istore_n 2, 1) := by decide +kernel
theorem dX4_keepValue_13 : decode cX4_keepValue 13 = .ok (.iload_n 2, 1) := by decide +kernel
theorem dX4_keepValue_14 : decode cX4_keepValue 14 = .ok (.aload_n 0, 1) := by decide +kernel
theorem dX4_keepValue_15 : decode cX4_keepValue 15 = .ok (.getfield 25, 3) := by decide +kernel
theorem dX4_keepValue_18 : decode cX4_keepValue 18 = .ok (.arraylength, 1) := by decide +kernel
theorem dX4_keepValue_19 : decode cX4_keepValue 19 = .ok (.if_icmp .lt 27, 3) := by decide +kernel
theorem dX4_keepValue_22 : decode cX4_keepValue 22 = .ok (.aload_n 0, 1) := by decide +kernel
theorem dX4_keepValue_23 : decode cX4_keepValue 23 = .ok (.aload_n 0, 1) := by decide +kernel
theorem dX4_keepValue_24 : decode cX4_keepValue 24 = .ok (.getfield 25, 3) := by decide +kernel
theorem dX4_keepValue_27 : decode cX4_keepValue 27 = .ok (.iload_n 2, 1) := by decide +kernel
theorem dX4_keepValue_28 : decode cX4_keepValue 28 = .ok (.iconst 1, 1) := by decide +kernel
theorem dX4_keepValue_29 : decode cX4_keepValue 29 = .ok (.iadd, 1) := by decide +kernel
theorem dX4_keepValue_30 : decode cX4_keepValue 30 = .ok (.iconst 2, 1) := by decide +kernel
theorem dX4_keepValue_31 : decode cX4_keepValue 31 = .ok (.aload_n 0, 1) := by decide +kernel
theorem dX4_keepValue_32 : decode cX4_keepValue 32 = .ok (.getfield 25, 3) := by decide +kernel
theorem dX4_keepValue_35 : decode cX4_keepValue 35 = .ok (.arraylength, 1) := by decide +kernel
theorem dX4_keepValue_36 : decode cX4_keepValue 36 = .ok (.imul, 1) := by decide +kernel
theorem dX4_keepValue_37 : decode cX4_keepValue 37 = .ok (.invokestatic 124, 3) := by decide +kernel
theorem dX4_keepValue_40 : decode cX4_keepValue 40 = .ok (.invokestatic 130, 3) := by decide +kernel
theorem dX4_keepValue_43 : decode cX4_keepValue 43 = .ok (.putfield 25, 3) := by decide +kernel
theorem dX4_keepValue_46 : decode cX4_keepValue 46 = .ok (.iload_n 2, 1) := by decide +kernel
theorem dX4_keepValue_47 : decode cX4_keepValue 47 = .ok (.ifCond .lt 14, 3) := by decide +kernel
theorem dX4_keepValue_50 : decode cX4_keepValue 50 = .ok (.aload_n 0, 1) := by decide +kernel
theorem dX4_keepValue_51 : decode cX4_keepValue 51 = .ok (.getfield 25, 3) := by decide +kernel
theorem dX4_keepValue_54 : decode cX4_keepValue 54 = .ok (.iload_n 2, 1) := by decide +kernel
theorem dX4_keepValue_55 : decode cX4_keepValue 55 = .ok (.aload_n 1, 1) := by decide +kernel
theorem dX4_keepValue_56 : decode cX4_keepValue 56 = .ok (.getfield 121, 3) := by decide +kernel
theorem dX4_keepValue_59 : decode cX4_keepValue 59 = .ok (.i2b, 1) := by decide +kernel
theorem dX4_keepValue_60 : decode cX4_keepValue 60 = .ok (.bastore, 1) := by decide +kernel
theorem dX4_keepValue_61 : decode cX4_keepValue 61 = .ok (.return_, 1) := by decide +kernel
theorem dX5_init_0 : decode cX5_init 0 = .ok (.aload_n 0, 1) := by decide +kernel
theorem dX5_init_1 : decode cX5_init 1 = .ok (.invokespecial 3, 3) := by decide +kernel
theorem dX5_init_4 : decode cX5_init 4 = .ok (.aload_n 0, 1) := by decide +kernel
theorem dX5_init_5 : decode cX5_init 5 = .ok (.sipush 200, 3) := by decide +kernel
theorem dX5_init_8 : decode cX5_init 8 = .ok (.newarray .int, 2) := by decide +kernel
theorem dX5_init_10 : decode cX5_init 10 = .ok (.putfield 9, 3) := by decide +kernel
theorem dX5_init_13 : decode cX5_init 13 = .ok (.aload_n 0, 1) := by decide +kernel
theorem dX5_init_14 : decode cX5_init 14 = .ok (.iconst 0, 1) := by decide +kernel
theorem dX5_init_15 : decode cX5_init 15 = .ok (.putfield 15, 3) := by decide +kernel
theorem dX5_init_18 : decode cX5_init 18 = .ok (.return_, 1) := by decide +kernel
theorem dX5_has_0 : decode cX5_has 0 = .ok (.iload_n 1, 1) := by decide +kernel
theorem dX5_has_1 : decode cX5_has 1 = .ok (.ifCond .lt 24, 3) := by decide +kernel
theorem dX5_has_4 : decode cX5_has 4 = .ok (.iload_n 1, 1) := by decide +kernel
theorem dX5_has_5 : decode cX5_has 5 = .ok (.aload_n 0, 1) := by decide +kernel
theorem dX5_has_6 : decode cX5_has 6 = .ok (.getfield 15, 3) := by decide +kernel
theorem dX5_has_9 : decode cX5_has 9 = .ok (.if_icmp .ge 16, 3) := by decide +kernel
theorem dX5_has_12 : decode cX5_has 12 = .ok (.iload_n 1, 1) := by decide +kernel
theorem dX5_has_13 : decode cX5_has 13 = .ok (.aload_n 0, 1) := by decide +kernel
theorem dX5_has_14 : decode cX5_has 14 = .ok (.getfield 9, 3) := by decide +kernel
theorem dX5_has_17 : decode cX5_has 17 = .ok (.arraylength, 1) := by decide +kernel
theorem dX5_has_18 : decode cX5_has 18 = .ok (.if_icmp .ge 7, 3) := by decide +kernel
theorem dX5_has_21 : decode cX5_has 21 = .ok (.iconst 1, 1) := by decide +kernel
theorem dX5_has_22 : decode cX5_has 22 = .ok (.goto 4, 3) := by decide +kernel
theorem dX5_has_25 : decode cX5_has 25 = .ok (.iconst 0, 1) := by decide +kernel
theorem dX5_has_26 : decode cX5_has 26 = .ok (.ireturn, 1) := by decide +kernel
set_option maxRecDepth 20000 in
theorem ggX5_widthOf_X5_has : GoodIn wsX5_widthOf wsX5_has := goodIn_r _ [6, 7, 1, 8, 9] (by decide +kernel) (by decide +kernel)
set_option maxRecDepth 20000 in
theorem gX5_widthOf_X5_has : GoodIn wsX5_widthOf (wsV RX5 19 RX5 yX5_has wsX5_has) := goodIn_app (goodIn_of _ (by decide +kernel)) ggX5_widthOf_X5_has
theorem dX5_widthOf_0 : decode cX5_widthOf 0 = .ok (.aload_n 0, 1) := by decide +kernel
theorem dX5_widthOf_1 : decode cX5_widthOf 1 = .ok (.iload_n 1, 1) := by decide +kernel
theorem dX5_widthOf_2 : decode cX5_widthOf 2 = .ok (.invokevirtual 19, 3) := by decide +kernel
theorem dX5_widthOf_5 : decode cX5_widthOf 5 = .ok (.ifCond .eq 12, 3) := by decide +kernel
theorem dX5_widthOf_8 : decode cX5_widthOf 8 = .ok (.aload_n 0, 1) := by decide +kernel
theorem dX5_widthOf_9 : decode cX5_widthOf 9 = .ok (.getfield 9, 3) := by decide +kernel
theorem dX5_widthOf_12 : decode cX5_widthOf 12 = .ok (.iload_n 1, 1) := by decide +kernel
theorem dX5_widthOf_13 : decode cX5_widthOf 13 = .ok (.iaload, 1) := by decide +kernel
theorem dX5_widthOf_14 : decode cX5_widthOf 14 = .ok (.goto 4, 3) := by decide +kernel
theorem dX5_widthOf_17 : decode cX5_widthOf 17 = .ok (.iconst 0, 1) := by decide +kernel
theorem dX5_widthOf_18 : decode cX5_widthOf 18 = .ok (.ireturn, 1) := by decide +kernel
set_option maxRecDepth 20000 in
theorem ggX5_hasElement_X5_has : GoodIn wsX5_hasElement wsX5_has := goodIn_r _ [5, 6, 7, 12, 13] (by decide +kernel) (by decide +kernel)
set_option maxRecDepth 20000 in
theorem gX5_hasElement_X5_has : GoodIn wsX5_hasElement (wsV RX5 19 RX5 yX5_has wsX5_has) := goodIn_app (goodIn_of _ (by decide +kernel)) ggX5_hasElement_X5_has
set_option maxRecDepth 20000 in
theorem ggX5_hasElement_X5_widthOf : GoodIn wsX5_hasElement wsX5_widthOf := goodIn_r _ [11, 7, 1, 2, 3, 4, 5, 6, 12, 13] (by decide +kernel) (by decide +kernel)
set_option maxRecDepth 20000 in
theorem gX5_hasElement_X5_widthOf : GoodIn wsX5_hasElement (wsV RX5 23 RX5 yX5_widthOf wsX5_widthOf) := goodIn_app (goodIn_of _ (by decide +kernel)) ggX5_hasElement_X5_widthOf
theorem dX5_hasElement_0 : decode cX5_hasElement 0 = .ok (.aload_n 0, 1) := by decide +kernel
theorem dX5_hasElement_1 : decode cX5_hasElement 1 = .ok (.iload_n 1, 1) := by decide +kernel
theorem dX5_hasElement_2 : decode cX5_hasElement 2 = .ok (.invokevirtual 19, 3) := by decide +kernel
theorem dX5_hasElement_5 : decode cX5_hasElement 5 = .ok (.ifCond .eq 20, 3) := by decide +kernel
theorem dX5_hasElement_8 : decode cX5_hasElement 8 = .ok (.iload_n 2, 1) := by decide +kernel
theorem dX5_hasElement_9 : decode cX5_hasElement 9 = .ok (.ifCond .lt 16, 3) := by decide +kernel
theorem dX5_hasElement_12 : decode cX5_hasElement 12 = .ok (.iload_n 2, 1) := by decide +kernel
theorem dX5_hasElement_13 : decode cX5_hasElement 13 = .ok (.aload_n 0, 1) := by decide +kernel
theorem dX5_hasElement_14 : decode cX5_hasElement 14 = .ok (.iload_n 1, 1) := by decide +kernel
theorem dX5_hasElement_15 : decode cX5_hasElement 15 = .ok (.invokevirtual 23, 3) := by decide +kernel
theorem dX5_hasElement_18 : decode cX5_hasElement 18 = .ok (.if_icmp .ge 7, 3) := by decide +kernel
theorem dX5_hasElement_21 : decode cX5_hasElement 21 = .ok (.iconst 1, 1) := by decide +kernel
theorem dX5_hasElement_22 : decode cX5_hasElement 22 = .ok (.goto 4, 3) := by decide +kernel
theorem dX5_hasElement_25 : decode cX5_hasElement 25 = .ok (.iconst 0, 1) := by decide +kernel
theorem dX5_hasElement_26 : decode cX5_hasElement 26 = .ok (.ireturn, 1) := by decide +kernel
theorem dX5_add_0 : decode cX5_add 0 = .ok (.aload_n 0, 1) := by decide +kernel
theorem dX5_add_1 : decode cX5_add 1 = .ok (.getfield 15, 3) := by decide +kernel
theorem dX5_add_4 : decode cX5_add 4 = .ok (.aload_n 0, 1) := by decide +kernel
theorem dX5_add_5 : decode cX5_add 5 = .ok (.getfield 9, 3) := by decide +kernel
theorem dX5_add_8 : decode cX5_add 8 = .ok (.arraylength, 1) := by decide +kernel
theorem dX5_add_9 : decode cX5_add 9 = .ok (.if_icmp .lt 5, 3) := by decide +kernel
theorem dX5_add_12 : decode cX5_add 12 = .ok (.iconst (-1), 1) := by decide +kernel
theorem dX5_add_13 : decode cX5_add 13 = .ok (.ireturn, 1) := by decide +kernel
theorem dX5_add_14 : decode cX5_add 14 = .ok (.aload_n 0, 1) := by decide +kernel
theorem dX5_add_15 : decode cX5_add 15 = .ok (.getfield 9, 3) := by decide +kernel
theorem dX5_add_18 : decode cX5_add 18 = .ok (.aload_n 0, 1) := by decide +kernel
theorem dX5_add_19 : decode cX5_add 19 = .ok (.getfield 15, 3) := by decide +kernel
theorem dX5_add_22 : decode cX5_add 22 = .ok (.iload_n 1, 1) := by decide +kernel
theorem dX5_add_23 : decode cX5_add 23 = .ok (.iastore, 1) := by decide +kernel
theorem dX5_add_24 : decode cX5_add 24 = .ok (.aload_n 0, 1) := by decide +kernel
theorem dX5_add_25 : decode cX5_add 25 = .ok (.dup, 1) := by decide +kernel
theorem dX5_add_26 : decode cX5_add 26 = .ok (.getfield 15, 3) := by decide +kernel
theorem dX5_add_29 : decode cX5_add 29 = .ok (.iconst 1, 1) := by decide +kernel
theorem dX5_add_30 : decode cX5_add 30 = .ok (.iadd, 1) := by decide +kernel
theorem dX5_add_31 : decode cX5_add 31 = .ok (.putfield 15, 3) := by decide +kernel
theorem dX5_add_34 : decode cX5_add 34 = .ok (.aload_n 0, 1) := by decide +kernel
theorem dX5_add_35 : decode cX5_add 35 = .ok (.getfield 15, 3) := by decide +kernel
theorem dX5_add_38 : decode cX5_add 38 = .ok (.iconst 1, 1) := by decide +kernel
theorem dX5_add_39 : decode cX5_add 39 = .ok (.isub, 1) := by decide +kernel
theorem dX5_add_40 : decode cX5_add 40 = .ok (.ireturn, 1) := by decide +kernel
set_option maxRecDepth 20000 in
theorem ggX6_init_X5_init : GoodIn wsX6_init wsX5_init := goodIn_r _ [21, 22, 2, 3, 23, 24, 25, 60, 61] (by decide +kernel) (by decide +kernel)
set_option maxRecDepth 20000 in
theorem gX6_init_X5_init : GoodIn wsX6_init (wsX5_init) := ggX6_init_X5_init
set_option maxRecDepth 20000 in
theorem ggX6_init_X0_init : GoodIn wsX6_init wsX0_init := goodIn_r _ [28, 29, 2, 3, 30, 31, 32, 68, 69] (by decide +kernel) (by decide +kernel)
set_option maxRecDepth 20000 in
theorem gX6_init_X0_init : GoodIn wsX6_init (wsX0_init) := ggX6_init_X0_init
set_option maxRecDepth 20000 in
theorem ggX6_init_X4_init : GoodIn wsX6_init wsX4_init := goodIn_r _ [35, 36, 2, 3, 37, 9, 10, 38, 39, 40, 41, 42, 30, 43, 44, 27, 28, 29, 31, 32, 45, 46, 47, 48, 49, 50, 51, 52, 53, 54, 55, 56, 57, 58, 59, 68, 69, 70, 71, 72, 73, 74, 75] (by decide +kernel) (by decide +kernel)
set_option maxRecDepth 20000 in
theorem gX6_init_X4_init : GoodIn wsX6_init (wsX4_init) := ggX6_init_X4_init
theorem dX6_init_0 : decode cX6_init 0 = .ok (.aload_n 0, 1) := by decide +kernel
theorem dX6_init_1 : decode cX6_init 1 = .ok (.invokespecial 1, 3) := by decide +kernel
theorem dX6_init_4 : decode cX6_init 4 = .ok (.aload_n 0, 1) := by decide +kernel
theorem dX6_init_5 : decode cX6_init 5 = .ok (.new 7, 3) := by decide +kernel
theorem dX6_init_8 : decode cX6_init 8 = .ok (.dup, 1) := by decide +kernel
theorem dX6_init_9 : decode cX6_init 9 = .ok (.invokespecial 9, 3) := by decide +kernel
theorem dX6_init_12 : decode cX6_init 12 = .ok (.putfield 10, 3) := by decide +kernel
theorem dX6_init_15 : decode cX6_init 15 = .ok (.aload_n 0, 1) := by decide +kernel
theorem dX6_init_16 : decode cX6_init 16 = .ok (.new 16, 3) := by decide +kernel
theorem dX6_init_19 : decode cX6_init 19 = .ok (.dup, 1) := by decide +kernel
theorem dX6_init_20 : decode cX6_init 20 = .ok (.invokespecial 18, 3) := by decide +kernel
theorem dX6_init_23 : decode cX6_init 23 = .ok (.putfield 19, 3) := by decide +kernel
theorem dX6_init_26 : decode cX6_init 26 = .ok (.aload_n 0, 1) := by decide +kernel
theorem dX6_init_27 : decode cX6_init 27 = .ok (.new 23, 3) := by decide +kernel
theorem dX6_init_30 : decode cX6_init 30 = .ok (.dup, 1) := by decide +kernel
theorem dX6_init_31 : decode cX6_init 31 = .ok (.invokespecial 25, 3) := by decide +kernel
theorem dX6_init_34 : decode cX6_init 34 = .ok (.putfield 26, 3) := by decide +kernel
theorem dX6_init_37 : decode cX6_init 37 = .ok (.aload_n 0, 1) := by decide +kernel
theorem dX6_init_38 : decode cX6_init 38 = .ok (.new 23, 3) := by decide +kernel
theorem dX6_init_41 : decode cX6_init 41 = .ok (.dup, 1) := by decide +kernel
theorem dX6_init_42 : decode cX6_init 42 = .ok (.invokespecial 25, 3) := by decide +kernel
theorem dX6_init_45 : decode cX6_init 45 = .ok (.putfield 30, 3) := by decide +kernel
theorem dX6_init_48 : decode cX6_init 48 = .ok (.aload_n 0, 1) := by decide +kernel
theorem dX6_init_49 : decode cX6_init 49 = .ok (.aconst_null, 1) := by decide +kernel
theorem dX6_init_50 : decode cX6_init 50 = .ok (.putfield 33, 3) := by decide +kernel
theorem dX6_init_53 : decode cX6_init 53 = .ok (.aload_n 0, 1) := by decide +kernel
theorem dX6_init_54 : decode cX6_init 54 = .ok (.aconst_null, 1) := by decide +kernel
theorem dX6_init_55 : decode cX6_init 55 = .ok (.putfield 37, 3) := by decide +kernel
theorem dX6_init_58 : decode cX6_init 58 = .ok (.return_, 1) := by decide +kernel
set_option maxRecDepth 20000 in
theorem ggX6_wire_X5_add : GoodIn wsX6_wire wsX5_add := goodIn_r _ [11, 12, 13, 20, 21] (by decide +kernel) (by decide +kernel)
set_option maxRecDepth 20000 in
theorem gX6_wire_X5_add : GoodIn wsX6_wire (wsV RX6 58 RX5 yX5_add wsX5_add) := goodIn_app (goodIn_of _ (by decide +kernel)) ggX6_wire_X5_add
theorem dX6_wire_0 : decode cX6_wire 0 = .ok (.iload_n 1, 1) := by decide +kernel
theorem dX6_wire_1 : decode cX6_wire 1 = .ok (.iconst 1, 1) := by decide +kernel
theorem dX6_wire_2 : decode cX6_wire 2 = .ok (.if_icmp .lt 9, 3) := by decide +kernel
theorem dX6_wire_5 : decode cX6_wire 5 = .ok (.iload_n 1, 1) := by decide +kernel
theorem dX6_wire_6 : decode cX6_wire 6 = .ok (.bipush 64, 2) := by decide +kernel
theorem dX6_wire_8 : decode cX6_wire 8 = .ok (.if_icmp .le 13, 3) := by decide +kernel
theorem dX6_wire_11 : decode cX6_wire 11 = .ok (.new 40, 3) := by decide +kernel
theorem dX6_wire_14 : decode cX6_wire 14 = .ok (.dup, 1) := by decide +kernel
theorem dX6_wire_15 : decode cX6_wire 15 = .ok (.ldc 42, 2) := by decide +kernel
theorem dX6_wire_17 : decode cX6_wire 17 = .ok (.invokespecial 44, 3) := by decide +kernel
theorem dX6_wire_20 : decode cX6_wire 20 = .ok (.athrow, 1) := by decide +kernel
theorem dX6_wire_21 : decode cX6_wire 21 = .ok (.aload_n 0, 1) := by decide +kernel
theorem dX6_wire_22 : decode cX6_wire 22 = .ok (.getfield 10, 3) := by decide +kernel
theorem dX6_wire_25 : decode cX6_wire 25 = .ok (.getfield 47, 3) := by decide +kernel
theorem dX6_wire_28 : decode cX6_wire 28 = .ok (.sipush 200, 3) := by decide +kernel
theorem dX6_wire_31 : decode cX6_wire 31 = .ok (.if_icmp .lt 13, 3) := by decide +kernel
theorem dX6_wire_34 : decode cX6_wire 34 = .ok (.new 51, 3) := by decide +kernel
theorem dX6_wire_37 : decode cX6_wire 37 = .ok (.dup, 1) := by decide +kernel
theorem dX6_wire_38 : decode cX6_wire 38 = .ok (.ldc 53, 2) := by decide +kernel
theorem dX6_wire_40 : decode cX6_wire 40 = .ok (.invokespecial 55, 3) := by decide +kernel
theorem dX6_wire_43 : decode cX6_wire 43 = .ok (.athrow, 1) := by decide +kernel
theorem dX6_wire_44 : decode cX6_wire 44 = .ok (.aload_n 0, 1) := by decide +kernel
theorem dX6_wire_45 : decode cX6_wire 45 = .ok (.getfield 33, 3) := by decide +kernel
theorem dX6_wire_48 : decode cX6_wire 48 = .ok (.ifnull 13, 3) := by decide +kernel
theorem dX6_wire_51 : decode cX6_wire 51 = .ok (.new 51, 3) := by decide +kernel
theorem dX6_wire_54 : decode cX6_wire 54 = .ok (.dup, 1) := by decide +kernel
theorem dX6_wire_55 : decode cX6_wire 55 = .ok (.ldc 56, 2) := by decide +kernel
theorem dX6_wire_57 : decode cX6_wire 57 = .ok (.invokespecial 55, 3) := by decide +kernel
theorem dX6_wire_60 : decode cX6_wire 60 = .ok (.athrow, 1) := by decide +kernel
theorem dX6_wire_61 : decode cX6_wire 61 = .ok (.aload_n 0, 1) := by decide +kernel
theorem dX6_wire_62 : decode cX6_wire 62 = .ok (.getfield 10, 3) := by decide +kernel
theorem dX6_wire_65 : decode cX6_wire 65 = .ok (.iload_n 1, 1) := by decide +kernel
theorem dX6_wire_66 : decode cX6_wire 66 = .ok (.invokevirtual 58, 3) := by decide +kernel
theorem dX6_wire_69 : decode cX6_wire 69 = .ok (.ireturn, 1) := by decide +kernel
theorem dX6_wires_0 : decode cX6_wires 0 = .ok (.aload_n 0, 1) := by decide +kernel
theorem dX6_wires_1 : decode cX6_wires 1 = .ok (.getfield 10, 3) := by decide +kernel
theorem dX6_wires_4 : decode cX6_wires 4 = .ok (.getfield 47, 3) := by decide +kernel
theorem dX6_wires_7 : decode cX6_wires 7 = .ok (.ireturn, 1) := by decide +kernel
set_option maxRecDepth 20000 in
theorem ggX6_width_X5_has : GoodIn wsX6_width wsX5_has := goodIn_r _ [8, 9, 10, 22, 23] (by decide +kernel) (by decide +kernel)
set_option maxRecDepth 20000 in
theorem gX6_width_X5_has : GoodIn wsX6_width (wsV RX6 62 RX5 yX5_has wsX5_has) := goodIn_app (goodIn_of _ (by decide +kernel)) ggX6_width_X5_has
set_option maxRecDepth 20000 in
theorem ggX6_width_X5_widthOf : GoodIn wsX6_width wsX5_widthOf := goodIn_r _ [14, 10, 15, 5, 6, 7, 8, 9, 22, 23] (by decide +kernel) (by decide +kernel)
set_option maxRecDepth 20000 in
theorem gX6_width_X5_widthOf : GoodIn wsX6_width (wsV RX6 71 RX5 yX5_widthOf wsX5_widthOf) := goodIn_app (goodIn_of _ (by decide +kernel)) ggX6_width_X5_widthOf
theorem dX6_width_0 : decode cX6_width 0 = .ok (.aload_n 0, 1) := by decide +kernel
theorem dX6_width_1 : decode cX6_width 1 = .ok (.getfield 10, 3) := by decide +kernel
theorem dX6_width_4 : decode cX6_width 4 = .ok (.iload_n 1, 1) := by decide +kernel
theorem dX6_width_5 : decode cX6_width 5 = .ok (.invokevirtual 62, 3) := by decide +kernel
theorem dX6_width_8 : decode cX6_width 8 = .ok (.ifCond .ne 13, 3) := by decide +kernel
theorem dX6_width_11 : decode cX6_width 11 = .ok (.new 66, 3) := by decide +kernel
theorem dX6_width_14 : decode cX6_width 14 = .ok (.dup, 1) := by decide +kernel
theorem dX6_width_15 : decode cX6_width 15 = .ok (.ldc 68, 2) := by decide +kernel
theorem dX6_width_17 : decode cX6_width 17 = .ok (.invokespecial 70, 3) := by decide +kernel
theorem dX6_width_20 : decode cX6_width 20 = .ok (.athrow, 1) := by decide +kernel
theorem dX6_width_21 : decode cX6_width 21 = .ok (.aload_n 0, 1) := by decide +kernel
theorem dX6_width_22 : decode cX6_width 22 = .ok (.getfield 10, 3) := by decide +kernel
theorem dX6_width_25 : decode cX6_width 25 = .ok (.iload_n 1, 1) := by decide +kernel
theorem dX6_width_26 : decode cX6_width 26 = .ok (.invokevirtual 71, 3) := by decide +kernel
theorem dX6_width_29 : decode cX6_width 29 = .ok (.ireturn, 1) := by decide +kernel
set_option maxRecDepth 20000 in
theorem ggX6_open_X2_init : GoodIn wsX6_open wsX2_init := goodIn_r _ [13, 14, 15, 16, 17, 18, 19, 20, 21, 22, 23, 24, 25, 26, 27, 28, 29, 30, 31, 32, 33, 34, 35, 36, 37, 38, 188, 189, 190, 191, 198, 199, 200] (by decide +kernel) (by decide +kernel)
set_option maxRecDepth 20000 in
theorem gX6_open_X2_init : GoodIn wsX6_open (wsX2_init) := ggX6_open_X2_init
set_option maxRecDepth 20000 in
theorem ggX6_open_X2_isLaterThan : GoodIn wsX6_open wsX2_isLaterThan := goodIn_r _ [42, 17, 18, 188, 189, 190, 191] (by decide +kernel) (by decide +kernel)
set_option maxRecDepth 20000 in
theorem gX6_open_X2_isLaterThan : GoodIn wsX6_open (wsV RX6 90 RX2 yX2_isLaterThan wsX2_isLaterThan) := goodIn_app (goodIn_of _ (by decide +kernel)) ggX6_open_X2_isLaterThan
set_option maxRecDepth 20000 in
theorem ggX6_open_X6_closeOpenMoment : GoodIn wsX6_open wsX6_closeOpenMoment := goodIn_r _ [47, 10, 48, 49, 50, 51, 21, 52, 53, 54, 55, 56, 57, 58, 59, 60, 61, 62, 63, 64, 65, 66, 67, 68, 69, 70, 71, 72, 73, 74, 75, 76, 77, 78, 79, 80, 81, 82, 83, 84, 85, 86, 87, 88, 89, 90, 91, 92, 93, 94, 95, 96, 97, 28, 98, 99, 100, 101, 102, 103, 104, 105, 106, 107, 108, 109, 110, 111, 112, 113, 114, 115, 116, 117, 118, 119, 120, 121, 122, 123, 124, 125, 126, 127, 128, 129, 130, 131, 132, 133, 134, 135, 136, 137, 138, 139, 140, 141, 142, 143, 144, 145, 146, 147, 148, 149, 150, 151, 152, 153, 154, 155, 27, 156, 157, 158, 159, 160, 161, 162, 163, 164, 165, 166, 167, 168, 169, 170, 171, 172, 173, 174, 175, 176, 177, 178, 179, 180, 181, 182, 183, 184, 185, 186, 187, 192, 193, 194, 195, 196, 197, 188, 189, 190, 191, 198, 199, 200, 201, 202, 203, 204, 205, 206, 207, 208, 209] (by decide +kernel) (by decide +kernel)
set_option maxRecDepth 20000 in
theorem gX6_open_X6_closeOpenMoment : GoodIn wsX6_open (wsV RX6 96 RX6 yX6_closeOpenMoment wsX6_closeOpenMoment) := goodIn_app (goodIn_of _ (by decide +kernel)) ggX6_open_X6_closeOpenMoment
theorem dX6_open_0 : decode cX6_open 0 = .ok (.lload_n 1, 1) := by decide +kernel
theorem dX6_open_1 : decode cX6_open 1 = .ok (.lconst 0, 1) := by decide +kernel
theorem dX6_open_2 : decode cX6_open 2 = .ok (.lcmp, 1) := by decide +kernel
theorem dX6_open_3 : decode cX6_open 3 = .ok (.ifCond .lt 25, 3) := by decide +kernel
theorem dX6_open_6 : decode cX6_open 6 = .ok (.lload_n 1, 1) := by decide +kernel
theorem dX6_open_7 : decode cX6_open 7 = .ok (.ldc2_w 74, 3) := by decide +kernel
theorem dX6_open_10 : decode cX6_open 10 = .ok (.lcmp, 1) := by decide +kernel
theorem dX6_open_11 : decode cX6_open 11 = .ok (.ifCond .gt 17, 3) := by decide +kernel
theorem dX6_open_14 : decode cX6_open 14 = .ok (.lload_n 3, 1) := by decide +kernel
theorem dX6_open_15 : decode cX6_open 15 = .ok (.lconst 0, 1) := by decide +kernel
theorem dX6_open_16 : decode cX6_open 16 = .ok (.lcmp, 1) := by decide +kernel
theorem dX6_open_17 : decode cX6_open 17 = .ok (.ifCond .lt 11, 3) := by decide +kernel
theorem dX6_open_20 : decode cX6_open 20 = .ok (.lload_n 3, 1) := by decide +kernel
theorem dX6_open_21 : decode cX6_open 21 = .ok (.ldc2_w 74, 3) := by decide +kernel
theorem dX6_open_24 : decode cX6_open 24 = .ok (.lcmp, 1) := by decide +kernel
theorem dX6_open_25 : decode cX6_open 25 = .ok (.ifCond .le 13, 3) := by decide +kernel
theorem dX6_open_28 : decode cX6_open 28 = .ok (.new 40, 3) := by decide +kernel
theorem dX6_open_31 : decode cX6_open 31 = .ok (.dup, 1) := by decide +kernel
theorem dX6_open_32 : decode cX6_open 32 = .ok (.ldc 76, 2) := by decide +kernel
theorem dX6_open_34 : decode cX6_open 34 = .ok (.invokespecial 44, 3) := by decide +kernel
theorem dX6_open_37 : decode cX6_open 37 = .ok (.athrow, 1) := by decide +kernel
theorem dX6_open_38 : decode cX6_open 38 = .ok (.new 78, 3) := by decide +kernel
theorem dX6_open_41 : decode cX6_open 41 = .ok (.dup, 1) := by decide +kernel
theorem dX6_open_42 : decode cX6_open 42 = .ok (.lload_n 1, 1) := by decide +kernel
theorem dX6_open_43 : decode cX6_open 43 = .ok (.lload_n 3, 1) := by decide +kernel
theorem dX6_open_44 : decode cX6_open 44 = .ok (.invokespecial 80, 3) := by decide +kernel
theorem dX6_open_47 : decode cX6_open 47 = .ok (.astore 5, 2) := by decide +kernel
theorem dX6_open_49 : decode cX6_open 49 = .ok (.aload_n 0, 1) := by decide +kernel
theorem dX6_open_50 : decode cX6_open 50 = .ok (.getfield 33, 3) := by decide +kernel
theorem dX6_open_53 : decode cX6_open 53 = .ok (.ifnull 35, 3) := by decide +kernel
theorem dX6_open_56 : decode cX6_open 56 = .ok (.aload 5, 2) := by decide +kernel
theorem dX6_open_58 : decode cX6_open 58 = .ok (.aload_n 0, 1) := by decide +kernel
theorem dX6_open_59 : decode cX6_open 59 = .ok (.getfield 33, 3) := by decide +kernel
theorem dX6_open_62 : decode cX6_open 62 = .ok (.getfield 83, 3) := by decide +kernel
theorem dX6_open_65 : decode cX6_open 65 = .ok (.aload_n 0, 1) := by decide +kernel
theorem dX6_open_66 : decode cX6_open 66 = .ok (.getfield 33, 3) := by decide +kernel
theorem dX6_open_69 : decode cX6_open 69 = .ok (.getfield 87, 3) := by decide +kernel
theorem dX6_open_72 : decode cX6_open 72 = .ok (.invokevirtual 90, 3) := by decide +kernel
theorem dX6_open_75 : decode cX6_open 75 = .ok (.ifCond .ne 13, 3) := by decide +kernel
theorem dX6_open_78 : decode cX6_open 78 = .ok (.new 40, 3) := by decide +kernel
theorem dX6_open_81 : decode cX6_open 81 = .ok (.dup, 1) := by decide +kernel
theorem dX6_open_82 : decode cX6_open 82 = .ok (.ldc 94, 2) := by decide +kernel
theorem dX6_open_84 : decode cX6_open 84 = .ok (.invokespecial 44, 3) := by decide +kernel
theorem dX6_open_87 : decode cX6_open 87 = .ok (.athrow, 1) := by decide +kernel
theorem dX6_open_88 : decode cX6_open 88 = .ok (.aload_n 0, 1) := by decide +kernel
theorem dX6_open_89 : decode cX6_open 89 = .ok (.invokevirtual 96, 3) := by decide +kernel
theorem dX6_open_92 : decode cX6_open 92 = .ok (.ifCond .ne 13, 3) := by decide +kernel
theorem dX6_open_95 : decode cX6_open 95 = .ok (.new 51, 3) := by decide +kernel
theorem dX6_open_98 : decode cX6_open 98 = .ok (.dup, 1) := by decide +kernel
theorem dX6_open_99 : decode cX6_open 99 = .ok (.ldc 100, 2) := by decide +kernel
theorem dX6_open_101 : decode cX6_open 101 = .ok (.invokespecial 55, 3) := by decide +kernel
theorem dX6_open_104 : decode cX6_open 104 = .ok (.athrow, 1) := by decide +kernel
theorem dX6_open_105 : decode cX6_open 105 = .ok (.aload_n 0, 1) := by decide +kernel
theorem dX6_open_106 : decode cX6_open 106 = .ok (.aload 5, 2) := by decide +kernel
theorem dX6_open_108 : decode cX6_open 108 = .ok (.putfield 33, 3) := by decide +kernel
theorem dX6_open_111 : decode cX6_open 111 = .ok (.aload_n 0, 1) := by decide +kernel
theorem dX6_open_112 : decode cX6_open 112 = .ok (.aload 5, 2) := by decide +kernel
theorem dX6_open_114 : decode cX6_open 114 = .ok (.putfield 37, 3) := by decide +kernel
theorem dX6_open_117 : decode cX6_open 117 = .ok (.return_, 1) := by decide +kernel
set_option maxRecDepth 20000 in
theorem ggX6_change_X5_hasElement : GoodIn wsX6_change wsX5_hasElement := goodIn_r _ [14, 15, 16, 17, 13, 18, 19, 20, 21, 22, 23, 24, 162, 163] (by decide +kernel) (by decide +kernel)
set_option maxRecDepth 20000 in
theorem gX6_change_X5_hasElement : GoodIn wsX6_change (wsV RX6 102 RX5 yX5_hasElement wsX5_hasElement) := goodIn_app (goodIn_of _ (by decide +kernel)) ggX6_change_X5_hasElement
set_option maxRecDepth 20000 in
theorem ggX6_change_X4_valueOf : GoodIn wsX6_change wsX4_valueOf := goodIn_r _ [29, 30, 164, 165, 166] (by decide +kernel) (by decide +kernel)
set_option maxRecDepth 20000 in
theorem gX6_change_X4_valueOf : GoodIn wsX6_change (wsV RX6 112 RX4 yX4_valueOf wsX4_valueOf) := goodIn_app (goodIn_of _ (by decide +kernel)) ggX6_change_X4_valueOf
set_option maxRecDepth 20000 in
theorem ggX6_change_X2_put : GoodIn wsX6_change wsX2_put := goodIn_r _ [35, 36, 37, 38, 39, 40, 41, 42, 43, 34, 44, 45, 46, 47, 48, 49, 50, 51, 52, 53, 54, 55, 56, 57, 58, 59, 60, 61, 62, 63, 64, 65, 66, 67, 68, 69, 70, 71, 72, 73, 74, 75, 76, 77, 78, 79, 80, 81, 82, 83, 84, 85, 86, 87, 88, 89, 90, 91, 92, 93, 94, 95, 96, 97, 98, 99, 100, 101, 102, 103, 104, 105, 106, 107, 108, 109, 110, 111, 112, 113, 114, 115, 116, 117, 118, 119, 120, 121, 122, 123, 124, 125, 126, 127, 128, 129, 130, 131, 132, 133, 134, 135, 136, 137, 138, 139, 140, 141, 142, 143, 144, 145, 146, 147, 148, 149, 150, 151, 152, 153, 154, 155, 167, 168, 169, 170, 171, 172, 173, 174, 175, 176, 177] (by decide +kernel) (by decide +kernel)
set_option maxRecDepth 20000 in
theorem gX6_change_X2_put : GoodIn wsX6_change (wsV RX6 116 RX2 yX2_put wsX2_put) := goodIn_app (goodIn_of _ (by decide +kernel)) ggX6_change_X2_put
theorem dX6_change_0 : decode cX6_change 0 = .ok (.aload_n 0, 1) := by decide +kernel
theorem dX6_change_1 : decode cX6_change 1 = .ok (.getfield 10, 3) := by decide +kernel
theorem dX6_change_4 : decode cX6_change 4 = .ok (.iload_n 1, 1) := by decide +kernel
theorem dX6_change_5 : decode cX6_change 5 = .ok (.iload_n 2, 1) := by decide +kernel
theorem dX6_change_6 : decode cX6_change 6 = .ok (.invokevirtual 102, 3) := by decide +kernel
theorem dX6_change_9 : decode cX6_change 9 = .ok (.ifCond .ne 13, 3) := by decide +kernel
theorem dX6_change_12 : decode cX6_change 12 = .ok (.new 66, 3) := by decide +kernel
theorem dX6_change_15 : decode cX6_change 15 = .ok (.dup, 1) := by decide +kernel
theorem dX6_change_16 : decode cX6_change 16 = .ok (.ldc 106, 2) := by decide +kernel
theorem dX6_change_18 : decode cX6_change 18 = .ok (.invokespecial 70, 3) := by decide +kernel
theorem dX6_change_21 : decode cX6_change 21 = .ok (.athrow, 1) := by decide +kernel
theorem dX6_change_22 : decode cX6_change 22 = .ok (.iload_n 3, 1) := by decide +kernel
theorem dX6_change_23 : decode cX6_change 23 = .ok (.ifCond .lt 9, 3) := by decide +kernel
theorem dX6_change_26 : decode cX6_change 26 = .ok (.iload_n 3, 1) := by decide +kernel
theorem dX6_change_27 : decode cX6_change 27 = .ok (.bipush 8, 2) := by decide +kernel
theorem dX6_change_29 : decode cX6_change 29 = .ok (.if_icmp .le 13, 3) := by decide +kernel
theorem dX6_change_32 : decode cX6_change 32 = .ok (.new 40, 3) := by decide +kernel
theorem dX6_change_35 : decode cX6_change 35 = .ok (.dup, 1) := by decide +kernel
theorem dX6_change_36 : decode cX6_change 36 = .ok (.ldc 108, 2) := by decide +kernel
theorem dX6_change_38 : decode cX6_change 38 = .ok (.invokespecial 44, 3) := by decide +kernel
theorem dX6_change_41 : decode cX6_change 41 = .ok (.athrow, 1) := by decide +kernel
theorem dX6_change_42 : decode cX6_change 42 = .ok (.aload_n 0, 1) := by decide +kernel
theorem dX6_change_43 : decode cX6_change 43 = .ok (.getfield 37, 3) := by decide +kernel
theorem dX6_change_46 : decode cX6_change 46 = .ok (.ifnonnull 13, 3) := by decide +kernel
theorem dX6_change_49 : decode cX6_change 49 = .ok (.new 51, 3) := by decide +kernel
theorem dX6_change_52 : decode cX6_change 52 = .ok (.dup, 1) := by decide +kernel
theorem dX6_change_53 : decode cX6_change 53 = .ok (.ldc 110, 2) := by decide +kernel
theorem dX6_change_55 : decode cX6_change 55 = .ok (.invokespecial 55, 3) := by decide +kernel
theorem dX6_change_58 : decode cX6_change 58 = .ok (.athrow, 1) := by decide +kernel
theorem dX6_change_59 : decode cX6_change 59 = .ok (.aload_n 0, 1) := by decide +kernel
theorem dX6_change_60 : decode cX6_change 60 = .ok (.getfield 37, 3) := by decide +kernel
theorem dX6_change_63 : decode cX6_change 63 = .ok (.iload_n 1, 1) := by decide +kernel
theorem dX6_change_64 : decode cX6_change 64 = .ok (.iload_n 2, 1) := by decide +kernel
theorem dX6_change_65 : decode cX6_change 65 = .ok (.iload_n 3, 1) := by decide +kernel
theorem dX6_change_66 : decode cX6_change 66 = .ok (.aload_n 0, 1) := by decide +kernel
theorem dX6_change_67 : decode cX6_change 67 = .ok (.getfield 26, 3) := by decide +kernel
theorem dX6_change_70 : decode cX6_change 70 = .ok (.iload_n 1, 1) := by decide +kernel
theorem dX6_change_71 : decode cX6_change 71 = .ok (.iload_n 2, 1) := by decide +kernel
theorem dX6_change_72 : decode cX6_change 72 = .ok (.invokevirtual 112, 3) := by decide +kernel
theorem dX6_change_75 : decode cX6_change 75 = .ok (.invokevirtual 116, 3) := by decide +kernel
theorem dX6_change_78 : decode cX6_change 78 = .ok (.ireturn, 1) := by decide +kernel
set_option maxRecDepth 20000 in
theorem ggX6_close_Jx4a65c_size_8abf5 : GoodIn wsX6_close wsJx4a65c_size_8abf5 := goodIn_r _ [8, 9, 163, 164, 165] (by decide +kernel) (by decide +kernel)
set_option maxRecDepth 20000 in
theorem gX6_close_Jx4a65c_size_8abf5 : GoodIn wsX6_close (wsV RX6 124 RJx4a65c yJx4a65c_size_8abf5 wsJx4a65c_size_8abf5) := goodIn_app (goodIn_of _ (by decide +kernel)) ggX6_close_Jx4a65c_size_8abf5
set_option maxRecDepth 20000 in
theorem ggX6_close_X6_closeOpenMoment : GoodIn wsX6_close wsX6_closeOpenMoment := goodIn_r _ [14, 3, 15, 16, 17, 18, 7, 19, 9, 20, 21, 22, 23, 24, 25, 26, 27, 28, 29, 30, 31, 32, 33, 34, 35, 36, 37, 38, 39, 40, 41, 42, 43, 44, 5, 6, 8, 45, 46, 47, 48, 49, 50, 51, 52, 53, 54, 55, 56, 57, 58, 59, 60, 61, 62, 63, 64, 65, 66, 67, 68, 69, 70, 71, 72, 73, 74, 75, 76, 77, 78, 79, 80, 81, 82, 83, 84, 85, 86, 87, 88, 89, 90, 91, 92, 93, 94, 95, 96, 97, 98, 99, 100, 101, 102, 103, 104, 105, 106, 107, 108, 109, 110, 111, 112, 113, 114, 115, 116, 117, 118, 119, 120, 121, 122, 123, 124, 125, 126, 127, 128, 129, 130, 131, 132, 133, 134, 135, 136, 137, 138, 139, 140, 141, 142, 143, 144, 145, 146, 147, 148, 149, 150, 151, 152, 153, 154, 155, 156, 157, 158, 159, 160, 161, 162, 163, 164, 165, 166, 167, 168, 169, 170, 171, 172, 173, 174] (by decide +kernel) (by decide +kernel)
set_option maxRecDepth 20000 in
theorem gX6_close_X6_closeOpenMoment : GoodIn wsX6_close (wsV RX6 96 RX6 yX6_closeOpenMoment wsX6_closeOpenMoment) := goodIn_app (goodIn_of _ (by decide +kernel)) ggX6_close_X6_closeOpenMoment
theorem dX6_close_0 : decode cX6_close 0 = .ok (.aload_n 0, 1) := by decide +kernel
theorem dX6_close_1 : decode cX6_close 1 = .ok (.getfield 37, 3) := by decide +kernel
theorem dX6_close_4 : decode cX6_close 4 = .ok (.ifnonnull 5, 3) := by decide +kernel
theorem dX6_close_7 : decode cX6_close 7 = .ok (.iconst (-1), 1) := by decide +kernel
theorem dX6_close_8 : decode cX6_close 8 = .ok (.ireturn, 1) := by decide +kernel
theorem dX6_close_9 : decode cX6_close 9 = .ok (.aload_n 0, 1) := by decide +kernel
theorem dX6_close_10 : decode cX6_close 10 = .ok (.getfield 37, 3) := by decide +kernel
theorem dX6_close_13 : decode cX6_close 13 = .ok (.getfield 120, 3) := by decide +kernel
theorem dX6_close_16 : decode cX6_close 16 = .ok (.invokevirtual 124, 3) := by decide +kernel
theorem dX6_close_19 : decode cX6_close 19 = .ok (.istore_n 1, 1) := by decide +kernel
theorem dX6_close_20 : decode cX6_close 20 = .ok (.aload_n 0, 1) := by decide +kernel
theorem dX6_close_21 : decode cX6_close 21 = .ok (.invokevirtual 96, 3) := by decide +kernel
theorem dX6_close_24 : decode cX6_close 24 = .ok (.ifCond .ne 13, 3) := by decide +kernel
theorem dX6_close_27 : decode cX6_close 27 = .ok (.new 51, 3) := by decide +kernel
theorem dX6_close_30 : decode cX6_close 30 = .ok (.dup, 1) := by decide +kernel
theorem dX6_close_31 : decode cX6_close 31 = .ok (.ldc 100, 2) := by decide +kernel
theorem dX6_close_33 : decode cX6_close 33 = .ok (.invokespecial 55, 3) := by decide +kernel
theorem dX6_close_36 : decode cX6_close 36 = .ok (.athrow, 1) := by decide +kernel
theorem dX6_close_37 : decode cX6_close 37 = .ok (.iload_n 1, 1) := by decide +kernel
theorem dX6_close_38 : decode cX6_close 38 = .ok (.ireturn, 1) := by decide +kernel
set_option maxRecDepth 20000 in
theorem ggX6_moments_Jx4a65c_size_8abf5 : GoodIn wsX6_moments wsJx4a65c_size_8abf5 := goodIn_r _ [6, 7, 17, 18, 19] (by decide +kernel) (by decide +kernel)
set_option maxRecDepth 20000 in
theorem gX6_moments_Jx4a65c_size_8abf5 : GoodIn wsX6_moments (wsV RX6 124 RJx4a65c yJx4a65c_size_8abf5 wsJx4a65c_size_8abf5) := goodIn_app (goodIn_of _ (by decide +kernel)) ggX6_moments_Jx4a65c_size_8abf5
theorem dX6_moments_0 : decode cX6_moments 0 = .ok (.aload_n 0, 1) := by decide +kernel
theorem dX6_moments_1 : decode cX6_moments 1 = .ok (.getfield 26, 3) := by decide +kernel
theorem dX6_moments_4 : decode cX6_moments 4 = .ok (.getfield 130, 3) := by decide +kernel
theorem dX6_moments_7 : decode cX6_moments 7 = .ok (.invokevirtual 124, 3) := by decide +kernel
theorem dX6_moments_10 : decode cX6_moments 10 = .ok (.ireturn, 1) := by decide +kernel
set_option maxRecDepth 20000 in
theorem ggX6_moment_Jx4a65c_size_8abf5 : GoodIn wsX6_moment wsJx4a65c_size_8abf5 := goodIn_r _ [11, 12, 43, 44, 45] (by decide +kernel) (by decide +kernel)
set_option maxRecDepth 20000 in
theorem gX6_moment_Jx4a65c_size_8abf5 : GoodIn wsX6_moment (wsV RX6 124 RJx4a65c yJx4a65c_size_8abf5 wsJx4a65c_size_8abf5) := goodIn_app (goodIn_of _ (by decide +kernel)) ggX6_moment_Jx4a65c_size_8abf5
set_option maxRecDepth 20000 in
theorem ggX6_moment_Jx4a65c_get_915e3 : GoodIn wsX6_moment wsJx4a65c_get_915e3 := goodIn_r _ [16, 12, 17, 18, 19, 20, 21, 22, 23, 24, 25, 26, 27, 10, 28, 29, 43, 44, 45] (by decide +kernel) (by decide +kernel)
set_option maxRecDepth 20000 in
theorem gX6_moment_Jx4a65c_get_915e3 : GoodIn wsX6_moment (wsV RX6 135 RJx4a65c yJx4a65c_get_915e3 wsJx4a65c_get_915e3) := goodIn_app (goodIn_of _ (by decide +kernel)) ggX6_moment_Jx4a65c_get_915e3
theorem dX6_moment_0 : decode cX6_moment 0 = .ok (.iload_n 1, 1) := by decide +kernel
theorem dX6_moment_1 : decode cX6_moment 1 = .ok (.ifCond .lt 17, 3) := by decide +kernel
theorem dX6_moment_4 : decode cX6_moment 4 = .ok (.iload_n 1, 1) := by decide +kernel
theorem dX6_moment_5 : decode cX6_moment 5 = .ok (.aload_n 0, 1) := by decide +kernel
theorem dX6_moment_6 : decode cX6_moment 6 = .ok (.getfield 26, 3) := by decide +kernel
theorem dX6_moment_9 : decode cX6_moment 9 = .ok (.getfield 130, 3) := by decide +kernel
theorem dX6_moment_12 : decode cX6_moment 12 = .ok (.invokevirtual 124, 3) := by decide +kernel
theorem dX6_moment_15 : decode cX6_moment 15 = .ok (.if_icmp .lt 13, 3) := by decide +kernel
theorem dX6_moment_18 : decode cX6_moment 18 = .ok (.new 66, 3) := by decide +kernel
theorem dX6_moment_21 : decode cX6_moment 21 = .ok (.dup, 1) := by decide +kernel
theorem dX6_moment_22 : decode cX6_moment 22 = .ok (.ldc 133, 2) := by decide +kernel
theorem dX6_moment_24 : decode cX6_moment 24 = .ok (.invokespecial 70, 3) := by decide +kernel
theorem dX6_moment_27 : decode cX6_moment 27 = .ok (.athrow, 1) := by decide +kernel
theorem dX6_moment_28 : decode cX6_moment 28 = .ok (.aload_n 0, 1) := by decide +kernel
theorem dX6_moment_29 : decode cX6_moment 29 = .ok (.getfield 26, 3) := by decide +kernel
theorem dX6_moment_32 : decode cX6_moment 32 = .ok (.getfield 130, 3) := by decide +kernel
theorem dX6_moment_35 : decode cX6_moment 35 = .ok (.iload_n 1, 1) := by decide +kernel
theorem dX6_moment_36 : decode cX6_moment 36 = .ok (.invokevirtual 135, 3) := by decide +kernel
theorem dX6_moment_39 : decode cX6_moment 39 = .ok (.checkcast 78, 3) := by decide +kernel
theorem dX6_moment_42 : decode cX6_moment 42 = .ok (.astore_n 3, 1) := by decide +kernel
theorem dX6_moment_43 : decode cX6_moment 43 = .ok (.iload_n 2, 1) := by decide +kernel
theorem dX6_moment_44 : decode cX6_moment 44 = .ok (.tableswitch 57 0 3 #[32, 37, 42, 51], 32) := by decide +kernel
theorem dX6_moment_76 : decode cX6_moment 76 = .ok (.aload_n 3, 1) := by decide +kernel
theorem dX6_moment_77 : decode cX6_moment 77 = .ok (.getfield 83, 3) := by decide +kernel
theorem dX6_moment_80 : decode cX6_moment 80 = .ok (.lreturn, 1) := by decide +kernel
theorem dX6_moment_81 : decode cX6_moment 81 = .ok (.aload_n 3, 1) := by decide +kernel
theorem dX6_moment_82 : decode cX6_moment 82 = .ok (.getfield 87, 3) := by decide +kernel
theorem dX6_moment_85 : decode cX6_moment 85 = .ok (.lreturn, 1) := by decide +kernel
theorem dX6_moment_86 : decode cX6_moment 86 = .ok (.aload_n 3, 1) := by decide +kernel
theorem dX6_moment_87 : decode cX6_moment 87 = .ok (.getfield 120, 3) := by decide +kernel
theorem dX6_moment_90 : decode cX6_moment 90 = .ok (.invokevirtual 124, 3) := by decide +kernel
theorem dX6_moment_93 : decode cX6_moment 93 = .ok (.i2l, 1) := by decide +kernel
theorem dX6_moment_94 : decode cX6_moment 94 = .ok (.lreturn, 1) := by decide +kernel
theorem dX6_moment_95 : decode cX6_moment 95 = .ok (.aload_n 3, 1) := by decide +kernel
theorem dX6_moment_96 : decode cX6_moment 96 = .ok (.getfield 139, 3) := by decide +kernel
theorem dX6_moment_99 : decode cX6_moment 99 = .ok (.i2l, 1) := by decide +kernel
theorem dX6_moment_100 : decode cX6_moment 100 = .ok (.lreturn, 1) := by decide +kernel
theorem dX6_moment_101 : decode cX6_moment 101 = .ok (.new 40, 3) := by decide +kernel
theorem dX6_moment_104 : decode cX6_moment 104 = .ok (.dup, 1) := by decide +kernel
theorem dX6_moment_105 : decode cX6_moment 105 = .ok (.ldc 142, 2) := by decide +kernel
theorem dX6_moment_107 : decode cX6_moment 107 = .ok (.invokespecial 44, 3) := by decide +kernel
theorem dX6_moment_110 : decode cX6_moment 110 = .ok (.athrow, 1) := by decide +kernel
set_option maxRecDepth 20000 in
theorem ggX6_changed_Jx4a65c_size_8abf5 : GoodIn wsX6_changed wsJx4a65c_size_8abf5 := goodIn_r _ [12, 13, 48, 49, 50] (by decide +kernel) (by decide +kernel)
set_option maxRecDepth 20000 in
theorem gX6_changed_Jx4a65c_size_8abf5 : GoodIn wsX6_changed (wsV RX6 124 RJx4a65c yJx4a65c_size_8abf5 wsJx4a65c_size_8abf5) := goodIn_app (goodIn_of _ (by decide +kernel)) ggX6_changed_Jx4a65c_size_8abf5
set_option maxRecDepth 20000 in
theorem ggX6_changed_Jx4a65c_get_915e3 : GoodIn wsX6_changed wsJx4a65c_get_915e3 := goodIn_r _ [17, 13, 18, 19, 20, 21, 22, 23, 24, 25, 26, 27, 28, 11, 29, 30, 48, 49, 50] (by decide +kernel) (by decide +kernel)
set_option maxRecDepth 20000 in
theorem gX6_changed_Jx4a65c_get_915e3 : GoodIn wsX6_changed (wsV RX6 135 RJx4a65c yJx4a65c_get_915e3 wsJx4a65c_get_915e3) := goodIn_app (goodIn_of _ (by decide +kernel)) ggX6_changed_Jx4a65c_get_915e3
theorem dX6_changed_0 : decode cX6_changed 0 = .ok (.iload_n 1, 1) := by decide +kernel
theorem dX6_changed_1 : decode cX6_changed 1 = .ok (.ifCond .lt 17, 3) := by decide +kernel
theorem dX6_changed_4 : decode cX6_changed 4 = .ok (.iload_n 1, 1) := by decide +kernel
theorem dX6_changed_5 : decode cX6_changed 5 = .ok (.aload_n 0, 1) := by decide +kernel
theorem dX6_changed_6 : decode cX6_changed 6 = .ok (.getfield 26, 3) := by decide +kernel
theorem dX6_changed_9 : decode cX6_changed 9 = .ok (.getfield 130, 3) := by decide +kernel
theorem dX6_changed_12 : decode cX6_changed 12 = .ok (.invokevirtual 124, 3) := by decide +kernel
theorem dX6_changed_15 : decode cX6_changed 15 = .ok (.if_icmp .lt 13, 3) := by decide +kernel
theorem dX6_changed_18 : decode cX6_changed 18 = .ok (.new 66, 3) := by decide +kernel
theorem dX6_changed_21 : decode cX6_changed 21 = .ok (.dup, 1) := by decide +kernel
theorem dX6_changed_22 : decode cX6_changed 22 = .ok (.ldc 133, 2) := by decide +kernel
theorem dX6_changed_24 : decode cX6_changed 24 = .ok (.invokespecial 70, 3) := by decide +kernel
theorem dX6_changed_27 : decode cX6_changed 27 = .ok (.athrow, 1) := by decide +kernel
theorem dX6_changed_28 : decode cX6_changed 28 = .ok (.aload_n 0, 1) := by decide +kernel
theorem dX6_changed_29 : decode cX6_changed 29 = .ok (.getfield 26, 3) := by decide +kernel
theorem dX6_changed_32 : decode cX6_changed 32 = .ok (.getfield 130, 3) := by decide +kernel
theorem dX6_changed_35 : decode cX6_changed 35 = .ok (.iload_n 1, 1) := by decide +kernel
theorem dX6_changed_36 : decode cX6_changed 36 = .ok (.invokevirtual 135, 3) := by decide +kernel
theorem dX6_changed_39 : decode cX6_changed 39 = .ok (.checkcast 78, 3) := by decide +kernel
theorem dX6_changed_42 : decode cX6_changed 42 = .ok (.astore 4, 2) := by decide +kernel
theorem dX6_changed_44 : decode cX6_changed 44 = .ok (.iload_n 2, 1) := by decide +kernel
theorem dX6_changed_45 : decode cX6_changed 45 = .ok (.ifCond .lt 15, 3) := by decide +kernel
theorem dX6_changed_48 : decode cX6_changed 48 = .ok (.iload_n 2, 1) := by decide +kernel
theorem dX6_changed_49 : decode cX6_changed 49 = .ok (.aload 4, 2) := by decide +kernel
theorem dX6_changed_51 : decode cX6_changed 51 = .ok (.getfield 120, 3) := by decide +kernel
theorem dX6_changed_54 : decode cX6_changed 54 = .ok (.invokevirtual 124, 3) := by decide +kernel
theorem dX6_changed_57 : decode cX6_changed 57 = .ok (.if_icmp .lt 13, 3) := by decide +kernel
theorem dX6_changed_60 : decode cX6_changed 60 = .ok (.new 66, 3) := by decide +kernel
theorem dX6_changed_63 : decode cX6_changed 63 = .ok (.dup, 1) := by decide +kernel
theorem dX6_changed_64 : decode cX6_changed 64 = .ok (.ldc 144, 2) := by decide +kernel
theorem dX6_changed_66 : decode cX6_changed 66 = .ok (.invokespecial 70, 3) := by decide +kernel
theorem dX6_changed_69 : decode cX6_changed 69 = .ok (.athrow, 1) := by decide +kernel
theorem dX6_changed_70 : decode cX6_changed 70 = .ok (.aload 4, 2) := by decide +kernel
theorem dX6_changed_72 : decode cX6_changed 72 = .ok (.getfield 120, 3) := by decide +kernel
theorem dX6_changed_75 : decode cX6_changed 75 = .ok (.iload_n 2, 1) := by decide +kernel
theorem dX6_changed_76 : decode cX6_changed 76 = .ok (.invokevirtual 135, 3) := by decide +kernel
theorem dX6_changed_79 : decode cX6_changed 79 = .ok (.checkcast 146, 3) := by decide +kernel
theorem dX6_changed_82 : decode cX6_changed 82 = .ok (.astore 5, 2) := by decide +kernel
theorem dX6_changed_84 : decode cX6_changed 84 = .ok (.iload_n 3, 1) := by decide +kernel
theorem dX6_changed_85 : decode cX6_changed 85 = .ok (.tableswitch 55 0 3 #[31, 37, 43, 49], 31) := by decide +kernel
theorem dX6_changed_116 : decode cX6_changed 116 = .ok (.aload 5, 2) := by decide +kernel
theorem dX6_changed_118 : decode cX6_changed 118 = .ok (.getfield 148, 3) := by decide +kernel
theorem dX6_changed_121 : decode cX6_changed 121 = .ok (.ireturn, 1) := by decide +kernel
theorem dX6_changed_122 : decode cX6_changed 122 = .ok (.aload 5, 2) := by decide +kernel
theorem dX6_changed_124 : decode cX6_changed 124 = .ok (.getfield 151, 3) := by decide +kernel
theorem dX6_changed_127 : decode cX6_changed 127 = .ok (.ireturn, 1) := by decide +kernel
theorem dX6_changed_128 : decode cX6_changed 128 = .ok (.aload 5, 2) := by decide +kernel
theorem dX6_changed_130 : decode cX6_changed 130 = .ok (.getfield 154, 3) := by decide +kernel
theorem dX6_changed_133 : decode cX6_changed 133 = .ok (.ireturn, 1) := by decide +kernel
theorem dX6_changed_134 : decode cX6_changed 134 = .ok (.aload 5, 2) := by decide +kernel
theorem dX6_changed_136 : decode cX6_changed 136 = .ok (.getfield 157, 3) := by decide +kernel
theorem dX6_changed_139 : decode cX6_changed 139 = .ok (.ireturn, 1) := by decide +kernel
theorem dX6_changed_140 : decode cX6_changed 140 = .ok (.new 40, 3) := by decide +kernel
theorem dX6_changed_143 : decode cX6_changed 143 = .ok (.dup, 1) := by decide +kernel
theorem dX6_changed_144 : decode cX6_changed 144 = .ok (.ldc 142, 2) := by decide +kernel
theorem dX6_changed_146 : decode cX6_changed 146 = .ok (.invokespecial 44, 3) := by decide +kernel
theorem dX6_changed_149 : decode cX6_changed 149 = .ok (.athrow, 1) := by decide +kernel
set_option maxRecDepth 20000 in
theorem ggX6_at_X5_hasElement : GoodIn wsX6_at wsX5_hasElement := goodIn_r _ [9, 10, 11, 12, 8, 13, 14, 15, 16, 17, 18, 19, 90, 91] (by decide +kernel) (by decide +kernel)
set_option maxRecDepth 20000 in
theorem gX6_at_X5_hasElement : GoodIn wsX6_at (wsV RX6 102 RX5 yX5_hasElement wsX5_hasElement) := goodIn_app (goodIn_of _ (by decide +kernel)) ggX6_at_X5_hasElement
set_option maxRecDepth 20000 in
theorem ggX6_at_X4_valueBehind : GoodIn wsX6_at wsX4_valueBehind := goodIn_r _ [24, 25, 26, 27, 28, 29, 30, 31, 32, 33, 34, 35, 36, 37, 38, 39, 40, 41, 42, 43, 44, 45, 46, 47, 48, 49, 50, 51, 52, 53, 54, 55, 56, 57, 58, 59, 60, 61, 62, 63, 64, 65, 66, 67, 68, 69, 70, 71, 72, 73, 74, 75, 76, 77, 78, 79, 80, 81, 82, 83, 92, 93, 94, 95, 96, 97, 98, 99, 100, 101, 102, 103, 104, 105] (by decide +kernel) (by decide +kernel)
set_option maxRecDepth 20000 in
theorem gX6_at_X4_valueBehind : GoodIn wsX6_at (wsV RX6 160 RX4 yX4_valueBehind wsX4_valueBehind) := goodIn_app (goodIn_of _ (by decide +kernel)) ggX6_at_X4_valueBehind
theorem dX6_at_0 : decode cX6_at 0 = .ok (.aload_n 0, 1) := by decide +kernel
theorem dX6_at_1 : decode cX6_at 1 = .ok (.getfield 10, 3) := by decide +kernel
theorem dX6_at_4 : decode cX6_at 4 = .ok (.iload 5, 2) := by decide +kernel
theorem dX6_at_6 : decode cX6_at 6 = .ok (.iload 6, 2) := by decide +kernel
theorem dX6_at_8 : decode cX6_at 8 = .ok (.invokevirtual 102, 3) := by decide +kernel
theorem dX6_at_11 : decode cX6_at 11 = .ok (.ifCond .ne 13, 3) := by decide +kernel
theorem dX6_at_14 : decode cX6_at 14 = .ok (.new 66, 3) := by decide +kernel
theorem dX6_at_17 : decode cX6_at 17 = .ok (.dup, 1) := by decide +kernel
theorem dX6_at_18 : decode cX6_at 18 = .ok (.ldc 106, 2) := by decide +kernel
theorem dX6_at_20 : decode cX6_at 20 = .ok (.invokespecial 70, 3) := by decide +kernel
theorem dX6_at_23 : decode cX6_at 23 = .ok (.athrow, 1) := by decide +kernel
theorem dX6_at_24 : decode cX6_at 24 = .ok (.aload_n 0, 1) := by decide +kernel
theorem dX6_at_25 : decode cX6_at 25 = .ok (.getfield 26, 3) := by decide +kernel
theorem dX6_at_28 : decode cX6_at 28 = .ok (.lload_n 1, 1) := by decide +kernel
theorem dX6_at_29 : decode cX6_at 29 = .ok (.lload_n 3, 1) := by decide +kernel
theorem dX6_at_30 : decode cX6_at 30 = .ok (.iload 5, 2) := by decide +kernel
theorem dX6_at_32 : decode cX6_at 32 = .ok (.iload 6, 2) := by decide +kernel
theorem dX6_at_34 : decode cX6_at 34 = .ok (.invokevirtual 160, 3) := by decide +kernel
theorem dX6_at_37 : decode cX6_at 37 = .ok (.ireturn, 1) := by decide +kernel
set_option maxRecDepth 20000 in
theorem ggX6_next_X5_has : GoodIn wsX6_next wsX5_has := goodIn_r _ [12, 13, 14, 67, 68] (by decide +kernel) (by decide +kernel)
set_option maxRecDepth 20000 in
theorem gX6_next_X5_has : GoodIn wsX6_next (wsV RX6 62 RX5 yX5_has wsX5_has) := goodIn_app (goodIn_of _ (by decide +kernel)) ggX6_next_X5_has
set_option maxRecDepth 20000 in
theorem ggX6_next_Jx4a65c_size_8abf5 : GoodIn wsX6_next wsJx4a65c_size_8abf5 := goodIn_r _ [19, 20, 69, 70, 71] (by decide +kernel) (by decide +kernel)
set_option maxRecDepth 20000 in
theorem gX6_next_Jx4a65c_size_8abf5 : GoodIn wsX6_next (wsV RX6 124 RJx4a65c yJx4a65c_size_8abf5 wsJx4a65c_size_8abf5) := goodIn_app (goodIn_of _ (by decide +kernel)) ggX6_next_Jx4a65c_size_8abf5
set_option maxRecDepth 20000 in
theorem ggX6_next_Jx4a65c_get_915e3 : GoodIn wsX6_next wsJx4a65c_get_915e3 := goodIn_r _ [24, 20, 25, 26, 27, 28, 29, 30, 31, 32, 33, 34, 35, 18, 36, 37, 69, 70, 71] (by decide +kernel) (by decide +kernel)
set_option maxRecDepth 20000 in
theorem gX6_next_Jx4a65c_get_915e3 : GoodIn wsX6_next (wsV RX6 135 RJx4a65c yJx4a65c_get_915e3 wsJx4a65c_get_915e3) := goodIn_app (goodIn_of _ (by decide +kernel)) ggX6_next_Jx4a65c_get_915e3
set_option maxRecDepth 20000 in
theorem ggX6_next_X2_changesWire : GoodIn wsX6_next wsX2_changesWire := goodIn_r _ [42, 43, 44, 45, 46, 47, 41, 48, 49, 16, 17, 18, 19, 20, 50, 22, 23, 24, 25, 26, 27, 28, 29, 30, 31, 32, 33, 34, 35, 36, 37, 51, 52, 53, 54, 55, 56, 57, 72, 73, 74, 75, 76, 77, 78, 79, 69, 70, 71] (by decide +kernel) (by decide +kernel)
set_option maxRecDepth 20000 in
theorem gX6_next_X2_changesWire : GoodIn wsX6_next (wsV RX6 166 RX2 yX2_changesWire wsX2_changesWire) := goodIn_app (goodIn_of _ (by decide +kernel)) ggX6_next_X2_changesWire
theorem dX6_next_0 : decode cX6_next 0 = .ok (.aload_n 0, 1) := by decide +kernel
theorem dX6_next_1 : decode cX6_next 1 = .ok (.getfield 10, 3) := by decide +kernel
theorem dX6_next_4 : decode cX6_next 4 = .ok (.iload_n 1, 1) := by decide +kernel
theorem dX6_next_5 : decode cX6_next 5 = .ok (.invokevirtual 62, 3) := by decide +kernel
theorem dX6_next_8 : decode cX6_next 8 = .ok (.ifCond .ne 13, 3) := by decide +kernel
theorem dX6_next_11 : decode cX6_next 11 = .ok (.new 66, 3) := by decide +kernel
theorem dX6_next_14 : decode cX6_next 14 = .ok (.dup, 1) := by decide +kernel
theorem dX6_next_15 : decode cX6_next 15 = .ok (.ldc 68, 2) := by decide +kernel
theorem dX6_next_17 : decode cX6_next 17 = .ok (.invokespecial 70, 3) := by decide +kernel
theorem dX6_next_20 : decode cX6_next 20 = .ok (.athrow, 1) := by decide +kernel
theorem dX6_next_21 : decode cX6_next 21 = .ok (.iload_n 2, 1) := by decide +kernel
theorem dX6_next_22 : decode cX6_next 22 = .ok (.ifCond .ge 13, 3) := by decide +kernel
theorem dX6_next_25 : decode cX6_next 25 = .ok (.new 40, 3) := by decide +kernel
theorem dX6_next_28 : decode cX6_next 28 = .ok (.dup, 1) := by decide +kernel
theorem dX6_next_29 : decode cX6_next 29 = .ok (.ldc 164, 2) := by decide +kernel
theorem dX6_next_31 : decode cX6_next 31 = .ok (.invokespecial 44, 3) := by decide +kernel
theorem dX6_next_34 : decode cX6_next 34 = .ok (.athrow, 1) := by decide +kernel
theorem dX6_next_35 : decode cX6_next 35 = .ok (.iload_n 2, 1) := by decide +kernel
theorem dX6_next_36 : decode cX6_next 36 = .ok (.istore_n 3, 1) := by decide +kernel
theorem dX6_next_37 : decode cX6_next 37 = .ok (.iload_n 3, 1) := by decide +kernel
theorem dX6_next_38 : decode cX6_next 38 = .ok (.aload_n 0, 1) := by decide +kernel
theorem dX6_next_39 : decode cX6_next 39 = .ok (.getfield 26, 3) := by decide +kernel
theorem dX6_next_42 : decode cX6_next 42 = .ok (.getfield 130, 3) := by decide +kernel
theorem dX6_next_45 : decode cX6_next 45 = .ok (.invokevirtual 124, 3) := by decide +kernel
theorem dX6_next_48 : decode cX6_next 48 = .ok (.if_icmp .ge 32, 3) := by decide +kernel
theorem dX6_next_51 : decode cX6_next 51 = .ok (.aload_n 0, 1) := by decide +kernel
theorem dX6_next_52 : decode cX6_next 52 = .ok (.getfield 26, 3) := by decide +kernel
theorem dX6_next_55 : decode cX6_next 55 = .ok (.getfield 130, 3) := by decide +kernel
theorem dX6_next_58 : decode cX6_next 58 = .ok (.iload_n 3, 1) := by decide +kernel
theorem dX6_next_59 : decode cX6_next 59 = .ok (.invokevirtual 135, 3) := by decide +kernel
theorem dX6_next_62 : decode cX6_next 62 = .ok (.checkcast 78, 3) := by decide +kernel
theorem dX6_next_65 : decode cX6_next 65 = .ok (.iload_n 1, 1) := by decide +kernel
theorem dX6_next_66 : decode cX6_next 66 = .ok (.invokevirtual 166, 3) := by decide +kernel
theorem dX6_next_69 : decode cX6_next 69 = .ok (.ifCond .eq 5, 3) := by decide +kernel
theorem dX6_next_72 : decode cX6_next 72 = .ok (.iload_n 3, 1) := by decide +kernel
theorem dX6_next_73 : decode cX6_next 73 = .ok (.ireturn, 1) := by decide +kernel
theorem dX6_next_74 : decode cX6_next 74 = .ok (.iinc 3 1, 3) := by decide +kernel
theorem dX6_next_77 : decode cX6_next 77 = .ok (.goto (-40), 3) := by decide +kernel
theorem dX6_next_80 : decode cX6_next 80 = .ok (.iconst (-1), 1) := by decide +kernel
theorem dX6_next_81 : decode cX6_next 81 = .ok (.ireturn, 1) := by decide +kernel
theorem dX6_size_0 : decode cX6_size 0 = .ok (.aload_n 0, 1) := by decide +kernel
theorem dX6_size_1 : decode cX6_size 1 = .ok (.getfield 26, 3) := by decide +kernel
theorem dX6_size_4 : decode cX6_size 4 = .ok (.getfield 169, 3) := by decide +kernel
theorem dX6_size_7 : decode cX6_size 7 = .ok (.getfield 172, 3) := by decide +kernel
theorem dX6_size_10 : decode cX6_size 10 = .ok (.ireturn, 1) := by decide +kernel
set_option maxRecDepth 20000 in
theorem ggX6_byteAt_X0_get : GoodIn wsX6_byteAt wsX0_get := goodIn_r _ [8, 9, 10, 20, 21] (by decide +kernel) (by decide +kernel)
set_option maxRecDepth 20000 in
theorem gX6_byteAt_X0_get : GoodIn wsX6_byteAt (wsV RX6 177 RX0 yX0_get wsX0_get) := goodIn_app (goodIn_of _ (by decide +kernel)) ggX6_byteAt_X0_get
theorem dX6_byteAt_0 : decode cX6_byteAt 0 = .ok (.iload_n 1, 1) := by decide +kernel
theorem dX6_byteAt_1 : decode cX6_byteAt 1 = .ok (.ifCond .lt 17, 3) := by decide +kernel
theorem dX6_byteAt_4 : decode cX6_byteAt 4 = .ok (.iload_n 1, 1) := by decide +kernel
theorem dX6_byteAt_5 : decode cX6_byteAt 5 = .ok (.aload_n 0, 1) := by decide +kernel
theorem dX6_byteAt_6 : decode cX6_byteAt 6 = .ok (.getfield 26, 3) := by decide +kernel
theorem dX6_byteAt_9 : decode cX6_byteAt 9 = .ok (.getfield 169, 3) := by decide +kernel
theorem dX6_byteAt_12 : decode cX6_byteAt 12 = .ok (.getfield 172, 3) := by decide +kernel
theorem dX6_byteAt_15 : decode cX6_byteAt 15 = .ok (.if_icmp .lt 13, 3) := by decide +kernel
theorem dX6_byteAt_18 : decode cX6_byteAt 18 = .ok (.new 66, 3) := by decide +kernel
theorem dX6_byteAt_21 : decode cX6_byteAt 21 = .ok (.dup, 1) := by decide +kernel
theorem dX6_byteAt_22 : decode cX6_byteAt 22 = .ok (.ldc 175, 2) := by decide +kernel
theorem dX6_byteAt_24 : decode cX6_byteAt 24 = .ok (.invokespecial 70, 3) := by decide +kernel
theorem dX6_byteAt_27 : decode cX6_byteAt 27 = .ok (.athrow, 1) := by decide +kernel
theorem dX6_byteAt_28 : decode cX6_byteAt 28 = .ok (.aload_n 0, 1) := by decide +kernel
theorem dX6_byteAt_29 : decode cX6_byteAt 29 = .ok (.getfield 26, 3) := by decide +kernel
theorem dX6_byteAt_32 : decode cX6_byteAt 32 = .ok (.getfield 169, 3) := by decide +kernel
theorem dX6_byteAt_35 : decode cX6_byteAt 35 = .ok (.iload_n 1, 1) := by decide +kernel
theorem dX6_byteAt_36 : decode cX6_byteAt 36 = .ok (.invokevirtual 177, 3) := by decide +kernel
theorem dX6_byteAt_39 : decode cX6_byteAt 39 = .ok (.ireturn, 1) := by decide +kernel
set_option maxRecDepth 20000 in
theorem ggX6_feed_X0_add : GoodIn wsX6_feed wsX0_add := goodIn_r _ [9, 10, 11, 12, 13, 14, 15, 16, 17, 18, 19, 20, 21, 22, 23, 24, 25, 26, 27, 28, 29, 30, 37, 38] (by decide +kernel) (by decide +kernel)
set_option maxRecDepth 20000 in
theorem gX6_feed_X0_add : GoodIn wsX6_feed (wsV RX6 182 RX0 yX0_add wsX0_add) := goodIn_app (goodIn_of _ (by decide +kernel)) ggX6_feed_X0_add
theorem dX6_feed_0 : decode cX6_feed 0 = .ok (.aload_n 0, 1) := by decide +kernel
theorem dX6_feed_1 : decode cX6_feed 1 = .ok (.getfield 19, 3) := by decide +kernel
theorem dX6_feed_4 : decode cX6_feed 4 = .ok (.getfield 172, 3) := by decide +kernel
theorem dX6_feed_7 : decode cX6_feed 7 = .ok (.ldc 179, 2) := by decide +kernel
theorem dX6_feed_9 : decode cX6_feed 9 = .ok (.if_icmp .le 13, 3) := by decide +kernel
theorem dX6_feed_12 : decode cX6_feed 12 = .ok (.new 51, 3) := by decide +kernel
