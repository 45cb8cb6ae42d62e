theorem dX6_feed_15 : decode cX6_feed 15 = .ok (.dup, 1) := by decide +kernel
theorem dX6_feed_16 : decode cX6_feed 16 = .ok (.ldc 180, 2) := by decide +kernel
theorem dX6_feed_18 : decode cX6_feed 18 = .ok (.invokespecial 55, 3) := by decide +kernel
theorem dX6_feed_21 : decode cX6_feed 21 = .ok (.athrow, 1) := by decide +kernel
theorem dX6_feed_22 : decode cX6_feed 22 = .ok (.bipush 24, 2) := by decide +kernel
theorem dX6_feed_24 : decode cX6_feed 24 = .ok (.istore_n 2, 1) := by decide +kernel
theorem dX6_feed_25 : decode cX6_feed 25 = .ok (.iload_n 2, 1) := by decide +kernel
theorem dX6_feed_26 : decode cX6_feed 26 = .ok (.ifCond .lt 19, 3) := by decide +kernel
theorem dX6_feed_29 : decode cX6_feed 29 = .ok (.aload_n 0, 1) := by decide +kernel
theorem dX6_feed_30 : decode cX6_feed 30 = .ok (.getfield 19, 3) := by decide +kernel
theorem dX6_feed_33 : decode cX6_feed 33 = .ok (.iload_n 1, 1) := by decide +kernel
theorem dX6_feed_34 : decode cX6_feed 34 = .ok (.iload_n 2, 1) := by decide +kernel
theorem dX6_feed_35 : decode cX6_feed 35 = .ok (.iushr, 1) := by decide +kernel
theorem dX6_feed_36 : decode cX6_feed 36 = .ok (.invokevirtual 182, 3) := by decide +kernel
theorem dX6_feed_39 : decode cX6_feed 39 = .ok (.iinc 2 (-8), 3) := by decide +kernel
theorem dX6_feed_42 : decode cX6_feed 42 = .ok (.goto (-17), 3) := by decide +kernel
theorem dX6_feed_45 : decode cX6_feed 45 = .ok (.aload_n 0, 1) := by decide +kernel
theorem dX6_feed_46 : decode cX6_feed 46 = .ok (.getfield 19, 3) := by decide +kernel
theorem dX6_feed_49 : decode cX6_feed 49 = .ok (.getfield 172, 3) := by decide +kernel
theorem dX6_feed_52 : decode cX6_feed 52 = .ok (.ireturn, 1) := by decide +kernel
set_option maxRecDepth 20000 in
theorem ggX6_end_X0_cut : GoodIn wsX6_end wsX0_cut := goodIn_r _ [8, 9, 16, 17] (by decide +kernel) (by decide +kernel)
set_option maxRecDepth 20000 in
theorem gX6_end_X0_cut : GoodIn wsX6_end (wsV RX6 187 RX0 yX0_cut wsX0_cut) := goodIn_app (goodIn_of _ (by decide +kernel)) ggX6_end_X0_cut
theorem dX6_end_0 : decode cX6_end 0 = .ok (.iload_n 1, 1) := by decide +kernel
theorem dX6_end_1 : decode cX6_end 1 = .ok (.ifCond .lt 14, 3) := by decide +kernel
theorem dX6_end_4 : decode cX6_end 4 = .ok (.iload_n 1, 1) := by decide +kernel
theorem dX6_end_5 : decode cX6_end 5 = .ok (.aload_n 0, 1) := by decide +kernel
theorem dX6_end_6 : decode cX6_end 6 = .ok (.getfield 19, 3) := by decide +kernel
theorem dX6_end_9 : decode cX6_end 9 = .ok (.getfield 172, 3) := by decide +kernel
theorem dX6_end_12 : decode cX6_end 12 = .ok (.if_icmp .le 13, 3) := by decide +kernel
theorem dX6_end_15 : decode cX6_end 15 = .ok (.new 40, 3) := by decide +kernel
theorem dX6_end_18 : decode cX6_end 18 = .ok (.dup, 1) := by decide +kernel
theorem dX6_end_19 : decode cX6_end 19 = .ok (.ldc 185, 2) := by decide +kernel
theorem dX6_end_21 : decode cX6_end 21 = .ok (.invokespecial 44, 3) := by decide +kernel
theorem dX6_end_24 : decode cX6_end 24 = .ok (.athrow, 1) := by decide +kernel
theorem dX6_end_25 : decode cX6_end 25 = .ok (.aload_n 0, 1) := by decide +kernel
theorem dX6_end_26 : decode cX6_end 26 = .ok (.getfield 19, 3) := by decide +kernel
theorem dX6_end_29 : decode cX6_end 29 = .ok (.iload_n 1, 1) := by decide +kernel
theorem dX6_end_30 : decode cX6_end 30 = .ok (.invokevirtual 187, 3) := by decide +kernel
theorem dX6_end_33 : decode cX6_end 33 = .ok (.return_, 1) := by decide +kernel
set_option maxRecDepth 20000 in
theorem ggX6_load_X4_clear : GoodIn wsX6_load wsX4_clear := goodIn_r _ [11, 12, 13, 14, 15, 16, 17, 18, 19, 20, 21, 22, 23, 24, 25, 26, 27, 28, 29, 30, 31, 32, 33, 279, 280, 281, 282, 283, 284, 285, 286] (by decide +kernel) (by decide +kernel)
set_option maxRecDepth 20000 in
theorem gX6_load_X4_clear : GoodIn wsX6_load (wsV RX6 190 RX4 yX4_clear wsX4_clear) := goodIn_app (goodIn_of _ (by decide +kernel)) ggX6_load_X4_clear
set_option maxRecDepth 20000 in
theorem ggX6_load_X3_init : GoodIn wsX6_load wsX3_init := goodIn_r _ [36, 37, 38, 39, 40, 41, 42, 43, 44, 274, 275, 276, 277, 278] (by decide +kernel) (by decide +kernel)
set_option maxRecDepth 20000 in
theorem gX6_load_X3_init : GoodIn wsX6_load (wsX3_init) := ggX6_load_X3_init
set_option maxRecDepth 20000 in
theorem ggX6_load_X3_readRow : GoodIn wsX6_load wsX3_readRow := goodIn_r _ [48, 40, 43, 44, 42, 49, 50, 51, 4, 52, 53, 54, 55, 56, 57, 58, 59, 60, 61, 62, 63, 64, 65, 66, 18, 67, 20, 68, 69, 70, 71, 10, 72, 73, 74, 75, 76, 13, 77, 78, 79, 80, 24, 81, 29, 82, 83, 84, 85, 86, 87, 88, 89, 90, 91, 92, 93, 94, 95, 96, 97, 98, 99, 100, 101, 28, 102, 103, 104, 105, 106, 107, 108, 109, 110, 111, 112, 113, 114, 38, 39, 115, 116, 117, 118, 119, 120, 121, 122, 123, 124, 125, 126, 127, 128, 129, 130, 131, 132, 133, 134, 135, 136, 137, 138, 139, 41, 140, 141, 142, 143, 144, 145, 146, 147, 148, 149, 150, 151, 152, 153, 154, 155, 156, 157, 158, 159, 160, 161, 14, 162, 163, 164, 165, 166, 167, 168, 169, 170, 171, 172, 173, 26, 27, 174, 175, 176, 177, 178, 179, 180, 181, 182, 183, 184, 185, 186, 187, 188, 189, 190, 191, 192, 193, 194, 195, 196, 197, 198, 199, 200, 201, 32, 202, 203, 204, 205, 206, 207, 208, 209, 210, 211, 212, 213, 214, 215, 216, 217, 218, 219, 220, 221, 222, 12, 223, 224, 225, 226, 227, 228, 229, 230, 231, 232, 233, 234, 235, 236, 237, 238, 239, 240, 241, 242, 243, 244, 245, 246, 247, 248, 249, 250, 15, 16, 17, 19, 251, 252, 253, 254, 255, 256, 257, 274, 275, 276, 277, 278, 282, 283, 287, 288, 289, 290, 279, 280, 281, 284, 285, 286, 291, 292, 293, 294, 295, 296] (by decide +kernel) (by decide +kernel)
set_option maxRecDepth 20000 in
theorem gX6_load_X3_readRow : GoodIn wsX6_load (wsV RX6 198 RX3 yX3_readRow wsX3_readRow) := goodIn_app (goodIn_of _ (by decide +kernel)) ggX6_load_X3_readRow
set_option maxRecDepth 20000 in
theorem ggX6_load_X0_cut : GoodIn wsX6_load wsX0_cut := goodIn_r _ [19, 20, 282, 283] (by decide +kernel) (by decide +kernel)
set_option maxRecDepth 20000 in
theorem gX6_load_X0_cut : GoodIn wsX6_load (wsV RX6 187 RX0 yX0_cut wsX0_cut) := goodIn_app (goodIn_of _ (by decide +kernel)) ggX6_load_X0_cut
set_option maxRecDepth 20000 in
theorem ggX6_load_X6_takeSpareRow : GoodIn wsX6_load wsX6_takeSpareRow := goodIn_r _ [263, 1, 264, 265, 266, 267, 74, 75, 10, 76, 13, 77, 78, 79, 80, 24, 81, 29, 82, 83, 84, 85, 86, 87, 88, 89, 90, 91, 92, 93, 94, 95, 96, 97, 98, 99, 100, 101, 28, 268, 269, 270, 271, 272, 273, 279, 280, 281, 284, 285, 286] (by decide +kernel) (by decide +kernel)
set_option maxRecDepth 20000 in
theorem gX6_load_X6_takeSpareRow : GoodIn wsX6_load (wsV RX6 201 RX6 yX6_takeSpareRow wsX6_takeSpareRow) := goodIn_app (goodIn_of _ (by decide +kernel)) ggX6_load_X6_takeSpareRow
theorem dX6_load_0 : decode cX6_load 0 = .ok (.aload_n 0, 1) := by decide +kernel
theorem dX6_load_1 : decode cX6_load 1 = .ok (.getfield 30, 3) := by decide +kernel
theorem dX6_load_4 : decode cX6_load 4 = .ok (.invokevirtual 190, 3) := by decide +kernel
theorem dX6_load_7 : decode cX6_load 7 = .ok (.new 193, 3) := by decide +kernel
theorem dX6_load_10 : decode cX6_load 10 = .ok (.dup, 1) := by decide +kernel
theorem dX6_load_11 : decode cX6_load 11 = .ok (.aload_n 0, 1) := by decide +kernel
theorem dX6_load_12 : decode cX6_load 12 = .ok (.getfield 19, 3) := by decide +kernel
theorem dX6_load_15 : decode cX6_load 15 = .ok (.aload_n 0, 1) := by decide +kernel
theorem dX6_load_16 : decode cX6_load 16 = .ok (.getfield 10, 3) := by decide +kernel
theorem dX6_load_19 : decode cX6_load 19 = .ok (.aload_n 0, 1) := by decide +kernel
theorem dX6_load_20 : decode cX6_load 20 = .ok (.getfield 30, 3) := by decide +kernel
theorem dX6_load_23 : decode cX6_load 23 = .ok (.invokespecial 195, 3) := by decide +kernel
theorem dX6_load_26 : decode cX6_load 26 = .ok (.astore_n 1, 1) := by decide +kernel
theorem dX6_load_27 : decode cX6_load 27 = .ok (.aload_n 1, 1) := by decide +kernel
theorem dX6_load_28 : decode cX6_load 28 = .ok (.invokevirtual 198, 3) := by decide +kernel
theorem dX6_load_31 : decode cX6_load 31 = .ok (.istore_n 2, 1) := by decide +kernel
theorem dX6_load_32 : decode cX6_load 32 = .ok (.aload_n 0, 1) := by decide +kernel
theorem dX6_load_33 : decode cX6_load 33 = .ok (.getfield 19, 3) := by decide +kernel
theorem dX6_load_36 : decode cX6_load 36 = .ok (.iconst 0, 1) := by decide +kernel
theorem dX6_load_37 : decode cX6_load 37 = .ok (.invokevirtual 187, 3) := by decide +kernel
theorem dX6_load_40 : decode cX6_load 40 = .ok (.iload_n 2, 1) := by decide +kernel
theorem dX6_load_41 : decode cX6_load 41 = .ok (.iconst (-1), 1) := by decide +kernel
theorem dX6_load_42 : decode cX6_load 42 = .ok (.if_icmp .ne 7, 3) := by decide +kernel
theorem dX6_load_45 : decode cX6_load 45 = .ok (.aload_n 0, 1) := by decide +kernel
theorem dX6_load_46 : decode cX6_load 46 = .ok (.invokevirtual 201, 3) := by decide +kernel
theorem dX6_load_49 : decode cX6_load 49 = .ok (.iload_n 2, 1) := by decide +kernel
theorem dX6_load_50 : decode cX6_load 50 = .ok (.ireturn, 1) := by decide +kernel
set_option maxRecDepth 20000 in
theorem ggX6_takeSpareRow_X4_lastMoment : GoodIn wsX6_takeSpareRow wsX4_lastMoment := goodIn_r _ [9, 10, 11, 12, 13, 14, 15, 16, 17, 18, 19, 20, 21, 22, 23, 24, 25, 26, 27, 28, 29, 30, 31, 32, 33, 34, 35, 36, 37, 38, 45, 46, 47, 48, 49, 50] (by decide +kernel) (by decide +kernel)
set_option maxRecDepth 20000 in
theorem gX6_takeSpareRow_X4_lastMoment : GoodIn wsX6_takeSpareRow (wsV RX6 204 RX4 yX4_lastMoment wsX4_lastMoment) := goodIn_app (goodIn_of _ (by decide +kernel)) ggX6_takeSpareRow_X4_lastMoment
theorem dX6_takeSpareRow_0 : decode cX6_takeSpareRow 0 = .ok (.aload_n 0, 1) := by decide +kernel
theorem dX6_takeSpareRow_1 : decode cX6_takeSpareRow 1 = .ok (.getfield 30, 3) := by decide +kernel
theorem dX6_takeSpareRow_4 : decode cX6_takeSpareRow 4 = .ok (.astore_n 1, 1) := by decide +kernel
theorem dX6_takeSpareRow_5 : decode cX6_takeSpareRow 5 = .ok (.aload_n 0, 1) := by decide +kernel
theorem dX6_takeSpareRow_6 : decode cX6_takeSpareRow 6 = .ok (.aload_n 0, 1) := by decide +kernel
theorem dX6_takeSpareRow_7 : decode cX6_takeSpareRow 7 = .ok (.getfield 26, 3) := by decide +kernel
theorem dX6_takeSpareRow_10 : decode cX6_takeSpareRow 10 = .ok (.putfield 30, 3) := by decide +kernel
theorem dX6_takeSpareRow_13 : decode cX6_takeSpareRow 13 = .ok (.aload_n 0, 1) := by decide +kernel
theorem dX6_takeSpareRow_14 : decode cX6_takeSpareRow 14 = .ok (.aload_n 1, 1) := by decide +kernel
theorem dX6_takeSpareRow_15 : decode cX6_takeSpareRow 15 = .ok (.putfield 26, 3) := by decide +kernel
theorem dX6_takeSpareRow_18 : decode cX6_takeSpareRow 18 = .ok (.aload_n 0, 1) := by decide +kernel
theorem dX6_takeSpareRow_19 : decode cX6_takeSpareRow 19 = .ok (.aload_n 0, 1) := by decide +kernel
theorem dX6_takeSpareRow_20 : decode cX6_takeSpareRow 20 = .ok (.getfield 26, 3) := by decide +kernel
theorem dX6_takeSpareRow_23 : decode cX6_takeSpareRow 23 = .ok (.invokevirtual 204, 3) := by decide +kernel
theorem dX6_takeSpareRow_26 : decode cX6_takeSpareRow 26 = .ok (.putfield 33, 3) := by decide +kernel
theorem dX6_takeSpareRow_29 : decode cX6_takeSpareRow 29 = .ok (.aload_n 0, 1) := by decide +kernel
theorem dX6_takeSpareRow_30 : decode cX6_takeSpareRow 30 = .ok (.aconst_null, 1) := by decide +kernel
theorem dX6_takeSpareRow_31 : decode cX6_takeSpareRow 31 = .ok (.putfield 37, 3) := by decide +kernel
theorem dX6_takeSpareRow_34 : decode cX6_takeSpareRow 34 = .ok (.return_, 1) := by decide +kernel
set_option maxRecDepth 20000 in
theorem ggX6_closeOpenMoment_Jx4a65c_isEmpty_aae02 : GoodIn wsX6_closeOpenMoment wsJx4a65c_isEmpty_aae02 := goodIn_r _ [7, 8, 155, 156, 157] (by decide +kernel) (by decide +kernel)
set_option maxRecDepth 20000 in
theorem gX6_closeOpenMoment_Jx4a65c_isEmpty_aae02 : GoodIn wsX6_closeOpenMoment (wsV RX6 208 RJx4a65c yJx4a65c_isEmpty_aae02 wsJx4a65c_isEmpty_aae02) := goodIn_app (goodIn_of _ (by decide +kernel)) ggX6_closeOpenMoment_Jx4a65c_isEmpty_aae02
set_option maxRecDepth 20000 in
theorem ggX6_closeOpenMoment_X4_append : GoodIn wsX6_closeOpenMoment wsX4_append := goodIn_r _ [13, 14, 15, 16, 17, 18, 19, 20, 12, 21, 22, 23, 24, 25, 26, 27, 28, 29, 30, 31, 32, 4, 5, 6, 7, 8, 33, 34, 35, 36, 37, 38, 39, 40, 41, 42, 43, 44, 45, 46, 47, 48, 49, 50, 51, 52, 53, 54, 55, 56, 57, 58, 59, 60, 61, 62, 63, 64, 65, 66, 67, 68, 69, 70, 71, 72, 73, 74, 75, 76, 77, 78, 79, 80, 81, 82, 83, 84, 85, 86, 87, 88, 89, 90, 91, 92, 93, 94, 95, 96, 97, 98, 99, 100, 101, 102, 103, 104, 105, 106, 107, 108, 109, 110, 111, 112, 113, 114, 115, 116, 117, 118, 119, 120, 121, 122, 123, 124, 125, 126, 127, 128, 129, 130, 131, 132, 133, 134, 135, 136, 137, 138, 139, 140, 141, 142, 143, 144, 158, 159, 160, 161, 162, 151, 152, 153, 154, 163, 164, 165, 166, 155, 156, 157] (by decide +kernel) (by decide +kernel)
set_option maxRecDepth 20000 in
theorem gX6_closeOpenMoment_X4_append : GoodIn wsX6_closeOpenMoment (wsV RX6 211 RX4 yX4_append wsX4_append) := goodIn_app (goodIn_of _ (by decide +kernel)) ggX6_closeOpenMoment_X4_append
theorem dX6_closeOpenMoment_0 : decode cX6_closeOpenMoment 0 = .ok (.aload_n 0, 1) := by decide +kernel
theorem dX6_closeOpenMoment_1 : decode cX6_closeOpenMoment 1 = .ok (.getfield 37, 3) := by decide +kernel
theorem dX6_closeOpenMoment_4 : decode cX6_closeOpenMoment 4 = .ok (.ifnull 32, 3) := by decide +kernel
theorem dX6_closeOpenMoment_7 : decode cX6_closeOpenMoment 7 = .ok (.aload_n 0, 1) := by decide +kernel
theorem dX6_closeOpenMoment_8 : decode cX6_closeOpenMoment 8 = .ok (.getfield 37, 3) := by decide +kernel
theorem dX6_closeOpenMoment_11 : decode cX6_closeOpenMoment 11 = .ok (.getfield 120, 3) := by decide +kernel
theorem dX6_closeOpenMoment_14 : decode cX6_closeOpenMoment 14 = .ok (.invokevirtual 208, 3) := by decide +kernel
theorem dX6_closeOpenMoment_17 : decode cX6_closeOpenMoment 17 = .ok (.ifCond .ne 19, 3) := by decide +kernel
theorem dX6_closeOpenMoment_20 : decode cX6_closeOpenMoment 20 = .ok (.aload_n 0, 1) := by decide +kernel
theorem dX6_closeOpenMoment_21 : decode cX6_closeOpenMoment 21 = .ok (.getfield 26, 3) := by decide +kernel
theorem dX6_closeOpenMoment_24 : decode cX6_closeOpenMoment 24 = .ok (.aload_n 0, 1) := by decide +kernel
theorem dX6_closeOpenMoment_25 : decode cX6_closeOpenMoment 25 = .ok (.getfield 37, 3) := by decide +kernel
theorem dX6_closeOpenMoment_28 : decode cX6_closeOpenMoment 28 = .ok (.invokevirtual 211, 3) := by decide +kernel
theorem dX6_closeOpenMoment_31 : decode cX6_closeOpenMoment 31 = .ok (.ifCond .ne 5, 3) := by decide +kernel
theorem dX6_closeOpenMoment_34 : decode cX6_closeOpenMoment 34 = .ok (.iconst 0, 1) := by decide +kernel
theorem dX6_closeOpenMoment_35 : decode cX6_closeOpenMoment 35 = .ok (.ireturn, 1) := by decide +kernel
theorem dX6_closeOpenMoment_36 : decode cX6_closeOpenMoment 36 = .ok (.aload_n 0, 1) := by decide +kernel
theorem dX6_closeOpenMoment_37 : decode cX6_closeOpenMoment 37 = .ok (.aconst_null, 1) := by decide +kernel
theorem dX6_closeOpenMoment_38 : decode cX6_closeOpenMoment 38 = .ok (.putfield 37, 3) := by decide +kernel
theorem dX6_closeOpenMoment_41 : decode cX6_closeOpenMoment 41 = .ok (.iconst 1, 1) := by decide +kernel
theorem dX6_closeOpenMoment_42 : decode cX6_closeOpenMoment 42 = .ok (.ireturn, 1) := by decide +kernel
theorem dX7_init_0 : decode cX7_init 0 = .ok (.aload_n 0, 1) := by decide +kernel
theorem dX7_init_1 : decode cX7_init 1 = .ok (.invokespecial 1, 3) := by decide +kernel
theorem dX7_init_4 : decode cX7_init 4 = .ok (.aload_n 0, 1) := by decide +kernel
theorem dX7_init_5 : decode cX7_init 5 = .ok (.sipush 200, 3) := by decide +kernel
theorem dX7_init_8 : decode cX7_init 8 = .ok (.newarray .int, 2) := by decide +kernel
theorem dX7_init_10 : decode cX7_init 10 = .ok (.putfield 7, 3) := by decide +kernel
theorem dX7_init_13 : decode cX7_init 13 = .ok (.aload_n 0, 1) := by decide +kernel
theorem dX7_init_14 : decode cX7_init 14 = .ok (.sipush 12800, 3) := by decide +kernel
theorem dX7_init_17 : decode cX7_init 17 = .ok (.newarray .int, 2) := by decide +kernel
theorem dX7_init_19 : decode cX7_init 19 = .ok (.putfield 13, 3) := by decide +kernel
theorem dX7_init_22 : decode cX7_init 22 = .ok (.aload_n 0, 1) := by decide +kernel
theorem dX7_init_23 : decode cX7_init 23 = .ok (.sipush 12800, 3) := by decide +kernel
theorem dX7_init_26 : decode cX7_init 26 = .ok (.newarray .int, 2) := by decide +kernel
theorem dX7_init_28 : decode cX7_init 28 = .ok (.putfield 16, 3) := by decide +kernel
theorem dX7_init_31 : decode cX7_init 31 = .ok (.aload_n 0, 1) := by decide +kernel
theorem dX7_init_32 : decode cX7_init 32 = .ok (.sipush 15001, 3) := by decide +kernel
theorem dX7_init_35 : decode cX7_init 35 = .ok (.newarray .long, 2) := by decide +kernel
theorem dX7_init_37 : decode cX7_init 37 = .ok (.putfield 19, 3) := by decide +kernel
theorem dX7_init_40 : decode cX7_init 40 = .ok (.aload_n 0, 1) := by decide +kernel
theorem dX7_init_41 : decode cX7_init 41 = .ok (.sipush 15001, 3) := by decide +kernel
theorem dX7_init_44 : decode cX7_init 44 = .ok (.newarray .long, 2) := by decide +kernel
theorem dX7_init_46 : decode cX7_init 46 = .ok (.putfield 23, 3) := by decide +kernel
theorem dX7_init_49 : decode cX7_init 49 = .ok (.aload_n 0, 1) := by decide +kernel
theorem dX7_init_50 : decode cX7_init 50 = .ok (.sipush 15001, 3) := by decide +kernel
theorem dX7_init_53 : decode cX7_init 53 = .ok (.newarray .int, 2) := by decide +kernel
theorem dX7_init_55 : decode cX7_init 55 = .ok (.putfield 26, 3) := by decide +kernel
theorem dX7_init_58 : decode cX7_init 58 = .ok (.aload_n 0, 1) := by decide +kernel
theorem dX7_init_59 : decode cX7_init 59 = .ok (.sipush 30001, 3) := by decide +kernel
theorem dX7_init_62 : decode cX7_init 62 = .ok (.newarray .int, 2) := by decide +kernel
theorem dX7_init_64 : decode cX7_init 64 = .ok (.putfield 29, 3) := by decide +kernel
theorem dX7_init_67 : decode cX7_init 67 = .ok (.aload_n 0, 1) := by decide +kernel
theorem dX7_init_68 : decode cX7_init 68 = .ok (.sipush 30001, 3) := by decide +kernel
theorem dX7_init_71 : decode cX7_init 71 = .ok (.newarray .int, 2) := by decide +kernel
theorem dX7_init_73 : decode cX7_init 73 = .ok (.putfield 32, 3) := by decide +kernel
theorem dX7_init_76 : decode cX7_init 76 = .ok (.aload_n 0, 1) := by decide +kernel
theorem dX7_init_77 : decode cX7_init 77 = .ok (.sipush 30001, 3) := by decide +kernel
theorem dX7_init_80 : decode cX7_init 80 = .ok (.newarray .int, 2) := by decide +kernel
theorem dX7_init_82 : decode cX7_init 82 = .ok (.putfield 35, 3) := by decide +kernel
theorem dX7_init_85 : decode cX7_init 85 = .ok (.aload_n 0, 1) := by decide +kernel
theorem dX7_init_86 : decode cX7_init 86 = .ok (.sipush 30001, 3) := by decide +kernel
theorem dX7_init_89 : decode cX7_init 89 = .ok (.newarray .int, 2) := by decide +kernel
theorem dX7_init_91 : decode cX7_init 91 = .ok (.putfield 38, 3) := by decide +kernel
theorem dX7_init_94 : decode cX7_init 94 = .ok (.aload_n 0, 1) := by decide +kernel
theorem dX7_init_95 : decode cX7_init 95 = .ok (.ldc 41, 2) := by decide +kernel
theorem dX7_init_97 : decode cX7_init 97 = .ok (.newarray .int, 2) := by decide +kernel
theorem dX7_init_99 : decode cX7_init 99 = .ok (.putfield 42, 3) := by decide +kernel
theorem dX7_init_102 : decode cX7_init 102 = .ok (.aload_n 0, 1) := by decide +kernel
theorem dX7_init_103 : decode cX7_init 103 = .ok (.ldc 41, 2) := by decide +kernel
theorem dX7_init_105 : decode cX7_init 105 = .ok (.newarray .int, 2) := by decide +kernel
theorem dX7_init_107 : decode cX7_init 107 = .ok (.putfield 45, 3) := by decide +kernel
theorem dX7_init_110 : decode cX7_init 110 = .ok (.aload_n 0, 1) := by decide +kernel
theorem dX7_init_111 : decode cX7_init 111 = .ok (.sipush 12800, 3) := by decide +kernel
theorem dX7_init_114 : decode cX7_init 114 = .ok (.newarray .int, 2) := by decide +kernel
theorem dX7_init_116 : decode cX7_init 116 = .ok (.putfield 48, 3) := by decide +kernel
theorem dX7_init_119 : decode cX7_init 119 = .ok (.aload_n 0, 1) := by decide +kernel
theorem dX7_init_120 : decode cX7_init 120 = .ok (.sipush 15001, 3) := by decide +kernel
theorem dX7_init_123 : decode cX7_init 123 = .ok (.newarray .long, 2) := by decide +kernel
theorem dX7_init_125 : decode cX7_init 125 = .ok (.putfield 51, 3) := by decide +kernel
theorem dX7_init_128 : decode cX7_init 128 = .ok (.aload_n 0, 1) := by decide +kernel
theorem dX7_init_129 : decode cX7_init 129 = .ok (.sipush 15001, 3) := by decide +kernel
theorem dX7_init_132 : decode cX7_init 132 = .ok (.newarray .long, 2) := by decide +kernel
theorem dX7_init_134 : decode cX7_init 134 = .ok (.putfield 54, 3) := by decide +kernel
theorem dX7_init_137 : decode cX7_init 137 = .ok (.aload_n 0, 1) := by decide +kernel
theorem dX7_init_138 : decode cX7_init 138 = .ok (.sipush 15001, 3) := by decide +kernel
theorem dX7_init_141 : decode cX7_init 141 = .ok (.newarray .int, 2) := by decide +kernel
theorem dX7_init_143 : decode cX7_init 143 = .ok (.putfield 57, 3) := by decide +kernel
theorem dX7_init_146 : decode cX7_init 146 = .ok (.aload_n 0, 1) := by decide +kernel
theorem dX7_init_147 : decode cX7_init 147 = .ok (.sipush 30001, 3) := by decide +kernel
theorem dX7_init_150 : decode cX7_init 150 = .ok (.newarray .int, 2) := by decide +kernel
theorem dX7_init_152 : decode cX7_init 152 = .ok (.putfield 60, 3) := by decide +kernel
theorem dX7_init_155 : decode cX7_init 155 = .ok (.aload_n 0, 1) := by decide +kernel
theorem dX7_init_156 : decode cX7_init 156 = .ok (.sipush 30001, 3) := by decide +kernel
theorem dX7_init_159 : decode cX7_init 159 = .ok (.newarray .int, 2) := by decide +kernel
theorem dX7_init_161 : decode cX7_init 161 = .ok (.putfield 63, 3) := by decide +kernel
theorem dX7_init_164 : decode cX7_init 164 = .ok (.return_, 1) := by decide +kernel
theorem dX7_thrown_0 : decode cX7_thrown 0 = .ok (.aload_n 0, 1) := by decide +kernel
theorem dX7_thrown_1 : decode cX7_thrown 1 = .ok (.getfield 66, 3) := by decide +kernel
theorem dX7_thrown_4 : decode cX7_thrown 4 = .ok (.ireturn, 1) := by decide +kernel
theorem dX7_wire_0 : decode cX7_wire 0 = .ok (.aload_n 0, 1) := by decide +kernel
theorem dX7_wire_1 : decode cX7_wire 1 = .ok (.iload_n 1, 1) := by decide +kernel
theorem dX7_wire_2 : decode cX7_wire 2 = .ok (.iconst 1, 1) := by decide +kernel
theorem dX7_wire_3 : decode cX7_wire 3 = .ok (.if_icmp .lt 9, 3) := by decide +kernel
theorem dX7_wire_6 : decode cX7_wire 6 = .ok (.iload_n 1, 1) := by decide +kernel
theorem dX7_wire_7 : decode cX7_wire 7 = .ok (.bipush 64, 2) := by decide +kernel
theorem dX7_wire_9 : decode cX7_wire 9 = .ok (.if_icmp .le 7, 3) := by decide +kernel
theorem dX7_wire_12 : decode cX7_wire 12 = .ok (.iconst 1, 1) := by decide +kernel
theorem dX7_wire_13 : decode cX7_wire 13 = .ok (.goto 25, 3) := by decide +kernel
theorem dX7_wire_16 : decode cX7_wire 16 = .ok (.aload_n 0, 1) := by decide +kernel
theorem dX7_wire_17 : decode cX7_wire 17 = .ok (.getfield 70, 3) := by decide +kernel
theorem dX7_wire_20 : decode cX7_wire 20 = .ok (.sipush 200, 3) := by decide +kernel
theorem dX7_wire_23 : decode cX7_wire 23 = .ok (.if_icmp .eq 10, 3) := by decide +kernel
theorem dX7_wire_26 : decode cX7_wire 26 = .ok (.aload_n 0, 1) := by decide +kernel
theorem dX7_wire_27 : decode cX7_wire 27 = .ok (.getfield 73, 3) := by decide +kernel
theorem dX7_wire_30 : decode cX7_wire 30 = .ok (.ifCond .eq 7, 3) := by decide +kernel
theorem dX7_wire_33 : decode cX7_wire 33 = .ok (.iconst 2, 1) := by decide +kernel
theorem dX7_wire_34 : decode cX7_wire 34 = .ok (.goto 4, 3) := by decide +kernel
theorem dX7_wire_37 : decode cX7_wire 37 = .ok (.iconst 0, 1) := by decide +kernel
theorem dX7_wire_38 : decode cX7_wire 38 = .ok (.putfield 66, 3) := by decide +kernel
theorem dX7_wire_41 : decode cX7_wire 41 = .ok (.aload_n 0, 1) := by decide +kernel
theorem dX7_wire_42 : decode cX7_wire 42 = .ok (.getfield 66, 3) := by decide +kernel
theorem dX7_wire_45 : decode cX7_wire 45 = .ok (.ifCond .le 5, 3) := by decide +kernel
theorem dX7_wire_48 : decode cX7_wire 48 = .ok (.iconst 0, 1) := by decide +kernel
theorem dX7_wire_49 : decode cX7_wire 49 = .ok (.ireturn, 1) := by decide +kernel
theorem dX7_wire_50 : decode cX7_wire 50 = .ok (.aload_n 0, 1) := by decide +kernel
theorem dX7_wire_51 : decode cX7_wire 51 = .ok (.getfield 7, 3) := by decide +kernel
theorem dX7_wire_54 : decode cX7_wire 54 = .ok (.aload_n 0, 1) := by decide +kernel
theorem dX7_wire_55 : decode cX7_wire 55 = .ok (.getfield 70, 3) := by decide +kernel
theorem dX7_wire_58 : decode cX7_wire 58 = .ok (.iload_n 1, 1) := by decide +kernel
theorem dX7_wire_59 : decode cX7_wire 59 = .ok (.iastore, 1) := by decide +kernel
theorem dX7_wire_60 : decode cX7_wire 60 = .ok (.iconst 0, 1) := by decide +kernel
theorem dX7_wire_61 : decode cX7_wire 61 = .ok (.istore_n 2, 1) := by decide +kernel
theorem dX7_wire_62 : decode cX7_wire 62 = .ok (.iload_n 2, 1) := by decide +kernel
theorem dX7_wire_63 : decode cX7_wire 63 = .ok (.bipush 64, 2) := by decide +kernel
theorem dX7_wire_65 : decode cX7_wire 65 = .ok (.if_icmp .ge 39, 3) := by decide +kernel
theorem dX7_wire_68 : decode cX7_wire 68 = .ok (.aload_n 0, 1) := by decide +kernel
theorem dX7_wire_69 : decode cX7_wire 69 = .ok (.getfield 13, 3) := by decide +kernel
theorem dX7_wire_72 : decode cX7_wire 72 = .ok (.bipush 64, 2) := by decide +kernel
theorem dX7_wire_74 : decode cX7_wire 74 = .ok (.aload_n 0, 1) := by decide +kernel
theorem dX7_wire_75 : decode cX7_wire 75 = .ok (.getfield 70, 3) := by decide +kernel
theorem dX7_wire_78 : decode cX7_wire 78 = .ok (.imul, 1) := by decide +kernel
theorem dX7_wire_79 : decode cX7_wire 79 = .ok (.iload_n 2, 1) := by decide +kernel
theorem dX7_wire_80 : decode cX7_wire 80 = .ok (.iadd, 1) := by decide +kernel
theorem dX7_wire_81 : decode cX7_wire 81 = .ok (.iconst 0, 1) := by decide +kernel
theorem dX7_wire_82 : decode cX7_wire 82 = .ok (.iastore, 1) := by decide +kernel
theorem dX7_wire_83 : decode cX7_wire 83 = .ok (.aload_n 0, 1) := by decide +kernel
theorem dX7_wire_84 : decode cX7_wire 84 = .ok (.getfield 16, 3) := by decide +kernel
theorem dX7_wire_87 : decode cX7_wire 87 = .ok (.bipush 64, 2) := by decide +kernel
theorem dX7_wire_89 : decode cX7_wire 89 = .ok (.aload_n 0, 1) := by decide +kernel
theorem dX7_wire_90 : decode cX7_wire 90 = .ok (.getfield 70, 3) := by decide +kernel
theorem dX7_wire_93 : decode cX7_wire 93 = .ok (.imul, 1) := by decide +kernel
theorem dX7_wire_94 : decode cX7_wire 94 = .ok (.iload_n 2, 1) := by decide +kernel
theorem dX7_wire_95 : decode cX7_wire 95 = .ok (.iadd, 1) := by decide +kernel
theorem dX7_wire_96 : decode cX7_wire 96 = .ok (.iconst 0, 1) := by decide +kernel
theorem dX7_wire_97 : decode cX7_wire 97 = .ok (.iastore, 1) := by decide +kernel
theorem dX7_wire_98 : decode cX7_wire 98 = .ok (.iinc 2 1, 3) := by decide +kernel
theorem dX7_wire_101 : decode cX7_wire 101 = .ok (.goto (-39), 3) := by decide +kernel
theorem dX7_wire_104 : decode cX7_wire 104 = .ok (.aload_n 0, 1) := by decide +kernel
theorem dX7_wire_105 : decode cX7_wire 105 = .ok (.dup, 1) := by decide +kernel
theorem dX7_wire_106 : decode cX7_wire 106 = .ok (.getfield 70, 3) := by decide +kernel
theorem dX7_wire_109 : decode cX7_wire 109 = .ok (.iconst 1, 1) := by decide +kernel
theorem dX7_wire_110 : decode cX7_wire 110 = .ok (.iadd, 1) := by decide +kernel
theorem dX7_wire_111 : decode cX7_wire 111 = .ok (.putfield 70, 3) := by decide +kernel
theorem dX7_wire_114 : decode cX7_wire 114 = .ok (.aload_n 0, 1) := by decide +kernel
theorem dX7_wire_115 : decode cX7_wire 115 = .ok (.getfield 70, 3) := by decide +kernel
theorem dX7_wire_118 : decode cX7_wire 118 = .ok (.iconst 1, 1) := by decide +kernel
theorem dX7_wire_119 : decode cX7_wire 119 = .ok (.isub, 1) := by decide +kernel
theorem dX7_wire_120 : decode cX7_wire 120 = .ok (.ireturn, 1) := by decide +kernel
theorem dX7_wires_0 : decode cX7_wires 0 = .ok (.aload_n 0, 1) := by decide +kernel
theorem dX7_wires_1 : decode cX7_wires 1 = .ok (.iconst 0, 1) := by decide +kernel
theorem dX7_wires_2 : decode cX7_wires 2 = .ok (.putfield 66, 3) := by decide +kernel
theorem dX7_wires_5 : decode cX7_wires 5 = .ok (.aload_n 0, 1) := by decide +kernel
theorem dX7_wires_6 : decode cX7_wires 6 = .ok (.getfield 70, 3) := by decide +kernel
theorem dX7_wires_9 : decode cX7_wires 9 = .ok (.ireturn, 1) := by decide +kernel
theorem dX7_none_0 : decode cX7_none 0 = .ok (.iload_n 1, 1) := by decide +kernel
theorem dX7_none_1 : decode cX7_none 1 = .ok (.ifCond .lt 11, 3) := by decide +kernel
theorem dX7_none_4 : decode cX7_none 4 = .ok (.iload_n 1, 1) := by decide +kernel
theorem dX7_none_5 : decode cX7_none 5 = .ok (.aload_n 0, 1) := by decide +kernel
theorem dX7_none_6 : decode cX7_none 6 = .ok (.getfield 70, 3) := by decide +kernel
theorem dX7_none_9 : decode cX7_none 9 = .ok (.if_icmp .lt 7, 3) := by decide +kernel
theorem dX7_none_12 : decode cX7_none 12 = .ok (.iconst 1, 1) := by decide +kernel
theorem dX7_none_13 : decode cX7_none 13 = .ok (.goto 4, 3) := by decide +kernel
theorem dX7_none_16 : decode cX7_none 16 = .ok (.iconst 0, 1) := by decide +kernel
theorem dX7_none_17 : decode cX7_none 17 = .ok (.ireturn, 1) := by decide +kernel
set_option maxRecDepth 20000 in
theorem ggX7_width_X7_none : GoodIn wsX7_width wsX7_none := goodIn_r _ [7, 8, 9, 10, 11, 12, 13, 14, 15, 16, 17, 18, 19, 20, 21, 22, 23, 24, 25, 26, 27, 28, 29, 30, 31, 32, 33, 34, 35, 36, 37, 38, 39, 40, 41] (by decide +kernel) (by decide +kernel)
set_option maxRecDepth 20000 in
theorem gX7_width_X7_none : GoodIn wsX7_width (wsV RX7 77 RX7 yX7_none wsX7_none) := goodIn_app (goodIn_of _ (by decide +kernel)) ggX7_width_X7_none
theorem dX7_width_0 : decode cX7_width 0 = .ok (.aload_n 0, 1) := by decide +kernel
theorem dX7_width_1 : decode cX7_width 1 = .ok (.aload_n 0, 1) := by decide +kernel
theorem dX7_width_2 : decode cX7_width 2 = .ok (.iload_n 1, 1) := by decide +kernel
theorem dX7_width_3 : decode cX7_width 3 = .ok (.invokevirtual 77, 3) := by decide +kernel
theorem dX7_width_6 : decode cX7_width 6 = .ok (.ifCond .eq 7, 3) := by decide +kernel
theorem dX7_width_9 : decode cX7_width 9 = .ok (.iconst 1, 1) := by decide +kernel
theorem dX7_width_10 : decode cX7_width 10 = .ok (.goto 4, 3) := by decide +kernel
theorem dX7_width_13 : decode cX7_width 13 = .ok (.iconst 0, 1) := by decide +kernel
theorem dX7_width_14 : decode cX7_width 14 = .ok (.putfield 66, 3) := by decide +kernel
theorem dX7_width_17 : decode cX7_width 17 = .ok (.aload_n 0, 1) := by decide +kernel
theorem dX7_width_18 : decode cX7_width 18 = .ok (.getfield 66, 3) := by decide +kernel
theorem dX7_width_21 : decode cX7_width 21 = .ok (.ifCond .le 7, 3) := by decide +kernel
theorem dX7_width_24 : decode cX7_width 24 = .ok (.iconst 0, 1) := by decide +kernel
theorem dX7_width_25 : decode cX7_width 25 = .ok (.goto 9, 3) := by decide +kernel
theorem dX7_width_28 : decode cX7_width 28 = .ok (.aload_n 0, 1) := by decide +kernel
theorem dX7_width_29 : decode cX7_width 29 = .ok (.getfield 7, 3) := by decide +kernel
theorem dX7_width_32 : decode cX7_width 32 = .ok (.iload_n 1, 1) := by decide +kernel
theorem dX7_width_33 : decode cX7_width 33 = .ok (.iaload, 1) := by decide +kernel
theorem dX7_width_34 : decode cX7_width 34 = .ok (.ireturn, 1) := by decide +kernel
theorem dX7_bytesOf_0 : decode cX7_bytesOf 0 = .ok (.iconst 1, 1) := by decide +kernel
theorem dX7_bytesOf_1 : decode cX7_bytesOf 1 = .ok (.istore_n 2, 1) := by decide +kernel
theorem dX7_bytesOf_2 : decode cX7_bytesOf 2 = .ok (.lload_n 0, 1) := by decide +kernel
theorem dX7_bytesOf_3 : decode cX7_bytesOf 3 = .ok (.ldc2_w 81, 3) := by decide +kernel
theorem dX7_bytesOf_6 : decode cX7_bytesOf 6 = .ok (.ldiv, 1) := by decide +kernel
theorem dX7_bytesOf_7 : decode cX7_bytesOf 7 = .ok (.lstore_n 3, 1) := by decide +kernel
theorem dX7_bytesOf_8 : decode cX7_bytesOf 8 = .ok (.lload_n 3, 1) := by decide +kernel
theorem dX7_bytesOf_9 : decode cX7_bytesOf 9 = .ok (.lconst 0, 1) := by decide +kernel
theorem dX7_bytesOf_10 : decode cX7_bytesOf 10 = .ok (.lcmp, 1) := by decide +kernel
theorem dX7_bytesOf_11 : decode cX7_bytesOf 11 = .ok (.ifCond .le 15, 3) := by decide +kernel
theorem dX7_bytesOf_14 : decode cX7_bytesOf 14 = .ok (.iinc 2 1, 3) := by decide +kernel
theorem dX7_bytesOf_17 : decode cX7_bytesOf 17 = .ok (.lload_n 3, 1) := by decide +kernel
theorem dX7_bytesOf_18 : decode cX7_bytesOf 18 = .ok (.ldc2_w 81, 3) := by decide +kernel
theorem dX7_bytesOf_21 : decode cX7_bytesOf 21 = .ok (.ldiv, 1) := by decide +kernel
theorem dX7_bytesOf_22 : decode cX7_bytesOf 22 = .ok (.lstore_n 3, 1) := by decide +kernel
theorem dX7_bytesOf_23 : decode cX7_bytesOf 23 = .ok (.goto (-15), 3) := by decide +kernel
theorem dX7_bytesOf_26 : decode cX7_bytesOf 26 = .ok (.iload_n 2, 1) := by decide +kernel
theorem dX7_bytesOf_27 : decode cX7_bytesOf 27 = .ok (.ireturn, 1) := by decide +kernel
theorem dX7_write_0 : decode cX7_write 0 = .ok (.lload_n 1, 1) := by decide +kernel
theorem dX7_write_1 : decode cX7_write 1 = .ok (.lstore_n 3, 1) := by decide +kernel
theorem dX7_write_2 : decode cX7_write 2 = .ok (.lload_n 3, 1) := by decide +kernel
theorem dX7_write_3 : decode cX7_write 3 = .ok (.ldc2_w 83, 3) := by decide +kernel
theorem dX7_write_6 : decode cX7_write 6 = .ok (.lcmp, 1) := by decide +kernel
theorem dX7_write_7 : decode cX7_write 7 = .ok (.ifCond .le 41, 3) := by decide +kernel
theorem dX7_write_10 : decode cX7_write 10 = .ok (.aload_n 0, 1) := by decide +kernel
theorem dX7_write_11 : decode cX7_write 11 = .ok (.getfield 42, 3) := by decide +kernel
theorem dX7_write_14 : decode cX7_write 14 = .ok (.aload_n 0, 1) := by decide +kernel
theorem dX7_write_15 : decode cX7_write 15 = .ok (.getfield 85, 3) := by decide +kernel
theorem dX7_write_18 : decode cX7_write 18 = .ok (.lload_n 3, 1) := by decide +kernel
theorem dX7_write_19 : decode cX7_write 19 = .ok (.ldc2_w 81, 3) := by decide +kernel
theorem dX7_write_22 : decode cX7_write 22 = .ok (.lrem, 1) := by decide +kernel
theorem dX7_write_23 : decode cX7_write 23 = .ok (.l2i, 1) := by decide +kernel
theorem dX7_write_24 : decode cX7_write 24 = .ok (.sipush 128, 3) := by decide +kernel
theorem dX7_write_27 : decode cX7_write 27 = .ok (.iadd, 1) := by decide +kernel
theorem dX7_write_28 : decode cX7_write 28 = .ok (.iastore, 1) := by decide +kernel
theorem dX7_write_29 : decode cX7_write 29 = .ok (.aload_n 0, 1) := by decide +kernel
theorem dX7_write_30 : decode cX7_write 30 = .ok (.dup, 1) := by decide +kernel
theorem dX7_write_31 : decode cX7_write 31 = .ok (.getfield 85, 3) := by decide +kernel
theorem dX7_write_34 : decode cX7_write 34 = .ok (.iconst 1, 1) := by decide +kernel
theorem dX7_write_35 : decode cX7_write 35 = .ok (.iadd, 1) := by decide +kernel
theorem dX7_write_36 : decode cX7_write 36 = .ok (.putfield 85, 3) := by decide +kernel
theorem dX7_write_39 : decode cX7_write 39 = .ok (.lload_n 3, 1) := by decide +kernel
theorem dX7_write_40 : decode cX7_write 40 = .ok (.ldc2_w 81, 3) := by decide +kernel
theorem dX7_write_43 : decode cX7_write 43 = .ok (.ldiv, 1) := by decide +kernel
theorem dX7_write_44 : decode cX7_write 44 = .ok (.lstore_n 3, 1) := by decide +kernel
theorem dX7_write_45 : decode cX7_write 45 = .ok (.goto (-43), 3) := by decide +kernel
theorem dX7_write_48 : decode cX7_write 48 = .ok (.aload_n 0, 1) := by decide +kernel
theorem dX7_write_49 : decode cX7_write 49 = .ok (.getfield 42, 3) := by decide +kernel
theorem dX7_write_52 : decode cX7_write 52 = .ok (.aload_n 0, 1) := by decide +kernel
theorem dX7_write_53 : decode cX7_write 53 = .ok (.getfield 85, 3) := by decide +kernel
theorem dX7_write_56 : decode cX7_write 56 = .ok (.lload_n 3, 1) := by decide +kernel
theorem dX7_write_57 : decode cX7_write 57 = .ok (.l2i, 1) := by decide +kernel
theorem dX7_write_58 : decode cX7_write 58 = .ok (.iastore, 1) := by decide +kernel
theorem dX7_write_59 : decode cX7_write 59 = .ok (.aload_n 0, 1) := by decide +kernel
theorem dX7_write_60 : decode cX7_write 60 = .ok (.dup, 1) := by decide +kernel
theorem dX7_write_61 : decode cX7_write 61 = .ok (.getfield 85, 3) := by decide +kernel
theorem dX7_write_64 : decode cX7_write 64 = .ok (.iconst 1, 1) := by decide +kernel
theorem dX7_write_65 : decode cX7_write 65 = .ok (.iadd, 1) := by decide +kernel
theorem dX7_write_66 : decode cX7_write 66 = .ok (.putfield 85, 3) := by decide +kernel
theorem dX7_write_69 : decode cX7_write 69 = .ok (.return_, 1) := by decide +kernel
theorem dX7_lastTime_0 : decode cX7_lastTime 0 = .ok (.aload_n 0, 1) := by decide +kernel
theorem dX7_lastTime_1 : decode cX7_lastTime 1 = .ok (.getfield 88, 3) := by decide +kernel
theorem dX7_lastTime_4 : decode cX7_lastTime 4 = .ok (.ifCond .ne 7, 3) := by decide +kernel
theorem dX7_lastTime_7 : decode cX7_lastTime 7 = .ok (.lconst 0, 1) := by decide +kernel
theorem dX7_lastTime_8 : decode cX7_lastTime 8 = .ok (.goto 14, 3) := by decide +kernel
theorem dX7_lastTime_11 : decode cX7_lastTime 11 = .ok (.aload_n 0, 1) := by decide +kernel
theorem dX7_lastTime_12 : decode cX7_lastTime 12 = .ok (.getfield 19, 3) := by decide +kernel
theorem dX7_lastTime_15 : decode cX7_lastTime 15 = .ok (.aload_n 0, 1) := by decide +kernel
theorem dX7_lastTime_16 : decode cX7_lastTime 16 = .ok (.getfield 88, 3) := by decide +kernel
theorem dX7_lastTime_19 : decode cX7_lastTime 19 = .ok (.iconst 1, 1) := by decide +kernel
theorem dX7_lastTime_20 : decode cX7_lastTime 20 = .ok (.isub, 1) := by decide +kernel
theorem dX7_lastTime_21 : decode cX7_lastTime 21 = .ok (.laload, 1) := by decide +kernel
theorem dX7_lastTime_22 : decode cX7_lastTime 22 = .ok (.lreturn, 1) := by decide +kernel
theorem dX7_lastStep_0 : decode cX7_lastStep 0 = .ok (.aload_n 0, 1) := by decide +kernel
theorem dX7_lastStep_1 : decode cX7_lastStep 1 = .ok (.getfield 88, 3) := by decide +kernel
theorem dX7_lastStep_4 : decode cX7_lastStep 4 = .ok (.ifCond .ne 9, 3) := by decide +kernel
theorem dX7_lastStep_7 : decode cX7_lastStep 7 = .ok (.ldc2_w 91, 3) := by decide +kernel
theorem dX7_lastStep_10 : decode cX7_lastStep 10 = .ok (.goto 14, 3) := by decide +kernel
theorem dX7_lastStep_13 : decode cX7_lastStep 13 = .ok (.aload_n 0, 1) := by decide +kernel
theorem dX7_lastStep_14 : decode cX7_lastStep 14 = .ok (.getfield 23, 3) := by decide +kernel
theorem dX7_lastStep_17 : decode cX7_lastStep 17 = .ok (.aload_n 0, 1) := by decide +kernel
theorem dX7_lastStep_18 : decode cX7_lastStep 18 = .ok (.getfield 88, 3) := by decide +kernel
theorem dX7_lastStep_21 : decode cX7_lastStep 21 = .ok (.iconst 1, 1) := by decide +kernel
theorem dX7_lastStep_22 : decode cX7_lastStep 22 = .ok (.isub, 1) := by decide +kernel
theorem dX7_lastStep_23 : decode cX7_lastStep 23 = .ok (.laload, 1) := by decide +kernel
theorem dX7_lastStep_24 : decode cX7_lastStep 24 = .ok (.lreturn, 1) := by decide +kernel
set_option maxRecDepth 20000 in
theorem ggX7_head_X7_lastTime : GoodIn wsX7_head wsX7_lastTime := goodIn_r _ [8, 9, 10, 17, 18, 19, 20, 21, 22, 23, 24, 25, 26, 27, 28, 29, 30, 31, 32, 33, 34, 35, 36, 37, 38, 39, 40, 41, 42, 43, 44, 45, 46, 47, 48, 49] (by decide +kernel) (by decide +kernel)
set_option maxRecDepth 20000 in
theorem gX7_head_X7_lastTime : GoodIn wsX7_head (wsV RX7 97 RX7 yX7_lastTime wsX7_lastTime) := goodIn_app (goodIn_of _ (by decide +kernel)) ggX7_head_X7_lastTime
set_option maxRecDepth 20000 in
theorem ggX7_head_X7_lastStep : GoodIn wsX7_head wsX7_lastStep := goodIn_r _ [14, 9, 15, 16, 17, 18, 19, 20, 21, 22, 23, 24, 25, 26, 27, 28, 29, 30, 31, 32, 33, 34, 35, 36, 37, 38, 39, 40, 41, 42, 43, 44, 45, 46, 47, 48, 49] (by decide +kernel) (by decide +kernel)
set_option maxRecDepth 20000 in
theorem gX7_head_X7_lastStep : GoodIn wsX7_head (wsV RX7 106 RX7 yX7_lastStep wsX7_lastStep) := goodIn_app (goodIn_of _ (by decide +kernel)) ggX7_head_X7_lastStep
theorem dX7_head_0 : decode cX7_head 0 = .ok (.aload_n 0, 1) := by decide +kernel
theorem dX7_head_1 : decode cX7_head 1 = .ok (.getfield 93, 3) := by decide +kernel
theorem dX7_head_4 : decode cX7_head 4 = .ok (.aload_n 0, 1) := by decide +kernel
theorem dX7_head_5 : decode cX7_head 5 = .ok (.invokevirtual 97, 3) := by decide +kernel
theorem dX7_head_8 : decode cX7_head 8 = .ok (.lcmp, 1) := by decide +kernel
theorem dX7_head_9 : decode cX7_head 9 = .ok (.ifCond .ne 21, 3) := by decide +kernel
theorem dX7_head_12 : decode cX7_head 12 = .ok (.ldc2_w 101, 3) := by decide +kernel
theorem dX7_head_15 : decode cX7_head 15 = .ok (.aload_n 0, 1) := by decide +kernel
theorem dX7_head_16 : decode cX7_head 16 = .ok (.getfield 103, 3) := by decide +kernel
theorem dX7_head_19 : decode cX7_head 19 = .ok (.aload_n 0, 1) := by decide +kernel
theorem dX7_head_20 : decode cX7_head 20 = .ok (.invokevirtual 106, 3) := by decide +kernel
theorem dX7_head_23 : decode cX7_head 23 = .ok (.lsub, 1) := by decide +kernel
theorem dX7_head_24 : decode cX7_head 24 = .ok (.lmul, 1) := by decide +kernel
theorem dX7_head_25 : decode cX7_head 25 = .ok (.lconst 1, 1) := by decide +kernel
theorem dX7_head_26 : decode cX7_head 26 = .ok (.ladd, 1) := by decide +kernel
theorem dX7_head_27 : decode cX7_head 27 = .ok (.goto 16, 3) := by decide +kernel
theorem dX7_head_30 : decode cX7_head 30 = .ok (.ldc2_w 101, 3) := by decide +kernel
theorem dX7_head_33 : decode cX7_head 33 = .ok (.aload_n 0, 1) := by decide +kernel
theorem dX7_head_34 : decode cX7_head 34 = .ok (.getfield 93, 3) := by decide +kernel
theorem dX7_head_37 : decode cX7_head 37 = .ok (.aload_n 0, 1) := by decide +kernel
theorem dX7_head_38 : decode cX7_head 38 = .ok (.invokevirtual 97, 3) := by decide +kernel
theorem dX7_head_41 : decode cX7_head 41 = .ok (.lsub, 1) := by decide +kernel
theorem dX7_head_42 : decode cX7_head 42 = .ok (.lmul, 1) := by decide +kernel
theorem dX7_head_43 : decode cX7_head 43 = .ok (.lreturn, 1) := by decide +kernel
theorem dX7_differs_0 : decode cX7_differs 0 = .ok (.aload_n 0, 1) := by decide +kernel
theorem dX7_differs_1 : decode cX7_differs 1 = .ok (.getfield 16, 3) := by decide +kernel
theorem dX7_differs_4 : decode cX7_differs 4 = .ok (.iload_n 1, 1) := by decide +kernel
theorem dX7_differs_5 : decode cX7_differs 5 = .ok (.iaload, 1) := by decide +kernel
theorem dX7_differs_6 : decode cX7_differs 6 = .ok (.aload_n 0, 1) := by decide +kernel
theorem dX7_differs_7 : decode cX7_differs 7 = .ok (.getfield 13, 3) := by decide +kernel
theorem dX7_differs_10 : decode cX7_differs 10 = .ok (.iload_n 1, 1) := by decide +kernel
theorem dX7_differs_11 : decode cX7_differs 11 = .ok (.iaload, 1) := by decide +kernel
theorem dX7_differs_12 : decode cX7_differs 12 = .ok (.if_icmp .eq 7, 3) := by decide +kernel
theorem dX7_differs_15 : decode cX7_differs 15 = .ok (.iconst 1, 1) := by decide +kernel
theorem dX7_differs_16 : decode cX7_differs 16 = .ok (.goto 4, 3) := by decide +kernel
theorem dX7_differs_19 : decode cX7_differs 19 = .ok (.iconst 0, 1) := by decide +kernel
theorem dX7_differs_20 : decode cX7_differs 20 = .ok (.ireturn, 1) := by decide +kernel
set_option maxRecDepth 20000 in
theorem ggX7_many_X7_differs : GoodIn wsX7_many wsX7_differs := goodIn_r _ [6, 7, 8, 9, 10, 11, 12, 13, 14, 15, 16, 17, 18, 19, 20, 21, 22, 23, 24, 25, 26, 27, 28, 29, 30, 31, 32, 33, 34, 35, 36, 37, 38, 39, 40, 41] (by decide +kernel) (by decide +kernel)
set_option maxRecDepth 20000 in
theorem gX7_many_X7_differs : GoodIn wsX7_many (wsV RX7 109 RX7 yX7_differs wsX7_differs) := goodIn_app (goodIn_of _ (by decide +kernel)) ggX7_many_X7_differs
theorem dX7_many_0 : decode cX7_many 0 = .ok (.iconst 0, 1) := by decide +kernel
theorem dX7_many_1 : decode cX7_many 1 = .ok (.istore_n 1, 1) := by decide +kernel
theorem dX7_many_2 : decode cX7_many 2 = .ok (.iconst 0, 1) := by decide +kernel
theorem dX7_many_3 : decode cX7_many 3 = .ok (.istore_n 2, 1) := by decide +kernel
theorem dX7_many_4 : decode cX7_many 4 = .ok (.iload_n 2, 1) := by decide +kernel
theorem dX7_many_5 : decode cX7_many 5 = .ok (.bipush 64, 2) := by decide +kernel
theorem dX7_many_7 : decode cX7_many 7 = .ok (.aload_n 0, 1) := by decide +kernel
theorem dX7_many_8 : decode cX7_many 8 = .ok (.getfield 70, 3) := by decide +kernel
theorem dX7_many_11 : decode cX7_many 11 = .ok (.imul, 1) := by decide +kernel
theorem dX7_many_12 : decode cX7_many 12 = .ok (.if_icmp .ge 25, 3) := by decide +kernel
theorem dX7_many_15 : decode cX7_many 15 = .ok (.aload_n 0, 1) := by decide +kernel
theorem dX7_many_16 : decode cX7_many 16 = .ok (.iload_n 2, 1) := by decide +kernel
theorem dX7_many_17 : decode cX7_many 17 = .ok (.invokevirtual 109, 3) := by decide +kernel
theorem dX7_many_20 : decode cX7_many 20 = .ok (.ifCond .eq 9, 3) := by decide +kernel
theorem dX7_many_23 : decode cX7_many 23 = .ok (.iload_n 1, 1) := by decide +kernel
theorem dX7_many_24 : decode cX7_many 24 = .ok (.iconst 1, 1) := by decide +kernel
theorem dX7_many_25 : decode cX7_many 25 = .ok (.iadd, 1) := by decide +kernel
theorem dX7_many_26 : decode cX7_many 26 = .ok (.goto 4, 3) := by decide +kernel
theorem dX7_many_29 : decode cX7_many 29 = .ok (.iload_n 1, 1) := by decide +kernel
theorem dX7_many_30 : decode cX7_many 30 = .ok (.istore_n 1, 1) := by decide +kernel
theorem dX7_many_31 : decode cX7_many 31 = .ok (.iinc 2 1, 3) := by decide +kernel
theorem dX7_many_34 : decode cX7_many 34 = .ok (.goto (-30), 3) := by decide +kernel
theorem dX7_many_37 : decode cX7_many 37 = .ok (.iload_n 1, 1) := by decide +kernel
theorem dX7_many_38 : decode cX7_many 38 = .ok (.ireturn, 1) := by decide +kernel
theorem dX7_codeOf_0 : decode cX7_codeOf 0 = .ok (.ldc2_w 112, 3) := by decide +kernel
theorem dX7_codeOf_3 : decode cX7_codeOf 3 = .ok (.iload_n 0, 1) := by decide +kernel
theorem dX7_codeOf_4 : decode cX7_codeOf 4 = .ok (.bipush 64, 2) := by decide +kernel
theorem dX7_codeOf_6 : decode cX7_codeOf 6 = .ok (.irem, 1) := by decide +kernel
theorem dX7_codeOf_7 : decode cX7_codeOf 7 = .ok (.i2l, 1) := by decide +kernel
theorem dX7_codeOf_8 : decode cX7_codeOf 8 = .ok (.lmul, 1) := by decide +kernel
theorem dX7_codeOf_9 : decode cX7_codeOf 9 = .ok (.iload_n 1, 1) := by decide +kernel
theorem dX7_codeOf_10 : decode cX7_codeOf 10 = .ok (.i2l, 1) := by decide +kernel
theorem dX7_codeOf_11 : decode cX7_codeOf 11 = .ok (.ladd, 1) := by decide +kernel
theorem dX7_codeOf_12 : decode cX7_codeOf 12 = .ok (.lreturn, 1) := by decide +kernel
set_option maxRecDepth 20000 in
theorem ggX7_finish_X7_many : GoodIn wsX7_finish wsX7_many := goodIn_r _ [21, 3, 22, 23, 24, 20, 25, 4, 15, 54, 55, 56, 57, 58, 59, 60, 61, 62, 63, 64, 65, 66, 67, 68, 69, 70, 71, 72, 73, 74, 75, 76, 77, 78, 79, 80, 81, 82, 83, 84, 85, 86] (by decide +kernel) (by decide +kernel)
set_option maxRecDepth 20000 in
theorem gX7_finish_X7_many : GoodIn wsX7_finish (wsV RX7 114 RX7 yX7_many wsX7_many) := goodIn_app (goodIn_of _ (by decide +kernel)) ggX7_finish_X7_many
set_option maxRecDepth 20000 in
theorem ggX7_finish_X7_head : GoodIn wsX7_finish wsX7_head := goodIn_r _ [29, 1, 30, 2, 31, 32, 33, 20, 34, 8, 9, 35, 36, 37, 38, 39, 10, 54, 55, 56, 57, 58, 59, 60, 61, 62, 63, 64, 65, 66, 67, 68, 69, 70, 71, 72, 73, 74, 75, 76, 77, 78, 79, 80, 81, 82, 83, 84, 85, 86] (by decide +kernel) (by decide +kernel)
set_option maxRecDepth 20000 in
theorem gX7_finish_X7_head : GoodIn wsX7_finish (wsV RX7 118 RX7 yX7_head wsX7_head) := goodIn_app (goodIn_of _ (by decide +kernel)) ggX7_finish_X7_head
set_option maxRecDepth 20000 in
theorem ggX7_finish_X7_bytesOf : GoodIn wsX7_finish wsX7_bytesOf := goodIn_r _ [42, 43] (by decide +kernel) (by decide +kernel)
set_option maxRecDepth 20000 in
theorem gX7_finish_X7_bytesOf : GoodIn wsX7_finish (va_wsS RX7 121 yX7_bytesOf wsX7_bytesOf) := goodIn_app (goodIn_of _ (by decide +kernel)) ggX7_finish_X7_bytesOf
set_option maxRecDepth 20000 in
theorem ggX7_finish_X7_lastTime : GoodIn wsX7_finish wsX7_lastTime := goodIn_r _ [34, 8, 9, 54, 55, 56, 57, 58, 59, 60, 61, 62, 63, 64, 65, 66, 67, 68, 69, 70, 71, 72, 73, 74, 75, 76, 77, 78, 79, 80, 81, 82, 83, 84, 85, 86] (by decide +kernel) (by decide +kernel)
set_option maxRecDepth 20000 in
theorem gX7_finish_X7_lastTime : GoodIn wsX7_finish (wsV RX7 97 RX7 yX7_lastTime wsX7_lastTime) := goodIn_app (goodIn_of _ (by decide +kernel)) ggX7_finish_X7_lastTime
set_option maxRecDepth 20000 in
theorem ggX7_finish_X7_differs : GoodIn wsX7_finish wsX7_differs := goodIn_r _ [25, 4, 15, 54, 55, 56, 57, 58, 59, 60, 61, 62, 63, 64, 65, 66, 67, 68, 69, 70, 71, 72, 73, 74, 75, 76, 77, 78, 79, 80, 81, 82, 83, 84, 85, 86] (by decide +kernel) (by decide +kernel)
set_option maxRecDepth 20000 in
theorem gX7_finish_X7_differs : GoodIn wsX7_finish (wsV RX7 109 RX7 yX7_differs wsX7_differs) := goodIn_app (goodIn_of _ (by decide +kernel)) ggX7_finish_X7_differs
set_option maxRecDepth 20000 in
theorem ggX7_finish_X7_codeOf : GoodIn wsX7_finish wsX7_codeOf := goodIn_r _ [46, 47] (by decide +kernel) (by decide +kernel)
set_option maxRecDepth 20000 in
theorem gX7_finish_X7_codeOf : GoodIn wsX7_finish (va_wsS RX7 125 yX7_codeOf wsX7_codeOf) := goodIn_app (goodIn_of _ (by decide +kernel)) ggX7_finish_X7_codeOf
set_option maxRecDepth 20000 in
theorem ggX7_finish_X7_write : GoodIn wsX7_finish wsX7_write := goodIn_r _ [51, 52, 53, 5, 43, 54, 55, 56, 57, 58, 59, 60, 61, 62, 63, 64, 65, 66, 67, 68, 69, 70, 71, 72, 73, 74, 75, 76, 77, 78, 79, 80, 81, 82, 83, 84, 85, 86] (by decide +kernel) (by decide +kernel)
set_option maxRecDepth 20000 in
theorem gX7_finish_X7_write : GoodIn wsX7_finish (wsV RX7 129 RX7 yX7_write wsX7_write) := goodIn_app (goodIn_of _ (by decide +kernel)) ggX7_finish_X7_write
theorem dX7_finish_0 : decode cX7_finish 0 = .ok (.aload_n 0, 1) := by decide +kernel
theorem dX7_finish_1 : decode cX7_finish 1 = .ok (.invokevirtual 114, 3) := by decide +kernel
theorem dX7_finish_4 : decode cX7_finish 4 = .ok (.istore_n 1, 1) := by decide +kernel
theorem dX7_finish_5 : decode cX7_finish 5 = .ok (.iload_n 1, 1) := by decide +kernel
theorem dX7_finish_6 : decode cX7_finish 6 = .ok (.ifCond .ne 5, 3) := by decide +kernel
theorem dX7_finish_9 : decode cX7_finish 9 = .ok (.iconst 0, 1) := by decide +kernel
theorem dX7_finish_10 : decode cX7_finish 10 = .ok (.ireturn, 1) := by decide +kernel
theorem dX7_finish_11 : decode cX7_finish 11 = .ok (.aload_n 0, 1) := by decide +kernel
theorem dX7_finish_12 : decode cX7_finish 12 = .ok (.invokevirtual 118, 3) := by decide +kernel
theorem dX7_finish_15 : decode cX7_finish 15 = .ok (.invokestatic 121, 3) := by decide +kernel
theorem dX7_finish_18 : decode cX7_finish 18 = .ok (.iload_n 1, 1) := by decide +kernel
theorem dX7_finish_19 : decode cX7_finish 19 = .ok (.i2l, 1) := by decide +kernel
theorem dX7_finish_20 : decode cX7_finish 20 = .ok (.invokestatic 121, 3) := by decide +kernel
theorem dX7_finish_23 : decode cX7_finish 23 = .ok (.iadd, 1) := by decide +kernel
theorem dX7_finish_24 : decode cX7_finish 24 = .ok (.aload_n 0, 1) := by decide +kernel
theorem dX7_finish_25 : decode cX7_finish 25 = .ok (.getfield 93, 3) := by decide +kernel
theorem dX7_finish_28 : decode cX7_finish 28 = .ok (.aload_n 0, 1) := by decide +kernel
theorem dX7_finish_29 : decode cX7_finish 29 = .ok (.invokevirtual 97, 3) := by decide +kernel
theorem dX7_finish_32 : decode cX7_finish 32 = .ok (.lcmp, 1) := by decide +kernel
theorem dX7_finish_33 : decode cX7_finish 33 = .ok (.ifCond .ne 7, 3) := by decide +kernel
theorem dX7_finish_36 : decode cX7_finish 36 = .ok (.iconst 0, 1) := by decide +kernel
theorem dX7_finish_37 : decode cX7_finish 37 = .ok (.goto 10, 3) := by decide +kernel
theorem dX7_finish_40 : decode cX7_finish 40 = .ok (.aload_n 0, 1) := by decide +kernel
theorem dX7_finish_41 : decode cX7_finish 41 = .ok (.getfield 103, 3) := by decide +kernel
theorem dX7_finish_44 : decode cX7_finish 44 = .ok (.invokestatic 121, 3) := by decide +kernel
theorem dX7_finish_47 : decode cX7_finish 47 = .ok (.iadd, 1) := by decide +kernel
theorem dX7_finish_48 : decode cX7_finish 48 = .ok (.istore_n 2, 1) := by decide +kernel
theorem dX7_finish_49 : decode cX7_finish 49 = .ok (.iconst 0, 1) := by decide +kernel
theorem dX7_finish_50 : decode cX7_finish 50 = .ok (.istore_n 3, 1) := by decide +kernel
theorem dX7_finish_51 : decode cX7_finish 51 = .ok (.iconst 0, 1) := by decide +kernel
theorem dX7_finish_52 : decode cX7_finish 52 = .ok (.istore 4, 2) := by decide +kernel
theorem dX7_finish_54 : decode cX7_finish 54 = .ok (.iload 4, 2) := by decide +kernel
theorem dX7_finish_56 : decode cX7_finish 56 = .ok (.bipush 64, 2) := by decide +kernel
theorem dX7_finish_58 : decode cX7_finish 58 = .ok (.aload_n 0, 1) := by decide +kernel
theorem dX7_finish_59 : decode cX7_finish 59 = .ok (.getfield 70, 3) := by decide +kernel
theorem dX7_finish_62 : decode cX7_finish 62 = .ok (.imul, 1) := by decide +kernel
theorem dX7_finish_63 : decode cX7_finish 63 = .ok (.if_icmp .ge 54, 3) := by decide +kernel
theorem dX7_finish_66 : decode cX7_finish 66 = .ok (.aload_n 0, 1) := by decide +kernel
theorem dX7_finish_67 : decode cX7_finish 67 = .ok (.iload 4, 2) := by decide +kernel
theorem dX7_finish_69 : decode cX7_finish 69 = .ok (.invokevirtual 109, 3) := by decide +kernel
theorem dX7_finish_72 : decode cX7_finish 72 = .ok (.ifCond .eq 39, 3) := by decide +kernel
theorem dX7_finish_75 : decode cX7_finish 75 = .ok (.iload_n 2, 1) := by decide +kernel
theorem dX7_finish_76 : decode cX7_finish 76 = .ok (.iload 4, 2) := by decide +kernel
theorem dX7_finish_78 : decode cX7_finish 78 = .ok (.bipush 64, 2) := by decide +kernel
theorem dX7_finish_80 : decode cX7_finish 80 = .ok (.idiv, 1) := by decide +kernel
theorem dX7_finish_81 : decode cX7_finish 81 = .ok (.iload_n 3, 1) := by decide +kernel
theorem dX7_finish_82 : decode cX7_finish 82 = .ok (.isub, 1) := by decide +kernel
theorem dX7_finish_83 : decode cX7_finish 83 = .ok (.i2l, 1) := by decide +kernel
theorem dX7_finish_84 : decode cX7_finish 84 = .ok (.invokestatic 121, 3) := by decide +kernel
theorem dX7_finish_87 : decode cX7_finish 87 = .ok (.iadd, 1) := by decide +kernel
theorem dX7_finish_88 : decode cX7_finish 88 = .ok (.iload 4, 2) := by decide +kernel
theorem dX7_finish_90 : decode cX7_finish 90 = .ok (.aload_n 0, 1) := by decide +kernel
theorem dX7_finish_91 : decode cX7_finish 91 = .ok (.getfield 16, 3) := by decide +kernel
theorem dX7_finish_94 : decode cX7_finish 94 = .ok (.iload 4, 2) := by decide +kernel
theorem dX7_finish_96 : decode cX7_finish 96 = .ok (.iaload, 1) := by decide +kernel
theorem dX7_finish_97 : decode cX7_finish 97 = .ok (.invokestatic 125, 3) := by decide +kernel
theorem dX7_finish_100 : decode cX7_finish 100 = .ok (.invokestatic 121, 3) := by decide +kernel
theorem dX7_finish_103 : decode cX7_finish 103 = .ok (.iadd, 1) := by decide +kernel
theorem dX7_finish_104 : decode cX7_finish 104 = .ok (.istore_n 2, 1) := by decide +kernel
theorem dX7_finish_105 : decode cX7_finish 105 = .ok (.iload 4, 2) := by decide +kernel
theorem dX7_finish_107 : decode cX7_finish 107 = .ok (.bipush 64, 2) := by decide +kernel
theorem dX7_finish_109 : decode cX7_finish 109 = .ok (.idiv, 1) := by decide +kernel
theorem dX7_finish_110 : decode cX7_finish 110 = .ok (.istore_n 3, 1) := by decide +kernel
theorem dX7_finish_111 : decode cX7_finish 111 = .ok (.iinc 4 1, 3) := by decide +kernel
theorem dX7_finish_114 : decode cX7_finish 114 = .ok (.goto (-60), 3) := by decide +kernel
theorem dX7_finish_117 : decode cX7_finish 117 = .ok (.aload_n 0, 1) := by decide +kernel
theorem dX7_finish_118 : decode cX7_finish 118 = .ok (.getfield 85, 3) := by decide +kernel
theorem dX7_finish_121 : decode cX7_finish 121 = .ok (.iload_n 2, 1) := by decide +kernel
theorem dX7_finish_122 : decode cX7_finish 122 = .ok (.iadd, 1) := by decide +kernel
theorem dX7_finish_123 : decode cX7_finish 123 = .ok (.ldc 41, 2) := by decide +kernel
theorem dX7_finish_125 : decode cX7_finish 125 = .ok (.if_icmp .le 5, 3) := by decide +kernel
theorem dX7_finish_128 : decode cX7_finish 128 = .ok (.iconst (-1), 1) := by decide +kernel
theorem dX7_finish_129 : decode cX7_finish 129 = .ok (.ireturn, 1) := by decide +kernel
theorem dX7_finish_130 : decode cX7_finish 130 = .ok (.aload_n 0, 1) := by decide +kernel
theorem dX7_finish_131 : decode cX7_finish 131 = .ok (.getfield 26, 3) := by decide +kernel
theorem dX7_finish_134 : decode cX7_finish 134 = .ok (.aload_n 0, 1) := by decide +kernel
theorem dX7_finish_135 : decode cX7_finish 135 = .ok (.getfield 88, 3) := by decide +kernel
theorem dX7_finish_138 : decode cX7_finish 138 = .ok (.aload_n 0, 1) := by decide +kernel
theorem dX7_finish_139 : decode cX7_finish 139 = .ok (.getfield 85, 3) := by decide +kernel
theorem dX7_finish_142 : decode cX7_finish 142 = .ok (.iastore, 1) := by decide +kernel
theorem dX7_finish_143 : decode cX7_finish 143 = .ok (.aload_n 0, 1) := by decide +kernel
theorem dX7_finish_144 : decode cX7_finish 144 = .ok (.getfield 93, 3) := by decide +kernel
theorem dX7_finish_147 : decode cX7_finish 147 = .ok (.aload_n 0, 1) := by decide +kernel
theorem dX7_finish_148 : decode cX7_finish 148 = .ok (.invokevirtual 97, 3) := by decide +kernel
theorem dX7_finish_151 : decode cX7_finish 151 = .ok (.lcmp, 1) := by decide +kernel
theorem dX7_finish_152 : decode cX7_finish 152 = .ok (.ifCond .ne 7, 3) := by decide +kernel
theorem dX7_finish_155 : decode cX7_finish 155 = .ok (.iconst 1, 1) := by decide +kernel
theorem dX7_finish_156 : decode cX7_finish 156 = .ok (.goto 4, 3) := by decide +kernel
theorem dX7_finish_159 : decode cX7_finish 159 = .ok (.iconst 0, 1) := by decide +kernel
theorem dX7_finish_160 : decode cX7_finish 160 = .ok (.istore 4, 2) := by decide +kernel
theorem dX7_finish_162 : decode cX7_finish 162 = .ok (.aload_n 0, 1) := by decide +kernel
theorem dX7_finish_163 : decode cX7_finish 163 = .ok (.aload_n 0, 1) := by decide +kernel
theorem dX7_finish_164 : decode cX7_finish 164 = .ok (.invokevirtual 118, 3) := by decide +kernel
theorem dX7_finish_167 : decode cX7_finish 167 = .ok (.invokevirtual 129, 3) := by decide +kernel
theorem dX7_finish_170 : decode cX7_finish 170 = .ok (.iload 4, 2) := by decide +kernel
theorem dX7_finish_172 : decode cX7_finish 172 = .ok (.ifCond .ne 11, 3) := by decide +kernel
theorem dX7_finish_175 : decode cX7_finish 175 = .ok (.aload_n 0, 1) := by decide +kernel
theorem dX7_finish_176 : decode cX7_finish 176 = .ok (.aload_n 0, 1) := by decide +kernel
theorem dX7_finish_177 : decode cX7_finish 177 = .ok (.getfield 103, 3) := by decide +kernel
theorem dX7_finish_180 : decode cX7_finish 180 = .ok (.invokevirtual 129, 3) := by decide +kernel
theorem dX7_finish_183 : decode cX7_finish 183 = .ok (.aload_n 0, 1) := by decide +kernel
theorem dX7_finish_184 : decode cX7_finish 184 = .ok (.iload_n 1, 1) := by decide +kernel
theorem dX7_finish_185 : decode cX7_finish 185 = .ok (.i2l, 1) := by decide +kernel
theorem dX7_finish_186 : decode cX7_finish 186 = .ok (.invokevirtual 129, 3) := by decide +kernel
theorem dX7_finish_189 : decode cX7_finish 189 = .ok (.aload_n 0, 1) := by decide +kernel
theorem dX7_finish_190 : decode cX7_finish 190 = .ok (.getfield 19, 3) := by decide +kernel
theorem dX7_finish_193 : decode cX7_finish 193 = .ok (.aload_n 0, 1) := by decide +kernel
theorem dX7_finish_194 : decode cX7_finish 194 = .ok (.getfield 88, 3) := by decide +kernel
theorem dX7_finish_197 : decode cX7_finish 197 = .ok (.aload_n 0, 1) := by decide +kernel
theorem dX7_finish_198 : decode cX7_finish 198 = .ok (.getfield 93, 3) := by decide +kernel
theorem dX7_finish_201 : decode cX7_finish 201 = .ok (.lastore, 1) := by decide +kernel
theorem dX7_finish_202 : decode cX7_finish 202 = .ok (.aload_n 0, 1) := by decide +kernel
theorem dX7_finish_203 : decode cX7_finish 203 = .ok (.getfield 23, 3) := by decide +kernel
theorem dX7_finish_206 : decode cX7_finish 206 = .ok (.aload_n 0, 1) := by decide +kernel
theorem dX7_finish_207 : decode cX7_finish 207 = .ok (.getfield 88, 3) := by decide +kernel
theorem dX7_finish_210 : decode cX7_finish 210 = .ok (.aload_n 0, 1) := by decide +kernel
theorem dX7_finish_211 : decode cX7_finish 211 = .ok (.getfield 103, 3) := by decide +kernel
theorem dX7_finish_214 : decode cX7_finish 214 = .ok (.lastore, 1) := by decide +kernel
theorem dX7_finish_215 : decode cX7_finish 215 = .ok (.iconst 0, 1) := by decide +kernel
theorem dX7_finish_216 : decode cX7_finish 216 = .ok (.istore_n 3, 1) := by decide +kernel
theorem dX7_finish_217 : decode cX7_finish 217 = .ok (.iconst 0, 1) := by decide +kernel
theorem dX7_finish_218 : decode cX7_finish 218 = .ok (.istore 5, 2) := by decide +kernel
theorem dX7_finish_220 : decode cX7_finish 220 = .ok (.iload 5, 2) := by decide +kernel
theorem dX7_finish_222 : decode cX7_finish 222 = .ok (.bipush 64, 2) := by decide +kernel
theorem dX7_finish_224 : decode cX7_finish 224 = .ok (.aload_n 0, 1) := by decide +kernel
theorem dX7_finish_225 : decode cX7_finish 225 = .ok (.getfield 70, 3) := by decide +kernel
theorem dX7_finish_228 : decode cX7_finish 228 = .ok (.imul, 1) := by decide +kernel
theorem dX7_finish_229 : decode cX7_finish 229 = .ok (.if_icmp .ge 132, 3) := by decide +kernel
theorem dX7_finish_232 : decode cX7_finish 232 = .ok (.aload_n 0, 1) := by decide +kernel
theorem dX7_finish_233 : decode cX7_finish 233 = .ok (.iload 5, 2) := by decide +kernel
theorem dX7_finish_235 : decode cX7_finish 235 = .ok (.invokevirtual 109, 3) := by decide +kernel
theorem dX7_finish_238 : decode cX7_finish 238 = .ok (.ifCond .eq 117, 3) := by decide +kernel
theorem dX7_finish_241 : decode cX7_finish 241 = .ok (.aload_n 0, 1) := by decide +kernel
theorem dX7_finish_242 : decode cX7_finish 242 = .ok (.iload 5, 2) := by decide +kernel
theorem dX7_finish_244 : decode cX7_finish 244 = .ok (.bipush 64, 2) := by decide +kernel
theorem dX7_finish_246 : decode cX7_finish 246 = .ok (.idiv, 1) := by decide +kernel
theorem dX7_finish_247 : decode cX7_finish 247 = .ok (.iload_n 3, 1) := by decide +kernel
theorem dX7_finish_248 : decode cX7_finish 248 = .ok (.isub, 1) := by decide +kernel
theorem dX7_finish_249 : decode cX7_finish 249 = .ok (.i2l, 1) := by decide +kernel
theorem dX7_finish_250 : decode cX7_finish 250 = .ok (.invokevirtual 129, 3) := by decide +kernel
theorem dX7_finish_253 : decode cX7_finish 253 = .ok (.aload_n 0, 1) := by decide +kernel
theorem dX7_finish_254 : decode cX7_finish 254 = .ok (.iload 5, 2) := by decide +kernel
theorem dX7_finish_256 : decode cX7_finish 256 = .ok (.aload_n 0, 1) := by decide +kernel
theorem dX7_finish_257 : decode cX7_finish 257 = .ok (.getfield 16, 3) := by decide +kernel
theorem dX7_finish_260 : decode cX7_finish 260 = .ok (.iload 5, 2) := by decide +kernel
theorem dX7_finish_262 : decode cX7_finish 262 = .ok (.iaload, 1) := by decide +kernel
theorem dX7_finish_263 : decode cX7_finish 263 = .ok (.invokestatic 125, 3) := by decide +kernel
theorem dX7_finish_266 : decode cX7_finish 266 = .ok (.invokevirtual 129, 3) := by decide +kernel
theorem dX7_finish_269 : decode cX7_finish 269 = .ok (.iload 5, 2) := by decide +kernel
theorem dX7_finish_271 : decode cX7_finish 271 = .ok (.bipush 64, 2) := by decide +kernel
theorem dX7_finish_273 : decode cX7_finish 273 = .ok (.idiv, 1) := by decide +kernel
theorem dX7_finish_274 : decode cX7_finish 274 = .ok (.istore_n 3, 1) := by decide +kernel
theorem dX7_finish_275 : decode cX7_finish 275 = .ok (.aload_n 0, 1) := by decide +kernel
theorem dX7_finish_276 : decode cX7_finish 276 = .ok (.getfield 29, 3) := by decide +kernel
theorem dX7_finish_279 : decode cX7_finish 279 = .ok (.aload_n 0, 1) := by decide +kernel
theorem dX7_finish_280 : decode cX7_finish 280 = .ok (.getfield 133, 3) := by decide +kernel
theorem dX7_finish_283 : decode cX7_finish 283 = .ok (.aload_n 0, 1) := by decide +kernel
theorem dX7_finish_284 : decode cX7_finish 284 = .ok (.getfield 88, 3) := by decide +kernel
theorem dX7_finish_287 : decode cX7_finish 287 = .ok (.iastore, 1) := by decide +kernel
theorem dX7_finish_288 : decode cX7_finish 288 = .ok (.aload_n 0, 1) := by decide +kernel
theorem dX7_finish_289 : decode cX7_finish 289 = .ok (.getfield 32, 3) := by decide +kernel
theorem dX7_finish_292 : decode cX7_finish 292 = .ok (.aload_n 0, 1) := by decide +kernel
theorem dX7_finish_293 : decode cX7_finish 293 = .ok (.getfield 133, 3) := by decide +kernel
theorem dX7_finish_296 : decode cX7_finish 296 = .ok (.iload 5, 2) := by decide +kernel
theorem dX7_finish_298 : decode cX7_finish 298 = .ok (.iastore, 1) := by decide +kernel
theorem dX7_finish_299 : decode cX7_finish 299 = .ok (.aload_n 0, 1) := by decide +kernel
theorem dX7_finish_300 : decode cX7_finish 300 = .ok (.getfield 35, 3) := by decide +kernel
theorem dX7_finish_303 : decode cX7_finish 303 = .ok (.aload_n 0, 1) := by decide +kernel
theorem dX7_finish_304 : decode cX7_finish 304 = .ok (.getfield 133, 3) := by decide +kernel
theorem dX7_finish_307 : decode cX7_finish 307 = .ok (.aload_n 0, 1) := by decide +kernel
theorem dX7_finish_308 : decode cX7_finish 308 = .ok (.getfield 13, 3) := by decide +kernel
theorem dX7_finish_311 : decode cX7_finish 311 = .ok (.iload 5, 2) := by decide +kernel
theorem dX7_finish_313 : decode cX7_finish 313 = .ok (.iaload, 1) := by decide +kernel
theorem dX7_finish_314 : decode cX7_finish 314 = .ok (.iastore, 1) := by decide +kernel
theorem dX7_finish_315 : decode cX7_finish 315 = .ok (.aload_n 0, 1) := by decide +kernel
theorem dX7_finish_316 : decode cX7_finish 316 = .ok (.getfield 38, 3) := by decide +kernel
theorem dX7_finish_319 : decode cX7_finish 319 = .ok (.aload_n 0, 1) := by decide +kernel
theorem dX7_finish_320 : decode cX7_finish 320 = .ok (.getfield 133, 3) := by decide +kernel
theorem dX7_finish_323 : decode cX7_finish 323 = .ok (.aload_n 0, 1) := by decide +kernel
theorem dX7_finish_324 : decode cX7_finish 324 = .ok (.getfield 16, 3) := by decide +kernel
theorem dX7_finish_327 : decode cX7_finish 327 = .ok (.iload 5, 2) := by decide +kernel
theorem dX7_finish_329 : decode cX7_finish 329 = .ok (.iaload, 1) := by decide +kernel
theorem dX7_finish_330 : decode cX7_finish 330 = .ok (.iastore, 1) := by decide +kernel
theorem dX7_finish_331 : decode cX7_finish 331 = .ok (.aload_n 0, 1) := by decide +kernel
theorem dX7_finish_332 : decode cX7_finish 332 = .ok (.dup, 1) := by decide +kernel
theorem dX7_finish_333 : decode cX7_finish 333 = .ok (.getfield 133, 3) := by decide +kernel
theorem dX7_finish_336 : decode cX7_finish 336 = .ok (.iconst 1, 1) := by decide +kernel
theorem dX7_finish_337 : decode cX7_finish 337 = .ok (.iadd, 1) := by decide +kernel
theorem dX7_finish_338 : decode cX7_finish 338 = .ok (.putfield 133, 3) := by decide +kernel
theorem dX7_finish_341 : decode cX7_finish 341 = .ok (.aload_n 0, 1) := by decide +kernel
theorem dX7_finish_342 : decode cX7_finish 342 = .ok (.getfield 13, 3) := by decide +kernel
theorem dX7_finish_345 : decode cX7_finish 345 = .ok (.iload 5, 2) := by decide +kernel
theorem dX7_finish_347 : decode cX7_finish 347 = .ok (.aload_n 0, 1) := by decide +kernel
theorem dX7_finish_348 : decode cX7_finish 348 = .ok (.getfield 16, 3) := by decide +kernel
theorem dX7_finish_351 : decode cX7_finish 351 = .ok (.iload 5, 2) := by decide +kernel
theorem dX7_finish_353 : decode cX7_finish 353 = .ok (.iaload, 1) := by decide +kernel
theorem dX7_finish_354 : decode cX7_finish 354 = .ok (.iastore, 1) := by decide +kernel
theorem dX7_finish_355 : decode cX7_finish 355 = .ok (.iinc 5 1, 3) := by decide +kernel
theorem dX7_finish_358 : decode cX7_finish 358 = .ok (.goto (-138), 3) := by decide +kernel
theorem dX7_finish_361 : decode cX7_finish 361 = .ok (.aload_n 0, 1) := by decide +kernel
theorem dX7_finish_362 : decode cX7_finish 362 = .ok (.dup, 1) := by decide +kernel
theorem dX7_finish_363 : decode cX7_finish 363 = .ok (.getfield 88, 3) := by decide +kernel
theorem dX7_finish_366 : decode cX7_finish 366 = .ok (.iconst 1, 1) := by decide +kernel
theorem dX7_finish_367 : decode cX7_finish 367 = .ok (.iadd, 1) := by decide +kernel
theorem dX7_finish_368 : decode cX7_finish 368 = .ok (.putfield 88, 3) := by decide +kernel
theorem dX7_finish_371 : decode cX7_finish 371 = .ok (.iload_n 1, 1) := by decide +kernel
theorem dX7_finish_372 : decode cX7_finish 372 = .ok (.ireturn, 1) := by decide +kernel
set_option maxRecDepth 20000 in
theorem ggX7_open_X7_finish : GoodIn wsX7_open wsX7_finish := goodIn_r _ [11, 3, 4, 12, 13, 14, 15, 16, 17, 18, 19, 20, 21, 22, 23, 24, 25, 26, 27, 28, 10, 29, 30, 31, 32, 33, 34, 35, 36, 37, 38, 39, 40, 41, 42, 43, 44, 45, 46, 47, 48, 49, 50, 51, 52, 53, 54, 55, 56, 57, 58, 59, 60, 61, 62, 63, 64, 65, 66, 67, 68, 69, 70, 71, 72, 73, 74, 75, 76, 77, 78, 79, 80, 81, 82, 83, 84, 85, 86, 87, 88, 89, 90, 91, 92, 93, 94] (by decide +kernel) (by decide +kernel)
set_option maxRecDepth 20000 in
theorem gX7_open_X7_finish : GoodIn wsX7_open (wsV RX7 141 RX7 yX7_finish wsX7_finish) := goodIn_app (goodIn_of _ (by decide +kernel)) ggX7_open_X7_finish
theorem dX7_open_0 : decode cX7_open 0 = .ok (.lload_n 1, 1) := by decide +kernel
theorem dX7_open_1 : decode cX7_open 1 = .ok (.lconst 0, 1) := by decide +kernel
theorem dX7_open_2 : decode cX7_open 2 = .ok (.lcmp, 1) := by decide +kernel
theorem dX7_open_3 : decode cX7_open 3 = .ok (.ifCond .lt 29, 3) := by decide +kernel
theorem dX7_open_6 : decode cX7_open 6 = .ok (.lload_n 1, 1) := by decide +kernel
theorem dX7_open_7 : decode cX7_open 7 = .ok (.ldc2_w 136, 3) := by decide +kernel
theorem dX7_open_10 : decode cX7_open 10 = .ok (.lcmp, 1) := by decide +kernel
theorem dX7_open_11 : decode cX7_open 11 = .ok (.ifCond .ge 21, 3) := by decide +kernel
theorem dX7_open_14 : decode cX7_open 14 = .ok (.lload_n 3, 1) := by decide +kernel
theorem dX7_open_15 : decode cX7_open 15 = .ok (.lconst 0, 1) := by decide +kernel
theorem dX7_open_16 : decode cX7_open 16 = .ok (.lcmp, 1) := by decide +kernel
theorem dX7_open_17 : decode cX7_open 17 = .ok (.ifCond .lt 15, 3) := by decide +kernel
theorem dX7_open_20 : decode cX7_open 20 = .ok (.lload_n 3, 1) := by decide +kernel
theorem dX7_open_21 : decode cX7_open 21 = .ok (.ldc2_w 136, 3) := by decide +kernel
theorem dX7_open_24 : decode cX7_open 24 = .ok (.lcmp, 1) := by decide +kernel
theorem dX7_open_25 : decode cX7_open 25 = .ok (.ifCond .ge 7, 3) := by decide +kernel
theorem dX7_open_28 : decode cX7_open 28 = .ok (.iconst 1, 1) := by decide +kernel
theorem dX7_open_29 : decode cX7_open 29 = .ok (.goto 4, 3) := by decide +kernel
theorem dX7_open_32 : decode cX7_open 32 = .ok (.iconst 0, 1) := by decide +kernel
theorem dX7_open_33 : decode cX7_open 33 = .ok (.istore 5, 2) := by decide +kernel
theorem dX7_open_35 : decode cX7_open 35 = .ok (.aload_n 0, 1) := by decide +kernel
theorem dX7_open_36 : decode cX7_open 36 = .ok (.iload 5, 2) := by decide +kernel
theorem dX7_open_38 : decode cX7_open 38 = .ok (.ifCond .eq 41, 3) := by decide +kernel
theorem dX7_open_41 : decode cX7_open 41 = .ok (.aload_n 0, 1) := by decide +kernel
theorem dX7_open_42 : decode cX7_open 42 = .ok (.getfield 73, 3) := by decide +kernel
theorem dX7_open_45 : decode cX7_open 45 = .ok (.ifCond .eq 30, 3) := by decide +kernel
theorem dX7_open_48 : decode cX7_open 48 = .ok (.lload_n 1, 1) := by decide +kernel
theorem dX7_open_49 : decode cX7_open 49 = .ok (.aload_n 0, 1) := by decide +kernel
theorem dX7_open_50 : decode cX7_open 50 = .ok (.getfield 93, 3) := by decide +kernel
theorem dX7_open_53 : decode cX7_open 53 = .ok (.lcmp, 1) := by decide +kernel
theorem dX7_open_54 : decode cX7_open 54 = .ok (.ifCond .gt 21, 3) := by decide +kernel
theorem dX7_open_57 : decode cX7_open 57 = .ok (.lload_n 1, 1) := by decide +kernel
theorem dX7_open_58 : decode cX7_open 58 = .ok (.aload_n 0, 1) := by decide +kernel
theorem dX7_open_59 : decode cX7_open 59 = .ok (.getfield 93, 3) := by decide +kernel
theorem dX7_open_62 : decode cX7_open 62 = .ok (.lcmp, 1) := by decide +kernel
theorem dX7_open_63 : decode cX7_open 63 = .ok (.ifCond .ne 16, 3) := by decide +kernel
theorem dX7_open_66 : decode cX7_open 66 = .ok (.lload_n 3, 1) := by decide +kernel
theorem dX7_open_67 : decode cX7_open 67 = .ok (.aload_n 0, 1) := by decide +kernel
theorem dX7_open_68 : decode cX7_open 68 = .ok (.getfield 103, 3) := by decide +kernel
theorem dX7_open_71 : decode cX7_open 71 = .ok (.lcmp, 1) := by decide +kernel
theorem dX7_open_72 : decode cX7_open 72 = .ok (.ifCond .le 7, 3) := by decide +kernel
theorem dX7_open_75 : decode cX7_open 75 = .ok (.iconst 0, 1) := by decide +kernel
theorem dX7_open_76 : decode cX7_open 76 = .ok (.goto 4, 3) := by decide +kernel
theorem dX7_open_79 : decode cX7_open 79 = .ok (.iconst 1, 1) := by decide +kernel
theorem dX7_open_80 : decode cX7_open 80 = .ok (.putfield 66, 3) := by decide +kernel
theorem dX7_open_83 : decode cX7_open 83 = .ok (.aload_n 0, 1) := by decide +kernel
theorem dX7_open_84 : decode cX7_open 84 = .ok (.getfield 66, 3) := by decide +kernel
theorem dX7_open_87 : decode cX7_open 87 = .ok (.ifCond .le 4, 3) := by decide +kernel
theorem dX7_open_90 : decode cX7_open 90 = .ok (.return_, 1) := by decide +kernel
theorem dX7_open_91 : decode cX7_open 91 = .ok (.aload_n 0, 1) := by decide +kernel
theorem dX7_open_92 : decode cX7_open 92 = .ok (.getfield 138, 3) := by decide +kernel
theorem dX7_open_95 : decode cX7_open 95 = .ok (.ifCond .eq 16, 3) := by decide +kernel
theorem dX7_open_98 : decode cX7_open 98 = .ok (.aload_n 0, 1) := by decide +kernel
theorem dX7_open_99 : decode cX7_open 99 = .ok (.invokevirtual 141, 3) := by decide +kernel
theorem dX7_open_102 : decode cX7_open 102 = .ok (.ifCond .ge 9, 3) := by decide +kernel
theorem dX7_open_105 : decode cX7_open 105 = .ok (.aload_n 0, 1) := by decide +kernel
theorem dX7_open_106 : decode cX7_open 106 = .ok (.iconst 2, 1) := by decide +kernel
theorem dX7_open_107 : decode cX7_open 107 = .ok (.putfield 66, 3) := by decide +kernel
theorem dX7_open_110 : decode cX7_open 110 = .ok (.return_, 1) := by decide +kernel
theorem dX7_open_111 : decode cX7_open 111 = .ok (.aload_n 0, 1) := by decide +kernel
theorem dX7_open_112 : decode cX7_open 112 = .ok (.iconst 1, 1) := by decide +kernel
theorem dX7_open_113 : decode cX7_open 113 = .ok (.putfield 138, 3) := by decide +kernel
theorem dX7_open_116 : decode cX7_open 116 = .ok (.aload_n 0, 1) := by decide +kernel
theorem dX7_open_117 : decode cX7_open 117 = .ok (.iconst 1, 1) := by decide +kernel
theorem dX7_open_118 : decode cX7_open 118 = .ok (.putfield 73, 3) := by decide +kernel
theorem dX7_open_121 : decode cX7_open 121 = .ok (.aload_n 0, 1) := by decide +kernel
theorem dX7_open_122 : decode cX7_open 122 = .ok (.lload_n 1, 1) := by decide +kernel
theorem dX7_open_123 : decode cX7_open 123 = .ok (.putfield 93, 3) := by decide +kernel
theorem dX7_open_126 : decode cX7_open 126 = .ok (.aload_n 0, 1) := by decide +kernel
theorem dX7_open_127 : decode cX7_open 127 = .ok (.lload_n 3, 1) := by decide +kernel
theorem dX7_open_128 : decode cX7_open 128 = .ok (.putfield 103, 3) := by decide +kernel
theorem dX7_open_131 : decode cX7_open 131 = .ok (.return_, 1) := by decide +kernel
set_option maxRecDepth 20000 in
theorem ggX7_change_X7_none : GoodIn wsX7_change wsX7_none := goodIn_r _ [9, 10, 11, 12, 13, 14, 15, 16, 17, 18, 19, 20, 21, 22, 23, 24, 25, 26, 27, 28, 29, 30, 31, 32, 33, 34, 35, 36, 37, 38, 39, 40, 41, 42, 43] (by decide +kernel) (by decide +kernel)
set_option maxRecDepth 20000 in
theorem gX7_change_X7_none : GoodIn wsX7_change (wsV RX7 77 RX7 yX7_none wsX7_none) := goodIn_app (goodIn_of _ (by decide +kernel)) ggX7_change_X7_none
theorem dX7_change_0 : decode cX7_change 0 = .ok (.aload_n 0, 1) := by decide +kernel
theorem dX7_change_1 : decode cX7_change 1 = .ok (.aload_n 0, 1) := by decide +kernel
theorem dX7_change_2 : decode cX7_change 2 = .ok (.iload_n 1, 1) := by decide +kernel
theorem dX7_change_3 : decode cX7_change 3 = .ok (.invokevirtual 77, 3) := by decide +kernel
theorem dX7_change_6 : decode cX7_change 6 = .ok (.ifCond .ne 17, 3) := by decide +kernel
theorem dX7_change_9 : decode cX7_change 9 = .ok (.iload_n 2, 1) := by decide +kernel
theorem dX7_change_10 : decode cX7_change 10 = .ok (.ifCond .lt 13, 3) := by decide +kernel
theorem dX7_change_13 : decode cX7_change 13 = .ok (.iload_n 2, 1) := by decide +kernel
theorem dX7_change_14 : decode cX7_change 14 = .ok (.aload_n 0, 1) := by decide +kernel
theorem dX7_change_15 : decode cX7_change 15 = .ok (.getfield 7, 3) := by decide +kernel
theorem dX7_change_18 : decode cX7_change 18 = .ok (.iload_n 1, 1) := by decide +kernel
theorem dX7_change_19 : decode cX7_change 19 = .ok (.iaload, 1) := by decide +kernel
theorem dX7_change_20 : decode cX7_change 20 = .ok (.if_icmp .lt 7, 3) := by decide +kernel
theorem dX7_change_23 : decode cX7_change 23 = .ok (.iconst 1, 1) := by decide +kernel
theorem dX7_change_24 : decode cX7_change 24 = .ok (.goto 29, 3) := by decide +kernel
theorem dX7_change_27 : decode cX7_change 27 = .ok (.iload_n 3, 1) := by decide +kernel
theorem dX7_change_28 : decode cX7_change 28 = .ok (.ifCond .lt 9, 3) := by decide +kernel
theorem dX7_change_31 : decode cX7_change 31 = .ok (.iload_n 3, 1) := by decide +kernel
theorem dX7_change_32 : decode cX7_change 32 = .ok (.bipush 8, 2) := by decide +kernel
theorem dX7_change_34 : decode cX7_change 34 = .ok (.if_icmp .le 7, 3) := by decide +kernel
theorem dX7_change_37 : decode cX7_change 37 = .ok (.iconst 2, 1) := by decide +kernel
theorem dX7_change_38 : decode cX7_change 38 = .ok (.goto 15, 3) := by decide +kernel
theorem dX7_change_41 : decode cX7_change 41 = .ok (.aload_n 0, 1) := by decide +kernel
theorem dX7_change_42 : decode cX7_change 42 = .ok (.getfield 138, 3) := by decide +kernel
theorem dX7_change_45 : decode cX7_change 45 = .ok (.ifCond .ne 7, 3) := by decide +kernel
theorem dX7_change_48 : decode cX7_change 48 = .ok (.iconst 3, 1) := by decide +kernel
theorem dX7_change_49 : decode cX7_change 49 = .ok (.goto 4, 3) := by decide +kernel
theorem dX7_change_52 : decode cX7_change 52 = .ok (.iconst 0, 1) := by decide +kernel
theorem dX7_change_53 : decode cX7_change 53 = .ok (.putfield 66, 3) := by decide +kernel
theorem dX7_change_56 : decode cX7_change 56 = .ok (.aload_n 0, 1) := by decide +kernel
theorem dX7_change_57 : decode cX7_change 57 = .ok (.getfield 66, 3) := by decide +kernel
theorem dX7_change_60 : decode cX7_change 60 = .ok (.ifCond .le 5, 3) := by decide +kernel
theorem dX7_change_63 : decode cX7_change 63 = .ok (.iconst 0, 1) := by decide +kernel
theorem dX7_change_64 : decode cX7_change 64 = .ok (.ireturn, 1) := by decide +kernel
theorem dX7_change_65 : decode cX7_change 65 = .ok (.aload_n 0, 1) := by decide +kernel
theorem dX7_change_66 : decode cX7_change 66 = .ok (.getfield 16, 3) := by decide +kernel
theorem dX7_change_69 : decode cX7_change 69 = .ok (.bipush 64, 2) := by decide +kernel
theorem dX7_change_71 : decode cX7_change 71 = .ok (.iload_n 1, 1) := by decide +kernel
theorem dX7_change_72 : decode cX7_change 72 = .ok (.imul, 1) := by decide +kernel
theorem dX7_change_73 : decode cX7_change 73 = .ok (.iload_n 2, 1) := by decide +kernel
theorem dX7_change_74 : decode cX7_change 74 = .ok (.iadd, 1) := by decide +kernel
theorem dX7_change_75 : decode cX7_change 75 = .ok (.iaload, 1) := by decide +kernel
theorem dX7_change_76 : decode cX7_change 76 = .ok (.iload_n 3, 1) := by decide +kernel
theorem dX7_change_77 : decode cX7_change 77 = .ok (.if_icmp .eq 7, 3) := by decide +kernel
theorem dX7_change_80 : decode cX7_change 80 = .ok (.iconst 1, 1) := by decide +kernel
theorem dX7_change_81 : decode cX7_change 81 = .ok (.goto 4, 3) := by decide +kernel
theorem dX7_change_84 : decode cX7_change 84 = .ok (.iconst 0, 1) := by decide +kernel
theorem dX7_change_85 : decode cX7_change 85 = .ok (.istore 4, 2) := by decide +kernel
theorem dX7_change_87 : decode cX7_change 87 = .ok (.aload_n 0, 1) := by decide +kernel
theorem dX7_change_88 : decode cX7_change 88 = .ok (.getfield 16, 3) := by decide +kernel
theorem dX7_change_91 : decode cX7_change 91 = .ok (.bipush 64, 2) := by decide +kernel
theorem dX7_change_93 : decode cX7_change 93 = .ok (.iload_n 1, 1) := by decide +kernel
theorem dX7_change_94 : decode cX7_change 94 = .ok (.imul, 1) := by decide +kernel
theorem dX7_change_95 : decode cX7_change 95 = .ok (.iload_n 2, 1) := by decide +kernel
theorem dX7_change_96 : decode cX7_change 96 = .ok (.iadd, 1) := by decide +kernel
theorem dX7_change_97 : decode cX7_change 97 = .ok (.iload_n 3, 1) := by decide +kernel
theorem dX7_change_98 : decode cX7_change 98 = .ok (.iastore, 1) := by decide +kernel
theorem dX7_change_99 : decode cX7_change 99 = .ok (.iload 4, 2) := by decide +kernel
theorem dX7_change_101 : decode cX7_change 101 = .ok (.ireturn, 1) := by decide +kernel
set_option maxRecDepth 20000 in
theorem ggX7_close_X7_finish : GoodIn wsX7_close wsX7_finish := goodIn_r _ [7, 8, 9, 10, 11, 12, 13, 14, 15, 16, 17, 18, 19, 20, 21, 22, 23, 24, 25, 26, 6, 27, 28, 29, 30, 31, 32, 33, 34, 35, 36, 37, 38, 39, 40, 41, 42, 43, 44, 45, 46, 47, 48, 49, 50, 51, 52, 53, 54, 55, 56, 57, 58, 59, 60, 61, 62, 63, 64, 65, 66, 67, 68, 69, 70, 71, 72, 73, 74, 75, 76, 77, 78, 79, 80, 81, 82, 83, 84, 85, 86, 87, 88, 89, 90, 91, 92] (by decide +kernel) (by decide +kernel)
set_option maxRecDepth 20000 in
theorem gX7_close_X7_finish : GoodIn wsX7_close (wsV RX7 141 RX7 yX7_finish wsX7_finish) := goodIn_app (goodIn_of _ (by decide +kernel)) ggX7_close_X7_finish
theorem dX7_close_0 : decode cX7_close 0 = .ok (.aload_n 0, 1) := by decide +kernel
theorem dX7_close_1 : decode cX7_close 1 = .ok (.iconst 0, 1) := by decide +kernel
theorem dX7_close_2 : decode cX7_close 2 = .ok (.putfield 66, 3) := by decide +kernel
theorem dX7_close_5 : decode cX7_close 5 = .ok (.aload_n 0, 1) := by decide +kernel
theorem dX7_close_6 : decode cX7_close 6 = .ok (.getfield 138, 3) := by decide +kernel
theorem dX7_close_9 : decode cX7_close 9 = .ok (.ifCond .ne 5, 3) := by decide +kernel
theorem dX7_close_12 : decode cX7_close 12 = .ok (.iconst (-1), 1) := by decide +kernel
theorem dX7_close_13 : decode cX7_close 13 = .ok (.ireturn, 1) := by decide +kernel
theorem dX7_close_14 : decode cX7_close 14 = .ok (.aload_n 0, 1) := by decide +kernel
theorem dX7_close_15 : decode cX7_close 15 = .ok (.invokevirtual 141, 3) := by decide +kernel
theorem dX7_close_18 : decode cX7_close 18 = .ok (.istore_n 1, 1) := by decide +kernel
theorem dX7_close_19 : decode cX7_close 19 = .ok (.aload_n 0, 1) := by decide +kernel
theorem dX7_close_20 : decode cX7_close 20 = .ok (.iload_n 1, 1) := by decide +kernel
theorem dX7_close_21 : decode cX7_close 21 = .ok (.ifCond .ge 7, 3) := by decide +kernel
theorem dX7_close_24 : decode cX7_close 24 = .ok (.iconst 1, 1) := by decide +kernel
theorem dX7_close_25 : decode cX7_close 25 = .ok (.goto 4, 3) := by decide +kernel
theorem dX7_close_28 : decode cX7_close 28 = .ok (.iconst 0, 1) := by decide +kernel
theorem dX7_close_29 : decode cX7_close 29 = .ok (.putfield 66, 3) := by decide +kernel
theorem dX7_close_32 : decode cX7_close 32 = .ok (.aload_n 0, 1) := by decide +kernel
theorem dX7_close_33 : decode cX7_close 33 = .ok (.getfield 66, 3) := by decide +kernel
theorem dX7_close_36 : decode cX7_close 36 = .ok (.ifCond .le 5, 3) := by decide +kernel
theorem dX7_close_39 : decode cX7_close 39 = .ok (.iconst 0, 1) := by decide +kernel
theorem dX7_close_40 : decode cX7_close 40 = .ok (.ireturn, 1) := by decide +kernel
theorem dX7_close_41 : decode cX7_close 41 = .ok (.aload_n 0, 1) := by decide +kernel
theorem dX7_close_42 : decode cX7_close 42 = .ok (.iconst 0, 1) := by decide +kernel
theorem dX7_close_43 : decode cX7_close 43 = .ok (.putfield 138, 3) := by decide +kernel
theorem dX7_close_46 : decode cX7_close 46 = .ok (.iload_n 1, 1) := by decide +kernel
theorem dX7_close_47 : decode cX7_close 47 = .ok (.ireturn, 1) := by decide +kernel
theorem dX7_moments_0 : decode cX7_moments 0 = .ok (.aload_n 0, 1) := by decide +kernel
theorem dX7_moments_1 : decode cX7_moments 1 = .ok (.iconst 0, 1) := by decide +kernel
theorem dX7_moments_2 : decode cX7_moments 2 = .ok (.putfield 66, 3) := by decide +kernel
theorem dX7_moments_5 : decode cX7_moments 5 = .ok (.aload_n 0, 1) := by decide +kernel
theorem dX7_moments_6 : decode cX7_moments 6 = .ok (.getfield 88, 3) := by decide +kernel
theorem dX7_moments_9 : decode cX7_moments 9 = .ok (.ireturn, 1) := by decide +kernel
theorem dX7_changesOf_0 : decode cX7_changesOf 0 = .ok (.iconst 0, 1) := by decide +kernel
theorem dX7_changesOf_1 : decode cX7_changesOf 1 = .ok (.istore_n 2, 1) := by decide +kernel
theorem dX7_changesOf_2 : decode cX7_changesOf 2 = .ok (.iconst 0, 1) := by decide +kernel
theorem dX7_changesOf_3 : decode cX7_changesOf 3 = .ok (.istore_n 3, 1) := by decide +kernel
theorem dX7_changesOf_4 : decode cX7_changesOf 4 = .ok (.iload_n 3, 1) := by decide +kernel
theorem dX7_changesOf_5 : decode cX7_changesOf 5 = .ok (.aload_n 0, 1) := by decide +kernel
theorem dX7_changesOf_6 : decode cX7_changesOf 6 = .ok (.getfield 133, 3) := by decide +kernel
theorem dX7_changesOf_9 : decode cX7_changesOf 9 = .ok (.if_icmp .ge 27, 3) := by decide +kernel
theorem dX7_changesOf_12 : decode cX7_changesOf 12 = .ok (.aload_n 0, 1) := by decide +kernel
theorem dX7_changesOf_13 : decode cX7_changesOf 13 = .ok (.getfield 29, 3) := by decide +kernel
theorem dX7_changesOf_16 : decode cX7_changesOf 16 = .ok (.iload_n 3, 1) := by decide +kernel
theorem dX7_changesOf_17 : decode cX7_changesOf 17 = .ok (.iaload, 1) := by decide +kernel
theorem dX7_changesOf_18 : decode cX7_changesOf 18 = .ok (.iload_n 1, 1) := by decide +kernel
theorem dX7_changesOf_19 : decode cX7_changesOf 19 = .ok (.if_icmp .ne 9, 3) := by decide +kernel
theorem dX7_changesOf_22 : decode cX7_changesOf 22 = .ok (.iload_n 2, 1) := by decide +kernel
theorem dX7_changesOf_23 : decode cX7_changesOf 23 = .ok (.iconst 1, 1) := by decide +kernel
theorem dX7_changesOf_24 : decode cX7_changesOf 24 = .ok (.iadd, 1) := by decide +kernel
theorem dX7_changesOf_25 : decode cX7_changesOf 25 = .ok (.goto 4, 3) := by decide +kernel
theorem dX7_changesOf_28 : decode cX7_changesOf 28 = .ok (.iload_n 2, 1) := by decide +kernel
theorem dX7_changesOf_29 : decode cX7_changesOf 29 = .ok (.istore_n 2, 1) := by decide +kernel
theorem dX7_changesOf_30 : decode cX7_changesOf 30 = .ok (.iinc 3 1, 3) := by decide +kernel
theorem dX7_changesOf_33 : decode cX7_changesOf 33 = .ok (.goto (-29), 3) := by decide +kernel
theorem dX7_changesOf_36 : decode cX7_changesOf 36 = .ok (.iload_n 2, 1) := by decide +kernel
theorem dX7_changesOf_37 : decode cX7_changesOf 37 = .ok (.ireturn, 1) := by decide +kernel
set_option maxRecDepth 20000 in
theorem ggX7_moment_X7_changesOf : GoodIn wsX7_moment wsX7_changesOf := goodIn_r _ [10, 11, 12, 13, 14, 15, 16, 17, 18, 19, 20, 21, 22, 23, 24, 25, 26, 27, 28, 29, 30, 31, 32, 33, 34, 35, 36, 37, 38, 39, 40, 41, 42, 43, 44, 45] (by decide +kernel) (by decide +kernel)
set_option maxRecDepth 20000 in
theorem gX7_moment_X7_changesOf : GoodIn wsX7_moment (wsV RX7 144 RX7 yX7_changesOf wsX7_changesOf) := goodIn_app (goodIn_of _ (by decide +kernel)) ggX7_moment_X7_changesOf
theorem dX7_moment_0 : decode cX7_moment 0 = .ok (.aload_n 0, 1) := by decide +kernel
theorem dX7_moment_1 : decode cX7_moment 1 = .ok (.iload_n 1, 1) := by decide +kernel
theorem dX7_moment_2 : decode cX7_moment 2 = .ok (.ifCond .lt 11, 3) := by decide +kernel
theorem dX7_moment_5 : decode cX7_moment 5 = .ok (.iload_n 1, 1) := by decide +kernel
theorem dX7_moment_6 : decode cX7_moment 6 = .ok (.aload_n 0, 1) := by decide +kernel
theorem dX7_moment_7 : decode cX7_moment 7 = .ok (.getfield 88, 3) := by decide +kernel
theorem dX7_moment_10 : decode cX7_moment 10 = .ok (.if_icmp .lt 7, 3) := by decide +kernel
theorem dX7_moment_13 : decode cX7_moment 13 = .ok (.iconst 1, 1) := by decide +kernel
theorem dX7_moment_14 : decode cX7_moment 14 = .ok (.goto 17, 3) := by decide +kernel
theorem dX7_moment_17 : decode cX7_moment 17 = .ok (.iload_n 2, 1) := by decide +kernel
theorem dX7_moment_18 : decode cX7_moment 18 = .ok (.ifCond .lt 8, 3) := by decide +kernel
theorem dX7_moment_21 : decode cX7_moment 21 = .ok (.iload_n 2, 1) := by decide +kernel
theorem dX7_moment_22 : decode cX7_moment 22 = .ok (.iconst 3, 1) := by decide +kernel
theorem dX7_moment_23 : decode cX7_moment 23 = .ok (.if_icmp .le 7, 3) := by decide +kernel
theorem dX7_moment_26 : decode cX7_moment 26 = .ok (.iconst 2, 1) := by decide +kernel
theorem dX7_moment_27 : decode cX7_moment 27 = .ok (.goto 4, 3) := by decide +kernel
theorem dX7_moment_30 : decode cX7_moment 30 = .ok (.iconst 0, 1) := by decide +kernel
theorem dX7_moment_31 : decode cX7_moment 31 = .ok (.putfield 66, 3) := by decide +kernel
theorem dX7_moment_34 : decode cX7_moment 34 = .ok (.aload_n 0, 1) := by decide +kernel
theorem dX7_moment_35 : decode cX7_moment 35 = .ok (.getfield 66, 3) := by decide +kernel
theorem dX7_moment_38 : decode cX7_moment 38 = .ok (.ifCond .le 5, 3) := by decide +kernel
theorem dX7_moment_41 : decode cX7_moment 41 = .ok (.lconst 0, 1) := by decide +kernel
theorem dX7_moment_42 : decode cX7_moment 42 = .ok (.lreturn, 1) := by decide +kernel
theorem dX7_moment_43 : decode cX7_moment 43 = .ok (.iload_n 2, 1) := by decide +kernel
theorem dX7_moment_44 : decode cX7_moment 44 = .ok (.ifCond .ne 12, 3) := by decide +kernel
theorem dX7_moment_47 : decode cX7_moment 47 = .ok (.aload_n 0, 1) := by decide +kernel
theorem dX7_moment_48 : decode cX7_moment 48 = .ok (.getfield 19, 3) := by decide +kernel
theorem dX7_moment_51 : decode cX7_moment 51 = .ok (.iload_n 1, 1) := by decide +kernel
theorem dX7_moment_52 : decode cX7_moment 52 = .ok (.laload, 1) := by decide +kernel
theorem dX7_moment_53 : decode cX7_moment 53 = .ok (.goto 38, 3) := by decide +kernel
theorem dX7_moment_56 : decode cX7_moment 56 = .ok (.iload_n 2, 1) := by decide +kernel
theorem dX7_moment_57 : decode cX7_moment 57 = .ok (.iconst 1, 1) := by decide +kernel
theorem dX7_moment_58 : decode cX7_moment 58 = .ok (.if_icmp .ne 12, 3) := by decide +kernel
theorem dX7_moment_61 : decode cX7_moment 61 = .ok (.aload_n 0, 1) := by decide +kernel
theorem dX7_moment_62 : decode cX7_moment 62 = .ok (.getfield 23, 3) := by decide +kernel
theorem dX7_moment_65 : decode cX7_moment 65 = .ok (.iload_n 1, 1) := by decide +kernel
theorem dX7_moment_66 : decode cX7_moment 66 = .ok (.laload, 1) := by decide +kernel
theorem dX7_moment_67 : decode cX7_moment 67 = .ok (.goto 24, 3) := by decide +kernel
theorem dX7_moment_70 : decode cX7_moment 70 = .ok (.iload_n 2, 1) := by decide +kernel
theorem dX7_moment_71 : decode cX7_moment 71 = .ok (.iconst 2, 1) := by decide +kernel
theorem dX7_moment_72 : decode cX7_moment 72 = .ok (.if_icmp .ne 12, 3) := by decide +kernel
theorem dX7_moment_75 : decode cX7_moment 75 = .ok (.aload_n 0, 1) := by decide +kernel
theorem dX7_moment_76 : decode cX7_moment 76 = .ok (.iload_n 1, 1) := by decide +kernel
theorem dX7_moment_77 : decode cX7_moment 77 = .ok (.invokevirtual 144, 3) := by decide +kernel
theorem dX7_moment_80 : decode cX7_moment 80 = .ok (.i2l, 1) := by decide +kernel
theorem dX7_moment_81 : decode cX7_moment 81 = .ok (.goto 10, 3) := by decide +kernel
theorem dX7_moment_84 : decode cX7_moment 84 = .ok (.aload_n 0, 1) := by decide +kernel
theorem dX7_moment_85 : decode cX7_moment 85 = .ok (.getfield 26, 3) := by decide +kernel
theorem dX7_moment_88 : decode cX7_moment 88 = .ok (.iload_n 1, 1) := by decide +kernel
theorem dX7_moment_89 : decode cX7_moment 89 = .ok (.iaload, 1) := by decide +kernel
theorem dX7_moment_90 : decode cX7_moment 90 = .ok (.i2l, 1) := by decide +kernel
theorem dX7_moment_91 : decode cX7_moment 91 = .ok (.lreturn, 1) := by decide +kernel
set_option maxRecDepth 20000 in
theorem ggX7_changed_X7_changesOf : GoodIn wsX7_changed wsX7_changesOf := goodIn_r _ [11, 12, 3, 13, 14, 15, 16, 17, 18, 19, 20, 21, 22, 23, 24, 25, 26, 27, 28, 29, 30, 31, 32, 33, 34, 35, 36, 37, 38, 39, 40, 41, 42, 43, 44, 45] (by decide +kernel) (by decide +kernel)
set_option maxRecDepth 20000 in
theorem gX7_changed_X7_changesOf : GoodIn wsX7_changed (wsV RX7 144 RX7 yX7_changesOf wsX7_changesOf) := goodIn_app (goodIn_of _ (by decide +kernel)) ggX7_changed_X7_changesOf
theorem dX7_changed_0 : decode cX7_changed 0 = .ok (.aload_n 0, 1) := by decide +kernel
theorem dX7_changed_1 : decode cX7_changed 1 = .ok (.iload_n 1, 1) := by decide +kernel
theorem dX7_changed_2 : decode cX7_changed 2 = .ok (.ifCond .lt 11, 3) := by decide +kernel
theorem dX7_changed_5 : decode cX7_changed 5 = .ok (.iload_n 1, 1) := by decide +kernel
theorem dX7_changed_6 : decode cX7_changed 6 = .ok (.aload_n 0, 1) := by decide +kernel
theorem dX7_changed_7 : decode cX7_changed 7 = .ok (.getfield 88, 3) := by decide +kernel
theorem dX7_changed_10 : decode cX7_changed 10 = .ok (.if_icmp .lt 7, 3) := by decide +kernel
theorem dX7_changed_13 : decode cX7_changed 13 = .ok (.iconst 1, 1) := by decide +kernel
theorem dX7_changed_14 : decode cX7_changed 14 = .ok (.goto 4, 3) := by decide +kernel
theorem dX7_changed_17 : decode cX7_changed 17 = .ok (.iconst 0, 1) := by decide +kernel
theorem dX7_changed_18 : decode cX7_changed 18 = .ok (.putfield 66, 3) := by decide +kernel
theorem dX7_changed_21 : decode cX7_changed 21 = .ok (.aload_n 0, 1) := by decide +kernel
theorem dX7_changed_22 : decode cX7_changed 22 = .ok (.getfield 66, 3) := by decide +kernel
theorem dX7_changed_25 : decode cX7_changed 25 = .ok (.ifCond .ne 38, 3) := by decide +kernel
theorem dX7_changed_28 : decode cX7_changed 28 = .ok (.aload_n 0, 1) := by decide +kernel
theorem dX7_changed_29 : decode cX7_changed 29 = .ok (.iload_n 2, 1) := by decide +kernel
theorem dX7_changed_30 : decode cX7_changed 30 = .ok (.ifCond .lt 12, 3) := by decide +kernel
theorem dX7_changed_33 : decode cX7_changed 33 = .ok (.iload_n 2, 1) := by decide +kernel
theorem dX7_changed_34 : decode cX7_changed 34 = .ok (.aload_n 0, 1) := by decide +kernel
theorem dX7_changed_35 : decode cX7_changed 35 = .ok (.iload_n 1, 1) := by decide +kernel
theorem dX7_changed_36 : decode cX7_changed 36 = .ok (.invokevirtual 144, 3) := by decide +kernel
theorem dX7_changed_39 : decode cX7_changed 39 = .ok (.if_icmp .lt 7, 3) := by decide +kernel
theorem dX7_changed_42 : decode cX7_changed 42 = .ok (.iconst 1, 1) := by decide +kernel
theorem dX7_changed_43 : decode cX7_changed 43 = .ok (.goto 17, 3) := by decide +kernel
theorem dX7_changed_46 : decode cX7_changed 46 = .ok (.iload_n 3, 1) := by decide +kernel
theorem dX7_changed_47 : decode cX7_changed 47 = .ok (.ifCond .lt 8, 3) := by decide +kernel
theorem dX7_changed_50 : decode cX7_changed 50 = .ok (.iload_n 3, 1) := by decide +kernel
theorem dX7_changed_51 : decode cX7_changed 51 = .ok (.iconst 3, 1) := by decide +kernel
theorem dX7_changed_52 : decode cX7_changed 52 = .ok (.if_icmp .le 7, 3) := by decide +kernel
theorem dX7_changed_55 : decode cX7_changed 55 = .ok (.iconst 2, 1) := by decide +kernel
theorem dX7_changed_56 : decode cX7_changed 56 = .ok (.goto 4, 3) := by decide +kernel
theorem dX7_changed_59 : decode cX7_changed 59 = .ok (.iconst 0, 1) := by decide +kernel
theorem dX7_changed_60 : decode cX7_changed 60 = .ok (.putfield 66, 3) := by decide +kernel
theorem dX7_changed_63 : decode cX7_changed 63 = .ok (.aload_n 0, 1) := by decide +kernel
theorem dX7_changed_64 : decode cX7_changed 64 = .ok (.getfield 66, 3) := by decide +kernel
theorem dX7_changed_67 : decode cX7_changed 67 = .ok (.ifCond .le 5, 3) := by decide +kernel
theorem dX7_changed_70 : decode cX7_changed 70 = .ok (.iconst 0, 1) := by decide +kernel
theorem dX7_changed_71 : decode cX7_changed 71 = .ok (.ireturn, 1) := by decide +kernel
theorem dX7_changed_72 : decode cX7_changed 72 = .ok (.iconst 0, 1) := by decide +kernel
theorem dX7_changed_73 : decode cX7_changed 73 = .ok (.istore 4, 2) := by decide +kernel
theorem dX7_changed_75 : decode cX7_changed 75 = .ok (.aload_n 0, 1) := by decide +kernel
theorem dX7_changed_76 : decode cX7_changed 76 = .ok (.getfield 29, 3) := by decide +kernel
theorem dX7_changed_79 : decode cX7_changed 79 = .ok (.iload 4, 2) := by decide +kernel
theorem dX7_changed_81 : decode cX7_changed 81 = .ok (.iaload, 1) := by decide +kernel
theorem dX7_changed_82 : decode cX7_changed 82 = .ok (.iload_n 1, 1) := by decide +kernel
theorem dX7_changed_83 : decode cX7_changed 83 = .ok (.if_icmp .eq 9, 3) := by decide +kernel
theorem dX7_changed_86 : decode cX7_changed 86 = .ok (.iinc 4 1, 3) := by decide +kernel
theorem dX7_changed_89 : decode cX7_changed 89 = .ok (.goto (-14), 3) := by decide +kernel
theorem dX7_changed_92 : decode cX7_changed 92 = .ok (.iload 4, 2) := by decide +kernel
theorem dX7_changed_94 : decode cX7_changed 94 = .ok (.iload_n 2, 1) := by decide +kernel
theorem dX7_changed_95 : decode cX7_changed 95 = .ok (.iadd, 1) := by decide +kernel
theorem dX7_changed_96 : decode cX7_changed 96 = .ok (.istore 4, 2) := by decide +kernel
theorem dX7_changed_98 : decode cX7_changed 98 = .ok (.iload_n 3, 1) := by decide +kernel
theorem dX7_changed_99 : decode cX7_changed 99 = .ok (.ifCond .ne 16, 3) := by decide +kernel
theorem dX7_changed_102 : decode cX7_changed 102 = .ok (.aload_n 0, 1) := by decide +kernel
theorem dX7_changed_103 : decode cX7_changed 103 = .ok (.getfield 32, 3) := by decide +kernel
theorem dX7_changed_106 : decode cX7_changed 106 = .ok (.iload 4, 2) := by decide +kernel
theorem dX7_changed_108 : decode cX7_changed 108 = .ok (.iaload, 1) := by decide +kernel
theorem dX7_changed_109 : decode cX7_changed 109 = .ok (.bipush 64, 2) := by decide +kernel
theorem dX7_changed_111 : decode cX7_changed 111 = .ok (.idiv, 1) := by decide +kernel
theorem dX7_changed_112 : decode cX7_changed 112 = .ok (.goto 43, 3) := by decide +kernel
theorem dX7_changed_115 : decode cX7_changed 115 = .ok (.iload_n 3, 1) := by decide +kernel
theorem dX7_changed_116 : decode cX7_changed 116 = .ok (.iconst 1, 1) := by decide +kernel
theorem dX7_changed_117 : decode cX7_changed 117 = .ok (.if_icmp .ne 16, 3) := by decide +kernel
theorem dX7_changed_120 : decode cX7_changed 120 = .ok (.aload_n 0, 1) := by decide +kernel
theorem dX7_changed_121 : decode cX7_changed 121 = .ok (.getfield 32, 3) := by decide +kernel
theorem dX7_changed_124 : decode cX7_changed 124 = .ok (.iload 4, 2) := by decide +kernel
theorem dX7_changed_126 : decode cX7_changed 126 = .ok (.iaload, 1) := by decide +kernel
theorem dX7_changed_127 : decode cX7_changed 127 = .ok (.bipush 64, 2) := by decide +kernel
theorem dX7_changed_129 : decode cX7_changed 129 = .ok (.irem, 1) := by decide +kernel
theorem dX7_changed_130 : decode cX7_changed 130 = .ok (.goto 25, 3) := by decide +kernel
theorem dX7_changed_133 : decode cX7_changed 133 = .ok (.iload_n 3, 1) := by decide +kernel
theorem dX7_changed_134 : decode cX7_changed 134 = .ok (.iconst 2, 1) := by decide +kernel
theorem dX7_changed_135 : decode cX7_changed 135 = .ok (.if_icmp .ne 13, 3) := by decide +kernel
theorem dX7_changed_138 : decode cX7_changed 138 = .ok (.aload_n 0, 1) := by decide +kernel
theorem dX7_changed_139 : decode cX7_changed 139 = .ok (.getfield 38, 3) := by decide +kernel
theorem dX7_changed_142 : decode cX7_changed 142 = .ok (.iload 4, 2) := by decide +kernel
theorem dX7_changed_144 : decode cX7_changed 144 = .ok (.iaload, 1) := by decide +kernel
theorem dX7_changed_145 : decode cX7_changed 145 = .ok (.goto 10, 3) := by decide +kernel
theorem dX7_changed_148 : decode cX7_changed 148 = .ok (.aload_n 0, 1) := by decide +kernel
theorem dX7_changed_149 : decode cX7_changed 149 = .ok (.getfield 35, 3) := by decide +kernel
theorem dX7_changed_152 : decode cX7_changed 152 = .ok (.iload 4, 2) := by decide +kernel
theorem dX7_changed_154 : decode cX7_changed 154 = .ok (.iaload, 1) := by decide +kernel
theorem dX7_changed_155 : decode cX7_changed 155 = .ok (.ireturn, 1) := by decide +kernel
set_option maxRecDepth 20000 in
theorem ggX7_at_X7_none : GoodIn wsX7_at wsX7_none := goodIn_r _ [13, 14, 15, 16, 17, 18, 19, 20, 21, 22, 23, 24, 25, 26, 27, 28, 29, 30, 31, 32, 33, 34, 35, 36, 37, 38, 39, 40, 41, 42, 43, 44, 45, 46, 47] (by decide +kernel) (by decide +kernel)
set_option maxRecDepth 20000 in
theorem gX7_at_X7_none : GoodIn wsX7_at (wsV RX7 77 RX7 yX7_none wsX7_none) := goodIn_app (goodIn_of _ (by decide +kernel)) ggX7_at_X7_none
theorem dX7_at_0 : decode cX7_at 0 = .ok (.aload_n 0, 1) := by decide +kernel
theorem dX7_at_1 : decode cX7_at 1 = .ok (.aload_n 0, 1) := by decide +kernel
theorem dX7_at_2 : decode cX7_at 2 = .ok (.iload 5, 2) := by decide +kernel
theorem dX7_at_4 : decode cX7_at 4 = .ok (.invokevirtual 77, 3) := by decide +kernel
theorem dX7_at_7 : decode cX7_at 7 = .ok (.ifCond .ne 20, 3) := by decide +kernel
theorem dX7_at_10 : decode cX7_at 10 = .ok (.iload 6, 2) := by decide +kernel
theorem dX7_at_12 : decode cX7_at 12 = .ok (.ifCond .lt 15, 3) := by decide +kernel
theorem dX7_at_15 : decode cX7_at 15 = .ok (.iload 6, 2) := by decide +kernel
theorem dX7_at_17 : decode cX7_at 17 = .ok (.aload_n 0, 1) := by decide +kernel
theorem dX7_at_18 : decode cX7_at 18 = .ok (.getfield 7, 3) := by decide +kernel
theorem dX7_at_21 : decode cX7_at 21 = .ok (.iload 5, 2) := by decide +kernel
theorem dX7_at_23 : decode cX7_at 23 = .ok (.iaload, 1) := by decide +kernel
theorem dX7_at_24 : decode cX7_at 24 = .ok (.if_icmp .lt 7, 3) := by decide +kernel
theorem dX7_at_27 : decode cX7_at 27 = .ok (.iconst 1, 1) := by decide +kernel
theorem dX7_at_28 : decode cX7_at 28 = .ok (.goto 4, 3) := by decide +kernel
theorem dX7_at_31 : decode cX7_at 31 = .ok (.iconst 0, 1) := by decide +kernel
theorem dX7_at_32 : decode cX7_at 32 = .ok (.putfield 66, 3) := by decide +kernel
theorem dX7_at_35 : decode cX7_at 35 = .ok (.iconst 0, 1) := by decide +kernel
theorem dX7_at_36 : decode cX7_at 36 = .ok (.istore 7, 2) := by decide +kernel
theorem dX7_at_38 : decode cX7_at 38 = .ok (.iconst 0, 1) := by decide +kernel
theorem dX7_at_39 : decode cX7_at 39 = .ok (.istore 8, 2) := by decide +kernel
theorem dX7_at_41 : decode cX7_at 41 = .ok (.iload 8, 2) := by decide +kernel
theorem dX7_at_43 : decode cX7_at 43 = .ok (.aload_n 0, 1) := by decide +kernel
theorem dX7_at_44 : decode cX7_at 44 = .ok (.getfield 133, 3) := by decide +kernel
theorem dX7_at_47 : decode cX7_at 47 = .ok (.if_icmp .ge 105, 3) := by decide +kernel
theorem dX7_at_50 : decode cX7_at 50 = .ok (.aload_n 0, 1) := by decide +kernel
theorem dX7_at_51 : decode cX7_at 51 = .ok (.getfield 66, 3) := by decide +kernel
theorem dX7_at_54 : decode cX7_at 54 = .ok (.ifCond .ne 98, 3) := by decide +kernel
theorem dX7_at_57 : decode cX7_at 57 = .ok (.aload_n 0, 1) := by decide +kernel
theorem dX7_at_58 : decode cX7_at 58 = .ok (.getfield 29, 3) := by decide +kernel
theorem dX7_at_61 : decode cX7_at 61 = .ok (.iload 8, 2) := by decide +kernel
theorem dX7_at_63 : decode cX7_at 63 = .ok (.iaload, 1) := by decide +kernel
theorem dX7_at_64 : decode cX7_at 64 = .ok (.istore 9, 2) := by decide +kernel
theorem dX7_at_66 : decode cX7_at 66 = .ok (.aload_n 0, 1) := by decide +kernel
theorem dX7_at_67 : decode cX7_at 67 = .ok (.getfield 19, 3) := by decide +kernel
theorem dX7_at_70 : decode cX7_at 70 = .ok (.iload 9, 2) := by decide +kernel
theorem dX7_at_72 : decode cX7_at 72 = .ok (.laload, 1) := by decide +kernel
theorem dX7_at_73 : decode cX7_at 73 = .ok (.lload_n 1, 1) := by decide +kernel
theorem dX7_at_74 : decode cX7_at 74 = .ok (.lcmp, 1) := by decide +kernel
theorem dX7_at_75 : decode cX7_at 75 = .ok (.ifCond .gt 27, 3) := by decide +kernel
theorem dX7_at_78 : decode cX7_at 78 = .ok (.aload_n 0, 1) := by decide +kernel
theorem dX7_at_79 : decode cX7_at 79 = .ok (.getfield 19, 3) := by decide +kernel
theorem dX7_at_82 : decode cX7_at 82 = .ok (.iload 9, 2) := by decide +kernel
theorem dX7_at_84 : decode cX7_at 84 = .ok (.laload, 1) := by decide +kernel
theorem dX7_at_85 : decode cX7_at 85 = .ok (.lload_n 1, 1) := by decide +kernel
theorem dX7_at_86 : decode cX7_at 86 = .ok (.lcmp, 1) := by decide +kernel
theorem dX7_at_87 : decode cX7_at 87 = .ok (.ifCond .ne 19, 3) := by decide +kernel
theorem dX7_at_90 : decode cX7_at 90 = .ok (.aload_n 0, 1) := by decide +kernel
theorem dX7_at_91 : decode cX7_at 91 = .ok (.getfield 23, 3) := by decide +kernel
theorem dX7_at_94 : decode cX7_at 94 = .ok (.iload 9, 2) := by decide +kernel
theorem dX7_at_96 : decode cX7_at 96 = .ok (.laload, 1) := by decide +kernel
theorem dX7_at_97 : decode cX7_at 97 = .ok (.lload_n 3, 1) := by decide +kernel
theorem dX7_at_98 : decode cX7_at 98 = .ok (.lcmp, 1) := by decide +kernel
theorem dX7_at_99 : decode cX7_at 99 = .ok (.ifCond .le 7, 3) := by decide +kernel
theorem dX7_at_102 : decode cX7_at 102 = .ok (.iconst 1, 1) := by decide +kernel
theorem dX7_at_103 : decode cX7_at 103 = .ok (.goto 4, 3) := by decide +kernel
theorem dX7_at_106 : decode cX7_at 106 = .ok (.iconst 0, 1) := by decide +kernel
theorem dX7_at_107 : decode cX7_at 107 = .ok (.istore 10, 2) := by decide +kernel
theorem dX7_at_109 : decode cX7_at 109 = .ok (.aload_n 0, 1) := by decide +kernel
theorem dX7_at_110 : decode cX7_at 110 = .ok (.getfield 32, 3) := by decide +kernel
theorem dX7_at_113 : decode cX7_at 113 = .ok (.iload 8, 2) := by decide +kernel
theorem dX7_at_115 : decode cX7_at 115 = .ok (.iaload, 1) := by decide +kernel
theorem dX7_at_116 : decode cX7_at 116 = .ok (.bipush 64, 2) := by decide +kernel
theorem dX7_at_118 : decode cX7_at 118 = .ok (.iload 5, 2) := by decide +kernel
theorem dX7_at_120 : decode cX7_at 120 = .ok (.imul, 1) := by decide +kernel
theorem dX7_at_121 : decode cX7_at 121 = .ok (.iload 6, 2) := by decide +kernel
theorem dX7_at_123 : decode cX7_at 123 = .ok (.iadd, 1) := by decide +kernel
theorem dX7_at_124 : decode cX7_at 124 = .ok (.if_icmp .ne 18, 3) := by decide +kernel
theorem dX7_at_127 : decode cX7_at 127 = .ok (.iload 10, 2) := by decide +kernel
theorem dX7_at_129 : decode cX7_at 129 = .ok (.ifCond .ne 13, 3) := by decide +kernel
theorem dX7_at_132 : decode cX7_at 132 = .ok (.aload_n 0, 1) := by decide +kernel
theorem dX7_at_133 : decode cX7_at 133 = .ok (.getfield 38, 3) := by decide +kernel
theorem dX7_at_136 : decode cX7_at 136 = .ok (.iload 8, 2) := by decide +kernel
theorem dX7_at_138 : decode cX7_at 138 = .ok (.iaload, 1) := by decide +kernel
theorem dX7_at_139 : decode cX7_at 139 = .ok (.goto 5, 3) := by decide +kernel
theorem dX7_at_142 : decode cX7_at 142 = .ok (.iload 7, 2) := by decide +kernel
theorem dX7_at_144 : decode cX7_at 144 = .ok (.istore 7, 2) := by decide +kernel
theorem dX7_at_146 : decode cX7_at 146 = .ok (.iinc 8 1, 3) := by decide +kernel
theorem dX7_at_149 : decode cX7_at 149 = .ok (.goto (-108), 3) := by decide +kernel
theorem dX7_at_152 : decode cX7_at 152 = .ok (.iload 7, 2) := by decide +kernel
theorem dX7_at_154 : decode cX7_at 154 = .ok (.ireturn, 1) := by decide +kernel
set_option maxRecDepth 20000 in
theorem ggX7_next_X7_none : GoodIn wsX7_next wsX7_none := goodIn_r _ [9, 10, 11, 12, 13, 14, 15, 16, 17, 18, 19, 20, 21, 22, 23, 24, 25, 26, 27, 28, 29, 30, 31, 32, 33, 34, 35, 36, 37, 38, 39, 40, 41, 42, 43] (by decide +kernel) (by decide +kernel)
set_option maxRecDepth 20000 in
theorem gX7_next_X7_none : GoodIn wsX7_next (wsV RX7 77 RX7 yX7_none wsX7_none) := goodIn_app (goodIn_of _ (by decide +kernel)) ggX7_next_X7_none
theorem dX7_next_0 : decode cX7_next 0 = .ok (.aload_n 0, 1) := by decide +kernel
theorem dX7_next_1 : decode cX7_next 1 = .ok (.aload_n 0, 1) := by decide +kernel
theorem dX7_next_2 : decode cX7_next 2 = .ok (.iload_n 1, 1) := by decide +kernel
theorem dX7_next_3 : decode cX7_next 3 = .ok (.invokevirtual 77, 3) := by decide +kernel
theorem dX7_next_6 : decode cX7_next 6 = .ok (.ifCond .eq 7, 3) := by decide +kernel
theorem dX7_next_9 : decode cX7_next 9 = .ok (.iconst 1, 1) := by decide +kernel
theorem dX7_next_10 : decode cX7_next 10 = .ok (.goto 12, 3) := by decide +kernel
theorem dX7_next_13 : decode cX7_next 13 = .ok (.iload_n 2, 1) := by decide +kernel
theorem dX7_next_14 : decode cX7_next 14 = .ok (.ifCond .ge 7, 3) := by decide +kernel
theorem dX7_next_17 : decode cX7_next 17 = .ok (.iconst 2, 1) := by decide +kernel
theorem dX7_next_18 : decode cX7_next 18 = .ok (.goto 4, 3) := by decide +kernel
theorem dX7_next_21 : decode cX7_next 21 = .ok (.iconst 0, 1) := by decide +kernel
theorem dX7_next_22 : decode cX7_next 22 = .ok (.putfield 66, 3) := by decide +kernel
theorem dX7_next_25 : decode cX7_next 25 = .ok (.iconst (-1), 1) := by decide +kernel
theorem dX7_next_26 : decode cX7_next 26 = .ok (.istore_n 3, 1) := by decide +kernel
theorem dX7_next_27 : decode cX7_next 27 = .ok (.aload_n 0, 1) := by decide +kernel
theorem dX7_next_28 : decode cX7_next 28 = .ok (.getfield 133, 3) := by decide +kernel
theorem dX7_next_31 : decode cX7_next 31 = .ok (.iconst 1, 1) := by decide +kernel
theorem dX7_next_32 : decode cX7_next 32 = .ok (.isub, 1) := by decide +kernel
theorem dX7_next_33 : decode cX7_next 33 = .ok (.istore 4, 2) := by decide +kernel
theorem dX7_next_35 : decode cX7_next 35 = .ok (.iload 4, 2) := by decide +kernel
theorem dX7_next_37 : decode cX7_next 37 = .ok (.ifCond .lt 53, 3) := by decide +kernel
theorem dX7_next_40 : decode cX7_next 40 = .ok (.aload_n 0, 1) := by decide +kernel
theorem dX7_next_41 : decode cX7_next 41 = .ok (.getfield 66, 3) := by decide +kernel
theorem dX7_next_44 : decode cX7_next 44 = .ok (.ifCond .ne 46, 3) := by decide +kernel
theorem dX7_next_47 : decode cX7_next 47 = .ok (.aload_n 0, 1) := by decide +kernel
theorem dX7_next_48 : decode cX7_next 48 = .ok (.getfield 29, 3) := by decide +kernel
theorem dX7_next_51 : decode cX7_next 51 = .ok (.iload 4, 2) := by decide +kernel
theorem dX7_next_53 : decode cX7_next 53 = .ok (.iaload, 1) := by decide +kernel
theorem dX7_next_54 : decode cX7_next 54 = .ok (.iload_n 2, 1) := by decide +kernel
theorem dX7_next_55 : decode cX7_next 55 = .ok (.if_icmp .lt 27, 3) := by decide +kernel
theorem dX7_next_58 : decode cX7_next 58 = .ok (.aload_n 0, 1) := by decide +kernel
theorem dX7_next_59 : decode cX7_next 59 = .ok (.getfield 32, 3) := by decide +kernel
theorem dX7_next_62 : decode cX7_next 62 = .ok (.iload 4, 2) := by decide +kernel
theorem dX7_next_64 : decode cX7_next 64 = .ok (.iaload, 1) := by decide +kernel
theorem dX7_next_65 : decode cX7_next 65 = .ok (.bipush 64, 2) := by decide +kernel
theorem dX7_next_67 : decode cX7_next 67 = .ok (.idiv, 1) := by decide +kernel
theorem dX7_next_68 : decode cX7_next 68 = .ok (.iload_n 1, 1) := by decide +kernel
theorem dX7_next_69 : decode cX7_next 69 = .ok (.if_icmp .ne 13, 3) := by decide +kernel
theorem dX7_next_72 : decode cX7_next 72 = .ok (.aload_n 0, 1) := by decide +kernel
theorem dX7_next_73 : decode cX7_next 73 = .ok (.getfield 29, 3) := by decide +kernel
theorem dX7_next_76 : decode cX7_next 76 = .ok (.iload 4, 2) := by decide +kernel
theorem dX7_next_78 : decode cX7_next 78 = .ok (.iaload, 1) := by decide +kernel
theorem dX7_next_79 : decode cX7_next 79 = .ok (.goto 4, 3) := by decide +kernel
theorem dX7_next_82 : decode cX7_next 82 = .ok (.iload_n 3, 1) := by decide +kernel
theorem dX7_next_83 : decode cX7_next 83 = .ok (.istore_n 3, 1) := by decide +kernel
theorem dX7_next_84 : decode cX7_next 84 = .ok (.iinc 4 (-1), 3) := by decide +kernel
theorem dX7_next_87 : decode cX7_next 87 = .ok (.goto (-52), 3) := by decide +kernel
theorem dX7_next_90 : decode cX7_next 90 = .ok (.aload_n 0, 1) := by decide +kernel
theorem dX7_next_91 : decode cX7_next 91 = .ok (.getfield 66, 3) := by decide +kernel
theorem dX7_next_94 : decode cX7_next 94 = .ok (.ifCond .le 7, 3) := by decide +kernel
theorem dX7_next_97 : decode cX7_next 97 = .ok (.iconst 0, 1) := by decide +kernel
theorem dX7_next_98 : decode cX7_next 98 = .ok (.goto 4, 3) := by decide +kernel
theorem dX7_next_101 : decode cX7_next 101 = .ok (.iload_n 3, 1) := by decide +kernel
theorem dX7_next_102 : decode cX7_next 102 = .ok (.ireturn, 1) := by decide +kernel
theorem dX7_size_0 : decode cX7_size 0 = .ok (.aload_n 0, 1) := by decide +kernel
theorem dX7_size_1 : decode cX7_size 1 = .ok (.iconst 0, 1) := by decide +kernel
theorem dX7_size_2 : decode cX7_size 2 = .ok (.putfield 66, 3) := by decide +kernel
theorem dX7_size_5 : decode cX7_size 5 = .ok (.aload_n 0, 1) := by decide +kernel
theorem dX7_size_6 : decode cX7_size 6 = .ok (.getfield 85, 3) := by decide +kernel
theorem dX7_size_9 : decode cX7_size 9 = .ok (.ireturn, 1) := by decide +kernel
theorem dX7_byteAt_0 : decode cX7_byteAt 0 = .ok (.aload_n 0, 1) := by decide +kernel
theorem dX7_byteAt_1 : decode cX7_byteAt 1 = .ok (.iload_n 1, 1) := by decide +kernel
theorem dX7_byteAt_2 : decode cX7_byteAt 2 = .ok (.ifCond .lt 11, 3) := by decide +kernel
theorem dX7_byteAt_5 : decode cX7_byteAt 5 = .ok (.iload_n 1, 1) := by decide +kernel
theorem dX7_byteAt_6 : decode cX7_byteAt 6 = .ok (.aload_n 0, 1) := by decide +kernel
theorem dX7_byteAt_7 : decode cX7_byteAt 7 = .ok (.getfield 85, 3) := by decide +kernel
theorem dX7_byteAt_10 : decode cX7_byteAt 10 = .ok (.if_icmp .lt 7, 3) := by decide +kernel
theorem dX7_byteAt_13 : decode cX7_byteAt 13 = .ok (.iconst 1, 1) := by decide +kernel
theorem dX7_byteAt_14 : decode cX7_byteAt 14 = .ok (.goto 4, 3) := by decide +kernel
theorem dX7_byteAt_17 : decode cX7_byteAt 17 = .ok (.iconst 0, 1) := by decide +kernel
theorem dX7_byteAt_18 : decode cX7_byteAt 18 = .ok (.putfield 66, 3) := by decide +kernel
theorem dX7_byteAt_21 : decode cX7_byteAt 21 = .ok (.aload_n 0, 1) := by decide +kernel
theorem dX7_byteAt_22 : decode cX7_byteAt 22 = .ok (.getfield 66, 3) := by decide +kernel
theorem dX7_byteAt_25 : decode cX7_byteAt 25 = .ok (.ifCond .le 7, 3) := by decide +kernel
theorem dX7_byteAt_28 : decode cX7_byteAt 28 = .ok (.iconst 0, 1) := by decide +kernel
theorem dX7_byteAt_29 : decode cX7_byteAt 29 = .ok (.goto 9, 3) := by decide +kernel
theorem dX7_byteAt_32 : decode cX7_byteAt 32 = .ok (.aload_n 0, 1) := by decide +kernel
theorem dX7_byteAt_33 : decode cX7_byteAt 33 = .ok (.getfield 42, 3) := by decide +kernel
theorem dX7_byteAt_36 : decode cX7_byteAt 36 = .ok (.iload_n 1, 1) := by decide +kernel
theorem dX7_byteAt_37 : decode cX7_byteAt 37 = .ok (.iaload, 1) := by decide +kernel
theorem dX7_byteAt_38 : decode cX7_byteAt 38 = .ok (.ireturn, 1) := by decide +kernel
theorem dX7_feed_0 : decode cX7_feed 0 = .ok (.aload_n 0, 1) := by decide +kernel
theorem dX7_feed_1 : decode cX7_feed 1 = .ok (.aload_n 0, 1) := by decide +kernel
theorem dX7_feed_2 : decode cX7_feed 2 = .ok (.getfield 148, 3) := by decide +kernel
theorem dX7_feed_5 : decode cX7_feed 5 = .ok (.iconst 4, 1) := by decide +kernel
theorem dX7_feed_6 : decode cX7_feed 6 = .ok (.iadd, 1) := by decide +kernel
theorem dX7_feed_7 : decode cX7_feed 7 = .ok (.ldc 41, 2) := by decide +kernel
theorem dX7_feed_9 : decode cX7_feed 9 = .ok (.if_icmp .le 7, 3) := by decide +kernel
theorem dX7_feed_12 : decode cX7_feed 12 = .ok (.iconst 1, 1) := by decide +kernel
theorem dX7_feed_13 : decode cX7_feed 13 = .ok (.goto 4, 3) := by decide +kernel
theorem dX7_feed_16 : decode cX7_feed 16 = .ok (.iconst 0, 1) := by decide +kernel
theorem dX7_feed_17 : decode cX7_feed 17 = .ok (.putfield 66, 3) := by decide +kernel
theorem dX7_feed_20 : decode cX7_feed 20 = .ok (.aload_n 0, 1) := by decide +kernel
theorem dX7_feed_21 : decode cX7_feed 21 = .ok (.getfield 66, 3) := by decide +kernel
theorem dX7_feed_24 : decode cX7_feed 24 = .ok (.ifCond .le 5, 3) := by decide +kernel
theorem dX7_feed_27 : decode cX7_feed 27 = .ok (.iconst 0, 1) := by decide +kernel
theorem dX7_feed_28 : decode cX7_feed 28 = .ok (.ireturn, 1) := by decide +kernel
theorem dX7_feed_29 : decode cX7_feed 29 = .ok (.iconst 0, 1) := by decide +kernel
theorem dX7_feed_30 : decode cX7_feed 30 = .ok (.istore_n 2, 1) := by decide +kernel
theorem dX7_feed_31 : decode cX7_feed 31 = .ok (.iload_n 2, 1) := by decide +kernel
theorem dX7_feed_32 : decode cX7_feed 32 = .ok (.iconst 4, 1) := by decide +kernel
theorem dX7_feed_33 : decode cX7_feed 33 = .ok (.if_icmp .ge 41, 3) := by decide +kernel
theorem dX7_feed_36 : decode cX7_feed 36 = .ok (.aload_n 0, 1) := by decide +kernel
theorem dX7_feed_37 : decode cX7_feed 37 = .ok (.getfield 45, 3) := by decide +kernel
theorem dX7_feed_40 : decode cX7_feed 40 = .ok (.aload_n 0, 1) := by decide +kernel
theorem dX7_feed_41 : decode cX7_feed 41 = .ok (.getfield 148, 3) := by decide +kernel
theorem dX7_feed_44 : decode cX7_feed 44 = .ok (.iload_n 1, 1) := by decide +kernel
theorem dX7_feed_45 : decode cX7_feed 45 = .ok (.bipush 24, 2) := by decide +kernel
theorem dX7_feed_47 : decode cX7_feed 47 = .ok (.bipush 8, 2) := by decide +kernel
theorem dX7_feed_49 : decode cX7_feed 49 = .ok (.iload_n 2, 1) := by decide +kernel
theorem dX7_feed_50 : decode cX7_feed 50 = .ok (.imul, 1) := by decide +kernel
theorem dX7_feed_51 : decode cX7_feed 51 = .ok (.isub, 1) := by decide +kernel
theorem dX7_feed_52 : decode cX7_feed 52 = .ok (.ishr, 1) := by decide +kernel
theorem dX7_feed_53 : decode cX7_feed 53 = .ok (.sipush 255, 3) := by decide +kernel
theorem dX7_feed_56 : decode cX7_feed 56 = .ok (.iand, 1) := by decide +kernel
theorem dX7_feed_57 : decode cX7_feed 57 = .ok (.iastore, 1) := by decide +kernel
theorem dX7_feed_58 : decode cX7_feed 58 = .ok (.aload_n 0, 1) := by decide +kernel
theorem dX7_feed_59 : decode cX7_feed 59 = .ok (.dup, 1) := by decide +kernel
theorem dX7_feed_60 : decode cX7_feed 60 = .ok (.getfield 148, 3) := by decide +kernel
theorem dX7_feed_63 : decode cX7_feed 63 = .ok (.iconst 1, 1) := by decide +kernel
theorem dX7_feed_64 : decode cX7_feed 64 = .ok (.iadd, 1) := by decide +kernel
theorem dX7_feed_65 : decode cX7_feed 65 = .ok (.putfield 148, 3) := by decide +kernel
theorem dX7_feed_68 : decode cX7_feed 68 = .ok (.iinc 2 1, 3) := by decide +kernel
theorem dX7_feed_71 : decode cX7_feed 71 = .ok (.goto (-40), 3) := by decide +kernel
theorem dX7_feed_74 : decode cX7_feed 74 = .ok (.aload_n 0, 1) := by decide +kernel
theorem dX7_feed_75 : decode cX7_feed 75 = .ok (.getfield 148, 3) := by decide +kernel
theorem dX7_feed_78 : decode cX7_feed 78 = .ok (.ireturn, 1) := by decide +kernel
theorem dX7_end_0 : decode cX7_end 0 = .ok (.aload_n 0, 1) := by decide +kernel
theorem dX7_end_1 : decode cX7_end 1 = .ok (.iload_n 1, 1) := by decide +kernel
theorem dX7_end_2 : decode cX7_end 2 = .ok (.ifCond .lt 11, 3) := by decide +kernel
theorem dX7_end_5 : decode cX7_end 5 = .ok (.iload_n 1, 1) := by decide +kernel
theorem dX7_end_6 : decode cX7_end 6 = .ok (.aload_n 0, 1) := by decide +kernel
theorem dX7_end_7 : decode cX7_end 7 = .ok (.getfield 148, 3) := by decide +kernel
theorem dX7_end_10 : decode cX7_end 10 = .ok (.if_icmp .le 7, 3) := by decide +kernel
theorem dX7_end_13 : decode cX7_end 13 = .ok (.iconst 1, 1) := by decide +kernel
theorem dX7_end_14 : decode cX7_end 14 = .ok (.goto 4, 3) := by decide +kernel
theorem dX7_end_17 : decode cX7_end 17 = .ok (.iconst 0, 1) := by decide +kernel
theorem dX7_end_18 : decode cX7_end 18 = .ok (.putfield 66, 3) := by decide +kernel
theorem dX7_end_21 : decode cX7_end 21 = .ok (.aload_n 0, 1) := by decide +kernel
theorem dX7_end_22 : decode cX7_end 22 = .ok (.aload_n 0, 1) := by decide +kernel
theorem dX7_end_23 : decode cX7_end 23 = .ok (.getfield 66, 3) := by decide +kernel
theorem dX7_end_26 : decode cX7_end 26 = .ok (.ifCond .le 10, 3) := by decide +kernel
theorem dX7_end_29 : decode cX7_end 29 = .ok (.aload_n 0, 1) := by decide +kernel
theorem dX7_end_30 : decode cX7_end 30 = .ok (.getfield 148, 3) := by decide +kernel
theorem dX7_end_33 : decode cX7_end 33 = .ok (.goto 4, 3) := by decide +kernel
theorem dX7_end_36 : decode cX7_end 36 = .ok (.iload_n 1, 1) := by decide +kernel
theorem dX7_end_37 : decode cX7_end 37 = .ok (.putfield 148, 3) := by decide +kernel
theorem dX7_end_40 : decode cX7_end 40 = .ok (.return_, 1) := by decide +kernel
theorem dX7_fail_0 : decode cX7_fail 0 = .ok (.aload_n 0, 1) := by decide +kernel
theorem dX7_fail_1 : decode cX7_fail 1 = .ok (.aload_n 0, 1) := by decide +kernel
theorem dX7_fail_2 : decode cX7_fail 2 = .ok (.getfield 151, 3) := by decide +kernel
theorem dX7_fail_5 : decode cX7_fail 5 = .ok (.iconst (-1), 1) := by decide +kernel
theorem dX7_fail_6 : decode cX7_fail 6 = .ok (.if_icmp .ne 10, 3) := by decide +kernel
theorem dX7_fail_9 : decode cX7_fail 9 = .ok (.aload_n 0, 1) := by decide +kernel
theorem dX7_fail_10 : decode cX7_fail 10 = .ok (.getfield 154, 3) := by decide +kernel
theorem dX7_fail_13 : decode cX7_fail 13 = .ok (.goto 7, 3) := by decide +kernel
theorem dX7_fail_16 : decode cX7_fail 16 = .ok (.aload_n 0, 1) := by decide +kernel
theorem dX7_fail_17 : decode cX7_fail 17 = .ok (.getfield 151, 3) := by decide +kernel
theorem dX7_fail_20 : decode cX7_fail 20 = .ok (.putfield 151, 3) := by decide +kernel
theorem dX7_fail_23 : decode cX7_fail 23 = .ok (.return_, 1) := by decide +kernel
set_option maxRecDepth 20000 in
theorem ggX7_count_X7_fail : GoodIn wsX7_count wsX7_fail := goodIn_r _ [12, 5, 2, 13, 14, 15, 16, 17, 18, 19, 20, 21, 22, 23, 24, 25, 26, 27, 28, 29, 30, 31, 32, 33, 34, 35, 36, 37, 38, 39, 40, 41, 42, 43, 44, 45] (by decide +kernel) (by decide +kernel)
set_option maxRecDepth 20000 in
theorem gX7_count_X7_fail : GoodIn wsX7_count (wsV RX7 160 RX7 yX7_fail wsX7_fail) := goodIn_app (goodIn_of _ (by decide +kernel)) ggX7_count_X7_fail
theorem dX7_count_0 : decode cX7_count 0 = .ok (.aload_n 0, 1) := by decide +kernel
theorem dX7_count_1 : decode cX7_count 1 = .ok (.aload_n 0, 1) := by decide +kernel
theorem dX7_count_2 : decode cX7_count 2 = .ok (.getfield 157, 3) := by decide +kernel
theorem dX7_count_5 : decode cX7_count 5 = .ok (.putfield 154, 3) := by decide +kernel
theorem dX7_count_8 : decode cX7_count 8 = .ok (.aload_n 0, 1) := by decide +kernel
theorem dX7_count_9 : decode cX7_count 9 = .ok (.getfield 157, 3) := by decide +kernel
theorem dX7_count_12 : decode cX7_count 12 = .ok (.istore_n 1, 1) := by decide +kernel
theorem dX7_count_13 : decode cX7_count 13 = .ok (.iload_n 1, 1) := by decide +kernel
theorem dX7_count_14 : decode cX7_count 14 = .ok (.aload_n 0, 1) := by decide +kernel
theorem dX7_count_15 : decode cX7_count 15 = .ok (.getfield 148, 3) := by decide +kernel
theorem dX7_count_18 : decode cX7_count 18 = .ok (.if_icmp .ge 20, 3) := by decide +kernel
theorem dX7_count_21 : decode cX7_count 21 = .ok (.aload_n 0, 1) := by decide +kernel
theorem dX7_count_22 : decode cX7_count 22 = .ok (.getfield 45, 3) := by decide +kernel
theorem dX7_count_25 : decode cX7_count 25 = .ok (.iload_n 1, 1) := by decide +kernel
theorem dX7_count_26 : decode cX7_count 26 = .ok (.iaload, 1) := by decide +kernel
theorem dX7_count_27 : decode cX7_count 27 = .ok (.bipush 127, 2) := by decide +kernel
theorem dX7_count_29 : decode cX7_count 29 = .ok (.if_icmp .le 9, 3) := by decide +kernel
theorem dX7_count_32 : decode cX7_count 32 = .ok (.iinc 1 1, 3) := by decide +kernel
theorem dX7_count_35 : decode cX7_count 35 = .ok (.goto (-22), 3) := by decide +kernel
theorem dX7_count_38 : decode cX7_count 38 = .ok (.iload_n 1, 1) := by decide +kernel
theorem dX7_count_39 : decode cX7_count 39 = .ok (.aload_n 0, 1) := by decide +kernel
theorem dX7_count_40 : decode cX7_count 40 = .ok (.getfield 157, 3) := by decide +kernel
theorem dX7_count_43 : decode cX7_count 43 = .ok (.isub, 1) := by decide +kernel
theorem dX7_count_44 : decode cX7_count 44 = .ok (.iconst 1, 1) := by decide +kernel
theorem dX7_count_45 : decode cX7_count 45 = .ok (.iadd, 1) := by decide +kernel
theorem dX7_count_46 : decode cX7_count 46 = .ok (.istore_n 2, 1) := by decide +kernel
theorem dX7_count_47 : decode cX7_count 47 = .ok (.iload_n 2, 1) := by decide +kernel
theorem dX7_count_48 : decode cX7_count 48 = .ok (.bipush 9, 2) := by decide +kernel
theorem dX7_count_50 : decode cX7_count 50 = .ok (.if_icmp .le 23, 3) := by decide +kernel
theorem dX7_count_53 : decode cX7_count 53 = .ok (.aload_n 0, 1) := by decide +kernel
theorem dX7_count_54 : decode cX7_count 54 = .ok (.getfield 157, 3) := by decide +kernel
theorem dX7_count_57 : decode cX7_count 57 = .ok (.bipush 9, 2) := by decide +kernel
theorem dX7_count_59 : decode cX7_count 59 = .ok (.iadd, 1) := by decide +kernel
theorem dX7_count_60 : decode cX7_count 60 = .ok (.aload_n 0, 1) := by decide +kernel
theorem dX7_count_61 : decode cX7_count 61 = .ok (.getfield 148, 3) := by decide +kernel
theorem dX7_count_64 : decode cX7_count 64 = .ok (.if_icmp .ge 9, 3) := by decide +kernel
theorem dX7_count_67 : decode cX7_count 67 = .ok (.aload_n 0, 1) := by decide +kernel
theorem dX7_count_68 : decode cX7_count 68 = .ok (.invokevirtual 160, 3) := by decide +kernel
theorem dX7_count_71 : decode cX7_count 71 = .ok (.lconst 0, 1) := by decide +kernel
theorem dX7_count_72 : decode cX7_count 72 = .ok (.lreturn, 1) := by decide +kernel
theorem dX7_count_73 : decode cX7_count 73 = .ok (.iload_n 1, 1) := by decide +kernel
theorem dX7_count_74 : decode cX7_count 74 = .ok (.aload_n 0, 1) := by decide +kernel
theorem dX7_count_75 : decode cX7_count 75 = .ok (.getfield 148, 3) := by decide +kernel
theorem dX7_count_78 : decode cX7_count 78 = .ok (.if_icmp .ne 28, 3) := by decide +kernel
theorem dX7_count_81 : decode cX7_count 81 = .ok (.aload_n 0, 1) := by decide +kernel
theorem dX7_count_82 : decode cX7_count 82 = .ok (.aload_n 0, 1) := by decide +kernel
theorem dX7_count_83 : decode cX7_count 83 = .ok (.getfield 151, 3) := by decide +kernel
theorem dX7_count_86 : decode cX7_count 86 = .ok (.iconst (-1), 1) := by decide +kernel
theorem dX7_count_87 : decode cX7_count 87 = .ok (.if_icmp .ne 10, 3) := by decide +kernel
theorem dX7_count_90 : decode cX7_count 90 = .ok (.aload_n 0, 1) := by decide +kernel
theorem dX7_count_91 : decode cX7_count 91 = .ok (.getfield 148, 3) := by decide +kernel
theorem dX7_count_94 : decode cX7_count 94 = .ok (.goto 7, 3) := by decide +kernel
theorem dX7_count_97 : decode cX7_count 97 = .ok (.aload_n 0, 1) := by decide +kernel
theorem dX7_count_98 : decode cX7_count 98 = .ok (.getfield 151, 3) := by decide +kernel
theorem dX7_count_101 : decode cX7_count 101 = .ok (.putfield 151, 3) := by decide +kernel
theorem dX7_count_104 : decode cX7_count 104 = .ok (.lconst 0, 1) := by decide +kernel
theorem dX7_count_105 : decode cX7_count 105 = .ok (.lreturn, 1) := by decide +kernel
theorem dX7_count_106 : decode cX7_count 106 = .ok (.lconst 0, 1) := by decide +kernel
theorem dX7_count_107 : decode cX7_count 107 = .ok (.lstore_n 3, 1) := by decide +kernel
theorem dX7_count_108 : decode cX7_count 108 = .ok (.iload_n 1, 1) := by decide +kernel
theorem dX7_count_109 : decode cX7_count 109 = .ok (.istore 5, 2) := by decide +kernel
theorem dX7_count_111 : decode cX7_count 111 = .ok (.iload 5, 2) := by decide +kernel
theorem dX7_count_113 : decode cX7_count 113 = .ok (.aload_n 0, 1) := by decide +kernel
theorem dX7_count_114 : decode cX7_count 114 = .ok (.getfield 157, 3) := by decide +kernel
theorem dX7_count_117 : decode cX7_count 117 = .ok (.if_icmp .lt 28, 3) := by decide +kernel
theorem dX7_count_120 : decode cX7_count 120 = .ok (.ldc2_w 81, 3) := by decide +kernel
theorem dX7_count_123 : decode cX7_count 123 = .ok (.lload_n 3, 1) := by decide +kernel
theorem dX7_count_124 : decode cX7_count 124 = .ok (.lmul, 1) := by decide +kernel
theorem dX7_count_125 : decode cX7_count 125 = .ok (.aload_n 0, 1) := by decide +kernel
theorem dX7_count_126 : decode cX7_count 126 = .ok (.getfield 45, 3) := by decide +kernel
theorem dX7_count_129 : decode cX7_count 129 = .ok (.iload 5, 2) := by decide +kernel
theorem dX7_count_131 : decode cX7_count 131 = .ok (.iaload, 1) := by decide +kernel
theorem dX7_count_132 : decode cX7_count 132 = .ok (.sipush 128, 3) := by decide +kernel
theorem dX7_count_135 : decode cX7_count 135 = .ok (.irem, 1) := by decide +kernel
theorem dX7_count_136 : decode cX7_count 136 = .ok (.i2l, 1) := by decide +kernel
theorem dX7_count_137 : decode cX7_count 137 = .ok (.ladd, 1) := by decide +kernel
theorem dX7_count_138 : decode cX7_count 138 = .ok (.lstore_n 3, 1) := by decide +kernel
theorem dX7_count_139 : decode cX7_count 139 = .ok (.iinc 5 (-1), 3) := by decide +kernel
theorem dX7_count_142 : decode cX7_count 142 = .ok (.goto (-31), 3) := by decide +kernel
theorem dX7_count_145 : decode cX7_count 145 = .ok (.iload_n 2, 1) := by decide +kernel
theorem dX7_count_146 : decode cX7_count 146 = .ok (.iconst 1, 1) := by decide +kernel
theorem dX7_count_147 : decode cX7_count 147 = .ok (.if_icmp .le 12, 3) := by decide +kernel
theorem dX7_count_150 : decode cX7_count 150 = .ok (.aload_n 0, 1) := by decide +kernel
theorem dX7_count_151 : decode cX7_count 151 = .ok (.getfield 45, 3) := by decide +kernel
theorem dX7_count_154 : decode cX7_count 154 = .ok (.iload_n 1, 1) := by decide +kernel
theorem dX7_count_155 : decode cX7_count 155 = .ok (.iaload, 1) := by decide +kernel
theorem dX7_count_156 : decode cX7_count 156 = .ok (.ifCond .eq 11, 3) := by decide +kernel
theorem dX7_count_159 : decode cX7_count 159 = .ok (.lload_n 3, 1) := by decide +kernel
theorem dX7_count_160 : decode cX7_count 160 = .ok (.ldc2_w 163, 3) := by decide +kernel
theorem dX7_count_163 : decode cX7_count 163 = .ok (.lcmp, 1) := by decide +kernel
theorem dX7_count_164 : decode cX7_count 164 = .ok (.ifCond .lt 7, 3) := by decide +kernel
theorem dX7_count_167 : decode cX7_count 167 = .ok (.aload_n 0, 1) := by decide +kernel
theorem dX7_count_168 : decode cX7_count 168 = .ok (.invokevirtual 160, 3) := by decide +kernel
theorem dX7_count_171 : decode cX7_count 171 = .ok (.aload_n 0, 1) := by decide +kernel
theorem dX7_count_172 : decode cX7_count 172 = .ok (.iload_n 1, 1) := by decide +kernel
theorem dX7_count_173 : decode cX7_count 173 = .ok (.iconst 1, 1) := by decide +kernel
theorem dX7_count_174 : decode cX7_count 174 = .ok (.iadd, 1) := by decide +kernel
theorem dX7_count_175 : decode cX7_count 175 = .ok (.putfield 157, 3) := by decide +kernel
theorem dX7_count_178 : decode cX7_count 178 = .ok (.lload_n 3, 1) := by decide +kernel
theorem dX7_count_179 : decode cX7_count 179 = .ok (.lreturn, 1) := by decide +kernel
set_option maxRecDepth 20000 in
theorem ggX7_readMoment_X7_count : GoodIn wsX7_readMoment wsX7_count := goodIn_r _ [21, 22, 23, 24, 25, 6, 26, 27, 28, 29, 30, 20, 31, 32, 33, 34, 35, 36, 37, 38, 39, 40, 41, 42, 43, 44, 45, 46, 47, 48, 49, 50, 51, 52, 53, 54, 55, 56, 57, 58, 59, 60, 61, 62, 63, 64] (by decide +kernel) (by decide +kernel)
set_option maxRecDepth 20000 in
theorem gX7_readMoment_X7_count : GoodIn wsX7_readMoment (wsV RX7 168 RX7 yX7_count wsX7_count) := goodIn_app (goodIn_of _ (by decide +kernel)) ggX7_readMoment_X7_count
set_option maxRecDepth 20000 in
theorem ggX7_readMoment_X7_fail : GoodIn wsX7_readMoment wsX7_fail := goodIn_r _ [31, 6, 23, 32, 33, 34, 35, 36, 37, 38, 39, 40, 41, 42, 43, 44, 45, 46, 47, 48, 49, 50, 51, 52, 53, 54, 55, 56, 57, 58, 59, 60, 61, 62, 63, 64] (by decide +kernel) (by decide +kernel)
set_option maxRecDepth 20000 in
theorem gX7_readMoment_X7_fail : GoodIn wsX7_readMoment (wsV RX7 160 RX7 yX7_fail wsX7_fail) := goodIn_app (goodIn_of _ (by decide +kernel)) ggX7_readMoment_X7_fail
theorem dX7_readMoment_0 : decode cX7_readMoment 0 = .ok (.aload_n 0, 1) := by decide +kernel
theorem dX7_readMoment_1 : decode cX7_readMoment 1 = .ok (.getfield 165, 3) := by decide +kernel
theorem dX7_readMoment_4 : decode cX7_readMoment 4 = .ok (.ifCond .ne 7, 3) := by decide +kernel
theorem dX7_readMoment_7 : decode cX7_readMoment 7 = .ok (.lconst 0, 1) := by decide +kernel
theorem dX7_readMoment_8 : decode cX7_readMoment 8 = .ok (.goto 14, 3) := by decide +kernel
theorem dX7_readMoment_11 : decode cX7_readMoment 11 = .ok (.aload_n 0, 1) := by decide +kernel
theorem dX7_readMoment_12 : decode cX7_readMoment 12 = .ok (.getfield 51, 3) := by decide +kernel
theorem dX7_readMoment_15 : decode cX7_readMoment 15 = .ok (.aload_n 0, 1) := by decide +kernel
theorem dX7_readMoment_16 : decode cX7_readMoment 16 = .ok (.getfield 165, 3) := by decide +kernel
theorem dX7_readMoment_19 : decode cX7_readMoment 19 = .ok (.iconst 1, 1) := by decide +kernel
theorem dX7_readMoment_20 : decode cX7_readMoment 20 = .ok (.isub, 1) := by decide +kernel
theorem dX7_readMoment_21 : decode cX7_readMoment 21 = .ok (.laload, 1) := by decide +kernel
theorem dX7_readMoment_22 : decode cX7_readMoment 22 = .ok (.lstore_n 1, 1) := by decide +kernel
theorem dX7_readMoment_23 : decode cX7_readMoment 23 = .ok (.aload_n 0, 1) := by decide +kernel
theorem dX7_readMoment_24 : decode cX7_readMoment 24 = .ok (.getfield 165, 3) := by decide +kernel
theorem dX7_readMoment_27 : decode cX7_readMoment 27 = .ok (.ifCond .ne 9, 3) := by decide +kernel
theorem dX7_readMoment_30 : decode cX7_readMoment 30 = .ok (.ldc2_w 91, 3) := by decide +kernel
theorem dX7_readMoment_33 : decode cX7_readMoment 33 = .ok (.goto 14, 3) := by decide +kernel
theorem dX7_readMoment_36 : decode cX7_readMoment 36 = .ok (.aload_n 0, 1) := by decide +kernel
theorem dX7_readMoment_37 : decode cX7_readMoment 37 = .ok (.getfield 54, 3) := by decide +kernel
theorem dX7_readMoment_40 : decode cX7_readMoment 40 = .ok (.aload_n 0, 1) := by decide +kernel
theorem dX7_readMoment_41 : decode cX7_readMoment 41 = .ok (.getfield 165, 3) := by decide +kernel
theorem dX7_readMoment_44 : decode cX7_readMoment 44 = .ok (.iconst 1, 1) := by decide +kernel
theorem dX7_readMoment_45 : decode cX7_readMoment 45 = .ok (.isub, 1) := by decide +kernel
theorem dX7_readMoment_46 : decode cX7_readMoment 46 = .ok (.laload, 1) := by decide +kernel
theorem dX7_readMoment_47 : decode cX7_readMoment 47 = .ok (.lstore_n 3, 1) := by decide +kernel
theorem dX7_readMoment_48 : decode cX7_readMoment 48 = .ok (.aload_n 0, 1) := by decide +kernel
theorem dX7_readMoment_49 : decode cX7_readMoment 49 = .ok (.invokevirtual 168, 3) := by decide +kernel
theorem dX7_readMoment_52 : decode cX7_readMoment 52 = .ok (.lstore 5, 2) := by decide +kernel
theorem dX7_readMoment_54 : decode cX7_readMoment 54 = .ok (.lload 5, 2) := by decide +kernel
theorem dX7_readMoment_56 : decode cX7_readMoment 56 = .ok (.ldc2_w 101, 3) := by decide +kernel
theorem dX7_readMoment_59 : decode cX7_readMoment 59 = .ok (.ldiv, 1) := by decide +kernel
theorem dX7_readMoment_60 : decode cX7_readMoment 60 = .ok (.lstore 7, 2) := by decide +kernel
theorem dX7_readMoment_62 : decode cX7_readMoment 62 = .ok (.aload_n 0, 1) := by decide +kernel
theorem dX7_readMoment_63 : decode cX7_readMoment 63 = .ok (.getfield 151, 3) := by decide +kernel
theorem dX7_readMoment_66 : decode cX7_readMoment 66 = .ok (.iconst (-1), 1) := by decide +kernel
theorem dX7_readMoment_67 : decode cX7_readMoment 67 = .ok (.if_icmp .eq 4, 3) := by decide +kernel
theorem dX7_readMoment_70 : decode cX7_readMoment 70 = .ok (.return_, 1) := by decide +kernel
theorem dX7_readMoment_71 : decode cX7_readMoment 71 = .ok (.lload 5, 2) := by decide +kernel
theorem dX7_readMoment_73 : decode cX7_readMoment 73 = .ok (.ldc2_w 101, 3) := by decide +kernel
theorem dX7_readMoment_76 : decode cX7_readMoment 76 = .ok (.lrem, 1) := by decide +kernel
theorem dX7_readMoment_77 : decode cX7_readMoment 77 = .ok (.lconst 1, 1) := by decide +kernel
theorem dX7_readMoment_78 : decode cX7_readMoment 78 = .ok (.lcmp, 1) := by decide +kernel
theorem dX7_readMoment_79 : decode cX7_readMoment 79 = .ok (.ifCond .ne 11, 3) := by decide +kernel
theorem dX7_readMoment_82 : decode cX7_readMoment 82 = .ok (.lload_n 3, 1) := by decide +kernel
theorem dX7_readMoment_83 : decode cX7_readMoment 83 = .ok (.lload 7, 2) := by decide +kernel
theorem dX7_readMoment_85 : decode cX7_readMoment 85 = .ok (.ladd, 1) := by decide +kernel
theorem dX7_readMoment_86 : decode cX7_readMoment 86 = .ok (.lstore_n 3, 1) := by decide +kernel
theorem dX7_readMoment_87 : decode cX7_readMoment 87 = .ok (.goto 8, 3) := by decide +kernel
theorem dX7_readMoment_90 : decode cX7_readMoment 90 = .ok (.lload_n 1, 1) := by decide +kernel
theorem dX7_readMoment_91 : decode cX7_readMoment 91 = .ok (.lload 7, 2) := by decide +kernel
theorem dX7_readMoment_93 : decode cX7_readMoment 93 = .ok (.ladd, 1) := by decide +kernel
theorem dX7_readMoment_94 : decode cX7_readMoment 94 = .ok (.lstore_n 1, 1) := by decide +kernel
theorem dX7_readMoment_95 : decode cX7_readMoment 95 = .ok (.lload 7, 2) := by decide +kernel
theorem dX7_readMoment_97 : decode cX7_readMoment 97 = .ok (.lconst 0, 1) := by decide +kernel
theorem dX7_readMoment_98 : decode cX7_readMoment 98 = .ok (.lcmp, 1) := by decide +kernel
theorem dX7_readMoment_99 : decode cX7_readMoment 99 = .ok (.ifCond .eq 19, 3) := by decide +kernel
theorem dX7_readMoment_102 : decode cX7_readMoment 102 = .ok (.lload_n 1, 1) := by decide +kernel
theorem dX7_readMoment_103 : decode cX7_readMoment 103 = .ok (.ldc2_w 136, 3) := by decide +kernel
theorem dX7_readMoment_106 : decode cX7_readMoment 106 = .ok (.lcmp, 1) := by decide +kernel
theorem dX7_readMoment_107 : decode cX7_readMoment 107 = .ok (.ifCond .ge 11, 3) := by decide +kernel
theorem dX7_readMoment_110 : decode cX7_readMoment 110 = .ok (.lload_n 3, 1) := by decide +kernel
theorem dX7_readMoment_111 : decode cX7_readMoment 111 = .ok (.ldc2_w 136, 3) := by decide +kernel
theorem dX7_readMoment_114 : decode cX7_readMoment 114 = .ok (.lcmp, 1) := by decide +kernel
theorem dX7_readMoment_115 : decode cX7_readMoment 115 = .ok (.ifCond .lt 8, 3) := by decide +kernel
theorem dX7_readMoment_118 : decode cX7_readMoment 118 = .ok (.aload_n 0, 1) := by decide +kernel
theorem dX7_readMoment_119 : decode cX7_readMoment 119 = .ok (.invokevirtual 160, 3) := by decide +kernel
theorem dX7_readMoment_122 : decode cX7_readMoment 122 = .ok (.return_, 1) := by decide +kernel
theorem dX7_readMoment_123 : decode cX7_readMoment 123 = .ok (.lload 5, 2) := by decide +kernel
theorem dX7_readMoment_125 : decode cX7_readMoment 125 = .ok (.ldc2_w 101, 3) := by decide +kernel
theorem dX7_readMoment_128 : decode cX7_readMoment 128 = .ok (.lrem, 1) := by decide +kernel
theorem dX7_readMoment_129 : decode cX7_readMoment 129 = .ok (.lconst 0, 1) := by decide +kernel
theorem dX7_readMoment_130 : decode cX7_readMoment 130 = .ok (.lcmp, 1) := by decide +kernel
theorem dX7_readMoment_131 : decode cX7_readMoment 131 = .ok (.ifCond .ne 29, 3) := by decide +kernel
theorem dX7_readMoment_134 : decode cX7_readMoment 134 = .ok (.aload_n 0, 1) := by decide +kernel
theorem dX7_readMoment_135 : decode cX7_readMoment 135 = .ok (.invokevirtual 168, 3) := by decide +kernel
theorem dX7_readMoment_138 : decode cX7_readMoment 138 = .ok (.lstore_n 3, 1) := by decide +kernel
theorem dX7_readMoment_139 : decode cX7_readMoment 139 = .ok (.lload_n 3, 1) := by decide +kernel
theorem dX7_readMoment_140 : decode cX7_readMoment 140 = .ok (.ldc2_w 136, 3) := by decide +kernel
theorem dX7_readMoment_143 : decode cX7_readMoment 143 = .ok (.lcmp, 1) := by decide +kernel
theorem dX7_readMoment_144 : decode cX7_readMoment 144 = .ok (.ifCond .lt 7, 3) := by decide +kernel
theorem dX7_readMoment_147 : decode cX7_readMoment 147 = .ok (.aload_n 0, 1) := by decide +kernel
theorem dX7_readMoment_148 : decode cX7_readMoment 148 = .ok (.invokevirtual 160, 3) := by decide +kernel
theorem dX7_readMoment_151 : decode cX7_readMoment 151 = .ok (.aload_n 0, 1) := by decide +kernel
theorem dX7_readMoment_152 : decode cX7_readMoment 152 = .ok (.getfield 151, 3) := by decide +kernel
theorem dX7_readMoment_155 : decode cX7_readMoment 155 = .ok (.iconst (-1), 1) := by decide +kernel
theorem dX7_readMoment_156 : decode cX7_readMoment 156 = .ok (.if_icmp .eq 4, 3) := by decide +kernel
theorem dX7_readMoment_159 : decode cX7_readMoment 159 = .ok (.return_, 1) := by decide +kernel
theorem dX7_readMoment_160 : decode cX7_readMoment 160 = .ok (.aload_n 0, 1) := by decide +kernel
theorem dX7_readMoment_161 : decode cX7_readMoment 161 = .ok (.invokevirtual 168, 3) := by decide +kernel
theorem dX7_readMoment_164 : decode cX7_readMoment 164 = .ok (.lstore 9, 2) := by decide +kernel
theorem dX7_readMoment_166 : decode cX7_readMoment 166 = .ok (.lload 9, 2) := by decide +kernel
theorem dX7_readMoment_168 : decode cX7_readMoment 168 = .ok (.lconst 0, 1) := by decide +kernel
theorem dX7_readMoment_169 : decode cX7_readMoment 169 = .ok (.lcmp, 1) := by decide +kernel
theorem dX7_readMoment_170 : decode cX7_readMoment 170 = .ok (.ifCond .ne 7, 3) := by decide +kernel
theorem dX7_readMoment_173 : decode cX7_readMoment 173 = .ok (.aload_n 0, 1) := by decide +kernel
theorem dX7_readMoment_174 : decode cX7_readMoment 174 = .ok (.invokevirtual 160, 3) := by decide +kernel
theorem dX7_readMoment_177 : decode cX7_readMoment 177 = .ok (.aload_n 0, 1) := by decide +kernel
theorem dX7_readMoment_178 : decode cX7_readMoment 178 = .ok (.getfield 51, 3) := by decide +kernel
theorem dX7_readMoment_181 : decode cX7_readMoment 181 = .ok (.aload_n 0, 1) := by decide +kernel
theorem dX7_readMoment_182 : decode cX7_readMoment 182 = .ok (.getfield 165, 3) := by decide +kernel
theorem dX7_readMoment_185 : decode cX7_readMoment 185 = .ok (.lload_n 1, 1) := by decide +kernel
theorem dX7_readMoment_186 : decode cX7_readMoment 186 = .ok (.lastore, 1) := by decide +kernel
theorem dX7_readMoment_187 : decode cX7_readMoment 187 = .ok (.aload_n 0, 1) := by decide +kernel
theorem dX7_readMoment_188 : decode cX7_readMoment 188 = .ok (.getfield 54, 3) := by decide +kernel
theorem dX7_readMoment_191 : decode cX7_readMoment 191 = .ok (.aload_n 0, 1) := by decide +kernel
theorem dX7_readMoment_192 : decode cX7_readMoment 192 = .ok (.getfield 165, 3) := by decide +kernel
theorem dX7_readMoment_195 : decode cX7_readMoment 195 = .ok (.lload_n 3, 1) := by decide +kernel
theorem dX7_readMoment_196 : decode cX7_readMoment 196 = .ok (.lastore, 1) := by decide +kernel
theorem dX7_readMoment_197 : decode cX7_readMoment 197 = .ok (.aload_n 0, 1) := by decide +kernel
theorem dX7_readMoment_198 : decode cX7_readMoment 198 = .ok (.getfield 57, 3) := by decide +kernel
theorem dX7_readMoment_201 : decode cX7_readMoment 201 = .ok (.aload_n 0, 1) := by decide +kernel
theorem dX7_readMoment_202 : decode cX7_readMoment 202 = .ok (.getfield 165, 3) := by decide +kernel
theorem dX7_readMoment_205 : decode cX7_readMoment 205 = .ok (.iconst 0, 1) := by decide +kernel
theorem dX7_readMoment_206 : decode cX7_readMoment 206 = .ok (.iastore, 1) := by decide +kernel
theorem dX7_readMoment_207 : decode cX7_readMoment 207 = .ok (.iconst (-1), 1) := by decide +kernel
theorem dX7_readMoment_208 : decode cX7_readMoment 208 = .ok (.istore 11, 2) := by decide +kernel
theorem dX7_readMoment_210 : decode cX7_readMoment 210 = .ok (.lconst 0, 1) := by decide +kernel
theorem dX7_readMoment_211 : decode cX7_readMoment 211 = .ok (.lstore 12, 2) := by decide +kernel
theorem dX7_readMoment_213 : decode cX7_readMoment 213 = .ok (.lload 12, 2) := by decide +kernel
theorem dX7_readMoment_215 : decode cX7_readMoment 215 = .ok (.lload 9, 2) := by decide +kernel
theorem dX7_readMoment_217 : decode cX7_readMoment 217 = .ok (.lcmp, 1) := by decide +kernel
theorem dX7_readMoment_218 : decode cX7_readMoment 218 = .ok (.ifCond .ge 251, 3) := by decide +kernel
theorem dX7_readMoment_221 : decode cX7_readMoment 221 = .ok (.aload_n 0, 1) := by decide +kernel
theorem dX7_readMoment_222 : decode cX7_readMoment 222 = .ok (.getfield 151, 3) := by decide +kernel
theorem dX7_readMoment_225 : decode cX7_readMoment 225 = .ok (.iconst (-1), 1) := by decide +kernel
theorem dX7_readMoment_226 : decode cX7_readMoment 226 = .ok (.if_icmp .ne 243, 3) := by decide +kernel
theorem dX7_readMoment_229 : decode cX7_readMoment 229 = .ok (.aload_n 0, 1) := by decide +kernel
theorem dX7_readMoment_230 : decode cX7_readMoment 230 = .ok (.invokevirtual 168, 3) := by decide +kernel
theorem dX7_readMoment_233 : decode cX7_readMoment 233 = .ok (.iload 11, 2) := by decide +kernel
theorem dX7_readMoment_235 : decode cX7_readMoment 235 = .ok (.ifCond .ge 7, 3) := by decide +kernel
theorem dX7_readMoment_238 : decode cX7_readMoment 238 = .ok (.lconst 0, 1) := by decide +kernel
theorem dX7_readMoment_239 : decode cX7_readMoment 239 = .ok (.goto 9, 3) := by decide +kernel
theorem dX7_readMoment_242 : decode cX7_readMoment 242 = .ok (.iload 11, 2) := by decide +kernel
theorem dX7_readMoment_244 : decode cX7_readMoment 244 = .ok (.bipush 64, 2) := by decide +kernel
theorem dX7_readMoment_246 : decode cX7_readMoment 246 = .ok (.idiv, 1) := by decide +kernel
theorem dX7_readMoment_247 : decode cX7_readMoment 247 = .ok (.i2l, 1) := by decide +kernel
theorem dX7_readMoment_248 : decode cX7_readMoment 248 = .ok (.ladd, 1) := by decide +kernel
theorem dX7_readMoment_249 : decode cX7_readMoment 249 = .ok (.lstore 14, 2) := by decide +kernel
theorem dX7_readMoment_251 : decode cX7_readMoment 251 = .ok (.lload 14, 2) := by decide +kernel
theorem dX7_readMoment_253 : decode cX7_readMoment 253 = .ok (.aload_n 0, 1) := by decide +kernel
theorem dX7_readMoment_254 : decode cX7_readMoment 254 = .ok (.getfield 70, 3) := by decide +kernel
theorem dX7_readMoment_257 : decode cX7_readMoment 257 = .ok (.i2l, 1) := by decide +kernel
theorem dX7_readMoment_258 : decode cX7_readMoment 258 = .ok (.lcmp, 1) := by decide +kernel
theorem dX7_readMoment_259 : decode cX7_readMoment 259 = .ok (.ifCond .lt 7, 3) := by decide +kernel
theorem dX7_readMoment_262 : decode cX7_readMoment 262 = .ok (.aload_n 0, 1) := by decide +kernel
theorem dX7_readMoment_263 : decode cX7_readMoment 263 = .ok (.invokevirtual 160, 3) := by decide +kernel
theorem dX7_readMoment_266 : decode cX7_readMoment 266 = .ok (.aload_n 0, 1) := by decide +kernel
theorem dX7_readMoment_267 : decode cX7_readMoment 267 = .ok (.getfield 151, 3) := by decide +kernel
theorem dX7_readMoment_270 : decode cX7_readMoment 270 = .ok (.iconst (-1), 1) := by decide +kernel
theorem dX7_readMoment_271 : decode cX7_readMoment 271 = .ok (.if_icmp .eq 4, 3) := by decide +kernel
theorem dX7_readMoment_274 : decode cX7_readMoment 274 = .ok (.return_, 1) := by decide +kernel
theorem dX7_readMoment_275 : decode cX7_readMoment 275 = .ok (.aload_n 0, 1) := by decide +kernel
theorem dX7_readMoment_276 : decode cX7_readMoment 276 = .ok (.invokevirtual 168, 3) := by decide +kernel
theorem dX7_readMoment_279 : decode cX7_readMoment 279 = .ok (.lstore 16, 2) := by decide +kernel
theorem dX7_readMoment_281 : decode cX7_readMoment 281 = .ok (.aload_n 0, 1) := by decide +kernel
theorem dX7_readMoment_282 : decode cX7_readMoment 282 = .ok (.getfield 151, 3) := by decide +kernel
theorem dX7_readMoment_285 : decode cX7_readMoment 285 = .ok (.iconst (-1), 1) := by decide +kernel
theorem dX7_readMoment_286 : decode cX7_readMoment 286 = .ok (.if_icmp .eq 4, 3) := by decide +kernel
theorem dX7_readMoment_289 : decode cX7_readMoment 289 = .ok (.return_, 1) := by decide +kernel
theorem dX7_readMoment_290 : decode cX7_readMoment 290 = .ok (.lload 16, 2) := by decide +kernel
theorem dX7_readMoment_292 : decode cX7_readMoment 292 = .ok (.ldc2_w 112, 3) := by decide +kernel
theorem dX7_readMoment_295 : decode cX7_readMoment 295 = .ok (.ldiv, 1) := by decide +kernel
theorem dX7_readMoment_296 : decode cX7_readMoment 296 = .ok (.lstore 18, 2) := by decide +kernel
theorem dX7_readMoment_298 : decode cX7_readMoment 298 = .ok (.lload 16, 2) := by decide +kernel
theorem dX7_readMoment_300 : decode cX7_readMoment 300 = .ok (.ldc2_w 112, 3) := by decide +kernel
theorem dX7_readMoment_303 : decode cX7_readMoment 303 = .ok (.lrem, 1) := by decide +kernel
theorem dX7_readMoment_304 : decode cX7_readMoment 304 = .ok (.l2i, 1) := by decide +kernel
theorem dX7_readMoment_305 : decode cX7_readMoment 305 = .ok (.istore 20, 2) := by decide +kernel
theorem dX7_readMoment_307 : decode cX7_readMoment 307 = .ok (.lload 18, 2) := by decide +kernel
theorem dX7_readMoment_309 : decode cX7_readMoment 309 = .ok (.aload_n 0, 1) := by decide +kernel
theorem dX7_readMoment_310 : decode cX7_readMoment 310 = .ok (.getfield 7, 3) := by decide +kernel
theorem dX7_readMoment_313 : decode cX7_readMoment 313 = .ok (.lload 14, 2) := by decide +kernel
theorem dX7_readMoment_315 : decode cX7_readMoment 315 = .ok (.l2i, 1) := by decide +kernel
theorem dX7_readMoment_316 : decode cX7_readMoment 316 = .ok (.iaload, 1) := by decide +kernel
theorem dX7_readMoment_317 : decode cX7_readMoment 317 = .ok (.i2l, 1) := by decide +kernel
theorem dX7_readMoment_318 : decode cX7_readMoment 318 = .ok (.lcmp, 1) := by decide +kernel
theorem dX7_readMoment_319 : decode cX7_readMoment 319 = .ok (.ifCond .ge 30, 3) := by decide +kernel
theorem dX7_readMoment_322 : decode cX7_readMoment 322 = .ok (.iload 20, 2) := by decide +kernel
theorem dX7_readMoment_324 : decode cX7_readMoment 324 = .ok (.bipush 9, 2) := by decide +kernel
theorem dX7_readMoment_326 : decode cX7_readMoment 326 = .ok (.if_icmp .ge 23, 3) := by decide +kernel
theorem dX7_readMoment_329 : decode cX7_readMoment 329 = .ok (.ldc2_w 171, 3) := by decide +kernel
theorem dX7_readMoment_332 : decode cX7_readMoment 332 = .ok (.lload 14, 2) := by decide +kernel
theorem dX7_readMoment_334 : decode cX7_readMoment 334 = .ok (.lmul, 1) := by decide +kernel
theorem dX7_readMoment_335 : decode cX7_readMoment 335 = .ok (.lload 18, 2) := by decide +kernel
theorem dX7_readMoment_337 : decode cX7_readMoment 337 = .ok (.ladd, 1) := by decide +kernel
theorem dX7_readMoment_338 : decode cX7_readMoment 338 = .ok (.iload 11, 2) := by decide +kernel
theorem dX7_readMoment_340 : decode cX7_readMoment 340 = .ok (.i2l, 1) := by decide +kernel
theorem dX7_readMoment_341 : decode cX7_readMoment 341 = .ok (.lcmp, 1) := by decide +kernel
theorem dX7_readMoment_342 : decode cX7_readMoment 342 = .ok (.ifCond .le 7, 3) := by decide +kernel
theorem dX7_readMoment_345 : decode cX7_readMoment 345 = .ok (.iconst 1, 1) := by decide +kernel
theorem dX7_readMoment_346 : decode cX7_readMoment 346 = .ok (.goto 4, 3) := by decide +kernel
theorem dX7_readMoment_349 : decode cX7_readMoment 349 = .ok (.iconst 0, 1) := by decide +kernel
theorem dX7_readMoment_350 : decode cX7_readMoment 350 = .ok (.istore 21, 2) := by decide +kernel
theorem dX7_readMoment_352 : decode cX7_readMoment 352 = .ok (.iload 21, 2) := by decide +kernel
theorem dX7_readMoment_354 : decode cX7_readMoment 354 = .ok (.ifCond .eq 27, 3) := by decide +kernel
theorem dX7_readMoment_357 : decode cX7_readMoment 357 = .ok (.aload_n 0, 1) := by decide +kernel
theorem dX7_readMoment_358 : decode cX7_readMoment 358 = .ok (.getfield 48, 3) := by decide +kernel
theorem dX7_readMoment_361 : decode cX7_readMoment 361 = .ok (.ldc2_w 171, 3) := by decide +kernel
theorem dX7_readMoment_364 : decode cX7_readMoment 364 = .ok (.lload 14, 2) := by decide +kernel
theorem dX7_readMoment_366 : decode cX7_readMoment 366 = .ok (.lmul, 1) := by decide +kernel
theorem dX7_readMoment_367 : decode cX7_readMoment 367 = .ok (.lload 18, 2) := by decide +kernel
theorem dX7_readMoment_369 : decode cX7_readMoment 369 = .ok (.ladd, 1) := by decide +kernel
theorem dX7_readMoment_370 : decode cX7_readMoment 370 = .ok (.l2i, 1) := by decide +kernel
theorem dX7_readMoment_371 : decode cX7_readMoment 371 = .ok (.iaload, 1) := by decide +kernel
theorem dX7_readMoment_372 : decode cX7_readMoment 372 = .ok (.iload 20, 2) := by decide +kernel
theorem dX7_readMoment_374 : decode cX7_readMoment 374 = .ok (.if_icmp .eq 7, 3) := by decide +kernel
theorem dX7_readMoment_377 : decode cX7_readMoment 377 = .ok (.iconst 1, 1) := by decide +kernel
theorem dX7_readMoment_378 : decode cX7_readMoment 378 = .ok (.goto 4, 3) := by decide +kernel
theorem dX7_readMoment_381 : decode cX7_readMoment 381 = .ok (.iconst 0, 1) := by decide +kernel
theorem dX7_readMoment_382 : decode cX7_readMoment 382 = .ok (.istore 21, 2) := by decide +kernel
theorem dX7_readMoment_384 : decode cX7_readMoment 384 = .ok (.iload 21, 2) := by decide +kernel
theorem dX7_readMoment_386 : decode cX7_readMoment 386 = .ok (.ifCond .ne 8, 3) := by decide +kernel
theorem dX7_readMoment_389 : decode cX7_readMoment 389 = .ok (.aload_n 0, 1) := by decide +kernel
theorem dX7_readMoment_390 : decode cX7_readMoment 390 = .ok (.invokevirtual 160, 3) := by decide +kernel
theorem dX7_readMoment_393 : decode cX7_readMoment 393 = .ok (.return_, 1) := by decide +kernel
theorem dX7_readMoment_394 : decode cX7_readMoment 394 = .ok (.ldc2_w 171, 3) := by decide +kernel
theorem dX7_readMoment_397 : decode cX7_readMoment 397 = .ok (.lload 14, 2) := by decide +kernel
theorem dX7_readMoment_399 : decode cX7_readMoment 399 = .ok (.lmul, 1) := by decide +kernel
theorem dX7_readMoment_400 : decode cX7_readMoment 400 = .ok (.lload 18, 2) := by decide +kernel
theorem dX7_readMoment_402 : decode cX7_readMoment 402 = .ok (.ladd, 1) := by decide +kernel
theorem dX7_readMoment_403 : decode cX7_readMoment 403 = .ok (.l2i, 1) := by decide +kernel
theorem dX7_readMoment_404 : decode cX7_readMoment 404 = .ok (.istore 11, 2) := by decide +kernel
theorem dX7_readMoment_406 : decode cX7_readMoment 406 = .ok (.aload_n 0, 1) := by decide +kernel
theorem dX7_readMoment_407 : decode cX7_readMoment 407 = .ok (.getfield 48, 3) := by decide +kernel
theorem dX7_readMoment_410 : decode cX7_readMoment 410 = .ok (.iload 11, 2) := by decide +kernel
theorem dX7_readMoment_412 : decode cX7_readMoment 412 = .ok (.iload 20, 2) := by decide +kernel
theorem dX7_readMoment_414 : decode cX7_readMoment 414 = .ok (.iastore, 1) := by decide +kernel
theorem dX7_readMoment_415 : decode cX7_readMoment 415 = .ok (.aload_n 0, 1) := by decide +kernel
theorem dX7_readMoment_416 : decode cX7_readMoment 416 = .ok (.getfield 60, 3) := by decide +kernel
theorem dX7_readMoment_419 : decode cX7_readMoment 419 = .ok (.aload_n 0, 1) := by decide +kernel
theorem dX7_readMoment_420 : decode cX7_readMoment 420 = .ok (.getfield 173, 3) := by decide +kernel
theorem dX7_readMoment_423 : decode cX7_readMoment 423 = .ok (.iload 11, 2) := by decide +kernel
theorem dX7_readMoment_425 : decode cX7_readMoment 425 = .ok (.iastore, 1) := by decide +kernel
theorem dX7_readMoment_426 : decode cX7_readMoment 426 = .ok (.aload_n 0, 1) := by decide +kernel
theorem dX7_readMoment_427 : decode cX7_readMoment 427 = .ok (.getfield 63, 3) := by decide +kernel
theorem dX7_readMoment_430 : decode cX7_readMoment 430 = .ok (.aload_n 0, 1) := by decide +kernel
theorem dX7_readMoment_431 : decode cX7_readMoment 431 = .ok (.getfield 173, 3) := by decide +kernel
theorem dX7_readMoment_434 : decode cX7_readMoment 434 = .ok (.iload 20, 2) := by decide +kernel
theorem dX7_readMoment_436 : decode cX7_readMoment 436 = .ok (.iastore, 1) := by decide +kernel
theorem dX7_readMoment_437 : decode cX7_readMoment 437 = .ok (.aload_n 0, 1) := by decide +kernel
theorem dX7_readMoment_438 : decode cX7_readMoment 438 = .ok (.dup, 1) := by decide +kernel
theorem dX7_readMoment_439 : decode cX7_readMoment 439 = .ok (.getfield 173, 3) := by decide +kernel
theorem dX7_readMoment_442 : decode cX7_readMoment 442 = .ok (.iconst 1, 1) := by decide +kernel
theorem dX7_readMoment_443 : decode cX7_readMoment 443 = .ok (.iadd, 1) := by decide +kernel
theorem dX7_readMoment_444 : decode cX7_readMoment 444 = .ok (.putfield 173, 3) := by decide +kernel
theorem dX7_readMoment_447 : decode cX7_readMoment 447 = .ok (.aload_n 0, 1) := by decide +kernel
theorem dX7_readMoment_448 : decode cX7_readMoment 448 = .ok (.getfield 57, 3) := by decide +kernel
theorem dX7_readMoment_451 : decode cX7_readMoment 451 = .ok (.aload_n 0, 1) := by decide +kernel
theorem dX7_readMoment_452 : decode cX7_readMoment 452 = .ok (.getfield 165, 3) := by decide +kernel
theorem dX7_readMoment_455 : decode cX7_readMoment 455 = .ok (.dup2, 1) := by decide +kernel
theorem dX7_readMoment_456 : decode cX7_readMoment 456 = .ok (.iaload, 1) := by decide +kernel
theorem dX7_readMoment_457 : decode cX7_readMoment 457 = .ok (.iconst 1, 1) := by decide +kernel
theorem dX7_readMoment_458 : decode cX7_readMoment 458 = .ok (.iadd, 1) := by decide +kernel
theorem dX7_readMoment_459 : decode cX7_readMoment 459 = .ok (.iastore, 1) := by decide +kernel
theorem dX7_readMoment_460 : decode cX7_readMoment 460 = .ok (.lload 12, 2) := by decide +kernel
theorem dX7_readMoment_462 : decode cX7_readMoment 462 = .ok (.lconst 1, 1) := by decide +kernel
theorem dX7_readMoment_463 : decode cX7_readMoment 463 = .ok (.ladd, 1) := by decide +kernel
theorem dX7_readMoment_464 : decode cX7_readMoment 464 = .ok (.lstore 12, 2) := by decide +kernel
theorem dX7_readMoment_466 : decode cX7_readMoment 466 = .ok (.goto (-253), 3) := by decide +kernel
theorem dX7_readMoment_469 : decode cX7_readMoment 469 = .ok (.aload_n 0, 1) := by decide +kernel
theorem dX7_readMoment_470 : decode cX7_readMoment 470 = .ok (.aload_n 0, 1) := by decide +kernel
theorem dX7_readMoment_471 : decode cX7_readMoment 471 = .ok (.getfield 151, 3) := by decide +kernel
theorem dX7_readMoment_474 : decode cX7_readMoment 474 = .ok (.iconst (-1), 1) := by decide +kernel
theorem dX7_readMoment_475 : decode cX7_readMoment 475 = .ok (.if_icmp .ne 12, 3) := by decide +kernel
theorem dX7_readMoment_478 : decode cX7_readMoment 478 = .ok (.aload_n 0, 1) := by decide +kernel
theorem dX7_readMoment_479 : decode cX7_readMoment 479 = .ok (.getfield 165, 3) := by decide +kernel
theorem dX7_readMoment_482 : decode cX7_readMoment 482 = .ok (.iconst 1, 1) := by decide +kernel
theorem dX7_readMoment_483 : decode cX7_readMoment 483 = .ok (.iadd, 1) := by decide +kernel
theorem dX7_readMoment_484 : decode cX7_readMoment 484 = .ok (.goto 7, 3) := by decide +kernel
theorem dX7_readMoment_487 : decode cX7_readMoment 487 = .ok (.aload_n 0, 1) := by decide +kernel
theorem dX7_readMoment_488 : decode cX7_readMoment 488 = .ok (.getfield 165, 3) := by decide +kernel
theorem dX7_readMoment_491 : decode cX7_readMoment 491 = .ok (.putfield 165, 3) := by decide +kernel
theorem dX7_readMoment_494 : decode cX7_readMoment 494 = .ok (.return_, 1) := by decide +kernel
set_option maxRecDepth 20000 in
theorem ggX7_load_X7_readMoment : GoodIn wsX7_load wsX7_readMoment := goodIn_r _ [13, 4, 14, 15, 16, 17, 3, 18, 19, 6, 20, 21, 22, 7, 23, 5, 24, 25, 26, 27, 12, 28, 2, 29, 8, 30, 31, 32, 33, 34, 35, 36, 94, 95, 96, 97, 98, 99, 100, 101, 102, 103, 104, 105, 106, 107, 108, 109, 110, 111, 112, 113, 114, 115, 116, 117, 118, 119, 120, 121, 122, 123, 124, 125, 126] (by decide +kernel) (by decide +kernel)
set_option maxRecDepth 20000 in
theorem gX7_load_X7_readMoment : GoodIn wsX7_load (wsV RX7 176 RX7 yX7_readMoment wsX7_readMoment) := goodIn_app (goodIn_of _ (by decide +kernel)) ggX7_load_X7_readMoment
set_option maxRecDepth 20000 in
theorem ggX7_load_X7_again : GoodIn wsX7_load wsX7_again := goodIn_r _ [40, 41, 42, 43, 6, 44, 45, 4, 14, 46, 16, 47, 19, 23, 24, 48, 49, 50, 51, 52, 12, 53, 54, 55, 56, 57, 58, 59, 60, 61, 62, 63, 64, 65, 66, 67, 68, 69, 70, 71, 72, 73, 17, 74, 75, 76, 77, 78, 79, 80, 81, 15, 82, 83, 84, 31, 85, 86, 87, 20, 88, 89, 90, 91, 92, 93, 94, 95, 96, 97, 98, 99, 100, 101, 102, 103, 104, 105, 106, 107, 108, 109, 110, 111, 112, 113, 114, 115, 116, 117, 118, 119, 120, 121, 122, 123, 124, 125, 126] (by decide +kernel) (by decide +kernel)
set_option maxRecDepth 20000 in
theorem gX7_load_X7_again : GoodIn wsX7_load (wsV RX7 179 RX7 yX7_again wsX7_again) := goodIn_app (goodIn_of _ (by decide +kernel)) ggX7_load_X7_again
theorem dX7_load_0 : decode cX7_load 0 = .ok (.aload_n 0, 1) := by decide +kernel
theorem dX7_load_1 : decode cX7_load 1 = .ok (.iconst 0, 1) := by decide +kernel
theorem dX7_load_2 : decode cX7_load 2 = .ok (.putfield 66, 3) := by decide +kernel
theorem dX7_load_5 : decode cX7_load 5 = .ok (.aload_n 0, 1) := by decide +kernel
theorem dX7_load_6 : decode cX7_load 6 = .ok (.iconst 0, 1) := by decide +kernel
theorem dX7_load_7 : decode cX7_load 7 = .ok (.putfield 157, 3) := by decide +kernel
theorem dX7_load_10 : decode cX7_load 10 = .ok (.aload_n 0, 1) := by decide +kernel
theorem dX7_load_11 : decode cX7_load 11 = .ok (.iconst (-1), 1) := by decide +kernel
theorem dX7_load_12 : decode cX7_load 12 = .ok (.putfield 151, 3) := by decide +kernel
theorem dX7_load_15 : decode cX7_load 15 = .ok (.aload_n 0, 1) := by decide +kernel
theorem dX7_load_16 : decode cX7_load 16 = .ok (.iconst 0, 1) := by decide +kernel
theorem dX7_load_17 : decode cX7_load 17 = .ok (.putfield 165, 3) := by decide +kernel
theorem dX7_load_20 : decode cX7_load 20 = .ok (.aload_n 0, 1) := by decide +kernel
theorem dX7_load_21 : decode cX7_load 21 = .ok (.iconst 0, 1) := by decide +kernel
theorem dX7_load_22 : decode cX7_load 22 = .ok (.putfield 173, 3) := by decide +kernel
theorem dX7_load_25 : decode cX7_load 25 = .ok (.iconst 0, 1) := by decide +kernel
theorem dX7_load_26 : decode cX7_load 26 = .ok (.istore_n 1, 1) := by decide +kernel
theorem dX7_load_27 : decode cX7_load 27 = .ok (.iload_n 1, 1) := by decide +kernel
theorem dX7_load_28 : decode cX7_load 28 = .ok (.bipush 64, 2) := by decide +kernel
theorem dX7_load_30 : decode cX7_load 30 = .ok (.aload_n 0, 1) := by decide +kernel
theorem dX7_load_31 : decode cX7_load 31 = .ok (.getfield 70, 3) := by decide +kernel
theorem dX7_load_34 : decode cX7_load 34 = .ok (.imul, 1) := by decide +kernel
theorem dX7_load_35 : decode cX7_load 35 = .ok (.if_icmp .ge 16, 3) := by decide +kernel
theorem dX7_load_38 : decode cX7_load 38 = .ok (.aload_n 0, 1) := by decide +kernel
theorem dX7_load_39 : decode cX7_load 39 = .ok (.getfield 48, 3) := by decide +kernel
theorem dX7_load_42 : decode cX7_load 42 = .ok (.iload_n 1, 1) := by decide +kernel
theorem dX7_load_43 : decode cX7_load 43 = .ok (.iconst 0, 1) := by decide +kernel
theorem dX7_load_44 : decode cX7_load 44 = .ok (.iastore, 1) := by decide +kernel
theorem dX7_load_45 : decode cX7_load 45 = .ok (.iinc 1 1, 3) := by decide +kernel
theorem dX7_load_48 : decode cX7_load 48 = .ok (.goto (-21), 3) := by decide +kernel
theorem dX7_load_51 : decode cX7_load 51 = .ok (.aload_n 0, 1) := by decide +kernel
theorem dX7_load_52 : decode cX7_load 52 = .ok (.getfield 151, 3) := by decide +kernel
theorem dX7_load_55 : decode cX7_load 55 = .ok (.iconst (-1), 1) := by decide +kernel
theorem dX7_load_56 : decode cX7_load 56 = .ok (.if_icmp .ne 21, 3) := by decide +kernel
theorem dX7_load_59 : decode cX7_load 59 = .ok (.aload_n 0, 1) := by decide +kernel
theorem dX7_load_60 : decode cX7_load 60 = .ok (.getfield 157, 3) := by decide +kernel
theorem dX7_load_63 : decode cX7_load 63 = .ok (.aload_n 0, 1) := by decide +kernel
theorem dX7_load_64 : decode cX7_load 64 = .ok (.getfield 148, 3) := by decide +kernel
theorem dX7_load_67 : decode cX7_load 67 = .ok (.if_icmp .ge 10, 3) := by decide +kernel
theorem dX7_load_70 : decode cX7_load 70 = .ok (.aload_n 0, 1) := by decide +kernel
theorem dX7_load_71 : decode cX7_load 71 = .ok (.invokevirtual 176, 3) := by decide +kernel
theorem dX7_load_74 : decode cX7_load 74 = .ok (.goto (-23), 3) := by decide +kernel
theorem dX7_load_77 : decode cX7_load 77 = .ok (.aload_n 0, 1) := by decide +kernel
theorem dX7_load_78 : decode cX7_load 78 = .ok (.iconst 0, 1) := by decide +kernel
theorem dX7_load_79 : decode cX7_load 79 = .ok (.putfield 148, 3) := by decide +kernel
theorem dX7_load_82 : decode cX7_load 82 = .ok (.aload_n 0, 1) := by decide +kernel
theorem dX7_load_83 : decode cX7_load 83 = .ok (.getfield 151, 3) := by decide +kernel
theorem dX7_load_86 : decode cX7_load 86 = .ok (.iconst (-1), 1) := by decide +kernel
theorem dX7_load_87 : decode cX7_load 87 = .ok (.if_icmp .ne 7, 3) := by decide +kernel
theorem dX7_load_90 : decode cX7_load 90 = .ok (.aload_n 0, 1) := by decide +kernel
theorem dX7_load_91 : decode cX7_load 91 = .ok (.invokevirtual 179, 3) := by decide +kernel
theorem dX7_load_94 : decode cX7_load 94 = .ok (.aload_n 0, 1) := by decide +kernel
theorem dX7_load_95 : decode cX7_load 95 = .ok (.getfield 151, 3) := by decide +kernel
theorem dX7_load_98 : decode cX7_load 98 = .ok (.ireturn, 1) := by decide +kernel
set_option maxRecDepth 20000 in
theorem ggX7_again_X7_finish : GoodIn wsX7_again wsX7_finish := goodIn_r _ [21, 9, 11, 4, 6, 3, 22, 23, 1, 24, 25, 26, 2, 27, 28, 5, 29, 30, 31, 32, 20, 33, 34, 35, 36, 37, 38, 39, 40, 41, 42, 43, 44, 45, 46, 47, 48, 49, 50, 51, 52, 53, 54, 55, 56, 57, 58, 59, 60, 61, 62, 63, 64, 65, 66, 67, 68, 69, 70, 71, 72, 73, 74, 75, 76, 77, 78, 79, 80, 81, 82, 83, 84, 85, 86, 87, 88, 89, 90, 91, 92, 93, 94, 95, 96, 97, 98] (by decide +kernel) (by decide +kernel)
set_option maxRecDepth 20000 in
theorem gX7_again_X7_finish : GoodIn wsX7_again (wsV RX7 141 RX7 yX7_finish wsX7_finish) := goodIn_app (goodIn_of _ (by decide +kernel)) ggX7_again_X7_finish
theorem dX7_again_0 : decode cX7_again 0 = .ok (.aload_n 0, 1) := by decide +kernel
theorem dX7_again_1 : decode cX7_again 1 = .ok (.iconst 0, 1) := by decide +kernel
theorem dX7_again_2 : decode cX7_again 2 = .ok (.putfield 88, 3) := by decide +kernel
theorem dX7_again_5 : decode cX7_again 5 = .ok (.aload_n 0, 1) := by decide +kernel
theorem dX7_again_6 : decode cX7_again 6 = .ok (.iconst 0, 1) := by decide +kernel
theorem dX7_again_7 : decode cX7_again 7 = .ok (.putfield 133, 3) := by decide +kernel
theorem dX7_again_10 : decode cX7_again 10 = .ok (.aload_n 0, 1) := by decide +kernel
theorem dX7_again_11 : decode cX7_again 11 = .ok (.iconst 0, 1) := by decide +kernel
theorem dX7_again_12 : decode cX7_again 12 = .ok (.putfield 85, 3) := by decide +kernel
theorem dX7_again_15 : decode cX7_again 15 = .ok (.iconst 0, 1) := by decide +kernel
theorem dX7_again_16 : decode cX7_again 16 = .ok (.istore_n 1, 1) := by decide +kernel
theorem dX7_again_17 : decode cX7_again 17 = .ok (.iload_n 1, 1) := by decide +kernel
theorem dX7_again_18 : decode cX7_again 18 = .ok (.bipush 64, 2) := by decide +kernel
theorem dX7_again_20 : decode cX7_again 20 = .ok (.aload_n 0, 1) := by decide +kernel
theorem dX7_again_21 : decode cX7_again 21 = .ok (.getfield 70, 3) := by decide +kernel
theorem dX7_again_24 : decode cX7_again 24 = .ok (.imul, 1) := by decide +kernel
theorem dX7_again_25 : decode cX7_again 25 = .ok (.if_icmp .ge 23, 3) := by decide +kernel
theorem dX7_again_28 : decode cX7_again 28 = .ok (.aload_n 0, 1) := by decide +kernel
theorem dX7_again_29 : decode cX7_again 29 = .ok (.getfield 13, 3) := by decide +kernel
theorem dX7_again_32 : decode cX7_again 32 = .ok (.iload_n 1, 1) := by decide +kernel
theorem dX7_again_33 : decode cX7_again 33 = .ok (.iconst 0, 1) := by decide +kernel
theorem dX7_again_34 : decode cX7_again 34 = .ok (.iastore, 1) := by decide +kernel
theorem dX7_again_35 : decode cX7_again 35 = .ok (.aload_n 0, 1) := by decide +kernel
theorem dX7_again_36 : decode cX7_again 36 = .ok (.getfield 16, 3) := by decide +kernel
theorem dX7_again_39 : decode cX7_again 39 = .ok (.iload_n 1, 1) := by decide +kernel
theorem dX7_again_40 : decode cX7_again 40 = .ok (.iconst 0, 1) := by decide +kernel
theorem dX7_again_41 : decode cX7_again 41 = .ok (.iastore, 1) := by decide +kernel
theorem dX7_again_42 : decode cX7_again 42 = .ok (.iinc 1 1, 3) := by decide +kernel
theorem dX7_again_45 : decode cX7_again 45 = .ok (.goto (-28), 3) := by decide +kernel
theorem dX7_again_48 : decode cX7_again 48 = .ok (.iconst 0, 1) := by decide +kernel
theorem dX7_again_49 : decode cX7_again 49 = .ok (.istore_n 1, 1) := by decide +kernel
theorem dX7_again_50 : decode cX7_again 50 = .ok (.iconst 0, 1) := by decide +kernel
theorem dX7_again_51 : decode cX7_again 51 = .ok (.istore_n 2, 1) := by decide +kernel
theorem dX7_again_52 : decode cX7_again 52 = .ok (.iload_n 2, 1) := by decide +kernel
theorem dX7_again_53 : decode cX7_again 53 = .ok (.aload_n 0, 1) := by decide +kernel
theorem dX7_again_54 : decode cX7_again 54 = .ok (.getfield 165, 3) := by decide +kernel
theorem dX7_again_57 : decode cX7_again 57 = .ok (.if_icmp .ge 72, 3) := by decide +kernel
theorem dX7_again_60 : decode cX7_again 60 = .ok (.aload_n 0, 1) := by decide +kernel
theorem dX7_again_61 : decode cX7_again 61 = .ok (.aload_n 0, 1) := by decide +kernel
theorem dX7_again_62 : decode cX7_again 62 = .ok (.getfield 51, 3) := by decide +kernel
theorem dX7_again_65 : decode cX7_again 65 = .ok (.iload_n 2, 1) := by decide +kernel
theorem dX7_again_66 : decode cX7_again 66 = .ok (.laload, 1) := by decide +kernel
theorem dX7_again_67 : decode cX7_again 67 = .ok (.putfield 93, 3) := by decide +kernel
theorem dX7_again_70 : decode cX7_again 70 = .ok (.aload_n 0, 1) := by decide +kernel
theorem dX7_again_71 : decode cX7_again 71 = .ok (.aload_n 0, 1) := by decide +kernel
theorem dX7_again_72 : decode cX7_again 72 = .ok (.getfield 54, 3) := by decide +kernel
theorem dX7_again_75 : decode cX7_again 75 = .ok (.iload_n 2, 1) := by decide +kernel
theorem dX7_again_76 : decode cX7_again 76 = .ok (.laload, 1) := by decide +kernel
theorem dX7_again_77 : decode cX7_again 77 = .ok (.putfield 103, 3) := by decide +kernel
theorem dX7_again_80 : decode cX7_again 80 = .ok (.iconst 0, 1) := by decide +kernel
theorem dX7_again_81 : decode cX7_again 81 = .ok (.istore_n 3, 1) := by decide +kernel
theorem dX7_again_82 : decode cX7_again 82 = .ok (.iload_n 3, 1) := by decide +kernel
theorem dX7_again_83 : decode cX7_again 83 = .ok (.aload_n 0, 1) := by decide +kernel
theorem dX7_again_84 : decode cX7_again 84 = .ok (.getfield 57, 3) := by decide +kernel
theorem dX7_again_87 : decode cX7_again 87 = .ok (.iload_n 2, 1) := by decide +kernel
theorem dX7_again_88 : decode cX7_again 88 = .ok (.iaload, 1) := by decide +kernel
theorem dX7_again_89 : decode cX7_again 89 = .ok (.if_icmp .ge 29, 3) := by decide +kernel
theorem dX7_again_92 : decode cX7_again 92 = .ok (.aload_n 0, 1) := by decide +kernel
theorem dX7_again_93 : decode cX7_again 93 = .ok (.getfield 16, 3) := by decide +kernel
theorem dX7_again_96 : decode cX7_again 96 = .ok (.aload_n 0, 1) := by decide +kernel
theorem dX7_again_97 : decode cX7_again 97 = .ok (.getfield 60, 3) := by decide +kernel
theorem dX7_again_100 : decode cX7_again 100 = .ok (.iload_n 1, 1) := by decide +kernel
theorem dX7_again_101 : decode cX7_again 101 = .ok (.iaload, 1) := by decide +kernel
theorem dX7_again_102 : decode cX7_again 102 = .ok (.aload_n 0, 1) := by decide +kernel
theorem dX7_again_103 : decode cX7_again 103 = .ok (.getfield 63, 3) := by decide +kernel
theorem dX7_again_106 : decode cX7_again 106 = .ok (.iload_n 1, 1) := by decide +kernel
theorem dX7_again_107 : decode cX7_again 107 = .ok (.iaload, 1) := by decide +kernel
theorem dX7_again_108 : decode cX7_again 108 = .ok (.iastore, 1) := by decide +kernel
theorem dX7_again_109 : decode cX7_again 109 = .ok (.iinc 1 1, 3) := by decide +kernel
theorem dX7_again_112 : decode cX7_again 112 = .ok (.iinc 3 1, 3) := by decide +kernel
theorem dX7_again_115 : decode cX7_again 115 = .ok (.goto (-33), 3) := by decide +kernel
theorem dX7_again_118 : decode cX7_again 118 = .ok (.aload_n 0, 1) := by decide +kernel
theorem dX7_again_119 : decode cX7_again 119 = .ok (.invokevirtual 141, 3) := by decide +kernel
theorem dX7_again_122 : decode cX7_again 122 = .ok (.istore_n 3, 1) := by decide +kernel
theorem dX7_again_123 : decode cX7_again 123 = .ok (.iinc 2 1, 3) := by decide +kernel
theorem dX7_again_126 : decode cX7_again 126 = .ok (.goto (-74), 3) := by decide +kernel
theorem dX7_again_129 : decode cX7_again 129 = .ok (.aload_n 0, 1) := by decide +kernel
theorem dX7_again_130 : decode cX7_again 130 = .ok (.iconst 0, 1) := by decide +kernel
theorem dX7_again_131 : decode cX7_again 131 = .ok (.putfield 138, 3) := by decide +kernel
theorem dX7_again_134 : decode cX7_again 134 = .ok (.aload_n 0, 1) := by decide +kernel
theorem dX7_again_135 : decode cX7_again 135 = .ok (.aload_n 0, 1) := by decide +kernel
theorem dX7_again_136 : decode cX7_again 136 = .ok (.getfield 165, 3) := by decide +kernel
theorem dX7_again_139 : decode cX7_again 139 = .ok (.ifCond .le 7, 3) := by decide +kernel
theorem dX7_again_142 : decode cX7_again 142 = .ok (.iconst 1, 1) := by decide +kernel
theorem dX7_again_143 : decode cX7_again 143 = .ok (.goto 4, 3) := by decide +kernel
theorem dX7_again_146 : decode cX7_again 146 = .ok (.iconst 0, 1) := by decide +kernel
theorem dX7_again_147 : decode cX7_again 147 = .ok (.putfield 73, 3) := by decide +kernel
theorem dX7_again_150 : decode cX7_again 150 = .ok (.return_, 1) := by decide +kernel
