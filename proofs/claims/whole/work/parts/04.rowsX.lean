set_option maxRecDepth 20000 in
theorem ggX7_init_X4_init : GoodIn wsX7_init wsX4_init := goodIn_r _ [31, 32, 2, 3, 33, 34, 91, 92] (by decide +kernel) (by decide +kernel)
set_option maxRecDepth 20000 in
theorem gX7_init_X4_init_n11 : GoodIn wsX7_init (wsX4_init) := ggX7_init_X4_init
set_option maxRecDepth 20000 in
theorem ggX7_init_X2_init : GoodIn wsX7_init wsX2_init := goodIn_r _ [36, 37, 2, 3, 38, 39, 40, 41, 42, 43, 44, 45, 46, 47, 48, 133, 134, 135, 136, 103, 104, 105, 106, 107, 108] (by decide +kernel) (by decide +kernel)
set_option maxRecDepth 20000 in
theorem gX7_init_X2_init_n18 : GoodIn wsX7_init (wsX2_init) := ggX7_init_X2_init
set_option maxRecDepth 20000 in
theorem ggX7_init_X1_init : GoodIn wsX7_init wsX1_init := goodIn_r _ [50, 51, 2, 3, 45, 52, 53, 54, 109, 110, 111, 112, 113, 114, 115, 116] (by decide +kernel) (by decide +kernel)
set_option maxRecDepth 20000 in
theorem gX7_init_X1_init_n25 : GoodIn wsX7_init (wsX1_init) := ggX7_init_X1_init
set_option maxRecDepth 20000 in
theorem ggX7_init_X3_init : GoodIn wsX7_init wsX3_init := goodIn_r _ [56, 57, 2, 3, 45, 58, 59, 60, 117, 118, 119, 120] (by decide +kernel) (by decide +kernel)
set_option maxRecDepth 20000 in
theorem gX7_init_X3_init_n32 : GoodIn wsX7_init (wsX3_init) := ggX7_init_X3_init
set_option maxRecDepth 20000 in
theorem ggX7_init_X0_init : GoodIn wsX7_init wsX0_init := goodIn_r _ [62, 63, 2, 3, 64, 13, 14, 65, 66, 26, 27, 67, 45, 68, 49, 50, 51, 52, 53, 54, 69, 70, 71, 72, 73, 74, 75, 76, 77, 78, 79, 80, 81, 82, 83, 84, 85, 86, 87, 88, 89, 109, 110, 111, 112, 113, 114, 115, 116, 121, 122, 123, 124, 125, 126, 127, 128, 129, 130, 131, 132] (by decide +kernel) (by decide +kernel)
set_option maxRecDepth 20000 in
theorem gX7_init_X0_init_n39 : GoodIn wsX7_init (wsX0_init) := ggX7_init_X0_init
set_option maxRecDepth 20000 in
theorem ggX7_init_X6_init : GoodIn wsX7_init wsX6_init := goodIn_r _ [71, 72, 2, 3, 45, 73, 74, 75, 76, 77, 78, 79, 80, 81, 82, 27, 83, 84, 85, 86, 87, 88, 89, 124, 125, 126, 127, 128, 129, 130, 131, 132] (by decide +kernel) (by decide +kernel)
set_option maxRecDepth 20000 in
theorem gX7_init_X6_init : GoodIn wsX7_init (wsX6_init) := ggX7_init_X6_init
theorem dX7_init_0 : decode cX7_init 0 = .ok (.aload_n 0, 1) := by decide +kernel
theorem dX7_init_1 : decode cX7_init 1 = .ok (.invokespecial 3, 3) := by decide +kernel
theorem dX7_init_4 : decode cX7_init 4 = .ok (.aload_n 0, 1) := by decide +kernel
theorem dX7_init_5 : decode cX7_init 5 = .ok (.new 9, 3) := by decide +kernel
theorem dX7_init_8 : decode cX7_init 8 = .ok (.dup, 1) := by decide +kernel
theorem dX7_init_9 : decode cX7_init 9 = .ok (.invokespecial 11, 3) := by decide +kernel
theorem dX7_init_12 : decode cX7_init 12 = .ok (.putfield 12, 3) := by decide +kernel
theorem dX7_init_15 : decode cX7_init 15 = .ok (.aload_n 0, 1) := by decide +kernel
theorem dX7_init_16 : decode cX7_init 16 = .ok (.new 16, 3) := by decide +kernel
theorem dX7_init_19 : decode cX7_init 19 = .ok (.dup, 1) := by decide +kernel
theorem dX7_init_20 : decode cX7_init 20 = .ok (.invokespecial 18, 3) := by decide +kernel
theorem dX7_init_23 : decode cX7_init 23 = .ok (.putfield 19, 3) := by decide +kernel
theorem dX7_init_26 : decode cX7_init 26 = .ok (.aload_n 0, 1) := by decide +kernel
theorem dX7_init_27 : decode cX7_init 27 = .ok (.new 23, 3) := by decide +kernel
theorem dX7_init_30 : decode cX7_init 30 = .ok (.dup, 1) := by decide +kernel
theorem dX7_init_31 : decode cX7_init 31 = .ok (.invokespecial 25, 3) := by decide +kernel
theorem dX7_init_34 : decode cX7_init 34 = .ok (.putfield 26, 3) := by decide +kernel
theorem dX7_init_37 : decode cX7_init 37 = .ok (.aload_n 0, 1) := by decide +kernel
theorem dX7_init_38 : decode cX7_init 38 = .ok (.new 30, 3) := by decide +kernel
theorem dX7_init_41 : decode cX7_init 41 = .ok (.dup, 1) := by decide +kernel
theorem dX7_init_42 : decode cX7_init 42 = .ok (.invokespecial 32, 3) := by decide +kernel
theorem dX7_init_45 : decode cX7_init 45 = .ok (.putfield 33, 3) := by decide +kernel
theorem dX7_init_48 : decode cX7_init 48 = .ok (.aload_n 0, 1) := by decide +kernel
theorem dX7_init_49 : decode cX7_init 49 = .ok (.new 37, 3) := by decide +kernel
theorem dX7_init_52 : decode cX7_init 52 = .ok (.dup, 1) := by decide +kernel
theorem dX7_init_53 : decode cX7_init 53 = .ok (.invokespecial 39, 3) := by decide +kernel
theorem dX7_init_56 : decode cX7_init 56 = .ok (.putfield 40, 3) := by decide +kernel
theorem dX7_init_59 : decode cX7_init 59 = .ok (.aload_n 0, 1) := by decide +kernel
theorem dX7_init_60 : decode cX7_init 60 = .ok (.iconst 2, 1) := by decide +kernel
theorem dX7_init_61 : decode cX7_init 61 = .ok (.anewarray 23, 3) := by decide +kernel
theorem dX7_init_64 : decode cX7_init 64 = .ok (.putfield 44, 3) := by decide +kernel
theorem dX7_init_67 : decode cX7_init 67 = .ok (.aload_n 0, 1) := by decide +kernel
theorem dX7_init_68 : decode cX7_init 68 = .ok (.new 48, 3) := by decide +kernel
theorem dX7_init_71 : decode cX7_init 71 = .ok (.dup, 1) := by decide +kernel
theorem dX7_init_72 : decode cX7_init 72 = .ok (.invokespecial 50, 3) := by decide +kernel
theorem dX7_init_75 : decode cX7_init 75 = .ok (.putfield 51, 3) := by decide +kernel
theorem dX7_init_78 : decode cX7_init 78 = .ok (.aload_n 0, 1) := by decide +kernel
theorem dX7_init_79 : decode cX7_init 79 = .ok (.new 48, 3) := by decide +kernel
theorem dX7_init_82 : decode cX7_init 82 = .ok (.dup, 1) := by decide +kernel
theorem dX7_init_83 : decode cX7_init 83 = .ok (.invokespecial 50, 3) := by decide +kernel
theorem dX7_init_86 : decode cX7_init 86 = .ok (.putfield 55, 3) := by decide +kernel
theorem dX7_init_89 : decode cX7_init 89 = .ok (.iconst 0, 1) := by decide +kernel
theorem dX7_init_90 : decode cX7_init 90 = .ok (.istore_n 1, 1) := by decide +kernel
theorem dX7_init_91 : decode cX7_init 91 = .ok (.iload_n 1, 1) := by decide +kernel
theorem dX7_init_92 : decode cX7_init 92 = .ok (.iconst 2, 1) := by decide +kernel
theorem dX7_init_93 : decode cX7_init 93 = .ok (.if_icmp .ge 22, 3) := by decide +kernel
theorem dX7_init_96 : decode cX7_init 96 = .ok (.aload_n 0, 1) := by decide +kernel
theorem dX7_init_97 : decode cX7_init 97 = .ok (.getfield 44, 3) := by decide +kernel
theorem dX7_init_100 : decode cX7_init 100 = .ok (.iload_n 1, 1) := by decide +kernel
theorem dX7_init_101 : decode cX7_init 101 = .ok (.new 23, 3) := by decide +kernel
theorem dX7_init_104 : decode cX7_init 104 = .ok (.dup, 1) := by decide +kernel
theorem dX7_init_105 : decode cX7_init 105 = .ok (.invokespecial 25, 3) := by decide +kernel
theorem dX7_init_108 : decode cX7_init 108 = .ok (.aastore, 1) := by decide +kernel
theorem dX7_init_109 : decode cX7_init 109 = .ok (.iinc 1 1, 3) := by decide +kernel
theorem dX7_init_112 : decode cX7_init 112 = .ok (.goto (-21), 3) := by decide +kernel
theorem dX7_init_115 : decode cX7_init 115 = .ok (.return_, 1) := by decide +kernel
set_option maxRecDepth 20000 in
theorem ggX7_type_X4_hasRoomFor : GoodIn wsX7_type wsX4_hasRoomFor := goodIn_r _ [7, 8, 24, 25] (by decide +kernel) (by decide +kernel)
set_option maxRecDepth 20000 in
theorem gX7_type_X4_hasRoomFor : GoodIn wsX7_type (wsV RX7 58 RX4 yX4_hasRoomFor wsX4_hasRoomFor) := goodIn_app (goodIn_of _ (by decide +kernel)) ggX7_type_X4_hasRoomFor
set_option maxRecDepth 20000 in
theorem ggX7_type_X4_append : GoodIn wsX7_type wsX4_append := goodIn_r _ [12, 8, 13, 24, 25] (by decide +kernel) (by decide +kernel)
set_option maxRecDepth 20000 in
theorem gX7_type_X4_append : GoodIn wsX7_type (wsV RX7 62 RX4 yX4_append wsX4_append) := goodIn_app (goodIn_of _ (by decide +kernel)) ggX7_type_X4_append
theorem dX7_type_0 : decode cX7_type 0 = .ok (.iload_n 3, 1) := by decide +kernel
theorem dX7_type_1 : decode cX7_type 1 = .ok (.iconst 1, 1) := by decide +kernel
theorem dX7_type_2 : decode cX7_type 2 = .ok (.if_icmp .lt 9, 3) := by decide +kernel
theorem dX7_type_5 : decode cX7_type 5 = .ok (.iload_n 3, 1) := by decide +kernel
theorem dX7_type_6 : decode cX7_type 6 = .ok (.bipush 8, 2) := by decide +kernel
theorem dX7_type_8 : decode cX7_type 8 = .ok (.if_icmp .le 5, 3) := by decide +kernel
theorem dX7_type_11 : decode cX7_type 11 = .ok (.iconst (-1), 1) := by decide +kernel
theorem dX7_type_12 : decode cX7_type 12 = .ok (.ireturn, 1) := by decide +kernel
theorem dX7_type_13 : decode cX7_type 13 = .ok (.aload_n 0, 1) := by decide +kernel
theorem dX7_type_14 : decode cX7_type 14 = .ok (.getfield 12, 3) := by decide +kernel
theorem dX7_type_17 : decode cX7_type 17 = .ok (.iload_n 3, 1) := by decide +kernel
theorem dX7_type_18 : decode cX7_type 18 = .ok (.invokevirtual 58, 3) := by decide +kernel
theorem dX7_type_21 : decode cX7_type 21 = .ok (.ifCond .ne 6, 3) := by decide +kernel
theorem dX7_type_24 : decode cX7_type 24 = .ok (.bipush (-3), 2) := by decide +kernel
theorem dX7_type_26 : decode cX7_type 26 = .ok (.ireturn, 1) := by decide +kernel
theorem dX7_type_27 : decode cX7_type 27 = .ok (.aload_n 0, 1) := by decide +kernel
theorem dX7_type_28 : decode cX7_type 28 = .ok (.getfield 12, 3) := by decide +kernel
theorem dX7_type_31 : decode cX7_type 31 = .ok (.lload_n 1, 1) := by decide +kernel
theorem dX7_type_32 : decode cX7_type 32 = .ok (.iload_n 3, 1) := by decide +kernel
theorem dX7_type_33 : decode cX7_type 33 = .ok (.invokevirtual 62, 3) := by decide +kernel
theorem dX7_type_36 : decode cX7_type 36 = .ok (.aload_n 0, 1) := by decide +kernel
theorem dX7_type_37 : decode cX7_type 37 = .ok (.getfield 12, 3) := by decide +kernel
theorem dX7_type_40 : decode cX7_type 40 = .ok (.getfield 66, 3) := by decide +kernel
theorem dX7_type_43 : decode cX7_type 43 = .ok (.ireturn, 1) := by decide +kernel
theorem dX7_clear_0 : decode cX7_clear 0 = .ok (.aload_n 0, 1) := by decide +kernel
theorem dX7_clear_1 : decode cX7_clear 1 = .ok (.getfield 12, 3) := by decide +kernel
theorem dX7_clear_4 : decode cX7_clear 4 = .ok (.getfield 66, 3) := by decide +kernel
theorem dX7_clear_7 : decode cX7_clear 7 = .ok (.istore_n 1, 1) := by decide +kernel
theorem dX7_clear_8 : decode cX7_clear 8 = .ok (.aload_n 0, 1) := by decide +kernel
theorem dX7_clear_9 : decode cX7_clear 9 = .ok (.getfield 12, 3) := by decide +kernel
theorem dX7_clear_12 : decode cX7_clear 12 = .ok (.iconst 0, 1) := by decide +kernel
theorem dX7_clear_13 : decode cX7_clear 13 = .ok (.putfield 66, 3) := by decide +kernel
theorem dX7_clear_16 : decode cX7_clear 16 = .ok (.iload_n 1, 1) := by decide +kernel
theorem dX7_clear_17 : decode cX7_clear 17 = .ok (.ireturn, 1) := by decide +kernel
set_option maxRecDepth 20000 in
theorem ggX7_walls_X2_readInto : GoodIn wsX7_walls wsX2_readInto := goodIn_r _ [14, 15, 16, 17, 18, 19, 20, 21, 22, 23, 24, 25, 26, 27, 28, 29, 30, 31, 32, 33, 34, 35, 36, 37, 38, 39, 40, 41, 42, 43, 44, 45, 46, 47, 48, 49, 50, 51, 52, 53, 54, 55, 56, 57, 58, 59, 60, 61, 62, 63, 64, 65, 66, 67, 68, 69, 70, 71, 72, 73, 74, 75, 76, 77, 78, 79, 80, 81, 82, 83, 84, 85, 86, 87, 88, 89, 90, 91, 92, 93, 94, 95, 96, 97, 98, 99, 100, 101, 102, 103, 104, 105, 106, 107, 108, 109, 110, 111, 112, 113, 114, 115, 116, 117, 118, 119, 120, 121, 122, 123, 124, 125, 126, 127, 128, 129, 130, 131, 132, 133, 134, 135, 136, 137, 138, 139, 13, 140, 141, 142, 143, 144, 145, 146, 147, 148, 149, 150, 151, 152, 153, 154, 155, 156, 157, 158, 159, 160, 161, 162, 163, 164, 165, 166, 167, 168, 169, 170, 171, 172, 173, 174, 175, 176, 177, 178, 179, 180, 181, 182, 183, 184, 185, 186, 187, 188, 189, 190, 191, 192, 193, 194, 195, 196, 197, 198, 227, 228, 229, 230, 231, 232, 233, 234, 235, 236, 221, 222, 237, 238, 239, 240, 241, 242, 243, 244, 245] (by decide +kernel) (by decide +kernel)
set_option maxRecDepth 20000 in
theorem gX7_walls_X2_readInto : GoodIn wsX7_walls (wsV RX7 70 RX2 yX2_readInto wsX2_readInto) := goodIn_app (goodIn_of _ (by decide +kernel)) ggX7_walls_X2_readInto
set_option maxRecDepth 20000 in
theorem ggX7_walls_X1_begin : GoodIn wsX7_walls wsX1_begin := goodIn_r _ [203, 204, 205, 206, 207, 208, 209, 210, 246, 247, 248, 249, 250, 251, 252, 253, 237, 238, 239, 240, 241, 242, 243, 244, 245] (by decide +kernel) (by decide +kernel)
set_option maxRecDepth 20000 in
theorem gX7_walls_X1_begin : GoodIn wsX7_walls (wsV RX7 74 RX1 yX1_begin wsX1_begin) := goodIn_app (goodIn_of _ (by decide +kernel)) ggX7_walls_X1_begin
theorem dX7_walls_0 : decode cX7_walls 0 = .ok (.aload_n 0, 1) := by decide +kernel
theorem dX7_walls_1 : decode cX7_walls 1 = .ok (.getfield 19, 3) := by decide +kernel
theorem dX7_walls_4 : decode cX7_walls 4 = .ok (.aload_n 0, 1) := by decide +kernel
theorem dX7_walls_5 : decode cX7_walls 5 = .ok (.getfield 55, 3) := by decide +kernel
theorem dX7_walls_8 : decode cX7_walls 8 = .ok (.aload_n 0, 1) := by decide +kernel
theorem dX7_walls_9 : decode cX7_walls 9 = .ok (.getfield 12, 3) := by decide +kernel
theorem dX7_walls_12 : decode cX7_walls 12 = .ok (.invokevirtual 70, 3) := by decide +kernel
theorem dX7_walls_15 : decode cX7_walls 15 = .ok (.istore_n 1, 1) := by decide +kernel
theorem dX7_walls_16 : decode cX7_walls 16 = .ok (.iload_n 1, 1) := by decide +kernel
theorem dX7_walls_17 : decode cX7_walls 17 = .ok (.ifCond .ge 5, 3) := by decide +kernel
theorem dX7_walls_20 : decode cX7_walls 20 = .ok (.iload_n 1, 1) := by decide +kernel
theorem dX7_walls_21 : decode cX7_walls 21 = .ok (.ireturn, 1) := by decide +kernel
theorem dX7_walls_22 : decode cX7_walls 22 = .ok (.aload_n 0, 1) := by decide +kernel
theorem dX7_walls_23 : decode cX7_walls 23 = .ok (.getfield 51, 3) := by decide +kernel
theorem dX7_walls_26 : decode cX7_walls 26 = .ok (.astore_n 2, 1) := by decide +kernel
theorem dX7_walls_27 : decode cX7_walls 27 = .ok (.aload_n 0, 1) := by decide +kernel
theorem dX7_walls_28 : decode cX7_walls 28 = .ok (.aload_n 0, 1) := by decide +kernel
theorem dX7_walls_29 : decode cX7_walls 29 = .ok (.getfield 55, 3) := by decide +kernel
theorem dX7_walls_32 : decode cX7_walls 32 = .ok (.putfield 51, 3) := by decide +kernel
theorem dX7_walls_35 : decode cX7_walls 35 = .ok (.aload_n 0, 1) := by decide +kernel
theorem dX7_walls_36 : decode cX7_walls 36 = .ok (.aload_n 2, 1) := by decide +kernel
theorem dX7_walls_37 : decode cX7_walls 37 = .ok (.putfield 55, 3) := by decide +kernel
theorem dX7_walls_40 : decode cX7_walls 40 = .ok (.aload_n 0, 1) := by decide +kernel
theorem dX7_walls_41 : decode cX7_walls 41 = .ok (.getfield 12, 3) := by decide +kernel
theorem dX7_walls_44 : decode cX7_walls 44 = .ok (.iconst 0, 1) := by decide +kernel
theorem dX7_walls_45 : decode cX7_walls 45 = .ok (.putfield 66, 3) := by decide +kernel
theorem dX7_walls_48 : decode cX7_walls 48 = .ok (.aload_n 0, 1) := by decide +kernel
theorem dX7_walls_49 : decode cX7_walls 49 = .ok (.getfield 26, 3) := by decide +kernel
theorem dX7_walls_52 : decode cX7_walls 52 = .ok (.aload_n 0, 1) := by decide +kernel
theorem dX7_walls_53 : decode cX7_walls 53 = .ok (.getfield 51, 3) := by decide +kernel
theorem dX7_walls_56 : decode cX7_walls 56 = .ok (.invokevirtual 74, 3) := by decide +kernel
theorem dX7_walls_59 : decode cX7_walls 59 = .ok (.aload_n 0, 1) := by decide +kernel
theorem dX7_walls_60 : decode cX7_walls 60 = .ok (.getfield 33, 3) := by decide +kernel
theorem dX7_walls_63 : decode cX7_walls 63 = .ok (.iconst 0, 1) := by decide +kernel
theorem dX7_walls_64 : decode cX7_walls 64 = .ok (.putfield 78, 3) := by decide +kernel
theorem dX7_walls_67 : decode cX7_walls 67 = .ok (.aload_n 0, 1) := by decide +kernel
theorem dX7_walls_68 : decode cX7_walls 68 = .ok (.iconst 0, 1) := by decide +kernel
theorem dX7_walls_69 : decode cX7_walls 69 = .ok (.putfield 81, 3) := by decide +kernel
theorem dX7_walls_72 : decode cX7_walls 72 = .ok (.iload_n 1, 1) := by decide +kernel
theorem dX7_walls_73 : decode cX7_walls 73 = .ok (.ireturn, 1) := by decide +kernel
set_option maxRecDepth 20000 in
theorem ggX7_wall_X7_isWall : GoodIn wsX7_wall wsX7_isWall := goodIn_r _ [13, 3, 14, 24, 25, 26, 27, 28, 29, 30, 31, 32, 33, 42, 43, 44, 45, 46, 47, 48, 49, 50] (by decide +kernel) (by decide +kernel)
set_option maxRecDepth 20000 in
theorem gX7_wall_X7_isWall : GoodIn wsX7_wall (wsV RX7 84 RX7 yX7_isWall wsX7_isWall) := goodIn_app (goodIn_of _ (by decide +kernel)) ggX7_wall_X7_isWall
set_option maxRecDepth 20000 in
theorem ggX7_wall_X6_dark : GoodIn wsX7_wall wsX6_dark := goodIn_r _ [19, 20, 42, 43, 44, 45, 46, 47, 48, 49, 50] (by decide +kernel) (by decide +kernel)
set_option maxRecDepth 20000 in
theorem gX7_wall_X6_dark : GoodIn wsX7_wall (wsV RX7 100 RX6 yX6_dark wsX6_dark) := goodIn_app (goodIn_of _ (by decide +kernel)) ggX7_wall_X6_dark
set_option maxRecDepth 20000 in
theorem ggX7_wall_X7_bit : GoodIn wsX7_wall wsX7_bit := goodIn_r _ [23] (by decide +kernel) (by decide +kernel)
set_option maxRecDepth 20000 in
theorem gX7_wall_X7_bit : GoodIn wsX7_wall (va_wsS RX7 107 yX7_bit wsX7_bit) := goodIn_app (goodIn_of _ (by decide +kernel)) ggX7_wall_X7_bit
theorem dX7_wall_0 : decode cX7_wall 0 = .ok (.aload_n 0, 1) := by decide +kernel
theorem dX7_wall_1 : decode cX7_wall 1 = .ok (.iload_n 1, 1) := by decide +kernel
theorem dX7_wall_2 : decode cX7_wall 2 = .ok (.invokevirtual 84, 3) := by decide +kernel
theorem dX7_wall_5 : decode cX7_wall 5 = .ok (.ifCond .ne 5, 3) := by decide +kernel
theorem dX7_wall_8 : decode cX7_wall 8 = .ok (.iconst (-1), 1) := by decide +kernel
theorem dX7_wall_9 : decode cX7_wall 9 = .ok (.ireturn, 1) := by decide +kernel
theorem dX7_wall_10 : decode cX7_wall 10 = .ok (.iload_n 2, 1) := by decide +kernel
theorem dX7_wall_11 : decode cX7_wall 11 = .ok (.tableswitch 114 0 6 #[41, 51, 61, 71, 81, 90, 102], 41) := by decide +kernel
theorem dX7_wall_52 : decode cX7_wall 52 = .ok (.aload_n 0, 1) := by decide +kernel
theorem dX7_wall_53 : decode cX7_wall 53 = .ok (.getfield 26, 3) := by decide +kernel
theorem dX7_wall_56 : decode cX7_wall 56 = .ok (.getfield 87, 3) := by decide +kernel
theorem dX7_wall_59 : decode cX7_wall 59 = .ok (.iload_n 1, 1) := by decide +kernel
theorem dX7_wall_60 : decode cX7_wall 60 = .ok (.iaload, 1) := by decide +kernel
theorem dX7_wall_61 : decode cX7_wall 61 = .ok (.ireturn, 1) := by decide +kernel
theorem dX7_wall_62 : decode cX7_wall 62 = .ok (.aload_n 0, 1) := by decide +kernel
theorem dX7_wall_63 : decode cX7_wall 63 = .ok (.getfield 51, 3) := by decide +kernel
theorem dX7_wall_66 : decode cX7_wall 66 = .ok (.getfield 91, 3) := by decide +kernel
theorem dX7_wall_69 : decode cX7_wall 69 = .ok (.iload_n 1, 1) := by decide +kernel
theorem dX7_wall_70 : decode cX7_wall 70 = .ok (.iaload, 1) := by decide +kernel
theorem dX7_wall_71 : decode cX7_wall 71 = .ok (.ireturn, 1) := by decide +kernel
theorem dX7_wall_72 : decode cX7_wall 72 = .ok (.aload_n 0, 1) := by decide +kernel
theorem dX7_wall_73 : decode cX7_wall 73 = .ok (.getfield 51, 3) := by decide +kernel
theorem dX7_wall_76 : decode cX7_wall 76 = .ok (.getfield 94, 3) := by decide +kernel
theorem dX7_wall_79 : decode cX7_wall 79 = .ok (.iload_n 1, 1) := by decide +kernel
theorem dX7_wall_80 : decode cX7_wall 80 = .ok (.iaload, 1) := by decide +kernel
theorem dX7_wall_81 : decode cX7_wall 81 = .ok (.ireturn, 1) := by decide +kernel
theorem dX7_wall_82 : decode cX7_wall 82 = .ok (.aload_n 0, 1) := by decide +kernel
theorem dX7_wall_83 : decode cX7_wall 83 = .ok (.getfield 51, 3) := by decide +kernel
theorem dX7_wall_86 : decode cX7_wall 86 = .ok (.getfield 97, 3) := by decide +kernel
theorem dX7_wall_89 : decode cX7_wall 89 = .ok (.iload_n 1, 1) := by decide +kernel
theorem dX7_wall_90 : decode cX7_wall 90 = .ok (.iaload, 1) := by decide +kernel
theorem dX7_wall_91 : decode cX7_wall 91 = .ok (.ireturn, 1) := by decide +kernel
theorem dX7_wall_92 : decode cX7_wall 92 = .ok (.aload_n 0, 1) := by decide +kernel
theorem dX7_wall_93 : decode cX7_wall 93 = .ok (.getfield 51, 3) := by decide +kernel
theorem dX7_wall_96 : decode cX7_wall 96 = .ok (.iload_n 1, 1) := by decide +kernel
theorem dX7_wall_97 : decode cX7_wall 97 = .ok (.invokevirtual 100, 3) := by decide +kernel
theorem dX7_wall_100 : decode cX7_wall 100 = .ok (.ireturn, 1) := by decide +kernel
theorem dX7_wall_101 : decode cX7_wall 101 = .ok (.aload_n 0, 1) := by decide +kernel
theorem dX7_wall_102 : decode cX7_wall 102 = .ok (.getfield 26, 3) := by decide +kernel
theorem dX7_wall_105 : decode cX7_wall 105 = .ok (.getfield 104, 3) := by decide +kernel
theorem dX7_wall_108 : decode cX7_wall 108 = .ok (.iload_n 1, 1) := by decide +kernel
theorem dX7_wall_109 : decode cX7_wall 109 = .ok (.invokestatic 107, 3) := by decide +kernel
theorem dX7_wall_112 : decode cX7_wall 112 = .ok (.ireturn, 1) := by decide +kernel
theorem dX7_wall_113 : decode cX7_wall 113 = .ok (.aload_n 0, 1) := by decide +kernel
theorem dX7_wall_114 : decode cX7_wall 114 = .ok (.getfield 26, 3) := by decide +kernel
theorem dX7_wall_117 : decode cX7_wall 117 = .ok (.getfield 111, 3) := by decide +kernel
theorem dX7_wall_120 : decode cX7_wall 120 = .ok (.iload_n 1, 1) := by decide +kernel
theorem dX7_wall_121 : decode cX7_wall 121 = .ok (.invokestatic 107, 3) := by decide +kernel
theorem dX7_wall_124 : decode cX7_wall 124 = .ok (.ireturn, 1) := by decide +kernel
theorem dX7_wall_125 : decode cX7_wall 125 = .ok (.iconst (-1), 1) := by decide +kernel
theorem dX7_wall_126 : decode cX7_wall 126 = .ok (.ireturn, 1) := by decide +kernel
set_option maxRecDepth 20000 in
theorem ggX7_sees_X7_isWall : GoodIn wsX7_sees wsX7_isWall := goodIn_r _ [7, 1, 8, 9, 10, 11, 12, 13, 14, 15, 16, 17, 18, 19, 20, 21, 22, 23, 24, 25, 26, 27] (by decide +kernel) (by decide +kernel)
set_option maxRecDepth 20000 in
theorem gX7_sees_X7_isWall : GoodIn wsX7_sees (wsV RX7 84 RX7 yX7_isWall wsX7_isWall) := goodIn_app (goodIn_of _ (by decide +kernel)) ggX7_sees_X7_isWall
theorem dX7_sees_0 : decode cX7_sees 0 = .ok (.aload_n 0, 1) := by decide +kernel
theorem dX7_sees_1 : decode cX7_sees 1 = .ok (.iload_n 1, 1) := by decide +kernel
theorem dX7_sees_2 : decode cX7_sees 2 = .ok (.invokevirtual 84, 3) := by decide +kernel
theorem dX7_sees_5 : decode cX7_sees 5 = .ok (.ifCond .eq 16, 3) := by decide +kernel
theorem dX7_sees_8 : decode cX7_sees 8 = .ok (.aload_n 0, 1) := by decide +kernel
theorem dX7_sees_9 : decode cX7_sees 9 = .ok (.iload_n 2, 1) := by decide +kernel
theorem dX7_sees_10 : decode cX7_sees 10 = .ok (.invokevirtual 84, 3) := by decide +kernel
theorem dX7_sees_13 : decode cX7_sees 13 = .ok (.ifCond .eq 8, 3) := by decide +kernel
theorem dX7_sees_16 : decode cX7_sees 16 = .ok (.iload_n 1, 1) := by decide +kernel
theorem dX7_sees_17 : decode cX7_sees 17 = .ok (.iload_n 2, 1) := by decide +kernel
theorem dX7_sees_18 : decode cX7_sees 18 = .ok (.if_icmp .ne 5, 3) := by decide +kernel
theorem dX7_sees_21 : decode cX7_sees 21 = .ok (.iconst (-1), 1) := by decide +kernel
theorem dX7_sees_22 : decode cX7_sees 22 = .ok (.ireturn, 1) := by decide +kernel
theorem dX7_sees_23 : decode cX7_sees 23 = .ok (.aload_n 0, 1) := by decide +kernel
theorem dX7_sees_24 : decode cX7_sees 24 = .ok (.getfield 51, 3) := by decide +kernel
theorem dX7_sees_27 : decode cX7_sees 27 = .ok (.getfield 114, 3) := by decide +kernel
theorem dX7_sees_30 : decode cX7_sees 30 = .ok (.iload_n 1, 1) := by decide +kernel
theorem dX7_sees_31 : decode cX7_sees 31 = .ok (.bipush 6, 2) := by decide +kernel
theorem dX7_sees_33 : decode cX7_sees 33 = .ok (.imul, 1) := by decide +kernel
theorem dX7_sees_34 : decode cX7_sees 34 = .ok (.iload_n 2, 1) := by decide +kernel
theorem dX7_sees_35 : decode cX7_sees 35 = .ok (.iadd, 1) := by decide +kernel
theorem dX7_sees_36 : decode cX7_sees 36 = .ok (.iaload, 1) := by decide +kernel
theorem dX7_sees_37 : decode cX7_sees 37 = .ok (.ireturn, 1) := by decide +kernel
set_option maxRecDepth 20000 in
theorem ggX7_hour_X1_goBy : GoodIn wsX7_hour wsX1_goBy := goodIn_r _ [8, 9, 10, 11, 12, 13, 14, 15, 16, 17, 18, 19, 20, 21, 22, 7, 23, 24, 25, 26, 27, 38, 39, 40, 41, 42, 43, 44, 45, 46, 47, 48, 49, 50, 51, 52, 53, 54] (by decide +kernel) (by decide +kernel)
set_option maxRecDepth 20000 in
theorem gX7_hour_X1_goBy : GoodIn wsX7_hour (wsV RX7 119 RX1 yX1_goBy wsX1_goBy) := goodIn_app (goodIn_of _ (by decide +kernel)) ggX7_hour_X1_goBy
theorem dX7_hour_0 : decode cX7_hour 0 = .ok (.aload_n 0, 1) := by decide +kernel
theorem dX7_hour_1 : decode cX7_hour 1 = .ok (.getfield 26, 3) := by decide +kernel
theorem dX7_hour_4 : decode cX7_hour 4 = .ok (.getfield 117, 3) := by decide +kernel
theorem dX7_hour_7 : decode cX7_hour 7 = .ok (.sipush 999, 3) := by decide +kernel
theorem dX7_hour_10 : decode cX7_hour 10 = .ok (.if_icmp .lt 6, 3) := by decide +kernel
theorem dX7_hour_13 : decode cX7_hour 13 = .ok (.bipush (-2), 2) := by decide +kernel
theorem dX7_hour_15 : decode cX7_hour 15 = .ok (.ireturn, 1) := by decide +kernel
theorem dX7_hour_16 : decode cX7_hour 16 = .ok (.aload_n 0, 1) := by decide +kernel
theorem dX7_hour_17 : decode cX7_hour 17 = .ok (.getfield 26, 3) := by decide +kernel
theorem dX7_hour_20 : decode cX7_hour 20 = .ok (.aload_n 0, 1) := by decide +kernel
theorem dX7_hour_21 : decode cX7_hour 21 = .ok (.getfield 51, 3) := by decide +kernel
theorem dX7_hour_24 : decode cX7_hour 24 = .ok (.invokevirtual 119, 3) := by decide +kernel
theorem dX7_hour_27 : decode cX7_hour 27 = .ok (.ireturn, 1) := by decide +kernel
set_option maxRecDepth 20000 in
theorem ggX7_shut_X7_isWall : GoodIn wsX7_shut wsX7_isWall := goodIn_r _ [7, 8, 9, 36, 37, 38, 39, 40, 41, 42, 43, 44, 45, 54, 55, 56, 57, 58, 59, 60, 61, 62] (by decide +kernel) (by decide +kernel)
set_option maxRecDepth 20000 in
theorem gX7_shut_X7_isWall : GoodIn wsX7_shut (wsV RX7 84 RX7 yX7_isWall wsX7_isWall) := goodIn_app (goodIn_of _ (by decide +kernel)) ggX7_shut_X7_isWall
set_option maxRecDepth 20000 in
theorem ggX7_shut_X7_isBit : GoodIn wsX7_shut wsX7_isBit := goodIn_r _ [12] (by decide +kernel) (by decide +kernel)
set_option maxRecDepth 20000 in
theorem gX7_shut_X7_isBit : GoodIn wsX7_shut (va_wsS RX7 123 yX7_isBit wsX7_isBit) := goodIn_app (goodIn_of _ (by decide +kernel)) ggX7_shut_X7_isBit
set_option maxRecDepth 20000 in
theorem ggX7_shut_X7_bit : GoodIn wsX7_shut wsX7_bit := goodIn_r _ [15] (by decide +kernel) (by decide +kernel)
set_option maxRecDepth 20000 in
theorem gX7_shut_X7_bit : GoodIn wsX7_shut (va_wsS RX7 107 yX7_bit wsX7_bit) := goodIn_app (goodIn_of _ (by decide +kernel)) ggX7_shut_X7_bit
set_option maxRecDepth 20000 in
theorem ggX7_shut_X1_change : GoodIn wsX7_shut wsX1_change := goodIn_r _ [20, 21, 22, 23, 24, 25, 19, 26, 27, 28, 46, 47, 48, 49, 50, 51, 52, 53] (by decide +kernel) (by decide +kernel)
set_option maxRecDepth 20000 in
theorem gX7_shut_X1_change : GoodIn wsX7_shut (wsV RX7 126 RX1 yX1_change wsX1_change) := goodIn_app (goodIn_of _ (by decide +kernel)) ggX7_shut_X1_change
set_option maxRecDepth 20000 in
theorem ggX7_shut_J6_bitCount_0f7a4 : GoodIn wsX7_shut wsJ6_bitCount_0f7a4 := goodIn_r _ [32, 33, 34, 35] (by decide +kernel) (by decide +kernel)
set_option maxRecDepth 20000 in
theorem gX7_shut_J6_bitCount_0f7a4 : GoodIn wsX7_shut (va_wsS RX7 130 yJ6_bitCount_0f7a4 wsJ6_bitCount_0f7a4) := goodIn_app (goodIn_of _ (by decide +kernel)) ggX7_shut_J6_bitCount_0f7a4
theorem dX7_shut_0 : decode cX7_shut 0 = .ok (.aload_n 0, 1) := by decide +kernel
theorem dX7_shut_1 : decode cX7_shut 1 = .ok (.iload_n 1, 1) := by decide +kernel
theorem dX7_shut_2 : decode cX7_shut 2 = .ok (.invokevirtual 84, 3) := by decide +kernel
theorem dX7_shut_5 : decode cX7_shut 5 = .ok (.ifCond .eq 10, 3) := by decide +kernel
theorem dX7_shut_8 : decode cX7_shut 8 = .ok (.iload_n 2, 1) := by decide +kernel
theorem dX7_shut_9 : decode cX7_shut 9 = .ok (.invokestatic 123, 3) := by decide +kernel
theorem dX7_shut_12 : decode cX7_shut 12 = .ok (.ifCond .ne 5, 3) := by decide +kernel
theorem dX7_shut_15 : decode cX7_shut 15 = .ok (.iconst (-1), 1) := by decide +kernel
theorem dX7_shut_16 : decode cX7_shut 16 = .ok (.ireturn, 1) := by decide +kernel
theorem dX7_shut_17 : decode cX7_shut 17 = .ok (.aload_n 0, 1) := by decide +kernel
theorem dX7_shut_18 : decode cX7_shut 18 = .ok (.getfield 26, 3) := by decide +kernel
theorem dX7_shut_21 : decode cX7_shut 21 = .ok (.getfield 104, 3) := by decide +kernel
theorem dX7_shut_24 : decode cX7_shut 24 = .ok (.iload_n 1, 1) := by decide +kernel
theorem dX7_shut_25 : decode cX7_shut 25 = .ok (.invokestatic 107, 3) := by decide +kernel
theorem dX7_shut_28 : decode cX7_shut 28 = .ok (.iload_n 2, 1) := by decide +kernel
theorem dX7_shut_29 : decode cX7_shut 29 = .ok (.if_icmp .ne 6, 3) := by decide +kernel
theorem dX7_shut_32 : decode cX7_shut 32 = .ok (.bipush (-2), 2) := by decide +kernel
theorem dX7_shut_34 : decode cX7_shut 34 = .ok (.ireturn, 1) := by decide +kernel
theorem dX7_shut_35 : decode cX7_shut 35 = .ok (.aload_n 0, 1) := by decide +kernel
theorem dX7_shut_36 : decode cX7_shut 36 = .ok (.getfield 26, 3) := by decide +kernel
theorem dX7_shut_39 : decode cX7_shut 39 = .ok (.iload_n 1, 1) := by decide +kernel
theorem dX7_shut_40 : decode cX7_shut 40 = .ok (.invokevirtual 126, 3) := by decide +kernel
theorem dX7_shut_43 : decode cX7_shut 43 = .ok (.aload_n 0, 1) := by decide +kernel
theorem dX7_shut_44 : decode cX7_shut 44 = .ok (.getfield 26, 3) := by decide +kernel
theorem dX7_shut_47 : decode cX7_shut 47 = .ok (.getfield 104, 3) := by decide +kernel
theorem dX7_shut_50 : decode cX7_shut 50 = .ok (.invokestatic 130, 3) := by decide +kernel
theorem dX7_shut_53 : decode cX7_shut 53 = .ok (.ireturn, 1) := by decide +kernel
set_option maxRecDepth 20000 in
theorem ggX7_mirror_X7_isWall : GoodIn wsX7_mirror wsX7_isWall := goodIn_r _ [7, 8, 9, 36, 37, 38, 39, 40, 41, 42, 43, 44, 45, 54, 55, 56, 57, 58, 59, 60, 61, 62] (by decide +kernel) (by decide +kernel)
set_option maxRecDepth 20000 in
theorem gX7_mirror_X7_isWall : GoodIn wsX7_mirror (wsV RX7 84 RX7 yX7_isWall wsX7_isWall) := goodIn_app (goodIn_of _ (by decide +kernel)) ggX7_mirror_X7_isWall
set_option maxRecDepth 20000 in
theorem ggX7_mirror_X7_isBit : GoodIn wsX7_mirror wsX7_isBit := goodIn_r _ [12] (by decide +kernel) (by decide +kernel)
set_option maxRecDepth 20000 in
theorem gX7_mirror_X7_isBit : GoodIn wsX7_mirror (va_wsS RX7 123 yX7_isBit wsX7_isBit) := goodIn_app (goodIn_of _ (by decide +kernel)) ggX7_mirror_X7_isBit
set_option maxRecDepth 20000 in
theorem ggX7_mirror_X7_bit : GoodIn wsX7_mirror wsX7_bit := goodIn_r _ [15] (by decide +kernel) (by decide +kernel)
set_option maxRecDepth 20000 in
theorem gX7_mirror_X7_bit : GoodIn wsX7_mirror (va_wsS RX7 107 yX7_bit wsX7_bit) := goodIn_app (goodIn_of _ (by decide +kernel)) ggX7_mirror_X7_bit
set_option maxRecDepth 20000 in
theorem ggX7_mirror_X1_change : GoodIn wsX7_mirror wsX1_change := goodIn_r _ [20, 21, 22, 23, 24, 25, 19, 26, 27, 28, 46, 47, 48, 49, 50, 51, 52, 53] (by decide +kernel) (by decide +kernel)
set_option maxRecDepth 20000 in
theorem gX7_mirror_X1_change : GoodIn wsX7_mirror (wsV RX7 126 RX1 yX1_change wsX1_change) := goodIn_app (goodIn_of _ (by decide +kernel)) ggX7_mirror_X1_change
set_option maxRecDepth 20000 in
theorem ggX7_mirror_J6_bitCount_0f7a4 : GoodIn wsX7_mirror wsJ6_bitCount_0f7a4 := goodIn_r _ [32, 33, 34, 35] (by decide +kernel) (by decide +kernel)
set_option maxRecDepth 20000 in
theorem gX7_mirror_J6_bitCount_0f7a4 : GoodIn wsX7_mirror (va_wsS RX7 130 yJ6_bitCount_0f7a4 wsJ6_bitCount_0f7a4) := goodIn_app (goodIn_of _ (by decide +kernel)) ggX7_mirror_J6_bitCount_0f7a4
theorem dX7_mirror_0 : decode cX7_mirror 0 = .ok (.aload_n 0, 1) := by decide +kernel
theorem dX7_mirror_1 : decode cX7_mirror 1 = .ok (.iload_n 1, 1) := by decide +kernel
theorem dX7_mirror_2 : decode cX7_mirror 2 = .ok (.invokevirtual 84, 3) := by decide +kernel
theorem dX7_mirror_5 : decode cX7_mirror 5 = .ok (.ifCond .eq 10, 3) := by decide +kernel
theorem dX7_mirror_8 : decode cX7_mirror 8 = .ok (.iload_n 2, 1) := by decide +kernel
theorem dX7_mirror_9 : decode cX7_mirror 9 = .ok (.invokestatic 123, 3) := by decide +kernel
theorem dX7_mirror_12 : decode cX7_mirror 12 = .ok (.ifCond .ne 5, 3) := by decide +kernel
theorem dX7_mirror_15 : decode cX7_mirror 15 = .ok (.iconst (-1), 1) := by decide +kernel
theorem dX7_mirror_16 : decode cX7_mirror 16 = .ok (.ireturn, 1) := by decide +kernel
theorem dX7_mirror_17 : decode cX7_mirror 17 = .ok (.aload_n 0, 1) := by decide +kernel
theorem dX7_mirror_18 : decode cX7_mirror 18 = .ok (.getfield 26, 3) := by decide +kernel
theorem dX7_mirror_21 : decode cX7_mirror 21 = .ok (.getfield 111, 3) := by decide +kernel
theorem dX7_mirror_24 : decode cX7_mirror 24 = .ok (.iload_n 1, 1) := by decide +kernel
theorem dX7_mirror_25 : decode cX7_mirror 25 = .ok (.invokestatic 107, 3) := by decide +kernel
theorem dX7_mirror_28 : decode cX7_mirror 28 = .ok (.iload_n 2, 1) := by decide +kernel
theorem dX7_mirror_29 : decode cX7_mirror 29 = .ok (.if_icmp .ne 6, 3) := by decide +kernel
theorem dX7_mirror_32 : decode cX7_mirror 32 = .ok (.bipush (-2), 2) := by decide +kernel
theorem dX7_mirror_34 : decode cX7_mirror 34 = .ok (.ireturn, 1) := by decide +kernel
theorem dX7_mirror_35 : decode cX7_mirror 35 = .ok (.aload_n 0, 1) := by decide +kernel
theorem dX7_mirror_36 : decode cX7_mirror 36 = .ok (.getfield 26, 3) := by decide +kernel
theorem dX7_mirror_39 : decode cX7_mirror 39 = .ok (.bipush 6, 2) := by decide +kernel
theorem dX7_mirror_41 : decode cX7_mirror 41 = .ok (.iload_n 1, 1) := by decide +kernel
theorem dX7_mirror_42 : decode cX7_mirror 42 = .ok (.iadd, 1) := by decide +kernel
theorem dX7_mirror_43 : decode cX7_mirror 43 = .ok (.invokevirtual 126, 3) := by decide +kernel
theorem dX7_mirror_46 : decode cX7_mirror 46 = .ok (.aload_n 0, 1) := by decide +kernel
theorem dX7_mirror_47 : decode cX7_mirror 47 = .ok (.getfield 26, 3) := by decide +kernel
theorem dX7_mirror_50 : decode cX7_mirror 50 = .ok (.getfield 111, 3) := by decide +kernel
theorem dX7_mirror_53 : decode cX7_mirror 53 = .ok (.invokestatic 130, 3) := by decide +kernel
theorem dX7_mirror_56 : decode cX7_mirror 56 = .ok (.ireturn, 1) := by decide +kernel
set_option maxRecDepth 20000 in
theorem ggX7_undo_X1_changeBack : GoodIn wsX7_undo wsX1_changeBack := goodIn_r _ [7, 8, 9, 10, 11, 12, 6, 13, 14, 15, 26, 27, 28, 29, 30, 31, 32, 33] (by decide +kernel) (by decide +kernel)
set_option maxRecDepth 20000 in
theorem gX7_undo_X1_changeBack : GoodIn wsX7_undo (wsV RX7 138 RX1 yX1_changeBack wsX1_changeBack) := goodIn_app (goodIn_of _ (by decide +kernel)) ggX7_undo_X1_changeBack
theorem dX7_undo_0 : decode cX7_undo 0 = .ok (.aload_n 0, 1) := by decide +kernel
theorem dX7_undo_1 : decode cX7_undo 1 = .ok (.getfield 26, 3) := by decide +kernel
theorem dX7_undo_4 : decode cX7_undo 4 = .ok (.getfield 135, 3) := by decide +kernel
theorem dX7_undo_7 : decode cX7_undo 7 = .ok (.ifCond .gt 6, 3) := by decide +kernel
theorem dX7_undo_10 : decode cX7_undo 10 = .ok (.bipush (-2), 2) := by decide +kernel
theorem dX7_undo_12 : decode cX7_undo 12 = .ok (.ireturn, 1) := by decide +kernel
theorem dX7_undo_13 : decode cX7_undo 13 = .ok (.aload_n 0, 1) := by decide +kernel
theorem dX7_undo_14 : decode cX7_undo 14 = .ok (.getfield 26, 3) := by decide +kernel
theorem dX7_undo_17 : decode cX7_undo 17 = .ok (.invokevirtual 138, 3) := by decide +kernel
theorem dX7_undo_20 : decode cX7_undo 20 = .ok (.aload_n 0, 1) := by decide +kernel
theorem dX7_undo_21 : decode cX7_undo 21 = .ok (.getfield 26, 3) := by decide +kernel
theorem dX7_undo_24 : decode cX7_undo 24 = .ok (.getfield 135, 3) := by decide +kernel
theorem dX7_undo_27 : decode cX7_undo 27 = .ok (.ireturn, 1) := by decide +kernel
set_option maxRecDepth 20000 in
theorem ggX7_now_X1_warmthOfAll : GoodIn wsX7_now wsX1_warmthOfAll := goodIn_r _ [10, 11, 32, 33, 34, 35, 36, 37, 38, 39] (by decide +kernel) (by decide +kernel)
set_option maxRecDepth 20000 in
theorem gX7_now_X1_warmthOfAll : GoodIn wsX7_now (wsV RX7 142 RX1 yX1_warmthOfAll wsX1_warmthOfAll) := goodIn_app (goodIn_of _ (by decide +kernel)) ggX7_now_X1_warmthOfAll
set_option maxRecDepth 20000 in
theorem ggX7_now_X1_tooWarm : GoodIn wsX7_now wsX1_tooWarm := goodIn_r _ [15, 16, 11, 17, 40, 41, 42, 43, 44, 45, 46, 47, 48, 32, 33, 34, 35, 36, 37, 38, 39] (by decide +kernel) (by decide +kernel)
set_option maxRecDepth 20000 in
theorem gX7_now_X1_tooWarm : GoodIn wsX7_now (wsV RX7 148 RX1 yX1_tooWarm wsX1_tooWarm) := goodIn_app (goodIn_of _ (by decide +kernel)) ggX7_now_X1_tooWarm
set_option maxRecDepth 20000 in
theorem ggX7_now_X1_warmest : GoodIn wsX7_now wsX1_warmest := goodIn_r _ [21, 11, 32, 33, 34, 35, 36, 37, 38, 39] (by decide +kernel) (by decide +kernel)
set_option maxRecDepth 20000 in
theorem gX7_now_X1_warmest : GoodIn wsX7_now (wsV RX7 151 RX1 yX1_warmest wsX1_warmest) := goodIn_app (goodIn_of _ (by decide +kernel)) ggX7_now_X1_warmest
theorem dX7_now_0 : decode cX7_now 0 = .ok (.iload_n 1, 1) := by decide +kernel
theorem dX7_now_1 : decode cX7_now 1 = .ok (.tableswitch 93 0 4 #[35, 43, 58, 66, 78], 35) := by decide +kernel
theorem dX7_now_36 : decode cX7_now 36 = .ok (.aload_n 0, 1) := by decide +kernel
theorem dX7_now_37 : decode cX7_now 37 = .ok (.getfield 26, 3) := by decide +kernel
theorem dX7_now_40 : decode cX7_now 40 = .ok (.getfield 117, 3) := by decide +kernel
theorem dX7_now_43 : decode cX7_now 43 = .ok (.ireturn, 1) := by decide +kernel
theorem dX7_now_44 : decode cX7_now 44 = .ok (.aload_n 0, 1) := by decide +kernel
theorem dX7_now_45 : decode cX7_now 45 = .ok (.getfield 26, 3) := by decide +kernel
theorem dX7_now_48 : decode cX7_now 48 = .ok (.aload_n 0, 1) := by decide +kernel
theorem dX7_now_49 : decode cX7_now 49 = .ok (.getfield 51, 3) := by decide +kernel
theorem dX7_now_52 : decode cX7_now 52 = .ok (.getfield 141, 3) := by decide +kernel
theorem dX7_now_55 : decode cX7_now 55 = .ok (.invokevirtual 142, 3) := by decide +kernel
theorem dX7_now_58 : decode cX7_now 58 = .ok (.ireturn, 1) := by decide +kernel
theorem dX7_now_59 : decode cX7_now 59 = .ok (.aload_n 0, 1) := by decide +kernel
theorem dX7_now_60 : decode cX7_now 60 = .ok (.getfield 26, 3) := by decide +kernel
theorem dX7_now_63 : decode cX7_now 63 = .ok (.getfield 145, 3) := by decide +kernel
theorem dX7_now_66 : decode cX7_now 66 = .ok (.ireturn, 1) := by decide +kernel
theorem dX7_now_67 : decode cX7_now 67 = .ok (.aload_n 0, 1) := by decide +kernel
theorem dX7_now_68 : decode cX7_now 68 = .ok (.getfield 26, 3) := by decide +kernel
theorem dX7_now_71 : decode cX7_now 71 = .ok (.aload_n 0, 1) := by decide +kernel
theorem dX7_now_72 : decode cX7_now 72 = .ok (.getfield 51, 3) := by decide +kernel
theorem dX7_now_75 : decode cX7_now 75 = .ok (.invokevirtual 148, 3) := by decide +kernel
theorem dX7_now_78 : decode cX7_now 78 = .ok (.ireturn, 1) := by decide +kernel
theorem dX7_now_79 : decode cX7_now 79 = .ok (.aload_n 0, 1) := by decide +kernel
theorem dX7_now_80 : decode cX7_now 80 = .ok (.getfield 26, 3) := by decide +kernel
theorem dX7_now_83 : decode cX7_now 83 = .ok (.aload_n 0, 1) := by decide +kernel
theorem dX7_now_84 : decode cX7_now 84 = .ok (.getfield 51, 3) := by decide +kernel
theorem dX7_now_87 : decode cX7_now 87 = .ok (.getfield 141, 3) := by decide +kernel
theorem dX7_now_90 : decode cX7_now 90 = .ok (.invokevirtual 151, 3) := by decide +kernel
theorem dX7_now_93 : decode cX7_now 93 = .ok (.ireturn, 1) := by decide +kernel
theorem dX7_now_94 : decode cX7_now 94 = .ok (.iconst (-1), 1) := by decide +kernel
theorem dX7_now_95 : decode cX7_now 95 = .ok (.ireturn, 1) := by decide +kernel
set_option maxRecDepth 20000 in
theorem ggX7_behind_X7_isWithin : GoodIn wsX7_behind wsX7_isWithin := goodIn_r _ [9] (by decide +kernel) (by decide +kernel)
set_option maxRecDepth 20000 in
theorem gX7_behind_X7_isWithin : GoodIn wsX7_behind (va_wsS RX7 154 yX7_isWithin wsX7_isWithin) := goodIn_app (goodIn_of _ (by decide +kernel)) ggX7_behind_X7_isWithin
set_option maxRecDepth 20000 in
theorem ggX7_behind_X7_isWall : GoodIn wsX7_behind wsX7_isWall := goodIn_r _ [13, 3, 14, 52, 53, 54, 55, 56, 57, 58, 59, 60, 61, 73, 74, 75, 76, 77, 78, 79, 80, 81] (by decide +kernel) (by decide +kernel)
set_option maxRecDepth 20000 in
theorem gX7_behind_X7_isWall : GoodIn wsX7_behind (wsV RX7 84 RX7 yX7_isWall wsX7_isWall) := goodIn_app (goodIn_of _ (by decide +kernel)) ggX7_behind_X7_isWall
set_option maxRecDepth 20000 in
theorem ggX7_behind_X0_setOut : GoodIn wsX7_behind wsX0_setOut := goodIn_r _ [19, 20, 21, 22, 23, 24, 25, 26, 27, 28, 29, 30, 62, 63, 64, 65, 66, 67, 68, 69, 70, 71, 72] (by decide +kernel) (by decide +kernel)
set_option maxRecDepth 20000 in
theorem gX7_behind_X0_setOut : GoodIn wsX7_behind (wsV RX7 158 RX0 yX0_setOut wsX0_setOut) := goodIn_app (goodIn_of _ (by decide +kernel)) ggX7_behind_X0_setOut
set_option maxRecDepth 20000 in
theorem ggX7_behind_X0_goOn : GoodIn wsX7_behind wsX0_goOn := goodIn_r _ [34, 20, 35, 36, 37, 24, 38, 26, 39, 40, 30, 41, 42, 43, 29, 44, 8, 45, 46, 47, 48, 49, 27, 50, 51, 28, 62, 63, 64, 65, 66, 67, 68, 69, 70, 71, 72, 73, 74, 75, 76, 77, 78, 79, 80, 81] (by decide +kernel) (by decide +kernel)
set_option maxRecDepth 20000 in
theorem gX7_behind_X0_goOn : GoodIn wsX7_behind (wsV RX7 162 RX0 yX0_goOn wsX0_goOn) := goodIn_app (goodIn_of _ (by decide +kernel)) ggX7_behind_X0_goOn
theorem dX7_behind_0 : decode cX7_behind 0 = .ok (.iload_n 1, 1) := by decide +kernel
theorem dX7_behind_1 : decode cX7_behind 1 = .ok (.bipush 50, 2) := by decide +kernel
theorem dX7_behind_3 : decode cX7_behind 3 = .ok (.invokestatic 154, 3) := by decide +kernel
theorem dX7_behind_6 : decode cX7_behind 6 = .ok (.ifCond .eq 11, 3) := by decide +kernel
theorem dX7_behind_9 : decode cX7_behind 9 = .ok (.aload_n 0, 1) := by decide +kernel
theorem dX7_behind_10 : decode cX7_behind 10 = .ok (.iload_n 2, 1) := by decide +kernel
theorem dX7_behind_11 : decode cX7_behind 11 = .ok (.invokevirtual 84, 3) := by decide +kernel
theorem dX7_behind_14 : decode cX7_behind 14 = .ok (.ifCond .ne 5, 3) := by decide +kernel
theorem dX7_behind_17 : decode cX7_behind 17 = .ok (.iconst (-1), 1) := by decide +kernel
theorem dX7_behind_18 : decode cX7_behind 18 = .ok (.ireturn, 1) := by decide +kernel
theorem dX7_behind_19 : decode cX7_behind 19 = .ok (.aload_n 0, 1) := by decide +kernel
theorem dX7_behind_20 : decode cX7_behind 20 = .ok (.getfield 40, 3) := by decide +kernel
theorem dX7_behind_23 : decode cX7_behind 23 = .ok (.aload_n 0, 1) := by decide +kernel
theorem dX7_behind_24 : decode cX7_behind 24 = .ok (.getfield 26, 3) := by decide +kernel
theorem dX7_behind_27 : decode cX7_behind 27 = .ok (.invokevirtual 158, 3) := by decide +kernel
theorem dX7_behind_30 : decode cX7_behind 30 = .ok (.aload_n 0, 1) := by decide +kernel
theorem dX7_behind_31 : decode cX7_behind 31 = .ok (.getfield 40, 3) := by decide +kernel
theorem dX7_behind_34 : decode cX7_behind 34 = .ok (.aload_n 0, 1) := by decide +kernel
theorem dX7_behind_35 : decode cX7_behind 35 = .ok (.getfield 51, 3) := by decide +kernel
theorem dX7_behind_38 : decode cX7_behind 38 = .ok (.iload_n 1, 1) := by decide +kernel
theorem dX7_behind_39 : decode cX7_behind 39 = .ok (.invokevirtual 162, 3) := by decide +kernel
theorem dX7_behind_42 : decode cX7_behind 42 = .ok (.aload_n 0, 1) := by decide +kernel
theorem dX7_behind_43 : decode cX7_behind 43 = .ok (.getfield 40, 3) := by decide +kernel
theorem dX7_behind_46 : decode cX7_behind 46 = .ok (.getfield 166, 3) := by decide +kernel
theorem dX7_behind_49 : decode cX7_behind 49 = .ok (.getfield 87, 3) := by decide +kernel
theorem dX7_behind_52 : decode cX7_behind 52 = .ok (.iload_n 2, 1) := by decide +kernel
theorem dX7_behind_53 : decode cX7_behind 53 = .ok (.iaload, 1) := by decide +kernel
theorem dX7_behind_54 : decode cX7_behind 54 = .ok (.ireturn, 1) := by decide +kernel
set_option maxRecDepth 20000 in
theorem ggX7_first_X7_isBit : GoodIn wsX7_first wsX7_isBit := goodIn_r _ [8] (by decide +kernel) (by decide +kernel)
set_option maxRecDepth 20000 in
theorem gX7_first_X7_isBit : GoodIn wsX7_first (va_wsS RX7 123 yX7_isBit wsX7_isBit) := goodIn_app (goodIn_of _ (by decide +kernel)) ggX7_first_X7_isBit
set_option maxRecDepth 20000 in
theorem ggX7_first_X0_setOut : GoodIn wsX7_first wsX0_setOut := goodIn_r _ [13, 14, 15, 16, 17, 18, 19, 20, 21, 22, 23, 24, 65, 66, 67, 68, 69, 70, 71, 72, 73, 74, 75] (by decide +kernel) (by decide +kernel)
set_option maxRecDepth 20000 in
theorem gX7_first_X0_setOut : GoodIn wsX7_first (wsV RX7 158 RX0 yX0_setOut wsX0_setOut) := goodIn_app (goodIn_of _ (by decide +kernel)) ggX7_first_X0_setOut
set_option maxRecDepth 20000 in
theorem ggX7_first_X1_tooWarm : GoodIn wsX7_first wsX1_tooWarm := goodIn_r _ [28, 29, 24, 30, 76, 77, 78, 79, 80, 81, 82, 83, 84, 68, 69, 70, 71, 72, 73, 74, 75] (by decide +kernel) (by decide +kernel)
set_option maxRecDepth 20000 in
theorem gX7_first_X1_tooWarm : GoodIn wsX7_first (wsV RX7 148 RX1 yX1_tooWarm wsX1_tooWarm) := goodIn_app (goodIn_of _ (by decide +kernel)) ggX7_first_X1_tooWarm
set_option maxRecDepth 20000 in
theorem ggX7_first_X7_leastOf : GoodIn wsX7_first wsX7_leastOf := goodIn_r _ [33, 34, 35, 7, 36] (by decide +kernel) (by decide +kernel)
set_option maxRecDepth 20000 in
theorem gX7_first_X7_leastOf : GoodIn wsX7_first (va_wsS RX7 169 yX7_leastOf wsX7_leastOf) := goodIn_app (goodIn_of _ (by decide +kernel)) ggX7_first_X7_leastOf
set_option maxRecDepth 20000 in
theorem ggX7_first_X0_goOn : GoodIn wsX7_first wsX0_goOn := goodIn_r _ [40, 14, 41, 42, 43, 18, 44, 20, 29, 45, 24, 46, 47, 48, 23, 35, 7, 36, 49, 50, 51, 52, 21, 53, 54, 22, 65, 66, 67, 68, 69, 70, 71, 72, 73, 74, 75, 76, 77, 78, 79, 80, 81, 82, 83, 84] (by decide +kernel) (by decide +kernel)
set_option maxRecDepth 20000 in
theorem gX7_first_X0_goOn : GoodIn wsX7_first (wsV RX7 162 RX0 yX0_goOn wsX0_goOn) := goodIn_app (goodIn_of _ (by decide +kernel)) ggX7_first_X0_goOn
theorem dX7_first_0 : decode cX7_first 0 = .ok (.iload_n 1, 1) := by decide +kernel
theorem dX7_first_1 : decode cX7_first 1 = .ok (.invokestatic 123, 3) := by decide +kernel
theorem dX7_first_4 : decode cX7_first 4 = .ok (.ifCond .ne 5, 3) := by decide +kernel
theorem dX7_first_7 : decode cX7_first 7 = .ok (.iconst (-1), 1) := by decide +kernel
theorem dX7_first_8 : decode cX7_first 8 = .ok (.ireturn, 1) := by decide +kernel
theorem dX7_first_9 : decode cX7_first 9 = .ok (.aload_n 0, 1) := by decide +kernel
theorem dX7_first_10 : decode cX7_first 10 = .ok (.getfield 40, 3) := by decide +kernel
theorem dX7_first_13 : decode cX7_first 13 = .ok (.aload_n 0, 1) := by decide +kernel
theorem dX7_first_14 : decode cX7_first 14 = .ok (.getfield 26, 3) := by decide +kernel
theorem dX7_first_17 : decode cX7_first 17 = .ok (.invokevirtual 158, 3) := by decide +kernel
theorem dX7_first_20 : decode cX7_first 20 = .ok (.iconst 0, 1) := by decide +kernel
theorem dX7_first_21 : decode cX7_first 21 = .ok (.istore_n 2, 1) := by decide +kernel
theorem dX7_first_22 : decode cX7_first 22 = .ok (.iload_n 2, 1) := by decide +kernel
theorem dX7_first_23 : decode cX7_first 23 = .ok (.bipush 50, 2) := by decide +kernel
theorem dX7_first_25 : decode cX7_first 25 = .ok (.if_icmp .gt 53, 3) := by decide +kernel
theorem dX7_first_28 : decode cX7_first 28 = .ok (.aload_n 0, 1) := by decide +kernel
theorem dX7_first_29 : decode cX7_first 29 = .ok (.getfield 40, 3) := by decide +kernel
theorem dX7_first_32 : decode cX7_first 32 = .ok (.getfield 166, 3) := by decide +kernel
theorem dX7_first_35 : decode cX7_first 35 = .ok (.aload_n 0, 1) := by decide +kernel
theorem dX7_first_36 : decode cX7_first 36 = .ok (.getfield 51, 3) := by decide +kernel
theorem dX7_first_39 : decode cX7_first 39 = .ok (.invokevirtual 148, 3) := by decide +kernel
theorem dX7_first_42 : decode cX7_first 42 = .ok (.istore_n 3, 1) := by decide +kernel
theorem dX7_first_43 : decode cX7_first 43 = .ok (.iload_n 3, 1) := by decide +kernel
theorem dX7_first_44 : decode cX7_first 44 = .ok (.ifCond .eq 16, 3) := by decide +kernel
theorem dX7_first_47 : decode cX7_first 47 = .ok (.iload_n 1, 1) := by decide +kernel
theorem dX7_first_48 : decode cX7_first 48 = .ok (.ifCond .ne 7, 3) := by decide +kernel
theorem dX7_first_51 : decode cX7_first 51 = .ok (.iload_n 2, 1) := by decide +kernel
theorem dX7_first_52 : decode cX7_first 52 = .ok (.goto 7, 3) := by decide +kernel
theorem dX7_first_55 : decode cX7_first 55 = .ok (.iload_n 3, 1) := by decide +kernel
theorem dX7_first_56 : decode cX7_first 56 = .ok (.invokestatic 169, 3) := by decide +kernel
theorem dX7_first_59 : decode cX7_first 59 = .ok (.ireturn, 1) := by decide +kernel
theorem dX7_first_60 : decode cX7_first 60 = .ok (.aload_n 0, 1) := by decide +kernel
theorem dX7_first_61 : decode cX7_first 61 = .ok (.getfield 40, 3) := by decide +kernel
theorem dX7_first_64 : decode cX7_first 64 = .ok (.aload_n 0, 1) := by decide +kernel
theorem dX7_first_65 : decode cX7_first 65 = .ok (.getfield 51, 3) := by decide +kernel
theorem dX7_first_68 : decode cX7_first 68 = .ok (.iconst 1, 1) := by decide +kernel
theorem dX7_first_69 : decode cX7_first 69 = .ok (.invokevirtual 162, 3) := by decide +kernel
theorem dX7_first_72 : decode cX7_first 72 = .ok (.iinc 2 1, 3) := by decide +kernel
theorem dX7_first_75 : decode cX7_first 75 = .ok (.goto (-53), 3) := by decide +kernel
theorem dX7_first_78 : decode cX7_first 78 = .ok (.bipush (-9), 2) := by decide +kernel
theorem dX7_first_80 : decode cX7_first 80 = .ok (.ireturn, 1) := by decide +kernel
set_option maxRecDepth 20000 in
theorem ggX7_rest_X0_setOut : GoodIn wsX7_rest wsX0_setOut := goodIn_r _ [8, 9, 10, 11, 12, 13, 14, 15, 16, 17, 18, 19, 59, 60, 61, 62, 63, 64, 65, 66, 67, 68, 69] (by decide +kernel) (by decide +kernel)
set_option maxRecDepth 20000 in
theorem gX7_rest_X0_setOut : GoodIn wsX7_rest (wsV RX7 158 RX0 yX0_setOut wsX0_setOut) := goodIn_app (goodIn_of _ (by decide +kernel)) ggX7_rest_X0_setOut
set_option maxRecDepth 20000 in
theorem ggX7_rest_X0_hoursToRest : GoodIn wsX7_rest wsX0_hoursToRest := goodIn_r _ [23, 24, 25, 9, 26, 27, 28, 29, 7, 30, 31, 32, 33, 13, 34, 15, 35, 36, 19, 37, 38, 39, 18, 40, 41, 42, 43, 44, 45, 46, 16, 47, 48, 17, 70, 71, 72, 73, 74, 75, 76, 77, 78, 59, 60, 61, 62, 63, 64, 65, 66, 67, 68, 69] (by decide +kernel) (by decide +kernel)
set_option maxRecDepth 20000 in
theorem gX7_rest_X0_hoursToRest : GoodIn wsX7_rest (wsV RX7 172 RX0 yX0_hoursToRest wsX0_hoursToRest) := goodIn_app (goodIn_of _ (by decide +kernel)) ggX7_rest_X0_hoursToRest
theorem dX7_rest_0 : decode cX7_rest 0 = .ok (.aload_n 0, 1) := by decide +kernel
theorem dX7_rest_1 : decode cX7_rest 1 = .ok (.getfield 40, 3) := by decide +kernel
theorem dX7_rest_4 : decode cX7_rest 4 = .ok (.aload_n 0, 1) := by decide +kernel
theorem dX7_rest_5 : decode cX7_rest 5 = .ok (.getfield 26, 3) := by decide +kernel
theorem dX7_rest_8 : decode cX7_rest 8 = .ok (.invokevirtual 158, 3) := by decide +kernel
theorem dX7_rest_11 : decode cX7_rest 11 = .ok (.aload_n 0, 1) := by decide +kernel
theorem dX7_rest_12 : decode cX7_rest 12 = .ok (.getfield 40, 3) := by decide +kernel
theorem dX7_rest_15 : decode cX7_rest 15 = .ok (.aload_n 0, 1) := by decide +kernel
theorem dX7_rest_16 : decode cX7_rest 16 = .ok (.getfield 51, 3) := by decide +kernel
theorem dX7_rest_19 : decode cX7_rest 19 = .ok (.invokevirtual 172, 3) := by decide +kernel
theorem dX7_rest_22 : decode cX7_rest 22 = .ok (.ireturn, 1) := by decide +kernel
set_option maxRecDepth 20000 in
theorem ggX7_coolest_X7_isWithin : GoodIn wsX7_coolest wsX7_isWithin := goodIn_r _ [8] (by decide +kernel) (by decide +kernel)
set_option maxRecDepth 20000 in
theorem gX7_coolest_X7_isWithin : GoodIn wsX7_coolest (va_wsS RX7 154 yX7_isWithin wsX7_isWithin) := goodIn_app (goodIn_of _ (by decide +kernel)) ggX7_coolest_X7_isWithin
set_option maxRecDepth 20000 in
theorem ggX7_coolest_X7_isBit : GoodIn wsX7_coolest wsX7_isBit := goodIn_r _ [11] (by decide +kernel) (by decide +kernel)
set_option maxRecDepth 20000 in
theorem gX7_coolest_X7_isBit : GoodIn wsX7_coolest (va_wsS RX7 123 yX7_isBit wsX7_isBit) := goodIn_app (goodIn_of _ (by decide +kernel)) ggX7_coolest_X7_isBit
set_option maxRecDepth 20000 in
theorem ggX7_coolest_X0_warmestIfShut : GoodIn wsX7_coolest wsX0_warmestIfShut := goodIn_r _ [16, 17, 18, 19, 20, 21, 22, 15, 23, 24, 25, 26, 27, 28, 29, 30, 31, 32, 33, 34, 35, 36, 37, 38, 39, 40, 41, 42, 43, 44, 45, 46, 47, 7, 48, 49, 50, 51, 52, 53, 54, 55, 56, 57, 58, 59, 60, 61, 62, 82, 83, 84, 85, 86, 87, 88, 89, 90, 91, 92, 73, 74, 75, 76, 77, 78, 79, 80, 81] (by decide +kernel) (by decide +kernel)
set_option maxRecDepth 20000 in
theorem gX7_coolest_X0_warmestIfShut : GoodIn wsX7_coolest (wsV RX7 175 RX0 yX0_warmestIfShut wsX0_warmestIfShut) := goodIn_app (goodIn_of _ (by decide +kernel)) ggX7_coolest_X0_warmestIfShut
theorem dX7_coolest_0 : decode cX7_coolest 0 = .ok (.iload_n 1, 1) := by decide +kernel
theorem dX7_coolest_1 : decode cX7_coolest 1 = .ok (.bipush 20, 2) := by decide +kernel
theorem dX7_coolest_3 : decode cX7_coolest 3 = .ok (.invokestatic 154, 3) := by decide +kernel
theorem dX7_coolest_6 : decode cX7_coolest 6 = .ok (.ifCond .eq 10, 3) := by decide +kernel
theorem dX7_coolest_9 : decode cX7_coolest 9 = .ok (.iload_n 2, 1) := by decide +kernel
theorem dX7_coolest_10 : decode cX7_coolest 10 = .ok (.invokestatic 123, 3) := by decide +kernel
theorem dX7_coolest_13 : decode cX7_coolest 13 = .ok (.ifCond .ne 5, 3) := by decide +kernel
theorem dX7_coolest_16 : decode cX7_coolest 16 = .ok (.iconst (-1), 1) := by decide +kernel
theorem dX7_coolest_17 : decode cX7_coolest 17 = .ok (.ireturn, 1) := by decide +kernel
theorem dX7_coolest_18 : decode cX7_coolest 18 = .ok (.aload_n 0, 1) := by decide +kernel
theorem dX7_coolest_19 : decode cX7_coolest 19 = .ok (.getfield 51, 3) := by decide +kernel
theorem dX7_coolest_22 : decode cX7_coolest 22 = .ok (.getfield 141, 3) := by decide +kernel
theorem dX7_coolest_25 : decode cX7_coolest 25 = .ok (.ifCond .ne 6, 3) := by decide +kernel
theorem dX7_coolest_28 : decode cX7_coolest 28 = .ok (.bipush (-9), 2) := by decide +kernel
theorem dX7_coolest_30 : decode cX7_coolest 30 = .ok (.ireturn, 1) := by decide +kernel
theorem dX7_coolest_31 : decode cX7_coolest 31 = .ok (.iconst 0, 1) := by decide +kernel
theorem dX7_coolest_32 : decode cX7_coolest 32 = .ok (.istore_n 3, 1) := by decide +kernel
theorem dX7_coolest_33 : decode cX7_coolest 33 = .ok (.bipush (-9), 2) := by decide +kernel
theorem dX7_coolest_35 : decode cX7_coolest 35 = .ok (.istore 4, 2) := by decide +kernel
theorem dX7_coolest_37 : decode cX7_coolest 37 = .ok (.iconst 0, 1) := by decide +kernel
theorem dX7_coolest_38 : decode cX7_coolest 38 = .ok (.istore 5, 2) := by decide +kernel
theorem dX7_coolest_40 : decode cX7_coolest 40 = .ok (.iload 5, 2) := by decide +kernel
theorem dX7_coolest_42 : decode cX7_coolest 42 = .ok (.iconst 1, 1) := by decide +kernel
theorem dX7_coolest_43 : decode cX7_coolest 43 = .ok (.aload_n 0, 1) := by decide +kernel
theorem dX7_coolest_44 : decode cX7_coolest 44 = .ok (.getfield 51, 3) := by decide +kernel
theorem dX7_coolest_47 : decode cX7_coolest 47 = .ok (.getfield 141, 3) := by decide +kernel
theorem dX7_coolest_50 : decode cX7_coolest 50 = .ok (.ishl, 1) := by decide +kernel
theorem dX7_coolest_51 : decode cX7_coolest 51 = .ok (.if_icmp .ge 49, 3) := by decide +kernel
theorem dX7_coolest_54 : decode cX7_coolest 54 = .ok (.aload_n 0, 1) := by decide +kernel
theorem dX7_coolest_55 : decode cX7_coolest 55 = .ok (.getfield 40, 3) := by decide +kernel
theorem dX7_coolest_58 : decode cX7_coolest 58 = .ok (.aload_n 0, 1) := by decide +kernel
theorem dX7_coolest_59 : decode cX7_coolest 59 = .ok (.getfield 26, 3) := by decide +kernel
theorem dX7_coolest_62 : decode cX7_coolest 62 = .ok (.aload_n 0, 1) := by decide +kernel
theorem dX7_coolest_63 : decode cX7_coolest 63 = .ok (.getfield 51, 3) := by decide +kernel
theorem dX7_coolest_66 : decode cX7_coolest 66 = .ok (.iload 5, 2) := by decide +kernel
theorem dX7_coolest_68 : decode cX7_coolest 68 = .ok (.iload_n 1, 1) := by decide +kernel
theorem dX7_coolest_69 : decode cX7_coolest 69 = .ok (.invokevirtual 175, 3) := by decide +kernel
theorem dX7_coolest_72 : decode cX7_coolest 72 = .ok (.istore 6, 2) := by decide +kernel
theorem dX7_coolest_74 : decode cX7_coolest 74 = .ok (.iload 4, 2) := by decide +kernel
theorem dX7_coolest_76 : decode cX7_coolest 76 = .ok (.bipush (-9), 2) := by decide +kernel
theorem dX7_coolest_78 : decode cX7_coolest 78 = .ok (.if_icmp .eq 9, 3) := by decide +kernel
theorem dX7_coolest_81 : decode cX7_coolest 81 = .ok (.iload 6, 2) := by decide +kernel
theorem dX7_coolest_83 : decode cX7_coolest 83 = .ok (.iload_n 3, 1) := by decide +kernel
theorem dX7_coolest_84 : decode cX7_coolest 84 = .ok (.if_icmp .ge 10, 3) := by decide +kernel
theorem dX7_coolest_87 : decode cX7_coolest 87 = .ok (.iload 6, 2) := by decide +kernel
theorem dX7_coolest_89 : decode cX7_coolest 89 = .ok (.istore_n 3, 1) := by decide +kernel
theorem dX7_coolest_90 : decode cX7_coolest 90 = .ok (.iload 5, 2) := by decide +kernel
theorem dX7_coolest_92 : decode cX7_coolest 92 = .ok (.istore 4, 2) := by decide +kernel
theorem dX7_coolest_94 : decode cX7_coolest 94 = .ok (.iinc 5 1, 3) := by decide +kernel
theorem dX7_coolest_97 : decode cX7_coolest 97 = .ok (.goto (-57), 3) := by decide +kernel
theorem dX7_coolest_100 : decode cX7_coolest 100 = .ok (.iload_n 2, 1) := by decide +kernel
theorem dX7_coolest_101 : decode cX7_coolest 101 = .ok (.ifCond .ne 7, 3) := by decide +kernel
theorem dX7_coolest_104 : decode cX7_coolest 104 = .ok (.iload_n 3, 1) := by decide +kernel
theorem dX7_coolest_105 : decode cX7_coolest 105 = .ok (.goto 5, 3) := by decide +kernel
theorem dX7_coolest_108 : decode cX7_coolest 108 = .ok (.iload 4, 2) := by decide +kernel
theorem dX7_coolest_110 : decode cX7_coolest 110 = .ok (.ireturn, 1) := by decide +kernel
set_option maxRecDepth 20000 in
theorem ggX7_busy_X7_isWall : GoodIn wsX7_busy wsX7_isWall := goodIn_r _ [8, 3, 9, 83, 84, 85, 86, 87, 88, 89, 90, 91, 92, 96, 97, 98, 99, 100, 101, 102, 103, 104] (by decide +kernel) (by decide +kernel)
set_option maxRecDepth 20000 in
theorem gX7_busy_X7_isWall : GoodIn wsX7_busy (wsV RX7 84 RX7 yX7_isWall wsX7_isWall) := goodIn_app (goodIn_of _ (by decide +kernel)) ggX7_busy_X7_isWall
set_option maxRecDepth 20000 in
theorem ggX7_busy_X7_isBit : GoodIn wsX7_busy wsX7_isBit := goodIn_r _ [12] (by decide +kernel) (by decide +kernel)
set_option maxRecDepth 20000 in
theorem gX7_busy_X7_isBit : GoodIn wsX7_busy (va_wsS RX7 123 yX7_isBit wsX7_isBit) := goodIn_app (goodIn_of _ (by decide +kernel)) ggX7_busy_X7_isBit
set_option maxRecDepth 20000 in
theorem ggX7_busy_X6_copy : GoodIn wsX7_busy wsX6_copy := goodIn_r _ [17, 18, 19, 20, 21, 22, 23, 24, 25, 26, 96, 97, 98, 99, 100, 101, 102, 103, 104] (by decide +kernel) (by decide +kernel)
set_option maxRecDepth 20000 in
theorem gX7_busy_X6_copy : GoodIn wsX7_busy (wsV RX7 182 RX6 yX6_copy wsX6_copy) := goodIn_app (goodIn_of _ (by decide +kernel)) ggX7_busy_X6_copy
set_option maxRecDepth 20000 in
theorem ggX7_busy_X7_busyHours : GoodIn wsX7_busy wsX7_busyHours := goodIn_r _ [30, 1, 2, 31, 32, 33, 34, 35, 36, 37, 38, 39, 40, 41, 42, 43, 44, 45, 46, 47, 48, 49, 50, 51, 52, 53, 54, 55, 56, 57, 58, 59, 60, 61, 62, 63, 64, 65, 66, 67, 68, 69, 70, 7, 71, 72, 73, 74, 75, 76, 77, 78, 79, 80, 81, 82, 83, 84, 85, 86, 87, 88, 89, 90, 91, 92, 93, 94, 95, 96, 97, 98, 99, 100, 101, 102, 103, 104, 105, 106, 107, 108, 109, 110, 111, 112] (by decide +kernel) (by decide +kernel)
set_option maxRecDepth 20000 in
theorem gX7_busy_X7_busyHours : GoodIn wsX7_busy (wsV RX7 185 RX7 yX7_busyHours wsX7_busyHours) := goodIn_app (goodIn_of _ (by decide +kernel)) ggX7_busy_X7_busyHours
theorem dX7_busy_0 : decode cX7_busy 0 = .ok (.aload_n 0, 1) := by decide +kernel
theorem dX7_busy_1 : decode cX7_busy 1 = .ok (.iload_n 1, 1) := by decide +kernel
theorem dX7_busy_2 : decode cX7_busy 2 = .ok (.invokevirtual 84, 3) := by decide +kernel
theorem dX7_busy_5 : decode cX7_busy 5 = .ok (.ifCond .eq 10, 3) := by decide +kernel
theorem dX7_busy_8 : decode cX7_busy 8 = .ok (.iload_n 2, 1) := by decide +kernel
theorem dX7_busy_9 : decode cX7_busy 9 = .ok (.invokestatic 123, 3) := by decide +kernel
theorem dX7_busy_12 : decode cX7_busy 12 = .ok (.ifCond .ne 5, 3) := by decide +kernel
theorem dX7_busy_15 : decode cX7_busy 15 = .ok (.iconst (-1), 1) := by decide +kernel
theorem dX7_busy_16 : decode cX7_busy 16 = .ok (.ireturn, 1) := by decide +kernel
theorem dX7_busy_17 : decode cX7_busy 17 = .ok (.aload_n 0, 1) := by decide +kernel
theorem dX7_busy_18 : decode cX7_busy 18 = .ok (.getfield 40, 3) := by decide +kernel
theorem dX7_busy_21 : decode cX7_busy 21 = .ok (.getfield 179, 3) := by decide +kernel
theorem dX7_busy_24 : decode cX7_busy 24 = .ok (.aload_n 0, 1) := by decide +kernel
theorem dX7_busy_25 : decode cX7_busy 25 = .ok (.getfield 51, 3) := by decide +kernel
theorem dX7_busy_28 : decode cX7_busy 28 = .ok (.invokevirtual 182, 3) := by decide +kernel
theorem dX7_busy_31 : decode cX7_busy 31 = .ok (.bipush 8, 2) := by decide +kernel
theorem dX7_busy_33 : decode cX7_busy 33 = .ok (.istore_n 3, 1) := by decide +kernel
theorem dX7_busy_34 : decode cX7_busy 34 = .ok (.iload_n 3, 1) := by decide +kernel
theorem dX7_busy_35 : decode cX7_busy 35 = .ok (.ifCond .lt 35, 3) := by decide +kernel
theorem dX7_busy_38 : decode cX7_busy 38 = .ok (.aload_n 0, 1) := by decide +kernel
theorem dX7_busy_39 : decode cX7_busy 39 = .ok (.iload_n 1, 1) := by decide +kernel
theorem dX7_busy_40 : decode cX7_busy 40 = .ok (.iload_n 3, 1) := by decide +kernel
theorem dX7_busy_41 : decode cX7_busy 41 = .ok (.invokevirtual 185, 3) := by decide +kernel
theorem dX7_busy_44 : decode cX7_busy 44 = .ok (.istore 4, 2) := by decide +kernel
theorem dX7_busy_46 : decode cX7_busy 46 = .ok (.iload 4, 2) := by decide +kernel
theorem dX7_busy_48 : decode cX7_busy 48 = .ok (.bipush (-9), 2) := by decide +kernel
theorem dX7_busy_50 : decode cX7_busy 50 = .ok (.if_icmp .eq 14, 3) := by decide +kernel
theorem dX7_busy_53 : decode cX7_busy 53 = .ok (.iload_n 2, 1) := by decide +kernel
theorem dX7_busy_54 : decode cX7_busy 54 = .ok (.ifCond .ne 7, 3) := by decide +kernel
theorem dX7_busy_57 : decode cX7_busy 57 = .ok (.iload_n 3, 1) := by decide +kernel
theorem dX7_busy_58 : decode cX7_busy 58 = .ok (.goto 5, 3) := by decide +kernel
theorem dX7_busy_61 : decode cX7_busy 61 = .ok (.iload 4, 2) := by decide +kernel
theorem dX7_busy_63 : decode cX7_busy 63 = .ok (.ireturn, 1) := by decide +kernel
theorem dX7_busy_64 : decode cX7_busy 64 = .ok (.iinc 3 (-1), 3) := by decide +kernel
theorem dX7_busy_67 : decode cX7_busy 67 = .ok (.goto (-33), 3) := by decide +kernel
theorem dX7_busy_70 : decode cX7_busy 70 = .ok (.bipush (-9), 2) := by decide +kernel
theorem dX7_busy_72 : decode cX7_busy 72 = .ok (.ireturn, 1) := by decide +kernel
set_option maxRecDepth 20000 in
theorem ggX7_blanket_X7_isWall : GoodIn wsX7_blanket wsX7_isWall := goodIn_r _ [7, 1, 2, 68, 69, 70, 71, 72, 73, 74, 75, 76, 77, 78, 79, 80, 81, 82, 83, 84, 85, 86] (by decide +kernel) (by decide +kernel)
set_option maxRecDepth 20000 in
theorem gX7_blanket_X7_isWall : GoodIn wsX7_blanket (wsV RX7 84 RX7 yX7_isWall wsX7_isWall) := goodIn_app (goodIn_of _ (by decide +kernel)) ggX7_blanket_X7_isWall
set_option maxRecDepth 20000 in
theorem ggX7_blanket_X7_isWithin : GoodIn wsX7_blanket wsX7_isWithin := goodIn_r _ [10] (by decide +kernel) (by decide +kernel)
set_option maxRecDepth 20000 in
theorem gX7_blanket_X7_isWithin : GoodIn wsX7_blanket (va_wsS RX7 154 yX7_isWithin wsX7_isWithin) := goodIn_app (goodIn_of _ (by decide +kernel)) ggX7_blanket_X7_isWithin
set_option maxRecDepth 20000 in
theorem ggX7_blanket_X7_blanketOf : GoodIn wsX7_blanket wsX7_blanketOf := goodIn_r _ [14, 15, 16, 1, 2, 17, 18, 19, 20, 21, 22, 23, 24, 25, 26, 27, 28, 29, 30, 31, 32, 33, 34, 35, 36, 37, 38, 39, 40, 41, 42, 43, 44, 45, 46, 47, 48, 49, 50, 51, 52, 53, 54, 55, 56, 57, 58, 59, 60, 6, 61, 62, 63, 64, 65, 66, 67, 68, 69, 70, 71, 72, 73, 74, 75, 76, 77, 87, 88, 89, 90, 91, 92, 93, 94, 78, 79, 80, 81, 82, 83, 84, 85, 86, 95, 96, 97] (by decide +kernel) (by decide +kernel)
set_option maxRecDepth 20000 in
theorem gX7_blanket_X7_blanketOf : GoodIn wsX7_blanket (wsV RX7 188 RX7 yX7_blanketOf wsX7_blanketOf) := goodIn_app (goodIn_of _ (by decide +kernel)) ggX7_blanket_X7_blanketOf
theorem dX7_blanket_0 : decode cX7_blanket 0 = .ok (.aload_n 0, 1) := by decide +kernel
theorem dX7_blanket_1 : decode cX7_blanket 1 = .ok (.iload_n 1, 1) := by decide +kernel
theorem dX7_blanket_2 : decode cX7_blanket 2 = .ok (.invokevirtual 84, 3) := by decide +kernel
theorem dX7_blanket_5 : decode cX7_blanket 5 = .ok (.ifCond .eq 22, 3) := by decide +kernel
theorem dX7_blanket_8 : decode cX7_blanket 8 = .ok (.iload_n 2, 1) := by decide +kernel
theorem dX7_blanket_9 : decode cX7_blanket 9 = .ok (.sipush 999, 3) := by decide +kernel
theorem dX7_blanket_12 : decode cX7_blanket 12 = .ok (.invokestatic 154, 3) := by decide +kernel
theorem dX7_blanket_15 : decode cX7_blanket 15 = .ok (.ifCond .eq 12, 3) := by decide +kernel
theorem dX7_blanket_18 : decode cX7_blanket 18 = .ok (.iload_n 3, 1) := by decide +kernel
theorem dX7_blanket_19 : decode cX7_blanket 19 = .ok (.bipush 20, 2) := by decide +kernel
theorem dX7_blanket_21 : decode cX7_blanket 21 = .ok (.invokestatic 154, 3) := by decide +kernel
theorem dX7_blanket_24 : decode cX7_blanket 24 = .ok (.ifCond .ne 5, 3) := by decide +kernel
theorem dX7_blanket_27 : decode cX7_blanket 27 = .ok (.iconst (-1), 1) := by decide +kernel
theorem dX7_blanket_28 : decode cX7_blanket 28 = .ok (.ireturn, 1) := by decide +kernel
theorem dX7_blanket_29 : decode cX7_blanket 29 = .ok (.iconst 0, 1) := by decide +kernel
theorem dX7_blanket_30 : decode cX7_blanket 30 = .ok (.istore 4, 2) := by decide +kernel
theorem dX7_blanket_32 : decode cX7_blanket 32 = .ok (.iload 4, 2) := by decide +kernel
theorem dX7_blanket_34 : decode cX7_blanket 34 = .ok (.aload_n 0, 1) := by decide +kernel
theorem dX7_blanket_35 : decode cX7_blanket 35 = .ok (.getfield 51, 3) := by decide +kernel
theorem dX7_blanket_38 : decode cX7_blanket 38 = .ok (.getfield 141, 3) := by decide +kernel
theorem dX7_blanket_41 : decode cX7_blanket 41 = .ok (.if_icmp .ge 30, 3) := by decide +kernel
theorem dX7_blanket_44 : decode cX7_blanket 44 = .ok (.aload_n 0, 1) := by decide +kernel
theorem dX7_blanket_45 : decode cX7_blanket 45 = .ok (.iload_n 1, 1) := by decide +kernel
theorem dX7_blanket_46 : decode cX7_blanket 46 = .ok (.iload_n 2, 1) := by decide +kernel
theorem dX7_blanket_47 : decode cX7_blanket 47 = .ok (.iload_n 3, 1) := by decide +kernel
theorem dX7_blanket_48 : decode cX7_blanket 48 = .ok (.iload 4, 2) := by decide +kernel
theorem dX7_blanket_50 : decode cX7_blanket 50 = .ok (.invokevirtual 188, 3) := by decide +kernel
theorem dX7_blanket_53 : decode cX7_blanket 53 = .ok (.istore 5, 2) := by decide +kernel
theorem dX7_blanket_55 : decode cX7_blanket 55 = .ok (.iload 5, 2) := by decide +kernel
theorem dX7_blanket_57 : decode cX7_blanket 57 = .ok (.bipush (-9), 2) := by decide +kernel
theorem dX7_blanket_59 : decode cX7_blanket 59 = .ok (.if_icmp .eq 6, 3) := by decide +kernel
theorem dX7_blanket_62 : decode cX7_blanket 62 = .ok (.iload 5, 2) := by decide +kernel
theorem dX7_blanket_64 : decode cX7_blanket 64 = .ok (.ireturn, 1) := by decide +kernel
theorem dX7_blanket_65 : decode cX7_blanket 65 = .ok (.iinc 4 1, 3) := by decide +kernel
theorem dX7_blanket_68 : decode cX7_blanket 68 = .ok (.goto (-36), 3) := by decide +kernel
theorem dX7_blanket_71 : decode cX7_blanket 71 = .ok (.bipush (-9), 2) := by decide +kernel
theorem dX7_blanket_73 : decode cX7_blanket 73 = .ok (.ireturn, 1) := by decide +kernel
set_option maxRecDepth 20000 in
theorem ggX7_harm_X7_isWall : GoodIn wsX7_harm wsX7_isWall := goodIn_r _ [6, 7, 8, 77, 78, 79, 80, 81, 82, 83, 84, 85, 86, 87, 88, 89, 90, 91, 92, 93, 94, 95] (by decide +kernel) (by decide +kernel)
set_option maxRecDepth 20000 in
theorem gX7_harm_X7_isWall : GoodIn wsX7_harm (wsV RX7 84 RX7 yX7_isWall wsX7_isWall) := goodIn_app (goodIn_of _ (by decide +kernel)) ggX7_harm_X7_isWall
set_option maxRecDepth 20000 in
theorem ggX7_harm_X7_leastHarmed : GoodIn wsX7_harm wsX7_leastHarmed := goodIn_r _ [12, 7, 8, 13, 14, 15, 5, 16, 17, 18, 19, 20, 21, 22, 23, 24, 25, 26, 27, 28, 29, 30, 31, 32, 33, 34, 35, 36, 37, 38, 39, 40, 41, 42, 43, 44, 45, 46, 47, 48, 49, 50, 51, 52, 53, 54, 55, 56, 57, 58, 59, 60, 61, 62, 63, 64, 65, 66, 67, 68, 69, 70, 71, 72, 73, 74, 75, 76, 77, 78, 79, 80, 81, 82, 83, 84, 85, 86, 87, 88, 89, 90, 91, 92, 93, 94, 95, 96, 97, 98, 99, 100, 101, 102, 103, 104, 105, 106] (by decide +kernel) (by decide +kernel)
set_option maxRecDepth 20000 in
theorem gX7_harm_X7_leastHarmed : GoodIn wsX7_harm (wsV RX7 193 RX7 yX7_leastHarmed wsX7_leastHarmed) := goodIn_app (goodIn_of _ (by decide +kernel)) ggX7_harm_X7_leastHarmed
set_option maxRecDepth 20000 in
theorem ggX7_harm_X7_harmDone : GoodIn wsX7_harm wsX7_harmDone := goodIn_r _ [16, 17, 18, 7, 19, 20, 8, 21, 22, 23, 24, 25, 26, 27, 28, 29, 30, 31, 32, 33, 34, 35, 36, 37, 38, 39, 40, 41, 42, 43, 44, 45, 46, 47, 48, 49, 50, 51, 52, 53, 54, 55, 56, 57, 58, 59, 60, 61, 62, 63, 64, 65, 5, 66, 67, 68, 69, 70, 71, 72, 73, 74, 75, 76, 77, 78, 79, 80, 81, 82, 83, 84, 85, 86, 96, 97, 98, 87, 88, 89, 90, 91, 92, 93, 94, 95, 99, 100, 101, 102, 103, 104, 105, 106] (by decide +kernel) (by decide +kernel)
set_option maxRecDepth 20000 in
theorem gX7_harm_X7_harmDone : GoodIn wsX7_harm (wsV RX7 196 RX7 yX7_harmDone wsX7_harmDone) := goodIn_app (goodIn_of _ (by decide +kernel)) ggX7_harm_X7_harmDone
theorem dX7_harm_0 : decode cX7_harm 0 = .ok (.iload_n 1, 1) := by decide +kernel
theorem dX7_harm_1 : decode cX7_harm 1 = .ok (.iconst (-1), 1) := by decide +kernel
theorem dX7_harm_2 : decode cX7_harm 2 = .ok (.if_icmp .eq 11, 3) := by decide +kernel
theorem dX7_harm_5 : decode cX7_harm 5 = .ok (.aload_n 0, 1) := by decide +kernel
theorem dX7_harm_6 : decode cX7_harm 6 = .ok (.iload_n 1, 1) := by decide +kernel
theorem dX7_harm_7 : decode cX7_harm 7 = .ok (.invokevirtual 84, 3) := by decide +kernel
theorem dX7_harm_10 : decode cX7_harm 10 = .ok (.ifCond .eq 14, 3) := by decide +kernel
theorem dX7_harm_13 : decode cX7_harm 13 = .ok (.iload_n 2, 1) := by decide +kernel
theorem dX7_harm_14 : decode cX7_harm 14 = .ok (.iconst 1, 1) := by decide +kernel
theorem dX7_harm_15 : decode cX7_harm 15 = .ok (.if_icmp .lt 9, 3) := by decide +kernel
theorem dX7_harm_18 : decode cX7_harm 18 = .ok (.iload_n 2, 1) := by decide +kernel
theorem dX7_harm_19 : decode cX7_harm 19 = .ok (.bipush 50, 2) := by decide +kernel
theorem dX7_harm_21 : decode cX7_harm 21 = .ok (.if_icmp .le 6, 3) := by decide +kernel
theorem dX7_harm_24 : decode cX7_harm 24 = .ok (.ldc 192, 2) := by decide +kernel
theorem dX7_harm_26 : decode cX7_harm 26 = .ok (.ireturn, 1) := by decide +kernel
theorem dX7_harm_27 : decode cX7_harm 27 = .ok (.iload_n 1, 1) := by decide +kernel
theorem dX7_harm_28 : decode cX7_harm 28 = .ok (.iconst (-1), 1) := by decide +kernel
theorem dX7_harm_29 : decode cX7_harm 29 = .ok (.if_icmp .ne 11, 3) := by decide +kernel
theorem dX7_harm_32 : decode cX7_harm 32 = .ok (.aload_n 0, 1) := by decide +kernel
theorem dX7_harm_33 : decode cX7_harm 33 = .ok (.iload_n 2, 1) := by decide +kernel
theorem dX7_harm_34 : decode cX7_harm 34 = .ok (.invokevirtual 193, 3) := by decide +kernel
theorem dX7_harm_37 : decode cX7_harm 37 = .ok (.goto 9, 3) := by decide +kernel
theorem dX7_harm_40 : decode cX7_harm 40 = .ok (.aload_n 0, 1) := by decide +kernel
theorem dX7_harm_41 : decode cX7_harm 41 = .ok (.iload_n 1, 1) := by decide +kernel
theorem dX7_harm_42 : decode cX7_harm 42 = .ok (.iload_n 2, 1) := by decide +kernel
theorem dX7_harm_43 : decode cX7_harm 43 = .ok (.invokevirtual 196, 3) := by decide +kernel
theorem dX7_harm_46 : decode cX7_harm 46 = .ok (.ireturn, 1) := by decide +kernel
set_option maxRecDepth 20000 in
theorem ggX7_saw_X7_isWithin : GoodIn wsX7_saw wsX7_isWithin := goodIn_r _ [6] (by decide +kernel) (by decide +kernel)
set_option maxRecDepth 20000 in
theorem gX7_saw_X7_isWithin : GoodIn wsX7_saw (va_wsS RX7 154 yX7_isWithin wsX7_isWithin) := goodIn_app (goodIn_of _ (by decide +kernel)) ggX7_saw_X7_isWithin
set_option maxRecDepth 20000 in
theorem ggX7_saw_X7_isWall : GoodIn wsX7_saw wsX7_isWall := goodIn_r _ [10, 11, 12, 22, 23, 24, 25, 26, 27, 28, 29, 30, 31, 36, 37, 38, 39, 40, 41, 42, 43, 44] (by decide +kernel) (by decide +kernel)
set_option maxRecDepth 20000 in
theorem gX7_saw_X7_isWall : GoodIn wsX7_saw (wsV RX7 84 RX7 yX7_isWall wsX7_isWall) := goodIn_app (goodIn_of _ (by decide +kernel)) ggX7_saw_X7_isWall
set_option maxRecDepth 20000 in
theorem ggX7_saw_X3_add : GoodIn wsX7_saw wsX3_add := goodIn_r _ [17, 18, 19, 20, 21, 32, 33, 34, 35] (by decide +kernel) (by decide +kernel)
set_option maxRecDepth 20000 in
theorem gX7_saw_X3_add : GoodIn wsX7_saw (wsV RX7 199 RX3 yX3_add wsX3_add) := goodIn_app (goodIn_of _ (by decide +kernel)) ggX7_saw_X3_add
theorem dX7_saw_0 : decode cX7_saw 0 = .ok (.iload_n 1, 1) := by decide +kernel
theorem dX7_saw_1 : decode cX7_saw 1 = .ok (.bipush 20, 2) := by decide +kernel
theorem dX7_saw_3 : decode cX7_saw 3 = .ok (.invokestatic 154, 3) := by decide +kernel
theorem dX7_saw_6 : decode cX7_saw 6 = .ok (.ifCond .eq 21, 3) := by decide +kernel
theorem dX7_saw_9 : decode cX7_saw 9 = .ok (.aload_n 0, 1) := by decide +kernel
theorem dX7_saw_10 : decode cX7_saw 10 = .ok (.iload_n 2, 1) := by decide +kernel
theorem dX7_saw_11 : decode cX7_saw 11 = .ok (.invokevirtual 84, 3) := by decide +kernel
theorem dX7_saw_14 : decode cX7_saw 14 = .ok (.ifCond .eq 13, 3) := by decide +kernel
theorem dX7_saw_17 : decode cX7_saw 17 = .ok (.iload_n 3, 1) := by decide +kernel
theorem dX7_saw_18 : decode cX7_saw 18 = .ok (.sipush 9999, 3) := by decide +kernel
theorem dX7_saw_21 : decode cX7_saw 21 = .ok (.invokestatic 154, 3) := by decide +kernel
theorem dX7_saw_24 : decode cX7_saw 24 = .ok (.ifCond .ne 5, 3) := by decide +kernel
theorem dX7_saw_27 : decode cX7_saw 27 = .ok (.iconst (-1), 1) := by decide +kernel
theorem dX7_saw_28 : decode cX7_saw 28 = .ok (.ireturn, 1) := by decide +kernel
theorem dX7_saw_29 : decode cX7_saw 29 = .ok (.aload_n 0, 1) := by decide +kernel
theorem dX7_saw_30 : decode cX7_saw 30 = .ok (.getfield 33, 3) := by decide +kernel
theorem dX7_saw_33 : decode cX7_saw 33 = .ok (.getfield 78, 3) := by decide +kernel
theorem dX7_saw_36 : decode cX7_saw 36 = .ok (.bipush 8, 2) := by decide +kernel
theorem dX7_saw_38 : decode cX7_saw 38 = .ok (.if_icmp .lt 6, 3) := by decide +kernel
theorem dX7_saw_41 : decode cX7_saw 41 = .ok (.bipush (-3), 2) := by decide +kernel
theorem dX7_saw_43 : decode cX7_saw 43 = .ok (.ireturn, 1) := by decide +kernel
theorem dX7_saw_44 : decode cX7_saw 44 = .ok (.aload_n 0, 1) := by decide +kernel
theorem dX7_saw_45 : decode cX7_saw 45 = .ok (.getfield 33, 3) := by decide +kernel
theorem dX7_saw_48 : decode cX7_saw 48 = .ok (.iload_n 1, 1) := by decide +kernel
theorem dX7_saw_49 : decode cX7_saw 49 = .ok (.iload_n 2, 1) := by decide +kernel
theorem dX7_saw_50 : decode cX7_saw 50 = .ok (.iload_n 3, 1) := by decide +kernel
theorem dX7_saw_51 : decode cX7_saw 51 = .ok (.invokevirtual 199, 3) := by decide +kernel
theorem dX7_saw_54 : decode cX7_saw 54 = .ok (.aload_n 0, 1) := by decide +kernel
theorem dX7_saw_55 : decode cX7_saw 55 = .ok (.getfield 33, 3) := by decide +kernel
theorem dX7_saw_58 : decode cX7_saw 58 = .ok (.getfield 78, 3) := by decide +kernel
theorem dX7_saw_61 : decode cX7_saw 61 = .ok (.ireturn, 1) := by decide +kernel
theorem dX7_forget_0 : decode cX7_forget 0 = .ok (.aload_n 0, 1) := by decide +kernel
theorem dX7_forget_1 : decode cX7_forget 1 = .ok (.getfield 33, 3) := by decide +kernel
theorem dX7_forget_4 : decode cX7_forget 4 = .ok (.getfield 78, 3) := by decide +kernel
theorem dX7_forget_7 : decode cX7_forget 7 = .ok (.istore_n 1, 1) := by decide +kernel
theorem dX7_forget_8 : decode cX7_forget 8 = .ok (.aload_n 0, 1) := by decide +kernel
theorem dX7_forget_9 : decode cX7_forget 9 = .ok (.getfield 33, 3) := by decide +kernel
theorem dX7_forget_12 : decode cX7_forget 12 = .ok (.iconst 0, 1) := by decide +kernel
theorem dX7_forget_13 : decode cX7_forget 13 = .ok (.putfield 78, 3) := by decide +kernel
theorem dX7_forget_16 : decode cX7_forget 16 = .ok (.iload_n 1, 1) := by decide +kernel
theorem dX7_forget_17 : decode cX7_forget 17 = .ok (.ireturn, 1) := by decide +kernel
set_option maxRecDepth 20000 in
theorem ggX7_holes_X7_isWall : GoodIn wsX7_holes wsX7_isWall := goodIn_r _ [8, 3, 9, 88, 89, 90, 91, 92, 93, 94, 95, 96, 97, 101, 102, 103, 104, 105, 106, 107, 108, 109] (by decide +kernel) (by decide +kernel)
set_option maxRecDepth 20000 in
theorem gX7_holes_X7_isWall : GoodIn wsX7_holes (wsV RX7 84 RX7 yX7_isWall wsX7_isWall) := goodIn_app (goodIn_of _ (by decide +kernel)) ggX7_holes_X7_isWall
set_option maxRecDepth 20000 in
theorem ggX7_holes_X6_copy : GoodIn wsX7_holes wsX6_copy := goodIn_r _ [14, 15, 16, 17, 18, 19, 20, 21, 22, 23, 101, 102, 103, 104, 105, 106, 107, 108, 109] (by decide +kernel) (by decide +kernel)
set_option maxRecDepth 20000 in
theorem gX7_holes_X6_copy : GoodIn wsX7_holes (wsV RX7 182 RX6 yX6_copy wsX6_copy) := goodIn_app (goodIn_of _ (by decide +kernel)) ggX7_holes_X6_copy
set_option maxRecDepth 20000 in
theorem ggX7_holes_X7_holesOfAll : GoodIn wsX7_holes wsX7_holesOfAll := goodIn_r _ [27, 1, 28, 3, 9, 29, 30, 31, 32, 33, 34, 35, 36, 37, 38, 39, 40, 41, 42, 43, 44, 45, 46, 47, 48, 49, 50, 51, 52, 53, 54, 55, 56, 57, 58, 59, 60, 61, 62, 63, 64, 65, 66, 67, 68, 69, 70, 71, 72, 73, 74, 75, 7, 76, 77, 78, 79, 80, 81, 82, 83, 84, 85, 86, 2, 87, 88, 89, 90, 91, 92, 93, 94, 95, 96, 97, 101, 102, 103, 104, 105, 106, 107, 108, 109, 98, 99, 100, 110, 111, 112, 113, 114, 115, 116, 117, 118, 119, 120, 121] (by decide +kernel) (by decide +kernel)
set_option maxRecDepth 20000 in
theorem gX7_holes_X7_holesOfAll : GoodIn wsX7_holes (wsV RX7 203 RX7 yX7_holesOfAll wsX7_holesOfAll) := goodIn_app (goodIn_of _ (by decide +kernel)) ggX7_holes_X7_holesOfAll
set_option maxRecDepth 20000 in
theorem ggX7_holes_X7_holeRate : GoodIn wsX7_holes wsX7_holeRate := goodIn_r _ [86, 1, 2, 87, 3, 28, 29, 30, 31, 32, 33, 34, 35, 36, 37, 38, 39, 40, 41, 42, 43, 44, 45, 46, 47, 48, 49, 50, 51, 52, 53, 54, 55, 56, 57, 58, 59, 60, 61, 62, 63, 64, 65, 66, 67, 68, 69, 70, 71, 72, 73, 74, 75, 7, 76, 77, 78, 79, 80, 81, 82, 88, 89, 90, 91, 92, 93, 94, 95, 96, 97, 98, 99, 100, 101, 102, 103, 104, 105, 106, 107, 108, 109, 110, 111, 112, 113, 114, 115, 116, 117, 118, 119, 120, 121] (by decide +kernel) (by decide +kernel)
set_option maxRecDepth 20000 in
theorem gX7_holes_X7_holeRate : GoodIn wsX7_holes (wsV RX7 207 RX7 yX7_holeRate wsX7_holeRate) := goodIn_app (goodIn_of _ (by decide +kernel)) ggX7_holes_X7_holeRate
theorem dX7_holes_0 : decode cX7_holes 0 = .ok (.iload_n 1, 1) := by decide +kernel
theorem dX7_holes_1 : decode cX7_holes 1 = .ok (.iconst (-1), 1) := by decide +kernel
theorem dX7_holes_2 : decode cX7_holes 2 = .ok (.if_icmp .eq 13, 3) := by decide +kernel
theorem dX7_holes_5 : decode cX7_holes 5 = .ok (.aload_n 0, 1) := by decide +kernel
theorem dX7_holes_6 : decode cX7_holes 6 = .ok (.iload_n 1, 1) := by decide +kernel
theorem dX7_holes_7 : decode cX7_holes 7 = .ok (.invokevirtual 84, 3) := by decide +kernel
theorem dX7_holes_10 : decode cX7_holes 10 = .ok (.ifCond .ne 5, 3) := by decide +kernel
theorem dX7_holes_13 : decode cX7_holes 13 = .ok (.iconst (-1), 1) := by decide +kernel
theorem dX7_holes_14 : decode cX7_holes 14 = .ok (.ireturn, 1) := by decide +kernel
theorem dX7_holes_15 : decode cX7_holes 15 = .ok (.aload_n 0, 1) := by decide +kernel
theorem dX7_holes_16 : decode cX7_holes 16 = .ok (.getfield 40, 3) := by decide +kernel
theorem dX7_holes_19 : decode cX7_holes 19 = .ok (.getfield 179, 3) := by decide +kernel
theorem dX7_holes_22 : decode cX7_holes 22 = .ok (.aload_n 0, 1) := by decide +kernel
theorem dX7_holes_23 : decode cX7_holes 23 = .ok (.getfield 51, 3) := by decide +kernel
theorem dX7_holes_26 : decode cX7_holes 26 = .ok (.invokevirtual 182, 3) := by decide +kernel
theorem dX7_holes_29 : decode cX7_holes 29 = .ok (.iload_n 1, 1) := by decide +kernel
theorem dX7_holes_30 : decode cX7_holes 30 = .ok (.iconst (-1), 1) := by decide +kernel
theorem dX7_holes_31 : decode cX7_holes 31 = .ok (.if_icmp .ne 10, 3) := by decide +kernel
theorem dX7_holes_34 : decode cX7_holes 34 = .ok (.aload_n 0, 1) := by decide +kernel
theorem dX7_holes_35 : decode cX7_holes 35 = .ok (.invokevirtual 203, 3) := by decide +kernel
theorem dX7_holes_38 : decode cX7_holes 38 = .ok (.goto 8, 3) := by decide +kernel
theorem dX7_holes_41 : decode cX7_holes 41 = .ok (.aload_n 0, 1) := by decide +kernel
theorem dX7_holes_42 : decode cX7_holes 42 = .ok (.iload_n 1, 1) := by decide +kernel
theorem dX7_holes_43 : decode cX7_holes 43 = .ok (.invokevirtual 207, 3) := by decide +kernel
theorem dX7_holes_46 : decode cX7_holes 46 = .ok (.ireturn, 1) := by decide +kernel
set_option maxRecDepth 20000 in
theorem ggX7_mark_X7_isWall : GoodIn wsX7_mark wsX7_isWall := goodIn_r _ [6, 7, 8, 49, 50, 51, 52, 53, 54, 55, 56, 57, 58, 59, 60, 61, 62, 63, 64, 65, 66, 67] (by decide +kernel) (by decide +kernel)
set_option maxRecDepth 20000 in
theorem gX7_mark_X7_isWall : GoodIn wsX7_mark (wsV RX7 84 RX7 yX7_isWall wsX7_isWall) := goodIn_app (goodIn_of _ (by decide +kernel)) ggX7_mark_X7_isWall
set_option maxRecDepth 20000 in
theorem ggX7_mark_X7_markOfWall : GoodIn wsX7_mark wsX7_markOfWall := goodIn_r _ [12, 13, 14, 15, 49, 50, 51, 52, 53, 54, 55, 56, 57, 58, 68, 69, 70, 71, 72, 73, 74, 75] (by decide +kernel) (by decide +kernel)
set_option maxRecDepth 20000 in
theorem gX7_mark_X7_markOfWall : GoodIn wsX7_mark (wsV RX7 210 RX7 yX7_markOfWall wsX7_markOfWall) := goodIn_app (goodIn_of _ (by decide +kernel)) ggX7_mark_X7_markOfWall
set_option maxRecDepth 20000 in
theorem ggX7_mark_X7_markOfFin : GoodIn wsX7_mark wsX7_markOfFin := goodIn_r _ [19, 13, 20, 7, 21, 9, 10, 11, 5, 12, 14, 15, 49, 50, 51, 52, 53, 54, 55, 56, 57, 58, 59, 60, 61, 62, 63, 64, 65, 66, 67, 68, 69, 70, 71, 72, 73, 74, 75] (by decide +kernel) (by decide +kernel)
set_option maxRecDepth 20000 in
theorem gX7_mark_X7_markOfFin : GoodIn wsX7_mark (wsV RX7 213 RX7 yX7_markOfFin wsX7_markOfFin) := goodIn_app (goodIn_of _ (by decide +kernel)) ggX7_mark_X7_markOfFin
set_option maxRecDepth 20000 in
theorem ggX7_mark_X7_markOfBrick : GoodIn wsX7_mark wsX7_markOfBrick := goodIn_r _ [25, 13, 26, 7, 9, 10, 11, 5, 12, 14, 15, 27, 28, 29, 30, 31, 32, 49, 50, 51, 52, 53, 54, 55, 56, 57, 58, 68, 69, 70, 71, 72, 73, 74, 75, 59, 60, 61, 62, 63, 64, 65, 66, 67] (by decide +kernel) (by decide +kernel)
set_option maxRecDepth 20000 in
theorem gX7_mark_X7_markOfBrick : GoodIn wsX7_mark (wsV RX7 216 RX7 yX7_markOfBrick wsX7_markOfBrick) := goodIn_app (goodIn_of _ (by decide +kernel)) ggX7_mark_X7_markOfBrick
set_option maxRecDepth 20000 in
theorem ggX7_mark_X7_markOfFurnace : GoodIn wsX7_mark wsX7_markOfFurnace := goodIn_r _ [36, 13, 37, 16, 17, 18, 5, 19, 20, 7, 21, 9, 10, 11, 12, 14, 15, 49, 50, 51, 52, 53, 54, 55, 56, 57, 58, 59, 60, 61, 62, 63, 64, 65, 66, 67, 68, 69, 70, 71, 72, 73, 74, 75] (by decide +kernel) (by decide +kernel)
set_option maxRecDepth 20000 in
theorem gX7_mark_X7_markOfFurnace : GoodIn wsX7_mark (wsV RX7 219 RX7 yX7_markOfFurnace wsX7_markOfFurnace) := goodIn_app (goodIn_of _ (by decide +kernel)) ggX7_mark_X7_markOfFurnace
set_option maxRecDepth 20000 in
theorem ggX7_mark_X7_markOfWindow : GoodIn wsX7_mark wsX7_markOfWindow := goodIn_r _ [41, 13, 42, 22, 23, 24, 5, 25, 26, 7, 9, 10, 11, 12, 14, 15, 27, 28, 29, 30, 31, 32, 49, 50, 51, 52, 53, 54, 55, 56, 57, 58, 68, 69, 70, 71, 72, 73, 74, 75, 59, 60, 61, 62, 63, 64, 65, 66, 67] (by decide +kernel) (by decide +kernel)
set_option maxRecDepth 20000 in
theorem gX7_mark_X7_markOfWindow : GoodIn wsX7_mark (wsV RX7 222 RX7 yX7_markOfWindow wsX7_markOfWindow) := goodIn_app (goodIn_of _ (by decide +kernel)) ggX7_mark_X7_markOfWindow
set_option maxRecDepth 20000 in
theorem ggX7_mark_X7_markOfHull : GoodIn wsX7_mark wsX7_markOfHull := goodIn_r _ [46, 13, 47, 14, 48, 9, 10, 11, 5, 12, 15, 49, 50, 51, 52, 53, 54, 55, 56, 57, 58, 68, 69, 70, 71, 72, 73, 74, 75] (by decide +kernel) (by decide +kernel)
set_option maxRecDepth 20000 in
theorem gX7_mark_X7_markOfHull : GoodIn wsX7_mark (wsV RX7 225 RX7 yX7_markOfHull wsX7_markOfHull) := goodIn_app (goodIn_of _ (by decide +kernel)) ggX7_mark_X7_markOfHull
theorem dX7_mark_0 : decode cX7_mark 0 = .ok (.aload_n 0, 1) := by decide +kernel
theorem dX7_mark_1 : decode cX7_mark 1 = .ok (.iload_n 2, 1) := by decide +kernel
theorem dX7_mark_2 : decode cX7_mark 2 = .ok (.invokevirtual 84, 3) := by decide +kernel
theorem dX7_mark_5 : decode cX7_mark 5 = .ok (.ifCond .ne 6, 3) := by decide +kernel
theorem dX7_mark_8 : decode cX7_mark 8 = .ok (.ldc 192, 2) := by decide +kernel
theorem dX7_mark_10 : decode cX7_mark 10 = .ok (.ireturn, 1) := by decide +kernel
theorem dX7_mark_11 : decode cX7_mark 11 = .ok (.iload_n 1, 1) := by decide +kernel
theorem dX7_mark_12 : decode cX7_mark 12 = .ok (.tableswitch 76 0 5 #[40, 46, 52, 58, 64, 70], 40) := by decide +kernel
theorem dX7_mark_52 : decode cX7_mark 52 = .ok (.aload_n 0, 1) := by decide +kernel
theorem dX7_mark_53 : decode cX7_mark 53 = .ok (.iload_n 2, 1) := by decide +kernel
theorem dX7_mark_54 : decode cX7_mark 54 = .ok (.invokevirtual 210, 3) := by decide +kernel
theorem dX7_mark_57 : decode cX7_mark 57 = .ok (.ireturn, 1) := by decide +kernel
theorem dX7_mark_58 : decode cX7_mark 58 = .ok (.aload_n 0, 1) := by decide +kernel
theorem dX7_mark_59 : decode cX7_mark 59 = .ok (.iload_n 2, 1) := by decide +kernel
theorem dX7_mark_60 : decode cX7_mark 60 = .ok (.invokevirtual 213, 3) := by decide +kernel
theorem dX7_mark_63 : decode cX7_mark 63 = .ok (.ireturn, 1) := by decide +kernel
theorem dX7_mark_64 : decode cX7_mark 64 = .ok (.aload_n 0, 1) := by decide +kernel
theorem dX7_mark_65 : decode cX7_mark 65 = .ok (.iload_n 2, 1) := by decide +kernel
theorem dX7_mark_66 : decode cX7_mark 66 = .ok (.invokevirtual 216, 3) := by decide +kernel
theorem dX7_mark_69 : decode cX7_mark 69 = .ok (.ireturn, 1) := by decide +kernel
theorem dX7_mark_70 : decode cX7_mark 70 = .ok (.aload_n 0, 1) := by decide +kernel
theorem dX7_mark_71 : decode cX7_mark 71 = .ok (.iload_n 2, 1) := by decide +kernel
theorem dX7_mark_72 : decode cX7_mark 72 = .ok (.invokevirtual 219, 3) := by decide +kernel
theorem dX7_mark_75 : decode cX7_mark 75 = .ok (.ireturn, 1) := by decide +kernel
theorem dX7_mark_76 : decode cX7_mark 76 = .ok (.aload_n 0, 1) := by decide +kernel
theorem dX7_mark_77 : decode cX7_mark 77 = .ok (.iload_n 2, 1) := by decide +kernel
theorem dX7_mark_78 : decode cX7_mark 78 = .ok (.invokevirtual 222, 3) := by decide +kernel
theorem dX7_mark_81 : decode cX7_mark 81 = .ok (.ireturn, 1) := by decide +kernel
theorem dX7_mark_82 : decode cX7_mark 82 = .ok (.aload_n 0, 1) := by decide +kernel
theorem dX7_mark_83 : decode cX7_mark 83 = .ok (.iload_n 2, 1) := by decide +kernel
theorem dX7_mark_84 : decode cX7_mark 84 = .ok (.invokevirtual 225, 3) := by decide +kernel
theorem dX7_mark_87 : decode cX7_mark 87 = .ok (.ireturn, 1) := by decide +kernel
theorem dX7_mark_88 : decode cX7_mark 88 = .ok (.ldc 192, 2) := by decide +kernel
theorem dX7_mark_90 : decode cX7_mark 90 = .ok (.ireturn, 1) := by decide +kernel
set_option maxRecDepth 20000 in
theorem ggX7_keep_X7_isImage : GoodIn wsX7_keep wsX7_isImage := goodIn_r _ [8] (by decide +kernel) (by decide +kernel)
set_option maxRecDepth 20000 in
theorem gX7_keep_X7_isImage : GoodIn wsX7_keep (va_wsS RX7 228 yX7_isImage wsX7_isImage) := goodIn_app (goodIn_of _ (by decide +kernel)) ggX7_keep_X7_isImage
set_option maxRecDepth 20000 in
theorem ggX7_keep_X1_copyWithChanges : GoodIn wsX7_keep wsX1_copyWithChanges := goodIn_r _ [13, 14, 15, 16, 17, 18, 12, 19, 20, 21, 22, 23, 24, 35, 36, 37, 38, 39, 40, 41, 42] (by decide +kernel) (by decide +kernel)
set_option maxRecDepth 20000 in
theorem gX7_keep_X1_copyWithChanges : GoodIn wsX7_keep (wsV RX7 231 RX1 yX1_copyWithChanges wsX1_copyWithChanges) := goodIn_app (goodIn_of _ (by decide +kernel)) ggX7_keep_X1_copyWithChanges
theorem dX7_keep_0 : decode cX7_keep 0 = .ok (.iload_n 1, 1) := by decide +kernel
theorem dX7_keep_1 : decode cX7_keep 1 = .ok (.invokestatic 228, 3) := by decide +kernel
theorem dX7_keep_4 : decode cX7_keep 4 = .ok (.ifCond .ne 5, 3) := by decide +kernel
theorem dX7_keep_7 : decode cX7_keep 7 = .ok (.iconst (-1), 1) := by decide +kernel
theorem dX7_keep_8 : decode cX7_keep 8 = .ok (.ireturn, 1) := by decide +kernel
theorem dX7_keep_9 : decode cX7_keep 9 = .ok (.aload_n 0, 1) := by decide +kernel
theorem dX7_keep_10 : decode cX7_keep 10 = .ok (.getfield 44, 3) := by decide +kernel
theorem dX7_keep_13 : decode cX7_keep 13 = .ok (.iload_n 1, 1) := by decide +kernel
theorem dX7_keep_14 : decode cX7_keep 14 = .ok (.aaload, 1) := by decide +kernel
theorem dX7_keep_15 : decode cX7_keep 15 = .ok (.aload_n 0, 1) := by decide +kernel
theorem dX7_keep_16 : decode cX7_keep 16 = .ok (.getfield 26, 3) := by decide +kernel
theorem dX7_keep_19 : decode cX7_keep 19 = .ok (.invokevirtual 231, 3) := by decide +kernel
theorem dX7_keep_22 : decode cX7_keep 22 = .ok (.aload_n 0, 1) := by decide +kernel
theorem dX7_keep_23 : decode cX7_keep 23 = .ok (.dup, 1) := by decide +kernel
theorem dX7_keep_24 : decode cX7_keep 24 = .ok (.getfield 81, 3) := by decide +kernel
theorem dX7_keep_27 : decode cX7_keep 27 = .ok (.iconst 1, 1) := by decide +kernel
theorem dX7_keep_28 : decode cX7_keep 28 = .ok (.iload_n 1, 1) := by decide +kernel
theorem dX7_keep_29 : decode cX7_keep 29 = .ok (.ishl, 1) := by decide +kernel
theorem dX7_keep_30 : decode cX7_keep 30 = .ok (.ior, 1) := by decide +kernel
theorem dX7_keep_31 : decode cX7_keep 31 = .ok (.putfield 81, 3) := by decide +kernel
theorem dX7_keep_34 : decode cX7_keep 34 = .ok (.aload_n 0, 1) := by decide +kernel
theorem dX7_keep_35 : decode cX7_keep 35 = .ok (.getfield 26, 3) := by decide +kernel
theorem dX7_keep_38 : decode cX7_keep 38 = .ok (.getfield 117, 3) := by decide +kernel
theorem dX7_keep_41 : decode cX7_keep 41 = .ok (.ireturn, 1) := by decide +kernel
set_option maxRecDepth 20000 in
theorem ggX7_back_X7_isImage : GoodIn wsX7_back wsX7_isImage := goodIn_r _ [8] (by decide +kernel) (by decide +kernel)
set_option maxRecDepth 20000 in
theorem gX7_back_X7_isImage : GoodIn wsX7_back (va_wsS RX7 228 yX7_isImage wsX7_isImage) := goodIn_app (goodIn_of _ (by decide +kernel)) ggX7_back_X7_isImage
set_option maxRecDepth 20000 in
theorem ggX7_back_X7_bit : GoodIn wsX7_back wsX7_bit := goodIn_r _ [11] (by decide +kernel) (by decide +kernel)
set_option maxRecDepth 20000 in
theorem gX7_back_X7_bit : GoodIn wsX7_back (va_wsS RX7 107 yX7_bit wsX7_bit) := goodIn_app (goodIn_of _ (by decide +kernel)) ggX7_back_X7_bit
set_option maxRecDepth 20000 in
theorem ggX7_back_X1_copyWithChanges : GoodIn wsX7_back wsX1_copyWithChanges := goodIn_r _ [16, 17, 18, 19, 20, 21, 15, 22, 23, 24, 25, 26, 27, 38, 39, 40, 41, 42, 43, 44, 45] (by decide +kernel) (by decide +kernel)
set_option maxRecDepth 20000 in
theorem gX7_back_X1_copyWithChanges : GoodIn wsX7_back (wsV RX7 231 RX1 yX1_copyWithChanges wsX1_copyWithChanges) := goodIn_app (goodIn_of _ (by decide +kernel)) ggX7_back_X1_copyWithChanges
theorem dX7_back_0 : decode cX7_back 0 = .ok (.iload_n 1, 1) := by decide +kernel
theorem dX7_back_1 : decode cX7_back 1 = .ok (.invokestatic 228, 3) := by decide +kernel
theorem dX7_back_4 : decode cX7_back 4 = .ok (.ifCond .ne 5, 3) := by decide +kernel
theorem dX7_back_7 : decode cX7_back 7 = .ok (.iconst (-1), 1) := by decide +kernel
theorem dX7_back_8 : decode cX7_back 8 = .ok (.ireturn, 1) := by decide +kernel
theorem dX7_back_9 : decode cX7_back 9 = .ok (.aload_n 0, 1) := by decide +kernel
theorem dX7_back_10 : decode cX7_back 10 = .ok (.getfield 81, 3) := by decide +kernel
theorem dX7_back_13 : decode cX7_back 13 = .ok (.iload_n 1, 1) := by decide +kernel
theorem dX7_back_14 : decode cX7_back 14 = .ok (.invokestatic 107, 3) := by decide +kernel
theorem dX7_back_17 : decode cX7_back 17 = .ok (.ifCond .ne 6, 3) := by decide +kernel
theorem dX7_back_20 : decode cX7_back 20 = .ok (.bipush (-2), 2) := by decide +kernel
theorem dX7_back_22 : decode cX7_back 22 = .ok (.ireturn, 1) := by decide +kernel
theorem dX7_back_23 : decode cX7_back 23 = .ok (.aload_n 0, 1) := by decide +kernel
theorem dX7_back_24 : decode cX7_back 24 = .ok (.getfield 26, 3) := by decide +kernel
theorem dX7_back_27 : decode cX7_back 27 = .ok (.aload_n 0, 1) := by decide +kernel
theorem dX7_back_28 : decode cX7_back 28 = .ok (.getfield 44, 3) := by decide +kernel
theorem dX7_back_31 : decode cX7_back 31 = .ok (.iload_n 1, 1) := by decide +kernel
theorem dX7_back_32 : decode cX7_back 32 = .ok (.aaload, 1) := by decide +kernel
theorem dX7_back_33 : decode cX7_back 33 = .ok (.invokevirtual 231, 3) := by decide +kernel
theorem dX7_back_36 : decode cX7_back 36 = .ok (.aload_n 0, 1) := by decide +kernel
theorem dX7_back_37 : decode cX7_back 37 = .ok (.getfield 26, 3) := by decide +kernel
theorem dX7_back_40 : decode cX7_back 40 = .ok (.getfield 117, 3) := by decide +kernel
theorem dX7_back_43 : decode cX7_back 43 = .ok (.ireturn, 1) := by decide +kernel
set_option maxRecDepth 20000 in
theorem ggX7_count_J6_bitCount_0f7a4 : GoodIn wsX7_count wsJ6_bitCount_0f7a4 := goodIn_r _ [15, 16, 17, 18] (by decide +kernel) (by decide +kernel)
set_option maxRecDepth 20000 in
theorem gX7_count_J6_bitCount_0f7a4 : GoodIn wsX7_count (va_wsS RX7 130 yJ6_bitCount_0f7a4 wsJ6_bitCount_0f7a4) := goodIn_app (goodIn_of _ (by decide +kernel)) ggX7_count_J6_bitCount_0f7a4
theorem dX7_count_0 : decode cX7_count 0 = .ok (.iload_n 1, 1) := by decide +kernel
theorem dX7_count_1 : decode cX7_count 1 = .ok (.tableswitch 105 0 6 #[43, 51, 59, 70, 81, 89, 97], 43) := by decide +kernel
theorem dX7_count_44 : decode cX7_count 44 = .ok (.aload_n 0, 1) := by decide +kernel
theorem dX7_count_45 : decode cX7_count 45 = .ok (.getfield 51, 3) := by decide +kernel
theorem dX7_count_48 : decode cX7_count 48 = .ok (.getfield 141, 3) := by decide +kernel
theorem dX7_count_51 : decode cX7_count 51 = .ok (.ireturn, 1) := by decide +kernel
theorem dX7_count_52 : decode cX7_count 52 = .ok (.aload_n 0, 1) := by decide +kernel
theorem dX7_count_53 : decode cX7_count 53 = .ok (.getfield 51, 3) := by decide +kernel
theorem dX7_count_56 : decode cX7_count 56 = .ok (.getfield 234, 3) := by decide +kernel
theorem dX7_count_59 : decode cX7_count 59 = .ok (.ireturn, 1) := by decide +kernel
theorem dX7_count_60 : decode cX7_count 60 = .ok (.aload_n 0, 1) := by decide +kernel
theorem dX7_count_61 : decode cX7_count 61 = .ok (.getfield 26, 3) := by decide +kernel
theorem dX7_count_64 : decode cX7_count 64 = .ok (.getfield 104, 3) := by decide +kernel
theorem dX7_count_67 : decode cX7_count 67 = .ok (.invokestatic 130, 3) := by decide +kernel
theorem dX7_count_70 : decode cX7_count 70 = .ok (.ireturn, 1) := by decide +kernel
theorem dX7_count_71 : decode cX7_count 71 = .ok (.aload_n 0, 1) := by decide +kernel
theorem dX7_count_72 : decode cX7_count 72 = .ok (.getfield 26, 3) := by decide +kernel
theorem dX7_count_75 : decode cX7_count 75 = .ok (.getfield 111, 3) := by decide +kernel
theorem dX7_count_78 : decode cX7_count 78 = .ok (.invokestatic 130, 3) := by decide +kernel
theorem dX7_count_81 : decode cX7_count 81 = .ok (.ireturn, 1) := by decide +kernel
theorem dX7_count_82 : decode cX7_count 82 = .ok (.aload_n 0, 1) := by decide +kernel
theorem dX7_count_83 : decode cX7_count 83 = .ok (.getfield 33, 3) := by decide +kernel
theorem dX7_count_86 : decode cX7_count 86 = .ok (.getfield 78, 3) := by decide +kernel
theorem dX7_count_89 : decode cX7_count 89 = .ok (.ireturn, 1) := by decide +kernel
theorem dX7_count_90 : decode cX7_count 90 = .ok (.aload_n 0, 1) := by decide +kernel
theorem dX7_count_91 : decode cX7_count 91 = .ok (.getfield 26, 3) := by decide +kernel
theorem dX7_count_94 : decode cX7_count 94 = .ok (.getfield 135, 3) := by decide +kernel
theorem dX7_count_97 : decode cX7_count 97 = .ok (.ireturn, 1) := by decide +kernel
theorem dX7_count_98 : decode cX7_count 98 = .ok (.aload_n 0, 1) := by decide +kernel
theorem dX7_count_99 : decode cX7_count 99 = .ok (.getfield 12, 3) := by decide +kernel
theorem dX7_count_102 : decode cX7_count 102 = .ok (.getfield 66, 3) := by decide +kernel
theorem dX7_count_105 : decode cX7_count 105 = .ok (.ireturn, 1) := by decide +kernel
theorem dX7_count_106 : decode cX7_count 106 = .ok (.iconst (-1), 1) := by decide +kernel
theorem dX7_count_107 : decode cX7_count 107 = .ok (.ireturn, 1) := by decide +kernel
theorem dX7_trace_0 : decode cX7_trace 0 = .ok (.aload_n 0, 1) := by decide +kernel
theorem dX7_trace_1 : decode cX7_trace 1 = .ok (.getfield 237, 3) := by decide +kernel
theorem dX7_trace_4 : decode cX7_trace 4 = .ok (.lreturn, 1) := by decide +kernel
theorem dX7_isWall_0 : decode cX7_isWall 0 = .ok (.iload_n 1, 1) := by decide +kernel
theorem dX7_isWall_1 : decode cX7_isWall 1 = .ok (.ifCond .lt 18, 3) := by decide +kernel
theorem dX7_isWall_4 : decode cX7_isWall 4 = .ok (.iload_n 1, 1) := by decide +kernel
theorem dX7_isWall_5 : decode cX7_isWall 5 = .ok (.aload_n 0, 1) := by decide +kernel
theorem dX7_isWall_6 : decode cX7_isWall 6 = .ok (.getfield 51, 3) := by decide +kernel
theorem dX7_isWall_9 : decode cX7_isWall 9 = .ok (.getfield 141, 3) := by decide +kernel
theorem dX7_isWall_12 : decode cX7_isWall 12 = .ok (.if_icmp .ge 7, 3) := by decide +kernel
theorem dX7_isWall_15 : decode cX7_isWall 15 = .ok (.iconst 1, 1) := by decide +kernel
theorem dX7_isWall_16 : decode cX7_isWall 16 = .ok (.goto 4, 3) := by decide +kernel
theorem dX7_isWall_19 : decode cX7_isWall 19 = .ok (.iconst 0, 1) := by decide +kernel
theorem dX7_isWall_20 : decode cX7_isWall 20 = .ok (.ireturn, 1) := by decide +kernel
theorem dX7_isImage_0 : decode cX7_isImage 0 = .ok (.iload_n 0, 1) := by decide +kernel
theorem dX7_isImage_1 : decode cX7_isImage 1 = .ok (.ifCond .lt 12, 3) := by decide +kernel
theorem dX7_isImage_4 : decode cX7_isImage 4 = .ok (.iload_n 0, 1) := by decide +kernel
theorem dX7_isImage_5 : decode cX7_isImage 5 = .ok (.iconst 2, 1) := by decide +kernel
theorem dX7_isImage_6 : decode cX7_isImage 6 = .ok (.if_icmp .ge 7, 3) := by decide +kernel
theorem dX7_isImage_9 : decode cX7_isImage 9 = .ok (.iconst 1, 1) := by decide +kernel
theorem dX7_isImage_10 : decode cX7_isImage 10 = .ok (.goto 4, 3) := by decide +kernel
theorem dX7_isImage_13 : decode cX7_isImage 13 = .ok (.iconst 0, 1) := by decide +kernel
theorem dX7_isImage_14 : decode cX7_isImage 14 = .ok (.ireturn, 1) := by decide +kernel
theorem dX7_isBit_0 : decode cX7_isBit 0 = .ok (.iload_n 0, 1) := by decide +kernel
theorem dX7_isBit_1 : decode cX7_isBit 1 = .ok (.ifCond .eq 8, 3) := by decide +kernel
theorem dX7_isBit_4 : decode cX7_isBit 4 = .ok (.iload_n 0, 1) := by decide +kernel
theorem dX7_isBit_5 : decode cX7_isBit 5 = .ok (.iconst 1, 1) := by decide +kernel
theorem dX7_isBit_6 : decode cX7_isBit 6 = .ok (.if_icmp .ne 7, 3) := by decide +kernel
theorem dX7_isBit_9 : decode cX7_isBit 9 = .ok (.iconst 1, 1) := by decide +kernel
theorem dX7_isBit_10 : decode cX7_isBit 10 = .ok (.goto 4, 3) := by decide +kernel
theorem dX7_isBit_13 : decode cX7_isBit 13 = .ok (.iconst 0, 1) := by decide +kernel
theorem dX7_isBit_14 : decode cX7_isBit 14 = .ok (.ireturn, 1) := by decide +kernel
theorem dX7_isWithin_0 : decode cX7_isWithin 0 = .ok (.iload_n 0, 1) := by decide +kernel
theorem dX7_isWithin_1 : decode cX7_isWithin 1 = .ok (.ifCond .lt 12, 3) := by decide +kernel
theorem dX7_isWithin_4 : decode cX7_isWithin 4 = .ok (.iload_n 0, 1) := by decide +kernel
theorem dX7_isWithin_5 : decode cX7_isWithin 5 = .ok (.iload_n 1, 1) := by decide +kernel
theorem dX7_isWithin_6 : decode cX7_isWithin 6 = .ok (.if_icmp .gt 7, 3) := by decide +kernel
theorem dX7_isWithin_9 : decode cX7_isWithin 9 = .ok (.iconst 1, 1) := by decide +kernel
theorem dX7_isWithin_10 : decode cX7_isWithin 10 = .ok (.goto 4, 3) := by decide +kernel
theorem dX7_isWithin_13 : decode cX7_isWithin 13 = .ok (.iconst 0, 1) := by decide +kernel
theorem dX7_isWithin_14 : decode cX7_isWithin 14 = .ok (.ireturn, 1) := by decide +kernel
theorem dX7_bit_0 : decode cX7_bit 0 = .ok (.iload_n 0, 1) := by decide +kernel
theorem dX7_bit_1 : decode cX7_bit 1 = .ok (.iload_n 1, 1) := by decide +kernel
theorem dX7_bit_2 : decode cX7_bit 2 = .ok (.ishr, 1) := by decide +kernel
theorem dX7_bit_3 : decode cX7_bit 3 = .ok (.iconst 1, 1) := by decide +kernel
theorem dX7_bit_4 : decode cX7_bit 4 = .ok (.iand, 1) := by decide +kernel
theorem dX7_bit_5 : decode cX7_bit 5 = .ok (.ireturn, 1) := by decide +kernel
set_option maxRecDepth 20000 in
theorem ggX7_leastOf_X7_bit : GoodIn wsX7_leastOf wsX7_bit := goodIn_r _ [4] (by decide +kernel) (by decide +kernel)
set_option maxRecDepth 20000 in
theorem gX7_leastOf_X7_bit : GoodIn wsX7_leastOf (va_wsS RX7 107 yX7_bit wsX7_bit) := goodIn_app (goodIn_of _ (by decide +kernel)) ggX7_leastOf_X7_bit
theorem dX7_leastOf_0 : decode cX7_leastOf 0 = .ok (.iconst 0, 1) := by decide +kernel
theorem dX7_leastOf_1 : decode cX7_leastOf 1 = .ok (.istore_n 1, 1) := by decide +kernel
theorem dX7_leastOf_2 : decode cX7_leastOf 2 = .ok (.iload_n 1, 1) := by decide +kernel
theorem dX7_leastOf_3 : decode cX7_leastOf 3 = .ok (.bipush 6, 2) := by decide +kernel
theorem dX7_leastOf_5 : decode cX7_leastOf 5 = .ok (.if_icmp .ge 20, 3) := by decide +kernel
theorem dX7_leastOf_8 : decode cX7_leastOf 8 = .ok (.iload_n 0, 1) := by decide +kernel
theorem dX7_leastOf_9 : decode cX7_leastOf 9 = .ok (.iload_n 1, 1) := by decide +kernel
theorem dX7_leastOf_10 : decode cX7_leastOf 10 = .ok (.invokestatic 107, 3) := by decide +kernel
theorem dX7_leastOf_13 : decode cX7_leastOf 13 = .ok (.iconst 1, 1) := by decide +kernel
theorem dX7_leastOf_14 : decode cX7_leastOf 14 = .ok (.if_icmp .ne 5, 3) := by decide +kernel
theorem dX7_leastOf_17 : decode cX7_leastOf 17 = .ok (.iload_n 1, 1) := by decide +kernel
theorem dX7_leastOf_18 : decode cX7_leastOf 18 = .ok (.ireturn, 1) := by decide +kernel
theorem dX7_leastOf_19 : decode cX7_leastOf 19 = .ok (.iinc 1 1, 3) := by decide +kernel
theorem dX7_leastOf_22 : decode cX7_leastOf 22 = .ok (.goto (-20), 3) := by decide +kernel
theorem dX7_leastOf_25 : decode cX7_leastOf 25 = .ok (.bipush (-9), 2) := by decide +kernel
theorem dX7_leastOf_27 : decode cX7_leastOf 27 = .ok (.ireturn, 1) := by decide +kernel
set_option maxRecDepth 20000 in
theorem ggX7_busyHours_J6_bitCount_0f7a4 : GoodIn wsX7_busyHours wsJ6_bitCount_0f7a4 := goodIn_r _ [8, 9, 10, 11] (by decide +kernel) (by decide +kernel)
set_option maxRecDepth 20000 in
theorem gX7_busyHours_J6_bitCount_0f7a4 : GoodIn wsX7_busyHours (va_wsS RX7 130 yJ6_bitCount_0f7a4 wsJ6_bitCount_0f7a4) := goodIn_app (goodIn_of _ (by decide +kernel)) ggX7_busyHours_J6_bitCount_0f7a4
set_option maxRecDepth 20000 in
theorem ggX7_busyHours_X0_staysCool : GoodIn wsX7_busyHours wsX0_staysCool := goodIn_r _ [16, 17, 18, 19, 20, 21, 15, 22, 23, 24, 25, 26, 27, 28, 29, 30, 31, 32, 33, 34, 35, 36, 37, 38, 39, 40, 41, 42, 43, 44, 45, 46, 47, 48, 49, 50, 51, 52, 53, 54, 55, 66, 67, 68, 78, 79, 80, 81, 82, 83, 84, 85, 69, 70, 71, 72, 73, 74, 75, 76, 77] (by decide +kernel) (by decide +kernel)
set_option maxRecDepth 20000 in
theorem gX7_busyHours_X0_staysCool : GoodIn wsX7_busyHours (wsV RX7 241 RX0 yX0_staysCool wsX0_staysCool) := goodIn_app (goodIn_of _ (by decide +kernel)) ggX7_busyHours_X0_staysCool
theorem dX7_busyHours_0 : decode cX7_busyHours 0 = .ok (.iconst 0, 1) := by decide +kernel
theorem dX7_busyHours_1 : decode cX7_busyHours 1 = .ok (.istore_n 3, 1) := by decide +kernel
theorem dX7_busyHours_2 : decode cX7_busyHours 2 = .ok (.iload_n 3, 1) := by decide +kernel
theorem dX7_busyHours_3 : decode cX7_busyHours 3 = .ok (.sipush 255, 3) := by decide +kernel
theorem dX7_busyHours_6 : decode cX7_busyHours 6 = .ok (.if_icmp .gt 48, 3) := by decide +kernel
theorem dX7_busyHours_9 : decode cX7_busyHours 9 = .ok (.iload_n 3, 1) := by decide +kernel
theorem dX7_busyHours_10 : decode cX7_busyHours 10 = .ok (.invokestatic 130, 3) := by decide +kernel
theorem dX7_busyHours_13 : decode cX7_busyHours 13 = .ok (.iload_n 2, 1) := by decide +kernel
theorem dX7_busyHours_14 : decode cX7_busyHours 14 = .ok (.if_icmp .ne 34, 3) := by decide +kernel
theorem dX7_busyHours_17 : decode cX7_busyHours 17 = .ok (.aload_n 0, 1) := by decide +kernel
theorem dX7_busyHours_18 : decode cX7_busyHours 18 = .ok (.getfield 40, 3) := by decide +kernel
theorem dX7_busyHours_21 : decode cX7_busyHours 21 = .ok (.getfield 179, 3) := by decide +kernel
theorem dX7_busyHours_24 : decode cX7_busyHours 24 = .ok (.getfield 97, 3) := by decide +kernel
theorem dX7_busyHours_27 : decode cX7_busyHours 27 = .ok (.iload_n 1, 1) := by decide +kernel
theorem dX7_busyHours_28 : decode cX7_busyHours 28 = .ok (.iload_n 3, 1) := by decide +kernel
theorem dX7_busyHours_29 : decode cX7_busyHours 29 = .ok (.iastore, 1) := by decide +kernel
theorem dX7_busyHours_30 : decode cX7_busyHours 30 = .ok (.aload_n 0, 1) := by decide +kernel
theorem dX7_busyHours_31 : decode cX7_busyHours 31 = .ok (.getfield 40, 3) := by decide +kernel
theorem dX7_busyHours_34 : decode cX7_busyHours 34 = .ok (.aload_n 0, 1) := by decide +kernel
theorem dX7_busyHours_35 : decode cX7_busyHours 35 = .ok (.getfield 26, 3) := by decide +kernel
theorem dX7_busyHours_38 : decode cX7_busyHours 38 = .ok (.bipush 16, 2) := by decide +kernel
theorem dX7_busyHours_40 : decode cX7_busyHours 40 = .ok (.invokevirtual 241, 3) := by decide +kernel
theorem dX7_busyHours_43 : decode cX7_busyHours 43 = .ok (.ifCond .eq 5, 3) := by decide +kernel
theorem dX7_busyHours_46 : decode cX7_busyHours 46 = .ok (.iload_n 3, 1) := by decide +kernel
theorem dX7_busyHours_47 : decode cX7_busyHours 47 = .ok (.ireturn, 1) := by decide +kernel
theorem dX7_busyHours_48 : decode cX7_busyHours 48 = .ok (.iinc 3 1, 3) := by decide +kernel
theorem dX7_busyHours_51 : decode cX7_busyHours 51 = .ok (.goto (-49), 3) := by decide +kernel
theorem dX7_busyHours_54 : decode cX7_busyHours 54 = .ok (.bipush (-9), 2) := by decide +kernel
theorem dX7_busyHours_56 : decode cX7_busyHours 56 = .ok (.ireturn, 1) := by decide +kernel
set_option maxRecDepth 20000 in
theorem ggX7_blanketOf_J6_bitCount_0f7a4 : GoodIn wsX7_blanketOf wsJ6_bitCount_0f7a4 := goodIn_r _ [9, 10, 11, 12] (by decide +kernel) (by decide +kernel)
set_option maxRecDepth 20000 in
theorem gX7_blanketOf_J6_bitCount_0f7a4 : GoodIn wsX7_blanketOf (va_wsS RX7 130 yJ6_bitCount_0f7a4 wsJ6_bitCount_0f7a4) := goodIn_app (goodIn_of _ (by decide +kernel)) ggX7_blanketOf_J6_bitCount_0f7a4
set_option maxRecDepth 20000 in
theorem ggX7_blanketOf_X0_warmthIfMirrors : GoodIn wsX7_blanketOf wsX0_warmthIfMirrors := goodIn_r _ [17, 18, 19, 20, 21, 22, 23, 16, 24, 25, 26, 27, 28, 29, 30, 31, 32, 33, 34, 35, 36, 37, 38, 39, 40, 41, 42, 43, 44, 45, 46, 47, 48, 49, 50, 51, 52, 53, 54, 55, 56, 84, 85, 86, 67, 68, 69, 70, 71, 72, 73, 74, 75, 76, 77, 78, 79, 80, 81, 82, 83] (by decide +kernel) (by decide +kernel)
set_option maxRecDepth 20000 in
theorem gX7_blanketOf_X0_warmthIfMirrors : GoodIn wsX7_blanketOf (wsV RX7 245 RX0 yX0_warmthIfMirrors wsX0_warmthIfMirrors) := goodIn_app (goodIn_of _ (by decide +kernel)) ggX7_blanketOf_X0_warmthIfMirrors
theorem dX7_blanketOf_0 : decode cX7_blanketOf 0 = .ok (.aload_n 0, 1) := by decide +kernel
theorem dX7_blanketOf_1 : decode cX7_blanketOf 1 = .ok (.getfield 26, 3) := by decide +kernel
theorem dX7_blanketOf_4 : decode cX7_blanketOf 4 = .ok (.getfield 111, 3) := by decide +kernel
theorem dX7_blanketOf_7 : decode cX7_blanketOf 7 = .ok (.iconst 1, 1) := by decide +kernel
theorem dX7_blanketOf_8 : decode cX7_blanketOf 8 = .ok (.iload_n 1, 1) := by decide +kernel
theorem dX7_blanketOf_9 : decode cX7_blanketOf 9 = .ok (.ishl, 1) := by decide +kernel
theorem dX7_blanketOf_10 : decode cX7_blanketOf 10 = .ok (.ior, 1) := by decide +kernel
theorem dX7_blanketOf_11 : decode cX7_blanketOf 11 = .ok (.istore 5, 2) := by decide +kernel
theorem dX7_blanketOf_13 : decode cX7_blanketOf 13 = .ok (.iconst 0, 1) := by decide +kernel
theorem dX7_blanketOf_14 : decode cX7_blanketOf 14 = .ok (.istore 6, 2) := by decide +kernel
theorem dX7_blanketOf_16 : decode cX7_blanketOf 16 = .ok (.iload 6, 2) := by decide +kernel
theorem dX7_blanketOf_18 : decode cX7_blanketOf 18 = .ok (.iconst 1, 1) := by decide +kernel
theorem dX7_blanketOf_19 : decode cX7_blanketOf 19 = .ok (.aload_n 0, 1) := by decide +kernel
theorem dX7_blanketOf_20 : decode cX7_blanketOf 20 = .ok (.getfield 51, 3) := by decide +kernel
theorem dX7_blanketOf_23 : decode cX7_blanketOf 23 = .ok (.getfield 141, 3) := by decide +kernel
theorem dX7_blanketOf_26 : decode cX7_blanketOf 26 = .ok (.ishl, 1) := by decide +kernel
theorem dX7_blanketOf_27 : decode cX7_blanketOf 27 = .ok (.if_icmp .ge 53, 3) := by decide +kernel
theorem dX7_blanketOf_30 : decode cX7_blanketOf 30 = .ok (.iload 6, 2) := by decide +kernel
theorem dX7_blanketOf_32 : decode cX7_blanketOf 32 = .ok (.iload 5, 2) := by decide +kernel
theorem dX7_blanketOf_34 : decode cX7_blanketOf 34 = .ok (.iand, 1) := by decide +kernel
theorem dX7_blanketOf_35 : decode cX7_blanketOf 35 = .ok (.ifCond .ne 39, 3) := by decide +kernel
theorem dX7_blanketOf_38 : decode cX7_blanketOf 38 = .ok (.iload 6, 2) := by decide +kernel
theorem dX7_blanketOf_40 : decode cX7_blanketOf 40 = .ok (.invokestatic 130, 3) := by decide +kernel
theorem dX7_blanketOf_43 : decode cX7_blanketOf 43 = .ok (.iload 4, 2) := by decide +kernel
theorem dX7_blanketOf_45 : decode cX7_blanketOf 45 = .ok (.if_icmp .ne 29, 3) := by decide +kernel
theorem dX7_blanketOf_48 : decode cX7_blanketOf 48 = .ok (.aload_n 0, 1) := by decide +kernel
theorem dX7_blanketOf_49 : decode cX7_blanketOf 49 = .ok (.getfield 40, 3) := by decide +kernel
theorem dX7_blanketOf_52 : decode cX7_blanketOf 52 = .ok (.aload_n 0, 1) := by decide +kernel
theorem dX7_blanketOf_53 : decode cX7_blanketOf 53 = .ok (.getfield 26, 3) := by decide +kernel
theorem dX7_blanketOf_56 : decode cX7_blanketOf 56 = .ok (.aload_n 0, 1) := by decide +kernel
theorem dX7_blanketOf_57 : decode cX7_blanketOf 57 = .ok (.getfield 51, 3) := by decide +kernel
theorem dX7_blanketOf_60 : decode cX7_blanketOf 60 = .ok (.iload 6, 2) := by decide +kernel
theorem dX7_blanketOf_62 : decode cX7_blanketOf 62 = .ok (.iload_n 3, 1) := by decide +kernel
theorem dX7_blanketOf_63 : decode cX7_blanketOf 63 = .ok (.iload_n 1, 1) := by decide +kernel
theorem dX7_blanketOf_64 : decode cX7_blanketOf 64 = .ok (.invokevirtual 245, 3) := by decide +kernel
theorem dX7_blanketOf_67 : decode cX7_blanketOf 67 = .ok (.iload_n 2, 1) := by decide +kernel
theorem dX7_blanketOf_68 : decode cX7_blanketOf 68 = .ok (.if_icmp .lt 6, 3) := by decide +kernel
theorem dX7_blanketOf_71 : decode cX7_blanketOf 71 = .ok (.iload 6, 2) := by decide +kernel
theorem dX7_blanketOf_73 : decode cX7_blanketOf 73 = .ok (.ireturn, 1) := by decide +kernel
theorem dX7_blanketOf_74 : decode cX7_blanketOf 74 = .ok (.iinc 6 1, 3) := by decide +kernel
theorem dX7_blanketOf_77 : decode cX7_blanketOf 77 = .ok (.goto (-61), 3) := by decide +kernel
theorem dX7_blanketOf_80 : decode cX7_blanketOf 80 = .ok (.bipush (-9), 2) := by decide +kernel
theorem dX7_blanketOf_82 : decode cX7_blanketOf 82 = .ok (.ireturn, 1) := by decide +kernel
set_option maxRecDepth 20000 in
theorem ggX7_harmDone_X6_copy : GoodIn wsX7_harmDone wsX6_copy := goodIn_r _ [12, 13, 14, 15, 16, 17, 18, 19, 20, 21, 77, 78, 79, 80, 81, 82, 83, 84, 85] (by decide +kernel) (by decide +kernel)
set_option maxRecDepth 20000 in
theorem gX7_harmDone_X6_copy : GoodIn wsX7_harmDone (wsV RX7 182 RX6 yX6_copy wsX6_copy) := goodIn_app (goodIn_of _ (by decide +kernel)) ggX7_harmDone_X6_copy
set_option maxRecDepth 20000 in
theorem ggX7_harmDone_X0_setOut : GoodIn wsX7_harmDone wsX0_setOut := goodIn_r _ [26, 27, 28, 29, 30, 31, 32, 33, 34, 35, 36, 37, 74, 75, 76, 86, 87, 88, 89, 90, 91, 92, 93] (by decide +kernel) (by decide +kernel)
set_option maxRecDepth 20000 in
theorem gX7_harmDone_X0_setOut : GoodIn wsX7_harmDone (wsV RX7 158 RX0 yX0_setOut wsX0_setOut) := goodIn_app (goodIn_of _ (by decide +kernel)) ggX7_harmDone_X0_setOut
set_option maxRecDepth 20000 in
theorem ggX7_harmDone_X0_goOn : GoodIn wsX7_harmDone wsX0_goOn := goodIn_r _ [41, 27, 42, 43, 44, 31, 45, 33, 46, 47, 37, 48, 49, 50, 36, 51, 52, 53, 54, 55, 56, 57, 34, 58, 59, 35, 74, 75, 76, 86, 87, 88, 89, 90, 91, 92, 93, 77, 78, 79, 80, 81, 82, 83, 84, 85] (by decide +kernel) (by decide +kernel)
set_option maxRecDepth 20000 in
theorem gX7_harmDone_X0_goOn : GoodIn wsX7_harmDone (wsV RX7 162 RX0 yX0_goOn wsX0_goOn) := goodIn_app (goodIn_of _ (by decide +kernel)) ggX7_harmDone_X0_goOn
set_option maxRecDepth 20000 in
theorem ggX7_harmDone_X1_warmthOfAll : GoodIn wsX7_harmDone wsX1_warmthOfAll := goodIn_r _ [63, 37, 86, 87, 88, 89, 90, 91, 92, 93] (by decide +kernel) (by decide +kernel)
set_option maxRecDepth 20000 in
theorem gX7_harmDone_X1_warmthOfAll : GoodIn wsX7_harmDone (wsV RX7 142 RX1 yX1_warmthOfAll wsX1_warmthOfAll) := goodIn_app (goodIn_of _ (by decide +kernel)) ggX7_harmDone_X1_warmthOfAll
theorem dX7_harmDone_0 : decode cX7_harmDone 0 = .ok (.aload_n 0, 1) := by decide +kernel
theorem dX7_harmDone_1 : decode cX7_harmDone 1 = .ok (.getfield 40, 3) := by decide +kernel
theorem dX7_harmDone_4 : decode cX7_harmDone 4 = .ok (.getfield 179, 3) := by decide +kernel
theorem dX7_harmDone_7 : decode cX7_harmDone 7 = .ok (.aload_n 0, 1) := by decide +kernel
theorem dX7_harmDone_8 : decode cX7_harmDone 8 = .ok (.getfield 51, 3) := by decide +kernel
theorem dX7_harmDone_11 : decode cX7_harmDone 11 = .ok (.invokevirtual 182, 3) := by decide +kernel
theorem dX7_harmDone_14 : decode cX7_harmDone 14 = .ok (.aload_n 0, 1) := by decide +kernel
theorem dX7_harmDone_15 : decode cX7_harmDone 15 = .ok (.getfield 40, 3) := by decide +kernel
theorem dX7_harmDone_18 : decode cX7_harmDone 18 = .ok (.aload_n 0, 1) := by decide +kernel
theorem dX7_harmDone_19 : decode cX7_harmDone 19 = .ok (.getfield 26, 3) := by decide +kernel
theorem dX7_harmDone_22 : decode cX7_harmDone 22 = .ok (.invokevirtual 158, 3) := by decide +kernel
theorem dX7_harmDone_25 : decode cX7_harmDone 25 = .ok (.aload_n 0, 1) := by decide +kernel
theorem dX7_harmDone_26 : decode cX7_harmDone 26 = .ok (.getfield 40, 3) := by decide +kernel
theorem dX7_harmDone_29 : decode cX7_harmDone 29 = .ok (.aload_n 0, 1) := by decide +kernel
theorem dX7_harmDone_30 : decode cX7_harmDone 30 = .ok (.getfield 51, 3) := by decide +kernel
theorem dX7_harmDone_33 : decode cX7_harmDone 33 = .ok (.bipush 8, 2) := by decide +kernel
theorem dX7_harmDone_35 : decode cX7_harmDone 35 = .ok (.invokevirtual 162, 3) := by decide +kernel
theorem dX7_harmDone_38 : decode cX7_harmDone 38 = .ok (.aload_n 0, 1) := by decide +kernel
theorem dX7_harmDone_39 : decode cX7_harmDone 39 = .ok (.getfield 40, 3) := by decide +kernel
theorem dX7_harmDone_42 : decode cX7_harmDone 42 = .ok (.getfield 166, 3) := by decide +kernel
theorem dX7_harmDone_45 : decode cX7_harmDone 45 = .ok (.aload_n 0, 1) := by decide +kernel
theorem dX7_harmDone_46 : decode cX7_harmDone 46 = .ok (.getfield 51, 3) := by decide +kernel
theorem dX7_harmDone_49 : decode cX7_harmDone 49 = .ok (.getfield 141, 3) := by decide +kernel
theorem dX7_harmDone_52 : decode cX7_harmDone 52 = .ok (.invokevirtual 142, 3) := by decide +kernel
theorem dX7_harmDone_55 : decode cX7_harmDone 55 = .ok (.istore_n 3, 1) := by decide +kernel
theorem dX7_harmDone_56 : decode cX7_harmDone 56 = .ok (.aload_n 0, 1) := by decide +kernel
theorem dX7_harmDone_57 : decode cX7_harmDone 57 = .ok (.getfield 40, 3) := by decide +kernel
theorem dX7_harmDone_60 : decode cX7_harmDone 60 = .ok (.getfield 179, 3) := by decide +kernel
theorem dX7_harmDone_63 : decode cX7_harmDone 63 = .ok (.getfield 249, 3) := by decide +kernel
theorem dX7_harmDone_66 : decode cX7_harmDone 66 = .ok (.iload_n 1, 1) := by decide +kernel
theorem dX7_harmDone_67 : decode cX7_harmDone 67 = .ok (.iload_n 2, 1) := by decide +kernel
theorem dX7_harmDone_68 : decode cX7_harmDone 68 = .ok (.iastore, 1) := by decide +kernel
theorem dX7_harmDone_69 : decode cX7_harmDone 69 = .ok (.aload_n 0, 1) := by decide +kernel
theorem dX7_harmDone_70 : decode cX7_harmDone 70 = .ok (.getfield 40, 3) := by decide +kernel
theorem dX7_harmDone_73 : decode cX7_harmDone 73 = .ok (.aload_n 0, 1) := by decide +kernel
theorem dX7_harmDone_74 : decode cX7_harmDone 74 = .ok (.getfield 26, 3) := by decide +kernel
theorem dX7_harmDone_77 : decode cX7_harmDone 77 = .ok (.invokevirtual 158, 3) := by decide +kernel
theorem dX7_harmDone_80 : decode cX7_harmDone 80 = .ok (.aload_n 0, 1) := by decide +kernel
theorem dX7_harmDone_81 : decode cX7_harmDone 81 = .ok (.getfield 40, 3) := by decide +kernel
theorem dX7_harmDone_84 : decode cX7_harmDone 84 = .ok (.aload_n 0, 1) := by decide +kernel
theorem dX7_harmDone_85 : decode cX7_harmDone 85 = .ok (.getfield 40, 3) := by decide +kernel
theorem dX7_harmDone_88 : decode cX7_harmDone 88 = .ok (.getfield 179, 3) := by decide +kernel
theorem dX7_harmDone_91 : decode cX7_harmDone 91 = .ok (.bipush 8, 2) := by decide +kernel
theorem dX7_harmDone_93 : decode cX7_harmDone 93 = .ok (.invokevirtual 162, 3) := by decide +kernel
theorem dX7_harmDone_96 : decode cX7_harmDone 96 = .ok (.aload_n 0, 1) := by decide +kernel
theorem dX7_harmDone_97 : decode cX7_harmDone 97 = .ok (.getfield 40, 3) := by decide +kernel
theorem dX7_harmDone_100 : decode cX7_harmDone 100 = .ok (.getfield 166, 3) := by decide +kernel
theorem dX7_harmDone_103 : decode cX7_harmDone 103 = .ok (.aload_n 0, 1) := by decide +kernel
theorem dX7_harmDone_104 : decode cX7_harmDone 104 = .ok (.getfield 51, 3) := by decide +kernel
theorem dX7_harmDone_107 : decode cX7_harmDone 107 = .ok (.getfield 141, 3) := by decide +kernel
theorem dX7_harmDone_110 : decode cX7_harmDone 110 = .ok (.invokevirtual 142, 3) := by decide +kernel
theorem dX7_harmDone_113 : decode cX7_harmDone 113 = .ok (.iload_n 3, 1) := by decide +kernel
theorem dX7_harmDone_114 : decode cX7_harmDone 114 = .ok (.isub, 1) := by decide +kernel
theorem dX7_harmDone_115 : decode cX7_harmDone 115 = .ok (.ireturn, 1) := by decide +kernel
set_option maxRecDepth 20000 in
theorem ggX7_leastHarmed_X7_harmDone : GoodIn wsX7_leastHarmed wsX7_harmDone := goodIn_r _ [7, 8, 9, 1, 10, 11, 2, 12, 13, 14, 15, 16, 17, 18, 19, 20, 21, 22, 23, 24, 25, 26, 27, 28, 29, 30, 31, 32, 33, 34, 35, 36, 37, 38, 39, 40, 41, 42, 43, 44, 45, 46, 47, 48, 49, 50, 51, 52, 53, 54, 55, 56, 6, 57, 58, 59, 60, 61, 62, 63, 64, 65, 66, 67, 68, 69, 70, 71, 72, 73, 74, 75, 76, 77, 87, 88, 89, 78, 79, 80, 81, 82, 83, 84, 85, 86, 90, 91, 92, 93, 94, 95, 96, 97] (by decide +kernel) (by decide +kernel)
set_option maxRecDepth 20000 in
theorem gX7_leastHarmed_X7_harmDone : GoodIn wsX7_leastHarmed (wsV RX7 196 RX7 yX7_harmDone wsX7_harmDone) := goodIn_app (goodIn_of _ (by decide +kernel)) ggX7_leastHarmed_X7_harmDone
theorem dX7_leastHarmed_0 : decode cX7_leastHarmed 0 = .ok (.iconst 0, 1) := by decide +kernel
theorem dX7_leastHarmed_1 : decode cX7_leastHarmed 1 = .ok (.istore_n 2, 1) := by decide +kernel
theorem dX7_leastHarmed_2 : decode cX7_leastHarmed 2 = .ok (.bipush (-9), 2) := by decide +kernel
theorem dX7_leastHarmed_4 : decode cX7_leastHarmed 4 = .ok (.istore_n 3, 1) := by decide +kernel
theorem dX7_leastHarmed_5 : decode cX7_leastHarmed 5 = .ok (.iconst 0, 1) := by decide +kernel
theorem dX7_leastHarmed_6 : decode cX7_leastHarmed 6 = .ok (.istore 4, 2) := by decide +kernel
theorem dX7_leastHarmed_8 : decode cX7_leastHarmed 8 = .ok (.iload 4, 2) := by decide +kernel
theorem dX7_leastHarmed_10 : decode cX7_leastHarmed 10 = .ok (.aload_n 0, 1) := by decide +kernel
theorem dX7_leastHarmed_11 : decode cX7_leastHarmed 11 = .ok (.getfield 51, 3) := by decide +kernel
theorem dX7_leastHarmed_14 : decode cX7_leastHarmed 14 = .ok (.getfield 141, 3) := by decide +kernel
theorem dX7_leastHarmed_17 : decode cX7_leastHarmed 17 = .ok (.if_icmp .ge 36, 3) := by decide +kernel
theorem dX7_leastHarmed_20 : decode cX7_leastHarmed 20 = .ok (.aload_n 0, 1) := by decide +kernel
theorem dX7_leastHarmed_21 : decode cX7_leastHarmed 21 = .ok (.iload 4, 2) := by decide +kernel
theorem dX7_leastHarmed_23 : decode cX7_leastHarmed 23 = .ok (.iload_n 1, 1) := by decide +kernel
theorem dX7_leastHarmed_24 : decode cX7_leastHarmed 24 = .ok (.invokevirtual 196, 3) := by decide +kernel
theorem dX7_leastHarmed_27 : decode cX7_leastHarmed 27 = .ok (.istore 5, 2) := by decide +kernel
theorem dX7_leastHarmed_29 : decode cX7_leastHarmed 29 = .ok (.iload_n 3, 1) := by decide +kernel
theorem dX7_leastHarmed_30 : decode cX7_leastHarmed 30 = .ok (.bipush (-9), 2) := by decide +kernel
theorem dX7_leastHarmed_32 : decode cX7_leastHarmed 32 = .ok (.if_icmp .eq 9, 3) := by decide +kernel
theorem dX7_leastHarmed_35 : decode cX7_leastHarmed 35 = .ok (.iload 5, 2) := by decide +kernel
theorem dX7_leastHarmed_37 : decode cX7_leastHarmed 37 = .ok (.iload_n 2, 1) := by decide +kernel
theorem dX7_leastHarmed_38 : decode cX7_leastHarmed 38 = .ok (.if_icmp .ge 9, 3) := by decide +kernel
theorem dX7_leastHarmed_41 : decode cX7_leastHarmed 41 = .ok (.iload 5, 2) := by decide +kernel
theorem dX7_leastHarmed_43 : decode cX7_leastHarmed 43 = .ok (.istore_n 2, 1) := by decide +kernel
theorem dX7_leastHarmed_44 : decode cX7_leastHarmed 44 = .ok (.iload 4, 2) := by decide +kernel
theorem dX7_leastHarmed_46 : decode cX7_leastHarmed 46 = .ok (.istore_n 3, 1) := by decide +kernel
theorem dX7_leastHarmed_47 : decode cX7_leastHarmed 47 = .ok (.iinc 4 1, 3) := by decide +kernel
theorem dX7_leastHarmed_50 : decode cX7_leastHarmed 50 = .ok (.goto (-42), 3) := by decide +kernel
theorem dX7_leastHarmed_53 : decode cX7_leastHarmed 53 = .ok (.iload_n 3, 1) := by decide +kernel
theorem dX7_leastHarmed_54 : decode cX7_leastHarmed 54 = .ok (.ireturn, 1) := by decide +kernel
set_option maxRecDepth 20000 in
theorem ggX7_holesOfAll_X0_allSeenIsSo : GoodIn wsX7_holesOfAll wsX0_allSeenIsSo := goodIn_r _ [9, 10, 11, 12, 13, 14, 15, 16, 17, 18, 19, 20, 21, 22, 23, 24, 25, 26, 27, 28, 29, 30, 31, 32, 33, 34, 35, 36, 37, 38, 39, 40, 41, 42, 43, 44, 45, 46, 47, 48, 49, 50, 51, 52, 53, 54, 55, 56, 57, 58, 59, 85, 86, 87, 88, 89, 90, 91, 92, 93, 94, 95, 76, 77, 78, 79, 80, 81, 82, 83, 84, 96, 97, 98, 99] (by decide +kernel) (by decide +kernel)
set_option maxRecDepth 20000 in
theorem gX7_holesOfAll_X0_allSeenIsSo : GoodIn wsX7_holesOfAll (wsV RX7 252 RX0 yX0_allSeenIsSo wsX0_allSeenIsSo) := goodIn_app (goodIn_of _ (by decide +kernel)) ggX7_holesOfAll_X0_allSeenIsSo
set_option maxRecDepth 20000 in
theorem ggX7_holesOfAll_X7_holeRate : GoodIn wsX7_holesOfAll wsX7_holeRate := goodIn_r _ [63, 1, 64, 65, 3, 2, 5, 6, 7, 8, 9, 10, 11, 12, 13, 14, 15, 16, 17, 18, 19, 20, 21, 22, 23, 24, 25, 26, 27, 28, 29, 30, 31, 32, 33, 34, 35, 36, 37, 38, 39, 40, 41, 42, 43, 44, 45, 46, 47, 48, 49, 50, 51, 52, 53, 54, 55, 56, 57, 58, 59, 66, 67, 68, 69, 70, 71, 72, 73, 74, 75, 85, 86, 87, 76, 77, 78, 79, 80, 81, 82, 83, 84, 88, 89, 90, 91, 92, 93, 94, 95, 96, 97, 98, 99] (by decide +kernel) (by decide +kernel)
set_option maxRecDepth 20000 in
theorem gX7_holesOfAll_X7_holeRate : GoodIn wsX7_holesOfAll (wsV RX7 207 RX7 yX7_holeRate wsX7_holeRate) := goodIn_app (goodIn_of _ (by decide +kernel)) ggX7_holesOfAll_X7_holeRate
theorem dX7_holesOfAll_0 : decode cX7_holesOfAll 0 = .ok (.aload_n 0, 1) := by decide +kernel
theorem dX7_holesOfAll_1 : decode cX7_holesOfAll 1 = .ok (.getfield 40, 3) := by decide +kernel
theorem dX7_holesOfAll_4 : decode cX7_holesOfAll 4 = .ok (.aload_n 0, 1) := by decide +kernel
theorem dX7_holesOfAll_5 : decode cX7_holesOfAll 5 = .ok (.getfield 33, 3) := by decide +kernel
theorem dX7_holesOfAll_8 : decode cX7_holesOfAll 8 = .ok (.invokevirtual 252, 3) := by decide +kernel
theorem dX7_holesOfAll_11 : decode cX7_holesOfAll 11 = .ok (.ifCond .eq 8, 3) := by decide +kernel
theorem dX7_holesOfAll_14 : decode cX7_holesOfAll 14 = .ok (.bipush 64, 2) := by decide +kernel
theorem dX7_holesOfAll_16 : decode cX7_holesOfAll 16 = .ok (.goto 4, 3) := by decide +kernel
theorem dX7_holesOfAll_19 : decode cX7_holesOfAll 19 = .ok (.iconst 0, 1) := by decide +kernel
theorem dX7_holesOfAll_20 : decode cX7_holesOfAll 20 = .ok (.istore_n 1, 1) := by decide +kernel
theorem dX7_holesOfAll_21 : decode cX7_holesOfAll 21 = .ok (.iconst 0, 1) := by decide +kernel
theorem dX7_holesOfAll_22 : decode cX7_holesOfAll 22 = .ok (.istore_n 2, 1) := by decide +kernel
theorem dX7_holesOfAll_23 : decode cX7_holesOfAll 23 = .ok (.iload_n 2, 1) := by decide +kernel
theorem dX7_holesOfAll_24 : decode cX7_holesOfAll 24 = .ok (.aload_n 0, 1) := by decide +kernel
theorem dX7_holesOfAll_25 : decode cX7_holesOfAll 25 = .ok (.getfield 51, 3) := by decide +kernel
theorem dX7_holesOfAll_28 : decode cX7_holesOfAll 28 = .ok (.getfield 141, 3) := by decide +kernel
theorem dX7_holesOfAll_31 : decode cX7_holesOfAll 31 = .ok (.if_icmp .ge 25, 3) := by decide +kernel
theorem dX7_holesOfAll_34 : decode cX7_holesOfAll 34 = .ok (.aload_n 0, 1) := by decide +kernel
theorem dX7_holesOfAll_35 : decode cX7_holesOfAll 35 = .ok (.iload_n 2, 1) := by decide +kernel
theorem dX7_holesOfAll_36 : decode cX7_holesOfAll 36 = .ok (.invokevirtual 207, 3) := by decide +kernel
theorem dX7_holesOfAll_39 : decode cX7_holesOfAll 39 = .ok (.bipush (-9), 2) := by decide +kernel
theorem dX7_holesOfAll_41 : decode cX7_holesOfAll 41 = .ok (.if_icmp .eq 9, 3) := by decide +kernel
theorem dX7_holesOfAll_44 : decode cX7_holesOfAll 44 = .ok (.iload_n 1, 1) := by decide +kernel
theorem dX7_holesOfAll_45 : decode cX7_holesOfAll 45 = .ok (.iconst 1, 1) := by decide +kernel
theorem dX7_holesOfAll_46 : decode cX7_holesOfAll 46 = .ok (.iload_n 2, 1) := by decide +kernel
theorem dX7_holesOfAll_47 : decode cX7_holesOfAll 47 = .ok (.ishl, 1) := by decide +kernel
theorem dX7_holesOfAll_48 : decode cX7_holesOfAll 48 = .ok (.ior, 1) := by decide +kernel
theorem dX7_holesOfAll_49 : decode cX7_holesOfAll 49 = .ok (.istore_n 1, 1) := by decide +kernel
theorem dX7_holesOfAll_50 : decode cX7_holesOfAll 50 = .ok (.iinc 2 1, 3) := by decide +kernel
theorem dX7_holesOfAll_53 : decode cX7_holesOfAll 53 = .ok (.goto (-30), 3) := by decide +kernel
theorem dX7_holesOfAll_56 : decode cX7_holesOfAll 56 = .ok (.iload_n 1, 1) := by decide +kernel
theorem dX7_holesOfAll_57 : decode cX7_holesOfAll 57 = .ok (.ireturn, 1) := by decide +kernel
set_option maxRecDepth 20000 in
theorem ggX7_holeRate_X0_allSeenIsSo : GoodIn wsX7_holeRate wsX0_allSeenIsSo := goodIn_r _ [10, 11, 12, 13, 14, 15, 16, 17, 18, 19, 20, 21, 22, 23, 24, 25, 26, 27, 28, 29, 30, 31, 32, 33, 34, 35, 36, 37, 38, 39, 40, 41, 42, 43, 44, 45, 46, 47, 48, 49, 50, 51, 52, 53, 54, 55, 56, 57, 58, 59, 60, 71, 72, 73, 83, 84, 85, 86, 87, 88, 89, 90, 74, 75, 76, 77, 78, 79, 80, 81, 82, 91, 92, 93, 94] (by decide +kernel) (by decide +kernel)
set_option maxRecDepth 20000 in
theorem gX7_holeRate_X0_allSeenIsSo : GoodIn wsX7_holeRate (wsV RX7 252 RX0 yX0_allSeenIsSo wsX0_allSeenIsSo) := goodIn_app (goodIn_of _ (by decide +kernel)) ggX7_holeRate_X0_allSeenIsSo
theorem dX7_holeRate_0 : decode cX7_holeRate 0 = .ok (.bipush (-9), 2) := by decide +kernel
theorem dX7_holeRate_2 : decode cX7_holeRate 2 = .ok (.istore_n 2, 1) := by decide +kernel
theorem dX7_holeRate_3 : decode cX7_holeRate 3 = .ok (.iconst 0, 1) := by decide +kernel
theorem dX7_holeRate_4 : decode cX7_holeRate 4 = .ok (.istore_n 3, 1) := by decide +kernel
theorem dX7_holeRate_5 : decode cX7_holeRate 5 = .ok (.iload_n 3, 1) := by decide +kernel
theorem dX7_holeRate_6 : decode cX7_holeRate 6 = .ok (.bipush 9, 2) := by decide +kernel
theorem dX7_holeRate_8 : decode cX7_holeRate 8 = .ok (.if_icmp .gt 57, 3) := by decide +kernel
theorem dX7_holeRate_11 : decode cX7_holeRate 11 = .ok (.iload_n 2, 1) := by decide +kernel
theorem dX7_holeRate_12 : decode cX7_holeRate 12 = .ok (.bipush (-9), 2) := by decide +kernel
theorem dX7_holeRate_14 : decode cX7_holeRate 14 = .ok (.if_icmp .ne 51, 3) := by decide +kernel
theorem dX7_holeRate_17 : decode cX7_holeRate 17 = .ok (.aload_n 0, 1) := by decide +kernel
theorem dX7_holeRate_18 : decode cX7_holeRate 18 = .ok (.getfield 40, 3) := by decide +kernel
theorem dX7_holeRate_21 : decode cX7_holeRate 21 = .ok (.getfield 179, 3) := by decide +kernel
theorem dX7_holeRate_24 : decode cX7_holeRate 24 = .ok (.getfield 91, 3) := by decide +kernel
theorem dX7_holeRate_27 : decode cX7_holeRate 27 = .ok (.iload_n 1, 1) := by decide +kernel
theorem dX7_holeRate_28 : decode cX7_holeRate 28 = .ok (.iload_n 3, 1) := by decide +kernel
theorem dX7_holeRate_29 : decode cX7_holeRate 29 = .ok (.iastore, 1) := by decide +kernel
theorem dX7_holeRate_30 : decode cX7_holeRate 30 = .ok (.iload_n 3, 1) := by decide +kernel
theorem dX7_holeRate_31 : decode cX7_holeRate 31 = .ok (.aload_n 0, 1) := by decide +kernel
theorem dX7_holeRate_32 : decode cX7_holeRate 32 = .ok (.getfield 51, 3) := by decide +kernel
theorem dX7_holeRate_35 : decode cX7_holeRate 35 = .ok (.getfield 91, 3) := by decide +kernel
theorem dX7_holeRate_38 : decode cX7_holeRate 38 = .ok (.iload_n 1, 1) := by decide +kernel
theorem dX7_holeRate_39 : decode cX7_holeRate 39 = .ok (.iaload, 1) := by decide +kernel
theorem dX7_holeRate_40 : decode cX7_holeRate 40 = .ok (.if_icmp .eq 19, 3) := by decide +kernel
theorem dX7_holeRate_43 : decode cX7_holeRate 43 = .ok (.aload_n 0, 1) := by decide +kernel
theorem dX7_holeRate_44 : decode cX7_holeRate 44 = .ok (.getfield 40, 3) := by decide +kernel
theorem dX7_holeRate_47 : decode cX7_holeRate 47 = .ok (.aload_n 0, 1) := by decide +kernel
theorem dX7_holeRate_48 : decode cX7_holeRate 48 = .ok (.getfield 33, 3) := by decide +kernel
theorem dX7_holeRate_51 : decode cX7_holeRate 51 = .ok (.invokevirtual 252, 3) := by decide +kernel
theorem dX7_holeRate_54 : decode cX7_holeRate 54 = .ok (.ifCond .eq 5, 3) := by decide +kernel
theorem dX7_holeRate_57 : decode cX7_holeRate 57 = .ok (.iload_n 3, 1) := by decide +kernel
theorem dX7_holeRate_58 : decode cX7_holeRate 58 = .ok (.istore_n 2, 1) := by decide +kernel
theorem dX7_holeRate_59 : decode cX7_holeRate 59 = .ok (.iinc 3 1, 3) := by decide +kernel
theorem dX7_holeRate_62 : decode cX7_holeRate 62 = .ok (.goto (-57), 3) := by decide +kernel
theorem dX7_holeRate_65 : decode cX7_holeRate 65 = .ok (.aload_n 0, 1) := by decide +kernel
theorem dX7_holeRate_66 : decode cX7_holeRate 66 = .ok (.getfield 40, 3) := by decide +kernel
theorem dX7_holeRate_69 : decode cX7_holeRate 69 = .ok (.getfield 179, 3) := by decide +kernel
theorem dX7_holeRate_72 : decode cX7_holeRate 72 = .ok (.getfield 91, 3) := by decide +kernel
theorem dX7_holeRate_75 : decode cX7_holeRate 75 = .ok (.iload_n 1, 1) := by decide +kernel
theorem dX7_holeRate_76 : decode cX7_holeRate 76 = .ok (.aload_n 0, 1) := by decide +kernel
theorem dX7_holeRate_77 : decode cX7_holeRate 77 = .ok (.getfield 51, 3) := by decide +kernel
theorem dX7_holeRate_80 : decode cX7_holeRate 80 = .ok (.getfield 91, 3) := by decide +kernel
theorem dX7_holeRate_83 : decode cX7_holeRate 83 = .ok (.iload_n 1, 1) := by decide +kernel
theorem dX7_holeRate_84 : decode cX7_holeRate 84 = .ok (.iaload, 1) := by decide +kernel
theorem dX7_holeRate_85 : decode cX7_holeRate 85 = .ok (.iastore, 1) := by decide +kernel
theorem dX7_holeRate_86 : decode cX7_holeRate 86 = .ok (.iload_n 2, 1) := by decide +kernel
theorem dX7_holeRate_87 : decode cX7_holeRate 87 = .ok (.ireturn, 1) := by decide +kernel
theorem dX7_markOfWall_0 : decode cX7_markOfWall 0 = .ok (.aload_n 0, 1) := by decide +kernel
theorem dX7_markOfWall_1 : decode cX7_markOfWall 1 = .ok (.dup, 1) := by decide +kernel
theorem dX7_markOfWall_2 : decode cX7_markOfWall 2 = .ok (.getfield 237, 3) := by decide +kernel
theorem dX7_markOfWall_5 : decode cX7_markOfWall 5 = .ok (.lconst 1, 1) := by decide +kernel
theorem dX7_markOfWall_6 : decode cX7_markOfWall 6 = .ok (.ladd, 1) := by decide +kernel
theorem dX7_markOfWall_7 : decode cX7_markOfWall 7 = .ok (.putfield 237, 3) := by decide +kernel
theorem dX7_markOfWall_10 : decode cX7_markOfWall 10 = .ok (.aload_n 0, 1) := by decide +kernel
theorem dX7_markOfWall_11 : decode cX7_markOfWall 11 = .ok (.getfield 26, 3) := by decide +kernel
theorem dX7_markOfWall_14 : decode cX7_markOfWall 14 = .ok (.getfield 87, 3) := by decide +kernel
theorem dX7_markOfWall_17 : decode cX7_markOfWall 17 = .ok (.iload_n 1, 1) := by decide +kernel
theorem dX7_markOfWall_18 : decode cX7_markOfWall 18 = .ok (.iaload, 1) := by decide +kernel
theorem dX7_markOfWall_19 : decode cX7_markOfWall 19 = .ok (.ireturn, 1) := by decide +kernel
set_option maxRecDepth 20000 in
theorem ggX7_markOfFin_X7_markOfWall : GoodIn wsX7_markOfFin wsX7_markOfWall := goodIn_r _ [9, 1, 10, 11, 12, 13, 14, 15, 16, 17, 18, 19, 20, 21, 31, 32, 33, 34, 35, 36, 37, 38] (by decide +kernel) (by decide +kernel)
set_option maxRecDepth 20000 in
theorem gX7_markOfFin_X7_markOfWall : GoodIn wsX7_markOfFin (wsV RX7 210 RX7 yX7_markOfWall wsX7_markOfWall) := goodIn_app (goodIn_of _ (by decide +kernel)) ggX7_markOfFin_X7_markOfWall
theorem dX7_markOfFin_0 : decode cX7_markOfFin 0 = .ok (.aload_n 0, 1) := by decide +kernel
theorem dX7_markOfFin_1 : decode cX7_markOfFin 1 = .ok (.dup, 1) := by decide +kernel
theorem dX7_markOfFin_2 : decode cX7_markOfFin 2 = .ok (.getfield 237, 3) := by decide +kernel
theorem dX7_markOfFin_5 : decode cX7_markOfFin 5 = .ok (.ldc2_w 256, 3) := by decide +kernel
theorem dX7_markOfFin_8 : decode cX7_markOfFin 8 = .ok (.ladd, 1) := by decide +kernel
theorem dX7_markOfFin_9 : decode cX7_markOfFin 9 = .ok (.putfield 237, 3) := by decide +kernel
theorem dX7_markOfFin_12 : decode cX7_markOfFin 12 = .ok (.aload_n 0, 1) := by decide +kernel
theorem dX7_markOfFin_13 : decode cX7_markOfFin 13 = .ok (.iload_n 1, 1) := by decide +kernel
theorem dX7_markOfFin_14 : decode cX7_markOfFin 14 = .ok (.invokevirtual 210, 3) := by decide +kernel
theorem dX7_markOfFin_17 : decode cX7_markOfFin 17 = .ok (.aload_n 0, 1) := by decide +kernel
theorem dX7_markOfFin_18 : decode cX7_markOfFin 18 = .ok (.getfield 51, 3) := by decide +kernel
theorem dX7_markOfFin_21 : decode cX7_markOfFin 21 = .ok (.getfield 91, 3) := by decide +kernel
theorem dX7_markOfFin_24 : decode cX7_markOfFin 24 = .ok (.iload_n 1, 1) := by decide +kernel
theorem dX7_markOfFin_25 : decode cX7_markOfFin 25 = .ok (.iaload, 1) := by decide +kernel
theorem dX7_markOfFin_26 : decode cX7_markOfFin 26 = .ok (.iadd, 1) := by decide +kernel
theorem dX7_markOfFin_27 : decode cX7_markOfFin 27 = .ok (.ireturn, 1) := by decide +kernel
set_option maxRecDepth 20000 in
theorem ggX7_markOfBrick_X7_markOfWall : GoodIn wsX7_markOfBrick wsX7_markOfWall := goodIn_r _ [8, 1, 9, 10, 17, 18, 19, 20, 21, 22, 23, 24, 25, 26, 27, 28, 29, 30, 31, 32, 33, 34] (by decide +kernel) (by decide +kernel)
set_option maxRecDepth 20000 in
theorem gX7_markOfBrick_X7_markOfWall : GoodIn wsX7_markOfBrick (wsV RX7 210 RX7 yX7_markOfWall wsX7_markOfWall) := goodIn_app (goodIn_of _ (by decide +kernel)) ggX7_markOfBrick_X7_markOfWall
set_option maxRecDepth 20000 in
theorem ggX7_markOfBrick_X6_dark : GoodIn wsX7_markOfBrick wsX6_dark := goodIn_r _ [15, 16, 35, 36, 37, 38, 39, 40, 41, 42, 43] (by decide +kernel) (by decide +kernel)
set_option maxRecDepth 20000 in
theorem gX7_markOfBrick_X6_dark : GoodIn wsX7_markOfBrick (wsV RX7 100 RX6 yX6_dark wsX6_dark) := goodIn_app (goodIn_of _ (by decide +kernel)) ggX7_markOfBrick_X6_dark
theorem dX7_markOfBrick_0 : decode cX7_markOfBrick 0 = .ok (.aload_n 0, 1) := by decide +kernel
theorem dX7_markOfBrick_1 : decode cX7_markOfBrick 1 = .ok (.dup, 1) := by decide +kernel
theorem dX7_markOfBrick_2 : decode cX7_markOfBrick 2 = .ok (.getfield 237, 3) := by decide +kernel
theorem dX7_markOfBrick_5 : decode cX7_markOfBrick 5 = .ok (.ldc2_w 258, 3) := by decide +kernel
theorem dX7_markOfBrick_8 : decode cX7_markOfBrick 8 = .ok (.ladd, 1) := by decide +kernel
theorem dX7_markOfBrick_9 : decode cX7_markOfBrick 9 = .ok (.putfield 237, 3) := by decide +kernel
theorem dX7_markOfBrick_12 : decode cX7_markOfBrick 12 = .ok (.aload_n 0, 1) := by decide +kernel
theorem dX7_markOfBrick_13 : decode cX7_markOfBrick 13 = .ok (.iload_n 1, 1) := by decide +kernel
theorem dX7_markOfBrick_14 : decode cX7_markOfBrick 14 = .ok (.invokevirtual 210, 3) := by decide +kernel
theorem dX7_markOfBrick_17 : decode cX7_markOfBrick 17 = .ok (.aload_n 0, 1) := by decide +kernel
theorem dX7_markOfBrick_18 : decode cX7_markOfBrick 18 = .ok (.getfield 51, 3) := by decide +kernel
theorem dX7_markOfBrick_21 : decode cX7_markOfBrick 21 = .ok (.iload_n 1, 1) := by decide +kernel
theorem dX7_markOfBrick_22 : decode cX7_markOfBrick 22 = .ok (.invokevirtual 100, 3) := by decide +kernel
theorem dX7_markOfBrick_25 : decode cX7_markOfBrick 25 = .ok (.isub, 1) := by decide +kernel
theorem dX7_markOfBrick_26 : decode cX7_markOfBrick 26 = .ok (.ireturn, 1) := by decide +kernel
set_option maxRecDepth 20000 in
theorem ggX7_markOfFurnace_X7_markOfFin : GoodIn wsX7_markOfFurnace wsX7_markOfFin := goodIn_r _ [7, 1, 8, 9, 10, 11, 12, 13, 6, 14, 15, 16, 17, 18, 19, 20, 21, 22, 23, 24, 25, 26, 27, 28, 29, 30, 31, 32, 33, 34, 35, 36, 37, 38, 39, 40, 41, 42, 43] (by decide +kernel) (by decide +kernel)
set_option maxRecDepth 20000 in
theorem gX7_markOfFurnace_X7_markOfFin : GoodIn wsX7_markOfFurnace (wsV RX7 213 RX7 yX7_markOfFin wsX7_markOfFin) := goodIn_app (goodIn_of _ (by decide +kernel)) ggX7_markOfFurnace_X7_markOfFin
theorem dX7_markOfFurnace_0 : decode cX7_markOfFurnace 0 = .ok (.aload_n 0, 1) := by decide +kernel
theorem dX7_markOfFurnace_1 : decode cX7_markOfFurnace 1 = .ok (.dup, 1) := by decide +kernel
theorem dX7_markOfFurnace_2 : decode cX7_markOfFurnace 2 = .ok (.getfield 237, 3) := by decide +kernel
theorem dX7_markOfFurnace_5 : decode cX7_markOfFurnace 5 = .ok (.ldc2_w 260, 3) := by decide +kernel
theorem dX7_markOfFurnace_8 : decode cX7_markOfFurnace 8 = .ok (.ladd, 1) := by decide +kernel
theorem dX7_markOfFurnace_9 : decode cX7_markOfFurnace 9 = .ok (.putfield 237, 3) := by decide +kernel
theorem dX7_markOfFurnace_12 : decode cX7_markOfFurnace 12 = .ok (.aload_n 0, 1) := by decide +kernel
theorem dX7_markOfFurnace_13 : decode cX7_markOfFurnace 13 = .ok (.iload_n 1, 1) := by decide +kernel
theorem dX7_markOfFurnace_14 : decode cX7_markOfFurnace 14 = .ok (.invokevirtual 213, 3) := by decide +kernel
theorem dX7_markOfFurnace_17 : decode cX7_markOfFurnace 17 = .ok (.iconst 2, 1) := by decide +kernel
theorem dX7_markOfFurnace_18 : decode cX7_markOfFurnace 18 = .ok (.imul, 1) := by decide +kernel
theorem dX7_markOfFurnace_19 : decode cX7_markOfFurnace 19 = .ok (.ireturn, 1) := by decide +kernel
set_option maxRecDepth 20000 in
theorem ggX7_markOfWindow_X7_markOfBrick : GoodIn wsX7_markOfWindow wsX7_markOfBrick := goodIn_r _ [7, 1, 8, 9, 10, 11, 12, 6, 13, 14, 15, 16, 17, 18, 19, 20, 21, 22, 23, 24, 25, 26, 27, 28, 29, 30, 31, 32, 33, 34, 35, 36, 37, 38, 39, 40, 41, 42, 43, 44, 45, 46, 47, 48] (by decide +kernel) (by decide +kernel)
set_option maxRecDepth 20000 in
theorem gX7_markOfWindow_X7_markOfBrick : GoodIn wsX7_markOfWindow (wsV RX7 216 RX7 yX7_markOfBrick wsX7_markOfBrick) := goodIn_app (goodIn_of _ (by decide +kernel)) ggX7_markOfWindow_X7_markOfBrick
theorem dX7_markOfWindow_0 : decode cX7_markOfWindow 0 = .ok (.aload_n 0, 1) := by decide +kernel
theorem dX7_markOfWindow_1 : decode cX7_markOfWindow 1 = .ok (.dup, 1) := by decide +kernel
theorem dX7_markOfWindow_2 : decode cX7_markOfWindow 2 = .ok (.getfield 237, 3) := by decide +kernel
theorem dX7_markOfWindow_5 : decode cX7_markOfWindow 5 = .ok (.ldc2_w 262, 3) := by decide +kernel
theorem dX7_markOfWindow_8 : decode cX7_markOfWindow 8 = .ok (.ladd, 1) := by decide +kernel
theorem dX7_markOfWindow_9 : decode cX7_markOfWindow 9 = .ok (.putfield 237, 3) := by decide +kernel
theorem dX7_markOfWindow_12 : decode cX7_markOfWindow 12 = .ok (.aload_n 0, 1) := by decide +kernel
theorem dX7_markOfWindow_13 : decode cX7_markOfWindow 13 = .ok (.iload_n 1, 1) := by decide +kernel
theorem dX7_markOfWindow_14 : decode cX7_markOfWindow 14 = .ok (.invokevirtual 216, 3) := by decide +kernel
theorem dX7_markOfWindow_17 : decode cX7_markOfWindow 17 = .ok (.iload_n 1, 1) := by decide +kernel
theorem dX7_markOfWindow_18 : decode cX7_markOfWindow 18 = .ok (.iadd, 1) := by decide +kernel
theorem dX7_markOfWindow_19 : decode cX7_markOfWindow 19 = .ok (.ireturn, 1) := by decide +kernel
set_option maxRecDepth 20000 in
theorem ggX7_markOfHull_X7_markOfWall : GoodIn wsX7_markOfHull wsX7_markOfWall := goodIn_r _ [9, 1, 3, 10, 11, 12, 13, 14, 15, 16, 17, 18, 19, 20, 21, 22, 23, 24, 25, 26, 27, 28] (by decide +kernel) (by decide +kernel)
set_option maxRecDepth 20000 in
theorem gX7_markOfHull_X7_markOfWall : GoodIn wsX7_markOfHull (wsV RX7 210 RX7 yX7_markOfWall wsX7_markOfWall) := goodIn_app (goodIn_of _ (by decide +kernel)) ggX7_markOfHull_X7_markOfWall
theorem dX7_markOfHull_0 : decode cX7_markOfHull 0 = .ok (.aload_n 0, 1) := by decide +kernel
theorem dX7_markOfHull_1 : decode cX7_markOfHull 1 = .ok (.dup, 1) := by decide +kernel
theorem dX7_markOfHull_2 : decode cX7_markOfHull 2 = .ok (.getfield 237, 3) := by decide +kernel
theorem dX7_markOfHull_5 : decode cX7_markOfHull 5 = .ok (.ldc2_w 264, 3) := by decide +kernel
theorem dX7_markOfHull_8 : decode cX7_markOfHull 8 = .ok (.ladd, 1) := by decide +kernel
theorem dX7_markOfHull_9 : decode cX7_markOfHull 9 = .ok (.putfield 237, 3) := by decide +kernel
theorem dX7_markOfHull_12 : decode cX7_markOfHull 12 = .ok (.aload_n 0, 1) := by decide +kernel
theorem dX7_markOfHull_13 : decode cX7_markOfHull 13 = .ok (.iload_n 1, 1) := by decide +kernel
theorem dX7_markOfHull_14 : decode cX7_markOfHull 14 = .ok (.invokevirtual 210, 3) := by decide +kernel
theorem dX7_markOfHull_17 : decode cX7_markOfHull 17 = .ok (.aload_n 0, 1) := by decide +kernel
theorem dX7_markOfHull_18 : decode cX7_markOfHull 18 = .ok (.getfield 26, 3) := by decide +kernel
theorem dX7_markOfHull_21 : decode cX7_markOfHull 21 = .ok (.getfield 117, 3) := by decide +kernel
theorem dX7_markOfHull_24 : decode cX7_markOfHull 24 = .ok (.iadd, 1) := by decide +kernel
theorem dX7_markOfHull_25 : decode cX7_markOfHull 25 = .ok (.ireturn, 1) := by decide +kernel
