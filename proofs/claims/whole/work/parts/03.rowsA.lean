set_option maxRecDepth 20000 in
theorem ggX0_init_X1_init : GoodIn wsX0_init wsX1_init := goodIn_r _ [15, 16, 2, 3, 12, 17, 18, 19, 41, 42, 43, 44, 45, 46, 47, 48] (by decide +kernel) (by decide +kernel)
set_option maxRecDepth 20000 in
theorem gX0_init_X1_init_n11 : GoodIn wsX0_init (wsX1_init) := ggX0_init_X1_init
set_option maxRecDepth 20000 in
theorem ggX0_init_X6_init : GoodIn wsX0_init wsX6_init := goodIn_r _ [22, 23, 2, 3, 12, 24, 25, 26, 27, 28, 29, 30, 31, 32, 33, 10, 34, 35, 36, 37, 38, 39, 40, 52, 53, 54, 55, 56, 57, 58, 59, 60] (by decide +kernel) (by decide +kernel)
set_option maxRecDepth 20000 in
theorem gX0_init_X6_init : GoodIn wsX0_init (wsX6_init) := ggX0_init_X6_init
theorem dX0_init_0 : decode cX0_init 0 = .ok (.aload_n 0, 1) := by decide +kernel
theorem dX0_init_1 : decode cX0_init 1 = .ok (.invokespecial 3, 3) := by decide +kernel
theorem dX0_init_4 : decode cX0_init 4 = .ok (.aload_n 0, 1) := by decide +kernel
theorem dX0_init_5 : decode cX0_init 5 = .ok (.new 9, 3) := by decide +kernel
theorem dX0_init_8 : decode cX0_init 8 = .ok (.dup, 1) := by decide +kernel
theorem dX0_init_9 : decode cX0_init 9 = .ok (.invokespecial 11, 3) := by decide +kernel
theorem dX0_init_12 : decode cX0_init 12 = .ok (.putfield 12, 3) := by decide +kernel
theorem dX0_init_15 : decode cX0_init 15 = .ok (.aload_n 0, 1) := by decide +kernel
theorem dX0_init_16 : decode cX0_init 16 = .ok (.new 18, 3) := by decide +kernel
theorem dX0_init_19 : decode cX0_init 19 = .ok (.dup, 1) := by decide +kernel
theorem dX0_init_20 : decode cX0_init 20 = .ok (.invokespecial 20, 3) := by decide +kernel
theorem dX0_init_23 : decode cX0_init 23 = .ok (.putfield 21, 3) := by decide +kernel
theorem dX0_init_26 : decode cX0_init 26 = .ok (.aload_n 0, 1) := by decide +kernel
theorem dX0_init_27 : decode cX0_init 27 = .ok (.bipush 48, 2) := by decide +kernel
theorem dX0_init_29 : decode cX0_init 29 = .ok (.newarray .int, 2) := by decide +kernel
theorem dX0_init_31 : decode cX0_init 31 = .ok (.putfield 25, 3) := by decide +kernel
theorem dX0_init_34 : decode cX0_init 34 = .ok (.return_, 1) := by decide +kernel
set_option maxRecDepth 20000 in
theorem ggX0_setOut_X1_copy : GoodIn wsX0_setOut wsX1_copy := goodIn_r _ [6, 7, 8, 9, 10, 11, 15, 16, 17, 18, 19, 20, 21, 22] (by decide +kernel) (by decide +kernel)
set_option maxRecDepth 20000 in
theorem gX0_setOut_X1_copy : GoodIn wsX0_setOut (wsV RX0 29 RX1 yX1_copy wsX1_copy) := goodIn_app (goodIn_of _ (by decide +kernel)) ggX0_setOut_X1_copy
theorem dX0_setOut_0 : decode cX0_setOut 0 = .ok (.aload_n 0, 1) := by decide +kernel
theorem dX0_setOut_1 : decode cX0_setOut 1 = .ok (.getfield 12, 3) := by decide +kernel
theorem dX0_setOut_4 : decode cX0_setOut 4 = .ok (.aload_n 1, 1) := by decide +kernel
theorem dX0_setOut_5 : decode cX0_setOut 5 = .ok (.invokevirtual 29, 3) := by decide +kernel
theorem dX0_setOut_8 : decode cX0_setOut 8 = .ok (.return_, 1) := by decide +kernel
set_option maxRecDepth 20000 in
theorem ggX0_goOn_X1_goBy : GoodIn wsX0_goOn wsX1_goBy := goodIn_r _ [6, 7, 8, 9, 10, 11, 12, 13, 14, 15, 16, 17, 18, 19, 20, 5, 21, 22, 23, 24, 25, 29, 30, 31, 32, 33, 34, 35, 36, 37, 38, 39, 40, 41, 42, 43, 44, 45] (by decide +kernel) (by decide +kernel)
set_option maxRecDepth 20000 in
theorem gX0_goOn_X1_goBy : GoodIn wsX0_goOn (wsV RX0 33 RX1 yX1_goBy wsX1_goBy) := goodIn_app (goodIn_of _ (by decide +kernel)) ggX0_goOn_X1_goBy
theorem dX0_goOn_0 : decode cX0_goOn 0 = .ok (.iconst 0, 1) := by decide +kernel
theorem dX0_goOn_1 : decode cX0_goOn 1 = .ok (.istore_n 3, 1) := by decide +kernel
theorem dX0_goOn_2 : decode cX0_goOn 2 = .ok (.iload_n 3, 1) := by decide +kernel
theorem dX0_goOn_3 : decode cX0_goOn 3 = .ok (.iload_n 2, 1) := by decide +kernel
theorem dX0_goOn_4 : decode cX0_goOn 4 = .ok (.if_icmp .ge 18, 3) := by decide +kernel
theorem dX0_goOn_7 : decode cX0_goOn 7 = .ok (.aload_n 0, 1) := by decide +kernel
theorem dX0_goOn_8 : decode cX0_goOn 8 = .ok (.getfield 12, 3) := by decide +kernel
theorem dX0_goOn_11 : decode cX0_goOn 11 = .ok (.aload_n 1, 1) := by decide +kernel
theorem dX0_goOn_12 : decode cX0_goOn 12 = .ok (.invokevirtual 33, 3) := by decide +kernel
theorem dX0_goOn_15 : decode cX0_goOn 15 = .ok (.pop, 1) := by decide +kernel
theorem dX0_goOn_16 : decode cX0_goOn 16 = .ok (.iinc 3 1, 3) := by decide +kernel
theorem dX0_goOn_19 : decode cX0_goOn 19 = .ok (.goto (-17), 3) := by decide +kernel
theorem dX0_goOn_22 : decode cX0_goOn 22 = .ok (.return_, 1) := by decide +kernel
set_option maxRecDepth 20000 in
theorem ggX0_hoursToRest_X0_isAsInRow : GoodIn wsX0_hoursToRest wsX0_isAsInRow := goodIn_r _ [9, 2, 3, 4, 43, 44, 45, 46, 47, 48, 49, 50, 51, 52, 53] (by decide +kernel) (by decide +kernel)
set_option maxRecDepth 20000 in
theorem gX0_hoursToRest_X0_isAsInRow : GoodIn wsX0_hoursToRest (wsV RX0 41 RX0 yX0_isAsInRow wsX0_isAsInRow) := goodIn_app (goodIn_of _ (by decide +kernel)) ggX0_hoursToRest_X0_isAsInRow
set_option maxRecDepth 20000 in
theorem ggX0_hoursToRest_X1_goBy : GoodIn wsX0_hoursToRest wsX1_goBy := goodIn_r _ [14, 15, 16, 17, 18, 19, 20, 21, 22, 23, 24, 25, 26, 27, 28, 13, 29, 30, 31, 32, 33, 46, 47, 48, 49, 50, 51, 52, 53, 34, 35, 36, 37, 38, 39, 40, 41, 42] (by decide +kernel) (by decide +kernel)
set_option maxRecDepth 20000 in
theorem gX0_hoursToRest_X1_goBy : GoodIn wsX0_hoursToRest (wsV RX0 33 RX1 yX1_goBy wsX1_goBy) := goodIn_app (goodIn_of _ (by decide +kernel)) ggX0_hoursToRest_X1_goBy
theorem dX0_hoursToRest_0 : decode cX0_hoursToRest 0 = .ok (.iconst 0, 1) := by decide +kernel
theorem dX0_hoursToRest_1 : decode cX0_hoursToRest 1 = .ok (.istore_n 2, 1) := by decide +kernel
theorem dX0_hoursToRest_2 : decode cX0_hoursToRest 2 = .ok (.iload_n 2, 1) := by decide +kernel
theorem dX0_hoursToRest_3 : decode cX0_hoursToRest 3 = .ok (.sipush 208, 3) := by decide +kernel
theorem dX0_hoursToRest_6 : decode cX0_hoursToRest 6 = .ok (.if_icmp .gt 86, 3) := by decide +kernel
theorem dX0_hoursToRest_9 : decode cX0_hoursToRest 9 = .ok (.iload_n 2, 1) := by decide +kernel
theorem dX0_hoursToRest_10 : decode cX0_hoursToRest 10 = .ok (.bipush 8, 2) := by decide +kernel
theorem dX0_hoursToRest_12 : decode cX0_hoursToRest 12 = .ok (.irem, 1) := by decide +kernel
theorem dX0_hoursToRest_13 : decode cX0_hoursToRest 13 = .ok (.bipush 6, 2) := by decide +kernel
theorem dX0_hoursToRest_15 : decode cX0_hoursToRest 15 = .ok (.imul, 1) := by decide +kernel
theorem dX0_hoursToRest_16 : decode cX0_hoursToRest 16 = .ok (.istore_n 3, 1) := by decide +kernel
theorem dX0_hoursToRest_17 : decode cX0_hoursToRest 17 = .ok (.iload_n 2, 1) := by decide +kernel
theorem dX0_hoursToRest_18 : decode cX0_hoursToRest 18 = .ok (.bipush 8, 2) := by decide +kernel
theorem dX0_hoursToRest_20 : decode cX0_hoursToRest 20 = .ok (.if_icmp .lt 20, 3) := by decide +kernel
theorem dX0_hoursToRest_23 : decode cX0_hoursToRest 23 = .ok (.aload_n 0, 1) := by decide +kernel
theorem dX0_hoursToRest_24 : decode cX0_hoursToRest 24 = .ok (.iload_n 3, 1) := by decide +kernel
theorem dX0_hoursToRest_25 : decode cX0_hoursToRest 25 = .ok (.aload_n 1, 1) := by decide +kernel
theorem dX0_hoursToRest_26 : decode cX0_hoursToRest 26 = .ok (.getfield 37, 3) := by decide +kernel
theorem dX0_hoursToRest_29 : decode cX0_hoursToRest 29 = .ok (.invokevirtual 41, 3) := by decide +kernel
theorem dX0_hoursToRest_32 : decode cX0_hoursToRest 32 = .ok (.ifCond .eq 8, 3) := by decide +kernel
theorem dX0_hoursToRest_35 : decode cX0_hoursToRest 35 = .ok (.iload_n 2, 1) := by decide +kernel
theorem dX0_hoursToRest_36 : decode cX0_hoursToRest 36 = .ok (.bipush 8, 2) := by decide +kernel
theorem dX0_hoursToRest_38 : decode cX0_hoursToRest 38 = .ok (.isub, 1) := by decide +kernel
theorem dX0_hoursToRest_39 : decode cX0_hoursToRest 39 = .ok (.ireturn, 1) := by decide +kernel
theorem dX0_hoursToRest_40 : decode cX0_hoursToRest 40 = .ok (.iconst 0, 1) := by decide +kernel
theorem dX0_hoursToRest_41 : decode cX0_hoursToRest 41 = .ok (.istore 4, 2) := by decide +kernel
theorem dX0_hoursToRest_43 : decode cX0_hoursToRest 43 = .ok (.iload 4, 2) := by decide +kernel
theorem dX0_hoursToRest_45 : decode cX0_hoursToRest 45 = .ok (.aload_n 1, 1) := by decide +kernel
theorem dX0_hoursToRest_46 : decode cX0_hoursToRest 46 = .ok (.getfield 37, 3) := by decide +kernel
theorem dX0_hoursToRest_49 : decode cX0_hoursToRest 49 = .ok (.if_icmp .ge 28, 3) := by decide +kernel
theorem dX0_hoursToRest_52 : decode cX0_hoursToRest 52 = .ok (.aload_n 0, 1) := by decide +kernel
theorem dX0_hoursToRest_53 : decode cX0_hoursToRest 53 = .ok (.getfield 25, 3) := by decide +kernel
theorem dX0_hoursToRest_56 : decode cX0_hoursToRest 56 = .ok (.iload_n 3, 1) := by decide +kernel
theorem dX0_hoursToRest_57 : decode cX0_hoursToRest 57 = .ok (.iload 4, 2) := by decide +kernel
theorem dX0_hoursToRest_59 : decode cX0_hoursToRest 59 = .ok (.iadd, 1) := by decide +kernel
theorem dX0_hoursToRest_60 : decode cX0_hoursToRest 60 = .ok (.aload_n 0, 1) := by decide +kernel
theorem dX0_hoursToRest_61 : decode cX0_hoursToRest 61 = .ok (.getfield 12, 3) := by decide +kernel
theorem dX0_hoursToRest_64 : decode cX0_hoursToRest 64 = .ok (.getfield 45, 3) := by decide +kernel
theorem dX0_hoursToRest_67 : decode cX0_hoursToRest 67 = .ok (.iload 4, 2) := by decide +kernel
theorem dX0_hoursToRest_69 : decode cX0_hoursToRest 69 = .ok (.iaload, 1) := by decide +kernel
theorem dX0_hoursToRest_70 : decode cX0_hoursToRest 70 = .ok (.iastore, 1) := by decide +kernel
theorem dX0_hoursToRest_71 : decode cX0_hoursToRest 71 = .ok (.iinc 4 1, 3) := by decide +kernel
theorem dX0_hoursToRest_74 : decode cX0_hoursToRest 74 = .ok (.goto (-31), 3) := by decide +kernel
theorem dX0_hoursToRest_77 : decode cX0_hoursToRest 77 = .ok (.aload_n 0, 1) := by decide +kernel
theorem dX0_hoursToRest_78 : decode cX0_hoursToRest 78 = .ok (.getfield 12, 3) := by decide +kernel
theorem dX0_hoursToRest_81 : decode cX0_hoursToRest 81 = .ok (.aload_n 1, 1) := by decide +kernel
theorem dX0_hoursToRest_82 : decode cX0_hoursToRest 82 = .ok (.invokevirtual 33, 3) := by decide +kernel
theorem dX0_hoursToRest_85 : decode cX0_hoursToRest 85 = .ok (.pop, 1) := by decide +kernel
theorem dX0_hoursToRest_86 : decode cX0_hoursToRest 86 = .ok (.iinc 2 1, 3) := by decide +kernel
theorem dX0_hoursToRest_89 : decode cX0_hoursToRest 89 = .ok (.goto (-87), 3) := by decide +kernel
theorem dX0_hoursToRest_92 : decode cX0_hoursToRest 92 = .ok (.bipush (-9), 2) := by decide +kernel
theorem dX0_hoursToRest_94 : decode cX0_hoursToRest 94 = .ok (.ireturn, 1) := by decide +kernel
theorem dX0_isAsInRow_0 : decode cX0_isAsInRow 0 = .ok (.iconst 0, 1) := by decide +kernel
theorem dX0_isAsInRow_1 : decode cX0_isAsInRow 1 = .ok (.istore_n 3, 1) := by decide +kernel
theorem dX0_isAsInRow_2 : decode cX0_isAsInRow 2 = .ok (.iload_n 3, 1) := by decide +kernel
theorem dX0_isAsInRow_3 : decode cX0_isAsInRow 3 = .ok (.iload_n 2, 1) := by decide +kernel
theorem dX0_isAsInRow_4 : decode cX0_isAsInRow 4 = .ok (.if_icmp .ge 31, 3) := by decide +kernel
theorem dX0_isAsInRow_7 : decode cX0_isAsInRow 7 = .ok (.aload_n 0, 1) := by decide +kernel
theorem dX0_isAsInRow_8 : decode cX0_isAsInRow 8 = .ok (.getfield 25, 3) := by decide +kernel
theorem dX0_isAsInRow_11 : decode cX0_isAsInRow 11 = .ok (.iload_n 1, 1) := by decide +kernel
theorem dX0_isAsInRow_12 : decode cX0_isAsInRow 12 = .ok (.iload_n 3, 1) := by decide +kernel
theorem dX0_isAsInRow_13 : decode cX0_isAsInRow 13 = .ok (.iadd, 1) := by decide +kernel
theorem dX0_isAsInRow_14 : decode cX0_isAsInRow 14 = .ok (.iaload, 1) := by decide +kernel
theorem dX0_isAsInRow_15 : decode cX0_isAsInRow 15 = .ok (.aload_n 0, 1) := by decide +kernel
theorem dX0_isAsInRow_16 : decode cX0_isAsInRow 16 = .ok (.getfield 12, 3) := by decide +kernel
theorem dX0_isAsInRow_19 : decode cX0_isAsInRow 19 = .ok (.getfield 45, 3) := by decide +kernel
theorem dX0_isAsInRow_22 : decode cX0_isAsInRow 22 = .ok (.iload_n 3, 1) := by decide +kernel
theorem dX0_isAsInRow_23 : decode cX0_isAsInRow 23 = .ok (.iaload, 1) := by decide +kernel
theorem dX0_isAsInRow_24 : decode cX0_isAsInRow 24 = .ok (.if_icmp .eq 5, 3) := by decide +kernel
theorem dX0_isAsInRow_27 : decode cX0_isAsInRow 27 = .ok (.iconst 0, 1) := by decide +kernel
theorem dX0_isAsInRow_28 : decode cX0_isAsInRow 28 = .ok (.ireturn, 1) := by decide +kernel
theorem dX0_isAsInRow_29 : decode cX0_isAsInRow 29 = .ok (.iinc 3 1, 3) := by decide +kernel
theorem dX0_isAsInRow_32 : decode cX0_isAsInRow 32 = .ok (.goto (-30), 3) := by decide +kernel
theorem dX0_isAsInRow_35 : decode cX0_isAsInRow 35 = .ok (.iconst 1, 1) := by decide +kernel
theorem dX0_isAsInRow_36 : decode cX0_isAsInRow 36 = .ok (.ireturn, 1) := by decide +kernel
set_option maxRecDepth 20000 in
theorem ggX0_warmestIfShut_X0_setOut : GoodIn wsX0_warmestIfShut wsX0_setOut := goodIn_r _ [8, 1, 9, 10, 11, 12, 13, 14, 15, 16, 17, 18, 49, 50, 51, 52, 53, 54, 55, 56, 57, 58, 59] (by decide +kernel) (by decide +kernel)
set_option maxRecDepth 20000 in
theorem gX0_warmestIfShut_X0_setOut : GoodIn wsX0_warmestIfShut (wsV RX0 48 RX0 yX0_setOut wsX0_setOut) := goodIn_app (goodIn_of _ (by decide +kernel)) ggX0_warmestIfShut_X0_setOut
set_option maxRecDepth 20000 in
theorem ggX0_warmestIfShut_X0_goOn : GoodIn wsX0_warmestIfShut wsX0_goOn := goodIn_r _ [22, 1, 23, 24, 25, 12, 26, 14, 27, 28, 18, 29, 30, 31, 17, 32, 33, 34, 35, 36, 37, 38, 15, 39, 40, 16, 49, 50, 51, 52, 53, 54, 55, 56, 57, 58, 59, 60, 61, 62, 63, 64, 65, 66, 67, 68] (by decide +kernel) (by decide +kernel)
set_option maxRecDepth 20000 in
theorem gX0_warmestIfShut_X0_goOn : GoodIn wsX0_warmestIfShut (wsV RX0 54 RX0 yX0_goOn wsX0_goOn) := goodIn_app (goodIn_of _ (by decide +kernel)) ggX0_warmestIfShut_X0_goOn
set_option maxRecDepth 20000 in
theorem ggX0_warmestIfShut_X1_warmthOfWarmest : GoodIn wsX0_warmestIfShut wsX1_warmthOfWarmest := goodIn_r _ [44, 18, 45, 46, 47, 48, 52, 53, 54, 55, 56, 57, 58, 59] (by decide +kernel) (by decide +kernel)
set_option maxRecDepth 20000 in
theorem gX0_warmestIfShut_X1_warmthOfWarmest : GoodIn wsX0_warmestIfShut (wsV RX0 58 RX1 yX1_warmthOfWarmest wsX1_warmthOfWarmest) := goodIn_app (goodIn_of _ (by decide +kernel)) ggX0_warmestIfShut_X1_warmthOfWarmest
theorem dX0_warmestIfShut_0 : decode cX0_warmestIfShut 0 = .ok (.aload_n 0, 1) := by decide +kernel
theorem dX0_warmestIfShut_1 : decode cX0_warmestIfShut 1 = .ok (.aload_n 1, 1) := by decide +kernel
theorem dX0_warmestIfShut_2 : decode cX0_warmestIfShut 2 = .ok (.invokevirtual 48, 3) := by decide +kernel
theorem dX0_warmestIfShut_5 : decode cX0_warmestIfShut 5 = .ok (.aload_n 0, 1) := by decide +kernel
theorem dX0_warmestIfShut_6 : decode cX0_warmestIfShut 6 = .ok (.getfield 12, 3) := by decide +kernel
theorem dX0_warmestIfShut_9 : decode cX0_warmestIfShut 9 = .ok (.iload_n 3, 1) := by decide +kernel
theorem dX0_warmestIfShut_10 : decode cX0_warmestIfShut 10 = .ok (.putfield 51, 3) := by decide +kernel
theorem dX0_warmestIfShut_13 : decode cX0_warmestIfShut 13 = .ok (.aload_n 0, 1) := by decide +kernel
theorem dX0_warmestIfShut_14 : decode cX0_warmestIfShut 14 = .ok (.aload_n 2, 1) := by decide +kernel
theorem dX0_warmestIfShut_15 : decode cX0_warmestIfShut 15 = .ok (.iload 4, 2) := by decide +kernel
theorem dX0_warmestIfShut_17 : decode cX0_warmestIfShut 17 = .ok (.invokevirtual 54, 3) := by decide +kernel
theorem dX0_warmestIfShut_20 : decode cX0_warmestIfShut 20 = .ok (.aload_n 0, 1) := by decide +kernel
theorem dX0_warmestIfShut_21 : decode cX0_warmestIfShut 21 = .ok (.getfield 12, 3) := by decide +kernel
theorem dX0_warmestIfShut_24 : decode cX0_warmestIfShut 24 = .ok (.aload_n 2, 1) := by decide +kernel
theorem dX0_warmestIfShut_25 : decode cX0_warmestIfShut 25 = .ok (.getfield 37, 3) := by decide +kernel
theorem dX0_warmestIfShut_28 : decode cX0_warmestIfShut 28 = .ok (.invokevirtual 58, 3) := by decide +kernel
theorem dX0_warmestIfShut_31 : decode cX0_warmestIfShut 31 = .ok (.ireturn, 1) := by decide +kernel
set_option maxRecDepth 20000 in
theorem ggX0_warmthIfMirrors_X0_setOut : GoodIn wsX0_warmthIfMirrors wsX0_setOut := goodIn_r _ [8, 1, 9, 10, 11, 12, 13, 14, 15, 16, 17, 18, 41, 42, 43, 44, 45, 46, 47, 48, 49, 50, 51] (by decide +kernel) (by decide +kernel)
set_option maxRecDepth 20000 in
theorem gX0_warmthIfMirrors_X0_setOut : GoodIn wsX0_warmthIfMirrors (wsV RX0 48 RX0 yX0_setOut wsX0_setOut) := goodIn_app (goodIn_of _ (by decide +kernel)) ggX0_warmthIfMirrors_X0_setOut
set_option maxRecDepth 20000 in
theorem ggX0_warmthIfMirrors_X0_goOn : GoodIn wsX0_warmthIfMirrors wsX0_goOn := goodIn_r _ [22, 1, 23, 24, 25, 12, 26, 14, 27, 28, 18, 29, 30, 31, 17, 32, 33, 34, 35, 36, 37, 38, 15, 39, 40, 16, 41, 42, 43, 44, 45, 46, 47, 48, 49, 50, 51, 52, 53, 54, 55, 56, 57, 58, 59, 60] (by decide +kernel) (by decide +kernel)
set_option maxRecDepth 20000 in
theorem gX0_warmthIfMirrors_X0_goOn : GoodIn wsX0_warmthIfMirrors (wsV RX0 54 RX0 yX0_goOn wsX0_goOn) := goodIn_app (goodIn_of _ (by decide +kernel)) ggX0_warmthIfMirrors_X0_goOn
theorem dX0_warmthIfMirrors_0 : decode cX0_warmthIfMirrors 0 = .ok (.aload_n 0, 1) := by decide +kernel
theorem dX0_warmthIfMirrors_1 : decode cX0_warmthIfMirrors 1 = .ok (.aload_n 1, 1) := by decide +kernel
theorem dX0_warmthIfMirrors_2 : decode cX0_warmthIfMirrors 2 = .ok (.invokevirtual 48, 3) := by decide +kernel
theorem dX0_warmthIfMirrors_5 : decode cX0_warmthIfMirrors 5 = .ok (.aload_n 0, 1) := by decide +kernel
theorem dX0_warmthIfMirrors_6 : decode cX0_warmthIfMirrors 6 = .ok (.getfield 12, 3) := by decide +kernel
theorem dX0_warmthIfMirrors_9 : decode cX0_warmthIfMirrors 9 = .ok (.dup, 1) := by decide +kernel
theorem dX0_warmthIfMirrors_10 : decode cX0_warmthIfMirrors 10 = .ok (.getfield 62, 3) := by decide +kernel
theorem dX0_warmthIfMirrors_13 : decode cX0_warmthIfMirrors 13 = .ok (.iload_n 3, 1) := by decide +kernel
theorem dX0_warmthIfMirrors_14 : decode cX0_warmthIfMirrors 14 = .ok (.ior, 1) := by decide +kernel
theorem dX0_warmthIfMirrors_15 : decode cX0_warmthIfMirrors 15 = .ok (.putfield 62, 3) := by decide +kernel
theorem dX0_warmthIfMirrors_18 : decode cX0_warmthIfMirrors 18 = .ok (.aload_n 0, 1) := by decide +kernel
theorem dX0_warmthIfMirrors_19 : decode cX0_warmthIfMirrors 19 = .ok (.aload_n 2, 1) := by decide +kernel
theorem dX0_warmthIfMirrors_20 : decode cX0_warmthIfMirrors 20 = .ok (.iload 4, 2) := by decide +kernel
theorem dX0_warmthIfMirrors_22 : decode cX0_warmthIfMirrors 22 = .ok (.invokevirtual 54, 3) := by decide +kernel
theorem dX0_warmthIfMirrors_25 : decode cX0_warmthIfMirrors 25 = .ok (.aload_n 0, 1) := by decide +kernel
theorem dX0_warmthIfMirrors_26 : decode cX0_warmthIfMirrors 26 = .ok (.getfield 12, 3) := by decide +kernel
theorem dX0_warmthIfMirrors_29 : decode cX0_warmthIfMirrors 29 = .ok (.getfield 45, 3) := by decide +kernel
theorem dX0_warmthIfMirrors_32 : decode cX0_warmthIfMirrors 32 = .ok (.iload 5, 2) := by decide +kernel
theorem dX0_warmthIfMirrors_34 : decode cX0_warmthIfMirrors 34 = .ok (.iaload, 1) := by decide +kernel
theorem dX0_warmthIfMirrors_35 : decode cX0_warmthIfMirrors 35 = .ok (.ireturn, 1) := by decide +kernel
set_option maxRecDepth 20000 in
theorem ggX0_staysCool_X0_setOut : GoodIn wsX0_staysCool wsX0_setOut := goodIn_r _ [7, 1, 8, 9, 10, 11, 12, 13, 14, 15, 16, 17, 41, 42, 43, 44, 45, 46, 47, 48, 49, 50, 51] (by decide +kernel) (by decide +kernel)
set_option maxRecDepth 20000 in
theorem gX0_staysCool_X0_setOut : GoodIn wsX0_staysCool (wsV RX0 48 RX0 yX0_setOut wsX0_setOut) := goodIn_app (goodIn_of _ (by decide +kernel)) ggX0_staysCool_X0_setOut
set_option maxRecDepth 20000 in
theorem ggX0_staysCool_X1_goBy : GoodIn wsX0_staysCool wsX1_goBy := goodIn_r _ [21, 13, 22, 23, 17, 24, 25, 26, 16, 27, 28, 29, 30, 31, 32, 11, 33, 14, 34, 35, 15, 44, 45, 46, 47, 48, 49, 50, 51, 52, 53, 54, 55, 56, 57, 58, 59, 60] (by decide +kernel) (by decide +kernel)
set_option maxRecDepth 20000 in
theorem gX0_staysCool_X1_goBy : GoodIn wsX0_staysCool (wsV RX0 33 RX1 yX1_goBy wsX1_goBy) := goodIn_app (goodIn_of _ (by decide +kernel)) ggX0_staysCool_X1_goBy
set_option maxRecDepth 20000 in
theorem ggX0_staysCool_X1_tooWarm : GoodIn wsX0_staysCool wsX1_tooWarm := goodIn_r _ [39, 22, 17, 40, 52, 53, 54, 55, 56, 57, 58, 59, 60, 44, 45, 46, 47, 48, 49, 50, 51] (by decide +kernel) (by decide +kernel)
set_option maxRecDepth 20000 in
theorem gX0_staysCool_X1_tooWarm : GoodIn wsX0_staysCool (wsV RX0 65 RX1 yX1_tooWarm wsX1_tooWarm) := goodIn_app (goodIn_of _ (by decide +kernel)) ggX0_staysCool_X1_tooWarm
theorem dX0_staysCool_0 : decode cX0_staysCool 0 = .ok (.aload_n 0, 1) := by decide +kernel
theorem dX0_staysCool_1 : decode cX0_staysCool 1 = .ok (.aload_n 1, 1) := by decide +kernel
theorem dX0_staysCool_2 : decode cX0_staysCool 2 = .ok (.invokevirtual 48, 3) := by decide +kernel
theorem dX0_staysCool_5 : decode cX0_staysCool 5 = .ok (.iconst 0, 1) := by decide +kernel
theorem dX0_staysCool_6 : decode cX0_staysCool 6 = .ok (.istore_n 3, 1) := by decide +kernel
theorem dX0_staysCool_7 : decode cX0_staysCool 7 = .ok (.iload_n 3, 1) := by decide +kernel
theorem dX0_staysCool_8 : decode cX0_staysCool 8 = .ok (.iload_n 2, 1) := by decide +kernel
theorem dX0_staysCool_9 : decode cX0_staysCool 9 = .ok (.if_icmp .ge 37, 3) := by decide +kernel
theorem dX0_staysCool_12 : decode cX0_staysCool 12 = .ok (.aload_n 0, 1) := by decide +kernel
theorem dX0_staysCool_13 : decode cX0_staysCool 13 = .ok (.getfield 12, 3) := by decide +kernel
theorem dX0_staysCool_16 : decode cX0_staysCool 16 = .ok (.aload_n 0, 1) := by decide +kernel
theorem dX0_staysCool_17 : decode cX0_staysCool 17 = .ok (.getfield 21, 3) := by decide +kernel
theorem dX0_staysCool_20 : decode cX0_staysCool 20 = .ok (.invokevirtual 33, 3) := by decide +kernel
theorem dX0_staysCool_23 : decode cX0_staysCool 23 = .ok (.pop, 1) := by decide +kernel
theorem dX0_staysCool_24 : decode cX0_staysCool 24 = .ok (.aload_n 0, 1) := by decide +kernel
theorem dX0_staysCool_25 : decode cX0_staysCool 25 = .ok (.getfield 12, 3) := by decide +kernel
theorem dX0_staysCool_28 : decode cX0_staysCool 28 = .ok (.aload_n 0, 1) := by decide +kernel
theorem dX0_staysCool_29 : decode cX0_staysCool 29 = .ok (.getfield 21, 3) := by decide +kernel
theorem dX0_staysCool_32 : decode cX0_staysCool 32 = .ok (.invokevirtual 65, 3) := by decide +kernel
theorem dX0_staysCool_35 : decode cX0_staysCool 35 = .ok (.ifCond .eq 5, 3) := by decide +kernel
theorem dX0_staysCool_38 : decode cX0_staysCool 38 = .ok (.iconst 0, 1) := by decide +kernel
theorem dX0_staysCool_39 : decode cX0_staysCool 39 = .ok (.ireturn, 1) := by decide +kernel
theorem dX0_staysCool_40 : decode cX0_staysCool 40 = .ok (.iinc 3 1, 3) := by decide +kernel
theorem dX0_staysCool_43 : decode cX0_staysCool 43 = .ok (.goto (-36), 3) := by decide +kernel
theorem dX0_staysCool_46 : decode cX0_staysCool 46 = .ok (.iconst 1, 1) := by decide +kernel
theorem dX0_staysCool_47 : decode cX0_staysCool 47 = .ok (.ireturn, 1) := by decide +kernel
set_option maxRecDepth 20000 in
theorem ggX0_allSeenIsSo_X1_begin : GoodIn wsX0_allSeenIsSo wsX1_begin := goodIn_r _ [7, 8, 9, 10, 11, 12, 13, 14, 54, 55, 56, 57, 58, 59, 60, 61, 62, 63, 64, 65, 66, 67, 68, 69, 70] (by decide +kernel) (by decide +kernel)
set_option maxRecDepth 20000 in
theorem gX0_allSeenIsSo_X1_begin : GoodIn wsX0_allSeenIsSo (wsV RX0 68 RX1 yX1_begin wsX1_begin) := goodIn_app (goodIn_of _ (by decide +kernel)) ggX0_allSeenIsSo_X1_begin
set_option maxRecDepth 20000 in
theorem ggX0_allSeenIsSo_X3_latest : GoodIn wsX0_allSeenIsSo wsX3_latest := goodIn_r _ [19, 20, 21, 22, 23, 24, 25, 71, 72, 73, 74] (by decide +kernel) (by decide +kernel)
set_option maxRecDepth 20000 in
theorem gX0_allSeenIsSo_X3_latest : GoodIn wsX0_allSeenIsSo (wsV RX0 72 RX3 yX3_latest wsX3_latest) := goodIn_app (goodIn_of _ (by decide +kernel)) ggX0_allSeenIsSo_X3_latest
set_option maxRecDepth 20000 in
theorem ggX0_allSeenIsSo_X3_areSo : GoodIn wsX0_allSeenIsSo wsX3_areSo := goodIn_r _ [29, 20, 21, 30, 31, 32, 71, 72, 73, 74, 54, 55, 56, 57, 58, 59, 60, 61] (by decide +kernel) (by decide +kernel)
set_option maxRecDepth 20000 in
theorem gX0_allSeenIsSo_X3_areSo : GoodIn wsX0_allSeenIsSo (wsV RX0 78 RX3 yX3_areSo wsX3_areSo) := goodIn_app (goodIn_of _ (by decide +kernel)) ggX0_allSeenIsSo_X3_areSo
set_option maxRecDepth 20000 in
theorem ggX0_allSeenIsSo_X1_goBy : GoodIn wsX0_allSeenIsSo wsX1_goBy := goodIn_r _ [36, 8, 37, 38, 13, 39, 40, 41, 11, 42, 43, 44, 45, 46, 47, 6, 48, 9, 49, 50, 10, 54, 55, 56, 57, 58, 59, 60, 61, 62, 63, 64, 65, 66, 67, 68, 69, 70] (by decide +kernel) (by decide +kernel)
set_option maxRecDepth 20000 in
theorem gX0_allSeenIsSo_X1_goBy : GoodIn wsX0_allSeenIsSo (wsV RX0 33 RX1 yX1_goBy wsX1_goBy) := goodIn_app (goodIn_of _ (by decide +kernel)) ggX0_allSeenIsSo_X1_goBy
theorem dX0_allSeenIsSo_0 : decode cX0_allSeenIsSo 0 = .ok (.aload_n 0, 1) := by decide +kernel
theorem dX0_allSeenIsSo_1 : decode cX0_allSeenIsSo 1 = .ok (.getfield 12, 3) := by decide +kernel
theorem dX0_allSeenIsSo_4 : decode cX0_allSeenIsSo 4 = .ok (.aload_n 0, 1) := by decide +kernel
theorem dX0_allSeenIsSo_5 : decode cX0_allSeenIsSo 5 = .ok (.getfield 21, 3) := by decide +kernel
theorem dX0_allSeenIsSo_8 : decode cX0_allSeenIsSo 8 = .ok (.invokevirtual 68, 3) := by decide +kernel
theorem dX0_allSeenIsSo_11 : decode cX0_allSeenIsSo 11 = .ok (.aload_n 1, 1) := by decide +kernel
theorem dX0_allSeenIsSo_12 : decode cX0_allSeenIsSo 12 = .ok (.invokevirtual 72, 3) := by decide +kernel
theorem dX0_allSeenIsSo_15 : decode cX0_allSeenIsSo 15 = .ok (.istore_n 2, 1) := by decide +kernel
theorem dX0_allSeenIsSo_16 : decode cX0_allSeenIsSo 16 = .ok (.iconst 0, 1) := by decide +kernel
theorem dX0_allSeenIsSo_17 : decode cX0_allSeenIsSo 17 = .ok (.istore_n 3, 1) := by decide +kernel
theorem dX0_allSeenIsSo_18 : decode cX0_allSeenIsSo 18 = .ok (.iload_n 3, 1) := by decide +kernel
theorem dX0_allSeenIsSo_19 : decode cX0_allSeenIsSo 19 = .ok (.iload_n 2, 1) := by decide +kernel
theorem dX0_allSeenIsSo_20 : decode cX0_allSeenIsSo 20 = .ok (.if_icmp .gt 35, 3) := by decide +kernel
theorem dX0_allSeenIsSo_23 : decode cX0_allSeenIsSo 23 = .ok (.aload_n 1, 1) := by decide +kernel
theorem dX0_allSeenIsSo_24 : decode cX0_allSeenIsSo 24 = .ok (.iload_n 3, 1) := by decide +kernel
theorem dX0_allSeenIsSo_25 : decode cX0_allSeenIsSo 25 = .ok (.aload_n 0, 1) := by decide +kernel
theorem dX0_allSeenIsSo_26 : decode cX0_allSeenIsSo 26 = .ok (.getfield 12, 3) := by decide +kernel
theorem dX0_allSeenIsSo_29 : decode cX0_allSeenIsSo 29 = .ok (.invokevirtual 78, 3) := by decide +kernel
theorem dX0_allSeenIsSo_32 : decode cX0_allSeenIsSo 32 = .ok (.ifCond .ne 5, 3) := by decide +kernel
theorem dX0_allSeenIsSo_35 : decode cX0_allSeenIsSo 35 = .ok (.iconst 0, 1) := by decide +kernel
theorem dX0_allSeenIsSo_36 : decode cX0_allSeenIsSo 36 = .ok (.ireturn, 1) := by decide +kernel
theorem dX0_allSeenIsSo_37 : decode cX0_allSeenIsSo 37 = .ok (.aload_n 0, 1) := by decide +kernel
theorem dX0_allSeenIsSo_38 : decode cX0_allSeenIsSo 38 = .ok (.getfield 12, 3) := by decide +kernel
theorem dX0_allSeenIsSo_41 : decode cX0_allSeenIsSo 41 = .ok (.aload_n 0, 1) := by decide +kernel
theorem dX0_allSeenIsSo_42 : decode cX0_allSeenIsSo 42 = .ok (.getfield 21, 3) := by decide +kernel
theorem dX0_allSeenIsSo_45 : decode cX0_allSeenIsSo 45 = .ok (.invokevirtual 33, 3) := by decide +kernel
theorem dX0_allSeenIsSo_48 : decode cX0_allSeenIsSo 48 = .ok (.pop, 1) := by decide +kernel
theorem dX0_allSeenIsSo_49 : decode cX0_allSeenIsSo 49 = .ok (.iinc 3 1, 3) := by decide +kernel
theorem dX0_allSeenIsSo_52 : decode cX0_allSeenIsSo 52 = .ok (.goto (-34), 3) := by decide +kernel
theorem dX0_allSeenIsSo_55 : decode cX0_allSeenIsSo 55 = .ok (.iconst 1, 1) := by decide +kernel
theorem dX0_allSeenIsSo_56 : decode cX0_allSeenIsSo 56 = .ok (.ireturn, 1) := by decide +kernel
theorem dX1_init_0 : decode cX1_init 0 = .ok (.aload_n 0, 1) := by decide +kernel
theorem dX1_init_1 : decode cX1_init 1 = .ok (.invokespecial 3, 3) := by decide +kernel
theorem dX1_init_4 : decode cX1_init 4 = .ok (.aload_n 0, 1) := by decide +kernel
theorem dX1_init_5 : decode cX1_init 5 = .ok (.bipush 6, 2) := by decide +kernel
theorem dX1_init_7 : decode cX1_init 7 = .ok (.newarray .int, 2) := by decide +kernel
theorem dX1_init_9 : decode cX1_init 9 = .ok (.putfield 9, 3) := by decide +kernel
theorem dX1_init_12 : decode cX1_init 12 = .ok (.aload_n 0, 1) := by decide +kernel
theorem dX1_init_13 : decode cX1_init 13 = .ok (.bipush 6, 2) := by decide +kernel
theorem dX1_init_15 : decode cX1_init 15 = .ok (.newarray .int, 2) := by decide +kernel
theorem dX1_init_17 : decode cX1_init 17 = .ok (.putfield 15, 3) := by decide +kernel
theorem dX1_init_20 : decode cX1_init 20 = .ok (.aload_n 0, 1) := by decide +kernel
theorem dX1_init_21 : decode cX1_init 21 = .ok (.bipush 10, 2) := by decide +kernel
theorem dX1_init_23 : decode cX1_init 23 = .ok (.newarray .int, 2) := by decide +kernel
theorem dX1_init_25 : decode cX1_init 25 = .ok (.putfield 18, 3) := by decide +kernel
theorem dX1_init_28 : decode cX1_init 28 = .ok (.return_, 1) := by decide +kernel
theorem dX1_begin_0 : decode cX1_begin 0 = .ok (.aload_n 0, 1) := by decide +kernel
theorem dX1_begin_1 : decode cX1_begin 1 = .ok (.iconst 0, 1) := by decide +kernel
theorem dX1_begin_2 : decode cX1_begin 2 = .ok (.putfield 21, 3) := by decide +kernel
theorem dX1_begin_5 : decode cX1_begin 5 = .ok (.aload_n 0, 1) := by decide +kernel
theorem dX1_begin_6 : decode cX1_begin 6 = .ok (.iconst 0, 1) := by decide +kernel
theorem dX1_begin_7 : decode cX1_begin 7 = .ok (.putfield 25, 3) := by decide +kernel
theorem dX1_begin_10 : decode cX1_begin 10 = .ok (.aload_n 0, 1) := by decide +kernel
theorem dX1_begin_11 : decode cX1_begin 11 = .ok (.iconst 0, 1) := by decide +kernel
theorem dX1_begin_12 : decode cX1_begin 12 = .ok (.putfield 28, 3) := by decide +kernel
theorem dX1_begin_15 : decode cX1_begin 15 = .ok (.aload_n 0, 1) := by decide +kernel
theorem dX1_begin_16 : decode cX1_begin 16 = .ok (.iconst 0, 1) := by decide +kernel
theorem dX1_begin_17 : decode cX1_begin 17 = .ok (.putfield 31, 3) := by decide +kernel
theorem dX1_begin_20 : decode cX1_begin 20 = .ok (.aload_n 0, 1) := by decide +kernel
theorem dX1_begin_21 : decode cX1_begin 21 = .ok (.iconst 0, 1) := by decide +kernel
theorem dX1_begin_22 : decode cX1_begin 22 = .ok (.putfield 34, 3) := by decide +kernel
theorem dX1_begin_25 : decode cX1_begin 25 = .ok (.iconst 0, 1) := by decide +kernel
theorem dX1_begin_26 : decode cX1_begin 26 = .ok (.istore_n 2, 1) := by decide +kernel
theorem dX1_begin_27 : decode cX1_begin 27 = .ok (.iload_n 2, 1) := by decide +kernel
theorem dX1_begin_28 : decode cX1_begin 28 = .ok (.bipush 6, 2) := by decide +kernel
theorem dX1_begin_30 : decode cX1_begin 30 = .ok (.if_icmp .ge 21, 3) := by decide +kernel
theorem dX1_begin_33 : decode cX1_begin 33 = .ok (.aload_n 0, 1) := by decide +kernel
theorem dX1_begin_34 : decode cX1_begin 34 = .ok (.getfield 9, 3) := by decide +kernel
theorem dX1_begin_37 : decode cX1_begin 37 = .ok (.iload_n 2, 1) := by decide +kernel
theorem dX1_begin_38 : decode cX1_begin 38 = .ok (.aload_n 1, 1) := by decide +kernel
theorem dX1_begin_39 : decode cX1_begin 39 = .ok (.getfield 37, 3) := by decide +kernel
theorem dX1_begin_42 : decode cX1_begin 42 = .ok (.iload_n 2, 1) := by decide +kernel
theorem dX1_begin_43 : decode cX1_begin 43 = .ok (.iaload, 1) := by decide +kernel
theorem dX1_begin_44 : decode cX1_begin 44 = .ok (.iastore, 1) := by decide +kernel
theorem dX1_begin_45 : decode cX1_begin 45 = .ok (.iinc 2 1, 3) := by decide +kernel
theorem dX1_begin_48 : decode cX1_begin 48 = .ok (.goto (-21), 3) := by decide +kernel
theorem dX1_begin_51 : decode cX1_begin 51 = .ok (.return_, 1) := by decide +kernel
theorem dX1_copy_0 : decode cX1_copy 0 = .ok (.aload_n 0, 1) := by decide +kernel
theorem dX1_copy_1 : decode cX1_copy 1 = .ok (.aload_n 1, 1) := by decide +kernel
theorem dX1_copy_2 : decode cX1_copy 2 = .ok (.getfield 21, 3) := by decide +kernel
theorem dX1_copy_5 : decode cX1_copy 5 = .ok (.putfield 21, 3) := by decide +kernel
theorem dX1_copy_8 : decode cX1_copy 8 = .ok (.aload_n 0, 1) := by decide +kernel
theorem dX1_copy_9 : decode cX1_copy 9 = .ok (.aload_n 1, 1) := by decide +kernel
theorem dX1_copy_10 : decode cX1_copy 10 = .ok (.getfield 25, 3) := by decide +kernel
theorem dX1_copy_13 : decode cX1_copy 13 = .ok (.putfield 25, 3) := by decide +kernel
theorem dX1_copy_16 : decode cX1_copy 16 = .ok (.aload_n 0, 1) := by decide +kernel
theorem dX1_copy_17 : decode cX1_copy 17 = .ok (.aload_n 1, 1) := by decide +kernel
theorem dX1_copy_18 : decode cX1_copy 18 = .ok (.getfield 28, 3) := by decide +kernel
theorem dX1_copy_21 : decode cX1_copy 21 = .ok (.putfield 28, 3) := by decide +kernel
theorem dX1_copy_24 : decode cX1_copy 24 = .ok (.aload_n 0, 1) := by decide +kernel
theorem dX1_copy_25 : decode cX1_copy 25 = .ok (.aload_n 1, 1) := by decide +kernel
theorem dX1_copy_26 : decode cX1_copy 26 = .ok (.getfield 31, 3) := by decide +kernel
theorem dX1_copy_29 : decode cX1_copy 29 = .ok (.putfield 31, 3) := by decide +kernel
theorem dX1_copy_32 : decode cX1_copy 32 = .ok (.iconst 0, 1) := by decide +kernel
theorem dX1_copy_33 : decode cX1_copy 33 = .ok (.istore_n 2, 1) := by decide +kernel
theorem dX1_copy_34 : decode cX1_copy 34 = .ok (.iload_n 2, 1) := by decide +kernel
theorem dX1_copy_35 : decode cX1_copy 35 = .ok (.bipush 6, 2) := by decide +kernel
theorem dX1_copy_37 : decode cX1_copy 37 = .ok (.if_icmp .ge 21, 3) := by decide +kernel
theorem dX1_copy_40 : decode cX1_copy 40 = .ok (.aload_n 0, 1) := by decide +kernel
theorem dX1_copy_41 : decode cX1_copy 41 = .ok (.getfield 9, 3) := by decide +kernel
theorem dX1_copy_44 : decode cX1_copy 44 = .ok (.iload_n 2, 1) := by decide +kernel
theorem dX1_copy_45 : decode cX1_copy 45 = .ok (.aload_n 1, 1) := by decide +kernel
theorem dX1_copy_46 : decode cX1_copy 46 = .ok (.getfield 9, 3) := by decide +kernel
theorem dX1_copy_49 : decode cX1_copy 49 = .ok (.iload_n 2, 1) := by decide +kernel
theorem dX1_copy_50 : decode cX1_copy 50 = .ok (.iaload, 1) := by decide +kernel
theorem dX1_copy_51 : decode cX1_copy 51 = .ok (.iastore, 1) := by decide +kernel
theorem dX1_copy_52 : decode cX1_copy 52 = .ok (.iinc 2 1, 3) := by decide +kernel
theorem dX1_copy_55 : decode cX1_copy 55 = .ok (.goto (-21), 3) := by decide +kernel
theorem dX1_copy_58 : decode cX1_copy 58 = .ok (.return_, 1) := by decide +kernel
set_option maxRecDepth 20000 in
theorem ggX1_copyWithChanges_X1_copy : GoodIn wsX1_copyWithChanges wsX1_copy := goodIn_r _ [7, 8, 9, 10, 11, 12, 13, 14, 15, 16, 17, 18, 19, 20] (by decide +kernel) (by decide +kernel)
set_option maxRecDepth 20000 in
theorem gX1_copyWithChanges_X1_copy : GoodIn wsX1_copyWithChanges (wsV RX1 40 RX1 yX1_copy wsX1_copy) := goodIn_app (goodIn_of _ (by decide +kernel)) ggX1_copyWithChanges_X1_copy
theorem dX1_copyWithChanges_0 : decode cX1_copyWithChanges 0 = .ok (.aload_n 0, 1) := by decide +kernel
theorem dX1_copyWithChanges_1 : decode cX1_copyWithChanges 1 = .ok (.aload_n 1, 1) := by decide +kernel
theorem dX1_copyWithChanges_2 : decode cX1_copyWithChanges 2 = .ok (.invokevirtual 40, 3) := by decide +kernel
theorem dX1_copyWithChanges_5 : decode cX1_copyWithChanges 5 = .ok (.aload_n 0, 1) := by decide +kernel
theorem dX1_copyWithChanges_6 : decode cX1_copyWithChanges 6 = .ok (.aload_n 1, 1) := by decide +kernel
theorem dX1_copyWithChanges_7 : decode cX1_copyWithChanges 7 = .ok (.getfield 34, 3) := by decide +kernel
theorem dX1_copyWithChanges_10 : decode cX1_copyWithChanges 10 = .ok (.putfield 34, 3) := by decide +kernel
theorem dX1_copyWithChanges_13 : decode cX1_copyWithChanges 13 = .ok (.iconst 0, 1) := by decide +kernel
theorem dX1_copyWithChanges_14 : decode cX1_copyWithChanges 14 = .ok (.istore_n 2, 1) := by decide +kernel
theorem dX1_copyWithChanges_15 : decode cX1_copyWithChanges 15 = .ok (.iload_n 2, 1) := by decide +kernel
theorem dX1_copyWithChanges_16 : decode cX1_copyWithChanges 16 = .ok (.bipush 10, 2) := by decide +kernel
theorem dX1_copyWithChanges_18 : decode cX1_copyWithChanges 18 = .ok (.if_icmp .ge 21, 3) := by decide +kernel
theorem dX1_copyWithChanges_21 : decode cX1_copyWithChanges 21 = .ok (.aload_n 0, 1) := by decide +kernel
theorem dX1_copyWithChanges_22 : decode cX1_copyWithChanges 22 = .ok (.getfield 18, 3) := by decide +kernel
theorem dX1_copyWithChanges_25 : decode cX1_copyWithChanges 25 = .ok (.iload_n 2, 1) := by decide +kernel
theorem dX1_copyWithChanges_26 : decode cX1_copyWithChanges 26 = .ok (.aload_n 1, 1) := by decide +kernel
theorem dX1_copyWithChanges_27 : decode cX1_copyWithChanges 27 = .ok (.getfield 18, 3) := by decide +kernel
theorem dX1_copyWithChanges_30 : decode cX1_copyWithChanges 30 = .ok (.iload_n 2, 1) := by decide +kernel
theorem dX1_copyWithChanges_31 : decode cX1_copyWithChanges 31 = .ok (.iaload, 1) := by decide +kernel
theorem dX1_copyWithChanges_32 : decode cX1_copyWithChanges 32 = .ok (.iastore, 1) := by decide +kernel
theorem dX1_copyWithChanges_33 : decode cX1_copyWithChanges 33 = .ok (.iinc 2 1, 3) := by decide +kernel
theorem dX1_copyWithChanges_36 : decode cX1_copyWithChanges 36 = .ok (.goto (-21), 3) := by decide +kernel
theorem dX1_copyWithChanges_39 : decode cX1_copyWithChanges 39 = .ok (.return_, 1) := by decide +kernel
set_option maxRecDepth 20000 in
theorem ggX1_change_X1_turn : GoodIn wsX1_change wsX1_turn := goodIn_r _ [7, 8, 9, 10, 11, 12, 13, 14, 15, 16, 17] (by decide +kernel) (by decide +kernel)
set_option maxRecDepth 20000 in
theorem gX1_change_X1_turn : GoodIn wsX1_change (wsV RX1 44 RX1 yX1_turn wsX1_turn) := goodIn_app (goodIn_of _ (by decide +kernel)) ggX1_change_X1_turn
theorem dX1_change_0 : decode cX1_change 0 = .ok (.aload_n 0, 1) := by decide +kernel
theorem dX1_change_1 : decode cX1_change 1 = .ok (.getfield 34, 3) := by decide +kernel
theorem dX1_change_4 : decode cX1_change 4 = .ok (.bipush 10, 2) := by decide +kernel
theorem dX1_change_6 : decode cX1_change 6 = .ok (.if_icmp .lt 37, 3) := by decide +kernel
theorem dX1_change_9 : decode cX1_change 9 = .ok (.iconst 1, 1) := by decide +kernel
theorem dX1_change_10 : decode cX1_change 10 = .ok (.istore_n 2, 1) := by decide +kernel
theorem dX1_change_11 : decode cX1_change 11 = .ok (.iload_n 2, 1) := by decide +kernel
theorem dX1_change_12 : decode cX1_change 12 = .ok (.bipush 10, 2) := by decide +kernel
theorem dX1_change_14 : decode cX1_change 14 = .ok (.if_icmp .ge 23, 3) := by decide +kernel
theorem dX1_change_17 : decode cX1_change 17 = .ok (.aload_n 0, 1) := by decide +kernel
theorem dX1_change_18 : decode cX1_change 18 = .ok (.getfield 18, 3) := by decide +kernel
theorem dX1_change_21 : decode cX1_change 21 = .ok (.iload_n 2, 1) := by decide +kernel
theorem dX1_change_22 : decode cX1_change 22 = .ok (.iconst 1, 1) := by decide +kernel
theorem dX1_change_23 : decode cX1_change 23 = .ok (.isub, 1) := by decide +kernel
theorem dX1_change_24 : decode cX1_change 24 = .ok (.aload_n 0, 1) := by decide +kernel
theorem dX1_change_25 : decode cX1_change 25 = .ok (.getfield 18, 3) := by decide +kernel
theorem dX1_change_28 : decode cX1_change 28 = .ok (.iload_n 2, 1) := by decide +kernel
theorem dX1_change_29 : decode cX1_change 29 = .ok (.iaload, 1) := by decide +kernel
theorem dX1_change_30 : decode cX1_change 30 = .ok (.iastore, 1) := by decide +kernel
theorem dX1_change_31 : decode cX1_change 31 = .ok (.iinc 2 1, 3) := by decide +kernel
theorem dX1_change_34 : decode cX1_change 34 = .ok (.goto (-23), 3) := by decide +kernel
theorem dX1_change_37 : decode cX1_change 37 = .ok (.aload_n 0, 1) := by decide +kernel
theorem dX1_change_38 : decode cX1_change 38 = .ok (.bipush 9, 2) := by decide +kernel
theorem dX1_change_40 : decode cX1_change 40 = .ok (.putfield 34, 3) := by decide +kernel
theorem dX1_change_43 : decode cX1_change 43 = .ok (.aload_n 0, 1) := by decide +kernel
theorem dX1_change_44 : decode cX1_change 44 = .ok (.getfield 18, 3) := by decide +kernel
theorem dX1_change_47 : decode cX1_change 47 = .ok (.aload_n 0, 1) := by decide +kernel
theorem dX1_change_48 : decode cX1_change 48 = .ok (.getfield 34, 3) := by decide +kernel
theorem dX1_change_51 : decode cX1_change 51 = .ok (.iload_n 1, 1) := by decide +kernel
theorem dX1_change_52 : decode cX1_change 52 = .ok (.iastore, 1) := by decide +kernel
theorem dX1_change_53 : decode cX1_change 53 = .ok (.aload_n 0, 1) := by decide +kernel
theorem dX1_change_54 : decode cX1_change 54 = .ok (.dup, 1) := by decide +kernel
theorem dX1_change_55 : decode cX1_change 55 = .ok (.getfield 34, 3) := by decide +kernel
theorem dX1_change_58 : decode cX1_change 58 = .ok (.iconst 1, 1) := by decide +kernel
theorem dX1_change_59 : decode cX1_change 59 = .ok (.iadd, 1) := by decide +kernel
theorem dX1_change_60 : decode cX1_change 60 = .ok (.putfield 34, 3) := by decide +kernel
theorem dX1_change_63 : decode cX1_change 63 = .ok (.aload_n 0, 1) := by decide +kernel
theorem dX1_change_64 : decode cX1_change 64 = .ok (.iload_n 1, 1) := by decide +kernel
theorem dX1_change_65 : decode cX1_change 65 = .ok (.invokevirtual 44, 3) := by decide +kernel
theorem dX1_change_68 : decode cX1_change 68 = .ok (.return_, 1) := by decide +kernel
set_option maxRecDepth 20000 in
theorem ggX1_changeBack_X1_turn : GoodIn wsX1_changeBack wsX1_turn := goodIn_r _ [7, 8, 9, 10, 11, 12, 13, 14, 15, 16, 17] (by decide +kernel) (by decide +kernel)
set_option maxRecDepth 20000 in
theorem gX1_changeBack_X1_turn : GoodIn wsX1_changeBack (wsV RX1 44 RX1 yX1_turn wsX1_turn) := goodIn_app (goodIn_of _ (by decide +kernel)) ggX1_changeBack_X1_turn
theorem dX1_changeBack_0 : decode cX1_changeBack 0 = .ok (.aload_n 0, 1) := by decide +kernel
theorem dX1_changeBack_1 : decode cX1_changeBack 1 = .ok (.getfield 34, 3) := by decide +kernel
theorem dX1_changeBack_4 : decode cX1_changeBack 4 = .ok (.ifCond .le 26, 3) := by decide +kernel
theorem dX1_changeBack_7 : decode cX1_changeBack 7 = .ok (.aload_n 0, 1) := by decide +kernel
theorem dX1_changeBack_8 : decode cX1_changeBack 8 = .ok (.dup, 1) := by decide +kernel
theorem dX1_changeBack_9 : decode cX1_changeBack 9 = .ok (.getfield 34, 3) := by decide +kernel
theorem dX1_changeBack_12 : decode cX1_changeBack 12 = .ok (.iconst 1, 1) := by decide +kernel
theorem dX1_changeBack_13 : decode cX1_changeBack 13 = .ok (.isub, 1) := by decide +kernel
theorem dX1_changeBack_14 : decode cX1_changeBack 14 = .ok (.putfield 34, 3) := by decide +kernel
theorem dX1_changeBack_17 : decode cX1_changeBack 17 = .ok (.aload_n 0, 1) := by decide +kernel
theorem dX1_changeBack_18 : decode cX1_changeBack 18 = .ok (.aload_n 0, 1) := by decide +kernel
theorem dX1_changeBack_19 : decode cX1_changeBack 19 = .ok (.getfield 18, 3) := by decide +kernel
theorem dX1_changeBack_22 : decode cX1_changeBack 22 = .ok (.aload_n 0, 1) := by decide +kernel
theorem dX1_changeBack_23 : decode cX1_changeBack 23 = .ok (.getfield 34, 3) := by decide +kernel
theorem dX1_changeBack_26 : decode cX1_changeBack 26 = .ok (.iaload, 1) := by decide +kernel
theorem dX1_changeBack_27 : decode cX1_changeBack 27 = .ok (.invokevirtual 44, 3) := by decide +kernel
theorem dX1_changeBack_30 : decode cX1_changeBack 30 = .ok (.return_, 1) := by decide +kernel
theorem dX1_turn_0 : decode cX1_turn 0 = .ok (.iload_n 1, 1) := by decide +kernel
theorem dX1_turn_1 : decode cX1_turn 1 = .ok (.bipush 6, 2) := by decide +kernel
theorem dX1_turn_3 : decode cX1_turn 3 = .ok (.if_icmp .ge 18, 3) := by decide +kernel
theorem dX1_turn_6 : decode cX1_turn 6 = .ok (.aload_n 0, 1) := by decide +kernel
theorem dX1_turn_7 : decode cX1_turn 7 = .ok (.dup, 1) := by decide +kernel
theorem dX1_turn_8 : decode cX1_turn 8 = .ok (.getfield 25, 3) := by decide +kernel
theorem dX1_turn_11 : decode cX1_turn 11 = .ok (.iconst 1, 1) := by decide +kernel
theorem dX1_turn_12 : decode cX1_turn 12 = .ok (.iload_n 1, 1) := by decide +kernel
theorem dX1_turn_13 : decode cX1_turn 13 = .ok (.ishl, 1) := by decide +kernel
theorem dX1_turn_14 : decode cX1_turn 14 = .ok (.ixor, 1) := by decide +kernel
theorem dX1_turn_15 : decode cX1_turn 15 = .ok (.putfield 25, 3) := by decide +kernel
theorem dX1_turn_18 : decode cX1_turn 18 = .ok (.goto 18, 3) := by decide +kernel
theorem dX1_turn_21 : decode cX1_turn 21 = .ok (.aload_n 0, 1) := by decide +kernel
theorem dX1_turn_22 : decode cX1_turn 22 = .ok (.dup, 1) := by decide +kernel
theorem dX1_turn_23 : decode cX1_turn 23 = .ok (.getfield 28, 3) := by decide +kernel
theorem dX1_turn_26 : decode cX1_turn 26 = .ok (.iconst 1, 1) := by decide +kernel
theorem dX1_turn_27 : decode cX1_turn 27 = .ok (.iload_n 1, 1) := by decide +kernel
theorem dX1_turn_28 : decode cX1_turn 28 = .ok (.bipush 6, 2) := by decide +kernel
theorem dX1_turn_30 : decode cX1_turn 30 = .ok (.isub, 1) := by decide +kernel
theorem dX1_turn_31 : decode cX1_turn 31 = .ok (.ishl, 1) := by decide +kernel
theorem dX1_turn_32 : decode cX1_turn 32 = .ok (.ixor, 1) := by decide +kernel
theorem dX1_turn_33 : decode cX1_turn 33 = .ok (.putfield 28, 3) := by decide +kernel
theorem dX1_turn_36 : decode cX1_turn 36 = .ok (.return_, 1) := by decide +kernel
set_option maxRecDepth 20000 in
theorem ggX1_goBy_X7_bit : GoodIn wsX1_goBy wsX7_bit := goodIn_r _ [11] (by decide +kernel) (by decide +kernel)
set_option maxRecDepth 20000 in
theorem gX1_goBy_X7_bit_n53 : GoodIn wsX1_goBy (wsX7_bit) := ggX1_goBy_X7_bit
set_option maxRecDepth 20000 in
theorem ggX1_goBy_X1_giveOff : GoodIn wsX1_goBy wsX1_giveOff := goodIn_r _ [16, 17, 4, 18, 3, 2, 19, 20, 9, 10, 11, 21, 22, 23, 24, 25, 26, 27, 28, 29, 30, 31, 32, 33, 34, 35, 36, 37] (by decide +kernel) (by decide +kernel)
set_option maxRecDepth 20000 in
theorem gX1_goBy_X1_giveOff : GoodIn wsX1_goBy (wsV RX1 63 RX1 yX1_giveOff wsX1_giveOff) := goodIn_app (goodIn_of _ (by decide +kernel)) ggX1_goBy_X1_giveOff
theorem dX1_goBy_0 : decode cX1_goBy 0 = .ok (.aload_n 0, 1) := by decide +kernel
theorem dX1_goBy_1 : decode cX1_goBy 1 = .ok (.getfield 21, 3) := by decide +kernel
theorem dX1_goBy_4 : decode cX1_goBy 4 = .ok (.bipush 8, 2) := by decide +kernel
theorem dX1_goBy_6 : decode cX1_goBy 6 = .ok (.irem, 1) := by decide +kernel
theorem dX1_goBy_7 : decode cX1_goBy 7 = .ok (.istore_n 2, 1) := by decide +kernel
theorem dX1_goBy_8 : decode cX1_goBy 8 = .ok (.iconst 0, 1) := by decide +kernel
theorem dX1_goBy_9 : decode cX1_goBy 9 = .ok (.istore_n 3, 1) := by decide +kernel
theorem dX1_goBy_10 : decode cX1_goBy 10 = .ok (.iload_n 3, 1) := by decide +kernel
theorem dX1_goBy_11 : decode cX1_goBy 11 = .ok (.aload_n 1, 1) := by decide +kernel
theorem dX1_goBy_12 : decode cX1_goBy 12 = .ok (.getfield 48, 3) := by decide +kernel
theorem dX1_goBy_15 : decode cX1_goBy 15 = .ok (.if_icmp .ge 46, 3) := by decide +kernel
theorem dX1_goBy_18 : decode cX1_goBy 18 = .ok (.aload_n 0, 1) := by decide +kernel
theorem dX1_goBy_19 : decode cX1_goBy 19 = .ok (.getfield 15, 3) := by decide +kernel
theorem dX1_goBy_22 : decode cX1_goBy 22 = .ok (.iload_n 3, 1) := by decide +kernel
theorem dX1_goBy_23 : decode cX1_goBy 23 = .ok (.aload_n 0, 1) := by decide +kernel
theorem dX1_goBy_24 : decode cX1_goBy 24 = .ok (.getfield 9, 3) := by decide +kernel
theorem dX1_goBy_27 : decode cX1_goBy 27 = .ok (.iload_n 3, 1) := by decide +kernel
theorem dX1_goBy_28 : decode cX1_goBy 28 = .ok (.iaload, 1) := by decide +kernel
theorem dX1_goBy_29 : decode cX1_goBy 29 = .ok (.aload_n 1, 1) := by decide +kernel
theorem dX1_goBy_30 : decode cX1_goBy 30 = .ok (.getfield 51, 3) := by decide +kernel
theorem dX1_goBy_33 : decode cX1_goBy 33 = .ok (.iload_n 3, 1) := by decide +kernel
theorem dX1_goBy_34 : decode cX1_goBy 34 = .ok (.iaload, 1) := by decide +kernel
theorem dX1_goBy_35 : decode cX1_goBy 35 = .ok (.iload_n 2, 1) := by decide +kernel
theorem dX1_goBy_36 : decode cX1_goBy 36 = .ok (.invokestatic 53, 3) := by decide +kernel
theorem dX1_goBy_39 : decode cX1_goBy 39 = .ok (.aload_n 1, 1) := by decide +kernel
theorem dX1_goBy_40 : decode cX1_goBy 40 = .ok (.getfield 57, 3) := by decide +kernel
theorem dX1_goBy_43 : decode cX1_goBy 43 = .ok (.iload_n 3, 1) := by decide +kernel
theorem dX1_goBy_44 : decode cX1_goBy 44 = .ok (.iaload, 1) := by decide +kernel
theorem dX1_goBy_45 : decode cX1_goBy 45 = .ok (.imul, 1) := by decide +kernel
theorem dX1_goBy_46 : decode cX1_goBy 46 = .ok (.iadd, 1) := by decide +kernel
theorem dX1_goBy_47 : decode cX1_goBy 47 = .ok (.aload_n 1, 1) := by decide +kernel
theorem dX1_goBy_48 : decode cX1_goBy 48 = .ok (.getfield 60, 3) := by decide +kernel
theorem dX1_goBy_51 : decode cX1_goBy 51 = .ok (.iload_n 3, 1) := by decide +kernel
theorem dX1_goBy_52 : decode cX1_goBy 52 = .ok (.iaload, 1) := by decide +kernel
theorem dX1_goBy_53 : decode cX1_goBy 53 = .ok (.iadd, 1) := by decide +kernel
theorem dX1_goBy_54 : decode cX1_goBy 54 = .ok (.iastore, 1) := by decide +kernel
theorem dX1_goBy_55 : decode cX1_goBy 55 = .ok (.iinc 3 1, 3) := by decide +kernel
theorem dX1_goBy_58 : decode cX1_goBy 58 = .ok (.goto (-48), 3) := by decide +kernel
theorem dX1_goBy_61 : decode cX1_goBy 61 = .ok (.iconst 0, 1) := by decide +kernel
theorem dX1_goBy_62 : decode cX1_goBy 62 = .ok (.istore_n 3, 1) := by decide +kernel
theorem dX1_goBy_63 : decode cX1_goBy 63 = .ok (.iconst 0, 1) := by decide +kernel
theorem dX1_goBy_64 : decode cX1_goBy 64 = .ok (.istore 4, 2) := by decide +kernel
theorem dX1_goBy_66 : decode cX1_goBy 66 = .ok (.iload 4, 2) := by decide +kernel
theorem dX1_goBy_68 : decode cX1_goBy 68 = .ok (.aload_n 1, 1) := by decide +kernel
theorem dX1_goBy_69 : decode cX1_goBy 69 = .ok (.getfield 48, 3) := by decide +kernel
theorem dX1_goBy_72 : decode cX1_goBy 72 = .ok (.if_icmp .ge 19, 3) := by decide +kernel
theorem dX1_goBy_75 : decode cX1_goBy 75 = .ok (.iload_n 3, 1) := by decide +kernel
theorem dX1_goBy_76 : decode cX1_goBy 76 = .ok (.aload_n 0, 1) := by decide +kernel
theorem dX1_goBy_77 : decode cX1_goBy 77 = .ok (.aload_n 1, 1) := by decide +kernel
theorem dX1_goBy_78 : decode cX1_goBy 78 = .ok (.iload 4, 2) := by decide +kernel
theorem dX1_goBy_80 : decode cX1_goBy 80 = .ok (.invokevirtual 63, 3) := by decide +kernel
theorem dX1_goBy_83 : decode cX1_goBy 83 = .ok (.iadd, 1) := by decide +kernel
theorem dX1_goBy_84 : decode cX1_goBy 84 = .ok (.istore_n 3, 1) := by decide +kernel
theorem dX1_goBy_85 : decode cX1_goBy 85 = .ok (.iinc 4 1, 3) := by decide +kernel
theorem dX1_goBy_88 : decode cX1_goBy 88 = .ok (.goto (-22), 3) := by decide +kernel
theorem dX1_goBy_91 : decode cX1_goBy 91 = .ok (.iconst 0, 1) := by decide +kernel
theorem dX1_goBy_92 : decode cX1_goBy 92 = .ok (.istore 4, 2) := by decide +kernel
theorem dX1_goBy_94 : decode cX1_goBy 94 = .ok (.iload 4, 2) := by decide +kernel
theorem dX1_goBy_96 : decode cX1_goBy 96 = .ok (.aload_n 1, 1) := by decide +kernel
theorem dX1_goBy_97 : decode cX1_goBy 97 = .ok (.getfield 48, 3) := by decide +kernel
theorem dX1_goBy_100 : decode cX1_goBy 100 = .ok (.if_icmp .ge 23, 3) := by decide +kernel
theorem dX1_goBy_103 : decode cX1_goBy 103 = .ok (.aload_n 0, 1) := by decide +kernel
theorem dX1_goBy_104 : decode cX1_goBy 104 = .ok (.getfield 9, 3) := by decide +kernel
theorem dX1_goBy_107 : decode cX1_goBy 107 = .ok (.iload 4, 2) := by decide +kernel
theorem dX1_goBy_109 : decode cX1_goBy 109 = .ok (.aload_n 0, 1) := by decide +kernel
theorem dX1_goBy_110 : decode cX1_goBy 110 = .ok (.getfield 15, 3) := by decide +kernel
theorem dX1_goBy_113 : decode cX1_goBy 113 = .ok (.iload 4, 2) := by decide +kernel
theorem dX1_goBy_115 : decode cX1_goBy 115 = .ok (.iaload, 1) := by decide +kernel
theorem dX1_goBy_116 : decode cX1_goBy 116 = .ok (.iastore, 1) := by decide +kernel
theorem dX1_goBy_117 : decode cX1_goBy 117 = .ok (.iinc 4 1, 3) := by decide +kernel
theorem dX1_goBy_120 : decode cX1_goBy 120 = .ok (.goto (-26), 3) := by decide +kernel
theorem dX1_goBy_123 : decode cX1_goBy 123 = .ok (.aload_n 0, 1) := by decide +kernel
theorem dX1_goBy_124 : decode cX1_goBy 124 = .ok (.dup, 1) := by decide +kernel
theorem dX1_goBy_125 : decode cX1_goBy 125 = .ok (.getfield 21, 3) := by decide +kernel
theorem dX1_goBy_128 : decode cX1_goBy 128 = .ok (.iconst 1, 1) := by decide +kernel
theorem dX1_goBy_129 : decode cX1_goBy 129 = .ok (.iadd, 1) := by decide +kernel
theorem dX1_goBy_130 : decode cX1_goBy 130 = .ok (.putfield 21, 3) := by decide +kernel
theorem dX1_goBy_133 : decode cX1_goBy 133 = .ok (.aload_n 0, 1) := by decide +kernel
theorem dX1_goBy_134 : decode cX1_goBy 134 = .ok (.dup, 1) := by decide +kernel
theorem dX1_goBy_135 : decode cX1_goBy 135 = .ok (.getfield 31, 3) := by decide +kernel
theorem dX1_goBy_138 : decode cX1_goBy 138 = .ok (.iload_n 3, 1) := by decide +kernel
theorem dX1_goBy_139 : decode cX1_goBy 139 = .ok (.iadd, 1) := by decide +kernel
theorem dX1_goBy_140 : decode cX1_goBy 140 = .ok (.putfield 31, 3) := by decide +kernel
theorem dX1_goBy_143 : decode cX1_goBy 143 = .ok (.iload_n 3, 1) := by decide +kernel
theorem dX1_goBy_144 : decode cX1_goBy 144 = .ok (.ireturn, 1) := by decide +kernel
set_option maxRecDepth 20000 in
theorem ggX1_giveOff_X7_bit : GoodIn wsX1_giveOff wsX7_bit := goodIn_r _ [10] (by decide +kernel) (by decide +kernel)
set_option maxRecDepth 20000 in
theorem gX1_giveOff_X7_bit_n53 : GoodIn wsX1_giveOff (wsX7_bit) := ggX1_giveOff_X7_bit
theorem dX1_giveOff_0 : decode cX1_giveOff 0 = .ok (.aload_n 0, 1) := by decide +kernel
theorem dX1_giveOff_1 : decode cX1_giveOff 1 = .ok (.getfield 25, 3) := by decide +kernel
theorem dX1_giveOff_4 : decode cX1_giveOff 4 = .ok (.iload_n 2, 1) := by decide +kernel
theorem dX1_giveOff_5 : decode cX1_giveOff 5 = .ok (.invokestatic 53, 3) := by decide +kernel
theorem dX1_giveOff_8 : decode cX1_giveOff 8 = .ok (.iconst 1, 1) := by decide +kernel
theorem dX1_giveOff_9 : decode cX1_giveOff 9 = .ok (.if_icmp .ne 7, 3) := by decide +kernel
theorem dX1_giveOff_12 : decode cX1_giveOff 12 = .ok (.iconst 0, 1) := by decide +kernel
theorem dX1_giveOff_13 : decode cX1_giveOff 13 = .ok (.goto 19, 3) := by decide +kernel
theorem dX1_giveOff_16 : decode cX1_giveOff 16 = .ok (.aload_n 0, 1) := by decide +kernel
theorem dX1_giveOff_17 : decode cX1_giveOff 17 = .ok (.getfield 9, 3) := by decide +kernel
theorem dX1_giveOff_20 : decode cX1_giveOff 20 = .ok (.iload_n 2, 1) := by decide +kernel
theorem dX1_giveOff_21 : decode cX1_giveOff 21 = .ok (.iaload, 1) := by decide +kernel
theorem dX1_giveOff_22 : decode cX1_giveOff 22 = .ok (.aload_n 1, 1) := by decide +kernel
theorem dX1_giveOff_23 : decode cX1_giveOff 23 = .ok (.getfield 67, 3) := by decide +kernel
theorem dX1_giveOff_26 : decode cX1_giveOff 26 = .ok (.iload_n 2, 1) := by decide +kernel
theorem dX1_giveOff_27 : decode cX1_giveOff 27 = .ok (.iaload, 1) := by decide +kernel
theorem dX1_giveOff_28 : decode cX1_giveOff 28 = .ok (.imul, 1) := by decide +kernel
theorem dX1_giveOff_29 : decode cX1_giveOff 29 = .ok (.bipush 10, 2) := by decide +kernel
theorem dX1_giveOff_31 : decode cX1_giveOff 31 = .ok (.idiv, 1) := by decide +kernel
theorem dX1_giveOff_32 : decode cX1_giveOff 32 = .ok (.istore_n 3, 1) := by decide +kernel
theorem dX1_giveOff_33 : decode cX1_giveOff 33 = .ok (.iload_n 3, 1) := by decide +kernel
theorem dX1_giveOff_34 : decode cX1_giveOff 34 = .ok (.ifCond .ne 5, 3) := by decide +kernel
theorem dX1_giveOff_37 : decode cX1_giveOff 37 = .ok (.iconst 0, 1) := by decide +kernel
theorem dX1_giveOff_38 : decode cX1_giveOff 38 = .ok (.ireturn, 1) := by decide +kernel
theorem dX1_giveOff_39 : decode cX1_giveOff 39 = .ok (.aload_n 0, 1) := by decide +kernel
theorem dX1_giveOff_40 : decode cX1_giveOff 40 = .ok (.getfield 15, 3) := by decide +kernel
theorem dX1_giveOff_43 : decode cX1_giveOff 43 = .ok (.iload_n 2, 1) := by decide +kernel
theorem dX1_giveOff_44 : decode cX1_giveOff 44 = .ok (.dup2, 1) := by decide +kernel
theorem dX1_giveOff_45 : decode cX1_giveOff 45 = .ok (.iaload, 1) := by decide +kernel
theorem dX1_giveOff_46 : decode cX1_giveOff 46 = .ok (.iload_n 3, 1) := by decide +kernel
theorem dX1_giveOff_47 : decode cX1_giveOff 47 = .ok (.isub, 1) := by decide +kernel
theorem dX1_giveOff_48 : decode cX1_giveOff 48 = .ok (.iastore, 1) := by decide +kernel
theorem dX1_giveOff_49 : decode cX1_giveOff 49 = .ok (.iload_n 3, 1) := by decide +kernel
theorem dX1_giveOff_50 : decode cX1_giveOff 50 = .ok (.istore 4, 2) := by decide +kernel
theorem dX1_giveOff_52 : decode cX1_giveOff 52 = .ok (.iconst 0, 1) := by decide +kernel
theorem dX1_giveOff_53 : decode cX1_giveOff 53 = .ok (.istore 5, 2) := by decide +kernel
theorem dX1_giveOff_55 : decode cX1_giveOff 55 = .ok (.iload 5, 2) := by decide +kernel
theorem dX1_giveOff_57 : decode cX1_giveOff 57 = .ok (.aload_n 1, 1) := by decide +kernel
theorem dX1_giveOff_58 : decode cX1_giveOff 58 = .ok (.getfield 48, 3) := by decide +kernel
theorem dX1_giveOff_61 : decode cX1_giveOff 61 = .ok (.if_icmp .ge 101, 3) := by decide +kernel
theorem dX1_giveOff_64 : decode cX1_giveOff 64 = .ok (.iload_n 3, 1) := by decide +kernel
theorem dX1_giveOff_65 : decode cX1_giveOff 65 = .ok (.aload_n 1, 1) := by decide +kernel
theorem dX1_giveOff_66 : decode cX1_giveOff 66 = .ok (.getfield 70, 3) := by decide +kernel
theorem dX1_giveOff_69 : decode cX1_giveOff 69 = .ok (.iload_n 2, 1) := by decide +kernel
theorem dX1_giveOff_70 : decode cX1_giveOff 70 = .ok (.bipush 6, 2) := by decide +kernel
theorem dX1_giveOff_72 : decode cX1_giveOff 72 = .ok (.imul, 1) := by decide +kernel
theorem dX1_giveOff_73 : decode cX1_giveOff 73 = .ok (.iload 5, 2) := by decide +kernel
theorem dX1_giveOff_75 : decode cX1_giveOff 75 = .ok (.iadd, 1) := by decide +kernel
theorem dX1_giveOff_76 : decode cX1_giveOff 76 = .ok (.iaload, 1) := by decide +kernel
theorem dX1_giveOff_77 : decode cX1_giveOff 77 = .ok (.imul, 1) := by decide +kernel
theorem dX1_giveOff_78 : decode cX1_giveOff 78 = .ok (.bipush 10, 2) := by decide +kernel
theorem dX1_giveOff_80 : decode cX1_giveOff 80 = .ok (.idiv, 1) := by decide +kernel
theorem dX1_giveOff_81 : decode cX1_giveOff 81 = .ok (.istore 6, 2) := by decide +kernel
theorem dX1_giveOff_83 : decode cX1_giveOff 83 = .ok (.iload 6, 2) := by decide +kernel
theorem dX1_giveOff_85 : decode cX1_giveOff 85 = .ok (.ifCond .ne 6, 3) := by decide +kernel
theorem dX1_giveOff_88 : decode cX1_giveOff 88 = .ok (.goto 68, 3) := by decide +kernel
theorem dX1_giveOff_91 : decode cX1_giveOff 91 = .ok (.aload_n 0, 1) := by decide +kernel
theorem dX1_giveOff_92 : decode cX1_giveOff 92 = .ok (.getfield 28, 3) := by decide +kernel
theorem dX1_giveOff_95 : decode cX1_giveOff 95 = .ok (.iload 5, 2) := by decide +kernel
theorem dX1_giveOff_97 : decode cX1_giveOff 97 = .ok (.invokestatic 53, 3) := by decide +kernel
theorem dX1_giveOff_100 : decode cX1_giveOff 100 = .ok (.iconst 1, 1) := by decide +kernel
theorem dX1_giveOff_101 : decode cX1_giveOff 101 = .ok (.if_icmp .ne 24, 3) := by decide +kernel
theorem dX1_giveOff_104 : decode cX1_giveOff 104 = .ok (.aload_n 0, 1) := by decide +kernel
theorem dX1_giveOff_105 : decode cX1_giveOff 105 = .ok (.getfield 15, 3) := by decide +kernel
theorem dX1_giveOff_108 : decode cX1_giveOff 108 = .ok (.iload_n 2, 1) := by decide +kernel
theorem dX1_giveOff_109 : decode cX1_giveOff 109 = .ok (.dup2, 1) := by decide +kernel
theorem dX1_giveOff_110 : decode cX1_giveOff 110 = .ok (.iaload, 1) := by decide +kernel
theorem dX1_giveOff_111 : decode cX1_giveOff 111 = .ok (.iload 6, 2) := by decide +kernel
theorem dX1_giveOff_113 : decode cX1_giveOff 113 = .ok (.iadd, 1) := by decide +kernel
theorem dX1_giveOff_114 : decode cX1_giveOff 114 = .ok (.iastore, 1) := by decide +kernel
theorem dX1_giveOff_115 : decode cX1_giveOff 115 = .ok (.iload 4, 2) := by decide +kernel
theorem dX1_giveOff_117 : decode cX1_giveOff 117 = .ok (.iload 6, 2) := by decide +kernel
theorem dX1_giveOff_119 : decode cX1_giveOff 119 = .ok (.isub, 1) := by decide +kernel
theorem dX1_giveOff_120 : decode cX1_giveOff 120 = .ok (.istore 4, 2) := by decide +kernel
theorem dX1_giveOff_122 : decode cX1_giveOff 122 = .ok (.goto 34, 3) := by decide +kernel
theorem dX1_giveOff_125 : decode cX1_giveOff 125 = .ok (.aload_n 0, 1) := by decide +kernel
theorem dX1_giveOff_126 : decode cX1_giveOff 126 = .ok (.getfield 25, 3) := by decide +kernel
theorem dX1_giveOff_129 : decode cX1_giveOff 129 = .ok (.iload 5, 2) := by decide +kernel
theorem dX1_giveOff_131 : decode cX1_giveOff 131 = .ok (.invokestatic 53, 3) := by decide +kernel
theorem dX1_giveOff_134 : decode cX1_giveOff 134 = .ok (.ifCond .ne 22, 3) := by decide +kernel
theorem dX1_giveOff_137 : decode cX1_giveOff 137 = .ok (.aload_n 0, 1) := by decide +kernel
theorem dX1_giveOff_138 : decode cX1_giveOff 138 = .ok (.getfield 15, 3) := by decide +kernel
theorem dX1_giveOff_141 : decode cX1_giveOff 141 = .ok (.iload 5, 2) := by decide +kernel
theorem dX1_giveOff_143 : decode cX1_giveOff 143 = .ok (.dup2, 1) := by decide +kernel
theorem dX1_giveOff_144 : decode cX1_giveOff 144 = .ok (.iaload, 1) := by decide +kernel
theorem dX1_giveOff_145 : decode cX1_giveOff 145 = .ok (.iload 6, 2) := by decide +kernel
theorem dX1_giveOff_147 : decode cX1_giveOff 147 = .ok (.iadd, 1) := by decide +kernel
theorem dX1_giveOff_148 : decode cX1_giveOff 148 = .ok (.iastore, 1) := by decide +kernel
theorem dX1_giveOff_149 : decode cX1_giveOff 149 = .ok (.iload 4, 2) := by decide +kernel
theorem dX1_giveOff_151 : decode cX1_giveOff 151 = .ok (.iload 6, 2) := by decide +kernel
theorem dX1_giveOff_153 : decode cX1_giveOff 153 = .ok (.isub, 1) := by decide +kernel
theorem dX1_giveOff_154 : decode cX1_giveOff 154 = .ok (.istore 4, 2) := by decide +kernel
theorem dX1_giveOff_156 : decode cX1_giveOff 156 = .ok (.iinc 5 1, 3) := by decide +kernel
theorem dX1_giveOff_159 : decode cX1_giveOff 159 = .ok (.goto (-104), 3) := by decide +kernel
theorem dX1_giveOff_162 : decode cX1_giveOff 162 = .ok (.iload 4, 2) := by decide +kernel
theorem dX1_giveOff_164 : decode cX1_giveOff 164 = .ok (.ireturn, 1) := by decide +kernel
theorem dX1_warmthOfAll_0 : decode cX1_warmthOfAll 0 = .ok (.iconst 0, 1) := by decide +kernel
theorem dX1_warmthOfAll_1 : decode cX1_warmthOfAll 1 = .ok (.istore_n 2, 1) := by decide +kernel
theorem dX1_warmthOfAll_2 : decode cX1_warmthOfAll 2 = .ok (.iconst 0, 1) := by decide +kernel
theorem dX1_warmthOfAll_3 : decode cX1_warmthOfAll 3 = .ok (.istore_n 3, 1) := by decide +kernel
theorem dX1_warmthOfAll_4 : decode cX1_warmthOfAll 4 = .ok (.iload_n 3, 1) := by decide +kernel
theorem dX1_warmthOfAll_5 : decode cX1_warmthOfAll 5 = .ok (.iload_n 1, 1) := by decide +kernel
theorem dX1_warmthOfAll_6 : decode cX1_warmthOfAll 6 = .ok (.if_icmp .ge 24, 3) := by decide +kernel
theorem dX1_warmthOfAll_9 : decode cX1_warmthOfAll 9 = .ok (.iload_n 3, 1) := by decide +kernel
theorem dX1_warmthOfAll_10 : decode cX1_warmthOfAll 10 = .ok (.bipush 6, 2) := by decide +kernel
theorem dX1_warmthOfAll_12 : decode cX1_warmthOfAll 12 = .ok (.if_icmp .ge 18, 3) := by decide +kernel
theorem dX1_warmthOfAll_15 : decode cX1_warmthOfAll 15 = .ok (.iload_n 2, 1) := by decide +kernel
theorem dX1_warmthOfAll_16 : decode cX1_warmthOfAll 16 = .ok (.aload_n 0, 1) := by decide +kernel
theorem dX1_warmthOfAll_17 : decode cX1_warmthOfAll 17 = .ok (.getfield 9, 3) := by decide +kernel
theorem dX1_warmthOfAll_20 : decode cX1_warmthOfAll 20 = .ok (.iload_n 3, 1) := by decide +kernel
theorem dX1_warmthOfAll_21 : decode cX1_warmthOfAll 21 = .ok (.iaload, 1) := by decide +kernel
theorem dX1_warmthOfAll_22 : decode cX1_warmthOfAll 22 = .ok (.iadd, 1) := by decide +kernel
theorem dX1_warmthOfAll_23 : decode cX1_warmthOfAll 23 = .ok (.istore_n 2, 1) := by decide +kernel
theorem dX1_warmthOfAll_24 : decode cX1_warmthOfAll 24 = .ok (.iinc 3 1, 3) := by decide +kernel
theorem dX1_warmthOfAll_27 : decode cX1_warmthOfAll 27 = .ok (.goto (-23), 3) := by decide +kernel
theorem dX1_warmthOfAll_30 : decode cX1_warmthOfAll 30 = .ok (.iload_n 2, 1) := by decide +kernel
theorem dX1_warmthOfAll_31 : decode cX1_warmthOfAll 31 = .ok (.ireturn, 1) := by decide +kernel
theorem dX1_tooWarm_0 : decode cX1_tooWarm 0 = .ok (.iconst 0, 1) := by decide +kernel
theorem dX1_tooWarm_1 : decode cX1_tooWarm 1 = .ok (.istore_n 2, 1) := by decide +kernel
theorem dX1_tooWarm_2 : decode cX1_tooWarm 2 = .ok (.iconst 0, 1) := by decide +kernel
theorem dX1_tooWarm_3 : decode cX1_tooWarm 3 = .ok (.istore_n 3, 1) := by decide +kernel
theorem dX1_tooWarm_4 : decode cX1_tooWarm 4 = .ok (.iload_n 3, 1) := by decide +kernel
theorem dX1_tooWarm_5 : decode cX1_tooWarm 5 = .ok (.aload_n 1, 1) := by decide +kernel
theorem dX1_tooWarm_6 : decode cX1_tooWarm 6 = .ok (.getfield 48, 3) := by decide +kernel
theorem dX1_tooWarm_9 : decode cX1_tooWarm 9 = .ok (.if_icmp .ge 28, 3) := by decide +kernel
theorem dX1_tooWarm_12 : decode cX1_tooWarm 12 = .ok (.aload_n 0, 1) := by decide +kernel
theorem dX1_tooWarm_13 : decode cX1_tooWarm 13 = .ok (.getfield 9, 3) := by decide +kernel
theorem dX1_tooWarm_16 : decode cX1_tooWarm 16 = .ok (.iload_n 3, 1) := by decide +kernel
theorem dX1_tooWarm_17 : decode cX1_tooWarm 17 = .ok (.iaload, 1) := by decide +kernel
theorem dX1_tooWarm_18 : decode cX1_tooWarm 18 = .ok (.aload_n 1, 1) := by decide +kernel
theorem dX1_tooWarm_19 : decode cX1_tooWarm 19 = .ok (.getfield 73, 3) := by decide +kernel
theorem dX1_tooWarm_22 : decode cX1_tooWarm 22 = .ok (.if_icmp .le 9, 3) := by decide +kernel
theorem dX1_tooWarm_25 : decode cX1_tooWarm 25 = .ok (.iload_n 2, 1) := by decide +kernel
theorem dX1_tooWarm_26 : decode cX1_tooWarm 26 = .ok (.iconst 1, 1) := by decide +kernel
theorem dX1_tooWarm_27 : decode cX1_tooWarm 27 = .ok (.iload_n 3, 1) := by decide +kernel
theorem dX1_tooWarm_28 : decode cX1_tooWarm 28 = .ok (.ishl, 1) := by decide +kernel
theorem dX1_tooWarm_29 : decode cX1_tooWarm 29 = .ok (.ior, 1) := by decide +kernel
theorem dX1_tooWarm_30 : decode cX1_tooWarm 30 = .ok (.istore_n 2, 1) := by decide +kernel
theorem dX1_tooWarm_31 : decode cX1_tooWarm 31 = .ok (.iinc 3 1, 3) := by decide +kernel
theorem dX1_tooWarm_34 : decode cX1_tooWarm 34 = .ok (.goto (-30), 3) := by decide +kernel
theorem dX1_tooWarm_37 : decode cX1_tooWarm 37 = .ok (.iload_n 2, 1) := by decide +kernel
theorem dX1_tooWarm_38 : decode cX1_tooWarm 38 = .ok (.ireturn, 1) := by decide +kernel
theorem dX1_warmest_0 : decode cX1_warmest 0 = .ok (.bipush (-9), 2) := by decide +kernel
theorem dX1_warmest_2 : decode cX1_warmest 2 = .ok (.istore_n 2, 1) := by decide +kernel
theorem dX1_warmest_3 : decode cX1_warmest 3 = .ok (.iconst 0, 1) := by decide +kernel
theorem dX1_warmest_4 : decode cX1_warmest 4 = .ok (.istore_n 3, 1) := by decide +kernel
theorem dX1_warmest_5 : decode cX1_warmest 5 = .ok (.iload_n 3, 1) := by decide +kernel
theorem dX1_warmest_6 : decode cX1_warmest 6 = .ok (.iload_n 1, 1) := by decide +kernel
theorem dX1_warmest_7 : decode cX1_warmest 7 = .ok (.if_icmp .ge 38, 3) := by decide +kernel
theorem dX1_warmest_10 : decode cX1_warmest 10 = .ok (.iload_n 3, 1) := by decide +kernel
theorem dX1_warmest_11 : decode cX1_warmest 11 = .ok (.bipush 6, 2) := by decide +kernel
theorem dX1_warmest_13 : decode cX1_warmest 13 = .ok (.if_icmp .ge 32, 3) := by decide +kernel
theorem dX1_warmest_16 : decode cX1_warmest 16 = .ok (.iload_n 2, 1) := by decide +kernel
theorem dX1_warmest_17 : decode cX1_warmest 17 = .ok (.bipush (-9), 2) := by decide +kernel
theorem dX1_warmest_19 : decode cX1_warmest 19 = .ok (.if_icmp .eq 18, 3) := by decide +kernel
theorem dX1_warmest_22 : decode cX1_warmest 22 = .ok (.aload_n 0, 1) := by decide +kernel
theorem dX1_warmest_23 : decode cX1_warmest 23 = .ok (.getfield 9, 3) := by decide +kernel
theorem dX1_warmest_26 : decode cX1_warmest 26 = .ok (.iload_n 3, 1) := by decide +kernel
theorem dX1_warmest_27 : decode cX1_warmest 27 = .ok (.iaload, 1) := by decide +kernel
theorem dX1_warmest_28 : decode cX1_warmest 28 = .ok (.aload_n 0, 1) := by decide +kernel
theorem dX1_warmest_29 : decode cX1_warmest 29 = .ok (.getfield 9, 3) := by decide +kernel
theorem dX1_warmest_32 : decode cX1_warmest 32 = .ok (.iload_n 2, 1) := by decide +kernel
theorem dX1_warmest_33 : decode cX1_warmest 33 = .ok (.iaload, 1) := by decide +kernel
theorem dX1_warmest_34 : decode cX1_warmest 34 = .ok (.if_icmp .le 5, 3) := by decide +kernel
theorem dX1_warmest_37 : decode cX1_warmest 37 = .ok (.iload_n 3, 1) := by decide +kernel
theorem dX1_warmest_38 : decode cX1_warmest 38 = .ok (.istore_n 2, 1) := by decide +kernel
theorem dX1_warmest_39 : decode cX1_warmest 39 = .ok (.iinc 3 1, 3) := by decide +kernel
theorem dX1_warmest_42 : decode cX1_warmest 42 = .ok (.goto (-37), 3) := by decide +kernel
theorem dX1_warmest_45 : decode cX1_warmest 45 = .ok (.iload_n 2, 1) := by decide +kernel
theorem dX1_warmest_46 : decode cX1_warmest 46 = .ok (.ireturn, 1) := by decide +kernel
theorem dX1_warmthOfWarmest_0 : decode cX1_warmthOfWarmest 0 = .ok (.iconst 0, 1) := by decide +kernel
theorem dX1_warmthOfWarmest_1 : decode cX1_warmthOfWarmest 1 = .ok (.istore_n 2, 1) := by decide +kernel
theorem dX1_warmthOfWarmest_2 : decode cX1_warmthOfWarmest 2 = .ok (.iconst 0, 1) := by decide +kernel
theorem dX1_warmthOfWarmest_3 : decode cX1_warmthOfWarmest 3 = .ok (.istore_n 3, 1) := by decide +kernel
theorem dX1_warmthOfWarmest_4 : decode cX1_warmthOfWarmest 4 = .ok (.iload_n 3, 1) := by decide +kernel
theorem dX1_warmthOfWarmest_5 : decode cX1_warmthOfWarmest 5 = .ok (.iload_n 1, 1) := by decide +kernel
theorem dX1_warmthOfWarmest_6 : decode cX1_warmthOfWarmest 6 = .ok (.if_icmp .ge 26, 3) := by decide +kernel
theorem dX1_warmthOfWarmest_9 : decode cX1_warmthOfWarmest 9 = .ok (.iload_n 3, 1) := by decide +kernel
theorem dX1_warmthOfWarmest_10 : decode cX1_warmthOfWarmest 10 = .ok (.bipush 6, 2) := by decide +kernel
theorem dX1_warmthOfWarmest_12 : decode cX1_warmthOfWarmest 12 = .ok (.if_icmp .ge 20, 3) := by decide +kernel
theorem dX1_warmthOfWarmest_15 : decode cX1_warmthOfWarmest 15 = .ok (.iload_n 2, 1) := by decide +kernel
theorem dX1_warmthOfWarmest_16 : decode cX1_warmthOfWarmest 16 = .ok (.aload_n 0, 1) := by decide +kernel
theorem dX1_warmthOfWarmest_17 : decode cX1_warmthOfWarmest 17 = .ok (.getfield 9, 3) := by decide +kernel
theorem dX1_warmthOfWarmest_20 : decode cX1_warmthOfWarmest 20 = .ok (.iload_n 3, 1) := by decide +kernel
theorem dX1_warmthOfWarmest_21 : decode cX1_warmthOfWarmest 21 = .ok (.iaload, 1) := by decide +kernel
theorem dX1_warmthOfWarmest_22 : decode cX1_warmthOfWarmest 22 = .ok (.invokestatic 76, 3) := by decide +kernel
theorem dX1_warmthOfWarmest_25 : decode cX1_warmthOfWarmest 25 = .ok (.istore_n 2, 1) := by decide +kernel
theorem dX1_warmthOfWarmest_26 : decode cX1_warmthOfWarmest 26 = .ok (.iinc 3 1, 3) := by decide +kernel
theorem dX1_warmthOfWarmest_29 : decode cX1_warmthOfWarmest 29 = .ok (.goto (-25), 3) := by decide +kernel
theorem dX1_warmthOfWarmest_32 : decode cX1_warmthOfWarmest 32 = .ok (.iload_n 2, 1) := by decide +kernel
theorem dX1_warmthOfWarmest_33 : decode cX1_warmthOfWarmest 33 = .ok (.ireturn, 1) := by decide +kernel
set_option maxRecDepth 20000 in
theorem ggX2_init_X5_init : GoodIn wsX2_init wsX5_init := goodIn_r _ [9, 10, 2, 3, 11, 12, 13, 14, 15, 16, 17, 18] (by decide +kernel) (by decide +kernel)
set_option maxRecDepth 20000 in
theorem gX2_init_X5_init_n11 : GoodIn wsX2_init (wsX5_init) := ggX2_init_X5_init
theorem dX2_init_0 : decode cX2_init 0 = .ok (.aload_n 0, 1) := by decide +kernel
theorem dX2_init_1 : decode cX2_init 1 = .ok (.invokespecial 3, 3) := by decide +kernel
theorem dX2_init_4 : decode cX2_init 4 = .ok (.aload_n 0, 1) := by decide +kernel
theorem dX2_init_5 : decode cX2_init 5 = .ok (.new 9, 3) := by decide +kernel
theorem dX2_init_8 : decode cX2_init 8 = .ok (.dup, 1) := by decide +kernel
theorem dX2_init_9 : decode cX2_init 9 = .ok (.invokespecial 11, 3) := by decide +kernel
theorem dX2_init_12 : decode cX2_init 12 = .ok (.putfield 12, 3) := by decide +kernel
theorem dX2_init_15 : decode cX2_init 15 = .ok (.return_, 1) := by decide +kernel
set_option maxRecDepth 20000 in
theorem ggX2_readInto_X5_cut : GoodIn wsX2_readInto wsX5_cut := goodIn_r _ [10, 11, 12, 13, 14, 15, 9, 16, 17, 18, 19, 20, 21, 22, 23, 24, 25, 26, 27, 28, 29, 30, 31, 32, 33, 34, 35, 36, 37, 38, 39, 40, 41, 42, 43, 44, 45, 46, 47, 48, 49, 50, 51, 52, 53, 54, 55, 56, 57, 58, 59, 60, 61, 62, 63, 64, 65, 66, 67, 68, 69, 70, 71, 72, 73, 74, 75, 76, 77, 78, 79, 80, 81, 82, 83, 84, 85, 86, 87, 88, 89, 90, 91, 92, 93, 94, 95, 96, 97, 98, 99, 100, 101, 102, 103, 104, 192, 193, 194, 195, 196, 197] (by decide +kernel) (by decide +kernel)
set_option maxRecDepth 20000 in
theorem gX2_readInto_X5_cut : GoodIn wsX2_readInto (wsV RX2 18 RX5 yX5_cut wsX5_cut) := goodIn_app (goodIn_of _ (by decide +kernel)) ggX2_readInto_X5_cut
set_option maxRecDepth 20000 in
theorem ggX2_readInto_X6_makeEmpty : GoodIn wsX2_readInto wsX6_makeEmpty := goodIn_r _ [109, 110, 111, 112, 113, 114, 115, 116, 117, 118, 119, 120, 108, 121, 122, 198, 199, 200, 201, 202, 203, 204, 205, 206] (by decide +kernel) (by decide +kernel)
set_option maxRecDepth 20000 in
theorem gX2_readInto_X6_makeEmpty : GoodIn wsX2_readInto (wsV RX2 22 RX6 yX6_makeEmpty wsX6_makeEmpty) := goodIn_app (goodIn_of _ (by decide +kernel)) ggX2_readInto_X6_makeEmpty
set_option maxRecDepth 20000 in
theorem ggX2_readInto_X2_readToken : GoodIn wsX2_readInto wsX2_readToken := goodIn_r _ [127, 2, 1, 128, 129, 5, 130, 4, 131, 132, 186, 187, 188, 189, 190, 191, 192, 193, 194, 195] (by decide +kernel) (by decide +kernel)
set_option maxRecDepth 20000 in
theorem gX2_readInto_X2_readToken : GoodIn wsX2_readInto (wsV RX2 35 RX2 yX2_readToken wsX2_readToken) := goodIn_app (goodIn_of _ (by decide +kernel)) ggX2_readInto_X2_readToken
set_option maxRecDepth 20000 in
theorem ggX2_readInto_X2_readItem : GoodIn wsX2_readInto wsX2_readItem := goodIn_r _ [136, 4, 132, 137, 138, 139, 126, 140, 141, 142, 143, 108, 144, 110, 145, 146, 147, 148, 123, 124, 125, 127, 2, 1, 128, 129, 5, 130, 131, 149, 150, 151, 152, 153, 154, 155, 156, 111, 112, 157, 158, 159, 160, 161, 162, 163, 164, 165, 166, 115, 167, 168, 169, 170, 171, 172, 173, 174, 117, 175, 176, 177, 178, 179, 180, 181, 182, 183, 184, 3, 185, 119, 120, 121, 122, 186, 187, 188, 189, 190, 191, 198, 199, 200, 201, 202, 203, 204, 205, 206, 192, 193, 194, 195] (by decide +kernel) (by decide +kernel)
set_option maxRecDepth 20000 in
theorem gX2_readInto_X2_readItem : GoodIn wsX2_readInto (wsV RX2 41 RX2 yX2_readItem wsX2_readItem) := goodIn_app (goodIn_of _ (by decide +kernel)) ggX2_readInto_X2_readItem
theorem dX2_readInto_0 : decode cX2_readInto 0 = .ok (.aload_n 0, 1) := by decide +kernel
theorem dX2_readInto_1 : decode cX2_readInto 1 = .ok (.getfield 12, 3) := by decide +kernel
theorem dX2_readInto_4 : decode cX2_readInto 4 = .ok (.aload_n 2, 1) := by decide +kernel
theorem dX2_readInto_5 : decode cX2_readInto 5 = .ok (.invokevirtual 18, 3) := by decide +kernel
theorem dX2_readInto_8 : decode cX2_readInto 8 = .ok (.aload_n 1, 1) := by decide +kernel
theorem dX2_readInto_9 : decode cX2_readInto 9 = .ok (.invokevirtual 22, 3) := by decide +kernel
theorem dX2_readInto_12 : decode cX2_readInto 12 = .ok (.aload_n 0, 1) := by decide +kernel
theorem dX2_readInto_13 : decode cX2_readInto 13 = .ok (.iconst 0, 1) := by decide +kernel
theorem dX2_readInto_14 : decode cX2_readInto 14 = .ok (.putfield 27, 3) := by decide +kernel
theorem dX2_readInto_17 : decode cX2_readInto 17 = .ok (.aload_n 0, 1) := by decide +kernel
theorem dX2_readInto_18 : decode cX2_readInto 18 = .ok (.iconst 0, 1) := by decide +kernel
theorem dX2_readInto_19 : decode cX2_readInto 19 = .ok (.putfield 31, 3) := by decide +kernel
theorem dX2_readInto_22 : decode cX2_readInto 22 = .ok (.iconst 0, 1) := by decide +kernel
theorem dX2_readInto_23 : decode cX2_readInto 23 = .ok (.istore_n 3, 1) := by decide +kernel
theorem dX2_readInto_24 : decode cX2_readInto 24 = .ok (.aload_n 0, 1) := by decide +kernel
theorem dX2_readInto_25 : decode cX2_readInto 25 = .ok (.invokevirtual 35, 3) := by decide +kernel
theorem dX2_readInto_28 : decode cX2_readInto 28 = .ok (.aload_n 0, 1) := by decide +kernel
theorem dX2_readInto_29 : decode cX2_readInto 29 = .ok (.getfield 38, 3) := by decide +kernel
theorem dX2_readInto_32 : decode cX2_readInto 32 = .ok (.ifCond .eq 36, 3) := by decide +kernel
theorem dX2_readInto_35 : decode cX2_readInto 35 = .ok (.iload_n 3, 1) := by decide +kernel
theorem dX2_readInto_36 : decode cX2_readInto 36 = .ok (.sipush 251, 3) := by decide +kernel
theorem dX2_readInto_39 : decode cX2_readInto 39 = .ok (.if_icmp .ge 29, 3) := by decide +kernel
theorem dX2_readInto_42 : decode cX2_readInto 42 = .ok (.aload_n 0, 1) := by decide +kernel
theorem dX2_readInto_43 : decode cX2_readInto 43 = .ok (.aload_n 1, 1) := by decide +kernel
theorem dX2_readInto_44 : decode cX2_readInto 44 = .ok (.invokevirtual 41, 3) := by decide +kernel
theorem dX2_readInto_47 : decode cX2_readInto 47 = .ok (.ifCond .ne 11, 3) := by decide +kernel
theorem dX2_readInto_50 : decode cX2_readInto 50 = .ok (.bipush (-10), 2) := by decide +kernel
theorem dX2_readInto_52 : decode cX2_readInto 52 = .ok (.aload_n 0, 1) := by decide +kernel
theorem dX2_readInto_53 : decode cX2_readInto 53 = .ok (.getfield 45, 3) := by decide +kernel
theorem dX2_readInto_56 : decode cX2_readInto 56 = .ok (.isub, 1) := by decide +kernel
theorem dX2_readInto_57 : decode cX2_readInto 57 = .ok (.ireturn, 1) := by decide +kernel
theorem dX2_readInto_58 : decode cX2_readInto 58 = .ok (.iinc 3 1, 3) := by decide +kernel
theorem dX2_readInto_61 : decode cX2_readInto 61 = .ok (.aload_n 0, 1) := by decide +kernel
theorem dX2_readInto_62 : decode cX2_readInto 62 = .ok (.invokevirtual 35, 3) := by decide +kernel
theorem dX2_readInto_65 : decode cX2_readInto 65 = .ok (.goto (-37), 3) := by decide +kernel
theorem dX2_readInto_68 : decode cX2_readInto 68 = .ok (.iload_n 3, 1) := by decide +kernel
theorem dX2_readInto_69 : decode cX2_readInto 69 = .ok (.ireturn, 1) := by decide +kernel
theorem dX2_readToken_0 : decode cX2_readToken 0 = .ok (.aload_n 0, 1) := by decide +kernel
theorem dX2_readToken_1 : decode cX2_readToken 1 = .ok (.getfield 27, 3) := by decide +kernel
theorem dX2_readToken_4 : decode cX2_readToken 4 = .ok (.aload_n 0, 1) := by decide +kernel
theorem dX2_readToken_5 : decode cX2_readToken 5 = .ok (.getfield 12, 3) := by decide +kernel
theorem dX2_readToken_8 : decode cX2_readToken 8 = .ok (.getfield 48, 3) := by decide +kernel
theorem dX2_readToken_11 : decode cX2_readToken 11 = .ok (.if_icmp .ge 61, 3) := by decide +kernel
theorem dX2_readToken_14 : decode cX2_readToken 14 = .ok (.aload_n 0, 1) := by decide +kernel
theorem dX2_readToken_15 : decode cX2_readToken 15 = .ok (.aload_n 0, 1) := by decide +kernel
theorem dX2_readToken_16 : decode cX2_readToken 16 = .ok (.getfield 12, 3) := by decide +kernel
theorem dX2_readToken_19 : decode cX2_readToken 19 = .ok (.getfield 51, 3) := by decide +kernel
theorem dX2_readToken_22 : decode cX2_readToken 22 = .ok (.aload_n 0, 1) := by decide +kernel
theorem dX2_readToken_23 : decode cX2_readToken 23 = .ok (.getfield 27, 3) := by decide +kernel
theorem dX2_readToken_26 : decode cX2_readToken 26 = .ok (.iaload, 1) := by decide +kernel
theorem dX2_readToken_27 : decode cX2_readToken 27 = .ok (.putfield 45, 3) := by decide +kernel
theorem dX2_readToken_30 : decode cX2_readToken 30 = .ok (.aload_n 0, 1) := by decide +kernel
theorem dX2_readToken_31 : decode cX2_readToken 31 = .ok (.aload_n 0, 1) := by decide +kernel
theorem dX2_readToken_32 : decode cX2_readToken 32 = .ok (.getfield 12, 3) := by decide +kernel
theorem dX2_readToken_35 : decode cX2_readToken 35 = .ok (.getfield 54, 3) := by decide +kernel
theorem dX2_readToken_38 : decode cX2_readToken 38 = .ok (.aload_n 0, 1) := by decide +kernel
theorem dX2_readToken_39 : decode cX2_readToken 39 = .ok (.getfield 27, 3) := by decide +kernel
theorem dX2_readToken_42 : decode cX2_readToken 42 = .ok (.iaload, 1) := by decide +kernel
theorem dX2_readToken_43 : decode cX2_readToken 43 = .ok (.putfield 38, 3) := by decide +kernel
theorem dX2_readToken_46 : decode cX2_readToken 46 = .ok (.aload_n 0, 1) := by decide +kernel
theorem dX2_readToken_47 : decode cX2_readToken 47 = .ok (.aload_n 0, 1) := by decide +kernel
theorem dX2_readToken_48 : decode cX2_readToken 48 = .ok (.getfield 12, 3) := by decide +kernel
theorem dX2_readToken_51 : decode cX2_readToken 51 = .ok (.getfield 56, 3) := by decide +kernel
theorem dX2_readToken_54 : decode cX2_readToken 54 = .ok (.aload_n 0, 1) := by decide +kernel
theorem dX2_readToken_55 : decode cX2_readToken 55 = .ok (.getfield 27, 3) := by decide +kernel
theorem dX2_readToken_58 : decode cX2_readToken 58 = .ok (.iaload, 1) := by decide +kernel
theorem dX2_readToken_59 : decode cX2_readToken 59 = .ok (.putfield 59, 3) := by decide +kernel
theorem dX2_readToken_62 : decode cX2_readToken 62 = .ok (.aload_n 0, 1) := by decide +kernel
theorem dX2_readToken_63 : decode cX2_readToken 63 = .ok (.dup, 1) := by decide +kernel
theorem dX2_readToken_64 : decode cX2_readToken 64 = .ok (.getfield 27, 3) := by decide +kernel
theorem dX2_readToken_67 : decode cX2_readToken 67 = .ok (.iconst 1, 1) := by decide +kernel
theorem dX2_readToken_68 : decode cX2_readToken 68 = .ok (.iadd, 1) := by decide +kernel
theorem dX2_readToken_69 : decode cX2_readToken 69 = .ok (.putfield 27, 3) := by decide +kernel
theorem dX2_readToken_72 : decode cX2_readToken 72 = .ok (.return_, 1) := by decide +kernel
set_option maxRecDepth 20000 in
theorem ggX2_readNumber_X2_readToken : GoodIn wsX2_readNumber wsX2_readToken := goodIn_r _ [7, 8, 9, 10, 11, 12, 13, 1, 14, 2, 15, 16, 17, 18, 19, 20, 21, 22, 23, 24] (by decide +kernel) (by decide +kernel)
set_option maxRecDepth 20000 in
theorem gX2_readNumber_X2_readToken : GoodIn wsX2_readNumber (wsV RX2 35 RX2 yX2_readToken wsX2_readToken) := goodIn_app (goodIn_of _ (by decide +kernel)) ggX2_readNumber_X2_readToken
theorem dX2_readNumber_0 : decode cX2_readNumber 0 = .ok (.aload_n 0, 1) := by decide +kernel
theorem dX2_readNumber_1 : decode cX2_readNumber 1 = .ok (.invokevirtual 35, 3) := by decide +kernel
theorem dX2_readNumber_4 : decode cX2_readNumber 4 = .ok (.aload_n 0, 1) := by decide +kernel
theorem dX2_readNumber_5 : decode cX2_readNumber 5 = .ok (.getfield 38, 3) := by decide +kernel
theorem dX2_readNumber_8 : decode cX2_readNumber 8 = .ok (.iconst 2, 1) := by decide +kernel
theorem dX2_readNumber_9 : decode cX2_readNumber 9 = .ok (.if_icmp .ne 23, 3) := by decide +kernel
theorem dX2_readNumber_12 : decode cX2_readNumber 12 = .ok (.aload_n 0, 1) := by decide +kernel
theorem dX2_readNumber_13 : decode cX2_readNumber 13 = .ok (.getfield 59, 3) := by decide +kernel
theorem dX2_readNumber_16 : decode cX2_readNumber 16 = .ok (.iload_n 1, 1) := by decide +kernel
theorem dX2_readNumber_17 : decode cX2_readNumber 17 = .ok (.if_icmp .lt 15, 3) := by decide +kernel
theorem dX2_readNumber_20 : decode cX2_readNumber 20 = .ok (.aload_n 0, 1) := by decide +kernel
theorem dX2_readNumber_21 : decode cX2_readNumber 21 = .ok (.getfield 59, 3) := by decide +kernel
theorem dX2_readNumber_24 : decode cX2_readNumber 24 = .ok (.iload_n 2, 1) := by decide +kernel
theorem dX2_readNumber_25 : decode cX2_readNumber 25 = .ok (.if_icmp .gt 7, 3) := by decide +kernel
theorem dX2_readNumber_28 : decode cX2_readNumber 28 = .ok (.iconst 1, 1) := by decide +kernel
theorem dX2_readNumber_29 : decode cX2_readNumber 29 = .ok (.goto 4, 3) := by decide +kernel
theorem dX2_readNumber_32 : decode cX2_readNumber 32 = .ok (.iconst 0, 1) := by decide +kernel
theorem dX2_readNumber_33 : decode cX2_readNumber 33 = .ok (.ireturn, 1) := by decide +kernel
set_option maxRecDepth 20000 in
theorem ggX2_readSemicolon_X2_readToken : GoodIn wsX2_readSemicolon wsX2_readToken := goodIn_r _ [6, 7, 8, 9, 10, 11, 12, 1, 13, 14, 15, 16, 17, 18, 19, 20, 21, 22, 23, 24] (by decide +kernel) (by decide +kernel)
set_option maxRecDepth 20000 in
theorem gX2_readSemicolon_X2_readToken : GoodIn wsX2_readSemicolon (wsV RX2 35 RX2 yX2_readToken wsX2_readToken) := goodIn_app (goodIn_of _ (by decide +kernel)) ggX2_readSemicolon_X2_readToken
theorem dX2_readSemicolon_0 : decode cX2_readSemicolon 0 = .ok (.aload_n 0, 1) := by decide +kernel
theorem dX2_readSemicolon_1 : decode cX2_readSemicolon 1 = .ok (.invokevirtual 35, 3) := by decide +kernel
theorem dX2_readSemicolon_4 : decode cX2_readSemicolon 4 = .ok (.aload_n 0, 1) := by decide +kernel
theorem dX2_readSemicolon_5 : decode cX2_readSemicolon 5 = .ok (.getfield 38, 3) := by decide +kernel
theorem dX2_readSemicolon_8 : decode cX2_readSemicolon 8 = .ok (.iconst 3, 1) := by decide +kernel
theorem dX2_readSemicolon_9 : decode cX2_readSemicolon 9 = .ok (.if_icmp .ne 7, 3) := by decide +kernel
theorem dX2_readSemicolon_12 : decode cX2_readSemicolon 12 = .ok (.iconst 1, 1) := by decide +kernel
theorem dX2_readSemicolon_13 : decode cX2_readSemicolon 13 = .ok (.goto 4, 3) := by decide +kernel
theorem dX2_readSemicolon_16 : decode cX2_readSemicolon 16 = .ok (.iconst 0, 1) := by decide +kernel
theorem dX2_readSemicolon_17 : decode cX2_readSemicolon 17 = .ok (.ireturn, 1) := by decide +kernel
set_option maxRecDepth 20000 in
theorem ggX2_readItem_X2_readWall : GoodIn wsX2_readItem wsX2_readWall := goodIn_r _ [7, 2, 8, 9, 10, 11, 12, 13, 14, 15, 16, 6, 17, 1, 18, 19, 20, 21, 22, 23, 24, 25, 26, 27, 28, 29, 30, 31, 32, 33, 34, 35, 36, 37, 38, 39, 75, 76, 77, 78, 79, 80, 81, 82, 83, 84, 85, 86, 87, 88, 89, 90, 91, 92, 93] (by decide +kernel) (by decide +kernel)
set_option maxRecDepth 20000 in
theorem gX2_readItem_X2_readWall : GoodIn wsX2_readItem (wsV RX2 61 RX2 yX2_readWall wsX2_readWall) := goodIn_app (goodIn_of _ (by decide +kernel)) ggX2_readItem_X2_readWall
set_option maxRecDepth 20000 in
theorem ggX2_readItem_X2_readSees : GoodIn wsX2_readItem wsX2_readSees := goodIn_r _ [43, 44, 2, 14, 15, 16, 6, 17, 1, 18, 19, 20, 21, 22, 23, 24, 25, 26, 27, 28, 45, 46, 47, 11, 48, 49, 50, 51, 52, 53, 29, 30, 31, 32, 54, 55, 56, 57, 58, 81, 82, 83, 84, 85, 86, 87, 88, 89, 75, 76, 77, 78, 79, 80, 90, 91, 92, 93] (by decide +kernel) (by decide +kernel)
set_option maxRecDepth 20000 in
theorem gX2_readItem_X2_readSees : GoodIn wsX2_readItem (wsV RX2 64 RX2 yX2_readSees wsX2_readSees) := goodIn_app (goodIn_of _ (by decide +kernel)) ggX2_readItem_X2_readSees
set_option maxRecDepth 20000 in
theorem ggX2_readItem_X2_readWork : GoodIn wsX2_readItem wsX2_readWork := goodIn_r _ [62, 44, 2, 63, 64, 14, 15, 16, 6, 17, 1, 18, 19, 20, 21, 22, 23, 24, 25, 26, 27, 28, 29, 30, 31, 32, 81, 82, 83, 84, 85, 86, 87, 88, 89, 75, 76, 77, 78, 79, 80, 90, 91, 92, 93] (by decide +kernel) (by decide +kernel)
set_option maxRecDepth 20000 in
theorem gX2_readItem_X2_readWork : GoodIn wsX2_readItem (wsV RX2 67 RX2 yX2_readWork wsX2_readWork) := goodIn_app (goodIn_of _ (by decide +kernel)) ggX2_readItem_X2_readWork
set_option maxRecDepth 20000 in
theorem ggX2_readItem_X2_readLimit : GoodIn wsX2_readItem wsX2_readLimit := goodIn_r _ [68, 69, 2, 14, 15, 16, 6, 17, 1, 18, 19, 20, 21, 22, 23, 24, 25, 26, 27, 28, 29, 30, 31, 32, 70, 71, 72, 11, 73, 74, 75, 76, 77, 78, 79, 80, 90, 91, 92, 93, 81, 82, 83, 84, 85, 86, 87, 88, 89] (by decide +kernel) (by decide +kernel)
set_option maxRecDepth 20000 in
theorem gX2_readItem_X2_readLimit : GoodIn wsX2_readItem (wsV RX2 70 RX2 yX2_readLimit wsX2_readLimit) := goodIn_app (goodIn_of _ (by decide +kernel)) ggX2_readItem_X2_readLimit
theorem dX2_readItem_0 : decode cX2_readItem 0 = .ok (.aload_n 0, 1) := by decide +kernel
theorem dX2_readItem_1 : decode cX2_readItem 1 = .ok (.getfield 38, 3) := by decide +kernel
theorem dX2_readItem_4 : decode cX2_readItem 4 = .ok (.iconst 1, 1) := by decide +kernel
theorem dX2_readItem_5 : decode cX2_readItem 5 = .ok (.if_icmp .eq 5, 3) := by decide +kernel
theorem dX2_readItem_8 : decode cX2_readItem 8 = .ok (.iconst 0, 1) := by decide +kernel
theorem dX2_readItem_9 : decode cX2_readItem 9 = .ok (.ireturn, 1) := by decide +kernel
theorem dX2_readItem_10 : decode cX2_readItem 10 = .ok (.aload_n 0, 1) := by decide +kernel
theorem dX2_readItem_11 : decode cX2_readItem 11 = .ok (.getfield 59, 3) := by decide +kernel
theorem dX2_readItem_14 : decode cX2_readItem 14 = .ok (.tableswitch 54 1 4 #[30, 36, 42, 48], 30) := by decide +kernel
theorem dX2_readItem_44 : decode cX2_readItem 44 = .ok (.aload_n 0, 1) := by decide +kernel
theorem dX2_readItem_45 : decode cX2_readItem 45 = .ok (.aload_n 1, 1) := by decide +kernel
theorem dX2_readItem_46 : decode cX2_readItem 46 = .ok (.invokevirtual 61, 3) := by decide +kernel
theorem dX2_readItem_49 : decode cX2_readItem 49 = .ok (.ireturn, 1) := by decide +kernel
theorem dX2_readItem_50 : decode cX2_readItem 50 = .ok (.aload_n 0, 1) := by decide +kernel
theorem dX2_readItem_51 : decode cX2_readItem 51 = .ok (.aload_n 1, 1) := by decide +kernel
theorem dX2_readItem_52 : decode cX2_readItem 52 = .ok (.invokevirtual 64, 3) := by decide +kernel
theorem dX2_readItem_55 : decode cX2_readItem 55 = .ok (.ireturn, 1) := by decide +kernel
theorem dX2_readItem_56 : decode cX2_readItem 56 = .ok (.aload_n 0, 1) := by decide +kernel
theorem dX2_readItem_57 : decode cX2_readItem 57 = .ok (.aload_n 1, 1) := by decide +kernel
theorem dX2_readItem_58 : decode cX2_readItem 58 = .ok (.invokevirtual 67, 3) := by decide +kernel
theorem dX2_readItem_61 : decode cX2_readItem 61 = .ok (.ireturn, 1) := by decide +kernel
theorem dX2_readItem_62 : decode cX2_readItem 62 = .ok (.aload_n 0, 1) := by decide +kernel
theorem dX2_readItem_63 : decode cX2_readItem 63 = .ok (.aload_n 1, 1) := by decide +kernel
theorem dX2_readItem_64 : decode cX2_readItem 64 = .ok (.invokevirtual 70, 3) := by decide +kernel
theorem dX2_readItem_67 : decode cX2_readItem 67 = .ok (.ireturn, 1) := by decide +kernel
theorem dX2_readItem_68 : decode cX2_readItem 68 = .ok (.iconst 0, 1) := by decide +kernel
theorem dX2_readItem_69 : decode cX2_readItem 69 = .ok (.ireturn, 1) := by decide +kernel
set_option maxRecDepth 20000 in
theorem ggX2_readWall_X6_hasRoom : GoodIn wsX2_readWall wsX6_hasRoom := goodIn_r _ [6, 7, 42, 43, 44, 45, 46, 47, 48, 49, 50] (by decide +kernel) (by decide +kernel)
set_option maxRecDepth 20000 in
theorem gX2_readWall_X6_hasRoom : GoodIn wsX2_readWall (wsV RX2 73 RX6 yX6_hasRoom wsX6_hasRoom) := goodIn_app (goodIn_of _ (by decide +kernel)) ggX2_readWall_X6_hasRoom
set_option maxRecDepth 20000 in
theorem ggX2_readWall_X2_readNumber : GoodIn wsX2_readWall wsX2_readNumber := goodIn_r _ [12, 13, 1, 14, 15, 16, 11, 17, 18, 19, 20, 21, 22, 23, 24, 36, 37, 38, 39, 40, 41, 51, 52, 53, 54] (by decide +kernel) (by decide +kernel)
set_option maxRecDepth 20000 in
theorem gX2_readWall_X2_readNumber : GoodIn wsX2_readWall (wsV RX2 77 RX2 yX2_readNumber wsX2_readNumber) := goodIn_app (goodIn_of _ (by decide +kernel)) ggX2_readWall_X2_readNumber
set_option maxRecDepth 20000 in
theorem ggX2_readWall_X2_readSemicolon : GoodIn wsX2_readWall wsX2_readSemicolon := goodIn_r _ [28, 13, 14, 15, 16, 11, 17, 18, 19, 20, 21, 22, 23, 24, 1, 36, 37, 38, 39, 40, 41, 51, 52, 53, 54] (by decide +kernel) (by decide +kernel)
set_option maxRecDepth 20000 in
theorem gX2_readWall_X2_readSemicolon : GoodIn wsX2_readWall (wsV RX2 81 RX2 yX2_readSemicolon wsX2_readSemicolon) := goodIn_app (goodIn_of _ (by decide +kernel)) ggX2_readWall_X2_readSemicolon
set_option maxRecDepth 20000 in
theorem ggX2_readWall_X6_addWall : GoodIn wsX2_readWall wsX6_addWall := goodIn_r _ [32, 33, 7, 34, 35, 3, 4, 5, 6, 42, 43, 44, 45, 46, 47, 48, 49, 50] (by decide +kernel) (by decide +kernel)
set_option maxRecDepth 20000 in
theorem gX2_readWall_X6_addWall : GoodIn wsX2_readWall (wsV RX2 84 RX6 yX6_addWall wsX6_addWall) := goodIn_app (goodIn_of _ (by decide +kernel)) ggX2_readWall_X6_addWall
theorem dX2_readWall_0 : decode cX2_readWall 0 = .ok (.aload_n 1, 1) := by decide +kernel
theorem dX2_readWall_1 : decode cX2_readWall 1 = .ok (.invokevirtual 73, 3) := by decide +kernel
theorem dX2_readWall_4 : decode cX2_readWall 4 = .ok (.ifCond .eq 13, 3) := by decide +kernel
theorem dX2_readWall_7 : decode cX2_readWall 7 = .ok (.aload_n 0, 1) := by decide +kernel
theorem dX2_readWall_8 : decode cX2_readWall 8 = .ok (.iconst 0, 1) := by decide +kernel
theorem dX2_readWall_9 : decode cX2_readWall 9 = .ok (.bipush 99, 2) := by decide +kernel
theorem dX2_readWall_11 : decode cX2_readWall 11 = .ok (.invokevirtual 77, 3) := by decide +kernel
theorem dX2_readWall_14 : decode cX2_readWall 14 = .ok (.ifCond .ne 5, 3) := by decide +kernel
theorem dX2_readWall_17 : decode cX2_readWall 17 = .ok (.iconst 0, 1) := by decide +kernel
theorem dX2_readWall_18 : decode cX2_readWall 18 = .ok (.ireturn, 1) := by decide +kernel
theorem dX2_readWall_19 : decode cX2_readWall 19 = .ok (.aload_n 0, 1) := by decide +kernel
theorem dX2_readWall_20 : decode cX2_readWall 20 = .ok (.getfield 59, 3) := by decide +kernel
theorem dX2_readWall_23 : decode cX2_readWall 23 = .ok (.istore_n 2, 1) := by decide +kernel
theorem dX2_readWall_24 : decode cX2_readWall 24 = .ok (.aload_n 0, 1) := by decide +kernel
theorem dX2_readWall_25 : decode cX2_readWall 25 = .ok (.iconst 0, 1) := by decide +kernel
theorem dX2_readWall_26 : decode cX2_readWall 26 = .ok (.bipush 9, 2) := by decide +kernel
theorem dX2_readWall_28 : decode cX2_readWall 28 = .ok (.invokevirtual 77, 3) := by decide +kernel
theorem dX2_readWall_31 : decode cX2_readWall 31 = .ok (.ifCond .ne 5, 3) := by decide +kernel
theorem dX2_readWall_34 : decode cX2_readWall 34 = .ok (.iconst 0, 1) := by decide +kernel
theorem dX2_readWall_35 : decode cX2_readWall 35 = .ok (.ireturn, 1) := by decide +kernel
theorem dX2_readWall_36 : decode cX2_readWall 36 = .ok (.aload_n 0, 1) := by decide +kernel
theorem dX2_readWall_37 : decode cX2_readWall 37 = .ok (.getfield 59, 3) := by decide +kernel
theorem dX2_readWall_40 : decode cX2_readWall 40 = .ok (.istore_n 3, 1) := by decide +kernel
theorem dX2_readWall_41 : decode cX2_readWall 41 = .ok (.aload_n 0, 1) := by decide +kernel
theorem dX2_readWall_42 : decode cX2_readWall 42 = .ok (.invokevirtual 81, 3) := by decide +kernel
theorem dX2_readWall_45 : decode cX2_readWall 45 = .ok (.ifCond .ne 5, 3) := by decide +kernel
theorem dX2_readWall_48 : decode cX2_readWall 48 = .ok (.iconst 0, 1) := by decide +kernel
theorem dX2_readWall_49 : decode cX2_readWall 49 = .ok (.ireturn, 1) := by decide +kernel
theorem dX2_readWall_50 : decode cX2_readWall 50 = .ok (.aload_n 1, 1) := by decide +kernel
theorem dX2_readWall_51 : decode cX2_readWall 51 = .ok (.iload_n 2, 1) := by decide +kernel
theorem dX2_readWall_52 : decode cX2_readWall 52 = .ok (.iload_n 3, 1) := by decide +kernel
theorem dX2_readWall_53 : decode cX2_readWall 53 = .ok (.invokevirtual 84, 3) := by decide +kernel
theorem dX2_readWall_56 : decode cX2_readWall 56 = .ok (.iconst 1, 1) := by decide +kernel
theorem dX2_readWall_57 : decode cX2_readWall 57 = .ok (.ireturn, 1) := by decide +kernel
set_option maxRecDepth 20000 in
theorem ggX2_readSees_X2_readNumber : GoodIn wsX2_readSees wsX2_readNumber := goodIn_r _ [7, 8, 2, 9, 10, 11, 6, 12, 13, 14, 15, 16, 17, 18, 19, 48, 49, 50, 51, 52, 53, 54, 55, 56, 57] (by decide +kernel) (by decide +kernel)
set_option maxRecDepth 20000 in
theorem gX2_readSees_X2_readNumber : GoodIn wsX2_readSees (wsV RX2 77 RX2 yX2_readNumber wsX2_readNumber) := goodIn_app (goodIn_of _ (by decide +kernel)) ggX2_readSees_X2_readNumber
set_option maxRecDepth 20000 in
theorem ggX2_readSees_X6_partsLeft : GoodIn wsX2_readSees wsX6_partsLeft := goodIn_r _ [24, 25, 26, 27, 28, 29, 39, 40, 41, 42, 43, 44, 45, 46, 47] (by decide +kernel) (by decide +kernel)
set_option maxRecDepth 20000 in
theorem gX2_readSees_X6_partsLeft : GoodIn wsX2_readSees (wsV RX2 89 RX6 yX6_partsLeft wsX6_partsLeft) := goodIn_app (goodIn_of _ (by decide +kernel)) ggX2_readSees_X6_partsLeft
set_option maxRecDepth 20000 in
theorem ggX2_readSees_X2_readSemicolon : GoodIn wsX2_readSees wsX2_readSemicolon := goodIn_r _ [33, 8, 9, 10, 11, 6, 12, 13, 14, 15, 16, 17, 18, 19, 2, 48, 49, 50, 51, 52, 53, 54, 55, 56, 57] (by decide +kernel) (by decide +kernel)
set_option maxRecDepth 20000 in
theorem gX2_readSees_X2_readSemicolon : GoodIn wsX2_readSees (wsV RX2 81 RX2 yX2_readSemicolon wsX2_readSemicolon) := goodIn_app (goodIn_of _ (by decide +kernel)) ggX2_readSees_X2_readSemicolon
set_option maxRecDepth 20000 in
theorem ggX2_readSees_X6_addParts : GoodIn wsX2_readSees wsX6_addParts := goodIn_r _ [37, 38, 25, 39, 40, 41, 42, 43, 44, 45, 46, 47] (by decide +kernel) (by decide +kernel)
set_option maxRecDepth 20000 in
theorem gX2_readSees_X6_addParts : GoodIn wsX2_readSees (wsV RX2 93 RX6 yX6_addParts wsX6_addParts) := goodIn_app (goodIn_of _ (by decide +kernel)) ggX2_readSees_X6_addParts
theorem dX2_readSees_0 : decode cX2_readSees 0 = .ok (.aload_n 0, 1) := by decide +kernel
theorem dX2_readSees_1 : decode cX2_readSees 1 = .ok (.iconst 0, 1) := by decide +kernel
theorem dX2_readSees_2 : decode cX2_readSees 2 = .ok (.aload_n 1, 1) := by decide +kernel
theorem dX2_readSees_3 : decode cX2_readSees 3 = .ok (.getfield 88, 3) := by decide +kernel
theorem dX2_readSees_6 : decode cX2_readSees 6 = .ok (.iconst 1, 1) := by decide +kernel
theorem dX2_readSees_7 : decode cX2_readSees 7 = .ok (.isub, 1) := by decide +kernel
theorem dX2_readSees_8 : decode cX2_readSees 8 = .ok (.invokevirtual 77, 3) := by decide +kernel
theorem dX2_readSees_11 : decode cX2_readSees 11 = .ok (.ifCond .ne 5, 3) := by decide +kernel
theorem dX2_readSees_14 : decode cX2_readSees 14 = .ok (.iconst 0, 1) := by decide +kernel
theorem dX2_readSees_15 : decode cX2_readSees 15 = .ok (.ireturn, 1) := by decide +kernel
theorem dX2_readSees_16 : decode cX2_readSees 16 = .ok (.aload_n 0, 1) := by decide +kernel
theorem dX2_readSees_17 : decode cX2_readSees 17 = .ok (.getfield 59, 3) := by decide +kernel
theorem dX2_readSees_20 : decode cX2_readSees 20 = .ok (.istore_n 2, 1) := by decide +kernel
theorem dX2_readSees_21 : decode cX2_readSees 21 = .ok (.aload_n 0, 1) := by decide +kernel
theorem dX2_readSees_22 : decode cX2_readSees 22 = .ok (.iconst 0, 1) := by decide +kernel
theorem dX2_readSees_23 : decode cX2_readSees 23 = .ok (.aload_n 1, 1) := by decide +kernel
theorem dX2_readSees_24 : decode cX2_readSees 24 = .ok (.getfield 88, 3) := by decide +kernel
theorem dX2_readSees_27 : decode cX2_readSees 27 = .ok (.iconst 1, 1) := by decide +kernel
theorem dX2_readSees_28 : decode cX2_readSees 28 = .ok (.isub, 1) := by decide +kernel
theorem dX2_readSees_29 : decode cX2_readSees 29 = .ok (.invokevirtual 77, 3) := by decide +kernel
theorem dX2_readSees_32 : decode cX2_readSees 32 = .ok (.ifCond .eq 11, 3) := by decide +kernel
theorem dX2_readSees_35 : decode cX2_readSees 35 = .ok (.aload_n 0, 1) := by decide +kernel
theorem dX2_readSees_36 : decode cX2_readSees 36 = .ok (.getfield 59, 3) := by decide +kernel
theorem dX2_readSees_39 : decode cX2_readSees 39 = .ok (.iload_n 2, 1) := by decide +kernel
theorem dX2_readSees_40 : decode cX2_readSees 40 = .ok (.if_icmp .ne 5, 3) := by decide +kernel
theorem dX2_readSees_43 : decode cX2_readSees 43 = .ok (.iconst 0, 1) := by decide +kernel
theorem dX2_readSees_44 : decode cX2_readSees 44 = .ok (.ireturn, 1) := by decide +kernel
theorem dX2_readSees_45 : decode cX2_readSees 45 = .ok (.aload_n 0, 1) := by decide +kernel
theorem dX2_readSees_46 : decode cX2_readSees 46 = .ok (.getfield 59, 3) := by decide +kernel
theorem dX2_readSees_49 : decode cX2_readSees 49 = .ok (.istore_n 3, 1) := by decide +kernel
theorem dX2_readSees_50 : decode cX2_readSees 50 = .ok (.aload_n 0, 1) := by decide +kernel
theorem dX2_readSees_51 : decode cX2_readSees 51 = .ok (.iconst 1, 1) := by decide +kernel
theorem dX2_readSees_52 : decode cX2_readSees 52 = .ok (.aload_n 1, 1) := by decide +kernel
theorem dX2_readSees_53 : decode cX2_readSees 53 = .ok (.iload_n 2, 1) := by decide +kernel
theorem dX2_readSees_54 : decode cX2_readSees 54 = .ok (.iload_n 3, 1) := by decide +kernel
theorem dX2_readSees_55 : decode cX2_readSees 55 = .ok (.invokevirtual 89, 3) := by decide +kernel
theorem dX2_readSees_58 : decode cX2_readSees 58 = .ok (.invokevirtual 77, 3) := by decide +kernel
theorem dX2_readSees_61 : decode cX2_readSees 61 = .ok (.ifCond .ne 5, 3) := by decide +kernel
theorem dX2_readSees_64 : decode cX2_readSees 64 = .ok (.iconst 0, 1) := by decide +kernel
theorem dX2_readSees_65 : decode cX2_readSees 65 = .ok (.ireturn, 1) := by decide +kernel
theorem dX2_readSees_66 : decode cX2_readSees 66 = .ok (.aload_n 0, 1) := by decide +kernel
theorem dX2_readSees_67 : decode cX2_readSees 67 = .ok (.getfield 59, 3) := by decide +kernel
theorem dX2_readSees_70 : decode cX2_readSees 70 = .ok (.istore 4, 2) := by decide +kernel
theorem dX2_readSees_72 : decode cX2_readSees 72 = .ok (.aload_n 0, 1) := by decide +kernel
theorem dX2_readSees_73 : decode cX2_readSees 73 = .ok (.invokevirtual 81, 3) := by decide +kernel
theorem dX2_readSees_76 : decode cX2_readSees 76 = .ok (.ifCond .ne 5, 3) := by decide +kernel
theorem dX2_readSees_79 : decode cX2_readSees 79 = .ok (.iconst 0, 1) := by decide +kernel
theorem dX2_readSees_80 : decode cX2_readSees 80 = .ok (.ireturn, 1) := by decide +kernel
theorem dX2_readSees_81 : decode cX2_readSees 81 = .ok (.aload_n 1, 1) := by decide +kernel
theorem dX2_readSees_82 : decode cX2_readSees 82 = .ok (.iload_n 2, 1) := by decide +kernel
theorem dX2_readSees_83 : decode cX2_readSees 83 = .ok (.iload_n 3, 1) := by decide +kernel
theorem dX2_readSees_84 : decode cX2_readSees 84 = .ok (.iload 4, 2) := by decide +kernel
theorem dX2_readSees_86 : decode cX2_readSees 86 = .ok (.invokevirtual 93, 3) := by decide +kernel
theorem dX2_readSees_89 : decode cX2_readSees 89 = .ok (.iconst 1, 1) := by decide +kernel
theorem dX2_readSees_90 : decode cX2_readSees 90 = .ok (.ireturn, 1) := by decide +kernel
set_option maxRecDepth 20000 in
theorem ggX2_readWork_X2_readNumber : GoodIn wsX2_readWork wsX2_readNumber := goodIn_r _ [9, 10, 2, 11, 12, 13, 8, 14, 15, 16, 17, 18, 19, 20, 21, 35, 36, 37, 38, 39, 40, 41, 42, 43, 44] (by decide +kernel) (by decide +kernel)
set_option maxRecDepth 20000 in
theorem gX2_readWork_X2_readNumber : GoodIn wsX2_readWork (wsV RX2 77 RX2 yX2_readNumber wsX2_readNumber) := goodIn_app (goodIn_of _ (by decide +kernel)) ggX2_readWork_X2_readNumber
set_option maxRecDepth 20000 in
theorem ggX2_readWork_X2_readSemicolon : GoodIn wsX2_readWork wsX2_readSemicolon := goodIn_r _ [25, 10, 11, 12, 13, 8, 14, 15, 16, 17, 18, 19, 20, 21, 2, 35, 36, 37, 38, 39, 40, 41, 42, 43, 44] (by decide +kernel) (by decide +kernel)
set_option maxRecDepth 20000 in
theorem gX2_readWork_X2_readSemicolon : GoodIn wsX2_readWork (wsV RX2 81 RX2 yX2_readSemicolon wsX2_readSemicolon) := goodIn_app (goodIn_of _ (by decide +kernel)) ggX2_readWork_X2_readSemicolon
theorem dX2_readWork_0 : decode cX2_readWork 0 = .ok (.aload_n 0, 1) := by decide +kernel
theorem dX2_readWork_1 : decode cX2_readWork 1 = .ok (.iconst 0, 1) := by decide +kernel
theorem dX2_readWork_2 : decode cX2_readWork 2 = .ok (.aload_n 1, 1) := by decide +kernel
theorem dX2_readWork_3 : decode cX2_readWork 3 = .ok (.getfield 88, 3) := by decide +kernel
theorem dX2_readWork_6 : decode cX2_readWork 6 = .ok (.iconst 1, 1) := by decide +kernel
theorem dX2_readWork_7 : decode cX2_readWork 7 = .ok (.isub, 1) := by decide +kernel
theorem dX2_readWork_8 : decode cX2_readWork 8 = .ok (.invokevirtual 77, 3) := by decide +kernel
theorem dX2_readWork_11 : decode cX2_readWork 11 = .ok (.ifCond .ne 5, 3) := by decide +kernel
theorem dX2_readWork_14 : decode cX2_readWork 14 = .ok (.iconst 0, 1) := by decide +kernel
theorem dX2_readWork_15 : decode cX2_readWork 15 = .ok (.ireturn, 1) := by decide +kernel
theorem dX2_readWork_16 : decode cX2_readWork 16 = .ok (.aload_n 0, 1) := by decide +kernel
theorem dX2_readWork_17 : decode cX2_readWork 17 = .ok (.getfield 59, 3) := by decide +kernel
theorem dX2_readWork_20 : decode cX2_readWork 20 = .ok (.istore_n 2, 1) := by decide +kernel
theorem dX2_readWork_21 : decode cX2_readWork 21 = .ok (.aload_n 0, 1) := by decide +kernel
theorem dX2_readWork_22 : decode cX2_readWork 22 = .ok (.iconst 0, 1) := by decide +kernel
theorem dX2_readWork_23 : decode cX2_readWork 23 = .ok (.bipush 20, 2) := by decide +kernel
theorem dX2_readWork_25 : decode cX2_readWork 25 = .ok (.invokevirtual 77, 3) := by decide +kernel
theorem dX2_readWork_28 : decode cX2_readWork 28 = .ok (.ifCond .ne 5, 3) := by decide +kernel
theorem dX2_readWork_31 : decode cX2_readWork 31 = .ok (.iconst 0, 1) := by decide +kernel
theorem dX2_readWork_32 : decode cX2_readWork 32 = .ok (.ireturn, 1) := by decide +kernel
theorem dX2_readWork_33 : decode cX2_readWork 33 = .ok (.aload_n 0, 1) := by decide +kernel
theorem dX2_readWork_34 : decode cX2_readWork 34 = .ok (.getfield 59, 3) := by decide +kernel
theorem dX2_readWork_37 : decode cX2_readWork 37 = .ok (.istore_n 3, 1) := by decide +kernel
theorem dX2_readWork_38 : decode cX2_readWork 38 = .ok (.aload_n 0, 1) := by decide +kernel
theorem dX2_readWork_39 : decode cX2_readWork 39 = .ok (.iconst 0, 1) := by decide +kernel
theorem dX2_readWork_40 : decode cX2_readWork 40 = .ok (.bipush 15, 2) := by decide +kernel
theorem dX2_readWork_42 : decode cX2_readWork 42 = .ok (.invokevirtual 77, 3) := by decide +kernel
theorem dX2_readWork_45 : decode cX2_readWork 45 = .ok (.ifCond .ne 5, 3) := by decide +kernel
theorem dX2_readWork_48 : decode cX2_readWork 48 = .ok (.iconst 0, 1) := by decide +kernel
theorem dX2_readWork_49 : decode cX2_readWork 49 = .ok (.ireturn, 1) := by decide +kernel
theorem dX2_readWork_50 : decode cX2_readWork 50 = .ok (.aload_n 0, 1) := by decide +kernel
theorem dX2_readWork_51 : decode cX2_readWork 51 = .ok (.getfield 59, 3) := by decide +kernel
theorem dX2_readWork_54 : decode cX2_readWork 54 = .ok (.istore 4, 2) := by decide +kernel
theorem dX2_readWork_56 : decode cX2_readWork 56 = .ok (.aload_n 0, 1) := by decide +kernel
theorem dX2_readWork_57 : decode cX2_readWork 57 = .ok (.iconst 0, 1) := by decide +kernel
theorem dX2_readWork_58 : decode cX2_readWork 58 = .ok (.bipush 15, 2) := by decide +kernel
theorem dX2_readWork_60 : decode cX2_readWork 60 = .ok (.invokevirtual 77, 3) := by decide +kernel
theorem dX2_readWork_63 : decode cX2_readWork 63 = .ok (.ifCond .ne 5, 3) := by decide +kernel
theorem dX2_readWork_66 : decode cX2_readWork 66 = .ok (.iconst 0, 1) := by decide +kernel
theorem dX2_readWork_67 : decode cX2_readWork 67 = .ok (.ireturn, 1) := by decide +kernel
theorem dX2_readWork_68 : decode cX2_readWork 68 = .ok (.iload 4, 2) := by decide +kernel
theorem dX2_readWork_70 : decode cX2_readWork 70 = .ok (.bipush 16, 2) := by decide +kernel
theorem dX2_readWork_72 : decode cX2_readWork 72 = .ok (.aload_n 0, 1) := by decide +kernel
theorem dX2_readWork_73 : decode cX2_readWork 73 = .ok (.getfield 59, 3) := by decide +kernel
theorem dX2_readWork_76 : decode cX2_readWork 76 = .ok (.imul, 1) := by decide +kernel
theorem dX2_readWork_77 : decode cX2_readWork 77 = .ok (.iadd, 1) := by decide +kernel
theorem dX2_readWork_78 : decode cX2_readWork 78 = .ok (.istore 4, 2) := by decide +kernel
theorem dX2_readWork_80 : decode cX2_readWork 80 = .ok (.aload_n 0, 1) := by decide +kernel
theorem dX2_readWork_81 : decode cX2_readWork 81 = .ok (.invokevirtual 81, 3) := by decide +kernel
theorem dX2_readWork_84 : decode cX2_readWork 84 = .ok (.ifCond .ne 5, 3) := by decide +kernel
theorem dX2_readWork_87 : decode cX2_readWork 87 = .ok (.iconst 0, 1) := by decide +kernel
theorem dX2_readWork_88 : decode cX2_readWork 88 = .ok (.ireturn, 1) := by decide +kernel
theorem dX2_readWork_89 : decode cX2_readWork 89 = .ok (.aload_n 1, 1) := by decide +kernel
theorem dX2_readWork_90 : decode cX2_readWork 90 = .ok (.getfield 97, 3) := by decide +kernel
theorem dX2_readWork_93 : decode cX2_readWork 93 = .ok (.iload_n 2, 1) := by decide +kernel
theorem dX2_readWork_94 : decode cX2_readWork 94 = .ok (.iload_n 3, 1) := by decide +kernel
theorem dX2_readWork_95 : decode cX2_readWork 95 = .ok (.iastore, 1) := by decide +kernel
theorem dX2_readWork_96 : decode cX2_readWork 96 = .ok (.aload_n 1, 1) := by decide +kernel
theorem dX2_readWork_97 : decode cX2_readWork 97 = .ok (.getfield 100, 3) := by decide +kernel
theorem dX2_readWork_100 : decode cX2_readWork 100 = .ok (.iload_n 2, 1) := by decide +kernel
theorem dX2_readWork_101 : decode cX2_readWork 101 = .ok (.iload 4, 2) := by decide +kernel
theorem dX2_readWork_103 : decode cX2_readWork 103 = .ok (.iastore, 1) := by decide +kernel
theorem dX2_readWork_104 : decode cX2_readWork 104 = .ok (.iconst 1, 1) := by decide +kernel
theorem dX2_readWork_105 : decode cX2_readWork 105 = .ok (.ireturn, 1) := by decide +kernel
set_option maxRecDepth 20000 in
theorem ggX2_readLimit_X2_readNumber : GoodIn wsX2_readLimit wsX2_readNumber := goodIn_r _ [7, 8, 2, 9, 10, 11, 6, 12, 13, 14, 15, 16, 17, 18, 19, 30, 31, 32, 33, 34, 35, 36, 37, 38, 39] (by decide +kernel) (by decide +kernel)
set_option maxRecDepth 20000 in
theorem gX2_readLimit_X2_readNumber : GoodIn wsX2_readLimit (wsV RX2 77 RX2 yX2_readNumber wsX2_readNumber) := goodIn_app (goodIn_of _ (by decide +kernel)) ggX2_readLimit_X2_readNumber
set_option maxRecDepth 20000 in
theorem ggX2_readLimit_X2_readSemicolon : GoodIn wsX2_readLimit wsX2_readSemicolon := goodIn_r _ [23, 8, 9, 10, 11, 6, 12, 13, 14, 15, 16, 17, 18, 19, 2, 30, 31, 32, 33, 34, 35, 36, 37, 38, 39] (by decide +kernel) (by decide +kernel)
set_option maxRecDepth 20000 in
theorem gX2_readLimit_X2_readSemicolon : GoodIn wsX2_readLimit (wsV RX2 81 RX2 yX2_readSemicolon wsX2_readSemicolon) := goodIn_app (goodIn_of _ (by decide +kernel)) ggX2_readLimit_X2_readSemicolon
set_option maxRecDepth 20000 in
theorem ggX2_readLimit_X6_setLimit : GoodIn wsX2_readLimit wsX6_setLimit := goodIn_r _ [28, 29, 40, 41, 42, 43, 44, 45, 46, 47, 48] (by decide +kernel) (by decide +kernel)
set_option maxRecDepth 20000 in
theorem gX2_readLimit_X6_setLimit : GoodIn wsX2_readLimit (wsV RX2 103 RX6 yX6_setLimit wsX6_setLimit) := goodIn_app (goodIn_of _ (by decide +kernel)) ggX2_readLimit_X6_setLimit
theorem dX2_readLimit_0 : decode cX2_readLimit 0 = .ok (.aload_n 0, 1) := by decide +kernel
theorem dX2_readLimit_1 : decode cX2_readLimit 1 = .ok (.getfield 31, 3) := by decide +kernel
theorem dX2_readLimit_4 : decode cX2_readLimit 4 = .ok (.ifCond .ne 13, 3) := by decide +kernel
theorem dX2_readLimit_7 : decode cX2_readLimit 7 = .ok (.aload_n 0, 1) := by decide +kernel
theorem dX2_readLimit_8 : decode cX2_readLimit 8 = .ok (.iconst 0, 1) := by decide +kernel
theorem dX2_readLimit_9 : decode cX2_readLimit 9 = .ok (.bipush 99, 2) := by decide +kernel
theorem dX2_readLimit_11 : decode cX2_readLimit 11 = .ok (.invokevirtual 77, 3) := by decide +kernel
theorem dX2_readLimit_14 : decode cX2_readLimit 14 = .ok (.ifCond .ne 5, 3) := by decide +kernel
theorem dX2_readLimit_17 : decode cX2_readLimit 17 = .ok (.iconst 0, 1) := by decide +kernel
theorem dX2_readLimit_18 : decode cX2_readLimit 18 = .ok (.ireturn, 1) := by decide +kernel
theorem dX2_readLimit_19 : decode cX2_readLimit 19 = .ok (.aload_n 0, 1) := by decide +kernel
theorem dX2_readLimit_20 : decode cX2_readLimit 20 = .ok (.getfield 59, 3) := by decide +kernel
theorem dX2_readLimit_23 : decode cX2_readLimit 23 = .ok (.istore_n 2, 1) := by decide +kernel
theorem dX2_readLimit_24 : decode cX2_readLimit 24 = .ok (.aload_n 0, 1) := by decide +kernel
theorem dX2_readLimit_25 : decode cX2_readLimit 25 = .ok (.invokevirtual 81, 3) := by decide +kernel
theorem dX2_readLimit_28 : decode cX2_readLimit 28 = .ok (.ifCond .ne 5, 3) := by decide +kernel
theorem dX2_readLimit_31 : decode cX2_readLimit 31 = .ok (.iconst 0, 1) := by decide +kernel
theorem dX2_readLimit_32 : decode cX2_readLimit 32 = .ok (.ireturn, 1) := by decide +kernel
theorem dX2_readLimit_33 : decode cX2_readLimit 33 = .ok (.aload_n 1, 1) := by decide +kernel
theorem dX2_readLimit_34 : decode cX2_readLimit 34 = .ok (.iload_n 2, 1) := by decide +kernel
theorem dX2_readLimit_35 : decode cX2_readLimit 35 = .ok (.invokevirtual 103, 3) := by decide +kernel
theorem dX2_readLimit_38 : decode cX2_readLimit 38 = .ok (.aload_n 0, 1) := by decide +kernel
theorem dX2_readLimit_39 : decode cX2_readLimit 39 = .ok (.iconst 1, 1) := by decide +kernel
theorem dX2_readLimit_40 : decode cX2_readLimit 40 = .ok (.putfield 31, 3) := by decide +kernel
theorem dX2_readLimit_43 : decode cX2_readLimit 43 = .ok (.iconst 1, 1) := by decide +kernel
theorem dX2_readLimit_44 : decode cX2_readLimit 44 = .ok (.ireturn, 1) := by decide +kernel
theorem dX3_init_0 : decode cX3_init 0 = .ok (.aload_n 0, 1) := by decide +kernel
theorem dX3_init_1 : decode cX3_init 1 = .ok (.invokespecial 3, 3) := by decide +kernel
theorem dX3_init_4 : decode cX3_init 4 = .ok (.aload_n 0, 1) := by decide +kernel
theorem dX3_init_5 : decode cX3_init 5 = .ok (.bipush 8, 2) := by decide +kernel
theorem dX3_init_7 : decode cX3_init 7 = .ok (.newarray .int, 2) := by decide +kernel
theorem dX3_init_9 : decode cX3_init 9 = .ok (.putfield 9, 3) := by decide +kernel
theorem dX3_init_12 : decode cX3_init 12 = .ok (.aload_n 0, 1) := by decide +kernel
theorem dX3_init_13 : decode cX3_init 13 = .ok (.bipush 8, 2) := by decide +kernel
theorem dX3_init_15 : decode cX3_init 15 = .ok (.newarray .int, 2) := by decide +kernel
theorem dX3_init_17 : decode cX3_init 17 = .ok (.putfield 15, 3) := by decide +kernel
theorem dX3_init_20 : decode cX3_init 20 = .ok (.aload_n 0, 1) := by decide +kernel
theorem dX3_init_21 : decode cX3_init 21 = .ok (.bipush 8, 2) := by decide +kernel
theorem dX3_init_23 : decode cX3_init 23 = .ok (.newarray .int, 2) := by decide +kernel
theorem dX3_init_25 : decode cX3_init 25 = .ok (.putfield 18, 3) := by decide +kernel
theorem dX3_init_28 : decode cX3_init 28 = .ok (.return_, 1) := by decide +kernel
theorem dX3_add_0 : decode cX3_add 0 = .ok (.aload_n 0, 1) := by decide +kernel
theorem dX3_add_1 : decode cX3_add 1 = .ok (.getfield 21, 3) := by decide +kernel
theorem dX3_add_4 : decode cX3_add 4 = .ok (.bipush 8, 2) := by decide +kernel
theorem dX3_add_6 : decode cX3_add 6 = .ok (.if_icmp .ge 43, 3) := by decide +kernel
theorem dX3_add_9 : decode cX3_add 9 = .ok (.aload_n 0, 1) := by decide +kernel
theorem dX3_add_10 : decode cX3_add 10 = .ok (.getfield 9, 3) := by decide +kernel
theorem dX3_add_13 : decode cX3_add 13 = .ok (.aload_n 0, 1) := by decide +kernel
theorem dX3_add_14 : decode cX3_add 14 = .ok (.getfield 21, 3) := by decide +kernel
theorem dX3_add_17 : decode cX3_add 17 = .ok (.iload_n 1, 1) := by decide +kernel
theorem dX3_add_18 : decode cX3_add 18 = .ok (.iastore, 1) := by decide +kernel
theorem dX3_add_19 : decode cX3_add 19 = .ok (.aload_n 0, 1) := by decide +kernel
theorem dX3_add_20 : decode cX3_add 20 = .ok (.getfield 15, 3) := by decide +kernel
theorem dX3_add_23 : decode cX3_add 23 = .ok (.aload_n 0, 1) := by decide +kernel
theorem dX3_add_24 : decode cX3_add 24 = .ok (.getfield 21, 3) := by decide +kernel
theorem dX3_add_27 : decode cX3_add 27 = .ok (.iload_n 2, 1) := by decide +kernel
theorem dX3_add_28 : decode cX3_add 28 = .ok (.iastore, 1) := by decide +kernel
theorem dX3_add_29 : decode cX3_add 29 = .ok (.aload_n 0, 1) := by decide +kernel
theorem dX3_add_30 : decode cX3_add 30 = .ok (.getfield 18, 3) := by decide +kernel
theorem dX3_add_33 : decode cX3_add 33 = .ok (.aload_n 0, 1) := by decide +kernel
theorem dX3_add_34 : decode cX3_add 34 = .ok (.getfield 21, 3) := by decide +kernel
theorem dX3_add_37 : decode cX3_add 37 = .ok (.iload_n 3, 1) := by decide +kernel
theorem dX3_add_38 : decode cX3_add 38 = .ok (.iastore, 1) := by decide +kernel
theorem dX3_add_39 : decode cX3_add 39 = .ok (.aload_n 0, 1) := by decide +kernel
theorem dX3_add_40 : decode cX3_add 40 = .ok (.dup, 1) := by decide +kernel
theorem dX3_add_41 : decode cX3_add 41 = .ok (.getfield 21, 3) := by decide +kernel
theorem dX3_add_44 : decode cX3_add 44 = .ok (.iconst 1, 1) := by decide +kernel
theorem dX3_add_45 : decode cX3_add 45 = .ok (.iadd, 1) := by decide +kernel
theorem dX3_add_46 : decode cX3_add 46 = .ok (.putfield 21, 3) := by decide +kernel
theorem dX3_add_49 : decode cX3_add 49 = .ok (.return_, 1) := by decide +kernel
theorem dX3_latest_0 : decode cX3_latest 0 = .ok (.bipush (-9), 2) := by decide +kernel
theorem dX3_latest_2 : decode cX3_latest 2 = .ok (.istore_n 1, 1) := by decide +kernel
theorem dX3_latest_3 : decode cX3_latest 3 = .ok (.iconst 0, 1) := by decide +kernel
theorem dX3_latest_4 : decode cX3_latest 4 = .ok (.istore_n 2, 1) := by decide +kernel
theorem dX3_latest_5 : decode cX3_latest 5 = .ok (.iload_n 2, 1) := by decide +kernel
theorem dX3_latest_6 : decode cX3_latest 6 = .ok (.aload_n 0, 1) := by decide +kernel
theorem dX3_latest_7 : decode cX3_latest 7 = .ok (.getfield 21, 3) := by decide +kernel
theorem dX3_latest_10 : decode cX3_latest 10 = .ok (.if_icmp .ge 20, 3) := by decide +kernel
theorem dX3_latest_13 : decode cX3_latest 13 = .ok (.iload_n 1, 1) := by decide +kernel
theorem dX3_latest_14 : decode cX3_latest 14 = .ok (.aload_n 0, 1) := by decide +kernel
theorem dX3_latest_15 : decode cX3_latest 15 = .ok (.getfield 9, 3) := by decide +kernel
theorem dX3_latest_18 : decode cX3_latest 18 = .ok (.iload_n 2, 1) := by decide +kernel
theorem dX3_latest_19 : decode cX3_latest 19 = .ok (.iaload, 1) := by decide +kernel
theorem dX3_latest_20 : decode cX3_latest 20 = .ok (.invokestatic 25, 3) := by decide +kernel
theorem dX3_latest_23 : decode cX3_latest 23 = .ok (.istore_n 1, 1) := by decide +kernel
theorem dX3_latest_24 : decode cX3_latest 24 = .ok (.iinc 2 1, 3) := by decide +kernel
theorem dX3_latest_27 : decode cX3_latest 27 = .ok (.goto (-22), 3) := by decide +kernel
theorem dX3_latest_30 : decode cX3_latest 30 = .ok (.iload_n 1, 1) := by decide +kernel
theorem dX3_latest_31 : decode cX3_latest 31 = .ok (.ireturn, 1) := by decide +kernel
theorem dX3_areSo_0 : decode cX3_areSo 0 = .ok (.iconst 0, 1) := by decide +kernel
theorem dX3_areSo_1 : decode cX3_areSo 1 = .ok (.istore_n 3, 1) := by decide +kernel
theorem dX3_areSo_2 : decode cX3_areSo 2 = .ok (.iload_n 3, 1) := by decide +kernel
theorem dX3_areSo_3 : decode cX3_areSo 3 = .ok (.aload_n 0, 1) := by decide +kernel
theorem dX3_areSo_4 : decode cX3_areSo 4 = .ok (.getfield 21, 3) := by decide +kernel
theorem dX3_areSo_7 : decode cX3_areSo 7 = .ok (.if_icmp .ge 41, 3) := by decide +kernel
theorem dX3_areSo_10 : decode cX3_areSo 10 = .ok (.aload_n 0, 1) := by decide +kernel
theorem dX3_areSo_11 : decode cX3_areSo 11 = .ok (.getfield 9, 3) := by decide +kernel
theorem dX3_areSo_14 : decode cX3_areSo 14 = .ok (.iload_n 3, 1) := by decide +kernel
theorem dX3_areSo_15 : decode cX3_areSo 15 = .ok (.iaload, 1) := by decide +kernel
theorem dX3_areSo_16 : decode cX3_areSo 16 = .ok (.iload_n 1, 1) := by decide +kernel
theorem dX3_areSo_17 : decode cX3_areSo 17 = .ok (.if_icmp .ne 25, 3) := by decide +kernel
theorem dX3_areSo_20 : decode cX3_areSo 20 = .ok (.aload_n 2, 1) := by decide +kernel
theorem dX3_areSo_21 : decode cX3_areSo 21 = .ok (.getfield 31, 3) := by decide +kernel
theorem dX3_areSo_24 : decode cX3_areSo 24 = .ok (.aload_n 0, 1) := by decide +kernel
theorem dX3_areSo_25 : decode cX3_areSo 25 = .ok (.getfield 15, 3) := by decide +kernel
theorem dX3_areSo_28 : decode cX3_areSo 28 = .ok (.iload_n 3, 1) := by decide +kernel
theorem dX3_areSo_29 : decode cX3_areSo 29 = .ok (.iaload, 1) := by decide +kernel
theorem dX3_areSo_30 : decode cX3_areSo 30 = .ok (.iaload, 1) := by decide +kernel
theorem dX3_areSo_31 : decode cX3_areSo 31 = .ok (.aload_n 0, 1) := by decide +kernel
theorem dX3_areSo_32 : decode cX3_areSo 32 = .ok (.getfield 18, 3) := by decide +kernel
theorem dX3_areSo_35 : decode cX3_areSo 35 = .ok (.iload_n 3, 1) := by decide +kernel
theorem dX3_areSo_36 : decode cX3_areSo 36 = .ok (.iaload, 1) := by decide +kernel
theorem dX3_areSo_37 : decode cX3_areSo 37 = .ok (.if_icmp .eq 5, 3) := by decide +kernel
theorem dX3_areSo_40 : decode cX3_areSo 40 = .ok (.iconst 0, 1) := by decide +kernel
theorem dX3_areSo_41 : decode cX3_areSo 41 = .ok (.ireturn, 1) := by decide +kernel
theorem dX3_areSo_42 : decode cX3_areSo 42 = .ok (.iinc 3 1, 3) := by decide +kernel
theorem dX3_areSo_45 : decode cX3_areSo 45 = .ok (.goto (-43), 3) := by decide +kernel
theorem dX3_areSo_48 : decode cX3_areSo 48 = .ok (.iconst 1, 1) := by decide +kernel
theorem dX3_areSo_49 : decode cX3_areSo 49 = .ok (.ireturn, 1) := by decide +kernel
theorem dX4_init_0 : decode cX4_init 0 = .ok (.aload_n 0, 1) := by decide +kernel
theorem dX4_init_1 : decode cX4_init 1 = .ok (.invokespecial 1, 3) := by decide +kernel
theorem dX4_init_4 : decode cX4_init 4 = .ok (.aload_n 0, 1) := by decide +kernel
theorem dX4_init_5 : decode cX4_init 5 = .ok (.sipush 250, 3) := by decide +kernel
theorem dX4_init_8 : decode cX4_init 8 = .ok (.newarray .byte, 2) := by decide +kernel
theorem dX4_init_10 : decode cX4_init 10 = .ok (.putfield 9, 3) := by decide +kernel
theorem dX4_init_13 : decode cX4_init 13 = .ok (.return_, 1) := by decide +kernel
theorem dX4_hasRoomFor_0 : decode cX4_hasRoomFor 0 = .ok (.iload_n 1, 1) := by decide +kernel
theorem dX4_hasRoomFor_1 : decode cX4_hasRoomFor 1 = .ok (.sipush 250, 3) := by decide +kernel
theorem dX4_hasRoomFor_4 : decode cX4_hasRoomFor 4 = .ok (.aload_n 0, 1) := by decide +kernel
theorem dX4_hasRoomFor_5 : decode cX4_hasRoomFor 5 = .ok (.getfield 13, 3) := by decide +kernel
theorem dX4_hasRoomFor_8 : decode cX4_hasRoomFor 8 = .ok (.isub, 1) := by decide +kernel
theorem dX4_hasRoomFor_9 : decode cX4_hasRoomFor 9 = .ok (.if_icmp .gt 7, 3) := by decide +kernel
theorem dX4_hasRoomFor_12 : decode cX4_hasRoomFor 12 = .ok (.iconst 1, 1) := by decide +kernel
theorem dX4_hasRoomFor_13 : decode cX4_hasRoomFor 13 = .ok (.goto 4, 3) := by decide +kernel
theorem dX4_hasRoomFor_16 : decode cX4_hasRoomFor 16 = .ok (.iconst 0, 1) := by decide +kernel
theorem dX4_hasRoomFor_17 : decode cX4_hasRoomFor 17 = .ok (.ireturn, 1) := by decide +kernel
theorem dX4_append_0 : decode cX4_append 0 = .ok (.iload_n 3, 1) := by decide +kernel
theorem dX4_append_1 : decode cX4_append 1 = .ok (.iconst 1, 1) := by decide +kernel
theorem dX4_append_2 : decode cX4_append 2 = .ok (.isub, 1) := by decide +kernel
theorem dX4_append_3 : decode cX4_append 3 = .ok (.istore 4, 2) := by decide +kernel
theorem dX4_append_5 : decode cX4_append 5 = .ok (.iload 4, 2) := by decide +kernel
theorem dX4_append_7 : decode cX4_append 7 = .ok (.ifCond .lt 47, 3) := by decide +kernel
theorem dX4_append_10 : decode cX4_append 10 = .ok (.aload_n 0, 1) := by decide +kernel
theorem dX4_append_11 : decode cX4_append 11 = .ok (.getfield 13, 3) := by decide +kernel
theorem dX4_append_14 : decode cX4_append 14 = .ok (.sipush 250, 3) := by decide +kernel
theorem dX4_append_17 : decode cX4_append 17 = .ok (.if_icmp .ge 37, 3) := by decide +kernel
theorem dX4_append_20 : decode cX4_append 20 = .ok (.aload_n 0, 1) := by decide +kernel
theorem dX4_append_21 : decode cX4_append 21 = .ok (.getfield 9, 3) := by decide +kernel
theorem dX4_append_24 : decode cX4_append 24 = .ok (.aload_n 0, 1) := by decide +kernel
theorem dX4_append_25 : decode cX4_append 25 = .ok (.getfield 13, 3) := by decide +kernel
theorem dX4_append_28 : decode cX4_append 28 = .ok (.lload_n 1, 1) := by decide +kernel
theorem dX4_append_29 : decode cX4_append 29 = .ok (.bipush 8, 2) := by decide +kernel
theorem dX4_append_31 : decode cX4_append 31 = .ok (.iload 4, 2) := by decide +kernel
theorem dX4_append_33 : decode cX4_append 33 = .ok (.imul, 1) := by decide +kernel
theorem dX4_append_34 : decode cX4_append 34 = .ok (.lushr, 1) := by decide +kernel
theorem dX4_append_35 : decode cX4_append 35 = .ok (.l2i, 1) := by decide +kernel
theorem dX4_append_36 : decode cX4_append 36 = .ok (.i2b, 1) := by decide +kernel
theorem dX4_append_37 : decode cX4_append 37 = .ok (.bastore, 1) := by decide +kernel
theorem dX4_append_38 : decode cX4_append 38 = .ok (.aload_n 0, 1) := by decide +kernel
theorem dX4_append_39 : decode cX4_append 39 = .ok (.dup, 1) := by decide +kernel
theorem dX4_append_40 : decode cX4_append 40 = .ok (.getfield 13, 3) := by decide +kernel
theorem dX4_append_43 : decode cX4_append 43 = .ok (.iconst 1, 1) := by decide +kernel
theorem dX4_append_44 : decode cX4_append 44 = .ok (.iadd, 1) := by decide +kernel
theorem dX4_append_45 : decode cX4_append 45 = .ok (.putfield 13, 3) := by decide +kernel
theorem dX4_append_48 : decode cX4_append 48 = .ok (.iinc 4 (-1), 3) := by decide +kernel
theorem dX4_append_51 : decode cX4_append 51 = .ok (.goto (-46), 3) := by decide +kernel
theorem dX4_append_54 : decode cX4_append 54 = .ok (.return_, 1) := by decide +kernel
theorem dX4_isLetter_0 : decode cX4_isLetter 0 = .ok (.iload_n 1, 1) := by decide +kernel
theorem dX4_isLetter_1 : decode cX4_isLetter 1 = .ok (.aload_n 0, 1) := by decide +kernel
theorem dX4_isLetter_2 : decode cX4_isLetter 2 = .ok (.getfield 13, 3) := by decide +kernel
theorem dX4_isLetter_5 : decode cX4_isLetter 5 = .ok (.if_icmp .ge 29, 3) := by decide +kernel
theorem dX4_isLetter_8 : decode cX4_isLetter 8 = .ok (.aload_n 0, 1) := by decide +kernel
theorem dX4_isLetter_9 : decode cX4_isLetter 9 = .ok (.getfield 9, 3) := by decide +kernel
theorem dX4_isLetter_12 : decode cX4_isLetter 12 = .ok (.iload_n 1, 1) := by decide +kernel
theorem dX4_isLetter_13 : decode cX4_isLetter 13 = .ok (.baload, 1) := by decide +kernel
theorem dX4_isLetter_14 : decode cX4_isLetter 14 = .ok (.bipush 97, 2) := by decide +kernel
theorem dX4_isLetter_16 : decode cX4_isLetter 16 = .ok (.if_icmp .lt 18, 3) := by decide +kernel
theorem dX4_isLetter_19 : decode cX4_isLetter 19 = .ok (.aload_n 0, 1) := by decide +kernel
theorem dX4_isLetter_20 : decode cX4_isLetter 20 = .ok (.getfield 9, 3) := by decide +kernel
theorem dX4_isLetter_23 : decode cX4_isLetter 23 = .ok (.iload_n 1, 1) := by decide +kernel
theorem dX4_isLetter_24 : decode cX4_isLetter 24 = .ok (.baload, 1) := by decide +kernel
theorem dX4_isLetter_25 : decode cX4_isLetter 25 = .ok (.bipush 122, 2) := by decide +kernel
theorem dX4_isLetter_27 : decode cX4_isLetter 27 = .ok (.if_icmp .gt 7, 3) := by decide +kernel
theorem dX4_isLetter_30 : decode cX4_isLetter 30 = .ok (.iconst 1, 1) := by decide +kernel
theorem dX4_isLetter_31 : decode cX4_isLetter 31 = .ok (.goto 4, 3) := by decide +kernel
theorem dX4_isLetter_34 : decode cX4_isLetter 34 = .ok (.iconst 0, 1) := by decide +kernel
theorem dX4_isLetter_35 : decode cX4_isLetter 35 = .ok (.ireturn, 1) := by decide +kernel
theorem dX4_isDigit_0 : decode cX4_isDigit 0 = .ok (.iload_n 1, 1) := by decide +kernel
theorem dX4_isDigit_1 : decode cX4_isDigit 1 = .ok (.aload_n 0, 1) := by decide +kernel
theorem dX4_isDigit_2 : decode cX4_isDigit 2 = .ok (.getfield 13, 3) := by decide +kernel
theorem dX4_isDigit_5 : decode cX4_isDigit 5 = .ok (.if_icmp .ge 29, 3) := by decide +kernel
theorem dX4_isDigit_8 : decode cX4_isDigit 8 = .ok (.aload_n 0, 1) := by decide +kernel
theorem dX4_isDigit_9 : decode cX4_isDigit 9 = .ok (.getfield 9, 3) := by decide +kernel
theorem dX4_isDigit_12 : decode cX4_isDigit 12 = .ok (.iload_n 1, 1) := by decide +kernel
theorem dX4_isDigit_13 : decode cX4_isDigit 13 = .ok (.baload, 1) := by decide +kernel
theorem dX4_isDigit_14 : decode cX4_isDigit 14 = .ok (.bipush 48, 2) := by decide +kernel
theorem dX4_isDigit_16 : decode cX4_isDigit 16 = .ok (.if_icmp .lt 18, 3) := by decide +kernel
theorem dX4_isDigit_19 : decode cX4_isDigit 19 = .ok (.aload_n 0, 1) := by decide +kernel
theorem dX4_isDigit_20 : decode cX4_isDigit 20 = .ok (.getfield 9, 3) := by decide +kernel
theorem dX4_isDigit_23 : decode cX4_isDigit 23 = .ok (.iload_n 1, 1) := by decide +kernel
theorem dX4_isDigit_24 : decode cX4_isDigit 24 = .ok (.baload, 1) := by decide +kernel
theorem dX4_isDigit_25 : decode cX4_isDigit 25 = .ok (.bipush 57, 2) := by decide +kernel
theorem dX4_isDigit_27 : decode cX4_isDigit 27 = .ok (.if_icmp .gt 7, 3) := by decide +kernel
theorem dX4_isDigit_30 : decode cX4_isDigit 30 = .ok (.iconst 1, 1) := by decide +kernel
theorem dX4_isDigit_31 : decode cX4_isDigit 31 = .ok (.goto 4, 3) := by decide +kernel
theorem dX4_isDigit_34 : decode cX4_isDigit 34 = .ok (.iconst 0, 1) := by decide +kernel
theorem dX4_isDigit_35 : decode cX4_isDigit 35 = .ok (.ireturn, 1) := by decide +kernel
set_option maxRecDepth 20000 in
theorem ggX4_isWord_J0_length_8abf5 : GoodIn wsX4_isWord wsJ0_length_8abf5 := goodIn_r _ [6, 7, 8, 9, 10, 5, 11, 12, 13] (by decide +kernel) (by decide +kernel)
set_option maxRecDepth 20000 in
theorem gX4_isWord_J0_length_8abf5 : GoodIn wsX4_isWord (wsV RX4 17 RJ0 yJ0_length_8abf5 wsJ0_length_8abf5) := goodIn_app (goodIn_of _ (by decide +kernel)) ggX4_isWord_J0_length_8abf5
set_option maxRecDepth 20000 in
theorem ggX4_isWord_J0_charAt_5068e : GoodIn wsX4_isWord wsJ0_charAt_5068e := goodIn_r _ [17, 7, 18, 19, 20, 5, 21, 12, 13, 22, 23, 24, 25, 26, 27, 28, 29, 30, 31, 32, 33, 34, 35, 36, 37, 38, 39, 40, 41, 42, 43, 44, 45, 46, 47, 48, 49, 50] (by decide +kernel) (by decide +kernel)
set_option maxRecDepth 20000 in
theorem gX4_isWord_J0_charAt_5068e : GoodIn wsX4_isWord (wsV RX4 22 RJ0 yJ0_charAt_5068e wsJ0_charAt_5068e) := goodIn_app (goodIn_of _ (by decide +kernel)) ggX4_isWord_J0_charAt_5068e
theorem dX4_isWord_0 : decode cX4_isWord 0 = .ok (.iload_n 3, 1) := by decide +kernel
theorem dX4_isWord_1 : decode cX4_isWord 1 = .ok (.iload_n 2, 1) := by decide +kernel
theorem dX4_isWord_2 : decode cX4_isWord 2 = .ok (.isub, 1) := by decide +kernel
theorem dX4_isWord_3 : decode cX4_isWord 3 = .ok (.aload_n 1, 1) := by decide +kernel
theorem dX4_isWord_4 : decode cX4_isWord 4 = .ok (.invokevirtual 17, 3) := by decide +kernel
theorem dX4_isWord_7 : decode cX4_isWord 7 = .ok (.if_icmp .eq 5, 3) := by decide +kernel
theorem dX4_isWord_10 : decode cX4_isWord 10 = .ok (.iconst 0, 1) := by decide +kernel
theorem dX4_isWord_11 : decode cX4_isWord 11 = .ok (.ireturn, 1) := by decide +kernel
theorem dX4_isWord_12 : decode cX4_isWord 12 = .ok (.iconst 0, 1) := by decide +kernel
theorem dX4_isWord_13 : decode cX4_isWord 13 = .ok (.istore 4, 2) := by decide +kernel
theorem dX4_isWord_15 : decode cX4_isWord 15 = .ok (.iload 4, 2) := by decide +kernel
theorem dX4_isWord_17 : decode cX4_isWord 17 = .ok (.aload_n 1, 1) := by decide +kernel
theorem dX4_isWord_18 : decode cX4_isWord 18 = .ok (.invokevirtual 17, 3) := by decide +kernel
theorem dX4_isWord_21 : decode cX4_isWord 21 = .ok (.if_icmp .ge 29, 3) := by decide +kernel
theorem dX4_isWord_24 : decode cX4_isWord 24 = .ok (.aload_n 0, 1) := by decide +kernel
theorem dX4_isWord_25 : decode cX4_isWord 25 = .ok (.getfield 9, 3) := by decide +kernel
theorem dX4_isWord_28 : decode cX4_isWord 28 = .ok (.iload_n 2, 1) := by decide +kernel
theorem dX4_isWord_29 : decode cX4_isWord 29 = .ok (.iload 4, 2) := by decide +kernel
theorem dX4_isWord_31 : decode cX4_isWord 31 = .ok (.iadd, 1) := by decide +kernel
theorem dX4_isWord_32 : decode cX4_isWord 32 = .ok (.baload, 1) := by decide +kernel
theorem dX4_isWord_33 : decode cX4_isWord 33 = .ok (.aload_n 1, 1) := by decide +kernel
theorem dX4_isWord_34 : decode cX4_isWord 34 = .ok (.iload 4, 2) := by decide +kernel
theorem dX4_isWord_36 : decode cX4_isWord 36 = .ok (.invokevirtual 22, 3) := by decide +kernel
theorem dX4_isWord_39 : decode cX4_isWord 39 = .ok (.if_icmp .eq 5, 3) := by decide +kernel
theorem dX4_isWord_42 : decode cX4_isWord 42 = .ok (.iconst 0, 1) := by decide +kernel
theorem dX4_isWord_43 : decode cX4_isWord 43 = .ok (.ireturn, 1) := by decide +kernel
theorem dX4_isWord_44 : decode cX4_isWord 44 = .ok (.iinc 4 1, 3) := by decide +kernel
theorem dX4_isWord_47 : decode cX4_isWord 47 = .ok (.goto (-32), 3) := by decide +kernel
theorem dX4_isWord_50 : decode cX4_isWord 50 = .ok (.iconst 1, 1) := by decide +kernel
theorem dX4_isWord_51 : decode cX4_isWord 51 = .ok (.ireturn, 1) := by decide +kernel
theorem dX5_init_0 : decode cX5_init 0 = .ok (.aload_n 0, 1) := by decide +kernel
theorem dX5_init_1 : decode cX5_init 1 = .ok (.invokespecial 3, 3) := by decide +kernel
theorem dX5_init_4 : decode cX5_init 4 = .ok (.aload_n 0, 1) := by decide +kernel
theorem dX5_init_5 : decode cX5_init 5 = .ok (.sipush 251, 3) := by decide +kernel
theorem dX5_init_8 : decode cX5_init 8 = .ok (.newarray .int, 2) := by decide +kernel
theorem dX5_init_10 : decode cX5_init 10 = .ok (.putfield 11, 3) := by decide +kernel
theorem dX5_init_13 : decode cX5_init 13 = .ok (.aload_n 0, 1) := by decide +kernel
theorem dX5_init_14 : decode cX5_init 14 = .ok (.sipush 251, 3) := by decide +kernel
theorem dX5_init_17 : decode cX5_init 17 = .ok (.newarray .int, 2) := by decide +kernel
theorem dX5_init_19 : decode cX5_init 19 = .ok (.putfield 15, 3) := by decide +kernel
theorem dX5_init_22 : decode cX5_init 22 = .ok (.aload_n 0, 1) := by decide +kernel
theorem dX5_init_23 : decode cX5_init 23 = .ok (.sipush 251, 3) := by decide +kernel
theorem dX5_init_26 : decode cX5_init 26 = .ok (.newarray .int, 2) := by decide +kernel
theorem dX5_init_28 : decode cX5_init 28 = .ok (.putfield 18, 3) := by decide +kernel
theorem dX5_init_31 : decode cX5_init 31 = .ok (.return_, 1) := by decide +kernel
set_option maxRecDepth 20000 in
theorem ggX5_cut_X5_skipBlanks : GoodIn wsX5_cut wsX5_skipBlanks := goodIn_r _ [7, 2, 8, 100, 101] (by decide +kernel) (by decide +kernel)
set_option maxRecDepth 20000 in
theorem gX5_cut_X5_skipBlanks : GoodIn wsX5_cut (wsV RX5 25 RX5 yX5_skipBlanks wsX5_skipBlanks) := goodIn_app (goodIn_of _ (by decide +kernel)) ggX5_cut_X5_skipBlanks
set_option maxRecDepth 20000 in
theorem ggX5_cut_X5_cutOne : GoodIn wsX5_cut wsX5_cutOne := goodIn_r _ [12, 8, 13, 14, 15, 16, 17, 18, 19, 20, 21, 22, 6, 23, 2, 24, 25, 26, 27, 28, 29, 30, 31, 32, 33, 34, 35, 36, 37, 38, 39, 40, 41, 42, 43, 44, 45, 46, 47, 48, 49, 50, 51, 52, 53, 54, 55, 56, 57, 58, 59, 60, 61, 62, 63, 64, 65, 66, 67, 68, 69, 70, 71, 72, 73, 74, 75, 76, 77, 78, 79, 80, 81, 82, 83, 84, 1, 85, 86, 87, 88, 89, 90, 91, 92, 93, 94, 95, 100, 101, 96, 97, 98, 99] (by decide +kernel) (by decide +kernel)
set_option maxRecDepth 20000 in
theorem gX5_cut_X5_cutOne : GoodIn wsX5_cut (wsV RX5 32 RX5 yX5_cutOne wsX5_cutOne) := goodIn_app (goodIn_of _ (by decide +kernel)) ggX5_cut_X5_cutOne
set_option maxRecDepth 20000 in
theorem ggX5_cut_X5_add : GoodIn wsX5_cut wsX5_add := goodIn_r _ [84, 1, 85, 86, 87, 96, 97, 98, 99] (by decide +kernel) (by decide +kernel)
set_option maxRecDepth 20000 in
theorem gX5_cut_X5_add : GoodIn wsX5_cut (wsV RX5 35 RX5 yX5_add wsX5_add) := goodIn_app (goodIn_of _ (by decide +kernel)) ggX5_cut_X5_add
theorem dX5_cut_0 : decode cX5_cut 0 = .ok (.aload_n 0, 1) := by decide +kernel
theorem dX5_cut_1 : decode cX5_cut 1 = .ok (.iconst 0, 1) := by decide +kernel
theorem dX5_cut_2 : decode cX5_cut 2 = .ok (.putfield 21, 3) := by decide +kernel
theorem dX5_cut_5 : decode cX5_cut 5 = .ok (.aload_n 0, 1) := by decide +kernel
theorem dX5_cut_6 : decode cX5_cut 6 = .ok (.aload_n 1, 1) := by decide +kernel
theorem dX5_cut_7 : decode cX5_cut 7 = .ok (.iconst 0, 1) := by decide +kernel
theorem dX5_cut_8 : decode cX5_cut 8 = .ok (.invokevirtual 25, 3) := by decide +kernel
theorem dX5_cut_11 : decode cX5_cut 11 = .ok (.istore_n 2, 1) := by decide +kernel
theorem dX5_cut_12 : decode cX5_cut 12 = .ok (.iconst 0, 1) := by decide +kernel
theorem dX5_cut_13 : decode cX5_cut 13 = .ok (.istore_n 3, 1) := by decide +kernel
theorem dX5_cut_14 : decode cX5_cut 14 = .ok (.iload_n 3, 1) := by decide +kernel
theorem dX5_cut_15 : decode cX5_cut 15 = .ok (.sipush 250, 3) := by decide +kernel
theorem dX5_cut_18 : decode cX5_cut 18 = .ok (.if_icmp .ge 29, 3) := by decide +kernel
theorem dX5_cut_21 : decode cX5_cut 21 = .ok (.iload_n 2, 1) := by decide +kernel
theorem dX5_cut_22 : decode cX5_cut 22 = .ok (.aload_n 1, 1) := by decide +kernel
theorem dX5_cut_23 : decode cX5_cut 23 = .ok (.getfield 29, 3) := by decide +kernel
theorem dX5_cut_26 : decode cX5_cut 26 = .ok (.if_icmp .ge 21, 3) := by decide +kernel
theorem dX5_cut_29 : decode cX5_cut 29 = .ok (.aload_n 0, 1) := by decide +kernel
theorem dX5_cut_30 : decode cX5_cut 30 = .ok (.aload_n 1, 1) := by decide +kernel
theorem dX5_cut_31 : decode cX5_cut 31 = .ok (.aload_n 0, 1) := by decide +kernel
theorem dX5_cut_32 : decode cX5_cut 32 = .ok (.aload_n 1, 1) := by decide +kernel
theorem dX5_cut_33 : decode cX5_cut 33 = .ok (.iload_n 2, 1) := by decide +kernel
theorem dX5_cut_34 : decode cX5_cut 34 = .ok (.invokevirtual 32, 3) := by decide +kernel
theorem dX5_cut_37 : decode cX5_cut 37 = .ok (.invokevirtual 25, 3) := by decide +kernel
theorem dX5_cut_40 : decode cX5_cut 40 = .ok (.istore_n 2, 1) := by decide +kernel
theorem dX5_cut_41 : decode cX5_cut 41 = .ok (.iinc 3 1, 3) := by decide +kernel
theorem dX5_cut_44 : decode cX5_cut 44 = .ok (.goto (-30), 3) := by decide +kernel
theorem dX5_cut_47 : decode cX5_cut 47 = .ok (.aload_n 0, 1) := by decide +kernel
theorem dX5_cut_48 : decode cX5_cut 48 = .ok (.aload_n 1, 1) := by decide +kernel
theorem dX5_cut_49 : decode cX5_cut 49 = .ok (.getfield 29, 3) := by decide +kernel
theorem dX5_cut_52 : decode cX5_cut 52 = .ok (.iconst 0, 1) := by decide +kernel
theorem dX5_cut_53 : decode cX5_cut 53 = .ok (.iconst 0, 1) := by decide +kernel
theorem dX5_cut_54 : decode cX5_cut 54 = .ok (.invokevirtual 35, 3) := by decide +kernel
theorem dX5_cut_57 : decode cX5_cut 57 = .ok (.return_, 1) := by decide +kernel
theorem dX5_skipBlanks_0 : decode cX5_skipBlanks 0 = .ok (.iload_n 2, 1) := by decide +kernel
theorem dX5_skipBlanks_1 : decode cX5_skipBlanks 1 = .ok (.istore_n 3, 1) := by decide +kernel
theorem dX5_skipBlanks_2 : decode cX5_skipBlanks 2 = .ok (.iload_n 3, 1) := by decide +kernel
theorem dX5_skipBlanks_3 : decode cX5_skipBlanks 3 = .ok (.aload_n 1, 1) := by decide +kernel
theorem dX5_skipBlanks_4 : decode cX5_skipBlanks 4 = .ok (.getfield 29, 3) := by decide +kernel
theorem dX5_skipBlanks_7 : decode cX5_skipBlanks 7 = .ok (.if_icmp .ge 20, 3) := by decide +kernel
theorem dX5_skipBlanks_10 : decode cX5_skipBlanks 10 = .ok (.aload_n 1, 1) := by decide +kernel
theorem dX5_skipBlanks_11 : decode cX5_skipBlanks 11 = .ok (.getfield 39, 3) := by decide +kernel
theorem dX5_skipBlanks_14 : decode cX5_skipBlanks 14 = .ok (.iload_n 3, 1) := by decide +kernel
theorem dX5_skipBlanks_15 : decode cX5_skipBlanks 15 = .ok (.baload, 1) := by decide +kernel
theorem dX5_skipBlanks_16 : decode cX5_skipBlanks 16 = .ok (.bipush 32, 2) := by decide +kernel
theorem dX5_skipBlanks_18 : decode cX5_skipBlanks 18 = .ok (.if_icmp .ne 9, 3) := by decide +kernel
theorem dX5_skipBlanks_21 : decode cX5_skipBlanks 21 = .ok (.iinc 3 1, 3) := by decide +kernel
theorem dX5_skipBlanks_24 : decode cX5_skipBlanks 24 = .ok (.goto (-22), 3) := by decide +kernel
theorem dX5_skipBlanks_27 : decode cX5_skipBlanks 27 = .ok (.iload_n 3, 1) := by decide +kernel
theorem dX5_skipBlanks_28 : decode cX5_skipBlanks 28 = .ok (.ireturn, 1) := by decide +kernel
set_option maxRecDepth 20000 in
theorem ggX5_cutOne_X4_isLetter : GoodIn wsX5_cutOne wsX4_isLetter := goodIn_r _ [6, 7, 8, 88, 89] (by decide +kernel) (by decide +kernel)
set_option maxRecDepth 20000 in
theorem gX5_cutOne_X4_isLetter : GoodIn wsX5_cutOne (wsV RX5 43 RX4 yX4_isLetter wsX4_isLetter) := goodIn_app (goodIn_of _ (by decide +kernel)) ggX5_cutOne_X4_isLetter
set_option maxRecDepth 20000 in
theorem ggX5_cutOne_X5_cutWord : GoodIn wsX5_cutOne wsX5_cutWord := goodIn_r _ [13, 14, 2, 3, 4, 5, 6, 7, 8, 15, 16, 17, 12, 18, 19, 20, 21, 22, 23, 24, 25, 26, 27, 28, 29, 30, 31, 32, 33, 34, 35, 36, 37, 38, 39, 40, 41, 42, 43, 44, 45, 46, 47, 48, 49, 50, 51, 52, 53, 54, 55, 56, 57, 58, 59, 60, 61, 62, 63, 64, 65, 66, 67, 68, 69, 70, 71, 72, 73, 74, 75, 76, 77, 78, 79, 88, 89, 90, 91, 92, 93] (by decide +kernel) (by decide +kernel)
set_option maxRecDepth 20000 in
theorem gX5_cutOne_X5_cutWord : GoodIn wsX5_cutOne (wsV RX5 47 RX5 yX5_cutWord wsX5_cutWord) := goodIn_app (goodIn_of _ (by decide +kernel)) ggX5_cutOne_X5_cutWord
set_option maxRecDepth 20000 in
theorem ggX5_cutOne_X4_isDigit : GoodIn wsX5_cutOne wsX4_isDigit := goodIn_r _ [83, 7, 8, 88, 89] (by decide +kernel) (by decide +kernel)
set_option maxRecDepth 20000 in
theorem gX5_cutOne_X4_isDigit : GoodIn wsX5_cutOne (wsV RX5 50 RX4 yX4_isDigit wsX4_isDigit) := goodIn_app (goodIn_of _ (by decide +kernel)) ggX5_cutOne_X4_isDigit
set_option maxRecDepth 20000 in
theorem ggX5_cutOne_X5_cutNumber : GoodIn wsX5_cutOne wsX5_cutNumber := goodIn_r _ [87, 14, 1, 80, 81, 82, 5, 83, 7, 8, 72, 73, 74, 12, 75, 76, 77, 78, 79, 88, 89, 90, 91, 92, 93] (by decide +kernel) (by decide +kernel)
set_option maxRecDepth 20000 in
theorem gX5_cutOne_X5_cutNumber : GoodIn wsX5_cutOne (wsV RX5 53 RX5 yX5_cutNumber wsX5_cutNumber) := goodIn_app (goodIn_of _ (by decide +kernel)) ggX5_cutOne_X5_cutNumber
set_option maxRecDepth 20000 in
theorem ggX5_cutOne_X5_add : GoodIn wsX5_cutOne wsX5_add := goodIn_r _ [75, 76, 77, 78, 79, 90, 91, 92, 93] (by decide +kernel) (by decide +kernel)
set_option maxRecDepth 20000 in
theorem gX5_cutOne_X5_add : GoodIn wsX5_cutOne (wsV RX5 35 RX5 yX5_add wsX5_add) := goodIn_app (goodIn_of _ (by decide +kernel)) ggX5_cutOne_X5_add
theorem dX5_cutOne_0 : decode cX5_cutOne 0 = .ok (.aload_n 1, 1) := by decide +kernel
theorem dX5_cutOne_1 : decode cX5_cutOne 1 = .ok (.iload_n 2, 1) := by decide +kernel
theorem dX5_cutOne_2 : decode cX5_cutOne 2 = .ok (.invokevirtual 43, 3) := by decide +kernel
theorem dX5_cutOne_5 : decode cX5_cutOne 5 = .ok (.ifCond .eq 10, 3) := by decide +kernel
theorem dX5_cutOne_8 : decode cX5_cutOne 8 = .ok (.aload_n 0, 1) := by decide +kernel
theorem dX5_cutOne_9 : decode cX5_cutOne 9 = .ok (.aload_n 1, 1) := by decide +kernel
theorem dX5_cutOne_10 : decode cX5_cutOne 10 = .ok (.iload_n 2, 1) := by decide +kernel
theorem dX5_cutOne_11 : decode cX5_cutOne 11 = .ok (.invokevirtual 47, 3) := by decide +kernel
theorem dX5_cutOne_14 : decode cX5_cutOne 14 = .ok (.ireturn, 1) := by decide +kernel
theorem dX5_cutOne_15 : decode cX5_cutOne 15 = .ok (.aload_n 1, 1) := by decide +kernel
theorem dX5_cutOne_16 : decode cX5_cutOne 16 = .ok (.iload_n 2, 1) := by decide +kernel
theorem dX5_cutOne_17 : decode cX5_cutOne 17 = .ok (.invokevirtual 50, 3) := by decide +kernel
theorem dX5_cutOne_20 : decode cX5_cutOne 20 = .ok (.ifCond .eq 10, 3) := by decide +kernel
theorem dX5_cutOne_23 : decode cX5_cutOne 23 = .ok (.aload_n 0, 1) := by decide +kernel
theorem dX5_cutOne_24 : decode cX5_cutOne 24 = .ok (.aload_n 1, 1) := by decide +kernel
theorem dX5_cutOne_25 : decode cX5_cutOne 25 = .ok (.iload_n 2, 1) := by decide +kernel
theorem dX5_cutOne_26 : decode cX5_cutOne 26 = .ok (.invokevirtual 53, 3) := by decide +kernel
theorem dX5_cutOne_29 : decode cX5_cutOne 29 = .ok (.ireturn, 1) := by decide +kernel
theorem dX5_cutOne_30 : decode cX5_cutOne 30 = .ok (.aload_n 0, 1) := by decide +kernel
theorem dX5_cutOne_31 : decode cX5_cutOne 31 = .ok (.iload_n 2, 1) := by decide +kernel
theorem dX5_cutOne_32 : decode cX5_cutOne 32 = .ok (.aload_n 1, 1) := by decide +kernel
theorem dX5_cutOne_33 : decode cX5_cutOne 33 = .ok (.getfield 39, 3) := by decide +kernel
theorem dX5_cutOne_36 : decode cX5_cutOne 36 = .ok (.iload_n 2, 1) := by decide +kernel
theorem dX5_cutOne_37 : decode cX5_cutOne 37 = .ok (.baload, 1) := by decide +kernel
theorem dX5_cutOne_38 : decode cX5_cutOne 38 = .ok (.bipush 59, 2) := by decide +kernel
theorem dX5_cutOne_40 : decode cX5_cutOne 40 = .ok (.if_icmp .ne 7, 3) := by decide +kernel
theorem dX5_cutOne_43 : decode cX5_cutOne 43 = .ok (.iconst 3, 1) := by decide +kernel
theorem dX5_cutOne_44 : decode cX5_cutOne 44 = .ok (.goto 4, 3) := by decide +kernel
theorem dX5_cutOne_47 : decode cX5_cutOne 47 = .ok (.iconst 4, 1) := by decide +kernel
theorem dX5_cutOne_48 : decode cX5_cutOne 48 = .ok (.iconst 0, 1) := by decide +kernel
theorem dX5_cutOne_49 : decode cX5_cutOne 49 = .ok (.invokevirtual 35, 3) := by decide +kernel
theorem dX5_cutOne_52 : decode cX5_cutOne 52 = .ok (.iload_n 2, 1) := by decide +kernel
theorem dX5_cutOne_53 : decode cX5_cutOne 53 = .ok (.iconst 1, 1) := by decide +kernel
theorem dX5_cutOne_54 : decode cX5_cutOne 54 = .ok (.iadd, 1) := by decide +kernel
theorem dX5_cutOne_55 : decode cX5_cutOne 55 = .ok (.ireturn, 1) := by decide +kernel
set_option maxRecDepth 20000 in
theorem ggX5_cutWord_X4_isLetter : GoodIn wsX5_cutWord wsX4_isLetter := goodIn_r _ [6, 7, 8, 75, 76] (by decide +kernel) (by decide +kernel)
set_option maxRecDepth 20000 in
theorem gX5_cutWord_X4_isLetter : GoodIn wsX5_cutWord (wsV RX5 43 RX4 yX4_isLetter wsX4_isLetter) := goodIn_app (goodIn_of _ (by decide +kernel)) ggX5_cutWord_X4_isLetter
set_option maxRecDepth 20000 in
theorem ggX5_cutWord_X5_whichWord : GoodIn wsX5_cutWord wsX5_whichWord := goodIn_r _ [13, 14, 15, 16, 5, 17, 8, 18, 19, 20, 21, 22, 23, 24, 25, 26, 27, 28, 29, 30, 31, 32, 33, 34, 35, 36, 37, 38, 39, 40, 41, 42, 43, 44, 45, 46, 47, 48, 49, 50, 51, 52, 53, 54, 55, 56, 57, 58, 59, 60, 61, 62, 63, 64, 65, 66, 75, 76] (by decide +kernel) (by decide +kernel)
set_option maxRecDepth 20000 in
theorem gX5_cutWord_X5_whichWord : GoodIn wsX5_cutWord (wsV RX5 56 RX5 yX5_whichWord wsX5_whichWord) := goodIn_app (goodIn_of _ (by decide +kernel)) ggX5_cutWord_X5_whichWord
set_option maxRecDepth 20000 in
theorem ggX5_cutWord_X5_add : GoodIn wsX5_cutWord wsX5_add := goodIn_r _ [70, 71, 72, 73, 74, 77, 78, 79, 80] (by decide +kernel) (by decide +kernel)
set_option maxRecDepth 20000 in
theorem gX5_cutWord_X5_add : GoodIn wsX5_cutWord (wsV RX5 35 RX5 yX5_add wsX5_add) := goodIn_app (goodIn_of _ (by decide +kernel)) ggX5_cutWord_X5_add
theorem dX5_cutWord_0 : decode cX5_cutWord 0 = .ok (.iload_n 2, 1) := by decide +kernel
theorem dX5_cutWord_1 : decode cX5_cutWord 1 = .ok (.istore_n 3, 1) := by decide +kernel
theorem dX5_cutWord_2 : decode cX5_cutWord 2 = .ok (.iload_n 3, 1) := by decide +kernel
theorem dX5_cutWord_3 : decode cX5_cutWord 3 = .ok (.aload_n 1, 1) := by decide +kernel
theorem dX5_cutWord_4 : decode cX5_cutWord 4 = .ok (.getfield 29, 3) := by decide +kernel
theorem dX5_cutWord_7 : decode cX5_cutWord 7 = .ok (.if_icmp .ge 17, 3) := by decide +kernel
theorem dX5_cutWord_10 : decode cX5_cutWord 10 = .ok (.aload_n 1, 1) := by decide +kernel
theorem dX5_cutWord_11 : decode cX5_cutWord 11 = .ok (.iload_n 3, 1) := by decide +kernel
theorem dX5_cutWord_12 : decode cX5_cutWord 12 = .ok (.invokevirtual 43, 3) := by decide +kernel
theorem dX5_cutWord_15 : decode cX5_cutWord 15 = .ok (.ifCond .eq 9, 3) := by decide +kernel
theorem dX5_cutWord_18 : decode cX5_cutWord 18 = .ok (.iinc 3 1, 3) := by decide +kernel
theorem dX5_cutWord_21 : decode cX5_cutWord 21 = .ok (.goto (-19), 3) := by decide +kernel
theorem dX5_cutWord_24 : decode cX5_cutWord 24 = .ok (.aload_n 0, 1) := by decide +kernel
theorem dX5_cutWord_25 : decode cX5_cutWord 25 = .ok (.aload_n 1, 1) := by decide +kernel
theorem dX5_cutWord_26 : decode cX5_cutWord 26 = .ok (.iload_n 2, 1) := by decide +kernel
theorem dX5_cutWord_27 : decode cX5_cutWord 27 = .ok (.iload_n 3, 1) := by decide +kernel
theorem dX5_cutWord_28 : decode cX5_cutWord 28 = .ok (.invokevirtual 56, 3) := by decide +kernel
theorem dX5_cutWord_31 : decode cX5_cutWord 31 = .ok (.istore 4, 2) := by decide +kernel
theorem dX5_cutWord_33 : decode cX5_cutWord 33 = .ok (.aload_n 0, 1) := by decide +kernel
theorem dX5_cutWord_34 : decode cX5_cutWord 34 = .ok (.iload_n 2, 1) := by decide +kernel
theorem dX5_cutWord_35 : decode cX5_cutWord 35 = .ok (.iload 4, 2) := by decide +kernel
theorem dX5_cutWord_37 : decode cX5_cutWord 37 = .ok (.ifCond .ne 7, 3) := by decide +kernel
theorem dX5_cutWord_40 : decode cX5_cutWord 40 = .ok (.iconst 4, 1) := by decide +kernel
theorem dX5_cutWord_41 : decode cX5_cutWord 41 = .ok (.goto 4, 3) := by decide +kernel
theorem dX5_cutWord_44 : decode cX5_cutWord 44 = .ok (.iconst 1, 1) := by decide +kernel
theorem dX5_cutWord_45 : decode cX5_cutWord 45 = .ok (.iload 4, 2) := by decide +kernel
theorem dX5_cutWord_47 : decode cX5_cutWord 47 = .ok (.invokevirtual 35, 3) := by decide +kernel
theorem dX5_cutWord_50 : decode cX5_cutWord 50 = .ok (.iload_n 3, 1) := by decide +kernel
theorem dX5_cutWord_51 : decode cX5_cutWord 51 = .ok (.ireturn, 1) := by decide +kernel
set_option maxRecDepth 20000 in
theorem ggX5_whichWord_X4_isWord : GoodIn wsX5_whichWord wsX4_isWord := goodIn_r _ [5, 6, 7, 8, 9, 10, 11, 12, 13, 14, 15, 16, 17, 18, 19, 20, 21, 22, 23, 24, 25, 26, 27, 28, 29, 30, 31, 32, 33, 34, 35, 36, 37, 38, 39, 40, 41, 42, 43, 44, 45, 46, 47, 48, 49, 50, 51, 52, 53, 54, 55, 56, 57] (by decide +kernel) (by decide +kernel)
set_option maxRecDepth 20000 in
theorem gX5_whichWord_X4_isWord : GoodIn wsX5_whichWord (wsV RX5 62 RX4 yX4_isWord wsX4_isWord) := goodIn_app (goodIn_of _ (by decide +kernel)) ggX5_whichWord_X4_isWord
theorem dX5_whichWord_0 : decode cX5_whichWord 0 = .ok (.aload_n 1, 1) := by decide +kernel
theorem dX5_whichWord_1 : decode cX5_whichWord 1 = .ok (.ldc 60, 2) := by decide +kernel
theorem dX5_whichWord_3 : decode cX5_whichWord 3 = .ok (.iload_n 2, 1) := by decide +kernel
theorem dX5_whichWord_4 : decode cX5_whichWord 4 = .ok (.iload_n 3, 1) := by decide +kernel
theorem dX5_whichWord_5 : decode cX5_whichWord 5 = .ok (.invokevirtual 62, 3) := by decide +kernel
theorem dX5_whichWord_8 : decode cX5_whichWord 8 = .ok (.ifCond .eq 5, 3) := by decide +kernel
theorem dX5_whichWord_11 : decode cX5_whichWord 11 = .ok (.iconst 1, 1) := by decide +kernel
theorem dX5_whichWord_12 : decode cX5_whichWord 12 = .ok (.ireturn, 1) := by decide +kernel
theorem dX5_whichWord_13 : decode cX5_whichWord 13 = .ok (.aload_n 1, 1) := by decide +kernel
theorem dX5_whichWord_14 : decode cX5_whichWord 14 = .ok (.ldc 66, 2) := by decide +kernel
theorem dX5_whichWord_16 : decode cX5_whichWord 16 = .ok (.iload_n 2, 1) := by decide +kernel
theorem dX5_whichWord_17 : decode cX5_whichWord 17 = .ok (.iload_n 3, 1) := by decide +kernel
theorem dX5_whichWord_18 : decode cX5_whichWord 18 = .ok (.invokevirtual 62, 3) := by decide +kernel
theorem dX5_whichWord_21 : decode cX5_whichWord 21 = .ok (.ifCond .eq 5, 3) := by decide +kernel
theorem dX5_whichWord_24 : decode cX5_whichWord 24 = .ok (.iconst 2, 1) := by decide +kernel
theorem dX5_whichWord_25 : decode cX5_whichWord 25 = .ok (.ireturn, 1) := by decide +kernel
theorem dX5_whichWord_26 : decode cX5_whichWord 26 = .ok (.aload_n 1, 1) := by decide +kernel
theorem dX5_whichWord_27 : decode cX5_whichWord 27 = .ok (.ldc 68, 2) := by decide +kernel
theorem dX5_whichWord_29 : decode cX5_whichWord 29 = .ok (.iload_n 2, 1) := by decide +kernel
theorem dX5_whichWord_30 : decode cX5_whichWord 30 = .ok (.iload_n 3, 1) := by decide +kernel
theorem dX5_whichWord_31 : decode cX5_whichWord 31 = .ok (.invokevirtual 62, 3) := by decide +kernel
theorem dX5_whichWord_34 : decode cX5_whichWord 34 = .ok (.ifCond .eq 5, 3) := by decide +kernel
theorem dX5_whichWord_37 : decode cX5_whichWord 37 = .ok (.iconst 3, 1) := by decide +kernel
theorem dX5_whichWord_38 : decode cX5_whichWord 38 = .ok (.ireturn, 1) := by decide +kernel
theorem dX5_whichWord_39 : decode cX5_whichWord 39 = .ok (.aload_n 1, 1) := by decide +kernel
theorem dX5_whichWord_40 : decode cX5_whichWord 40 = .ok (.ldc 70, 2) := by decide +kernel
theorem dX5_whichWord_42 : decode cX5_whichWord 42 = .ok (.iload_n 2, 1) := by decide +kernel
theorem dX5_whichWord_43 : decode cX5_whichWord 43 = .ok (.iload_n 3, 1) := by decide +kernel
theorem dX5_whichWord_44 : decode cX5_whichWord 44 = .ok (.invokevirtual 62, 3) := by decide +kernel
theorem dX5_whichWord_47 : decode cX5_whichWord 47 = .ok (.ifCond .eq 7, 3) := by decide +kernel
theorem dX5_whichWord_50 : decode cX5_whichWord 50 = .ok (.iconst 4, 1) := by decide +kernel
theorem dX5_whichWord_51 : decode cX5_whichWord 51 = .ok (.goto 4, 3) := by decide +kernel
theorem dX5_whichWord_54 : decode cX5_whichWord 54 = .ok (.iconst 0, 1) := by decide +kernel
theorem dX5_whichWord_55 : decode cX5_whichWord 55 = .ok (.ireturn, 1) := by decide +kernel
set_option maxRecDepth 20000 in
theorem ggX5_cutNumber_X4_isDigit : GoodIn wsX5_cutNumber wsX4_isDigit := goodIn_r _ [7, 8, 9, 19, 20] (by decide +kernel) (by decide +kernel)
set_option maxRecDepth 20000 in
theorem gX5_cutNumber_X4_isDigit : GoodIn wsX5_cutNumber (wsV RX5 50 RX4 yX4_isDigit wsX4_isDigit) := goodIn_app (goodIn_of _ (by decide +kernel)) ggX5_cutNumber_X4_isDigit
set_option maxRecDepth 20000 in
theorem ggX5_cutNumber_X5_add : GoodIn wsX5_cutNumber wsX5_add := goodIn_r _ [14, 15, 16, 17, 18, 21, 22, 23, 24] (by decide +kernel) (by decide +kernel)
set_option maxRecDepth 20000 in
theorem gX5_cutNumber_X5_add : GoodIn wsX5_cutNumber (wsV RX5 35 RX5 yX5_add wsX5_add) := goodIn_app (goodIn_of _ (by decide +kernel)) ggX5_cutNumber_X5_add
theorem dX5_cutNumber_0 : decode cX5_cutNumber 0 = .ok (.iload_n 2, 1) := by decide +kernel
theorem dX5_cutNumber_1 : decode cX5_cutNumber 1 = .ok (.istore_n 3, 1) := by decide +kernel
theorem dX5_cutNumber_2 : decode cX5_cutNumber 2 = .ok (.iconst 0, 1) := by decide +kernel
theorem dX5_cutNumber_3 : decode cX5_cutNumber 3 = .ok (.istore 4, 2) := by decide +kernel
theorem dX5_cutNumber_5 : decode cX5_cutNumber 5 = .ok (.iconst 0, 1) := by decide +kernel
theorem dX5_cutNumber_6 : decode cX5_cutNumber 6 = .ok (.istore 5, 2) := by decide +kernel
theorem dX5_cutNumber_8 : decode cX5_cutNumber 8 = .ok (.iload_n 3, 1) := by decide +kernel
theorem dX5_cutNumber_9 : decode cX5_cutNumber 9 = .ok (.aload_n 1, 1) := by decide +kernel
theorem dX5_cutNumber_10 : decode cX5_cutNumber 10 = .ok (.getfield 29, 3) := by decide +kernel
theorem dX5_cutNumber_13 : decode cX5_cutNumber 13 = .ok (.if_icmp .ge 43, 3) := by decide +kernel
theorem dX5_cutNumber_16 : decode cX5_cutNumber 16 = .ok (.aload_n 1, 1) := by decide +kernel
theorem dX5_cutNumber_17 : decode cX5_cutNumber 17 = .ok (.iload_n 3, 1) := by decide +kernel
theorem dX5_cutNumber_18 : decode cX5_cutNumber 18 = .ok (.invokevirtual 50, 3) := by decide +kernel
theorem dX5_cutNumber_21 : decode cX5_cutNumber 21 = .ok (.ifCond .eq 35, 3) := by decide +kernel
theorem dX5_cutNumber_24 : decode cX5_cutNumber 24 = .ok (.iinc 4 1, 3) := by decide +kernel
theorem dX5_cutNumber_27 : decode cX5_cutNumber 27 = .ok (.iload 4, 2) := by decide +kernel
theorem dX5_cutNumber_29 : decode cX5_cutNumber 29 = .ok (.iconst 2, 1) := by decide +kernel
theorem dX5_cutNumber_30 : decode cX5_cutNumber 30 = .ok (.if_icmp .gt 20, 3) := by decide +kernel
theorem dX5_cutNumber_33 : decode cX5_cutNumber 33 = .ok (.bipush 10, 2) := by decide +kernel
theorem dX5_cutNumber_35 : decode cX5_cutNumber 35 = .ok (.iload 5, 2) := by decide +kernel
theorem dX5_cutNumber_37 : decode cX5_cutNumber 37 = .ok (.imul, 1) := by decide +kernel
theorem dX5_cutNumber_38 : decode cX5_cutNumber 38 = .ok (.aload_n 1, 1) := by decide +kernel
theorem dX5_cutNumber_39 : decode cX5_cutNumber 39 = .ok (.getfield 39, 3) := by decide +kernel
theorem dX5_cutNumber_42 : decode cX5_cutNumber 42 = .ok (.iload_n 3, 1) := by decide +kernel
theorem dX5_cutNumber_43 : decode cX5_cutNumber 43 = .ok (.baload, 1) := by decide +kernel
theorem dX5_cutNumber_44 : decode cX5_cutNumber 44 = .ok (.iadd, 1) := by decide +kernel
theorem dX5_cutNumber_45 : decode cX5_cutNumber 45 = .ok (.bipush 48, 2) := by decide +kernel
theorem dX5_cutNumber_47 : decode cX5_cutNumber 47 = .ok (.isub, 1) := by decide +kernel
theorem dX5_cutNumber_48 : decode cX5_cutNumber 48 = .ok (.istore 5, 2) := by decide +kernel
theorem dX5_cutNumber_50 : decode cX5_cutNumber 50 = .ok (.iinc 3 1, 3) := by decide +kernel
theorem dX5_cutNumber_53 : decode cX5_cutNumber 53 = .ok (.goto (-45), 3) := by decide +kernel
theorem dX5_cutNumber_56 : decode cX5_cutNumber 56 = .ok (.iload 4, 2) := by decide +kernel
theorem dX5_cutNumber_58 : decode cX5_cutNumber 58 = .ok (.iconst 1, 1) := by decide +kernel
theorem dX5_cutNumber_59 : decode cX5_cutNumber 59 = .ok (.if_icmp .le 18, 3) := by decide +kernel
theorem dX5_cutNumber_62 : decode cX5_cutNumber 62 = .ok (.aload_n 1, 1) := by decide +kernel
theorem dX5_cutNumber_63 : decode cX5_cutNumber 63 = .ok (.getfield 39, 3) := by decide +kernel
theorem dX5_cutNumber_66 : decode cX5_cutNumber 66 = .ok (.iload_n 2, 1) := by decide +kernel
theorem dX5_cutNumber_67 : decode cX5_cutNumber 67 = .ok (.baload, 1) := by decide +kernel
theorem dX5_cutNumber_68 : decode cX5_cutNumber 68 = .ok (.bipush 48, 2) := by decide +kernel
theorem dX5_cutNumber_70 : decode cX5_cutNumber 70 = .ok (.if_icmp .ne 7, 3) := by decide +kernel
theorem dX5_cutNumber_73 : decode cX5_cutNumber 73 = .ok (.iconst 1, 1) := by decide +kernel
theorem dX5_cutNumber_74 : decode cX5_cutNumber 74 = .ok (.goto 4, 3) := by decide +kernel
theorem dX5_cutNumber_77 : decode cX5_cutNumber 77 = .ok (.iconst 0, 1) := by decide +kernel
theorem dX5_cutNumber_78 : decode cX5_cutNumber 78 = .ok (.istore 6, 2) := by decide +kernel
theorem dX5_cutNumber_80 : decode cX5_cutNumber 80 = .ok (.aload_n 0, 1) := by decide +kernel
theorem dX5_cutNumber_81 : decode cX5_cutNumber 81 = .ok (.iload_n 2, 1) := by decide +kernel
theorem dX5_cutNumber_82 : decode cX5_cutNumber 82 = .ok (.iload 4, 2) := by decide +kernel
theorem dX5_cutNumber_84 : decode cX5_cutNumber 84 = .ok (.iconst 2, 1) := by decide +kernel
theorem dX5_cutNumber_85 : decode cX5_cutNumber 85 = .ok (.if_icmp .gt 8, 3) := by decide +kernel
theorem dX5_cutNumber_88 : decode cX5_cutNumber 88 = .ok (.iload 6, 2) := by decide +kernel
theorem dX5_cutNumber_90 : decode cX5_cutNumber 90 = .ok (.ifCond .eq 7, 3) := by decide +kernel
theorem dX5_cutNumber_93 : decode cX5_cutNumber 93 = .ok (.iconst 4, 1) := by decide +kernel
theorem dX5_cutNumber_94 : decode cX5_cutNumber 94 = .ok (.goto 4, 3) := by decide +kernel
theorem dX5_cutNumber_97 : decode cX5_cutNumber 97 = .ok (.iconst 2, 1) := by decide +kernel
theorem dX5_cutNumber_98 : decode cX5_cutNumber 98 = .ok (.iload 5, 2) := by decide +kernel
theorem dX5_cutNumber_100 : decode cX5_cutNumber 100 = .ok (.invokevirtual 35, 3) := by decide +kernel
theorem dX5_cutNumber_103 : decode cX5_cutNumber 103 = .ok (.iload_n 3, 1) := by decide +kernel
theorem dX5_cutNumber_104 : decode cX5_cutNumber 104 = .ok (.ireturn, 1) := by decide +kernel
theorem dX5_add_0 : decode cX5_add 0 = .ok (.aload_n 0, 1) := by decide +kernel
theorem dX5_add_1 : decode cX5_add 1 = .ok (.getfield 21, 3) := by decide +kernel
theorem dX5_add_4 : decode cX5_add 4 = .ok (.sipush 251, 3) := by decide +kernel
theorem dX5_add_7 : decode cX5_add 7 = .ok (.if_icmp .ge 43, 3) := by decide +kernel
theorem dX5_add_10 : decode cX5_add 10 = .ok (.aload_n 0, 1) := by decide +kernel
theorem dX5_add_11 : decode cX5_add 11 = .ok (.getfield 11, 3) := by decide +kernel
theorem dX5_add_14 : decode cX5_add 14 = .ok (.aload_n 0, 1) := by decide +kernel
theorem dX5_add_15 : decode cX5_add 15 = .ok (.getfield 21, 3) := by decide +kernel
theorem dX5_add_18 : decode cX5_add 18 = .ok (.iload_n 1, 1) := by decide +kernel
theorem dX5_add_19 : decode cX5_add 19 = .ok (.iastore, 1) := by decide +kernel
theorem dX5_add_20 : decode cX5_add 20 = .ok (.aload_n 0, 1) := by decide +kernel
theorem dX5_add_21 : decode cX5_add 21 = .ok (.getfield 15, 3) := by decide +kernel
theorem dX5_add_24 : decode cX5_add 24 = .ok (.aload_n 0, 1) := by decide +kernel
theorem dX5_add_25 : decode cX5_add 25 = .ok (.getfield 21, 3) := by decide +kernel
theorem dX5_add_28 : decode cX5_add 28 = .ok (.iload_n 2, 1) := by decide +kernel
theorem dX5_add_29 : decode cX5_add 29 = .ok (.iastore, 1) := by decide +kernel
theorem dX5_add_30 : decode cX5_add 30 = .ok (.aload_n 0, 1) := by decide +kernel
theorem dX5_add_31 : decode cX5_add 31 = .ok (.getfield 18, 3) := by decide +kernel
theorem dX5_add_34 : decode cX5_add 34 = .ok (.aload_n 0, 1) := by decide +kernel
theorem dX5_add_35 : decode cX5_add 35 = .ok (.getfield 21, 3) := by decide +kernel
theorem dX5_add_38 : decode cX5_add 38 = .ok (.iload_n 3, 1) := by decide +kernel
theorem dX5_add_39 : decode cX5_add 39 = .ok (.iastore, 1) := by decide +kernel
theorem dX5_add_40 : decode cX5_add 40 = .ok (.aload_n 0, 1) := by decide +kernel
theorem dX5_add_41 : decode cX5_add 41 = .ok (.dup, 1) := by decide +kernel
theorem dX5_add_42 : decode cX5_add 42 = .ok (.getfield 21, 3) := by decide +kernel
theorem dX5_add_45 : decode cX5_add 45 = .ok (.iconst 1, 1) := by decide +kernel
theorem dX5_add_46 : decode cX5_add 46 = .ok (.iadd, 1) := by decide +kernel
theorem dX5_add_47 : decode cX5_add 47 = .ok (.putfield 21, 3) := by decide +kernel
theorem dX5_add_50 : decode cX5_add 50 = .ok (.return_, 1) := by decide +kernel
set_option maxRecDepth 20000 in
theorem ggX6_init_X6_makeEmpty : GoodIn wsX6_init wsX6_makeEmpty := goodIn_r _ [16, 17, 5, 6, 7, 8, 10, 11, 9, 18, 19, 20, 15, 21, 22, 23, 24, 25, 26, 27, 28, 29, 30, 31] (by decide +kernel) (by decide +kernel)
set_option maxRecDepth 20000 in
theorem gX6_init_X6_makeEmpty : GoodIn wsX6_init (wsV RX6 33 RX6 yX6_makeEmpty wsX6_makeEmpty) := goodIn_app (goodIn_of _ (by decide +kernel)) ggX6_init_X6_makeEmpty
theorem dX6_init_0 : decode cX6_init 0 = .ok (.aload_n 0, 1) := by decide +kernel
theorem dX6_init_1 : decode cX6_init 1 = .ok (.invokespecial 3, 3) := by decide +kernel
theorem dX6_init_4 : decode cX6_init 4 = .ok (.aload_n 0, 1) := by decide +kernel
theorem dX6_init_5 : decode cX6_init 5 = .ok (.bipush 6, 2) := by decide +kernel
theorem dX6_init_7 : decode cX6_init 7 = .ok (.newarray .int, 2) := by decide +kernel
theorem dX6_init_9 : decode cX6_init 9 = .ok (.putfield 9, 3) := by decide +kernel
theorem dX6_init_12 : decode cX6_init 12 = .ok (.aload_n 0, 1) := by decide +kernel
theorem dX6_init_13 : decode cX6_init 13 = .ok (.bipush 6, 2) := by decide +kernel
theorem dX6_init_15 : decode cX6_init 15 = .ok (.newarray .int, 2) := by decide +kernel
theorem dX6_init_17 : decode cX6_init 17 = .ok (.putfield 15, 3) := by decide +kernel
theorem dX6_init_20 : decode cX6_init 20 = .ok (.aload_n 0, 1) := by decide +kernel
theorem dX6_init_21 : decode cX6_init 21 = .ok (.bipush 6, 2) := by decide +kernel
theorem dX6_init_23 : decode cX6_init 23 = .ok (.newarray .int, 2) := by decide +kernel
theorem dX6_init_25 : decode cX6_init 25 = .ok (.putfield 18, 3) := by decide +kernel
theorem dX6_init_28 : decode cX6_init 28 = .ok (.aload_n 0, 1) := by decide +kernel
theorem dX6_init_29 : decode cX6_init 29 = .ok (.bipush 6, 2) := by decide +kernel
theorem dX6_init_31 : decode cX6_init 31 = .ok (.newarray .int, 2) := by decide +kernel
theorem dX6_init_33 : decode cX6_init 33 = .ok (.putfield 21, 3) := by decide +kernel
theorem dX6_init_36 : decode cX6_init 36 = .ok (.aload_n 0, 1) := by decide +kernel
theorem dX6_init_37 : decode cX6_init 37 = .ok (.bipush 36, 2) := by decide +kernel
theorem dX6_init_39 : decode cX6_init 39 = .ok (.newarray .int, 2) := by decide +kernel
theorem dX6_init_41 : decode cX6_init 41 = .ok (.putfield 24, 3) := by decide +kernel
theorem dX6_init_44 : decode cX6_init 44 = .ok (.aload_n 0, 1) := by decide +kernel
theorem dX6_init_45 : decode cX6_init 45 = .ok (.bipush 6, 2) := by decide +kernel
theorem dX6_init_47 : decode cX6_init 47 = .ok (.newarray .int, 2) := by decide +kernel
theorem dX6_init_49 : decode cX6_init 49 = .ok (.putfield 27, 3) := by decide +kernel
theorem dX6_init_52 : decode cX6_init 52 = .ok (.aload_n 0, 1) := by decide +kernel
theorem dX6_init_53 : decode cX6_init 53 = .ok (.bipush 6, 2) := by decide +kernel
theorem dX6_init_55 : decode cX6_init 55 = .ok (.newarray .int, 2) := by decide +kernel
theorem dX6_init_57 : decode cX6_init 57 = .ok (.putfield 30, 3) := by decide +kernel
theorem dX6_init_60 : decode cX6_init 60 = .ok (.aload_n 0, 1) := by decide +kernel
theorem dX6_init_61 : decode cX6_init 61 = .ok (.invokevirtual 33, 3) := by decide +kernel
theorem dX6_init_64 : decode cX6_init 64 = .ok (.return_, 1) := by decide +kernel
set_option maxRecDepth 20000 in
theorem ggX6_makeEmpty_X6_setLimit : GoodIn wsX6_makeEmpty wsX6_setLimit := goodIn_r _ [13, 14, 15, 16, 17, 18, 19, 20, 21, 22, 23] (by decide +kernel) (by decide +kernel)
set_option maxRecDepth 20000 in
theorem gX6_makeEmpty_X6_setLimit : GoodIn wsX6_makeEmpty (wsV RX6 40 RX6 yX6_setLimit wsX6_setLimit) := goodIn_app (goodIn_of _ (by decide +kernel)) ggX6_makeEmpty_X6_setLimit
theorem dX6_makeEmpty_0 : decode cX6_makeEmpty 0 = .ok (.aload_n 0, 1) := by decide +kernel
theorem dX6_makeEmpty_1 : decode cX6_makeEmpty 1 = .ok (.iconst 0, 1) := by decide +kernel
theorem dX6_makeEmpty_2 : decode cX6_makeEmpty 2 = .ok (.putfield 36, 3) := by decide +kernel
theorem dX6_makeEmpty_5 : decode cX6_makeEmpty 5 = .ok (.aload_n 0, 1) := by decide +kernel
theorem dX6_makeEmpty_6 : decode cX6_makeEmpty 6 = .ok (.bipush 9, 2) := by decide +kernel
theorem dX6_makeEmpty_8 : decode cX6_makeEmpty 8 = .ok (.invokevirtual 40, 3) := by decide +kernel
theorem dX6_makeEmpty_11 : decode cX6_makeEmpty 11 = .ok (.iconst 0, 1) := by decide +kernel
theorem dX6_makeEmpty_12 : decode cX6_makeEmpty 12 = .ok (.istore_n 1, 1) := by decide +kernel
theorem dX6_makeEmpty_13 : decode cX6_makeEmpty 13 = .ok (.iload_n 1, 1) := by decide +kernel
theorem dX6_makeEmpty_14 : decode cX6_makeEmpty 14 = .ok (.bipush 6, 2) := by decide +kernel
theorem dX6_makeEmpty_16 : decode cX6_makeEmpty 16 = .ok (.if_icmp .ge 51, 3) := by decide +kernel
theorem dX6_makeEmpty_19 : decode cX6_makeEmpty 19 = .ok (.aload_n 0, 1) := by decide +kernel
theorem dX6_makeEmpty_20 : decode cX6_makeEmpty 20 = .ok (.getfield 9, 3) := by decide +kernel
theorem dX6_makeEmpty_23 : decode cX6_makeEmpty 23 = .ok (.iload_n 1, 1) := by decide +kernel
theorem dX6_makeEmpty_24 : decode cX6_makeEmpty 24 = .ok (.iconst 0, 1) := by decide +kernel
theorem dX6_makeEmpty_25 : decode cX6_makeEmpty 25 = .ok (.iastore, 1) := by decide +kernel
theorem dX6_makeEmpty_26 : decode cX6_makeEmpty 26 = .ok (.aload_n 0, 1) := by decide +kernel
theorem dX6_makeEmpty_27 : decode cX6_makeEmpty 27 = .ok (.getfield 15, 3) := by decide +kernel
theorem dX6_makeEmpty_30 : decode cX6_makeEmpty 30 = .ok (.iload_n 1, 1) := by decide +kernel
theorem dX6_makeEmpty_31 : decode cX6_makeEmpty 31 = .ok (.iconst 0, 1) := by decide +kernel
theorem dX6_makeEmpty_32 : decode cX6_makeEmpty 32 = .ok (.iastore, 1) := by decide +kernel
theorem dX6_makeEmpty_33 : decode cX6_makeEmpty 33 = .ok (.aload_n 0, 1) := by decide +kernel
theorem dX6_makeEmpty_34 : decode cX6_makeEmpty 34 = .ok (.getfield 18, 3) := by decide +kernel
theorem dX6_makeEmpty_37 : decode cX6_makeEmpty 37 = .ok (.iload_n 1, 1) := by decide +kernel
theorem dX6_makeEmpty_38 : decode cX6_makeEmpty 38 = .ok (.iconst 0, 1) := by decide +kernel
theorem dX6_makeEmpty_39 : decode cX6_makeEmpty 39 = .ok (.iastore, 1) := by decide +kernel
theorem dX6_makeEmpty_40 : decode cX6_makeEmpty 40 = .ok (.aload_n 0, 1) := by decide +kernel
theorem dX6_makeEmpty_41 : decode cX6_makeEmpty 41 = .ok (.getfield 21, 3) := by decide +kernel
theorem dX6_makeEmpty_44 : decode cX6_makeEmpty 44 = .ok (.iload_n 1, 1) := by decide +kernel
theorem dX6_makeEmpty_45 : decode cX6_makeEmpty 45 = .ok (.iconst 0, 1) := by decide +kernel
theorem dX6_makeEmpty_46 : decode cX6_makeEmpty 46 = .ok (.iastore, 1) := by decide +kernel
theorem dX6_makeEmpty_47 : decode cX6_makeEmpty 47 = .ok (.aload_n 0, 1) := by decide +kernel
theorem dX6_makeEmpty_48 : decode cX6_makeEmpty 48 = .ok (.getfield 27, 3) := by decide +kernel
theorem dX6_makeEmpty_51 : decode cX6_makeEmpty 51 = .ok (.iload_n 1, 1) := by decide +kernel
theorem dX6_makeEmpty_52 : decode cX6_makeEmpty 52 = .ok (.iconst 0, 1) := by decide +kernel
theorem dX6_makeEmpty_53 : decode cX6_makeEmpty 53 = .ok (.iastore, 1) := by decide +kernel
theorem dX6_makeEmpty_54 : decode cX6_makeEmpty 54 = .ok (.aload_n 0, 1) := by decide +kernel
theorem dX6_makeEmpty_55 : decode cX6_makeEmpty 55 = .ok (.getfield 30, 3) := by decide +kernel
theorem dX6_makeEmpty_58 : decode cX6_makeEmpty 58 = .ok (.iload_n 1, 1) := by decide +kernel
theorem dX6_makeEmpty_59 : decode cX6_makeEmpty 59 = .ok (.iconst 0, 1) := by decide +kernel
theorem dX6_makeEmpty_60 : decode cX6_makeEmpty 60 = .ok (.iastore, 1) := by decide +kernel
theorem dX6_makeEmpty_61 : decode cX6_makeEmpty 61 = .ok (.iinc 1 1, 3) := by decide +kernel
theorem dX6_makeEmpty_64 : decode cX6_makeEmpty 64 = .ok (.goto (-51), 3) := by decide +kernel
theorem dX6_makeEmpty_67 : decode cX6_makeEmpty 67 = .ok (.iconst 0, 1) := by decide +kernel
theorem dX6_makeEmpty_68 : decode cX6_makeEmpty 68 = .ok (.istore_n 1, 1) := by decide +kernel
theorem dX6_makeEmpty_69 : decode cX6_makeEmpty 69 = .ok (.iload_n 1, 1) := by decide +kernel
theorem dX6_makeEmpty_70 : decode cX6_makeEmpty 70 = .ok (.aload_n 0, 1) := by decide +kernel
theorem dX6_makeEmpty_71 : decode cX6_makeEmpty 71 = .ok (.getfield 24, 3) := by decide +kernel
theorem dX6_makeEmpty_74 : decode cX6_makeEmpty 74 = .ok (.arraylength, 1) := by decide +kernel
theorem dX6_makeEmpty_75 : decode cX6_makeEmpty 75 = .ok (.if_icmp .ge 16, 3) := by decide +kernel
theorem dX6_makeEmpty_78 : decode cX6_makeEmpty 78 = .ok (.aload_n 0, 1) := by decide +kernel
theorem dX6_makeEmpty_79 : decode cX6_makeEmpty 79 = .ok (.getfield 24, 3) := by decide +kernel
theorem dX6_makeEmpty_82 : decode cX6_makeEmpty 82 = .ok (.iload_n 1, 1) := by decide +kernel
theorem dX6_makeEmpty_83 : decode cX6_makeEmpty 83 = .ok (.iconst 0, 1) := by decide +kernel
theorem dX6_makeEmpty_84 : decode cX6_makeEmpty 84 = .ok (.iastore, 1) := by decide +kernel
theorem dX6_makeEmpty_85 : decode cX6_makeEmpty 85 = .ok (.iinc 1 1, 3) := by decide +kernel
theorem dX6_makeEmpty_88 : decode cX6_makeEmpty 88 = .ok (.goto (-19), 3) := by decide +kernel
theorem dX6_makeEmpty_91 : decode cX6_makeEmpty 91 = .ok (.return_, 1) := by decide +kernel
theorem dX6_copy_0 : decode cX6_copy 0 = .ok (.aload_n 0, 1) := by decide +kernel
theorem dX6_copy_1 : decode cX6_copy 1 = .ok (.aload_n 1, 1) := by decide +kernel
theorem dX6_copy_2 : decode cX6_copy 2 = .ok (.getfield 36, 3) := by decide +kernel
theorem dX6_copy_5 : decode cX6_copy 5 = .ok (.putfield 36, 3) := by decide +kernel
theorem dX6_copy_8 : decode cX6_copy 8 = .ok (.aload_n 0, 1) := by decide +kernel
theorem dX6_copy_9 : decode cX6_copy 9 = .ok (.aload_n 1, 1) := by decide +kernel
theorem dX6_copy_10 : decode cX6_copy 10 = .ok (.getfield 44, 3) := by decide +kernel
theorem dX6_copy_13 : decode cX6_copy 13 = .ok (.putfield 44, 3) := by decide +kernel
theorem dX6_copy_16 : decode cX6_copy 16 = .ok (.iconst 0, 1) := by decide +kernel
theorem dX6_copy_17 : decode cX6_copy 17 = .ok (.istore_n 2, 1) := by decide +kernel
theorem dX6_copy_18 : decode cX6_copy 18 = .ok (.iload_n 2, 1) := by decide +kernel
theorem dX6_copy_19 : decode cX6_copy 19 = .ok (.bipush 6, 2) := by decide +kernel
theorem dX6_copy_21 : decode cX6_copy 21 = .ok (.if_icmp .ge 81, 3) := by decide +kernel
theorem dX6_copy_24 : decode cX6_copy 24 = .ok (.aload_n 0, 1) := by decide +kernel
theorem dX6_copy_25 : decode cX6_copy 25 = .ok (.getfield 9, 3) := by decide +kernel
theorem dX6_copy_28 : decode cX6_copy 28 = .ok (.iload_n 2, 1) := by decide +kernel
theorem dX6_copy_29 : decode cX6_copy 29 = .ok (.aload_n 1, 1) := by decide +kernel
theorem dX6_copy_30 : decode cX6_copy 30 = .ok (.getfield 9, 3) := by decide +kernel
theorem dX6_copy_33 : decode cX6_copy 33 = .ok (.iload_n 2, 1) := by decide +kernel
theorem dX6_copy_34 : decode cX6_copy 34 = .ok (.iaload, 1) := by decide +kernel
theorem dX6_copy_35 : decode cX6_copy 35 = .ok (.iastore, 1) := by decide +kernel
theorem dX6_copy_36 : decode cX6_copy 36 = .ok (.aload_n 0, 1) := by decide +kernel
theorem dX6_copy_37 : decode cX6_copy 37 = .ok (.getfield 15, 3) := by decide +kernel
theorem dX6_copy_40 : decode cX6_copy 40 = .ok (.iload_n 2, 1) := by decide +kernel
theorem dX6_copy_41 : decode cX6_copy 41 = .ok (.aload_n 1, 1) := by decide +kernel
theorem dX6_copy_42 : decode cX6_copy 42 = .ok (.getfield 15, 3) := by decide +kernel
theorem dX6_copy_45 : decode cX6_copy 45 = .ok (.iload_n 2, 1) := by decide +kernel
theorem dX6_copy_46 : decode cX6_copy 46 = .ok (.iaload, 1) := by decide +kernel
theorem dX6_copy_47 : decode cX6_copy 47 = .ok (.iastore, 1) := by decide +kernel
theorem dX6_copy_48 : decode cX6_copy 48 = .ok (.aload_n 0, 1) := by decide +kernel
theorem dX6_copy_49 : decode cX6_copy 49 = .ok (.getfield 18, 3) := by decide +kernel
theorem dX6_copy_52 : decode cX6_copy 52 = .ok (.iload_n 2, 1) := by decide +kernel
theorem dX6_copy_53 : decode cX6_copy 53 = .ok (.aload_n 1, 1) := by decide +kernel
theorem dX6_copy_54 : decode cX6_copy 54 = .ok (.getfield 18, 3) := by decide +kernel
theorem dX6_copy_57 : decode cX6_copy 57 = .ok (.iload_n 2, 1) := by decide +kernel
theorem dX6_copy_58 : decode cX6_copy 58 = .ok (.iaload, 1) := by decide +kernel
theorem dX6_copy_59 : decode cX6_copy 59 = .ok (.iastore, 1) := by decide +kernel
theorem dX6_copy_60 : decode cX6_copy 60 = .ok (.aload_n 0, 1) := by decide +kernel
theorem dX6_copy_61 : decode cX6_copy 61 = .ok (.getfield 21, 3) := by decide +kernel
theorem dX6_copy_64 : decode cX6_copy 64 = .ok (.iload_n 2, 1) := by decide +kernel
theorem dX6_copy_65 : decode cX6_copy 65 = .ok (.aload_n 1, 1) := by decide +kernel
theorem dX6_copy_66 : decode cX6_copy 66 = .ok (.getfield 21, 3) := by decide +kernel
theorem dX6_copy_69 : decode cX6_copy 69 = .ok (.iload_n 2, 1) := by decide +kernel
theorem dX6_copy_70 : decode cX6_copy 70 = .ok (.iaload, 1) := by decide +kernel
theorem dX6_copy_71 : decode cX6_copy 71 = .ok (.iastore, 1) := by decide +kernel
theorem dX6_copy_72 : decode cX6_copy 72 = .ok (.aload_n 0, 1) := by decide +kernel
theorem dX6_copy_73 : decode cX6_copy 73 = .ok (.getfield 27, 3) := by decide +kernel
theorem dX6_copy_76 : decode cX6_copy 76 = .ok (.iload_n 2, 1) := by decide +kernel
theorem dX6_copy_77 : decode cX6_copy 77 = .ok (.aload_n 1, 1) := by decide +kernel
theorem dX6_copy_78 : decode cX6_copy 78 = .ok (.getfield 27, 3) := by decide +kernel
theorem dX6_copy_81 : decode cX6_copy 81 = .ok (.iload_n 2, 1) := by decide +kernel
theorem dX6_copy_82 : decode cX6_copy 82 = .ok (.iaload, 1) := by decide +kernel
theorem dX6_copy_83 : decode cX6_copy 83 = .ok (.iastore, 1) := by decide +kernel
theorem dX6_copy_84 : decode cX6_copy 84 = .ok (.aload_n 0, 1) := by decide +kernel
theorem dX6_copy_85 : decode cX6_copy 85 = .ok (.getfield 30, 3) := by decide +kernel
theorem dX6_copy_88 : decode cX6_copy 88 = .ok (.iload_n 2, 1) := by decide +kernel
theorem dX6_copy_89 : decode cX6_copy 89 = .ok (.aload_n 1, 1) := by decide +kernel
theorem dX6_copy_90 : decode cX6_copy 90 = .ok (.getfield 30, 3) := by decide +kernel
theorem dX6_copy_93 : decode cX6_copy 93 = .ok (.iload_n 2, 1) := by decide +kernel
theorem dX6_copy_94 : decode cX6_copy 94 = .ok (.iaload, 1) := by decide +kernel
theorem dX6_copy_95 : decode cX6_copy 95 = .ok (.iastore, 1) := by decide +kernel
theorem dX6_copy_96 : decode cX6_copy 96 = .ok (.iinc 2 1, 3) := by decide +kernel
theorem dX6_copy_99 : decode cX6_copy 99 = .ok (.goto (-81), 3) := by decide +kernel
theorem dX6_copy_102 : decode cX6_copy 102 = .ok (.iconst 0, 1) := by decide +kernel
theorem dX6_copy_103 : decode cX6_copy 103 = .ok (.istore_n 2, 1) := by decide +kernel
theorem dX6_copy_104 : decode cX6_copy 104 = .ok (.iload_n 2, 1) := by decide +kernel
theorem dX6_copy_105 : decode cX6_copy 105 = .ok (.aload_n 0, 1) := by decide +kernel
theorem dX6_copy_106 : decode cX6_copy 106 = .ok (.getfield 24, 3) := by decide +kernel
theorem dX6_copy_109 : decode cX6_copy 109 = .ok (.arraylength, 1) := by decide +kernel
theorem dX6_copy_110 : decode cX6_copy 110 = .ok (.if_icmp .ge 21, 3) := by decide +kernel
theorem dX6_copy_113 : decode cX6_copy 113 = .ok (.aload_n 0, 1) := by decide +kernel
theorem dX6_copy_114 : decode cX6_copy 114 = .ok (.getfield 24, 3) := by decide +kernel
theorem dX6_copy_117 : decode cX6_copy 117 = .ok (.iload_n 2, 1) := by decide +kernel
theorem dX6_copy_118 : decode cX6_copy 118 = .ok (.aload_n 1, 1) := by decide +kernel
theorem dX6_copy_119 : decode cX6_copy 119 = .ok (.getfield 24, 3) := by decide +kernel
theorem dX6_copy_122 : decode cX6_copy 122 = .ok (.iload_n 2, 1) := by decide +kernel
theorem dX6_copy_123 : decode cX6_copy 123 = .ok (.iaload, 1) := by decide +kernel
theorem dX6_copy_124 : decode cX6_copy 124 = .ok (.iastore, 1) := by decide +kernel
theorem dX6_copy_125 : decode cX6_copy 125 = .ok (.iinc 2 1, 3) := by decide +kernel
theorem dX6_copy_128 : decode cX6_copy 128 = .ok (.goto (-24), 3) := by decide +kernel
theorem dX6_copy_131 : decode cX6_copy 131 = .ok (.return_, 1) := by decide +kernel
theorem dX6_hasRoom_0 : decode cX6_hasRoom 0 = .ok (.aload_n 0, 1) := by decide +kernel
theorem dX6_hasRoom_1 : decode cX6_hasRoom 1 = .ok (.getfield 36, 3) := by decide +kernel
theorem dX6_hasRoom_4 : decode cX6_hasRoom 4 = .ok (.bipush 6, 2) := by decide +kernel
theorem dX6_hasRoom_6 : decode cX6_hasRoom 6 = .ok (.if_icmp .ge 7, 3) := by decide +kernel
theorem dX6_hasRoom_9 : decode cX6_hasRoom 9 = .ok (.iconst 1, 1) := by decide +kernel
theorem dX6_hasRoom_10 : decode cX6_hasRoom 10 = .ok (.goto 4, 3) := by decide +kernel
theorem dX6_hasRoom_13 : decode cX6_hasRoom 13 = .ok (.iconst 0, 1) := by decide +kernel
theorem dX6_hasRoom_14 : decode cX6_hasRoom 14 = .ok (.ireturn, 1) := by decide +kernel
set_option maxRecDepth 20000 in
theorem ggX6_addWall_X6_hasRoom : GoodIn wsX6_addWall wsX6_hasRoom := goodIn_r _ [8, 2, 9, 10, 11, 12, 13, 14, 15, 16, 17] (by decide +kernel) (by decide +kernel)
set_option maxRecDepth 20000 in
theorem gX6_addWall_X6_hasRoom : GoodIn wsX6_addWall (wsV RX6 47 RX6 yX6_hasRoom wsX6_hasRoom) := goodIn_app (goodIn_of _ (by decide +kernel)) ggX6_addWall_X6_hasRoom
theorem dX6_addWall_0 : decode cX6_addWall 0 = .ok (.aload_n 0, 1) := by decide +kernel
theorem dX6_addWall_1 : decode cX6_addWall 1 = .ok (.invokevirtual 47, 3) := by decide +kernel
theorem dX6_addWall_4 : decode cX6_addWall 4 = .ok (.ifCond .eq 33, 3) := by decide +kernel
theorem dX6_addWall_7 : decode cX6_addWall 7 = .ok (.aload_n 0, 1) := by decide +kernel
theorem dX6_addWall_8 : decode cX6_addWall 8 = .ok (.getfield 9, 3) := by decide +kernel
theorem dX6_addWall_11 : decode cX6_addWall 11 = .ok (.aload_n 0, 1) := by decide +kernel
theorem dX6_addWall_12 : decode cX6_addWall 12 = .ok (.getfield 36, 3) := by decide +kernel
theorem dX6_addWall_15 : decode cX6_addWall 15 = .ok (.iload_n 1, 1) := by decide +kernel
theorem dX6_addWall_16 : decode cX6_addWall 16 = .ok (.iastore, 1) := by decide +kernel
theorem dX6_addWall_17 : decode cX6_addWall 17 = .ok (.aload_n 0, 1) := by decide +kernel
theorem dX6_addWall_18 : decode cX6_addWall 18 = .ok (.getfield 15, 3) := by decide +kernel
theorem dX6_addWall_21 : decode cX6_addWall 21 = .ok (.aload_n 0, 1) := by decide +kernel
theorem dX6_addWall_22 : decode cX6_addWall 22 = .ok (.getfield 36, 3) := by decide +kernel
theorem dX6_addWall_25 : decode cX6_addWall 25 = .ok (.iload_n 2, 1) := by decide +kernel
theorem dX6_addWall_26 : decode cX6_addWall 26 = .ok (.iastore, 1) := by decide +kernel
theorem dX6_addWall_27 : decode cX6_addWall 27 = .ok (.aload_n 0, 1) := by decide +kernel
theorem dX6_addWall_28 : decode cX6_addWall 28 = .ok (.dup, 1) := by decide +kernel
theorem dX6_addWall_29 : decode cX6_addWall 29 = .ok (.getfield 36, 3) := by decide +kernel
theorem dX6_addWall_32 : decode cX6_addWall 32 = .ok (.iconst 1, 1) := by decide +kernel
theorem dX6_addWall_33 : decode cX6_addWall 33 = .ok (.iadd, 1) := by decide +kernel
theorem dX6_addWall_34 : decode cX6_addWall 34 = .ok (.putfield 36, 3) := by decide +kernel
theorem dX6_addWall_37 : decode cX6_addWall 37 = .ok (.return_, 1) := by decide +kernel
theorem dX6_partsLeft_0 : decode cX6_partsLeft 0 = .ok (.bipush 10, 2) := by decide +kernel
theorem dX6_partsLeft_2 : decode cX6_partsLeft 2 = .ok (.aload_n 0, 1) := by decide +kernel
theorem dX6_partsLeft_3 : decode cX6_partsLeft 3 = .ok (.getfield 27, 3) := by decide +kernel
theorem dX6_partsLeft_6 : decode cX6_partsLeft 6 = .ok (.iload_n 1, 1) := by decide +kernel
theorem dX6_partsLeft_7 : decode cX6_partsLeft 7 = .ok (.iaload, 1) := by decide +kernel
theorem dX6_partsLeft_8 : decode cX6_partsLeft 8 = .ok (.aload_n 0, 1) := by decide +kernel
theorem dX6_partsLeft_9 : decode cX6_partsLeft 9 = .ok (.getfield 27, 3) := by decide +kernel
theorem dX6_partsLeft_12 : decode cX6_partsLeft 12 = .ok (.iload_n 2, 1) := by decide +kernel
theorem dX6_partsLeft_13 : decode cX6_partsLeft 13 = .ok (.iaload, 1) := by decide +kernel
theorem dX6_partsLeft_14 : decode cX6_partsLeft 14 = .ok (.invokestatic 51, 3) := by decide +kernel
theorem dX6_partsLeft_17 : decode cX6_partsLeft 17 = .ok (.isub, 1) := by decide +kernel
theorem dX6_partsLeft_18 : decode cX6_partsLeft 18 = .ok (.ireturn, 1) := by decide +kernel
theorem dX6_addParts_0 : decode cX6_addParts 0 = .ok (.aload_n 0, 1) := by decide +kernel
theorem dX6_addParts_1 : decode cX6_addParts 1 = .ok (.getfield 24, 3) := by decide +kernel
theorem dX6_addParts_4 : decode cX6_addParts 4 = .ok (.iload_n 1, 1) := by decide +kernel
theorem dX6_addParts_5 : decode cX6_addParts 5 = .ok (.bipush 6, 2) := by decide +kernel
theorem dX6_addParts_7 : decode cX6_addParts 7 = .ok (.imul, 1) := by decide +kernel
theorem dX6_addParts_8 : decode cX6_addParts 8 = .ok (.iload_n 2, 1) := by decide +kernel
theorem dX6_addParts_9 : decode cX6_addParts 9 = .ok (.iadd, 1) := by decide +kernel
theorem dX6_addParts_10 : decode cX6_addParts 10 = .ok (.dup2, 1) := by decide +kernel
theorem dX6_addParts_11 : decode cX6_addParts 11 = .ok (.iaload, 1) := by decide +kernel
theorem dX6_addParts_12 : decode cX6_addParts 12 = .ok (.iload_n 3, 1) := by decide +kernel
theorem dX6_addParts_13 : decode cX6_addParts 13 = .ok (.iadd, 1) := by decide +kernel
theorem dX6_addParts_14 : decode cX6_addParts 14 = .ok (.iastore, 1) := by decide +kernel
theorem dX6_addParts_15 : decode cX6_addParts 15 = .ok (.aload_n 0, 1) := by decide +kernel
theorem dX6_addParts_16 : decode cX6_addParts 16 = .ok (.getfield 24, 3) := by decide +kernel
theorem dX6_addParts_19 : decode cX6_addParts 19 = .ok (.iload_n 2, 1) := by decide +kernel
theorem dX6_addParts_20 : decode cX6_addParts 20 = .ok (.bipush 6, 2) := by decide +kernel
theorem dX6_addParts_22 : decode cX6_addParts 22 = .ok (.imul, 1) := by decide +kernel
theorem dX6_addParts_23 : decode cX6_addParts 23 = .ok (.iload_n 1, 1) := by decide +kernel
theorem dX6_addParts_24 : decode cX6_addParts 24 = .ok (.iadd, 1) := by decide +kernel
theorem dX6_addParts_25 : decode cX6_addParts 25 = .ok (.dup2, 1) := by decide +kernel
theorem dX6_addParts_26 : decode cX6_addParts 26 = .ok (.iaload, 1) := by decide +kernel
theorem dX6_addParts_27 : decode cX6_addParts 27 = .ok (.iload_n 3, 1) := by decide +kernel
theorem dX6_addParts_28 : decode cX6_addParts 28 = .ok (.iadd, 1) := by decide +kernel
theorem dX6_addParts_29 : decode cX6_addParts 29 = .ok (.iastore, 1) := by decide +kernel
theorem dX6_addParts_30 : decode cX6_addParts 30 = .ok (.aload_n 0, 1) := by decide +kernel
theorem dX6_addParts_31 : decode cX6_addParts 31 = .ok (.getfield 27, 3) := by decide +kernel
theorem dX6_addParts_34 : decode cX6_addParts 34 = .ok (.iload_n 1, 1) := by decide +kernel
theorem dX6_addParts_35 : decode cX6_addParts 35 = .ok (.dup2, 1) := by decide +kernel
theorem dX6_addParts_36 : decode cX6_addParts 36 = .ok (.iaload, 1) := by decide +kernel
theorem dX6_addParts_37 : decode cX6_addParts 37 = .ok (.iload_n 3, 1) := by decide +kernel
theorem dX6_addParts_38 : decode cX6_addParts 38 = .ok (.iadd, 1) := by decide +kernel
theorem dX6_addParts_39 : decode cX6_addParts 39 = .ok (.iastore, 1) := by decide +kernel
theorem dX6_addParts_40 : decode cX6_addParts 40 = .ok (.aload_n 0, 1) := by decide +kernel
theorem dX6_addParts_41 : decode cX6_addParts 41 = .ok (.getfield 27, 3) := by decide +kernel
theorem dX6_addParts_44 : decode cX6_addParts 44 = .ok (.iload_n 2, 1) := by decide +kernel
theorem dX6_addParts_45 : decode cX6_addParts 45 = .ok (.dup2, 1) := by decide +kernel
theorem dX6_addParts_46 : decode cX6_addParts 46 = .ok (.iaload, 1) := by decide +kernel
theorem dX6_addParts_47 : decode cX6_addParts 47 = .ok (.iload_n 3, 1) := by decide +kernel
theorem dX6_addParts_48 : decode cX6_addParts 48 = .ok (.iadd, 1) := by decide +kernel
theorem dX6_addParts_49 : decode cX6_addParts 49 = .ok (.iastore, 1) := by decide +kernel
theorem dX6_addParts_50 : decode cX6_addParts 50 = .ok (.return_, 1) := by decide +kernel
theorem dX6_setLimit_0 : decode cX6_setLimit 0 = .ok (.aload_n 0, 1) := by decide +kernel
theorem dX6_setLimit_1 : decode cX6_setLimit 1 = .ok (.bipush 10, 2) := by decide +kernel
theorem dX6_setLimit_3 : decode cX6_setLimit 3 = .ok (.iload_n 1, 1) := by decide +kernel
theorem dX6_setLimit_4 : decode cX6_setLimit 4 = .ok (.imul, 1) := by decide +kernel
theorem dX6_setLimit_5 : decode cX6_setLimit 5 = .ok (.bipush 9, 2) := by decide +kernel
theorem dX6_setLimit_7 : decode cX6_setLimit 7 = .ok (.iadd, 1) := by decide +kernel
theorem dX6_setLimit_8 : decode cX6_setLimit 8 = .ok (.putfield 44, 3) := by decide +kernel
theorem dX6_setLimit_11 : decode cX6_setLimit 11 = .ok (.return_, 1) := by decide +kernel
theorem dX6_dark_0 : decode cX6_dark 0 = .ok (.bipush 10, 2) := by decide +kernel
theorem dX6_dark_2 : decode cX6_dark 2 = .ok (.aload_n 0, 1) := by decide +kernel
theorem dX6_dark_3 : decode cX6_dark 3 = .ok (.getfield 27, 3) := by decide +kernel
theorem dX6_dark_6 : decode cX6_dark 6 = .ok (.iload_n 1, 1) := by decide +kernel
theorem dX6_dark_7 : decode cX6_dark 7 = .ok (.iaload, 1) := by decide +kernel
theorem dX6_dark_8 : decode cX6_dark 8 = .ok (.isub, 1) := by decide +kernel
theorem dX6_dark_9 : decode cX6_dark 9 = .ok (.ireturn, 1) := by decide +kernel
