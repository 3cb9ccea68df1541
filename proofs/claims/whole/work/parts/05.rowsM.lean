theorem dX8_in_0 : decode cX8_in 0 = .ok (.lload_n 0, 1) := by decide +kernel
theorem dX8_in_1 : decode cX8_in 1 = .ok (.lload_n 2, 1) := by decide +kernel
theorem dX8_in_2 : decode cX8_in 2 = .ok (.lcmp, 1) := by decide +kernel
theorem dX8_in_3 : decode cX8_in 3 = .ok (.ifCond .lt 14, 3) := by decide +kernel
theorem dX8_in_6 : decode cX8_in 6 = .ok (.lload_n 0, 1) := by decide +kernel
theorem dX8_in_7 : decode cX8_in 7 = .ok (.lload 4, 2) := by decide +kernel
theorem dX8_in_9 : decode cX8_in 9 = .ok (.lcmp, 1) := by decide +kernel
theorem dX8_in_10 : decode cX8_in 10 = .ok (.ifCond .gt 7, 3) := by decide +kernel
theorem dX8_in_13 : decode cX8_in 13 = .ok (.iconst 1, 1) := by decide +kernel
theorem dX8_in_14 : decode cX8_in 14 = .ok (.goto 4, 3) := by decide +kernel
theorem dX8_in_17 : decode cX8_in 17 = .ok (.iconst 0, 1) := by decide +kernel
theorem dX8_in_18 : decode cX8_in 18 = .ok (.ireturn, 1) := by decide +kernel
theorem dX8_init_0 : decode cX8_init 0 = .ok (.aload_n 0, 1) := by decide +kernel
theorem dX8_init_1 : decode cX8_init 1 = .ok (.invokespecial 1, 3) := by decide +kernel
theorem dX8_init_4 : decode cX8_init 4 = .ok (.aload_n 0, 1) := by decide +kernel
theorem dX8_init_5 : decode cX8_init 5 = .ok (.sipush 250, 3) := by decide +kernel
theorem dX8_init_8 : decode cX8_init 8 = .ok (.newarray .int, 2) := by decide +kernel
theorem dX8_init_10 : decode cX8_init 10 = .ok (.putfield 7, 3) := by decide +kernel
theorem dX8_init_13 : decode cX8_init 13 = .ok (.aload_n 0, 1) := by decide +kernel
theorem dX8_init_14 : decode cX8_init 14 = .ok (.bipush 24, 2) := by decide +kernel
theorem dX8_init_16 : decode cX8_init 16 = .ok (.newarray .int, 2) := by decide +kernel
theorem dX8_init_18 : decode cX8_init 18 = .ok (.putfield 13, 3) := by decide +kernel
theorem dX8_init_21 : decode cX8_init 21 = .ok (.aload_n 0, 1) := by decide +kernel
theorem dX8_init_22 : decode cX8_init 22 = .ok (.bipush 36, 2) := by decide +kernel
theorem dX8_init_24 : decode cX8_init 24 = .ok (.newarray .int, 2) := by decide +kernel
theorem dX8_init_26 : decode cX8_init 26 = .ok (.putfield 16, 3) := by decide +kernel
theorem dX8_init_29 : decode cX8_init 29 = .ok (.aload_n 0, 1) := by decide +kernel
theorem dX8_init_30 : decode cX8_init 30 = .ok (.bipush 6, 2) := by decide +kernel
theorem dX8_init_32 : decode cX8_init 32 = .ok (.newarray .int, 2) := by decide +kernel
theorem dX8_init_34 : decode cX8_init 34 = .ok (.putfield 19, 3) := by decide +kernel
theorem dX8_init_37 : decode cX8_init 37 = .ok (.aload_n 0, 1) := by decide +kernel
theorem dX8_init_38 : decode cX8_init 38 = .ok (.bipush 6, 2) := by decide +kernel
theorem dX8_init_40 : decode cX8_init 40 = .ok (.newarray .int, 2) := by decide +kernel
theorem dX8_init_42 : decode cX8_init 42 = .ok (.putfield 22, 3) := by decide +kernel
theorem dX8_init_45 : decode cX8_init 45 = .ok (.aload_n 0, 1) := by decide +kernel
theorem dX8_init_46 : decode cX8_init 46 = .ok (.bipush 6, 2) := by decide +kernel
theorem dX8_init_48 : decode cX8_init 48 = .ok (.newarray .int, 2) := by decide +kernel
theorem dX8_init_50 : decode cX8_init 50 = .ok (.putfield 25, 3) := by decide +kernel
theorem dX8_init_53 : decode cX8_init 53 = .ok (.aload_n 0, 1) := by decide +kernel
theorem dX8_init_54 : decode cX8_init 54 = .ok (.bipush 6, 2) := by decide +kernel
theorem dX8_init_56 : decode cX8_init 56 = .ok (.newarray .int, 2) := by decide +kernel
theorem dX8_init_58 : decode cX8_init 58 = .ok (.putfield 28, 3) := by decide +kernel
theorem dX8_init_61 : decode cX8_init 61 = .ok (.aload_n 0, 1) := by decide +kernel
theorem dX8_init_62 : decode cX8_init 62 = .ok (.bipush 36, 2) := by decide +kernel
theorem dX8_init_64 : decode cX8_init 64 = .ok (.newarray .int, 2) := by decide +kernel
theorem dX8_init_66 : decode cX8_init 66 = .ok (.putfield 31, 3) := by decide +kernel
theorem dX8_init_69 : decode cX8_init 69 = .ok (.aload_n 0, 1) := by decide +kernel
theorem dX8_init_70 : decode cX8_init 70 = .ok (.bipush 6, 2) := by decide +kernel
theorem dX8_init_72 : decode cX8_init 72 = .ok (.newarray .int, 2) := by decide +kernel
theorem dX8_init_74 : decode cX8_init 74 = .ok (.putfield 34, 3) := by decide +kernel
theorem dX8_init_77 : decode cX8_init 77 = .ok (.aload_n 0, 1) := by decide +kernel
theorem dX8_init_78 : decode cX8_init 78 = .ok (.bipush 6, 2) := by decide +kernel
theorem dX8_init_80 : decode cX8_init 80 = .ok (.newarray .int, 2) := by decide +kernel
theorem dX8_init_82 : decode cX8_init 82 = .ok (.putfield 37, 3) := by decide +kernel
theorem dX8_init_85 : decode cX8_init 85 = .ok (.aload_n 0, 1) := by decide +kernel
theorem dX8_init_86 : decode cX8_init 86 = .ok (.bipush 10, 2) := by decide +kernel
theorem dX8_init_88 : decode cX8_init 88 = .ok (.newarray .int, 2) := by decide +kernel
theorem dX8_init_90 : decode cX8_init 90 = .ok (.putfield 40, 3) := by decide +kernel
theorem dX8_init_93 : decode cX8_init 93 = .ok (.aload_n 0, 1) := by decide +kernel
theorem dX8_init_94 : decode cX8_init 94 = .ok (.bipush 6, 2) := by decide +kernel
theorem dX8_init_96 : decode cX8_init 96 = .ok (.newarray .int, 2) := by decide +kernel
theorem dX8_init_98 : decode cX8_init 98 = .ok (.putfield 43, 3) := by decide +kernel
theorem dX8_init_101 : decode cX8_init 101 = .ok (.aload_n 0, 1) := by decide +kernel
theorem dX8_init_102 : decode cX8_init 102 = .ok (.bipush 6, 2) := by decide +kernel
theorem dX8_init_104 : decode cX8_init 104 = .ok (.newarray .int, 2) := by decide +kernel
theorem dX8_init_106 : decode cX8_init 106 = .ok (.putfield 46, 3) := by decide +kernel
theorem dX8_init_109 : decode cX8_init 109 = .ok (.aload_n 0, 1) := by decide +kernel
theorem dX8_init_110 : decode cX8_init 110 = .ok (.bipush 8, 2) := by decide +kernel
theorem dX8_init_112 : decode cX8_init 112 = .ok (.newarray .int, 2) := by decide +kernel
theorem dX8_init_114 : decode cX8_init 114 = .ok (.putfield 49, 3) := by decide +kernel
theorem dX8_init_117 : decode cX8_init 117 = .ok (.aload_n 0, 1) := by decide +kernel
theorem dX8_init_118 : decode cX8_init 118 = .ok (.bipush 8, 2) := by decide +kernel
theorem dX8_init_120 : decode cX8_init 120 = .ok (.newarray .int, 2) := by decide +kernel
theorem dX8_init_122 : decode cX8_init 122 = .ok (.putfield 52, 3) := by decide +kernel
theorem dX8_init_125 : decode cX8_init 125 = .ok (.aload_n 0, 1) := by decide +kernel
theorem dX8_init_126 : decode cX8_init 126 = .ok (.bipush 8, 2) := by decide +kernel
theorem dX8_init_128 : decode cX8_init 128 = .ok (.newarray .int, 2) := by decide +kernel
theorem dX8_init_130 : decode cX8_init 130 = .ok (.putfield 55, 3) := by decide +kernel
theorem dX8_init_133 : decode cX8_init 133 = .ok (.aload_n 0, 1) := by decide +kernel
theorem dX8_init_134 : decode cX8_init 134 = .ok (.bipush 42, 2) := by decide +kernel
theorem dX8_init_136 : decode cX8_init 136 = .ok (.newarray .int, 2) := by decide +kernel
theorem dX8_init_138 : decode cX8_init 138 = .ok (.putfield 58, 3) := by decide +kernel
theorem dX8_init_141 : decode cX8_init 141 = .ok (.aload_n 0, 1) := by decide +kernel
theorem dX8_init_142 : decode cX8_init 142 = .ok (.bipush 99, 2) := by decide +kernel
theorem dX8_init_144 : decode cX8_init 144 = .ok (.putfield 61, 3) := by decide +kernel
theorem dX8_init_147 : decode cX8_init 147 = .ok (.aload_n 0, 1) := by decide +kernel
theorem dX8_init_148 : decode cX8_init 148 = .ok (.getfield 58, 3) := by decide +kernel
theorem dX8_init_151 : decode cX8_init 151 = .ok (.iconst 0, 1) := by decide +kernel
theorem dX8_init_152 : decode cX8_init 152 = .ok (.iconst (-1), 1) := by decide +kernel
theorem dX8_init_153 : decode cX8_init 153 = .ok (.iastore, 1) := by decide +kernel
theorem dX8_init_154 : decode cX8_init 154 = .ok (.aload_n 0, 1) := by decide +kernel
theorem dX8_init_155 : decode cX8_init 155 = .ok (.getfield 58, 3) := by decide +kernel
theorem dX8_init_158 : decode cX8_init 158 = .ok (.bipush 21, 2) := by decide +kernel
theorem dX8_init_160 : decode cX8_init 160 = .ok (.iconst (-1), 1) := by decide +kernel
theorem dX8_init_161 : decode cX8_init 161 = .ok (.iastore, 1) := by decide +kernel
theorem dX8_init_162 : decode cX8_init 162 = .ok (.return_, 1) := by decide +kernel
set_option maxRecDepth 20000 in
theorem ggX8_type_X8_in : GoodIn wsX8_type wsX8_in := goodIn_r _ [8] (by decide +kernel) (by decide +kernel)
set_option maxRecDepth 20000 in
theorem gX8_type_X8_in : GoodIn wsX8_type (va_wsS RX8 67 yX8_in wsX8_in) := goodIn_app (goodIn_of _ (by decide +kernel)) ggX8_type_X8_in
theorem dX8_type_0 : decode cX8_type 0 = .ok (.iload_n 3, 1) := by decide +kernel
theorem dX8_type_1 : decode cX8_type 1 = .ok (.i2l, 1) := by decide +kernel
theorem dX8_type_2 : decode cX8_type 2 = .ok (.lconst 1, 1) := by decide +kernel
theorem dX8_type_3 : decode cX8_type 3 = .ok (.ldc2_w 65, 3) := by decide +kernel
theorem dX8_type_6 : decode cX8_type 6 = .ok (.invokestatic 67, 3) := by decide +kernel
theorem dX8_type_9 : decode cX8_type 9 = .ok (.ifCond .ne 5, 3) := by decide +kernel
theorem dX8_type_12 : decode cX8_type 12 = .ok (.iconst (-1), 1) := by decide +kernel
theorem dX8_type_13 : decode cX8_type 13 = .ok (.ireturn, 1) := by decide +kernel
theorem dX8_type_14 : decode cX8_type 14 = .ok (.aload_n 0, 1) := by decide +kernel
theorem dX8_type_15 : decode cX8_type 15 = .ok (.getfield 71, 3) := by decide +kernel
theorem dX8_type_18 : decode cX8_type 18 = .ok (.iload_n 3, 1) := by decide +kernel
theorem dX8_type_19 : decode cX8_type 19 = .ok (.iadd, 1) := by decide +kernel
theorem dX8_type_20 : decode cX8_type 20 = .ok (.sipush 250, 3) := by decide +kernel
theorem dX8_type_23 : decode cX8_type 23 = .ok (.if_icmp .le 6, 3) := by decide +kernel
theorem dX8_type_26 : decode cX8_type 26 = .ok (.bipush (-3), 2) := by decide +kernel
theorem dX8_type_28 : decode cX8_type 28 = .ok (.ireturn, 1) := by decide +kernel
theorem dX8_type_29 : decode cX8_type 29 = .ok (.iload_n 3, 1) := by decide +kernel
theorem dX8_type_30 : decode cX8_type 30 = .ok (.iconst 1, 1) := by decide +kernel
theorem dX8_type_31 : decode cX8_type 31 = .ok (.isub, 1) := by decide +kernel
theorem dX8_type_32 : decode cX8_type 32 = .ok (.istore 4, 2) := by decide +kernel
theorem dX8_type_34 : decode cX8_type 34 = .ok (.iload 4, 2) := by decide +kernel
theorem dX8_type_36 : decode cX8_type 36 = .ok (.ifCond .lt 40, 3) := by decide +kernel
theorem dX8_type_39 : decode cX8_type 39 = .ok (.aload_n 0, 1) := by decide +kernel
theorem dX8_type_40 : decode cX8_type 40 = .ok (.getfield 7, 3) := by decide +kernel
theorem dX8_type_43 : decode cX8_type 43 = .ok (.aload_n 0, 1) := by decide +kernel
theorem dX8_type_44 : decode cX8_type 44 = .ok (.getfield 71, 3) := by decide +kernel
theorem dX8_type_47 : decode cX8_type 47 = .ok (.lload_n 1, 1) := by decide +kernel
theorem dX8_type_48 : decode cX8_type 48 = .ok (.bipush 8, 2) := by decide +kernel
theorem dX8_type_50 : decode cX8_type 50 = .ok (.iload 4, 2) := by decide +kernel
theorem dX8_type_52 : decode cX8_type 52 = .ok (.imul, 1) := by decide +kernel
theorem dX8_type_53 : decode cX8_type 53 = .ok (.lshr, 1) := by decide +kernel
theorem dX8_type_54 : decode cX8_type 54 = .ok (.ldc2_w 74, 3) := by decide +kernel
theorem dX8_type_57 : decode cX8_type 57 = .ok (.land, 1) := by decide +kernel
theorem dX8_type_58 : decode cX8_type 58 = .ok (.l2i, 1) := by decide +kernel
theorem dX8_type_59 : decode cX8_type 59 = .ok (.iastore, 1) := by decide +kernel
theorem dX8_type_60 : decode cX8_type 60 = .ok (.aload_n 0, 1) := by decide +kernel
theorem dX8_type_61 : decode cX8_type 61 = .ok (.dup, 1) := by decide +kernel
theorem dX8_type_62 : decode cX8_type 62 = .ok (.getfield 71, 3) := by decide +kernel
theorem dX8_type_65 : decode cX8_type 65 = .ok (.iconst 1, 1) := by decide +kernel
theorem dX8_type_66 : decode cX8_type 66 = .ok (.iadd, 1) := by decide +kernel
theorem dX8_type_67 : decode cX8_type 67 = .ok (.putfield 71, 3) := by decide +kernel
theorem dX8_type_70 : decode cX8_type 70 = .ok (.iinc 4 (-1), 3) := by decide +kernel
theorem dX8_type_73 : decode cX8_type 73 = .ok (.goto (-39), 3) := by decide +kernel
theorem dX8_type_76 : decode cX8_type 76 = .ok (.aload_n 0, 1) := by decide +kernel
theorem dX8_type_77 : decode cX8_type 77 = .ok (.getfield 71, 3) := by decide +kernel
theorem dX8_type_80 : decode cX8_type 80 = .ok (.ireturn, 1) := by decide +kernel
theorem dX8_clear_0 : decode cX8_clear 0 = .ok (.aload_n 0, 1) := by decide +kernel
theorem dX8_clear_1 : decode cX8_clear 1 = .ok (.getfield 71, 3) := by decide +kernel
theorem dX8_clear_4 : decode cX8_clear 4 = .ok (.istore_n 1, 1) := by decide +kernel
theorem dX8_clear_5 : decode cX8_clear 5 = .ok (.aload_n 0, 1) := by decide +kernel
theorem dX8_clear_6 : decode cX8_clear 6 = .ok (.iconst 0, 1) := by decide +kernel
theorem dX8_clear_7 : decode cX8_clear 7 = .ok (.putfield 71, 3) := by decide +kernel
theorem dX8_clear_10 : decode cX8_clear 10 = .ok (.iload_n 1, 1) := by decide +kernel
theorem dX8_clear_11 : decode cX8_clear 11 = .ok (.ireturn, 1) := by decide +kernel
set_option maxRecDepth 20000 in
theorem ggX8_isLetter_X8_in : GoodIn wsX8_isLetter wsX8_in := goodIn_r _ [6] (by decide +kernel) (by decide +kernel)
set_option maxRecDepth 20000 in
theorem gX8_isLetter_X8_in : GoodIn wsX8_isLetter (va_wsS RX8 67 yX8_in wsX8_in) := goodIn_app (goodIn_of _ (by decide +kernel)) ggX8_isLetter_X8_in
theorem dX8_isLetter_0 : decode cX8_isLetter 0 = .ok (.iload_n 0, 1) := by decide +kernel
theorem dX8_isLetter_1 : decode cX8_isLetter 1 = .ok (.i2l, 1) := by decide +kernel
theorem dX8_isLetter_2 : decode cX8_isLetter 2 = .ok (.ldc2_w 76, 3) := by decide +kernel
theorem dX8_isLetter_5 : decode cX8_isLetter 5 = .ok (.ldc2_w 78, 3) := by decide +kernel
theorem dX8_isLetter_8 : decode cX8_isLetter 8 = .ok (.invokestatic 67, 3) := by decide +kernel
theorem dX8_isLetter_11 : decode cX8_isLetter 11 = .ok (.ireturn, 1) := by decide +kernel
set_option maxRecDepth 20000 in
theorem ggX8_isFigure_X8_in : GoodIn wsX8_isFigure wsX8_in := goodIn_r _ [6] (by decide +kernel) (by decide +kernel)
set_option maxRecDepth 20000 in
theorem gX8_isFigure_X8_in : GoodIn wsX8_isFigure (va_wsS RX8 67 yX8_in wsX8_in) := goodIn_app (goodIn_of _ (by decide +kernel)) ggX8_isFigure_X8_in
theorem dX8_isFigure_0 : decode cX8_isFigure 0 = .ok (.iload_n 0, 1) := by decide +kernel
theorem dX8_isFigure_1 : decode cX8_isFigure 1 = .ok (.i2l, 1) := by decide +kernel
theorem dX8_isFigure_2 : decode cX8_isFigure 2 = .ok (.ldc2_w 80, 3) := by decide +kernel
theorem dX8_isFigure_5 : decode cX8_isFigure 5 = .ok (.ldc2_w 82, 3) := by decide +kernel
theorem dX8_isFigure_8 : decode cX8_isFigure 8 = .ok (.invokestatic 67, 3) := by decide +kernel
theorem dX8_isFigure_11 : decode cX8_isFigure 11 = .ok (.ireturn, 1) := by decide +kernel
set_option maxRecDepth 20000 in
theorem ggX8_readWord_X8_isLetter : GoodIn wsX8_readWord wsX8_isLetter := goodIn_r _ [16, 17, 18, 19, 20, 15, 21] (by decide +kernel) (by decide +kernel)
set_option maxRecDepth 20000 in
theorem gX8_readWord_X8_isLetter : GoodIn wsX8_readWord (va_wsS RX8 87 yX8_isLetter wsX8_isLetter) := goodIn_app (goodIn_of _ (by decide +kernel)) ggX8_readWord_X8_isLetter
theorem dX8_readWord_0 : decode cX8_readWord 0 = .ok (.lconst 0, 1) := by decide +kernel
theorem dX8_readWord_1 : decode cX8_readWord 1 = .ok (.lstore_n 1, 1) := by decide +kernel
theorem dX8_readWord_2 : decode cX8_readWord 2 = .ok (.aload_n 0, 1) := by decide +kernel
theorem dX8_readWord_3 : decode cX8_readWord 3 = .ok (.getfield 84, 3) := by decide +kernel
theorem dX8_readWord_6 : decode cX8_readWord 6 = .ok (.aload_n 0, 1) := by decide +kernel
theorem dX8_readWord_7 : decode cX8_readWord 7 = .ok (.getfield 71, 3) := by decide +kernel
theorem dX8_readWord_10 : decode cX8_readWord 10 = .ok (.if_icmp .ge 68, 3) := by decide +kernel
theorem dX8_readWord_13 : decode cX8_readWord 13 = .ok (.aload_n 0, 1) := by decide +kernel
theorem dX8_readWord_14 : decode cX8_readWord 14 = .ok (.getfield 7, 3) := by decide +kernel
theorem dX8_readWord_17 : decode cX8_readWord 17 = .ok (.aload_n 0, 1) := by decide +kernel
theorem dX8_readWord_18 : decode cX8_readWord 18 = .ok (.getfield 84, 3) := by decide +kernel
theorem dX8_readWord_21 : decode cX8_readWord 21 = .ok (.iaload, 1) := by decide +kernel
theorem dX8_readWord_22 : decode cX8_readWord 22 = .ok (.invokestatic 87, 3) := by decide +kernel
theorem dX8_readWord_25 : decode cX8_readWord 25 = .ok (.ifCond .eq 53, 3) := by decide +kernel
theorem dX8_readWord_28 : decode cX8_readWord 28 = .ok (.aload_n 0, 1) := by decide +kernel
theorem dX8_readWord_29 : decode cX8_readWord 29 = .ok (.getfield 84, 3) := by decide +kernel
theorem dX8_readWord_32 : decode cX8_readWord 32 = .ok (.aload_n 0, 1) := by decide +kernel
theorem dX8_readWord_33 : decode cX8_readWord 33 = .ok (.getfield 91, 3) := by decide +kernel
theorem dX8_readWord_36 : decode cX8_readWord 36 = .ok (.isub, 1) := by decide +kernel
theorem dX8_readWord_37 : decode cX8_readWord 37 = .ok (.bipush 6, 2) := by decide +kernel
theorem dX8_readWord_39 : decode cX8_readWord 39 = .ok (.if_icmp .le 9, 3) := by decide +kernel
theorem dX8_readWord_42 : decode cX8_readWord 42 = .ok (.ldc2_w 94, 3) := by decide +kernel
theorem dX8_readWord_45 : decode cX8_readWord 45 = .ok (.goto 19, 3) := by decide +kernel
theorem dX8_readWord_48 : decode cX8_readWord 48 = .ok (.lload_n 1, 1) := by decide +kernel
theorem dX8_readWord_49 : decode cX8_readWord 49 = .ok (.ldc2_w 96, 3) := by decide +kernel
theorem dX8_readWord_52 : decode cX8_readWord 52 = .ok (.lmul, 1) := by decide +kernel
theorem dX8_readWord_53 : decode cX8_readWord 53 = .ok (.aload_n 0, 1) := by decide +kernel
theorem dX8_readWord_54 : decode cX8_readWord 54 = .ok (.getfield 7, 3) := by decide +kernel
theorem dX8_readWord_57 : decode cX8_readWord 57 = .ok (.aload_n 0, 1) := by decide +kernel
theorem dX8_readWord_58 : decode cX8_readWord 58 = .ok (.getfield 84, 3) := by decide +kernel
theorem dX8_readWord_61 : decode cX8_readWord 61 = .ok (.iaload, 1) := by decide +kernel
theorem dX8_readWord_62 : decode cX8_readWord 62 = .ok (.i2l, 1) := by decide +kernel
theorem dX8_readWord_63 : decode cX8_readWord 63 = .ok (.ladd, 1) := by decide +kernel
theorem dX8_readWord_64 : decode cX8_readWord 64 = .ok (.lstore_n 1, 1) := by decide +kernel
theorem dX8_readWord_65 : decode cX8_readWord 65 = .ok (.aload_n 0, 1) := by decide +kernel
theorem dX8_readWord_66 : decode cX8_readWord 66 = .ok (.dup, 1) := by decide +kernel
theorem dX8_readWord_67 : decode cX8_readWord 67 = .ok (.getfield 84, 3) := by decide +kernel
theorem dX8_readWord_70 : decode cX8_readWord 70 = .ok (.iconst 1, 1) := by decide +kernel
theorem dX8_readWord_71 : decode cX8_readWord 71 = .ok (.iadd, 1) := by decide +kernel
theorem dX8_readWord_72 : decode cX8_readWord 72 = .ok (.putfield 84, 3) := by decide +kernel
theorem dX8_readWord_75 : decode cX8_readWord 75 = .ok (.goto (-73), 3) := by decide +kernel
theorem dX8_readWord_78 : decode cX8_readWord 78 = .ok (.aload_n 0, 1) := by decide +kernel
theorem dX8_readWord_79 : decode cX8_readWord 79 = .ok (.lload_n 1, 1) := by decide +kernel
theorem dX8_readWord_80 : decode cX8_readWord 80 = .ok (.ldc2_w 98, 3) := by decide +kernel
theorem dX8_readWord_83 : decode cX8_readWord 83 = .ok (.lcmp, 1) := by decide +kernel
theorem dX8_readWord_84 : decode cX8_readWord 84 = .ok (.ifCond .ne 7, 3) := by decide +kernel
theorem dX8_readWord_87 : decode cX8_readWord 87 = .ok (.iconst 0, 1) := by decide +kernel
theorem dX8_readWord_88 : decode cX8_readWord 88 = .ok (.goto 41, 3) := by decide +kernel
theorem dX8_readWord_91 : decode cX8_readWord 91 = .ok (.lload_n 1, 1) := by decide +kernel
theorem dX8_readWord_92 : decode cX8_readWord 92 = .ok (.ldc2_w 100, 3) := by decide +kernel
theorem dX8_readWord_95 : decode cX8_readWord 95 = .ok (.lcmp, 1) := by decide +kernel
theorem dX8_readWord_96 : decode cX8_readWord 96 = .ok (.ifCond .ne 7, 3) := by decide +kernel
theorem dX8_readWord_99 : decode cX8_readWord 99 = .ok (.iconst 1, 1) := by decide +kernel
theorem dX8_readWord_100 : decode cX8_readWord 100 = .ok (.goto 29, 3) := by decide +kernel
theorem dX8_readWord_103 : decode cX8_readWord 103 = .ok (.lload_n 1, 1) := by decide +kernel
theorem dX8_readWord_104 : decode cX8_readWord 104 = .ok (.ldc2_w 102, 3) := by decide +kernel
theorem dX8_readWord_107 : decode cX8_readWord 107 = .ok (.lcmp, 1) := by decide +kernel
theorem dX8_readWord_108 : decode cX8_readWord 108 = .ok (.ifCond .ne 7, 3) := by decide +kernel
theorem dX8_readWord_111 : decode cX8_readWord 111 = .ok (.iconst 2, 1) := by decide +kernel
theorem dX8_readWord_112 : decode cX8_readWord 112 = .ok (.goto 17, 3) := by decide +kernel
theorem dX8_readWord_115 : decode cX8_readWord 115 = .ok (.lload_n 1, 1) := by decide +kernel
theorem dX8_readWord_116 : decode cX8_readWord 116 = .ok (.ldc2_w 104, 3) := by decide +kernel
theorem dX8_readWord_119 : decode cX8_readWord 119 = .ok (.lcmp, 1) := by decide +kernel
theorem dX8_readWord_120 : decode cX8_readWord 120 = .ok (.ifCond .ne 7, 3) := by decide +kernel
theorem dX8_readWord_123 : decode cX8_readWord 123 = .ok (.iconst 3, 1) := by decide +kernel
theorem dX8_readWord_124 : decode cX8_readWord 124 = .ok (.goto 5, 3) := by decide +kernel
theorem dX8_readWord_127 : decode cX8_readWord 127 = .ok (.bipush (-9), 2) := by decide +kernel
theorem dX8_readWord_129 : decode cX8_readWord 129 = .ok (.putfield 106, 3) := by decide +kernel
theorem dX8_readWord_132 : decode cX8_readWord 132 = .ok (.aload_n 0, 1) := by decide +kernel
theorem dX8_readWord_133 : decode cX8_readWord 133 = .ok (.aload_n 0, 1) := by decide +kernel
theorem dX8_readWord_134 : decode cX8_readWord 134 = .ok (.getfield 106, 3) := by decide +kernel
theorem dX8_readWord_137 : decode cX8_readWord 137 = .ok (.bipush (-9), 2) := by decide +kernel
theorem dX8_readWord_139 : decode cX8_readWord 139 = .ok (.if_icmp .ne 7, 3) := by decide +kernel
theorem dX8_readWord_142 : decode cX8_readWord 142 = .ok (.iconst 4, 1) := by decide +kernel
theorem dX8_readWord_143 : decode cX8_readWord 143 = .ok (.goto 4, 3) := by decide +kernel
theorem dX8_readWord_146 : decode cX8_readWord 146 = .ok (.iconst 1, 1) := by decide +kernel
theorem dX8_readWord_147 : decode cX8_readWord 147 = .ok (.putfield 109, 3) := by decide +kernel
theorem dX8_readWord_150 : decode cX8_readWord 150 = .ok (.return_, 1) := by decide +kernel
set_option maxRecDepth 20000 in
theorem ggX8_readNumber_X8_isFigure : GoodIn wsX8_readNumber wsX8_isFigure := goodIn_r _ [10, 11, 12, 13, 14, 9, 15] (by decide +kernel) (by decide +kernel)
set_option maxRecDepth 20000 in
theorem gX8_readNumber_X8_isFigure : GoodIn wsX8_readNumber (va_wsS RX8 112 yX8_isFigure wsX8_isFigure) := goodIn_app (goodIn_of _ (by decide +kernel)) ggX8_readNumber_X8_isFigure
theorem dX8_readNumber_0 : decode cX8_readNumber 0 = .ok (.iconst 0, 1) := by decide +kernel
theorem dX8_readNumber_1 : decode cX8_readNumber 1 = .ok (.istore_n 1, 1) := by decide +kernel
theorem dX8_readNumber_2 : decode cX8_readNumber 2 = .ok (.aload_n 0, 1) := by decide +kernel
theorem dX8_readNumber_3 : decode cX8_readNumber 3 = .ok (.getfield 84, 3) := by decide +kernel
theorem dX8_readNumber_6 : decode cX8_readNumber 6 = .ok (.aload_n 0, 1) := by decide +kernel
theorem dX8_readNumber_7 : decode cX8_readNumber 7 = .ok (.getfield 71, 3) := by decide +kernel
theorem dX8_readNumber_10 : decode cX8_readNumber 10 = .ok (.if_icmp .ge 59, 3) := by decide +kernel
theorem dX8_readNumber_13 : decode cX8_readNumber 13 = .ok (.aload_n 0, 1) := by decide +kernel
theorem dX8_readNumber_14 : decode cX8_readNumber 14 = .ok (.getfield 7, 3) := by decide +kernel
theorem dX8_readNumber_17 : decode cX8_readNumber 17 = .ok (.aload_n 0, 1) := by decide +kernel
theorem dX8_readNumber_18 : decode cX8_readNumber 18 = .ok (.getfield 84, 3) := by decide +kernel
theorem dX8_readNumber_21 : decode cX8_readNumber 21 = .ok (.iaload, 1) := by decide +kernel
theorem dX8_readNumber_22 : decode cX8_readNumber 22 = .ok (.invokestatic 112, 3) := by decide +kernel
theorem dX8_readNumber_25 : decode cX8_readNumber 25 = .ok (.ifCond .eq 44, 3) := by decide +kernel
theorem dX8_readNumber_28 : decode cX8_readNumber 28 = .ok (.iload_n 1, 1) := by decide +kernel
theorem dX8_readNumber_29 : decode cX8_readNumber 29 = .ok (.bipush 99, 2) := by decide +kernel
theorem dX8_readNumber_31 : decode cX8_readNumber 31 = .ok (.if_icmp .le 7, 3) := by decide +kernel
theorem dX8_readNumber_34 : decode cX8_readNumber 34 = .ok (.iload_n 1, 1) := by decide +kernel
theorem dX8_readNumber_35 : decode cX8_readNumber 35 = .ok (.goto 20, 3) := by decide +kernel
theorem dX8_readNumber_38 : decode cX8_readNumber 38 = .ok (.bipush 10, 2) := by decide +kernel
theorem dX8_readNumber_40 : decode cX8_readNumber 40 = .ok (.iload_n 1, 1) := by decide +kernel
theorem dX8_readNumber_41 : decode cX8_readNumber 41 = .ok (.imul, 1) := by decide +kernel
theorem dX8_readNumber_42 : decode cX8_readNumber 42 = .ok (.aload_n 0, 1) := by decide +kernel
theorem dX8_readNumber_43 : decode cX8_readNumber 43 = .ok (.getfield 7, 3) := by decide +kernel
theorem dX8_readNumber_46 : decode cX8_readNumber 46 = .ok (.aload_n 0, 1) := by decide +kernel
theorem dX8_readNumber_47 : decode cX8_readNumber 47 = .ok (.getfield 84, 3) := by decide +kernel
theorem dX8_readNumber_50 : decode cX8_readNumber 50 = .ok (.iaload, 1) := by decide +kernel
theorem dX8_readNumber_51 : decode cX8_readNumber 51 = .ok (.iadd, 1) := by decide +kernel
theorem dX8_readNumber_52 : decode cX8_readNumber 52 = .ok (.bipush 48, 2) := by decide +kernel
theorem dX8_readNumber_54 : decode cX8_readNumber 54 = .ok (.isub, 1) := by decide +kernel
theorem dX8_readNumber_55 : decode cX8_readNumber 55 = .ok (.istore_n 1, 1) := by decide +kernel
theorem dX8_readNumber_56 : decode cX8_readNumber 56 = .ok (.aload_n 0, 1) := by decide +kernel
theorem dX8_readNumber_57 : decode cX8_readNumber 57 = .ok (.dup, 1) := by decide +kernel
theorem dX8_readNumber_58 : decode cX8_readNumber 58 = .ok (.getfield 84, 3) := by decide +kernel
theorem dX8_readNumber_61 : decode cX8_readNumber 61 = .ok (.iconst 1, 1) := by decide +kernel
theorem dX8_readNumber_62 : decode cX8_readNumber 62 = .ok (.iadd, 1) := by decide +kernel
theorem dX8_readNumber_63 : decode cX8_readNumber 63 = .ok (.putfield 84, 3) := by decide +kernel
theorem dX8_readNumber_66 : decode cX8_readNumber 66 = .ok (.goto (-64), 3) := by decide +kernel
theorem dX8_readNumber_69 : decode cX8_readNumber 69 = .ok (.aload_n 0, 1) := by decide +kernel
theorem dX8_readNumber_70 : decode cX8_readNumber 70 = .ok (.iload_n 1, 1) := by decide +kernel
theorem dX8_readNumber_71 : decode cX8_readNumber 71 = .ok (.bipush 99, 2) := by decide +kernel
theorem dX8_readNumber_73 : decode cX8_readNumber 73 = .ok (.if_icmp .gt 30, 3) := by decide +kernel
theorem dX8_readNumber_76 : decode cX8_readNumber 76 = .ok (.aload_n 0, 1) := by decide +kernel
theorem dX8_readNumber_77 : decode cX8_readNumber 77 = .ok (.getfield 84, 3) := by decide +kernel
theorem dX8_readNumber_80 : decode cX8_readNumber 80 = .ok (.aload_n 0, 1) := by decide +kernel
theorem dX8_readNumber_81 : decode cX8_readNumber 81 = .ok (.getfield 91, 3) := by decide +kernel
theorem dX8_readNumber_84 : decode cX8_readNumber 84 = .ok (.isub, 1) := by decide +kernel
theorem dX8_readNumber_85 : decode cX8_readNumber 85 = .ok (.iconst 1, 1) := by decide +kernel
theorem dX8_readNumber_86 : decode cX8_readNumber 86 = .ok (.if_icmp .le 21, 3) := by decide +kernel
theorem dX8_readNumber_89 : decode cX8_readNumber 89 = .ok (.aload_n 0, 1) := by decide +kernel
theorem dX8_readNumber_90 : decode cX8_readNumber 90 = .ok (.getfield 7, 3) := by decide +kernel
theorem dX8_readNumber_93 : decode cX8_readNumber 93 = .ok (.aload_n 0, 1) := by decide +kernel
theorem dX8_readNumber_94 : decode cX8_readNumber 94 = .ok (.getfield 91, 3) := by decide +kernel
theorem dX8_readNumber_97 : decode cX8_readNumber 97 = .ok (.iaload, 1) := by decide +kernel
theorem dX8_readNumber_98 : decode cX8_readNumber 98 = .ok (.bipush 48, 2) := by decide +kernel
theorem dX8_readNumber_100 : decode cX8_readNumber 100 = .ok (.if_icmp .ne 7, 3) := by decide +kernel
theorem dX8_readNumber_103 : decode cX8_readNumber 103 = .ok (.iconst 4, 1) := by decide +kernel
theorem dX8_readNumber_104 : decode cX8_readNumber 104 = .ok (.goto 4, 3) := by decide +kernel
theorem dX8_readNumber_107 : decode cX8_readNumber 107 = .ok (.iconst 2, 1) := by decide +kernel
theorem dX8_readNumber_108 : decode cX8_readNumber 108 = .ok (.putfield 109, 3) := by decide +kernel
theorem dX8_readNumber_111 : decode cX8_readNumber 111 = .ok (.aload_n 0, 1) := by decide +kernel
theorem dX8_readNumber_112 : decode cX8_readNumber 112 = .ok (.iload_n 1, 1) := by decide +kernel
theorem dX8_readNumber_113 : decode cX8_readNumber 113 = .ok (.putfield 106, 3) := by decide +kernel
theorem dX8_readNumber_116 : decode cX8_readNumber 116 = .ok (.return_, 1) := by decide +kernel
set_option maxRecDepth 20000 in
theorem ggX8_reads_X8_isLetter : GoodIn wsX8_reads wsX8_isLetter := goodIn_r _ [9, 10, 11, 12, 13, 8, 14] (by decide +kernel) (by decide +kernel)
set_option maxRecDepth 20000 in
theorem gX8_reads_X8_isLetter : GoodIn wsX8_reads (va_wsS RX8 87 yX8_isLetter wsX8_isLetter) := goodIn_app (goodIn_of _ (by decide +kernel)) ggX8_reads_X8_isLetter
set_option maxRecDepth 20000 in
theorem ggX8_reads_X8_readWord : GoodIn wsX8_reads wsX8_readWord := goodIn_r _ [18, 1, 2, 3, 4, 19, 20, 21, 22, 23, 24, 25, 5, 6, 7, 8, 9, 10, 11, 12, 13, 14, 35, 36, 37, 38, 39, 40, 41, 42, 43, 44, 45, 46, 47, 48, 49, 50, 51, 52, 53, 54, 55, 56, 57, 58, 59, 60, 61, 62, 63, 64, 65, 66, 67] (by decide +kernel) (by decide +kernel)
set_option maxRecDepth 20000 in
theorem gX8_reads_X8_readWord : GoodIn wsX8_reads (wsV RX8 115 RX8 yX8_readWord wsX8_readWord) := goodIn_app (goodIn_of _ (by decide +kernel)) ggX8_reads_X8_readWord
set_option maxRecDepth 20000 in
theorem ggX8_reads_X8_isFigure : GoodIn wsX8_reads wsX8_isFigure := goodIn_r _ [28, 29, 30, 12, 13, 8, 14] (by decide +kernel) (by decide +kernel)
set_option maxRecDepth 20000 in
theorem gX8_reads_X8_isFigure : GoodIn wsX8_reads (va_wsS RX8 112 yX8_isFigure wsX8_isFigure) := goodIn_app (goodIn_of _ (by decide +kernel)) ggX8_reads_X8_isFigure
set_option maxRecDepth 20000 in
theorem ggX8_reads_X8_readNumber : GoodIn wsX8_reads wsX8_readNumber := goodIn_r _ [34, 1, 2, 3, 4, 5, 25, 26, 27, 8, 28, 29, 30, 12, 13, 14, 35, 36, 37, 38, 39, 40, 41, 42, 43, 44, 45, 46, 47, 48, 49, 50, 51, 52, 53, 54, 55, 56, 57, 58, 59, 60, 61, 62, 63, 64, 65, 66, 67] (by decide +kernel) (by decide +kernel)
set_option maxRecDepth 20000 in
theorem gX8_reads_X8_readNumber : GoodIn wsX8_reads (wsV RX8 118 RX8 yX8_readNumber wsX8_readNumber) := goodIn_app (goodIn_of _ (by decide +kernel)) ggX8_reads_X8_readNumber
theorem dX8_reads_0 : decode cX8_reads 0 = .ok (.aload_n 0, 1) := by decide +kernel
theorem dX8_reads_1 : decode cX8_reads 1 = .ok (.getfield 84, 3) := by decide +kernel
theorem dX8_reads_4 : decode cX8_reads 4 = .ok (.aload_n 0, 1) := by decide +kernel
theorem dX8_reads_5 : decode cX8_reads 5 = .ok (.getfield 71, 3) := by decide +kernel
theorem dX8_reads_8 : decode cX8_reads 8 = .ok (.if_icmp .ge 30, 3) := by decide +kernel
theorem dX8_reads_11 : decode cX8_reads 11 = .ok (.aload_n 0, 1) := by decide +kernel
theorem dX8_reads_12 : decode cX8_reads 12 = .ok (.getfield 7, 3) := by decide +kernel
theorem dX8_reads_15 : decode cX8_reads 15 = .ok (.aload_n 0, 1) := by decide +kernel
theorem dX8_reads_16 : decode cX8_reads 16 = .ok (.getfield 84, 3) := by decide +kernel
theorem dX8_reads_19 : decode cX8_reads 19 = .ok (.iaload, 1) := by decide +kernel
theorem dX8_reads_20 : decode cX8_reads 20 = .ok (.bipush 32, 2) := by decide +kernel
theorem dX8_reads_22 : decode cX8_reads 22 = .ok (.if_icmp .ne 16, 3) := by decide +kernel
theorem dX8_reads_25 : decode cX8_reads 25 = .ok (.aload_n 0, 1) := by decide +kernel
theorem dX8_reads_26 : decode cX8_reads 26 = .ok (.dup, 1) := by decide +kernel
theorem dX8_reads_27 : decode cX8_reads 27 = .ok (.getfield 84, 3) := by decide +kernel
theorem dX8_reads_30 : decode cX8_reads 30 = .ok (.iconst 1, 1) := by decide +kernel
theorem dX8_reads_31 : decode cX8_reads 31 = .ok (.iadd, 1) := by decide +kernel
theorem dX8_reads_32 : decode cX8_reads 32 = .ok (.putfield 84, 3) := by decide +kernel
theorem dX8_reads_35 : decode cX8_reads 35 = .ok (.goto (-35), 3) := by decide +kernel
theorem dX8_reads_38 : decode cX8_reads 38 = .ok (.aload_n 0, 1) := by decide +kernel
theorem dX8_reads_39 : decode cX8_reads 39 = .ok (.aload_n 0, 1) := by decide +kernel
theorem dX8_reads_40 : decode cX8_reads 40 = .ok (.getfield 84, 3) := by decide +kernel
theorem dX8_reads_43 : decode cX8_reads 43 = .ok (.putfield 91, 3) := by decide +kernel
theorem dX8_reads_46 : decode cX8_reads 46 = .ok (.aload_n 0, 1) := by decide +kernel
theorem dX8_reads_47 : decode cX8_reads 47 = .ok (.getfield 84, 3) := by decide +kernel
theorem dX8_reads_50 : decode cX8_reads 50 = .ok (.aload_n 0, 1) := by decide +kernel
theorem dX8_reads_51 : decode cX8_reads 51 = .ok (.getfield 71, 3) := by decide +kernel
theorem dX8_reads_54 : decode cX8_reads 54 = .ok (.if_icmp .ne 11, 3) := by decide +kernel
theorem dX8_reads_57 : decode cX8_reads 57 = .ok (.aload_n 0, 1) := by decide +kernel
theorem dX8_reads_58 : decode cX8_reads 58 = .ok (.iconst 0, 1) := by decide +kernel
theorem dX8_reads_59 : decode cX8_reads 59 = .ok (.putfield 109, 3) := by decide +kernel
theorem dX8_reads_62 : decode cX8_reads 62 = .ok (.goto 92, 3) := by decide +kernel
theorem dX8_reads_65 : decode cX8_reads 65 = .ok (.aload_n 0, 1) := by decide +kernel
theorem dX8_reads_66 : decode cX8_reads 66 = .ok (.getfield 7, 3) := by decide +kernel
theorem dX8_reads_69 : decode cX8_reads 69 = .ok (.aload_n 0, 1) := by decide +kernel
theorem dX8_reads_70 : decode cX8_reads 70 = .ok (.getfield 84, 3) := by decide +kernel
theorem dX8_reads_73 : decode cX8_reads 73 = .ok (.iaload, 1) := by decide +kernel
theorem dX8_reads_74 : decode cX8_reads 74 = .ok (.invokestatic 87, 3) := by decide +kernel
theorem dX8_reads_77 : decode cX8_reads 77 = .ok (.ifCond .eq 10, 3) := by decide +kernel
theorem dX8_reads_80 : decode cX8_reads 80 = .ok (.aload_n 0, 1) := by decide +kernel
theorem dX8_reads_81 : decode cX8_reads 81 = .ok (.invokevirtual 115, 3) := by decide +kernel
theorem dX8_reads_84 : decode cX8_reads 84 = .ok (.goto 70, 3) := by decide +kernel
theorem dX8_reads_87 : decode cX8_reads 87 = .ok (.aload_n 0, 1) := by decide +kernel
theorem dX8_reads_88 : decode cX8_reads 88 = .ok (.getfield 7, 3) := by decide +kernel
theorem dX8_reads_91 : decode cX8_reads 91 = .ok (.aload_n 0, 1) := by decide +kernel
theorem dX8_reads_92 : decode cX8_reads 92 = .ok (.getfield 84, 3) := by decide +kernel
theorem dX8_reads_95 : decode cX8_reads 95 = .ok (.iaload, 1) := by decide +kernel
theorem dX8_reads_96 : decode cX8_reads 96 = .ok (.invokestatic 112, 3) := by decide +kernel
theorem dX8_reads_99 : decode cX8_reads 99 = .ok (.ifCond .eq 10, 3) := by decide +kernel
theorem dX8_reads_102 : decode cX8_reads 102 = .ok (.aload_n 0, 1) := by decide +kernel
theorem dX8_reads_103 : decode cX8_reads 103 = .ok (.invokevirtual 118, 3) := by decide +kernel
theorem dX8_reads_106 : decode cX8_reads 106 = .ok (.goto 48, 3) := by decide +kernel
theorem dX8_reads_109 : decode cX8_reads 109 = .ok (.aload_n 0, 1) := by decide +kernel
theorem dX8_reads_110 : decode cX8_reads 110 = .ok (.aload_n 0, 1) := by decide +kernel
theorem dX8_reads_111 : decode cX8_reads 111 = .ok (.getfield 7, 3) := by decide +kernel
theorem dX8_reads_114 : decode cX8_reads 114 = .ok (.aload_n 0, 1) := by decide +kernel
theorem dX8_reads_115 : decode cX8_reads 115 = .ok (.getfield 84, 3) := by decide +kernel
theorem dX8_reads_118 : decode cX8_reads 118 = .ok (.iaload, 1) := by decide +kernel
theorem dX8_reads_119 : decode cX8_reads 119 = .ok (.bipush 59, 2) := by decide +kernel
theorem dX8_reads_121 : decode cX8_reads 121 = .ok (.if_icmp .ne 7, 3) := by decide +kernel
theorem dX8_reads_124 : decode cX8_reads 124 = .ok (.iconst 3, 1) := by decide +kernel
theorem dX8_reads_125 : decode cX8_reads 125 = .ok (.goto 4, 3) := by decide +kernel
theorem dX8_reads_128 : decode cX8_reads 128 = .ok (.iconst 4, 1) := by decide +kernel
theorem dX8_reads_129 : decode cX8_reads 129 = .ok (.putfield 109, 3) := by decide +kernel
theorem dX8_reads_132 : decode cX8_reads 132 = .ok (.aload_n 0, 1) := by decide +kernel
theorem dX8_reads_133 : decode cX8_reads 133 = .ok (.dup, 1) := by decide +kernel
theorem dX8_reads_134 : decode cX8_reads 134 = .ok (.getfield 84, 3) := by decide +kernel
theorem dX8_reads_137 : decode cX8_reads 137 = .ok (.aload_n 0, 1) := by decide +kernel
theorem dX8_reads_138 : decode cX8_reads 138 = .ok (.getfield 109, 3) := by decide +kernel
theorem dX8_reads_141 : decode cX8_reads 141 = .ok (.iconst 3, 1) := by decide +kernel
theorem dX8_reads_142 : decode cX8_reads 142 = .ok (.if_icmp .ne 7, 3) := by decide +kernel
theorem dX8_reads_145 : decode cX8_reads 145 = .ok (.iconst 1, 1) := by decide +kernel
theorem dX8_reads_146 : decode cX8_reads 146 = .ok (.goto 4, 3) := by decide +kernel
theorem dX8_reads_149 : decode cX8_reads 149 = .ok (.iconst 0, 1) := by decide +kernel
theorem dX8_reads_150 : decode cX8_reads 150 = .ok (.iadd, 1) := by decide +kernel
theorem dX8_reads_151 : decode cX8_reads 151 = .ok (.putfield 84, 3) := by decide +kernel
theorem dX8_reads_154 : decode cX8_reads 154 = .ok (.return_, 1) := by decide +kernel
set_option maxRecDepth 20000 in
theorem ggX8_number_X8_reads : GoodIn wsX8_number wsX8_reads := goodIn_r _ [7, 8, 9, 10, 11, 1, 12, 13, 6, 14, 15, 16, 17, 18, 19, 20, 21, 22, 23, 24, 25, 26, 27, 28, 29, 2, 30, 31, 32, 33, 34, 35, 36, 37, 38, 39, 40, 41, 42, 43, 44, 45, 46, 47, 48, 49, 50, 51, 52, 53, 54, 55, 56, 57, 58, 59, 60, 61, 62, 63, 64, 65, 66, 67, 68, 69, 70, 71] (by decide +kernel) (by decide +kernel)
set_option maxRecDepth 20000 in
theorem gX8_number_X8_reads : GoodIn wsX8_number (wsV RX8 121 RX8 yX8_reads wsX8_reads) := goodIn_app (goodIn_of _ (by decide +kernel)) ggX8_number_X8_reads
set_option maxRecDepth 20000 in
theorem ggX8_number_X8_in : GoodIn wsX8_number wsX8_in := goodIn_r _ [19] (by decide +kernel) (by decide +kernel)
set_option maxRecDepth 20000 in
theorem gX8_number_X8_in : GoodIn wsX8_number (va_wsS RX8 67 yX8_in wsX8_in) := goodIn_app (goodIn_of _ (by decide +kernel)) ggX8_number_X8_in
theorem dX8_number_0 : decode cX8_number 0 = .ok (.aload_n 0, 1) := by decide +kernel
theorem dX8_number_1 : decode cX8_number 1 = .ok (.invokevirtual 121, 3) := by decide +kernel
theorem dX8_number_4 : decode cX8_number 4 = .ok (.aload_n 0, 1) := by decide +kernel
theorem dX8_number_5 : decode cX8_number 5 = .ok (.getfield 109, 3) := by decide +kernel
theorem dX8_number_8 : decode cX8_number 8 = .ok (.iconst 2, 1) := by decide +kernel
theorem dX8_number_9 : decode cX8_number 9 = .ok (.if_icmp .ne 25, 3) := by decide +kernel
theorem dX8_number_12 : decode cX8_number 12 = .ok (.aload_n 0, 1) := by decide +kernel
theorem dX8_number_13 : decode cX8_number 13 = .ok (.getfield 106, 3) := by decide +kernel
theorem dX8_number_16 : decode cX8_number 16 = .ok (.i2l, 1) := by decide +kernel
theorem dX8_number_17 : decode cX8_number 17 = .ok (.iload_n 1, 1) := by decide +kernel
theorem dX8_number_18 : decode cX8_number 18 = .ok (.i2l, 1) := by decide +kernel
theorem dX8_number_19 : decode cX8_number 19 = .ok (.iload_n 2, 1) := by decide +kernel
theorem dX8_number_20 : decode cX8_number 20 = .ok (.i2l, 1) := by decide +kernel
theorem dX8_number_21 : decode cX8_number 21 = .ok (.invokestatic 67, 3) := by decide +kernel
theorem dX8_number_24 : decode cX8_number 24 = .ok (.ifCond .eq 10, 3) := by decide +kernel
theorem dX8_number_27 : decode cX8_number 27 = .ok (.aload_n 0, 1) := by decide +kernel
theorem dX8_number_28 : decode cX8_number 28 = .ok (.getfield 106, 3) := by decide +kernel
theorem dX8_number_31 : decode cX8_number 31 = .ok (.goto 4, 3) := by decide +kernel
theorem dX8_number_34 : decode cX8_number 34 = .ok (.iconst (-1), 1) := by decide +kernel
theorem dX8_number_35 : decode cX8_number 35 = .ok (.ireturn, 1) := by decide +kernel
theorem dX8_seen_0 : decode cX8_seen 0 = .ok (.iconst 0, 1) := by decide +kernel
theorem dX8_seen_1 : decode cX8_seen 1 = .ok (.istore_n 3, 1) := by decide +kernel
theorem dX8_seen_2 : decode cX8_seen 2 = .ok (.iconst 0, 1) := by decide +kernel
theorem dX8_seen_3 : decode cX8_seen 3 = .ok (.istore 4, 2) := by decide +kernel
theorem dX8_seen_5 : decode cX8_seen 5 = .ok (.iload 4, 2) := by decide +kernel
theorem dX8_seen_7 : decode cX8_seen 7 = .ok (.bipush 6, 2) := by decide +kernel
theorem dX8_seen_9 : decode cX8_seen 9 = .ok (.if_icmp .ge 21, 3) := by decide +kernel
theorem dX8_seen_12 : decode cX8_seen 12 = .ok (.iload_n 3, 1) := by decide +kernel
theorem dX8_seen_13 : decode cX8_seen 13 = .ok (.aload_n 1, 1) := by decide +kernel
theorem dX8_seen_14 : decode cX8_seen 14 = .ok (.bipush 6, 2) := by decide +kernel
theorem dX8_seen_16 : decode cX8_seen 16 = .ok (.iload_n 2, 1) := by decide +kernel
theorem dX8_seen_17 : decode cX8_seen 17 = .ok (.imul, 1) := by decide +kernel
theorem dX8_seen_18 : decode cX8_seen 18 = .ok (.iload 4, 2) := by decide +kernel
theorem dX8_seen_20 : decode cX8_seen 20 = .ok (.iadd, 1) := by decide +kernel
theorem dX8_seen_21 : decode cX8_seen 21 = .ok (.iaload, 1) := by decide +kernel
theorem dX8_seen_22 : decode cX8_seen 22 = .ok (.iadd, 1) := by decide +kernel
theorem dX8_seen_23 : decode cX8_seen 23 = .ok (.istore_n 3, 1) := by decide +kernel
theorem dX8_seen_24 : decode cX8_seen 24 = .ok (.iinc 4 1, 3) := by decide +kernel
theorem dX8_seen_27 : decode cX8_seen 27 = .ok (.goto (-22), 3) := by decide +kernel
theorem dX8_seen_30 : decode cX8_seen 30 = .ok (.iload_n 3, 1) := by decide +kernel
theorem dX8_seen_31 : decode cX8_seen 31 = .ok (.ireturn, 1) := by decide +kernel
set_option maxRecDepth 20000 in
theorem ggX8_readWall_X8_number : GoodIn wsX8_readWall wsX8_number := goodIn_r _ [7, 8, 9, 10, 11, 12, 6, 13, 14, 15, 16, 17, 18, 19, 20, 21, 22, 23, 24, 25, 26, 27, 28, 29, 30, 31, 32, 33, 34, 35, 36, 37, 38, 39, 40, 41, 42, 43, 44, 45, 46, 47, 48, 49, 50, 51, 52, 53, 54, 55, 56, 57, 58, 59, 60, 61, 62, 63, 64, 65, 66, 67, 68, 69, 70, 71, 72, 73, 74, 75, 76, 77] (by decide +kernel) (by decide +kernel)
set_option maxRecDepth 20000 in
theorem gX8_readWall_X8_number : GoodIn wsX8_readWall (wsV RX8 124 RX8 yX8_number wsX8_number) := goodIn_app (goodIn_of _ (by decide +kernel)) ggX8_readWall_X8_number
theorem dX8_readWall_0 : decode cX8_readWall 0 = .ok (.aload_n 0, 1) := by decide +kernel
theorem dX8_readWall_1 : decode cX8_readWall 1 = .ok (.iconst 0, 1) := by decide +kernel
theorem dX8_readWall_2 : decode cX8_readWall 2 = .ok (.bipush 99, 2) := by decide +kernel
theorem dX8_readWall_4 : decode cX8_readWall 4 = .ok (.invokevirtual 124, 3) := by decide +kernel
theorem dX8_readWall_7 : decode cX8_readWall 7 = .ok (.istore_n 1, 1) := by decide +kernel
theorem dX8_readWall_8 : decode cX8_readWall 8 = .ok (.iload_n 1, 1) := by decide +kernel
theorem dX8_readWall_9 : decode cX8_readWall 9 = .ok (.ifCond .ge 7, 3) := by decide +kernel
theorem dX8_readWall_12 : decode cX8_readWall 12 = .ok (.iconst (-1), 1) := by decide +kernel
theorem dX8_readWall_13 : decode cX8_readWall 13 = .ok (.goto 10, 3) := by decide +kernel
theorem dX8_readWall_16 : decode cX8_readWall 16 = .ok (.aload_n 0, 1) := by decide +kernel
theorem dX8_readWall_17 : decode cX8_readWall 17 = .ok (.iconst 0, 1) := by decide +kernel
theorem dX8_readWall_18 : decode cX8_readWall 18 = .ok (.bipush 9, 2) := by decide +kernel
theorem dX8_readWall_20 : decode cX8_readWall 20 = .ok (.invokevirtual 124, 3) := by decide +kernel
theorem dX8_readWall_23 : decode cX8_readWall 23 = .ok (.istore_n 2, 1) := by decide +kernel
theorem dX8_readWall_24 : decode cX8_readWall 24 = .ok (.aload_n 0, 1) := by decide +kernel
theorem dX8_readWall_25 : decode cX8_readWall 25 = .ok (.getfield 13, 3) := by decide +kernel
theorem dX8_readWall_28 : decode cX8_readWall 28 = .ok (.aload_n 0, 1) := by decide +kernel
theorem dX8_readWall_29 : decode cX8_readWall 29 = .ok (.getfield 128, 3) := by decide +kernel
theorem dX8_readWall_32 : decode cX8_readWall 32 = .ok (.iload_n 1, 1) := by decide +kernel
theorem dX8_readWall_33 : decode cX8_readWall 33 = .ok (.iastore, 1) := by decide +kernel
theorem dX8_readWall_34 : decode cX8_readWall 34 = .ok (.aload_n 0, 1) := by decide +kernel
theorem dX8_readWall_35 : decode cX8_readWall 35 = .ok (.getfield 13, 3) := by decide +kernel
theorem dX8_readWall_38 : decode cX8_readWall 38 = .ok (.bipush 6, 2) := by decide +kernel
theorem dX8_readWall_40 : decode cX8_readWall 40 = .ok (.aload_n 0, 1) := by decide +kernel
theorem dX8_readWall_41 : decode cX8_readWall 41 = .ok (.getfield 128, 3) := by decide +kernel
theorem dX8_readWall_44 : decode cX8_readWall 44 = .ok (.iadd, 1) := by decide +kernel
theorem dX8_readWall_45 : decode cX8_readWall 45 = .ok (.iload_n 2, 1) := by decide +kernel
theorem dX8_readWall_46 : decode cX8_readWall 46 = .ok (.iastore, 1) := by decide +kernel
theorem dX8_readWall_47 : decode cX8_readWall 47 = .ok (.aload_n 0, 1) := by decide +kernel
theorem dX8_readWall_48 : decode cX8_readWall 48 = .ok (.getfield 13, 3) := by decide +kernel
theorem dX8_readWall_51 : decode cX8_readWall 51 = .ok (.bipush 12, 2) := by decide +kernel
theorem dX8_readWall_53 : decode cX8_readWall 53 = .ok (.aload_n 0, 1) := by decide +kernel
theorem dX8_readWall_54 : decode cX8_readWall 54 = .ok (.getfield 128, 3) := by decide +kernel
theorem dX8_readWall_57 : decode cX8_readWall 57 = .ok (.iadd, 1) := by decide +kernel
theorem dX8_readWall_58 : decode cX8_readWall 58 = .ok (.iconst 0, 1) := by decide +kernel
theorem dX8_readWall_59 : decode cX8_readWall 59 = .ok (.iastore, 1) := by decide +kernel
theorem dX8_readWall_60 : decode cX8_readWall 60 = .ok (.aload_n 0, 1) := by decide +kernel
theorem dX8_readWall_61 : decode cX8_readWall 61 = .ok (.getfield 13, 3) := by decide +kernel
theorem dX8_readWall_64 : decode cX8_readWall 64 = .ok (.bipush 18, 2) := by decide +kernel
theorem dX8_readWall_66 : decode cX8_readWall 66 = .ok (.aload_n 0, 1) := by decide +kernel
theorem dX8_readWall_67 : decode cX8_readWall 67 = .ok (.getfield 128, 3) := by decide +kernel
theorem dX8_readWall_70 : decode cX8_readWall 70 = .ok (.iadd, 1) := by decide +kernel
theorem dX8_readWall_71 : decode cX8_readWall 71 = .ok (.iconst 0, 1) := by decide +kernel
theorem dX8_readWall_72 : decode cX8_readWall 72 = .ok (.iastore, 1) := by decide +kernel
theorem dX8_readWall_73 : decode cX8_readWall 73 = .ok (.aload_n 0, 1) := by decide +kernel
theorem dX8_readWall_74 : decode cX8_readWall 74 = .ok (.dup, 1) := by decide +kernel
theorem dX8_readWall_75 : decode cX8_readWall 75 = .ok (.getfield 128, 3) := by decide +kernel
theorem dX8_readWall_78 : decode cX8_readWall 78 = .ok (.iload_n 2, 1) := by decide +kernel
theorem dX8_readWall_79 : decode cX8_readWall 79 = .ok (.ifCond .ge 7, 3) := by decide +kernel
theorem dX8_readWall_82 : decode cX8_readWall 82 = .ok (.iconst 0, 1) := by decide +kernel
theorem dX8_readWall_83 : decode cX8_readWall 83 = .ok (.goto 4, 3) := by decide +kernel
theorem dX8_readWall_86 : decode cX8_readWall 86 = .ok (.iconst 1, 1) := by decide +kernel
theorem dX8_readWall_87 : decode cX8_readWall 87 = .ok (.iadd, 1) := by decide +kernel
theorem dX8_readWall_88 : decode cX8_readWall 88 = .ok (.putfield 128, 3) := by decide +kernel
theorem dX8_readWall_91 : decode cX8_readWall 91 = .ok (.iload_n 2, 1) := by decide +kernel
theorem dX8_readWall_92 : decode cX8_readWall 92 = .ok (.ifCond .lt 7, 3) := by decide +kernel
theorem dX8_readWall_95 : decode cX8_readWall 95 = .ok (.iconst 1, 1) := by decide +kernel
theorem dX8_readWall_96 : decode cX8_readWall 96 = .ok (.goto 4, 3) := by decide +kernel
theorem dX8_readWall_99 : decode cX8_readWall 99 = .ok (.iconst 0, 1) := by decide +kernel
theorem dX8_readWall_100 : decode cX8_readWall 100 = .ok (.ireturn, 1) := by decide +kernel
set_option maxRecDepth 20000 in
theorem ggX8_readSees_X8_number : GoodIn wsX8_readSees wsX8_number := goodIn_r _ [7, 8, 9, 10, 11, 12, 6, 13, 14, 15, 16, 17, 18, 19, 20, 21, 22, 23, 24, 25, 26, 27, 28, 29, 30, 31, 32, 33, 34, 35, 36, 37, 38, 39, 40, 41, 42, 43, 44, 49, 50, 51, 52, 53, 54, 55, 56, 57, 58, 59, 60, 61, 62, 63, 64, 65, 66, 67, 68, 69, 70, 71, 72, 73, 74, 75, 76, 77, 78, 79, 80, 81] (by decide +kernel) (by decide +kernel)
set_option maxRecDepth 20000 in
theorem gX8_readSees_X8_number : GoodIn wsX8_readSees (wsV RX8 124 RX8 yX8_number wsX8_number) := goodIn_app (goodIn_of _ (by decide +kernel)) ggX8_readSees_X8_number
set_option maxRecDepth 20000 in
theorem ggX8_readSees_X8_seen : GoodIn wsX8_readSees wsX8_seen := goodIn_r _ [48] (by decide +kernel) (by decide +kernel)
set_option maxRecDepth 20000 in
theorem gX8_readSees_X8_seen : GoodIn wsX8_readSees (wsV RX8 131 RX8 yX8_seen wsX8_seen) := goodIn_app (goodIn_of _ (by decide +kernel)) ggX8_readSees_X8_seen
theorem dX8_readSees_0 : decode cX8_readSees 0 = .ok (.aload_n 0, 1) := by decide +kernel
theorem dX8_readSees_1 : decode cX8_readSees 1 = .ok (.iconst 0, 1) := by decide +kernel
theorem dX8_readSees_2 : decode cX8_readSees 2 = .ok (.aload_n 0, 1) := by decide +kernel
theorem dX8_readSees_3 : decode cX8_readSees 3 = .ok (.getfield 128, 3) := by decide +kernel
theorem dX8_readSees_6 : decode cX8_readSees 6 = .ok (.iconst 1, 1) := by decide +kernel
theorem dX8_readSees_7 : decode cX8_readSees 7 = .ok (.isub, 1) := by decide +kernel
theorem dX8_readSees_8 : decode cX8_readSees 8 = .ok (.invokevirtual 124, 3) := by decide +kernel
theorem dX8_readSees_11 : decode cX8_readSees 11 = .ok (.istore_n 1, 1) := by decide +kernel
theorem dX8_readSees_12 : decode cX8_readSees 12 = .ok (.iload_n 1, 1) := by decide +kernel
theorem dX8_readSees_13 : decode cX8_readSees 13 = .ok (.ifCond .ge 7, 3) := by decide +kernel
theorem dX8_readSees_16 : decode cX8_readSees 16 = .ok (.iconst (-1), 1) := by decide +kernel
theorem dX8_readSees_17 : decode cX8_readSees 17 = .ok (.goto 14, 3) := by decide +kernel
theorem dX8_readSees_20 : decode cX8_readSees 20 = .ok (.aload_n 0, 1) := by decide +kernel
theorem dX8_readSees_21 : decode cX8_readSees 21 = .ok (.iconst 0, 1) := by decide +kernel
theorem dX8_readSees_22 : decode cX8_readSees 22 = .ok (.aload_n 0, 1) := by decide +kernel
theorem dX8_readSees_23 : decode cX8_readSees 23 = .ok (.getfield 128, 3) := by decide +kernel
theorem dX8_readSees_26 : decode cX8_readSees 26 = .ok (.iconst 1, 1) := by decide +kernel
theorem dX8_readSees_27 : decode cX8_readSees 27 = .ok (.isub, 1) := by decide +kernel
theorem dX8_readSees_28 : decode cX8_readSees 28 = .ok (.invokevirtual 124, 3) := by decide +kernel
theorem dX8_readSees_31 : decode cX8_readSees 31 = .ok (.istore_n 2, 1) := by decide +kernel
theorem dX8_readSees_32 : decode cX8_readSees 32 = .ok (.iload_n 2, 1) := by decide +kernel
theorem dX8_readSees_33 : decode cX8_readSees 33 = .ok (.ifCond .lt 8, 3) := by decide +kernel
theorem dX8_readSees_36 : decode cX8_readSees 36 = .ok (.iload_n 2, 1) := by decide +kernel
theorem dX8_readSees_37 : decode cX8_readSees 37 = .ok (.iload_n 1, 1) := by decide +kernel
theorem dX8_readSees_38 : decode cX8_readSees 38 = .ok (.if_icmp .ne 5, 3) := by decide +kernel
theorem dX8_readSees_41 : decode cX8_readSees 41 = .ok (.iconst 0, 1) := by decide +kernel
theorem dX8_readSees_42 : decode cX8_readSees 42 = .ok (.ireturn, 1) := by decide +kernel
theorem dX8_readSees_43 : decode cX8_readSees 43 = .ok (.aload_n 0, 1) := by decide +kernel
theorem dX8_readSees_44 : decode cX8_readSees 44 = .ok (.aload_n 0, 1) := by decide +kernel
theorem dX8_readSees_45 : decode cX8_readSees 45 = .ok (.getfield 16, 3) := by decide +kernel
theorem dX8_readSees_48 : decode cX8_readSees 48 = .ok (.iload_n 1, 1) := by decide +kernel
theorem dX8_readSees_49 : decode cX8_readSees 49 = .ok (.invokevirtual 131, 3) := by decide +kernel
theorem dX8_readSees_52 : decode cX8_readSees 52 = .ok (.aload_n 0, 1) := by decide +kernel
theorem dX8_readSees_53 : decode cX8_readSees 53 = .ok (.aload_n 0, 1) := by decide +kernel
theorem dX8_readSees_54 : decode cX8_readSees 54 = .ok (.getfield 16, 3) := by decide +kernel
theorem dX8_readSees_57 : decode cX8_readSees 57 = .ok (.iload_n 2, 1) := by decide +kernel
theorem dX8_readSees_58 : decode cX8_readSees 58 = .ok (.invokevirtual 131, 3) := by decide +kernel
theorem dX8_readSees_61 : decode cX8_readSees 61 = .ok (.if_icmp .le 15, 3) := by decide +kernel
theorem dX8_readSees_64 : decode cX8_readSees 64 = .ok (.aload_n 0, 1) := by decide +kernel
theorem dX8_readSees_65 : decode cX8_readSees 65 = .ok (.aload_n 0, 1) := by decide +kernel
theorem dX8_readSees_66 : decode cX8_readSees 66 = .ok (.getfield 16, 3) := by decide +kernel
theorem dX8_readSees_69 : decode cX8_readSees 69 = .ok (.iload_n 1, 1) := by decide +kernel
theorem dX8_readSees_70 : decode cX8_readSees 70 = .ok (.invokevirtual 131, 3) := by decide +kernel
theorem dX8_readSees_73 : decode cX8_readSees 73 = .ok (.goto 12, 3) := by decide +kernel
theorem dX8_readSees_76 : decode cX8_readSees 76 = .ok (.aload_n 0, 1) := by decide +kernel
theorem dX8_readSees_77 : decode cX8_readSees 77 = .ok (.aload_n 0, 1) := by decide +kernel
theorem dX8_readSees_78 : decode cX8_readSees 78 = .ok (.getfield 16, 3) := by decide +kernel
theorem dX8_readSees_81 : decode cX8_readSees 81 = .ok (.iload_n 2, 1) := by decide +kernel
theorem dX8_readSees_82 : decode cX8_readSees 82 = .ok (.invokevirtual 131, 3) := by decide +kernel
theorem dX8_readSees_85 : decode cX8_readSees 85 = .ok (.istore_n 3, 1) := by decide +kernel
theorem dX8_readSees_86 : decode cX8_readSees 86 = .ok (.aload_n 0, 1) := by decide +kernel
theorem dX8_readSees_87 : decode cX8_readSees 87 = .ok (.iconst 1, 1) := by decide +kernel
theorem dX8_readSees_88 : decode cX8_readSees 88 = .ok (.bipush 10, 2) := by decide +kernel
theorem dX8_readSees_90 : decode cX8_readSees 90 = .ok (.iload_n 3, 1) := by decide +kernel
theorem dX8_readSees_91 : decode cX8_readSees 91 = .ok (.isub, 1) := by decide +kernel
theorem dX8_readSees_92 : decode cX8_readSees 92 = .ok (.invokevirtual 124, 3) := by decide +kernel
theorem dX8_readSees_95 : decode cX8_readSees 95 = .ok (.istore 4, 2) := by decide +kernel
theorem dX8_readSees_97 : decode cX8_readSees 97 = .ok (.aload_n 0, 1) := by decide +kernel
theorem dX8_readSees_98 : decode cX8_readSees 98 = .ok (.getfield 16, 3) := by decide +kernel
theorem dX8_readSees_101 : decode cX8_readSees 101 = .ok (.bipush 6, 2) := by decide +kernel
theorem dX8_readSees_103 : decode cX8_readSees 103 = .ok (.iload_n 1, 1) := by decide +kernel
theorem dX8_readSees_104 : decode cX8_readSees 104 = .ok (.imul, 1) := by decide +kernel
theorem dX8_readSees_105 : decode cX8_readSees 105 = .ok (.iload_n 2, 1) := by decide +kernel
theorem dX8_readSees_106 : decode cX8_readSees 106 = .ok (.iadd, 1) := by decide +kernel
theorem dX8_readSees_107 : decode cX8_readSees 107 = .ok (.dup2, 1) := by decide +kernel
theorem dX8_readSees_108 : decode cX8_readSees 108 = .ok (.iaload, 1) := by decide +kernel
theorem dX8_readSees_109 : decode cX8_readSees 109 = .ok (.iload 4, 2) := by decide +kernel
theorem dX8_readSees_111 : decode cX8_readSees 111 = .ok (.ifCond .ge 7, 3) := by decide +kernel
theorem dX8_readSees_114 : decode cX8_readSees 114 = .ok (.iconst 0, 1) := by decide +kernel
theorem dX8_readSees_115 : decode cX8_readSees 115 = .ok (.goto 5, 3) := by decide +kernel
theorem dX8_readSees_118 : decode cX8_readSees 118 = .ok (.iload 4, 2) := by decide +kernel
theorem dX8_readSees_120 : decode cX8_readSees 120 = .ok (.iadd, 1) := by decide +kernel
theorem dX8_readSees_121 : decode cX8_readSees 121 = .ok (.iastore, 1) := by decide +kernel
theorem dX8_readSees_122 : decode cX8_readSees 122 = .ok (.aload_n 0, 1) := by decide +kernel
theorem dX8_readSees_123 : decode cX8_readSees 123 = .ok (.getfield 16, 3) := by decide +kernel
theorem dX8_readSees_126 : decode cX8_readSees 126 = .ok (.bipush 6, 2) := by decide +kernel
theorem dX8_readSees_128 : decode cX8_readSees 128 = .ok (.iload_n 2, 1) := by decide +kernel
theorem dX8_readSees_129 : decode cX8_readSees 129 = .ok (.imul, 1) := by decide +kernel
theorem dX8_readSees_130 : decode cX8_readSees 130 = .ok (.iload_n 1, 1) := by decide +kernel
theorem dX8_readSees_131 : decode cX8_readSees 131 = .ok (.iadd, 1) := by decide +kernel
theorem dX8_readSees_132 : decode cX8_readSees 132 = .ok (.aload_n 0, 1) := by decide +kernel
theorem dX8_readSees_133 : decode cX8_readSees 133 = .ok (.getfield 16, 3) := by decide +kernel
theorem dX8_readSees_136 : decode cX8_readSees 136 = .ok (.bipush 6, 2) := by decide +kernel
theorem dX8_readSees_138 : decode cX8_readSees 138 = .ok (.iload_n 1, 1) := by decide +kernel
theorem dX8_readSees_139 : decode cX8_readSees 139 = .ok (.imul, 1) := by decide +kernel
theorem dX8_readSees_140 : decode cX8_readSees 140 = .ok (.iload_n 2, 1) := by decide +kernel
theorem dX8_readSees_141 : decode cX8_readSees 141 = .ok (.iadd, 1) := by decide +kernel
theorem dX8_readSees_142 : decode cX8_readSees 142 = .ok (.iaload, 1) := by decide +kernel
theorem dX8_readSees_143 : decode cX8_readSees 143 = .ok (.iastore, 1) := by decide +kernel
theorem dX8_readSees_144 : decode cX8_readSees 144 = .ok (.iload 4, 2) := by decide +kernel
theorem dX8_readSees_146 : decode cX8_readSees 146 = .ok (.ifCond .lt 7, 3) := by decide +kernel
theorem dX8_readSees_149 : decode cX8_readSees 149 = .ok (.iconst 1, 1) := by decide +kernel
theorem dX8_readSees_150 : decode cX8_readSees 150 = .ok (.goto 4, 3) := by decide +kernel
theorem dX8_readSees_153 : decode cX8_readSees 153 = .ok (.iconst 0, 1) := by decide +kernel
theorem dX8_readSees_154 : decode cX8_readSees 154 = .ok (.ireturn, 1) := by decide +kernel
set_option maxRecDepth 20000 in
theorem ggX8_readWork_X8_number : GoodIn wsX8_readWork wsX8_number := goodIn_r _ [7, 8, 9, 10, 11, 12, 6, 13, 14, 15, 16, 17, 18, 19, 20, 21, 22, 23, 24, 25, 26, 27, 28, 29, 30, 31, 32, 33, 34, 35, 36, 37, 38, 39, 40, 41, 42, 43, 44, 45, 46, 47, 48, 49, 50, 51, 52, 53, 54, 55, 56, 57, 58, 59, 60, 61, 62, 63, 64, 65, 66, 67, 68, 69, 70, 71, 72, 73, 74, 75, 76, 77] (by decide +kernel) (by decide +kernel)
set_option maxRecDepth 20000 in
theorem gX8_readWork_X8_number : GoodIn wsX8_readWork (wsV RX8 124 RX8 yX8_number wsX8_number) := goodIn_app (goodIn_of _ (by decide +kernel)) ggX8_readWork_X8_number
theorem dX8_readWork_0 : decode cX8_readWork 0 = .ok (.aload_n 0, 1) := by decide +kernel
theorem dX8_readWork_1 : decode cX8_readWork 1 = .ok (.iconst 0, 1) := by decide +kernel
theorem dX8_readWork_2 : decode cX8_readWork 2 = .ok (.aload_n 0, 1) := by decide +kernel
theorem dX8_readWork_3 : decode cX8_readWork 3 = .ok (.getfield 128, 3) := by decide +kernel
theorem dX8_readWork_6 : decode cX8_readWork 6 = .ok (.iconst 1, 1) := by decide +kernel
theorem dX8_readWork_7 : decode cX8_readWork 7 = .ok (.isub, 1) := by decide +kernel
theorem dX8_readWork_8 : decode cX8_readWork 8 = .ok (.invokevirtual 124, 3) := by decide +kernel
theorem dX8_readWork_11 : decode cX8_readWork 11 = .ok (.istore_n 1, 1) := by decide +kernel
theorem dX8_readWork_12 : decode cX8_readWork 12 = .ok (.iload_n 1, 1) := by decide +kernel
theorem dX8_readWork_13 : decode cX8_readWork 13 = .ok (.ifCond .ge 7, 3) := by decide +kernel
theorem dX8_readWork_16 : decode cX8_readWork 16 = .ok (.iconst (-1), 1) := by decide +kernel
theorem dX8_readWork_17 : decode cX8_readWork 17 = .ok (.goto 10, 3) := by decide +kernel
theorem dX8_readWork_20 : decode cX8_readWork 20 = .ok (.aload_n 0, 1) := by decide +kernel
theorem dX8_readWork_21 : decode cX8_readWork 21 = .ok (.iconst 0, 1) := by decide +kernel
theorem dX8_readWork_22 : decode cX8_readWork 22 = .ok (.bipush 20, 2) := by decide +kernel
theorem dX8_readWork_24 : decode cX8_readWork 24 = .ok (.invokevirtual 124, 3) := by decide +kernel
theorem dX8_readWork_27 : decode cX8_readWork 27 = .ok (.istore_n 2, 1) := by decide +kernel
theorem dX8_readWork_28 : decode cX8_readWork 28 = .ok (.iload_n 2, 1) := by decide +kernel
theorem dX8_readWork_29 : decode cX8_readWork 29 = .ok (.ifCond .ge 7, 3) := by decide +kernel
theorem dX8_readWork_32 : decode cX8_readWork 32 = .ok (.iconst (-1), 1) := by decide +kernel
theorem dX8_readWork_33 : decode cX8_readWork 33 = .ok (.goto 10, 3) := by decide +kernel
theorem dX8_readWork_36 : decode cX8_readWork 36 = .ok (.aload_n 0, 1) := by decide +kernel
theorem dX8_readWork_37 : decode cX8_readWork 37 = .ok (.iconst 0, 1) := by decide +kernel
theorem dX8_readWork_38 : decode cX8_readWork 38 = .ok (.bipush 15, 2) := by decide +kernel
theorem dX8_readWork_40 : decode cX8_readWork 40 = .ok (.invokevirtual 124, 3) := by decide +kernel
theorem dX8_readWork_43 : decode cX8_readWork 43 = .ok (.istore_n 3, 1) := by decide +kernel
theorem dX8_readWork_44 : decode cX8_readWork 44 = .ok (.iload_n 3, 1) := by decide +kernel
theorem dX8_readWork_45 : decode cX8_readWork 45 = .ok (.ifCond .ge 7, 3) := by decide +kernel
theorem dX8_readWork_48 : decode cX8_readWork 48 = .ok (.iconst (-1), 1) := by decide +kernel
theorem dX8_readWork_49 : decode cX8_readWork 49 = .ok (.goto 10, 3) := by decide +kernel
theorem dX8_readWork_52 : decode cX8_readWork 52 = .ok (.aload_n 0, 1) := by decide +kernel
theorem dX8_readWork_53 : decode cX8_readWork 53 = .ok (.iconst 0, 1) := by decide +kernel
theorem dX8_readWork_54 : decode cX8_readWork 54 = .ok (.bipush 15, 2) := by decide +kernel
theorem dX8_readWork_56 : decode cX8_readWork 56 = .ok (.invokevirtual 124, 3) := by decide +kernel
theorem dX8_readWork_59 : decode cX8_readWork 59 = .ok (.istore 4, 2) := by decide +kernel
theorem dX8_readWork_61 : decode cX8_readWork 61 = .ok (.iload 4, 2) := by decide +kernel
theorem dX8_readWork_63 : decode cX8_readWork 63 = .ok (.ifCond .lt 29, 3) := by decide +kernel
theorem dX8_readWork_66 : decode cX8_readWork 66 = .ok (.aload_n 0, 1) := by decide +kernel
theorem dX8_readWork_67 : decode cX8_readWork 67 = .ok (.getfield 13, 3) := by decide +kernel
theorem dX8_readWork_70 : decode cX8_readWork 70 = .ok (.bipush 12, 2) := by decide +kernel
theorem dX8_readWork_72 : decode cX8_readWork 72 = .ok (.iload_n 1, 1) := by decide +kernel
theorem dX8_readWork_73 : decode cX8_readWork 73 = .ok (.iadd, 1) := by decide +kernel
theorem dX8_readWork_74 : decode cX8_readWork 74 = .ok (.iload_n 2, 1) := by decide +kernel
theorem dX8_readWork_75 : decode cX8_readWork 75 = .ok (.iastore, 1) := by decide +kernel
theorem dX8_readWork_76 : decode cX8_readWork 76 = .ok (.aload_n 0, 1) := by decide +kernel
theorem dX8_readWork_77 : decode cX8_readWork 77 = .ok (.getfield 13, 3) := by decide +kernel
theorem dX8_readWork_80 : decode cX8_readWork 80 = .ok (.bipush 18, 2) := by decide +kernel
theorem dX8_readWork_82 : decode cX8_readWork 82 = .ok (.iload_n 1, 1) := by decide +kernel
theorem dX8_readWork_83 : decode cX8_readWork 83 = .ok (.iadd, 1) := by decide +kernel
theorem dX8_readWork_84 : decode cX8_readWork 84 = .ok (.iload_n 3, 1) := by decide +kernel
theorem dX8_readWork_85 : decode cX8_readWork 85 = .ok (.bipush 16, 2) := by decide +kernel
theorem dX8_readWork_87 : decode cX8_readWork 87 = .ok (.iload 4, 2) := by decide +kernel
theorem dX8_readWork_89 : decode cX8_readWork 89 = .ok (.imul, 1) := by decide +kernel
theorem dX8_readWork_90 : decode cX8_readWork 90 = .ok (.iadd, 1) := by decide +kernel
theorem dX8_readWork_91 : decode cX8_readWork 91 = .ok (.iastore, 1) := by decide +kernel
theorem dX8_readWork_92 : decode cX8_readWork 92 = .ok (.iload 4, 2) := by decide +kernel
theorem dX8_readWork_94 : decode cX8_readWork 94 = .ok (.ifCond .lt 7, 3) := by decide +kernel
theorem dX8_readWork_97 : decode cX8_readWork 97 = .ok (.iconst 1, 1) := by decide +kernel
theorem dX8_readWork_98 : decode cX8_readWork 98 = .ok (.goto 4, 3) := by decide +kernel
theorem dX8_readWork_101 : decode cX8_readWork 101 = .ok (.iconst 0, 1) := by decide +kernel
theorem dX8_readWork_102 : decode cX8_readWork 102 = .ok (.ireturn, 1) := by decide +kernel
set_option maxRecDepth 20000 in
theorem ggX8_readItem_X8_readWall : GoodIn wsX8_readItem wsX8_readWall := goodIn_r _ [9, 10, 3, 11, 12, 13, 8, 14, 2, 1, 15, 16, 17, 18, 19, 20, 21, 22, 23, 24, 25, 26, 27, 28, 29, 30, 31, 32, 33, 34, 35, 36, 37, 38, 39, 40, 41, 42, 43, 44, 45, 46, 47, 48, 49, 63, 64, 65, 66, 67, 68, 69, 70, 71, 72, 73, 74, 75, 76, 77, 78, 79, 80, 81, 82, 83, 84, 85, 86, 87, 88, 89, 90, 91, 92, 93, 94, 95] (by decide +kernel) (by decide +kernel)
set_option maxRecDepth 20000 in
theorem gX8_readItem_X8_readWall : GoodIn wsX8_readItem (wsV RX8 138 RX8 yX8_readWall wsX8_readWall) := goodIn_app (goodIn_of _ (by decide +kernel)) ggX8_readItem_X8_readWall
set_option maxRecDepth 20000 in
theorem ggX8_readItem_X8_readSees : GoodIn wsX8_readItem wsX8_readSees := goodIn_r _ [53, 3, 54, 11, 12, 13, 8, 14, 2, 1, 15, 16, 17, 18, 19, 20, 21, 22, 23, 24, 25, 26, 27, 28, 29, 30, 31, 32, 33, 34, 35, 36, 37, 38, 39, 40, 41, 42, 43, 44, 45, 46, 47, 48, 49, 55, 56, 57, 58, 63, 64, 65, 66, 67, 68, 69, 70, 71, 72, 73, 74, 75, 76, 77, 78, 79, 80, 81, 82, 83, 84, 85, 86, 87, 88, 89, 90, 91, 92, 93, 94, 95] (by decide +kernel) (by decide +kernel)
set_option maxRecDepth 20000 in
theorem gX8_readItem_X8_readSees : GoodIn wsX8_readItem (wsV RX8 142 RX8 yX8_readSees wsX8_readSees) := goodIn_app (goodIn_of _ (by decide +kernel)) ggX8_readItem_X8_readSees
set_option maxRecDepth 20000 in
theorem ggX8_readItem_X8_readWork : GoodIn wsX8_readItem wsX8_readWork := goodIn_r _ [62, 3, 10, 11, 12, 13, 8, 14, 2, 1, 15, 16, 17, 18, 19, 20, 21, 22, 23, 24, 25, 26, 27, 28, 29, 30, 31, 32, 33, 34, 35, 36, 37, 38, 39, 40, 41, 42, 43, 44, 45, 46, 47, 48, 49, 63, 64, 65, 66, 67, 68, 69, 70, 71, 72, 73, 74, 75, 76, 77, 78, 79, 80, 81, 82, 83, 84, 85, 86, 87, 88, 89, 90, 91, 92, 93, 94, 95] (by decide +kernel) (by decide +kernel)
set_option maxRecDepth 20000 in
theorem gX8_readItem_X8_readWork : GoodIn wsX8_readItem (wsV RX8 145 RX8 yX8_readWork wsX8_readWork) := goodIn_app (goodIn_of _ (by decide +kernel)) ggX8_readItem_X8_readWork
set_option maxRecDepth 20000 in
theorem ggX8_readItem_X8_number : GoodIn wsX8_readItem wsX8_number := goodIn_r _ [14, 2, 1, 15, 16, 17, 8, 18, 19, 20, 21, 22, 23, 24, 25, 26, 27, 28, 29, 30, 31, 32, 33, 34, 35, 36, 37, 38, 39, 40, 41, 42, 43, 44, 45, 46, 47, 48, 49, 63, 64, 65, 66, 67, 68, 69, 70, 71, 72, 73, 74, 75, 76, 77, 78, 79, 80, 81, 82, 83, 84, 85, 86, 87, 88, 89, 90, 91, 92, 93, 94, 95] (by decide +kernel) (by decide +kernel)
set_option maxRecDepth 20000 in
theorem gX8_readItem_X8_number : GoodIn wsX8_readItem (wsV RX8 124 RX8 yX8_number wsX8_number) := goodIn_app (goodIn_of _ (by decide +kernel)) ggX8_readItem_X8_number
set_option maxRecDepth 20000 in
theorem ggX8_readItem_X8_reads : GoodIn wsX8_readItem wsX8_reads := goodIn_r _ [18, 19, 20, 21, 22, 2, 23, 24, 8, 25, 26, 27, 28, 29, 30, 31, 32, 33, 34, 35, 36, 37, 38, 39, 40, 1, 41, 42, 43, 44, 45, 46, 47, 48, 49, 63, 64, 65, 66, 67, 68, 69, 70, 71, 72, 73, 74, 75, 76, 77, 78, 79, 80, 81, 82, 83, 84, 85, 86, 87, 88, 89, 90, 91, 92, 93, 94, 95] (by decide +kernel) (by decide +kernel)
set_option maxRecDepth 20000 in
theorem gX8_readItem_X8_reads : GoodIn wsX8_readItem (wsV RX8 121 RX8 yX8_reads wsX8_reads) := goodIn_app (goodIn_of _ (by decide +kernel)) ggX8_readItem_X8_reads
theorem dX8_readItem_0 : decode cX8_readItem 0 = .ok (.aload_n 0, 1) := by decide +kernel
theorem dX8_readItem_1 : decode cX8_readItem 1 = .ok (.getfield 106, 3) := by decide +kernel
theorem dX8_readItem_4 : decode cX8_readItem 4 = .ok (.istore_n 1, 1) := by decide +kernel
theorem dX8_readItem_5 : decode cX8_readItem 5 = .ok (.aload_n 0, 1) := by decide +kernel
theorem dX8_readItem_6 : decode cX8_readItem 6 = .ok (.getfield 109, 3) := by decide +kernel
theorem dX8_readItem_9 : decode cX8_readItem 9 = .ok (.iconst 1, 1) := by decide +kernel
theorem dX8_readItem_10 : decode cX8_readItem 10 = .ok (.if_icmp .ne 28, 3) := by decide +kernel
theorem dX8_readItem_13 : decode cX8_readItem 13 = .ok (.iload_n 1, 1) := by decide +kernel
theorem dX8_readItem_14 : decode cX8_readItem 14 = .ok (.ifCond .ne 12, 3) := by decide +kernel
theorem dX8_readItem_17 : decode cX8_readItem 17 = .ok (.aload_n 0, 1) := by decide +kernel
theorem dX8_readItem_18 : decode cX8_readItem 18 = .ok (.getfield 128, 3) := by decide +kernel
theorem dX8_readItem_21 : decode cX8_readItem 21 = .ok (.bipush 6, 2) := by decide +kernel
theorem dX8_readItem_23 : decode cX8_readItem 23 = .ok (.if_icmp .eq 15, 3) := by decide +kernel
theorem dX8_readItem_26 : decode cX8_readItem 26 = .ok (.iload_n 1, 1) := by decide +kernel
theorem dX8_readItem_27 : decode cX8_readItem 27 = .ok (.iconst 3, 1) := by decide +kernel
theorem dX8_readItem_28 : decode cX8_readItem 28 = .ok (.if_icmp .ne 12, 3) := by decide +kernel
theorem dX8_readItem_31 : decode cX8_readItem 31 = .ok (.aload_n 0, 1) := by decide +kernel
theorem dX8_readItem_32 : decode cX8_readItem 32 = .ok (.getfield 135, 3) := by decide +kernel
theorem dX8_readItem_35 : decode cX8_readItem 35 = .ok (.ifCond .lt 5, 3) := by decide +kernel
theorem dX8_readItem_38 : decode cX8_readItem 38 = .ok (.iconst 0, 1) := by decide +kernel
theorem dX8_readItem_39 : decode cX8_readItem 39 = .ok (.ireturn, 1) := by decide +kernel
theorem dX8_readItem_40 : decode cX8_readItem 40 = .ok (.iload_n 1, 1) := by decide +kernel
theorem dX8_readItem_41 : decode cX8_readItem 41 = .ok (.ifCond .ne 10, 3) := by decide +kernel
theorem dX8_readItem_44 : decode cX8_readItem 44 = .ok (.aload_n 0, 1) := by decide +kernel
theorem dX8_readItem_45 : decode cX8_readItem 45 = .ok (.invokevirtual 138, 3) := by decide +kernel
theorem dX8_readItem_48 : decode cX8_readItem 48 = .ok (.goto 32, 3) := by decide +kernel
theorem dX8_readItem_51 : decode cX8_readItem 51 = .ok (.iload_n 1, 1) := by decide +kernel
theorem dX8_readItem_52 : decode cX8_readItem 52 = .ok (.iconst 1, 1) := by decide +kernel
theorem dX8_readItem_53 : decode cX8_readItem 53 = .ok (.if_icmp .ne 10, 3) := by decide +kernel
theorem dX8_readItem_56 : decode cX8_readItem 56 = .ok (.aload_n 0, 1) := by decide +kernel
theorem dX8_readItem_57 : decode cX8_readItem 57 = .ok (.invokevirtual 142, 3) := by decide +kernel
theorem dX8_readItem_60 : decode cX8_readItem 60 = .ok (.goto 20, 3) := by decide +kernel
theorem dX8_readItem_63 : decode cX8_readItem 63 = .ok (.iload_n 1, 1) := by decide +kernel
theorem dX8_readItem_64 : decode cX8_readItem 64 = .ok (.iconst 2, 1) := by decide +kernel
theorem dX8_readItem_65 : decode cX8_readItem 65 = .ok (.if_icmp .ne 14, 3) := by decide +kernel
theorem dX8_readItem_68 : decode cX8_readItem 68 = .ok (.aload_n 0, 1) := by decide +kernel
theorem dX8_readItem_69 : decode cX8_readItem 69 = .ok (.invokevirtual 145, 3) := by decide +kernel
theorem dX8_readItem_72 : decode cX8_readItem 72 = .ok (.ifCond .eq 7, 3) := by decide +kernel
theorem dX8_readItem_75 : decode cX8_readItem 75 = .ok (.iconst 1, 1) := by decide +kernel
theorem dX8_readItem_76 : decode cX8_readItem 76 = .ok (.goto 4, 3) := by decide +kernel
theorem dX8_readItem_79 : decode cX8_readItem 79 = .ok (.iconst 0, 1) := by decide +kernel
theorem dX8_readItem_80 : decode cX8_readItem 80 = .ok (.istore_n 2, 1) := by decide +kernel
theorem dX8_readItem_81 : decode cX8_readItem 81 = .ok (.iload_n 1, 1) := by decide +kernel
theorem dX8_readItem_82 : decode cX8_readItem 82 = .ok (.iconst 3, 1) := by decide +kernel
theorem dX8_readItem_83 : decode cX8_readItem 83 = .ok (.if_icmp .ne 27, 3) := by decide +kernel
theorem dX8_readItem_86 : decode cX8_readItem 86 = .ok (.aload_n 0, 1) := by decide +kernel
theorem dX8_readItem_87 : decode cX8_readItem 87 = .ok (.aload_n 0, 1) := by decide +kernel
theorem dX8_readItem_88 : decode cX8_readItem 88 = .ok (.iconst 0, 1) := by decide +kernel
theorem dX8_readItem_89 : decode cX8_readItem 89 = .ok (.bipush 99, 2) := by decide +kernel
theorem dX8_readItem_91 : decode cX8_readItem 91 = .ok (.invokevirtual 124, 3) := by decide +kernel
theorem dX8_readItem_94 : decode cX8_readItem 94 = .ok (.putfield 135, 3) := by decide +kernel
theorem dX8_readItem_97 : decode cX8_readItem 97 = .ok (.aload_n 0, 1) := by decide +kernel
theorem dX8_readItem_98 : decode cX8_readItem 98 = .ok (.getfield 135, 3) := by decide +kernel
theorem dX8_readItem_101 : decode cX8_readItem 101 = .ok (.ifCond .lt 7, 3) := by decide +kernel
theorem dX8_readItem_104 : decode cX8_readItem 104 = .ok (.iconst 1, 1) := by decide +kernel
theorem dX8_readItem_105 : decode cX8_readItem 105 = .ok (.goto 4, 3) := by decide +kernel
theorem dX8_readItem_108 : decode cX8_readItem 108 = .ok (.iconst 0, 1) := by decide +kernel
theorem dX8_readItem_109 : decode cX8_readItem 109 = .ok (.istore_n 2, 1) := by decide +kernel
theorem dX8_readItem_110 : decode cX8_readItem 110 = .ok (.iload_n 2, 1) := by decide +kernel
theorem dX8_readItem_111 : decode cX8_readItem 111 = .ok (.ifCond .ne 5, 3) := by decide +kernel
theorem dX8_readItem_114 : decode cX8_readItem 114 = .ok (.iconst 0, 1) := by decide +kernel
theorem dX8_readItem_115 : decode cX8_readItem 115 = .ok (.ireturn, 1) := by decide +kernel
theorem dX8_readItem_116 : decode cX8_readItem 116 = .ok (.aload_n 0, 1) := by decide +kernel
theorem dX8_readItem_117 : decode cX8_readItem 117 = .ok (.invokevirtual 121, 3) := by decide +kernel
theorem dX8_readItem_120 : decode cX8_readItem 120 = .ok (.aload_n 0, 1) := by decide +kernel
theorem dX8_readItem_121 : decode cX8_readItem 121 = .ok (.getfield 109, 3) := by decide +kernel
theorem dX8_readItem_124 : decode cX8_readItem 124 = .ok (.iconst 3, 1) := by decide +kernel
theorem dX8_readItem_125 : decode cX8_readItem 125 = .ok (.if_icmp .ne 7, 3) := by decide +kernel
theorem dX8_readItem_128 : decode cX8_readItem 128 = .ok (.iconst 1, 1) := by decide +kernel
theorem dX8_readItem_129 : decode cX8_readItem 129 = .ok (.goto 4, 3) := by decide +kernel
theorem dX8_readItem_132 : decode cX8_readItem 132 = .ok (.iconst 0, 1) := by decide +kernel
theorem dX8_readItem_133 : decode cX8_readItem 133 = .ok (.ireturn, 1) := by decide +kernel
set_option maxRecDepth 20000 in
theorem ggX8_walls_X8_reads : GoodIn wsX8_walls wsX8_reads := goodIn_r _ [12, 1, 7, 13, 6, 5, 14, 15, 11, 16, 17, 18, 19, 20, 21, 22, 23, 24, 25, 26, 27, 28, 29, 30, 31, 32, 33, 34, 35, 36, 37, 38, 39, 40, 41, 86, 87, 88, 89, 90, 91, 92, 93, 94, 95, 96, 97, 98, 99, 100, 101, 102, 103, 104, 105, 106, 107, 108, 109, 110, 111, 112, 113, 114, 115, 116, 117, 118] (by decide +kernel) (by decide +kernel)
set_option maxRecDepth 20000 in
theorem gX8_walls_X8_reads : GoodIn wsX8_walls (wsV RX8 121 RX8 yX8_reads wsX8_reads) := goodIn_app (goodIn_of _ (by decide +kernel)) ggX8_walls_X8_reads
set_option maxRecDepth 20000 in
theorem ggX8_walls_X8_readItem : GoodIn wsX8_walls wsX8_readItem := goodIn_r _ [45, 32, 5, 2, 3, 46, 47, 48, 11, 49, 50, 51, 52, 53, 54, 8, 9, 10, 12, 1, 7, 13, 6, 14, 15, 16, 17, 18, 19, 20, 21, 22, 23, 24, 25, 26, 27, 28, 29, 30, 31, 33, 34, 35, 36, 37, 38, 39, 40, 41, 55, 56, 57, 58, 4, 59, 60, 61, 62, 63, 64, 65, 66, 86, 87, 88, 89, 90, 91, 92, 93, 94, 95, 96, 97, 98, 99, 100, 101, 102, 103, 104, 105, 106, 107, 108, 109, 110, 111, 112, 113, 114, 115, 116, 117, 118] (by decide +kernel) (by decide +kernel)
set_option maxRecDepth 20000 in
theorem gX8_walls_X8_readItem : GoodIn wsX8_walls (wsV RX8 148 RX8 yX8_readItem wsX8_readItem) := goodIn_app (goodIn_of _ (by decide +kernel)) ggX8_walls_X8_readItem
set_option maxRecDepth 20000 in
theorem ggX8_walls_X8_takes : GoodIn wsX8_walls wsX8_takes := goodIn_r _ [70, 2, 71, 3, 72, 73, 50, 74, 75, 76, 77, 78, 4, 79, 80, 81, 82, 83, 84, 85, 86, 87, 88, 89, 90, 91, 92, 93, 94, 95, 96, 97, 98, 99, 100, 101, 102, 103, 104, 105, 106, 107, 108, 109, 110, 111, 112, 113, 114, 115, 116, 117, 118] (by decide +kernel) (by decide +kernel)
set_option maxRecDepth 20000 in
theorem gX8_walls_X8_takes : GoodIn wsX8_walls (wsV RX8 151 RX8 yX8_takes wsX8_takes) := goodIn_app (goodIn_of _ (by decide +kernel)) ggX8_walls_X8_takes
theorem dX8_walls_0 : decode cX8_walls 0 = .ok (.aload_n 0, 1) := by decide +kernel
theorem dX8_walls_1 : decode cX8_walls 1 = .ok (.iconst 0, 1) := by decide +kernel
theorem dX8_walls_2 : decode cX8_walls 2 = .ok (.putfield 84, 3) := by decide +kernel
theorem dX8_walls_5 : decode cX8_walls 5 = .ok (.aload_n 0, 1) := by decide +kernel
theorem dX8_walls_6 : decode cX8_walls 6 = .ok (.iconst 0, 1) := by decide +kernel
theorem dX8_walls_7 : decode cX8_walls 7 = .ok (.putfield 128, 3) := by decide +kernel
theorem dX8_walls_10 : decode cX8_walls 10 = .ok (.aload_n 0, 1) := by decide +kernel
theorem dX8_walls_11 : decode cX8_walls 11 = .ok (.iconst (-1), 1) := by decide +kernel
theorem dX8_walls_12 : decode cX8_walls 12 = .ok (.putfield 135, 3) := by decide +kernel
theorem dX8_walls_15 : decode cX8_walls 15 = .ok (.iconst 0, 1) := by decide +kernel
theorem dX8_walls_16 : decode cX8_walls 16 = .ok (.istore_n 1, 1) := by decide +kernel
theorem dX8_walls_17 : decode cX8_walls 17 = .ok (.iload_n 1, 1) := by decide +kernel
theorem dX8_walls_18 : decode cX8_walls 18 = .ok (.bipush 36, 2) := by decide +kernel
theorem dX8_walls_20 : decode cX8_walls 20 = .ok (.if_icmp .ge 16, 3) := by decide +kernel
theorem dX8_walls_23 : decode cX8_walls 23 = .ok (.aload_n 0, 1) := by decide +kernel
theorem dX8_walls_24 : decode cX8_walls 24 = .ok (.getfield 16, 3) := by decide +kernel
theorem dX8_walls_27 : decode cX8_walls 27 = .ok (.iload_n 1, 1) := by decide +kernel
theorem dX8_walls_28 : decode cX8_walls 28 = .ok (.iconst 0, 1) := by decide +kernel
theorem dX8_walls_29 : decode cX8_walls 29 = .ok (.iastore, 1) := by decide +kernel
theorem dX8_walls_30 : decode cX8_walls 30 = .ok (.iinc 1 1, 3) := by decide +kernel
theorem dX8_walls_33 : decode cX8_walls 33 = .ok (.goto (-16), 3) := by decide +kernel
theorem dX8_walls_36 : decode cX8_walls 36 = .ok (.iconst 0, 1) := by decide +kernel
theorem dX8_walls_37 : decode cX8_walls 37 = .ok (.istore_n 1, 1) := by decide +kernel
theorem dX8_walls_38 : decode cX8_walls 38 = .ok (.aload_n 0, 1) := by decide +kernel
theorem dX8_walls_39 : decode cX8_walls 39 = .ok (.invokevirtual 121, 3) := by decide +kernel
theorem dX8_walls_42 : decode cX8_walls 42 = .ok (.aload_n 0, 1) := by decide +kernel
theorem dX8_walls_43 : decode cX8_walls 43 = .ok (.getfield 109, 3) := by decide +kernel
theorem dX8_walls_46 : decode cX8_walls 46 = .ok (.ifCond .eq 28, 3) := by decide +kernel
theorem dX8_walls_49 : decode cX8_walls 49 = .ok (.aload_n 0, 1) := by decide +kernel
theorem dX8_walls_50 : decode cX8_walls 50 = .ok (.invokevirtual 148, 3) := by decide +kernel
theorem dX8_walls_53 : decode cX8_walls 53 = .ok (.ifCond .ne 11, 3) := by decide +kernel
theorem dX8_walls_56 : decode cX8_walls 56 = .ok (.bipush (-10), 2) := by decide +kernel
theorem dX8_walls_58 : decode cX8_walls 58 = .ok (.aload_n 0, 1) := by decide +kernel
theorem dX8_walls_59 : decode cX8_walls 59 = .ok (.getfield 91, 3) := by decide +kernel
theorem dX8_walls_62 : decode cX8_walls 62 = .ok (.isub, 1) := by decide +kernel
theorem dX8_walls_63 : decode cX8_walls 63 = .ok (.ireturn, 1) := by decide +kernel
theorem dX8_walls_64 : decode cX8_walls 64 = .ok (.iinc 1 1, 3) := by decide +kernel
theorem dX8_walls_67 : decode cX8_walls 67 = .ok (.aload_n 0, 1) := by decide +kernel
theorem dX8_walls_68 : decode cX8_walls 68 = .ok (.invokevirtual 121, 3) := by decide +kernel
theorem dX8_walls_71 : decode cX8_walls 71 = .ok (.goto (-29), 3) := by decide +kernel
theorem dX8_walls_74 : decode cX8_walls 74 = .ok (.aload_n 0, 1) := by decide +kernel
theorem dX8_walls_75 : decode cX8_walls 75 = .ok (.invokevirtual 151, 3) := by decide +kernel
theorem dX8_walls_78 : decode cX8_walls 78 = .ok (.aload_n 0, 1) := by decide +kernel
theorem dX8_walls_79 : decode cX8_walls 79 = .ok (.iconst 0, 1) := by decide +kernel
theorem dX8_walls_80 : decode cX8_walls 80 = .ok (.putfield 71, 3) := by decide +kernel
theorem dX8_walls_83 : decode cX8_walls 83 = .ok (.iload_n 1, 1) := by decide +kernel
theorem dX8_walls_84 : decode cX8_walls 84 = .ok (.ireturn, 1) := by decide +kernel
theorem dX8_takes_0 : decode cX8_takes 0 = .ok (.aload_n 0, 1) := by decide +kernel
theorem dX8_takes_1 : decode cX8_takes 1 = .ok (.aload_n 0, 1) := by decide +kernel
theorem dX8_takes_2 : decode cX8_takes 2 = .ok (.getfield 128, 3) := by decide +kernel
theorem dX8_takes_5 : decode cX8_takes 5 = .ok (.putfield 154, 3) := by decide +kernel
theorem dX8_takes_8 : decode cX8_takes 8 = .ok (.aload_n 0, 1) := by decide +kernel
theorem dX8_takes_9 : decode cX8_takes 9 = .ok (.aload_n 0, 1) := by decide +kernel
theorem dX8_takes_10 : decode cX8_takes 10 = .ok (.getfield 135, 3) := by decide +kernel
theorem dX8_takes_13 : decode cX8_takes 13 = .ok (.ifCond .ge 8, 3) := by decide +kernel
theorem dX8_takes_16 : decode cX8_takes 16 = .ok (.bipush 99, 2) := by decide +kernel
theorem dX8_takes_18 : decode cX8_takes 18 = .ok (.goto 13, 3) := by decide +kernel
theorem dX8_takes_21 : decode cX8_takes 21 = .ok (.bipush 10, 2) := by decide +kernel
theorem dX8_takes_23 : decode cX8_takes 23 = .ok (.aload_n 0, 1) := by decide +kernel
theorem dX8_takes_24 : decode cX8_takes 24 = .ok (.getfield 135, 3) := by decide +kernel
theorem dX8_takes_27 : decode cX8_takes 27 = .ok (.imul, 1) := by decide +kernel
theorem dX8_takes_28 : decode cX8_takes 28 = .ok (.bipush 9, 2) := by decide +kernel
theorem dX8_takes_30 : decode cX8_takes 30 = .ok (.iadd, 1) := by decide +kernel
theorem dX8_takes_31 : decode cX8_takes 31 = .ok (.putfield 61, 3) := by decide +kernel
theorem dX8_takes_34 : decode cX8_takes 34 = .ok (.iconst 0, 1) := by decide +kernel
theorem dX8_takes_35 : decode cX8_takes 35 = .ok (.istore_n 1, 1) := by decide +kernel
theorem dX8_takes_36 : decode cX8_takes 36 = .ok (.iload_n 1, 1) := by decide +kernel
theorem dX8_takes_37 : decode cX8_takes 37 = .ok (.aload_n 0, 1) := by decide +kernel
theorem dX8_takes_38 : decode cX8_takes 38 = .ok (.getfield 154, 3) := by decide +kernel
theorem dX8_takes_41 : decode cX8_takes 41 = .ok (.if_icmp .ge 78, 3) := by decide +kernel
theorem dX8_takes_44 : decode cX8_takes 44 = .ok (.aload_n 0, 1) := by decide +kernel
theorem dX8_takes_45 : decode cX8_takes 45 = .ok (.getfield 19, 3) := by decide +kernel
theorem dX8_takes_48 : decode cX8_takes 48 = .ok (.iload_n 1, 1) := by decide +kernel
theorem dX8_takes_49 : decode cX8_takes 49 = .ok (.aload_n 0, 1) := by decide +kernel
theorem dX8_takes_50 : decode cX8_takes 50 = .ok (.getfield 13, 3) := by decide +kernel
theorem dX8_takes_53 : decode cX8_takes 53 = .ok (.iload_n 1, 1) := by decide +kernel
theorem dX8_takes_54 : decode cX8_takes 54 = .ok (.iaload, 1) := by decide +kernel
theorem dX8_takes_55 : decode cX8_takes 55 = .ok (.iastore, 1) := by decide +kernel
theorem dX8_takes_56 : decode cX8_takes 56 = .ok (.aload_n 0, 1) := by decide +kernel
theorem dX8_takes_57 : decode cX8_takes 57 = .ok (.getfield 22, 3) := by decide +kernel
theorem dX8_takes_60 : decode cX8_takes 60 = .ok (.iload_n 1, 1) := by decide +kernel
theorem dX8_takes_61 : decode cX8_takes 61 = .ok (.aload_n 0, 1) := by decide +kernel
theorem dX8_takes_62 : decode cX8_takes 62 = .ok (.getfield 13, 3) := by decide +kernel
theorem dX8_takes_65 : decode cX8_takes 65 = .ok (.bipush 6, 2) := by decide +kernel
theorem dX8_takes_67 : decode cX8_takes 67 = .ok (.iload_n 1, 1) := by decide +kernel
theorem dX8_takes_68 : decode cX8_takes 68 = .ok (.iadd, 1) := by decide +kernel
theorem dX8_takes_69 : decode cX8_takes 69 = .ok (.iaload, 1) := by decide +kernel
theorem dX8_takes_70 : decode cX8_takes 70 = .ok (.iastore, 1) := by decide +kernel
theorem dX8_takes_71 : decode cX8_takes 71 = .ok (.aload_n 0, 1) := by decide +kernel
theorem dX8_takes_72 : decode cX8_takes 72 = .ok (.getfield 25, 3) := by decide +kernel
theorem dX8_takes_75 : decode cX8_takes 75 = .ok (.iload_n 1, 1) := by decide +kernel
theorem dX8_takes_76 : decode cX8_takes 76 = .ok (.aload_n 0, 1) := by decide +kernel
theorem dX8_takes_77 : decode cX8_takes 77 = .ok (.getfield 13, 3) := by decide +kernel
theorem dX8_takes_80 : decode cX8_takes 80 = .ok (.bipush 12, 2) := by decide +kernel
theorem dX8_takes_82 : decode cX8_takes 82 = .ok (.iload_n 1, 1) := by decide +kernel
theorem dX8_takes_83 : decode cX8_takes 83 = .ok (.iadd, 1) := by decide +kernel
theorem dX8_takes_84 : decode cX8_takes 84 = .ok (.iaload, 1) := by decide +kernel
theorem dX8_takes_85 : decode cX8_takes 85 = .ok (.iastore, 1) := by decide +kernel
theorem dX8_takes_86 : decode cX8_takes 86 = .ok (.aload_n 0, 1) := by decide +kernel
theorem dX8_takes_87 : decode cX8_takes 87 = .ok (.getfield 28, 3) := by decide +kernel
theorem dX8_takes_90 : decode cX8_takes 90 = .ok (.iload_n 1, 1) := by decide +kernel
theorem dX8_takes_91 : decode cX8_takes 91 = .ok (.aload_n 0, 1) := by decide +kernel
theorem dX8_takes_92 : decode cX8_takes 92 = .ok (.getfield 13, 3) := by decide +kernel
theorem dX8_takes_95 : decode cX8_takes 95 = .ok (.bipush 18, 2) := by decide +kernel
theorem dX8_takes_97 : decode cX8_takes 97 = .ok (.iload_n 1, 1) := by decide +kernel
theorem dX8_takes_98 : decode cX8_takes 98 = .ok (.iadd, 1) := by decide +kernel
theorem dX8_takes_99 : decode cX8_takes 99 = .ok (.iaload, 1) := by decide +kernel
theorem dX8_takes_100 : decode cX8_takes 100 = .ok (.iastore, 1) := by decide +kernel
theorem dX8_takes_101 : decode cX8_takes 101 = .ok (.aload_n 0, 1) := by decide +kernel
theorem dX8_takes_102 : decode cX8_takes 102 = .ok (.getfield 34, 3) := by decide +kernel
theorem dX8_takes_105 : decode cX8_takes 105 = .ok (.iload_n 1, 1) := by decide +kernel
theorem dX8_takes_106 : decode cX8_takes 106 = .ok (.aload_n 0, 1) := by decide +kernel
theorem dX8_takes_107 : decode cX8_takes 107 = .ok (.getfield 19, 3) := by decide +kernel
theorem dX8_takes_110 : decode cX8_takes 110 = .ok (.iload_n 1, 1) := by decide +kernel
theorem dX8_takes_111 : decode cX8_takes 111 = .ok (.iaload, 1) := by decide +kernel
theorem dX8_takes_112 : decode cX8_takes 112 = .ok (.iastore, 1) := by decide +kernel
theorem dX8_takes_113 : decode cX8_takes 113 = .ok (.iinc 1 1, 3) := by decide +kernel
theorem dX8_takes_116 : decode cX8_takes 116 = .ok (.goto (-80), 3) := by decide +kernel
theorem dX8_takes_119 : decode cX8_takes 119 = .ok (.iconst 0, 1) := by decide +kernel
theorem dX8_takes_120 : decode cX8_takes 120 = .ok (.istore_n 1, 1) := by decide +kernel
theorem dX8_takes_121 : decode cX8_takes 121 = .ok (.iload_n 1, 1) := by decide +kernel
theorem dX8_takes_122 : decode cX8_takes 122 = .ok (.bipush 36, 2) := by decide +kernel
theorem dX8_takes_124 : decode cX8_takes 124 = .ok (.if_icmp .ge 21, 3) := by decide +kernel
theorem dX8_takes_127 : decode cX8_takes 127 = .ok (.aload_n 0, 1) := by decide +kernel
theorem dX8_takes_128 : decode cX8_takes 128 = .ok (.getfield 31, 3) := by decide +kernel
theorem dX8_takes_131 : decode cX8_takes 131 = .ok (.iload_n 1, 1) := by decide +kernel
theorem dX8_takes_132 : decode cX8_takes 132 = .ok (.aload_n 0, 1) := by decide +kernel
theorem dX8_takes_133 : decode cX8_takes 133 = .ok (.getfield 16, 3) := by decide +kernel
theorem dX8_takes_136 : decode cX8_takes 136 = .ok (.iload_n 1, 1) := by decide +kernel
theorem dX8_takes_137 : decode cX8_takes 137 = .ok (.iaload, 1) := by decide +kernel
theorem dX8_takes_138 : decode cX8_takes 138 = .ok (.iastore, 1) := by decide +kernel
theorem dX8_takes_139 : decode cX8_takes 139 = .ok (.iinc 1 1, 3) := by decide +kernel
theorem dX8_takes_142 : decode cX8_takes 142 = .ok (.goto (-21), 3) := by decide +kernel
theorem dX8_takes_145 : decode cX8_takes 145 = .ok (.aload_n 0, 1) := by decide +kernel
theorem dX8_takes_146 : decode cX8_takes 146 = .ok (.iconst 0, 1) := by decide +kernel
theorem dX8_takes_147 : decode cX8_takes 147 = .ok (.putfield 157, 3) := by decide +kernel
theorem dX8_takes_150 : decode cX8_takes 150 = .ok (.aload_n 0, 1) := by decide +kernel
theorem dX8_takes_151 : decode cX8_takes 151 = .ok (.iconst 0, 1) := by decide +kernel
theorem dX8_takes_152 : decode cX8_takes 152 = .ok (.putfield 160, 3) := by decide +kernel
theorem dX8_takes_155 : decode cX8_takes 155 = .ok (.aload_n 0, 1) := by decide +kernel
theorem dX8_takes_156 : decode cX8_takes 156 = .ok (.iconst 0, 1) := by decide +kernel
theorem dX8_takes_157 : decode cX8_takes 157 = .ok (.putfield 163, 3) := by decide +kernel
theorem dX8_takes_160 : decode cX8_takes 160 = .ok (.aload_n 0, 1) := by decide +kernel
theorem dX8_takes_161 : decode cX8_takes 161 = .ok (.iconst 0, 1) := by decide +kernel
theorem dX8_takes_162 : decode cX8_takes 162 = .ok (.putfield 166, 3) := by decide +kernel
theorem dX8_takes_165 : decode cX8_takes 165 = .ok (.aload_n 0, 1) := by decide +kernel
theorem dX8_takes_166 : decode cX8_takes 166 = .ok (.iconst 0, 1) := by decide +kernel
theorem dX8_takes_167 : decode cX8_takes 167 = .ok (.putfield 169, 3) := by decide +kernel
theorem dX8_takes_170 : decode cX8_takes 170 = .ok (.aload_n 0, 1) := by decide +kernel
theorem dX8_takes_171 : decode cX8_takes 171 = .ok (.iconst 0, 1) := by decide +kernel
theorem dX8_takes_172 : decode cX8_takes 172 = .ok (.putfield 172, 3) := by decide +kernel
theorem dX8_takes_175 : decode cX8_takes 175 = .ok (.aload_n 0, 1) := by decide +kernel
theorem dX8_takes_176 : decode cX8_takes 176 = .ok (.getfield 58, 3) := by decide +kernel
theorem dX8_takes_179 : decode cX8_takes 179 = .ok (.iconst 0, 1) := by decide +kernel
theorem dX8_takes_180 : decode cX8_takes 180 = .ok (.iconst (-1), 1) := by decide +kernel
theorem dX8_takes_181 : decode cX8_takes 181 = .ok (.iastore, 1) := by decide +kernel
theorem dX8_takes_182 : decode cX8_takes 182 = .ok (.aload_n 0, 1) := by decide +kernel
theorem dX8_takes_183 : decode cX8_takes 183 = .ok (.getfield 58, 3) := by decide +kernel
theorem dX8_takes_186 : decode cX8_takes 186 = .ok (.bipush 21, 2) := by decide +kernel
theorem dX8_takes_188 : decode cX8_takes 188 = .ok (.iconst (-1), 1) := by decide +kernel
theorem dX8_takes_189 : decode cX8_takes 189 = .ok (.iastore, 1) := by decide +kernel
theorem dX8_takes_190 : decode cX8_takes 190 = .ok (.return_, 1) := by decide +kernel
set_option maxRecDepth 20000 in
theorem ggX8_isWall_X8_in : GoodIn wsX8_isWall wsX8_in := goodIn_r _ [5] (by decide +kernel) (by decide +kernel)
set_option maxRecDepth 20000 in
theorem gX8_isWall_X8_in : GoodIn wsX8_isWall (va_wsS RX8 67 yX8_in wsX8_in) := goodIn_app (goodIn_of _ (by decide +kernel)) ggX8_isWall_X8_in
theorem dX8_isWall_0 : decode cX8_isWall 0 = .ok (.iload_n 1, 1) := by decide +kernel
theorem dX8_isWall_1 : decode cX8_isWall 1 = .ok (.i2l, 1) := by decide +kernel
theorem dX8_isWall_2 : decode cX8_isWall 2 = .ok (.lconst 0, 1) := by decide +kernel
theorem dX8_isWall_3 : decode cX8_isWall 3 = .ok (.aload_n 0, 1) := by decide +kernel
theorem dX8_isWall_4 : decode cX8_isWall 4 = .ok (.getfield 154, 3) := by decide +kernel
theorem dX8_isWall_7 : decode cX8_isWall 7 = .ok (.iconst 1, 1) := by decide +kernel
theorem dX8_isWall_8 : decode cX8_isWall 8 = .ok (.isub, 1) := by decide +kernel
theorem dX8_isWall_9 : decode cX8_isWall 9 = .ok (.i2l, 1) := by decide +kernel
theorem dX8_isWall_10 : decode cX8_isWall 10 = .ok (.invokestatic 67, 3) := by decide +kernel
theorem dX8_isWall_13 : decode cX8_isWall 13 = .ok (.ireturn, 1) := by decide +kernel
set_option maxRecDepth 20000 in
theorem ggX8_wall_X8_isWall : GoodIn wsX8_wall wsX8_isWall := goodIn_r _ [12, 13, 14, 15, 11, 16, 21, 22, 23, 24, 25, 26, 27, 28, 29, 30, 31, 32, 33, 34, 35, 36, 37, 38, 39, 40, 41, 42, 43, 44, 45, 46, 47, 48, 49, 50, 51, 52, 53] (by decide +kernel) (by decide +kernel)
set_option maxRecDepth 20000 in
theorem gX8_wall_X8_isWall : GoodIn wsX8_wall (wsV RX8 175 RX8 yX8_isWall wsX8_isWall) := goodIn_app (goodIn_of _ (by decide +kernel)) ggX8_wall_X8_isWall
set_option maxRecDepth 20000 in
theorem ggX8_wall_X8_seen : GoodIn wsX8_wall wsX8_seen := goodIn_r _ [20] (by decide +kernel) (by decide +kernel)
set_option maxRecDepth 20000 in
theorem gX8_wall_X8_seen : GoodIn wsX8_wall (wsV RX8 131 RX8 yX8_seen wsX8_seen) := goodIn_app (goodIn_of _ (by decide +kernel)) ggX8_wall_X8_seen
theorem dX8_wall_0 : decode cX8_wall 0 = .ok (.aload_n 0, 1) := by decide +kernel
theorem dX8_wall_1 : decode cX8_wall 1 = .ok (.iload_n 1, 1) := by decide +kernel
theorem dX8_wall_2 : decode cX8_wall 2 = .ok (.invokevirtual 175, 3) := by decide +kernel
theorem dX8_wall_5 : decode cX8_wall 5 = .ok (.ifCond .ne 5, 3) := by decide +kernel
theorem dX8_wall_8 : decode cX8_wall 8 = .ok (.iconst (-1), 1) := by decide +kernel
theorem dX8_wall_9 : decode cX8_wall 9 = .ok (.ireturn, 1) := by decide +kernel
theorem dX8_wall_10 : decode cX8_wall 10 = .ok (.iload_n 2, 1) := by decide +kernel
theorem dX8_wall_11 : decode cX8_wall 11 = .ok (.tableswitch 100 0 6 #[41, 48, 55, 62, 69, 82, 91], 41) := by decide +kernel
theorem dX8_wall_52 : decode cX8_wall 52 = .ok (.aload_n 0, 1) := by decide +kernel
theorem dX8_wall_53 : decode cX8_wall 53 = .ok (.getfield 34, 3) := by decide +kernel
theorem dX8_wall_56 : decode cX8_wall 56 = .ok (.iload_n 1, 1) := by decide +kernel
theorem dX8_wall_57 : decode cX8_wall 57 = .ok (.iaload, 1) := by decide +kernel
theorem dX8_wall_58 : decode cX8_wall 58 = .ok (.ireturn, 1) := by decide +kernel
theorem dX8_wall_59 : decode cX8_wall 59 = .ok (.aload_n 0, 1) := by decide +kernel
theorem dX8_wall_60 : decode cX8_wall 60 = .ok (.getfield 22, 3) := by decide +kernel
theorem dX8_wall_63 : decode cX8_wall 63 = .ok (.iload_n 1, 1) := by decide +kernel
theorem dX8_wall_64 : decode cX8_wall 64 = .ok (.iaload, 1) := by decide +kernel
theorem dX8_wall_65 : decode cX8_wall 65 = .ok (.ireturn, 1) := by decide +kernel
theorem dX8_wall_66 : decode cX8_wall 66 = .ok (.aload_n 0, 1) := by decide +kernel
theorem dX8_wall_67 : decode cX8_wall 67 = .ok (.getfield 25, 3) := by decide +kernel
theorem dX8_wall_70 : decode cX8_wall 70 = .ok (.iload_n 1, 1) := by decide +kernel
theorem dX8_wall_71 : decode cX8_wall 71 = .ok (.iaload, 1) := by decide +kernel
theorem dX8_wall_72 : decode cX8_wall 72 = .ok (.ireturn, 1) := by decide +kernel
theorem dX8_wall_73 : decode cX8_wall 73 = .ok (.aload_n 0, 1) := by decide +kernel
theorem dX8_wall_74 : decode cX8_wall 74 = .ok (.getfield 28, 3) := by decide +kernel
theorem dX8_wall_77 : decode cX8_wall 77 = .ok (.iload_n 1, 1) := by decide +kernel
theorem dX8_wall_78 : decode cX8_wall 78 = .ok (.iaload, 1) := by decide +kernel
theorem dX8_wall_79 : decode cX8_wall 79 = .ok (.ireturn, 1) := by decide +kernel
theorem dX8_wall_80 : decode cX8_wall 80 = .ok (.bipush 10, 2) := by decide +kernel
theorem dX8_wall_82 : decode cX8_wall 82 = .ok (.aload_n 0, 1) := by decide +kernel
theorem dX8_wall_83 : decode cX8_wall 83 = .ok (.aload_n 0, 1) := by decide +kernel
theorem dX8_wall_84 : decode cX8_wall 84 = .ok (.getfield 31, 3) := by decide +kernel
theorem dX8_wall_87 : decode cX8_wall 87 = .ok (.iload_n 1, 1) := by decide +kernel
theorem dX8_wall_88 : decode cX8_wall 88 = .ok (.invokevirtual 131, 3) := by decide +kernel
theorem dX8_wall_91 : decode cX8_wall 91 = .ok (.isub, 1) := by decide +kernel
theorem dX8_wall_92 : decode cX8_wall 92 = .ok (.ireturn, 1) := by decide +kernel
theorem dX8_wall_93 : decode cX8_wall 93 = .ok (.aload_n 0, 1) := by decide +kernel
theorem dX8_wall_94 : decode cX8_wall 94 = .ok (.getfield 160, 3) := by decide +kernel
theorem dX8_wall_97 : decode cX8_wall 97 = .ok (.iload_n 1, 1) := by decide +kernel
theorem dX8_wall_98 : decode cX8_wall 98 = .ok (.ishr, 1) := by decide +kernel
theorem dX8_wall_99 : decode cX8_wall 99 = .ok (.iconst 1, 1) := by decide +kernel
theorem dX8_wall_100 : decode cX8_wall 100 = .ok (.iand, 1) := by decide +kernel
theorem dX8_wall_101 : decode cX8_wall 101 = .ok (.ireturn, 1) := by decide +kernel
theorem dX8_wall_102 : decode cX8_wall 102 = .ok (.aload_n 0, 1) := by decide +kernel
theorem dX8_wall_103 : decode cX8_wall 103 = .ok (.getfield 163, 3) := by decide +kernel
theorem dX8_wall_106 : decode cX8_wall 106 = .ok (.iload_n 1, 1) := by decide +kernel
theorem dX8_wall_107 : decode cX8_wall 107 = .ok (.ishr, 1) := by decide +kernel
theorem dX8_wall_108 : decode cX8_wall 108 = .ok (.iconst 1, 1) := by decide +kernel
theorem dX8_wall_109 : decode cX8_wall 109 = .ok (.iand, 1) := by decide +kernel
theorem dX8_wall_110 : decode cX8_wall 110 = .ok (.ireturn, 1) := by decide +kernel
theorem dX8_wall_111 : decode cX8_wall 111 = .ok (.iconst (-1), 1) := by decide +kernel
theorem dX8_wall_112 : decode cX8_wall 112 = .ok (.ireturn, 1) := by decide +kernel
set_option maxRecDepth 20000 in
theorem ggX8_sees_X8_isWall : GoodIn wsX8_sees wsX8_isWall := goodIn_r _ [6, 7, 8, 9, 5, 10, 11, 12, 13, 14, 15, 16, 17, 18, 19, 20, 21, 22, 23, 24, 25, 26, 27, 28, 29, 30, 31, 32, 33, 34, 35, 36, 37, 38, 39, 40, 41, 42, 43] (by decide +kernel) (by decide +kernel)
set_option maxRecDepth 20000 in
theorem gX8_sees_X8_isWall : GoodIn wsX8_sees (wsV RX8 175 RX8 yX8_isWall wsX8_isWall) := goodIn_app (goodIn_of _ (by decide +kernel)) ggX8_sees_X8_isWall
theorem dX8_sees_0 : decode cX8_sees 0 = .ok (.aload_n 0, 1) := by decide +kernel
theorem dX8_sees_1 : decode cX8_sees 1 = .ok (.iload_n 1, 1) := by decide +kernel
theorem dX8_sees_2 : decode cX8_sees 2 = .ok (.invokevirtual 175, 3) := by decide +kernel
theorem dX8_sees_5 : decode cX8_sees 5 = .ok (.ifCond .eq 30, 3) := by decide +kernel
theorem dX8_sees_8 : decode cX8_sees 8 = .ok (.aload_n 0, 1) := by decide +kernel
theorem dX8_sees_9 : decode cX8_sees 9 = .ok (.iload_n 2, 1) := by decide +kernel
theorem dX8_sees_10 : decode cX8_sees 10 = .ok (.invokevirtual 175, 3) := by decide +kernel
theorem dX8_sees_13 : decode cX8_sees 13 = .ok (.ifCond .eq 22, 3) := by decide +kernel
theorem dX8_sees_16 : decode cX8_sees 16 = .ok (.iload_n 1, 1) := by decide +kernel
theorem dX8_sees_17 : decode cX8_sees 17 = .ok (.iload_n 2, 1) := by decide +kernel
theorem dX8_sees_18 : decode cX8_sees 18 = .ok (.if_icmp .eq 17, 3) := by decide +kernel
theorem dX8_sees_21 : decode cX8_sees 21 = .ok (.aload_n 0, 1) := by decide +kernel
theorem dX8_sees_22 : decode cX8_sees 22 = .ok (.getfield 31, 3) := by decide +kernel
theorem dX8_sees_25 : decode cX8_sees 25 = .ok (.bipush 6, 2) := by decide +kernel
theorem dX8_sees_27 : decode cX8_sees 27 = .ok (.iload_n 1, 1) := by decide +kernel
theorem dX8_sees_28 : decode cX8_sees 28 = .ok (.imul, 1) := by decide +kernel
theorem dX8_sees_29 : decode cX8_sees 29 = .ok (.iload_n 2, 1) := by decide +kernel
theorem dX8_sees_30 : decode cX8_sees 30 = .ok (.iadd, 1) := by decide +kernel
theorem dX8_sees_31 : decode cX8_sees 31 = .ok (.iaload, 1) := by decide +kernel
theorem dX8_sees_32 : decode cX8_sees 32 = .ok (.goto 4, 3) := by decide +kernel
theorem dX8_sees_35 : decode cX8_sees 35 = .ok (.iconst (-1), 1) := by decide +kernel
theorem dX8_sees_36 : decode cX8_sees 36 = .ok (.ireturn, 1) := by decide +kernel
theorem dX8_goes_0 : decode cX8_goes 0 = .ok (.iconst 0, 1) := by decide +kernel
theorem dX8_goes_1 : decode cX8_goes 1 = .ok (.istore 5, 2) := by decide +kernel
theorem dX8_goes_3 : decode cX8_goes 3 = .ok (.iconst 0, 1) := by decide +kernel
theorem dX8_goes_4 : decode cX8_goes 4 = .ok (.istore 6, 2) := by decide +kernel
theorem dX8_goes_6 : decode cX8_goes 6 = .ok (.iload 6, 2) := by decide +kernel
theorem dX8_goes_8 : decode cX8_goes 8 = .ok (.aload_n 0, 1) := by decide +kernel
theorem dX8_goes_9 : decode cX8_goes 9 = .ok (.getfield 154, 3) := by decide +kernel
theorem dX8_goes_12 : decode cX8_goes 12 = .ok (.if_icmp .ge 50, 3) := by decide +kernel
theorem dX8_goes_15 : decode cX8_goes 15 = .ok (.aload_n 0, 1) := by decide +kernel
theorem dX8_goes_16 : decode cX8_goes 16 = .ok (.getfield 37, 3) := by decide +kernel
theorem dX8_goes_19 : decode cX8_goes 19 = .ok (.iload 6, 2) := by decide +kernel
theorem dX8_goes_21 : decode cX8_goes 21 = .ok (.aload_n 1, 1) := by decide +kernel
theorem dX8_goes_22 : decode cX8_goes 22 = .ok (.iload 6, 2) := by decide +kernel
theorem dX8_goes_24 : decode cX8_goes 24 = .ok (.iaload, 1) := by decide +kernel
theorem dX8_goes_25 : decode cX8_goes 25 = .ok (.aload_n 0, 1) := by decide +kernel
theorem dX8_goes_26 : decode cX8_goes 26 = .ok (.getfield 28, 3) := by decide +kernel
theorem dX8_goes_29 : decode cX8_goes 29 = .ok (.iload 6, 2) := by decide +kernel
theorem dX8_goes_31 : decode cX8_goes 31 = .ok (.iaload, 1) := by decide +kernel
theorem dX8_goes_32 : decode cX8_goes 32 = .ok (.iload_n 2, 1) := by decide +kernel
theorem dX8_goes_33 : decode cX8_goes 33 = .ok (.bipush 8, 2) := by decide +kernel
theorem dX8_goes_35 : decode cX8_goes 35 = .ok (.irem, 1) := by decide +kernel
theorem dX8_goes_36 : decode cX8_goes 36 = .ok (.ishr, 1) := by decide +kernel
theorem dX8_goes_37 : decode cX8_goes 37 = .ok (.iconst 1, 1) := by decide +kernel
theorem dX8_goes_38 : decode cX8_goes 38 = .ok (.iand, 1) := by decide +kernel
theorem dX8_goes_39 : decode cX8_goes 39 = .ok (.iconst 1, 1) := by decide +kernel
theorem dX8_goes_40 : decode cX8_goes 40 = .ok (.if_icmp .ne 13, 3) := by decide +kernel
theorem dX8_goes_43 : decode cX8_goes 43 = .ok (.aload_n 0, 1) := by decide +kernel
theorem dX8_goes_44 : decode cX8_goes 44 = .ok (.getfield 25, 3) := by decide +kernel
theorem dX8_goes_47 : decode cX8_goes 47 = .ok (.iload 6, 2) := by decide +kernel
theorem dX8_goes_49 : decode cX8_goes 49 = .ok (.iaload, 1) := by decide +kernel
theorem dX8_goes_50 : decode cX8_goes 50 = .ok (.goto 4, 3) := by decide +kernel
theorem dX8_goes_53 : decode cX8_goes 53 = .ok (.iconst 0, 1) := by decide +kernel
theorem dX8_goes_54 : decode cX8_goes 54 = .ok (.iadd, 1) := by decide +kernel
theorem dX8_goes_55 : decode cX8_goes 55 = .ok (.iastore, 1) := by decide +kernel
theorem dX8_goes_56 : decode cX8_goes 56 = .ok (.iinc 6 1, 3) := by decide +kernel
theorem dX8_goes_59 : decode cX8_goes 59 = .ok (.goto (-53), 3) := by decide +kernel
theorem dX8_goes_62 : decode cX8_goes 62 = .ok (.iconst 0, 1) := by decide +kernel
theorem dX8_goes_63 : decode cX8_goes 63 = .ok (.istore 6, 2) := by decide +kernel
theorem dX8_goes_65 : decode cX8_goes 65 = .ok (.iload 6, 2) := by decide +kernel
theorem dX8_goes_67 : decode cX8_goes 67 = .ok (.aload_n 0, 1) := by decide +kernel
theorem dX8_goes_68 : decode cX8_goes 68 = .ok (.getfield 154, 3) := by decide +kernel
theorem dX8_goes_71 : decode cX8_goes 71 = .ok (.if_icmp .ge 188, 3) := by decide +kernel
theorem dX8_goes_74 : decode cX8_goes 74 = .ok (.iload_n 3, 1) := by decide +kernel
theorem dX8_goes_75 : decode cX8_goes 75 = .ok (.iload 6, 2) := by decide +kernel
theorem dX8_goes_77 : decode cX8_goes 77 = .ok (.ishr, 1) := by decide +kernel
theorem dX8_goes_78 : decode cX8_goes 78 = .ok (.iconst 1, 1) := by decide +kernel
theorem dX8_goes_79 : decode cX8_goes 79 = .ok (.iand, 1) := by decide +kernel
theorem dX8_goes_80 : decode cX8_goes 80 = .ok (.iconst 1, 1) := by decide +kernel
theorem dX8_goes_81 : decode cX8_goes 81 = .ok (.if_icmp .ne 7, 3) := by decide +kernel
theorem dX8_goes_84 : decode cX8_goes 84 = .ok (.iconst 0, 1) := by decide +kernel
theorem dX8_goes_85 : decode cX8_goes 85 = .ok (.goto 18, 3) := by decide +kernel
theorem dX8_goes_88 : decode cX8_goes 88 = .ok (.aload_n 1, 1) := by decide +kernel
theorem dX8_goes_89 : decode cX8_goes 89 = .ok (.iload 6, 2) := by decide +kernel
theorem dX8_goes_91 : decode cX8_goes 91 = .ok (.iaload, 1) := by decide +kernel
theorem dX8_goes_92 : decode cX8_goes 92 = .ok (.aload_n 0, 1) := by decide +kernel
theorem dX8_goes_93 : decode cX8_goes 93 = .ok (.getfield 22, 3) := by decide +kernel
theorem dX8_goes_96 : decode cX8_goes 96 = .ok (.iload 6, 2) := by decide +kernel
theorem dX8_goes_98 : decode cX8_goes 98 = .ok (.iaload, 1) := by decide +kernel
theorem dX8_goes_99 : decode cX8_goes 99 = .ok (.imul, 1) := by decide +kernel
theorem dX8_goes_100 : decode cX8_goes 100 = .ok (.bipush 10, 2) := by decide +kernel
theorem dX8_goes_102 : decode cX8_goes 102 = .ok (.idiv, 1) := by decide +kernel
theorem dX8_goes_103 : decode cX8_goes 103 = .ok (.istore 7, 2) := by decide +kernel
theorem dX8_goes_105 : decode cX8_goes 105 = .ok (.iload 7, 2) := by decide +kernel
theorem dX8_goes_107 : decode cX8_goes 107 = .ok (.istore 8, 2) := by decide +kernel
theorem dX8_goes_109 : decode cX8_goes 109 = .ok (.iconst 0, 1) := by decide +kernel
theorem dX8_goes_110 : decode cX8_goes 110 = .ok (.istore 9, 2) := by decide +kernel
theorem dX8_goes_112 : decode cX8_goes 112 = .ok (.iload 9, 2) := by decide +kernel
theorem dX8_goes_114 : decode cX8_goes 114 = .ok (.aload_n 0, 1) := by decide +kernel
theorem dX8_goes_115 : decode cX8_goes 115 = .ok (.getfield 154, 3) := by decide +kernel
theorem dX8_goes_118 : decode cX8_goes 118 = .ok (.if_icmp .ge 116, 3) := by decide +kernel
theorem dX8_goes_121 : decode cX8_goes 121 = .ok (.iload 7, 2) := by decide +kernel
theorem dX8_goes_123 : decode cX8_goes 123 = .ok (.aload_n 0, 1) := by decide +kernel
theorem dX8_goes_124 : decode cX8_goes 124 = .ok (.getfield 31, 3) := by decide +kernel
theorem dX8_goes_127 : decode cX8_goes 127 = .ok (.bipush 6, 2) := by decide +kernel
theorem dX8_goes_129 : decode cX8_goes 129 = .ok (.iload 6, 2) := by decide +kernel
theorem dX8_goes_131 : decode cX8_goes 131 = .ok (.imul, 1) := by decide +kernel
theorem dX8_goes_132 : decode cX8_goes 132 = .ok (.iload 9, 2) := by decide +kernel
theorem dX8_goes_134 : decode cX8_goes 134 = .ok (.iadd, 1) := by decide +kernel
theorem dX8_goes_135 : decode cX8_goes 135 = .ok (.iaload, 1) := by decide +kernel
theorem dX8_goes_136 : decode cX8_goes 136 = .ok (.imul, 1) := by decide +kernel
theorem dX8_goes_137 : decode cX8_goes 137 = .ok (.bipush 10, 2) := by decide +kernel
theorem dX8_goes_139 : decode cX8_goes 139 = .ok (.idiv, 1) := by decide +kernel
theorem dX8_goes_140 : decode cX8_goes 140 = .ok (.istore 10, 2) := by decide +kernel
theorem dX8_goes_142 : decode cX8_goes 142 = .ok (.iload 4, 2) := by decide +kernel
theorem dX8_goes_144 : decode cX8_goes 144 = .ok (.iload 9, 2) := by decide +kernel
theorem dX8_goes_146 : decode cX8_goes 146 = .ok (.ishr, 1) := by decide +kernel
theorem dX8_goes_147 : decode cX8_goes 147 = .ok (.iconst 1, 1) := by decide +kernel
theorem dX8_goes_148 : decode cX8_goes 148 = .ok (.iand, 1) := by decide +kernel
theorem dX8_goes_149 : decode cX8_goes 149 = .ok (.iconst 1, 1) := by decide +kernel
theorem dX8_goes_150 : decode cX8_goes 150 = .ok (.if_icmp .ne 7, 3) := by decide +kernel
theorem dX8_goes_153 : decode cX8_goes 153 = .ok (.iconst 1, 1) := by decide +kernel
theorem dX8_goes_154 : decode cX8_goes 154 = .ok (.goto 4, 3) := by decide +kernel
theorem dX8_goes_157 : decode cX8_goes 157 = .ok (.iconst 0, 1) := by decide +kernel
theorem dX8_goes_158 : decode cX8_goes 158 = .ok (.istore 11, 2) := by decide +kernel
theorem dX8_goes_160 : decode cX8_goes 160 = .ok (.iload 11, 2) := by decide +kernel
theorem dX8_goes_162 : decode cX8_goes 162 = .ok (.ifCond .ne 12, 3) := by decide +kernel
theorem dX8_goes_165 : decode cX8_goes 165 = .ok (.iload_n 3, 1) := by decide +kernel
theorem dX8_goes_166 : decode cX8_goes 166 = .ok (.iload 9, 2) := by decide +kernel
theorem dX8_goes_168 : decode cX8_goes 168 = .ok (.ishr, 1) := by decide +kernel
theorem dX8_goes_169 : decode cX8_goes 169 = .ok (.iconst 1, 1) := by decide +kernel
theorem dX8_goes_170 : decode cX8_goes 170 = .ok (.iand, 1) := by decide +kernel
theorem dX8_goes_171 : decode cX8_goes 171 = .ok (.ifCond .ne 7, 3) := by decide +kernel
theorem dX8_goes_174 : decode cX8_goes 174 = .ok (.iconst 1, 1) := by decide +kernel
theorem dX8_goes_175 : decode cX8_goes 175 = .ok (.goto 4, 3) := by decide +kernel
theorem dX8_goes_178 : decode cX8_goes 178 = .ok (.iconst 0, 1) := by decide +kernel
theorem dX8_goes_179 : decode cX8_goes 179 = .ok (.istore 12, 2) := by decide +kernel
theorem dX8_goes_181 : decode cX8_goes 181 = .ok (.aload_n 0, 1) := by decide +kernel
theorem dX8_goes_182 : decode cX8_goes 182 = .ok (.getfield 37, 3) := by decide +kernel
theorem dX8_goes_185 : decode cX8_goes 185 = .ok (.iload 11, 2) := by decide +kernel
theorem dX8_goes_187 : decode cX8_goes 187 = .ok (.ifCond .eq 8, 3) := by decide +kernel
theorem dX8_goes_190 : decode cX8_goes 190 = .ok (.iload 6, 2) := by decide +kernel
theorem dX8_goes_192 : decode cX8_goes 192 = .ok (.goto 5, 3) := by decide +kernel
theorem dX8_goes_195 : decode cX8_goes 195 = .ok (.iload 9, 2) := by decide +kernel
theorem dX8_goes_197 : decode cX8_goes 197 = .ok (.dup2, 1) := by decide +kernel
theorem dX8_goes_198 : decode cX8_goes 198 = .ok (.iaload, 1) := by decide +kernel
theorem dX8_goes_199 : decode cX8_goes 199 = .ok (.iload 12, 2) := by decide +kernel
theorem dX8_goes_201 : decode cX8_goes 201 = .ok (.ifCond .eq 8, 3) := by decide +kernel
theorem dX8_goes_204 : decode cX8_goes 204 = .ok (.iload 10, 2) := by decide +kernel
theorem dX8_goes_206 : decode cX8_goes 206 = .ok (.goto 4, 3) := by decide +kernel
theorem dX8_goes_209 : decode cX8_goes 209 = .ok (.iconst 0, 1) := by decide +kernel
theorem dX8_goes_210 : decode cX8_goes 210 = .ok (.iadd, 1) := by decide +kernel
theorem dX8_goes_211 : decode cX8_goes 211 = .ok (.iastore, 1) := by decide +kernel
theorem dX8_goes_212 : decode cX8_goes 212 = .ok (.iload 8, 2) := by decide +kernel
theorem dX8_goes_214 : decode cX8_goes 214 = .ok (.iload 12, 2) := by decide +kernel
theorem dX8_goes_216 : decode cX8_goes 216 = .ok (.ifCond .eq 8, 3) := by decide +kernel
theorem dX8_goes_219 : decode cX8_goes 219 = .ok (.iload 10, 2) := by decide +kernel
theorem dX8_goes_221 : decode cX8_goes 221 = .ok (.goto 4, 3) := by decide +kernel
theorem dX8_goes_224 : decode cX8_goes 224 = .ok (.iconst 0, 1) := by decide +kernel
theorem dX8_goes_225 : decode cX8_goes 225 = .ok (.isub, 1) := by decide +kernel
theorem dX8_goes_226 : decode cX8_goes 226 = .ok (.istore 8, 2) := by decide +kernel
theorem dX8_goes_228 : decode cX8_goes 228 = .ok (.iinc 9 1, 3) := by decide +kernel
theorem dX8_goes_231 : decode cX8_goes 231 = .ok (.goto (-119), 3) := by decide +kernel
theorem dX8_goes_234 : decode cX8_goes 234 = .ok (.aload_n 0, 1) := by decide +kernel
theorem dX8_goes_235 : decode cX8_goes 235 = .ok (.getfield 37, 3) := by decide +kernel
theorem dX8_goes_238 : decode cX8_goes 238 = .ok (.iload 6, 2) := by decide +kernel
theorem dX8_goes_240 : decode cX8_goes 240 = .ok (.dup2, 1) := by decide +kernel
theorem dX8_goes_241 : decode cX8_goes 241 = .ok (.iaload, 1) := by decide +kernel
theorem dX8_goes_242 : decode cX8_goes 242 = .ok (.iload 7, 2) := by decide +kernel
theorem dX8_goes_244 : decode cX8_goes 244 = .ok (.isub, 1) := by decide +kernel
theorem dX8_goes_245 : decode cX8_goes 245 = .ok (.iastore, 1) := by decide +kernel
theorem dX8_goes_246 : decode cX8_goes 246 = .ok (.iload 5, 2) := by decide +kernel
theorem dX8_goes_248 : decode cX8_goes 248 = .ok (.iload 8, 2) := by decide +kernel
theorem dX8_goes_250 : decode cX8_goes 250 = .ok (.iadd, 1) := by decide +kernel
theorem dX8_goes_251 : decode cX8_goes 251 = .ok (.istore 5, 2) := by decide +kernel
theorem dX8_goes_253 : decode cX8_goes 253 = .ok (.iinc 6 1, 3) := by decide +kernel
theorem dX8_goes_256 : decode cX8_goes 256 = .ok (.goto (-191), 3) := by decide +kernel
theorem dX8_goes_259 : decode cX8_goes 259 = .ok (.iconst 0, 1) := by decide +kernel
theorem dX8_goes_260 : decode cX8_goes 260 = .ok (.istore 6, 2) := by decide +kernel
theorem dX8_goes_262 : decode cX8_goes 262 = .ok (.iload 6, 2) := by decide +kernel
theorem dX8_goes_264 : decode cX8_goes 264 = .ok (.aload_n 0, 1) := by decide +kernel
theorem dX8_goes_265 : decode cX8_goes 265 = .ok (.getfield 154, 3) := by decide +kernel
theorem dX8_goes_268 : decode cX8_goes 268 = .ok (.if_icmp .ge 20, 3) := by decide +kernel
theorem dX8_goes_271 : decode cX8_goes 271 = .ok (.aload_n 1, 1) := by decide +kernel
theorem dX8_goes_272 : decode cX8_goes 272 = .ok (.iload 6, 2) := by decide +kernel
theorem dX8_goes_274 : decode cX8_goes 274 = .ok (.aload_n 0, 1) := by decide +kernel
theorem dX8_goes_275 : decode cX8_goes 275 = .ok (.getfield 37, 3) := by decide +kernel
theorem dX8_goes_278 : decode cX8_goes 278 = .ok (.iload 6, 2) := by decide +kernel
theorem dX8_goes_280 : decode cX8_goes 280 = .ok (.iaload, 1) := by decide +kernel
theorem dX8_goes_281 : decode cX8_goes 281 = .ok (.iastore, 1) := by decide +kernel
theorem dX8_goes_282 : decode cX8_goes 282 = .ok (.iinc 6 1, 3) := by decide +kernel
theorem dX8_goes_285 : decode cX8_goes 285 = .ok (.goto (-23), 3) := by decide +kernel
theorem dX8_goes_288 : decode cX8_goes 288 = .ok (.iload 5, 2) := by decide +kernel
theorem dX8_goes_290 : decode cX8_goes 290 = .ok (.ireturn, 1) := by decide +kernel
set_option maxRecDepth 20000 in
theorem ggX8_hour_X8_goes : GoodIn wsX8_hour wsX8_goes := goodIn_r _ [10, 11, 12, 13, 14, 15, 16, 17, 18, 19, 20, 21, 22, 23, 24, 25, 26, 27, 28, 29, 30, 31, 32, 33, 34, 35, 36, 37, 38, 39, 40, 41, 42, 43, 44, 45, 46, 47, 48, 49] (by decide +kernel) (by decide +kernel)
set_option maxRecDepth 20000 in
theorem gX8_hour_X8_goes : GoodIn wsX8_hour (wsV RX8 178 RX8 yX8_goes wsX8_goes) := goodIn_app (goodIn_of _ (by decide +kernel)) ggX8_hour_X8_goes
theorem dX8_hour_0 : decode cX8_hour 0 = .ok (.aload_n 0, 1) := by decide +kernel
theorem dX8_hour_1 : decode cX8_hour 1 = .ok (.getfield 157, 3) := by decide +kernel
theorem dX8_hour_4 : decode cX8_hour 4 = .ok (.sipush 999, 3) := by decide +kernel
theorem dX8_hour_7 : decode cX8_hour 7 = .ok (.if_icmp .ne 6, 3) := by decide +kernel
theorem dX8_hour_10 : decode cX8_hour 10 = .ok (.bipush (-2), 2) := by decide +kernel
theorem dX8_hour_12 : decode cX8_hour 12 = .ok (.ireturn, 1) := by decide +kernel
theorem dX8_hour_13 : decode cX8_hour 13 = .ok (.aload_n 0, 1) := by decide +kernel
theorem dX8_hour_14 : decode cX8_hour 14 = .ok (.aload_n 0, 1) := by decide +kernel
theorem dX8_hour_15 : decode cX8_hour 15 = .ok (.getfield 34, 3) := by decide +kernel
theorem dX8_hour_18 : decode cX8_hour 18 = .ok (.aload_n 0, 1) := by decide +kernel
theorem dX8_hour_19 : decode cX8_hour 19 = .ok (.getfield 157, 3) := by decide +kernel
theorem dX8_hour_22 : decode cX8_hour 22 = .ok (.aload_n 0, 1) := by decide +kernel
theorem dX8_hour_23 : decode cX8_hour 23 = .ok (.getfield 160, 3) := by decide +kernel
theorem dX8_hour_26 : decode cX8_hour 26 = .ok (.aload_n 0, 1) := by decide +kernel
theorem dX8_hour_27 : decode cX8_hour 27 = .ok (.getfield 163, 3) := by decide +kernel
theorem dX8_hour_30 : decode cX8_hour 30 = .ok (.invokevirtual 178, 3) := by decide +kernel
theorem dX8_hour_33 : decode cX8_hour 33 = .ok (.istore_n 1, 1) := by decide +kernel
theorem dX8_hour_34 : decode cX8_hour 34 = .ok (.aload_n 0, 1) := by decide +kernel
theorem dX8_hour_35 : decode cX8_hour 35 = .ok (.dup, 1) := by decide +kernel
theorem dX8_hour_36 : decode cX8_hour 36 = .ok (.getfield 166, 3) := by decide +kernel
theorem dX8_hour_39 : decode cX8_hour 39 = .ok (.iload_n 1, 1) := by decide +kernel
theorem dX8_hour_40 : decode cX8_hour 40 = .ok (.iadd, 1) := by decide +kernel
theorem dX8_hour_41 : decode cX8_hour 41 = .ok (.putfield 166, 3) := by decide +kernel
theorem dX8_hour_44 : decode cX8_hour 44 = .ok (.aload_n 0, 1) := by decide +kernel
theorem dX8_hour_45 : decode cX8_hour 45 = .ok (.dup, 1) := by decide +kernel
theorem dX8_hour_46 : decode cX8_hour 46 = .ok (.getfield 157, 3) := by decide +kernel
theorem dX8_hour_49 : decode cX8_hour 49 = .ok (.iconst 1, 1) := by decide +kernel
theorem dX8_hour_50 : decode cX8_hour 50 = .ok (.iadd, 1) := by decide +kernel
theorem dX8_hour_51 : decode cX8_hour 51 = .ok (.putfield 157, 3) := by decide +kernel
theorem dX8_hour_54 : decode cX8_hour 54 = .ok (.iload_n 1, 1) := by decide +kernel
theorem dX8_hour_55 : decode cX8_hour 55 = .ok (.ireturn, 1) := by decide +kernel
theorem dX8_notes_0 : decode cX8_notes 0 = .ok (.aload_n 0, 1) := by decide +kernel
theorem dX8_notes_1 : decode cX8_notes 1 = .ok (.getfield 169, 3) := by decide +kernel
theorem dX8_notes_4 : decode cX8_notes 4 = .ok (.bipush 10, 2) := by decide +kernel
theorem dX8_notes_6 : decode cX8_notes 6 = .ok (.if_icmp .ne 37, 3) := by decide +kernel
theorem dX8_notes_9 : decode cX8_notes 9 = .ok (.iconst 1, 1) := by decide +kernel
theorem dX8_notes_10 : decode cX8_notes 10 = .ok (.istore_n 2, 1) := by decide +kernel
theorem dX8_notes_11 : decode cX8_notes 11 = .ok (.iload_n 2, 1) := by decide +kernel
theorem dX8_notes_12 : decode cX8_notes 12 = .ok (.bipush 10, 2) := by decide +kernel
theorem dX8_notes_14 : decode cX8_notes 14 = .ok (.if_icmp .ge 23, 3) := by decide +kernel
theorem dX8_notes_17 : decode cX8_notes 17 = .ok (.aload_n 0, 1) := by decide +kernel
theorem dX8_notes_18 : decode cX8_notes 18 = .ok (.getfield 40, 3) := by decide +kernel
theorem dX8_notes_21 : decode cX8_notes 21 = .ok (.iload_n 2, 1) := by decide +kernel
theorem dX8_notes_22 : decode cX8_notes 22 = .ok (.iconst 1, 1) := by decide +kernel
theorem dX8_notes_23 : decode cX8_notes 23 = .ok (.isub, 1) := by decide +kernel
theorem dX8_notes_24 : decode cX8_notes 24 = .ok (.aload_n 0, 1) := by decide +kernel
theorem dX8_notes_25 : decode cX8_notes 25 = .ok (.getfield 40, 3) := by decide +kernel
theorem dX8_notes_28 : decode cX8_notes 28 = .ok (.iload_n 2, 1) := by decide +kernel
theorem dX8_notes_29 : decode cX8_notes 29 = .ok (.iaload, 1) := by decide +kernel
theorem dX8_notes_30 : decode cX8_notes 30 = .ok (.iastore, 1) := by decide +kernel
theorem dX8_notes_31 : decode cX8_notes 31 = .ok (.iinc 2 1, 3) := by decide +kernel
theorem dX8_notes_34 : decode cX8_notes 34 = .ok (.goto (-23), 3) := by decide +kernel
theorem dX8_notes_37 : decode cX8_notes 37 = .ok (.aload_n 0, 1) := by decide +kernel
theorem dX8_notes_38 : decode cX8_notes 38 = .ok (.bipush 9, 2) := by decide +kernel
theorem dX8_notes_40 : decode cX8_notes 40 = .ok (.putfield 169, 3) := by decide +kernel
theorem dX8_notes_43 : decode cX8_notes 43 = .ok (.aload_n 0, 1) := by decide +kernel
theorem dX8_notes_44 : decode cX8_notes 44 = .ok (.getfield 40, 3) := by decide +kernel
theorem dX8_notes_47 : decode cX8_notes 47 = .ok (.aload_n 0, 1) := by decide +kernel
theorem dX8_notes_48 : decode cX8_notes 48 = .ok (.getfield 169, 3) := by decide +kernel
theorem dX8_notes_51 : decode cX8_notes 51 = .ok (.iload_n 1, 1) := by decide +kernel
theorem dX8_notes_52 : decode cX8_notes 52 = .ok (.iastore, 1) := by decide +kernel
theorem dX8_notes_53 : decode cX8_notes 53 = .ok (.aload_n 0, 1) := by decide +kernel
theorem dX8_notes_54 : decode cX8_notes 54 = .ok (.dup, 1) := by decide +kernel
theorem dX8_notes_55 : decode cX8_notes 55 = .ok (.getfield 169, 3) := by decide +kernel
theorem dX8_notes_58 : decode cX8_notes 58 = .ok (.iconst 1, 1) := by decide +kernel
theorem dX8_notes_59 : decode cX8_notes 59 = .ok (.iadd, 1) := by decide +kernel
theorem dX8_notes_60 : decode cX8_notes 60 = .ok (.putfield 169, 3) := by decide +kernel
theorem dX8_notes_63 : decode cX8_notes 63 = .ok (.return_, 1) := by decide +kernel
theorem dX8_many_0 : decode cX8_many 0 = .ok (.iconst 0, 1) := by decide +kernel
theorem dX8_many_1 : decode cX8_many 1 = .ok (.istore_n 1, 1) := by decide +kernel
theorem dX8_many_2 : decode cX8_many 2 = .ok (.iload_n 0, 1) := by decide +kernel
theorem dX8_many_3 : decode cX8_many 3 = .ok (.istore_n 2, 1) := by decide +kernel
theorem dX8_many_4 : decode cX8_many 4 = .ok (.iload_n 2, 1) := by decide +kernel
theorem dX8_many_5 : decode cX8_many 5 = .ok (.ifCond .eq 15, 3) := by decide +kernel
theorem dX8_many_8 : decode cX8_many 8 = .ok (.iinc 1 1, 3) := by decide +kernel
theorem dX8_many_11 : decode cX8_many 11 = .ok (.iload_n 2, 1) := by decide +kernel
theorem dX8_many_12 : decode cX8_many 12 = .ok (.iload_n 2, 1) := by decide +kernel
theorem dX8_many_13 : decode cX8_many 13 = .ok (.iconst 1, 1) := by decide +kernel
theorem dX8_many_14 : decode cX8_many 14 = .ok (.isub, 1) := by decide +kernel
theorem dX8_many_15 : decode cX8_many 15 = .ok (.iand, 1) := by decide +kernel
theorem dX8_many_16 : decode cX8_many 16 = .ok (.istore_n 2, 1) := by decide +kernel
theorem dX8_many_17 : decode cX8_many 17 = .ok (.goto (-13), 3) := by decide +kernel
theorem dX8_many_20 : decode cX8_many 20 = .ok (.iload_n 1, 1) := by decide +kernel
theorem dX8_many_21 : decode cX8_many 21 = .ok (.ireturn, 1) := by decide +kernel
set_option maxRecDepth 20000 in
theorem ggX8_shut_X8_isWall : GoodIn wsX8_shut wsX8_isWall := goodIn_r _ [6, 7, 8, 9, 5, 10, 20, 21, 22, 23, 24, 25, 26, 27, 28, 29, 30, 31, 32, 33, 34, 35, 36, 37, 38, 39, 40, 41, 42, 43, 44, 45, 46, 47, 48, 49, 50, 51, 52] (by decide +kernel) (by decide +kernel)
set_option maxRecDepth 20000 in
theorem gX8_shut_X8_isWall : GoodIn wsX8_shut (wsV RX8 175 RX8 yX8_isWall wsX8_isWall) := goodIn_app (goodIn_of _ (by decide +kernel)) ggX8_shut_X8_isWall
set_option maxRecDepth 20000 in
theorem ggX8_shut_X8_in : GoodIn wsX8_shut wsX8_in := goodIn_r _ [10] (by decide +kernel) (by decide +kernel)
set_option maxRecDepth 20000 in
theorem gX8_shut_X8_in : GoodIn wsX8_shut (va_wsS RX8 67 yX8_in wsX8_in) := goodIn_app (goodIn_of _ (by decide +kernel)) ggX8_shut_X8_in
set_option maxRecDepth 20000 in
theorem ggX8_shut_X8_notes : GoodIn wsX8_shut wsX8_notes := goodIn_r _ [14, 15, 16, 20, 21, 22, 23, 24, 25, 26, 27, 28, 29, 30, 31, 32, 33, 34, 35, 36, 37, 38, 39, 40, 41, 42, 43, 44, 45, 46, 47, 48, 49, 50, 51, 52] (by decide +kernel) (by decide +kernel)
set_option maxRecDepth 20000 in
theorem gX8_shut_X8_notes : GoodIn wsX8_shut (wsV RX8 182 RX8 yX8_notes wsX8_notes) := goodIn_app (goodIn_of _ (by decide +kernel)) ggX8_shut_X8_notes
set_option maxRecDepth 20000 in
theorem ggX8_shut_X8_many : GoodIn wsX8_shut wsX8_many := goodIn_r _ [19] (by decide +kernel) (by decide +kernel)
set_option maxRecDepth 20000 in
theorem gX8_shut_X8_many : GoodIn wsX8_shut (va_wsS RX8 186 yX8_many wsX8_many) := goodIn_app (goodIn_of _ (by decide +kernel)) ggX8_shut_X8_many
theorem dX8_shut_0 : decode cX8_shut 0 = .ok (.aload_n 0, 1) := by decide +kernel
theorem dX8_shut_1 : decode cX8_shut 1 = .ok (.iload_n 1, 1) := by decide +kernel
theorem dX8_shut_2 : decode cX8_shut 2 = .ok (.invokevirtual 175, 3) := by decide +kernel
theorem dX8_shut_5 : decode cX8_shut 5 = .ok (.ifCond .eq 13, 3) := by decide +kernel
theorem dX8_shut_8 : decode cX8_shut 8 = .ok (.iload_n 2, 1) := by decide +kernel
theorem dX8_shut_9 : decode cX8_shut 9 = .ok (.i2l, 1) := by decide +kernel
theorem dX8_shut_10 : decode cX8_shut 10 = .ok (.lconst 0, 1) := by decide +kernel
theorem dX8_shut_11 : decode cX8_shut 11 = .ok (.lconst 1, 1) := by decide +kernel
theorem dX8_shut_12 : decode cX8_shut 12 = .ok (.invokestatic 67, 3) := by decide +kernel
theorem dX8_shut_15 : decode cX8_shut 15 = .ok (.ifCond .ne 5, 3) := by decide +kernel
theorem dX8_shut_18 : decode cX8_shut 18 = .ok (.iconst (-1), 1) := by decide +kernel
theorem dX8_shut_19 : decode cX8_shut 19 = .ok (.ireturn, 1) := by decide +kernel
theorem dX8_shut_20 : decode cX8_shut 20 = .ok (.aload_n 0, 1) := by decide +kernel
theorem dX8_shut_21 : decode cX8_shut 21 = .ok (.getfield 160, 3) := by decide +kernel
theorem dX8_shut_24 : decode cX8_shut 24 = .ok (.iload_n 1, 1) := by decide +kernel
theorem dX8_shut_25 : decode cX8_shut 25 = .ok (.ishr, 1) := by decide +kernel
theorem dX8_shut_26 : decode cX8_shut 26 = .ok (.iconst 1, 1) := by decide +kernel
theorem dX8_shut_27 : decode cX8_shut 27 = .ok (.iand, 1) := by decide +kernel
theorem dX8_shut_28 : decode cX8_shut 28 = .ok (.iload_n 2, 1) := by decide +kernel
theorem dX8_shut_29 : decode cX8_shut 29 = .ok (.if_icmp .ne 6, 3) := by decide +kernel
theorem dX8_shut_32 : decode cX8_shut 32 = .ok (.bipush (-2), 2) := by decide +kernel
theorem dX8_shut_34 : decode cX8_shut 34 = .ok (.ireturn, 1) := by decide +kernel
theorem dX8_shut_35 : decode cX8_shut 35 = .ok (.aload_n 0, 1) := by decide +kernel
theorem dX8_shut_36 : decode cX8_shut 36 = .ok (.dup, 1) := by decide +kernel
theorem dX8_shut_37 : decode cX8_shut 37 = .ok (.getfield 160, 3) := by decide +kernel
theorem dX8_shut_40 : decode cX8_shut 40 = .ok (.iconst 1, 1) := by decide +kernel
theorem dX8_shut_41 : decode cX8_shut 41 = .ok (.iload_n 1, 1) := by decide +kernel
theorem dX8_shut_42 : decode cX8_shut 42 = .ok (.ishl, 1) := by decide +kernel
theorem dX8_shut_43 : decode cX8_shut 43 = .ok (.ixor, 1) := by decide +kernel
theorem dX8_shut_44 : decode cX8_shut 44 = .ok (.putfield 160, 3) := by decide +kernel
theorem dX8_shut_47 : decode cX8_shut 47 = .ok (.aload_n 0, 1) := by decide +kernel
theorem dX8_shut_48 : decode cX8_shut 48 = .ok (.iload_n 1, 1) := by decide +kernel
theorem dX8_shut_49 : decode cX8_shut 49 = .ok (.invokevirtual 182, 3) := by decide +kernel
theorem dX8_shut_52 : decode cX8_shut 52 = .ok (.aload_n 0, 1) := by decide +kernel
theorem dX8_shut_53 : decode cX8_shut 53 = .ok (.getfield 160, 3) := by decide +kernel
theorem dX8_shut_56 : decode cX8_shut 56 = .ok (.invokestatic 186, 3) := by decide +kernel
theorem dX8_shut_59 : decode cX8_shut 59 = .ok (.ireturn, 1) := by decide +kernel
set_option maxRecDepth 20000 in
theorem ggX8_mirror_X8_isWall : GoodIn wsX8_mirror wsX8_isWall := goodIn_r _ [6, 7, 8, 9, 5, 10, 20, 21, 22, 23, 24, 25, 26, 27, 28, 29, 30, 31, 32, 33, 34, 35, 36, 37, 38, 39, 40, 41, 42, 43, 44, 45, 46, 47, 48, 49, 50, 51, 52] (by decide +kernel) (by decide +kernel)
set_option maxRecDepth 20000 in
theorem gX8_mirror_X8_isWall : GoodIn wsX8_mirror (wsV RX8 175 RX8 yX8_isWall wsX8_isWall) := goodIn_app (goodIn_of _ (by decide +kernel)) ggX8_mirror_X8_isWall
set_option maxRecDepth 20000 in
theorem ggX8_mirror_X8_in : GoodIn wsX8_mirror wsX8_in := goodIn_r _ [10] (by decide +kernel) (by decide +kernel)
set_option maxRecDepth 20000 in
theorem gX8_mirror_X8_in : GoodIn wsX8_mirror (va_wsS RX8 67 yX8_in wsX8_in) := goodIn_app (goodIn_of _ (by decide +kernel)) ggX8_mirror_X8_in
set_option maxRecDepth 20000 in
theorem ggX8_mirror_X8_notes : GoodIn wsX8_mirror wsX8_notes := goodIn_r _ [14, 15, 16, 20, 21, 22, 23, 24, 25, 26, 27, 28, 29, 30, 31, 32, 33, 34, 35, 36, 37, 38, 39, 40, 41, 42, 43, 44, 45, 46, 47, 48, 49, 50, 51, 52] (by decide +kernel) (by decide +kernel)
set_option maxRecDepth 20000 in
theorem gX8_mirror_X8_notes : GoodIn wsX8_mirror (wsV RX8 182 RX8 yX8_notes wsX8_notes) := goodIn_app (goodIn_of _ (by decide +kernel)) ggX8_mirror_X8_notes
set_option maxRecDepth 20000 in
theorem ggX8_mirror_X8_many : GoodIn wsX8_mirror wsX8_many := goodIn_r _ [19] (by decide +kernel) (by decide +kernel)
set_option maxRecDepth 20000 in
theorem gX8_mirror_X8_many : GoodIn wsX8_mirror (va_wsS RX8 186 yX8_many wsX8_many) := goodIn_app (goodIn_of _ (by decide +kernel)) ggX8_mirror_X8_many
theorem dX8_mirror_0 : decode cX8_mirror 0 = .ok (.aload_n 0, 1) := by decide +kernel
theorem dX8_mirror_1 : decode cX8_mirror 1 = .ok (.iload_n 1, 1) := by decide +kernel
theorem dX8_mirror_2 : decode cX8_mirror 2 = .ok (.invokevirtual 175, 3) := by decide +kernel
theorem dX8_mirror_5 : decode cX8_mirror 5 = .ok (.ifCond .eq 13, 3) := by decide +kernel
theorem dX8_mirror_8 : decode cX8_mirror 8 = .ok (.iload_n 2, 1) := by decide +kernel
theorem dX8_mirror_9 : decode cX8_mirror 9 = .ok (.i2l, 1) := by decide +kernel
theorem dX8_mirror_10 : decode cX8_mirror 10 = .ok (.lconst 0, 1) := by decide +kernel
theorem dX8_mirror_11 : decode cX8_mirror 11 = .ok (.lconst 1, 1) := by decide +kernel
theorem dX8_mirror_12 : decode cX8_mirror 12 = .ok (.invokestatic 67, 3) := by decide +kernel
theorem dX8_mirror_15 : decode cX8_mirror 15 = .ok (.ifCond .ne 5, 3) := by decide +kernel
theorem dX8_mirror_18 : decode cX8_mirror 18 = .ok (.iconst (-1), 1) := by decide +kernel
theorem dX8_mirror_19 : decode cX8_mirror 19 = .ok (.ireturn, 1) := by decide +kernel
theorem dX8_mirror_20 : decode cX8_mirror 20 = .ok (.aload_n 0, 1) := by decide +kernel
theorem dX8_mirror_21 : decode cX8_mirror 21 = .ok (.getfield 163, 3) := by decide +kernel
theorem dX8_mirror_24 : decode cX8_mirror 24 = .ok (.iload_n 1, 1) := by decide +kernel
theorem dX8_mirror_25 : decode cX8_mirror 25 = .ok (.ishr, 1) := by decide +kernel
theorem dX8_mirror_26 : decode cX8_mirror 26 = .ok (.iconst 1, 1) := by decide +kernel
theorem dX8_mirror_27 : decode cX8_mirror 27 = .ok (.iand, 1) := by decide +kernel
theorem dX8_mirror_28 : decode cX8_mirror 28 = .ok (.iload_n 2, 1) := by decide +kernel
theorem dX8_mirror_29 : decode cX8_mirror 29 = .ok (.if_icmp .ne 6, 3) := by decide +kernel
theorem dX8_mirror_32 : decode cX8_mirror 32 = .ok (.bipush (-2), 2) := by decide +kernel
theorem dX8_mirror_34 : decode cX8_mirror 34 = .ok (.ireturn, 1) := by decide +kernel
theorem dX8_mirror_35 : decode cX8_mirror 35 = .ok (.aload_n 0, 1) := by decide +kernel
theorem dX8_mirror_36 : decode cX8_mirror 36 = .ok (.dup, 1) := by decide +kernel
theorem dX8_mirror_37 : decode cX8_mirror 37 = .ok (.getfield 163, 3) := by decide +kernel
theorem dX8_mirror_40 : decode cX8_mirror 40 = .ok (.iconst 1, 1) := by decide +kernel
theorem dX8_mirror_41 : decode cX8_mirror 41 = .ok (.iload_n 1, 1) := by decide +kernel
theorem dX8_mirror_42 : decode cX8_mirror 42 = .ok (.ishl, 1) := by decide +kernel
theorem dX8_mirror_43 : decode cX8_mirror 43 = .ok (.ixor, 1) := by decide +kernel
theorem dX8_mirror_44 : decode cX8_mirror 44 = .ok (.putfield 163, 3) := by decide +kernel
theorem dX8_mirror_47 : decode cX8_mirror 47 = .ok (.aload_n 0, 1) := by decide +kernel
theorem dX8_mirror_48 : decode cX8_mirror 48 = .ok (.bipush 8, 2) := by decide +kernel
theorem dX8_mirror_50 : decode cX8_mirror 50 = .ok (.iload_n 1, 1) := by decide +kernel
theorem dX8_mirror_51 : decode cX8_mirror 51 = .ok (.iadd, 1) := by decide +kernel
theorem dX8_mirror_52 : decode cX8_mirror 52 = .ok (.invokevirtual 182, 3) := by decide +kernel
theorem dX8_mirror_55 : decode cX8_mirror 55 = .ok (.aload_n 0, 1) := by decide +kernel
theorem dX8_mirror_56 : decode cX8_mirror 56 = .ok (.getfield 163, 3) := by decide +kernel
theorem dX8_mirror_59 : decode cX8_mirror 59 = .ok (.invokestatic 186, 3) := by decide +kernel
theorem dX8_mirror_62 : decode cX8_mirror 62 = .ok (.ireturn, 1) := by decide +kernel
theorem dX8_undo_0 : decode cX8_undo 0 = .ok (.aload_n 0, 1) := by decide +kernel
theorem dX8_undo_1 : decode cX8_undo 1 = .ok (.getfield 169, 3) := by decide +kernel
theorem dX8_undo_4 : decode cX8_undo 4 = .ok (.ifCond .ne 6, 3) := by decide +kernel
theorem dX8_undo_7 : decode cX8_undo 7 = .ok (.bipush (-2), 2) := by decide +kernel
theorem dX8_undo_9 : decode cX8_undo 9 = .ok (.ireturn, 1) := by decide +kernel
theorem dX8_undo_10 : decode cX8_undo 10 = .ok (.aload_n 0, 1) := by decide +kernel
theorem dX8_undo_11 : decode cX8_undo 11 = .ok (.dup, 1) := by decide +kernel
theorem dX8_undo_12 : decode cX8_undo 12 = .ok (.getfield 169, 3) := by decide +kernel
theorem dX8_undo_15 : decode cX8_undo 15 = .ok (.iconst 1, 1) := by decide +kernel
theorem dX8_undo_16 : decode cX8_undo 16 = .ok (.isub, 1) := by decide +kernel
theorem dX8_undo_17 : decode cX8_undo 17 = .ok (.putfield 169, 3) := by decide +kernel
theorem dX8_undo_20 : decode cX8_undo 20 = .ok (.aload_n 0, 1) := by decide +kernel
theorem dX8_undo_21 : decode cX8_undo 21 = .ok (.getfield 40, 3) := by decide +kernel
theorem dX8_undo_24 : decode cX8_undo 24 = .ok (.aload_n 0, 1) := by decide +kernel
theorem dX8_undo_25 : decode cX8_undo 25 = .ok (.getfield 169, 3) := by decide +kernel
theorem dX8_undo_28 : decode cX8_undo 28 = .ok (.iaload, 1) := by decide +kernel
theorem dX8_undo_29 : decode cX8_undo 29 = .ok (.istore_n 1, 1) := by decide +kernel
theorem dX8_undo_30 : decode cX8_undo 30 = .ok (.aload_n 0, 1) := by decide +kernel
theorem dX8_undo_31 : decode cX8_undo 31 = .ok (.dup, 1) := by decide +kernel
theorem dX8_undo_32 : decode cX8_undo 32 = .ok (.getfield 160, 3) := by decide +kernel
theorem dX8_undo_35 : decode cX8_undo 35 = .ok (.iload_n 1, 1) := by decide +kernel
theorem dX8_undo_36 : decode cX8_undo 36 = .ok (.bipush 8, 2) := by decide +kernel
theorem dX8_undo_38 : decode cX8_undo 38 = .ok (.if_icmp .ge 9, 3) := by decide +kernel
theorem dX8_undo_41 : decode cX8_undo 41 = .ok (.iconst 1, 1) := by decide +kernel
theorem dX8_undo_42 : decode cX8_undo 42 = .ok (.iload_n 1, 1) := by decide +kernel
theorem dX8_undo_43 : decode cX8_undo 43 = .ok (.ishl, 1) := by decide +kernel
theorem dX8_undo_44 : decode cX8_undo 44 = .ok (.goto 4, 3) := by decide +kernel
theorem dX8_undo_47 : decode cX8_undo 47 = .ok (.iconst 0, 1) := by decide +kernel
theorem dX8_undo_48 : decode cX8_undo 48 = .ok (.ixor, 1) := by decide +kernel
theorem dX8_undo_49 : decode cX8_undo 49 = .ok (.putfield 160, 3) := by decide +kernel
theorem dX8_undo_52 : decode cX8_undo 52 = .ok (.aload_n 0, 1) := by decide +kernel
theorem dX8_undo_53 : decode cX8_undo 53 = .ok (.dup, 1) := by decide +kernel
theorem dX8_undo_54 : decode cX8_undo 54 = .ok (.getfield 163, 3) := by decide +kernel
theorem dX8_undo_57 : decode cX8_undo 57 = .ok (.iload_n 1, 1) := by decide +kernel
theorem dX8_undo_58 : decode cX8_undo 58 = .ok (.bipush 8, 2) := by decide +kernel
theorem dX8_undo_60 : decode cX8_undo 60 = .ok (.if_icmp .ge 7, 3) := by decide +kernel
theorem dX8_undo_63 : decode cX8_undo 63 = .ok (.iconst 0, 1) := by decide +kernel
theorem dX8_undo_64 : decode cX8_undo 64 = .ok (.goto 9, 3) := by decide +kernel
theorem dX8_undo_67 : decode cX8_undo 67 = .ok (.iconst 1, 1) := by decide +kernel
theorem dX8_undo_68 : decode cX8_undo 68 = .ok (.iload_n 1, 1) := by decide +kernel
theorem dX8_undo_69 : decode cX8_undo 69 = .ok (.bipush 8, 2) := by decide +kernel
theorem dX8_undo_71 : decode cX8_undo 71 = .ok (.isub, 1) := by decide +kernel
theorem dX8_undo_72 : decode cX8_undo 72 = .ok (.ishl, 1) := by decide +kernel
theorem dX8_undo_73 : decode cX8_undo 73 = .ok (.ixor, 1) := by decide +kernel
theorem dX8_undo_74 : decode cX8_undo 74 = .ok (.putfield 163, 3) := by decide +kernel
theorem dX8_undo_77 : decode cX8_undo 77 = .ok (.aload_n 0, 1) := by decide +kernel
theorem dX8_undo_78 : decode cX8_undo 78 = .ok (.getfield 169, 3) := by decide +kernel
theorem dX8_undo_81 : decode cX8_undo 81 = .ok (.ireturn, 1) := by decide +kernel
theorem dX8_now_0 : decode cX8_now 0 = .ok (.iconst 0, 1) := by decide +kernel
theorem dX8_now_1 : decode cX8_now 1 = .ok (.istore_n 2, 1) := by decide +kernel
theorem dX8_now_2 : decode cX8_now 2 = .ok (.iconst 0, 1) := by decide +kernel
theorem dX8_now_3 : decode cX8_now 3 = .ok (.istore_n 3, 1) := by decide +kernel
theorem dX8_now_4 : decode cX8_now 4 = .ok (.bipush (-9), 2) := by decide +kernel
theorem dX8_now_6 : decode cX8_now 6 = .ok (.istore 4, 2) := by decide +kernel
theorem dX8_now_8 : decode cX8_now 8 = .ok (.iconst 0, 1) := by decide +kernel
theorem dX8_now_9 : decode cX8_now 9 = .ok (.istore 5, 2) := by decide +kernel
theorem dX8_now_11 : decode cX8_now 11 = .ok (.iload 5, 2) := by decide +kernel
theorem dX8_now_13 : decode cX8_now 13 = .ok (.aload_n 0, 1) := by decide +kernel
theorem dX8_now_14 : decode cX8_now 14 = .ok (.getfield 154, 3) := by decide +kernel
theorem dX8_now_17 : decode cX8_now 17 = .ok (.if_icmp .ge 77, 3) := by decide +kernel
theorem dX8_now_20 : decode cX8_now 20 = .ok (.iload_n 2, 1) := by decide +kernel
theorem dX8_now_21 : decode cX8_now 21 = .ok (.aload_n 0, 1) := by decide +kernel
theorem dX8_now_22 : decode cX8_now 22 = .ok (.getfield 34, 3) := by decide +kernel
theorem dX8_now_25 : decode cX8_now 25 = .ok (.iload 5, 2) := by decide +kernel
theorem dX8_now_27 : decode cX8_now 27 = .ok (.iaload, 1) := by decide +kernel
theorem dX8_now_28 : decode cX8_now 28 = .ok (.iadd, 1) := by decide +kernel
theorem dX8_now_29 : decode cX8_now 29 = .ok (.istore_n 2, 1) := by decide +kernel
theorem dX8_now_30 : decode cX8_now 30 = .ok (.iload_n 3, 1) := by decide +kernel
theorem dX8_now_31 : decode cX8_now 31 = .ok (.aload_n 0, 1) := by decide +kernel
theorem dX8_now_32 : decode cX8_now 32 = .ok (.getfield 34, 3) := by decide +kernel
theorem dX8_now_35 : decode cX8_now 35 = .ok (.iload 5, 2) := by decide +kernel
theorem dX8_now_37 : decode cX8_now 37 = .ok (.iaload, 1) := by decide +kernel
theorem dX8_now_38 : decode cX8_now 38 = .ok (.aload_n 0, 1) := by decide +kernel
theorem dX8_now_39 : decode cX8_now 39 = .ok (.getfield 61, 3) := by decide +kernel
theorem dX8_now_42 : decode cX8_now 42 = .ok (.if_icmp .le 10, 3) := by decide +kernel
theorem dX8_now_45 : decode cX8_now 45 = .ok (.iconst 1, 1) := by decide +kernel
theorem dX8_now_46 : decode cX8_now 46 = .ok (.iload 5, 2) := by decide +kernel
theorem dX8_now_48 : decode cX8_now 48 = .ok (.ishl, 1) := by decide +kernel
theorem dX8_now_49 : decode cX8_now 49 = .ok (.goto 4, 3) := by decide +kernel
theorem dX8_now_52 : decode cX8_now 52 = .ok (.iconst 0, 1) := by decide +kernel
theorem dX8_now_53 : decode cX8_now 53 = .ok (.ior, 1) := by decide +kernel
theorem dX8_now_54 : decode cX8_now 54 = .ok (.istore_n 3, 1) := by decide +kernel
theorem dX8_now_55 : decode cX8_now 55 = .ok (.iload 4, 2) := by decide +kernel
theorem dX8_now_57 : decode cX8_now 57 = .ok (.bipush (-9), 2) := by decide +kernel
theorem dX8_now_59 : decode cX8_now 59 = .ok (.if_icmp .eq 20, 3) := by decide +kernel
theorem dX8_now_62 : decode cX8_now 62 = .ok (.aload_n 0, 1) := by decide +kernel
theorem dX8_now_63 : decode cX8_now 63 = .ok (.getfield 34, 3) := by decide +kernel
theorem dX8_now_66 : decode cX8_now 66 = .ok (.iload 5, 2) := by decide +kernel
theorem dX8_now_68 : decode cX8_now 68 = .ok (.iaload, 1) := by decide +kernel
theorem dX8_now_69 : decode cX8_now 69 = .ok (.aload_n 0, 1) := by decide +kernel
theorem dX8_now_70 : decode cX8_now 70 = .ok (.getfield 34, 3) := by decide +kernel
theorem dX8_now_73 : decode cX8_now 73 = .ok (.iload 4, 2) := by decide +kernel
theorem dX8_now_75 : decode cX8_now 75 = .ok (.iaload, 1) := by decide +kernel
theorem dX8_now_76 : decode cX8_now 76 = .ok (.if_icmp .le 8, 3) := by decide +kernel
theorem dX8_now_79 : decode cX8_now 79 = .ok (.iload 5, 2) := by decide +kernel
theorem dX8_now_81 : decode cX8_now 81 = .ok (.goto 5, 3) := by decide +kernel
theorem dX8_now_84 : decode cX8_now 84 = .ok (.iload 4, 2) := by decide +kernel
theorem dX8_now_86 : decode cX8_now 86 = .ok (.istore 4, 2) := by decide +kernel
theorem dX8_now_88 : decode cX8_now 88 = .ok (.iinc 5 1, 3) := by decide +kernel
theorem dX8_now_91 : decode cX8_now 91 = .ok (.goto (-80), 3) := by decide +kernel
theorem dX8_now_94 : decode cX8_now 94 = .ok (.iload_n 1, 1) := by decide +kernel
theorem dX8_now_95 : decode cX8_now 95 = .ok (.tableswitch 50 0 4 #[33, 38, 40, 45, 47], 33) := by decide +kernel
theorem dX8_now_128 : decode cX8_now 128 = .ok (.aload_n 0, 1) := by decide +kernel
theorem dX8_now_129 : decode cX8_now 129 = .ok (.getfield 157, 3) := by decide +kernel
theorem dX8_now_132 : decode cX8_now 132 = .ok (.ireturn, 1) := by decide +kernel
theorem dX8_now_133 : decode cX8_now 133 = .ok (.iload_n 2, 1) := by decide +kernel
theorem dX8_now_134 : decode cX8_now 134 = .ok (.ireturn, 1) := by decide +kernel
theorem dX8_now_135 : decode cX8_now 135 = .ok (.aload_n 0, 1) := by decide +kernel
theorem dX8_now_136 : decode cX8_now 136 = .ok (.getfield 166, 3) := by decide +kernel
theorem dX8_now_139 : decode cX8_now 139 = .ok (.ireturn, 1) := by decide +kernel
theorem dX8_now_140 : decode cX8_now 140 = .ok (.iload_n 3, 1) := by decide +kernel
theorem dX8_now_141 : decode cX8_now 141 = .ok (.ireturn, 1) := by decide +kernel
theorem dX8_now_142 : decode cX8_now 142 = .ok (.iload 4, 2) := by decide +kernel
theorem dX8_now_144 : decode cX8_now 144 = .ok (.ireturn, 1) := by decide +kernel
theorem dX8_now_145 : decode cX8_now 145 = .ok (.iconst (-1), 1) := by decide +kernel
theorem dX8_now_146 : decode cX8_now 146 = .ok (.ireturn, 1) := by decide +kernel
theorem dX8_begins_0 : decode cX8_begins 0 = .ok (.iconst 0, 1) := by decide +kernel
theorem dX8_begins_1 : decode cX8_begins 1 = .ok (.istore_n 1, 1) := by decide +kernel
theorem dX8_begins_2 : decode cX8_begins 2 = .ok (.iload_n 1, 1) := by decide +kernel
theorem dX8_begins_3 : decode cX8_begins 3 = .ok (.aload_n 0, 1) := by decide +kernel
theorem dX8_begins_4 : decode cX8_begins 4 = .ok (.getfield 154, 3) := by decide +kernel
theorem dX8_begins_7 : decode cX8_begins 7 = .ok (.if_icmp .ge 21, 3) := by decide +kernel
theorem dX8_begins_10 : decode cX8_begins 10 = .ok (.aload_n 0, 1) := by decide +kernel
theorem dX8_begins_11 : decode cX8_begins 11 = .ok (.getfield 43, 3) := by decide +kernel
theorem dX8_begins_14 : decode cX8_begins 14 = .ok (.iload_n 1, 1) := by decide +kernel
theorem dX8_begins_15 : decode cX8_begins 15 = .ok (.aload_n 0, 1) := by decide +kernel
theorem dX8_begins_16 : decode cX8_begins 16 = .ok (.getfield 34, 3) := by decide +kernel
theorem dX8_begins_19 : decode cX8_begins 19 = .ok (.iload_n 1, 1) := by decide +kernel
theorem dX8_begins_20 : decode cX8_begins 20 = .ok (.iaload, 1) := by decide +kernel
theorem dX8_begins_21 : decode cX8_begins 21 = .ok (.iastore, 1) := by decide +kernel
theorem dX8_begins_22 : decode cX8_begins 22 = .ok (.iinc 1 1, 3) := by decide +kernel
theorem dX8_begins_25 : decode cX8_begins 25 = .ok (.goto (-23), 3) := by decide +kernel
theorem dX8_begins_28 : decode cX8_begins 28 = .ok (.return_, 1) := by decide +kernel
set_option maxRecDepth 20000 in
theorem ggX8_passes_X8_goes : GoodIn wsX8_passes wsX8_goes := goodIn_r _ [7, 8, 9, 10, 11, 12, 13, 14, 15, 16, 17, 18, 19, 20, 21, 22, 23, 24, 25, 26, 27, 28, 29, 30, 31, 32, 33, 34, 35, 36, 37, 38, 39, 40, 41, 42, 43, 44, 45, 46] (by decide +kernel) (by decide +kernel)
set_option maxRecDepth 20000 in
theorem gX8_passes_X8_goes : GoodIn wsX8_passes (wsV RX8 178 RX8 yX8_goes wsX8_goes) := goodIn_app (goodIn_of _ (by decide +kernel)) ggX8_passes_X8_goes
theorem dX8_passes_0 : decode cX8_passes 0 = .ok (.iconst 0, 1) := by decide +kernel
theorem dX8_passes_1 : decode cX8_passes 1 = .ok (.istore 4, 2) := by decide +kernel
theorem dX8_passes_3 : decode cX8_passes 3 = .ok (.iload 4, 2) := by decide +kernel
theorem dX8_passes_5 : decode cX8_passes 5 = .ok (.iload_n 1, 1) := by decide +kernel
theorem dX8_passes_6 : decode cX8_passes 6 = .ok (.if_icmp .ge 27, 3) := by decide +kernel
theorem dX8_passes_9 : decode cX8_passes 9 = .ok (.aload_n 0, 1) := by decide +kernel
theorem dX8_passes_10 : decode cX8_passes 10 = .ok (.aload_n 0, 1) := by decide +kernel
theorem dX8_passes_11 : decode cX8_passes 11 = .ok (.getfield 43, 3) := by decide +kernel
theorem dX8_passes_14 : decode cX8_passes 14 = .ok (.aload_n 0, 1) := by decide +kernel
theorem dX8_passes_15 : decode cX8_passes 15 = .ok (.getfield 157, 3) := by decide +kernel
theorem dX8_passes_18 : decode cX8_passes 18 = .ok (.iload 4, 2) := by decide +kernel
theorem dX8_passes_20 : decode cX8_passes 20 = .ok (.iadd, 1) := by decide +kernel
theorem dX8_passes_21 : decode cX8_passes 21 = .ok (.iload_n 2, 1) := by decide +kernel
theorem dX8_passes_22 : decode cX8_passes 22 = .ok (.iload_n 3, 1) := by decide +kernel
theorem dX8_passes_23 : decode cX8_passes 23 = .ok (.invokevirtual 178, 3) := by decide +kernel
theorem dX8_passes_26 : decode cX8_passes 26 = .ok (.pop, 1) := by decide +kernel
theorem dX8_passes_27 : decode cX8_passes 27 = .ok (.iinc 4 1, 3) := by decide +kernel
theorem dX8_passes_30 : decode cX8_passes 30 = .ok (.goto (-27), 3) := by decide +kernel
theorem dX8_passes_33 : decode cX8_passes 33 = .ok (.return_, 1) := by decide +kernel
set_option maxRecDepth 20000 in
theorem ggX8_behind_X8_in : GoodIn wsX8_behind wsX8_in := goodIn_r _ [8] (by decide +kernel) (by decide +kernel)
set_option maxRecDepth 20000 in
theorem gX8_behind_X8_in : GoodIn wsX8_behind (va_wsS RX8 67 yX8_in wsX8_in) := goodIn_app (goodIn_of _ (by decide +kernel)) ggX8_behind_X8_in
set_option maxRecDepth 20000 in
theorem ggX8_behind_X8_isWall : GoodIn wsX8_behind wsX8_isWall := goodIn_r _ [12, 13, 5, 6, 7, 8, 33, 34, 35, 36, 37, 38, 39, 40, 41, 42, 43, 44, 45, 46, 47, 48, 49, 50, 51, 52, 53, 54, 55, 56, 57, 58, 59, 60, 61, 62, 63, 64, 65] (by decide +kernel) (by decide +kernel)
set_option maxRecDepth 20000 in
theorem gX8_behind_X8_isWall : GoodIn wsX8_behind (wsV RX8 175 RX8 yX8_isWall wsX8_isWall) := goodIn_app (goodIn_of _ (by decide +kernel)) ggX8_behind_X8_isWall
set_option maxRecDepth 20000 in
theorem ggX8_behind_X8_begins : GoodIn wsX8_behind wsX8_begins := goodIn_r _ [17, 13, 4, 18, 33, 34, 35, 36, 37, 38, 39, 40, 41, 42, 43, 44, 45, 46, 47, 48, 49, 50, 51, 52, 53, 54, 55, 56, 57, 58, 59, 60, 61, 62, 63, 64, 65] (by decide +kernel) (by decide +kernel)
set_option maxRecDepth 20000 in
theorem gX8_behind_X8_begins : GoodIn wsX8_behind (wsV RX8 192 RX8 yX8_begins wsX8_begins) := goodIn_app (goodIn_of _ (by decide +kernel)) ggX8_behind_X8_begins
set_option maxRecDepth 20000 in
theorem ggX8_behind_X8_passes : GoodIn wsX8_behind wsX8_passes := goodIn_r _ [22, 4, 23, 24, 25, 26, 7, 27, 13, 28, 29, 30, 31, 32, 33, 34, 35, 36, 37, 38, 39, 40, 41, 42, 43, 44, 45, 46, 47, 48, 49, 50, 51, 52, 53, 54, 55, 56, 57, 58, 59, 60, 61, 62, 63, 64, 65] (by decide +kernel) (by decide +kernel)
set_option maxRecDepth 20000 in
theorem gX8_behind_X8_passes : GoodIn wsX8_behind (wsV RX8 195 RX8 yX8_passes wsX8_passes) := goodIn_app (goodIn_of _ (by decide +kernel)) ggX8_behind_X8_passes
theorem dX8_behind_0 : decode cX8_behind 0 = .ok (.iload_n 1, 1) := by decide +kernel
theorem dX8_behind_1 : decode cX8_behind 1 = .ok (.i2l, 1) := by decide +kernel
theorem dX8_behind_2 : decode cX8_behind 2 = .ok (.lconst 0, 1) := by decide +kernel
theorem dX8_behind_3 : decode cX8_behind 3 = .ok (.ldc2_w 190, 3) := by decide +kernel
theorem dX8_behind_6 : decode cX8_behind 6 = .ok (.invokestatic 67, 3) := by decide +kernel
theorem dX8_behind_9 : decode cX8_behind 9 = .ok (.ifCond .eq 11, 3) := by decide +kernel
theorem dX8_behind_12 : decode cX8_behind 12 = .ok (.aload_n 0, 1) := by decide +kernel
theorem dX8_behind_13 : decode cX8_behind 13 = .ok (.iload_n 2, 1) := by decide +kernel
theorem dX8_behind_14 : decode cX8_behind 14 = .ok (.invokevirtual 175, 3) := by decide +kernel
theorem dX8_behind_17 : decode cX8_behind 17 = .ok (.ifCond .ne 5, 3) := by decide +kernel
theorem dX8_behind_20 : decode cX8_behind 20 = .ok (.iconst (-1), 1) := by decide +kernel
theorem dX8_behind_21 : decode cX8_behind 21 = .ok (.ireturn, 1) := by decide +kernel
theorem dX8_behind_22 : decode cX8_behind 22 = .ok (.aload_n 0, 1) := by decide +kernel
theorem dX8_behind_23 : decode cX8_behind 23 = .ok (.invokevirtual 192, 3) := by decide +kernel
theorem dX8_behind_26 : decode cX8_behind 26 = .ok (.aload_n 0, 1) := by decide +kernel
theorem dX8_behind_27 : decode cX8_behind 27 = .ok (.iload_n 1, 1) := by decide +kernel
theorem dX8_behind_28 : decode cX8_behind 28 = .ok (.aload_n 0, 1) := by decide +kernel
theorem dX8_behind_29 : decode cX8_behind 29 = .ok (.getfield 160, 3) := by decide +kernel
theorem dX8_behind_32 : decode cX8_behind 32 = .ok (.aload_n 0, 1) := by decide +kernel
theorem dX8_behind_33 : decode cX8_behind 33 = .ok (.getfield 163, 3) := by decide +kernel
theorem dX8_behind_36 : decode cX8_behind 36 = .ok (.invokevirtual 195, 3) := by decide +kernel
theorem dX8_behind_39 : decode cX8_behind 39 = .ok (.aload_n 0, 1) := by decide +kernel
theorem dX8_behind_40 : decode cX8_behind 40 = .ok (.getfield 43, 3) := by decide +kernel
theorem dX8_behind_43 : decode cX8_behind 43 = .ok (.iload_n 2, 1) := by decide +kernel
theorem dX8_behind_44 : decode cX8_behind 44 = .ok (.iaload, 1) := by decide +kernel
theorem dX8_behind_45 : decode cX8_behind 45 = .ok (.ireturn, 1) := by decide +kernel
theorem dX8_tooWarm_0 : decode cX8_tooWarm 0 = .ok (.iconst 0, 1) := by decide +kernel
theorem dX8_tooWarm_1 : decode cX8_tooWarm 1 = .ok (.istore_n 1, 1) := by decide +kernel
theorem dX8_tooWarm_2 : decode cX8_tooWarm 2 = .ok (.iload_n 1, 1) := by decide +kernel
theorem dX8_tooWarm_3 : decode cX8_tooWarm 3 = .ok (.aload_n 0, 1) := by decide +kernel
theorem dX8_tooWarm_4 : decode cX8_tooWarm 4 = .ok (.getfield 154, 3) := by decide +kernel
theorem dX8_tooWarm_7 : decode cX8_tooWarm 7 = .ok (.if_icmp .ge 24, 3) := by decide +kernel
theorem dX8_tooWarm_10 : decode cX8_tooWarm 10 = .ok (.aload_n 0, 1) := by decide +kernel
theorem dX8_tooWarm_11 : decode cX8_tooWarm 11 = .ok (.getfield 43, 3) := by decide +kernel
theorem dX8_tooWarm_14 : decode cX8_tooWarm 14 = .ok (.iload_n 1, 1) := by decide +kernel
theorem dX8_tooWarm_15 : decode cX8_tooWarm 15 = .ok (.iaload, 1) := by decide +kernel
theorem dX8_tooWarm_16 : decode cX8_tooWarm 16 = .ok (.aload_n 0, 1) := by decide +kernel
theorem dX8_tooWarm_17 : decode cX8_tooWarm 17 = .ok (.getfield 61, 3) := by decide +kernel
theorem dX8_tooWarm_20 : decode cX8_tooWarm 20 = .ok (.if_icmp .le 5, 3) := by decide +kernel
theorem dX8_tooWarm_23 : decode cX8_tooWarm 23 = .ok (.iload_n 1, 1) := by decide +kernel
theorem dX8_tooWarm_24 : decode cX8_tooWarm 24 = .ok (.ireturn, 1) := by decide +kernel
theorem dX8_tooWarm_25 : decode cX8_tooWarm 25 = .ok (.iinc 1 1, 3) := by decide +kernel
theorem dX8_tooWarm_28 : decode cX8_tooWarm 28 = .ok (.goto (-26), 3) := by decide +kernel
theorem dX8_tooWarm_31 : decode cX8_tooWarm 31 = .ok (.bipush (-9), 2) := by decide +kernel
theorem dX8_tooWarm_33 : decode cX8_tooWarm 33 = .ok (.ireturn, 1) := by decide +kernel
set_option maxRecDepth 20000 in
theorem ggX8_first_X8_in : GoodIn wsX8_first wsX8_in := goodIn_r _ [8] (by decide +kernel) (by decide +kernel)
set_option maxRecDepth 20000 in
theorem gX8_first_X8_in : GoodIn wsX8_first (va_wsS RX8 67 yX8_in wsX8_in) := goodIn_app (goodIn_of _ (by decide +kernel)) ggX8_first_X8_in
set_option maxRecDepth 20000 in
theorem ggX8_first_X8_begins : GoodIn wsX8_first wsX8_begins := goodIn_r _ [12, 13, 1, 14, 29, 30, 31, 32, 33, 34, 35, 36, 37, 38, 39, 40, 41, 42, 43, 44, 45, 46, 47, 48, 49, 50, 51, 52, 53, 54, 55, 56, 57, 58, 59, 60, 61] (by decide +kernel) (by decide +kernel)
set_option maxRecDepth 20000 in
theorem gX8_first_X8_begins : GoodIn wsX8_first (wsV RX8 192 RX8 yX8_begins wsX8_begins) := goodIn_app (goodIn_of _ (by decide +kernel)) ggX8_first_X8_begins
set_option maxRecDepth 20000 in
theorem ggX8_first_X8_tooWarm : GoodIn wsX8_first wsX8_tooWarm := goodIn_r _ [18, 13, 1, 19, 29, 30, 31, 32, 33, 34, 35, 36, 37, 38, 39, 40, 41, 42, 43, 44, 45, 46, 47, 48, 49, 50, 51, 52, 53, 54, 55, 56, 57, 58, 59, 60, 61] (by decide +kernel) (by decide +kernel)
set_option maxRecDepth 20000 in
theorem gX8_first_X8_tooWarm : GoodIn wsX8_first (wsV RX8 199 RX8 yX8_tooWarm wsX8_tooWarm) := goodIn_app (goodIn_of _ (by decide +kernel)) ggX8_first_X8_tooWarm
set_option maxRecDepth 20000 in
theorem ggX8_first_X8_goes : GoodIn wsX8_first wsX8_goes := goodIn_r _ [23, 13, 24, 25, 26, 27, 28, 29, 30, 31, 32, 33, 34, 35, 36, 37, 38, 39, 40, 41, 42, 43, 44, 45, 46, 47, 48, 49, 50, 51, 52, 53, 54, 55, 56, 57, 58, 59, 60, 61] (by decide +kernel) (by decide +kernel)
set_option maxRecDepth 20000 in
theorem gX8_first_X8_goes : GoodIn wsX8_first (wsV RX8 178 RX8 yX8_goes wsX8_goes) := goodIn_app (goodIn_of _ (by decide +kernel)) ggX8_first_X8_goes
theorem dX8_first_0 : decode cX8_first 0 = .ok (.iload_n 1, 1) := by decide +kernel
theorem dX8_first_1 : decode cX8_first 1 = .ok (.i2l, 1) := by decide +kernel
theorem dX8_first_2 : decode cX8_first 2 = .ok (.lconst 0, 1) := by decide +kernel
theorem dX8_first_3 : decode cX8_first 3 = .ok (.lconst 1, 1) := by decide +kernel
theorem dX8_first_4 : decode cX8_first 4 = .ok (.invokestatic 67, 3) := by decide +kernel
theorem dX8_first_7 : decode cX8_first 7 = .ok (.ifCond .ne 5, 3) := by decide +kernel
theorem dX8_first_10 : decode cX8_first 10 = .ok (.iconst (-1), 1) := by decide +kernel
theorem dX8_first_11 : decode cX8_first 11 = .ok (.ireturn, 1) := by decide +kernel
theorem dX8_first_12 : decode cX8_first 12 = .ok (.aload_n 0, 1) := by decide +kernel
theorem dX8_first_13 : decode cX8_first 13 = .ok (.invokevirtual 192, 3) := by decide +kernel
theorem dX8_first_16 : decode cX8_first 16 = .ok (.iconst 0, 1) := by decide +kernel
theorem dX8_first_17 : decode cX8_first 17 = .ok (.istore_n 2, 1) := by decide +kernel
theorem dX8_first_18 : decode cX8_first 18 = .ok (.iload_n 2, 1) := by decide +kernel
theorem dX8_first_19 : decode cX8_first 19 = .ok (.bipush 50, 2) := by decide +kernel
theorem dX8_first_21 : decode cX8_first 21 = .ok (.if_icmp .gt 53, 3) := by decide +kernel
theorem dX8_first_24 : decode cX8_first 24 = .ok (.aload_n 0, 1) := by decide +kernel
theorem dX8_first_25 : decode cX8_first 25 = .ok (.invokevirtual 199, 3) := by decide +kernel
theorem dX8_first_28 : decode cX8_first 28 = .ok (.istore_n 3, 1) := by decide +kernel
theorem dX8_first_29 : decode cX8_first 29 = .ok (.iload_n 3, 1) := by decide +kernel
theorem dX8_first_30 : decode cX8_first 30 = .ok (.bipush (-9), 2) := by decide +kernel
theorem dX8_first_32 : decode cX8_first 32 = .ok (.if_icmp .eq 13, 3) := by decide +kernel
theorem dX8_first_35 : decode cX8_first 35 = .ok (.iload_n 1, 1) := by decide +kernel
theorem dX8_first_36 : decode cX8_first 36 = .ok (.ifCond .ne 7, 3) := by decide +kernel
theorem dX8_first_39 : decode cX8_first 39 = .ok (.iload_n 2, 1) := by decide +kernel
theorem dX8_first_40 : decode cX8_first 40 = .ok (.goto 4, 3) := by decide +kernel
theorem dX8_first_43 : decode cX8_first 43 = .ok (.iload_n 3, 1) := by decide +kernel
theorem dX8_first_44 : decode cX8_first 44 = .ok (.ireturn, 1) := by decide +kernel
theorem dX8_first_45 : decode cX8_first 45 = .ok (.aload_n 0, 1) := by decide +kernel
theorem dX8_first_46 : decode cX8_first 46 = .ok (.aload_n 0, 1) := by decide +kernel
theorem dX8_first_47 : decode cX8_first 47 = .ok (.getfield 43, 3) := by decide +kernel
theorem dX8_first_50 : decode cX8_first 50 = .ok (.aload_n 0, 1) := by decide +kernel
theorem dX8_first_51 : decode cX8_first 51 = .ok (.getfield 157, 3) := by decide +kernel
theorem dX8_first_54 : decode cX8_first 54 = .ok (.iload_n 2, 1) := by decide +kernel
theorem dX8_first_55 : decode cX8_first 55 = .ok (.iadd, 1) := by decide +kernel
theorem dX8_first_56 : decode cX8_first 56 = .ok (.aload_n 0, 1) := by decide +kernel
theorem dX8_first_57 : decode cX8_first 57 = .ok (.getfield 160, 3) := by decide +kernel
theorem dX8_first_60 : decode cX8_first 60 = .ok (.aload_n 0, 1) := by decide +kernel
theorem dX8_first_61 : decode cX8_first 61 = .ok (.getfield 163, 3) := by decide +kernel
theorem dX8_first_64 : decode cX8_first 64 = .ok (.invokevirtual 178, 3) := by decide +kernel
theorem dX8_first_67 : decode cX8_first 67 = .ok (.pop, 1) := by decide +kernel
theorem dX8_first_68 : decode cX8_first 68 = .ok (.iinc 2 1, 3) := by decide +kernel
theorem dX8_first_71 : decode cX8_first 71 = .ok (.goto (-53), 3) := by decide +kernel
theorem dX8_first_74 : decode cX8_first 74 = .ok (.bipush (-9), 2) := by decide +kernel
theorem dX8_first_76 : decode cX8_first 76 = .ok (.ireturn, 1) := by decide +kernel
set_option maxRecDepth 20000 in
theorem ggX8_rest_X8_begins : GoodIn wsX8_rest wsX8_begins := goodIn_r _ [11, 3, 5, 12, 26, 27, 28, 29, 30, 31, 32, 33, 34, 35, 36, 37, 38, 39, 40, 41, 42, 43, 44, 45, 46, 47, 48, 49, 50, 51, 52, 53, 54, 55, 56, 57, 58] (by decide +kernel) (by decide +kernel)
set_option maxRecDepth 20000 in
theorem gX8_rest_X8_begins : GoodIn wsX8_rest (wsV RX8 192 RX8 yX8_begins wsX8_begins) := goodIn_app (goodIn_of _ (by decide +kernel)) ggX8_rest_X8_begins
set_option maxRecDepth 20000 in
theorem ggX8_rest_X8_passes : GoodIn wsX8_rest wsX8_passes := goodIn_r _ [16, 5, 6, 17, 18, 19, 10, 20, 3, 21, 22, 23, 24, 25, 26, 27, 28, 29, 30, 31, 32, 33, 34, 35, 36, 37, 38, 39, 40, 41, 42, 43, 44, 45, 46, 47, 48, 49, 50, 51, 52, 53, 54, 55, 56, 57, 58] (by decide +kernel) (by decide +kernel)
set_option maxRecDepth 20000 in
theorem gX8_rest_X8_passes : GoodIn wsX8_rest (wsV RX8 195 RX8 yX8_passes wsX8_passes) := goodIn_app (goodIn_of _ (by decide +kernel)) ggX8_rest_X8_passes
set_option maxRecDepth 20000 in
theorem ggX8_rest_X8_goes : GoodIn wsX8_rest wsX8_goes := goodIn_r _ [20, 3, 21, 22, 23, 24, 25, 26, 27, 28, 29, 30, 31, 32, 33, 34, 35, 36, 37, 38, 39, 40, 41, 42, 43, 44, 45, 46, 47, 48, 49, 50, 51, 52, 53, 54, 55, 56, 57, 58] (by decide +kernel) (by decide +kernel)
set_option maxRecDepth 20000 in
theorem gX8_rest_X8_goes : GoodIn wsX8_rest (wsV RX8 178 RX8 yX8_goes wsX8_goes) := goodIn_app (goodIn_of _ (by decide +kernel)) ggX8_rest_X8_goes
theorem dX8_rest_0 : decode cX8_rest 0 = .ok (.iconst 0, 1) := by decide +kernel
theorem dX8_rest_1 : decode cX8_rest 1 = .ok (.istore_n 1, 1) := by decide +kernel
theorem dX8_rest_2 : decode cX8_rest 2 = .ok (.iload_n 1, 1) := by decide +kernel
theorem dX8_rest_3 : decode cX8_rest 3 = .ok (.sipush 200, 3) := by decide +kernel
theorem dX8_rest_6 : decode cX8_rest 6 = .ok (.if_icmp .gt 142, 3) := by decide +kernel
theorem dX8_rest_9 : decode cX8_rest 9 = .ok (.aload_n 0, 1) := by decide +kernel
theorem dX8_rest_10 : decode cX8_rest 10 = .ok (.invokevirtual 192, 3) := by decide +kernel
theorem dX8_rest_13 : decode cX8_rest 13 = .ok (.aload_n 0, 1) := by decide +kernel
theorem dX8_rest_14 : decode cX8_rest 14 = .ok (.iload_n 1, 1) := by decide +kernel
theorem dX8_rest_15 : decode cX8_rest 15 = .ok (.aload_n 0, 1) := by decide +kernel
theorem dX8_rest_16 : decode cX8_rest 16 = .ok (.getfield 160, 3) := by decide +kernel
theorem dX8_rest_19 : decode cX8_rest 19 = .ok (.aload_n 0, 1) := by decide +kernel
theorem dX8_rest_20 : decode cX8_rest 20 = .ok (.getfield 163, 3) := by decide +kernel
theorem dX8_rest_23 : decode cX8_rest 23 = .ok (.invokevirtual 195, 3) := by decide +kernel
theorem dX8_rest_26 : decode cX8_rest 26 = .ok (.iconst 0, 1) := by decide +kernel
theorem dX8_rest_27 : decode cX8_rest 27 = .ok (.istore_n 2, 1) := by decide +kernel
theorem dX8_rest_28 : decode cX8_rest 28 = .ok (.iload_n 2, 1) := by decide +kernel
theorem dX8_rest_29 : decode cX8_rest 29 = .ok (.aload_n 0, 1) := by decide +kernel
theorem dX8_rest_30 : decode cX8_rest 30 = .ok (.getfield 154, 3) := by decide +kernel
theorem dX8_rest_33 : decode cX8_rest 33 = .ok (.if_icmp .ge 21, 3) := by decide +kernel
theorem dX8_rest_36 : decode cX8_rest 36 = .ok (.aload_n 0, 1) := by decide +kernel
theorem dX8_rest_37 : decode cX8_rest 37 = .ok (.getfield 46, 3) := by decide +kernel
theorem dX8_rest_40 : decode cX8_rest 40 = .ok (.iload_n 2, 1) := by decide +kernel
theorem dX8_rest_41 : decode cX8_rest 41 = .ok (.aload_n 0, 1) := by decide +kernel
theorem dX8_rest_42 : decode cX8_rest 42 = .ok (.getfield 43, 3) := by decide +kernel
theorem dX8_rest_45 : decode cX8_rest 45 = .ok (.iload_n 2, 1) := by decide +kernel
theorem dX8_rest_46 : decode cX8_rest 46 = .ok (.iaload, 1) := by decide +kernel
theorem dX8_rest_47 : decode cX8_rest 47 = .ok (.iastore, 1) := by decide +kernel
theorem dX8_rest_48 : decode cX8_rest 48 = .ok (.iinc 2 1, 3) := by decide +kernel
theorem dX8_rest_51 : decode cX8_rest 51 = .ok (.goto (-23), 3) := by decide +kernel
theorem dX8_rest_54 : decode cX8_rest 54 = .ok (.iconst 0, 1) := by decide +kernel
theorem dX8_rest_55 : decode cX8_rest 55 = .ok (.istore_n 2, 1) := by decide +kernel
theorem dX8_rest_56 : decode cX8_rest 56 = .ok (.iload_n 2, 1) := by decide +kernel
theorem dX8_rest_57 : decode cX8_rest 57 = .ok (.bipush 8, 2) := by decide +kernel
theorem dX8_rest_59 : decode cX8_rest 59 = .ok (.if_icmp .ge 34, 3) := by decide +kernel
theorem dX8_rest_62 : decode cX8_rest 62 = .ok (.aload_n 0, 1) := by decide +kernel
theorem dX8_rest_63 : decode cX8_rest 63 = .ok (.aload_n 0, 1) := by decide +kernel
theorem dX8_rest_64 : decode cX8_rest 64 = .ok (.getfield 43, 3) := by decide +kernel
theorem dX8_rest_67 : decode cX8_rest 67 = .ok (.aload_n 0, 1) := by decide +kernel
theorem dX8_rest_68 : decode cX8_rest 68 = .ok (.getfield 157, 3) := by decide +kernel
theorem dX8_rest_71 : decode cX8_rest 71 = .ok (.iload_n 1, 1) := by decide +kernel
theorem dX8_rest_72 : decode cX8_rest 72 = .ok (.iadd, 1) := by decide +kernel
theorem dX8_rest_73 : decode cX8_rest 73 = .ok (.iload_n 2, 1) := by decide +kernel
theorem dX8_rest_74 : decode cX8_rest 74 = .ok (.iadd, 1) := by decide +kernel
theorem dX8_rest_75 : decode cX8_rest 75 = .ok (.aload_n 0, 1) := by decide +kernel
theorem dX8_rest_76 : decode cX8_rest 76 = .ok (.getfield 160, 3) := by decide +kernel
theorem dX8_rest_79 : decode cX8_rest 79 = .ok (.aload_n 0, 1) := by decide +kernel
theorem dX8_rest_80 : decode cX8_rest 80 = .ok (.getfield 163, 3) := by decide +kernel
theorem dX8_rest_83 : decode cX8_rest 83 = .ok (.invokevirtual 178, 3) := by decide +kernel
theorem dX8_rest_86 : decode cX8_rest 86 = .ok (.pop, 1) := by decide +kernel
theorem dX8_rest_87 : decode cX8_rest 87 = .ok (.iinc 2 1, 3) := by decide +kernel
theorem dX8_rest_90 : decode cX8_rest 90 = .ok (.goto (-34), 3) := by decide +kernel
theorem dX8_rest_93 : decode cX8_rest 93 = .ok (.iconst 1, 1) := by decide +kernel
theorem dX8_rest_94 : decode cX8_rest 94 = .ok (.istore_n 2, 1) := by decide +kernel
theorem dX8_rest_95 : decode cX8_rest 95 = .ok (.iconst 0, 1) := by decide +kernel
theorem dX8_rest_96 : decode cX8_rest 96 = .ok (.istore_n 3, 1) := by decide +kernel
theorem dX8_rest_97 : decode cX8_rest 97 = .ok (.iload_n 3, 1) := by decide +kernel
theorem dX8_rest_98 : decode cX8_rest 98 = .ok (.aload_n 0, 1) := by decide +kernel
theorem dX8_rest_99 : decode cX8_rest 99 = .ok (.getfield 154, 3) := by decide +kernel
theorem dX8_rest_102 : decode cX8_rest 102 = .ok (.if_icmp .ge 34, 3) := by decide +kernel
theorem dX8_rest_105 : decode cX8_rest 105 = .ok (.iload_n 2, 1) := by decide +kernel
theorem dX8_rest_106 : decode cX8_rest 106 = .ok (.ifCond .eq 22, 3) := by decide +kernel
theorem dX8_rest_109 : decode cX8_rest 109 = .ok (.aload_n 0, 1) := by decide +kernel
theorem dX8_rest_110 : decode cX8_rest 110 = .ok (.getfield 43, 3) := by decide +kernel
theorem dX8_rest_113 : decode cX8_rest 113 = .ok (.iload_n 3, 1) := by decide +kernel
theorem dX8_rest_114 : decode cX8_rest 114 = .ok (.iaload, 1) := by decide +kernel
theorem dX8_rest_115 : decode cX8_rest 115 = .ok (.aload_n 0, 1) := by decide +kernel
theorem dX8_rest_116 : decode cX8_rest 116 = .ok (.getfield 46, 3) := by decide +kernel
theorem dX8_rest_119 : decode cX8_rest 119 = .ok (.iload_n 3, 1) := by decide +kernel
theorem dX8_rest_120 : decode cX8_rest 120 = .ok (.iaload, 1) := by decide +kernel
theorem dX8_rest_121 : decode cX8_rest 121 = .ok (.if_icmp .ne 7, 3) := by decide +kernel
theorem dX8_rest_124 : decode cX8_rest 124 = .ok (.iconst 1, 1) := by decide +kernel
theorem dX8_rest_125 : decode cX8_rest 125 = .ok (.goto 4, 3) := by decide +kernel
theorem dX8_rest_128 : decode cX8_rest 128 = .ok (.iconst 0, 1) := by decide +kernel
theorem dX8_rest_129 : decode cX8_rest 129 = .ok (.istore_n 2, 1) := by decide +kernel
theorem dX8_rest_130 : decode cX8_rest 130 = .ok (.iinc 3 1, 3) := by decide +kernel
theorem dX8_rest_133 : decode cX8_rest 133 = .ok (.goto (-36), 3) := by decide +kernel
theorem dX8_rest_136 : decode cX8_rest 136 = .ok (.iload_n 2, 1) := by decide +kernel
theorem dX8_rest_137 : decode cX8_rest 137 = .ok (.ifCond .eq 5, 3) := by decide +kernel
theorem dX8_rest_140 : decode cX8_rest 140 = .ok (.iload_n 1, 1) := by decide +kernel
theorem dX8_rest_141 : decode cX8_rest 141 = .ok (.ireturn, 1) := by decide +kernel
theorem dX8_rest_142 : decode cX8_rest 142 = .ok (.iinc 1 1, 3) := by decide +kernel
theorem dX8_rest_145 : decode cX8_rest 145 = .ok (.goto (-143), 3) := by decide +kernel
theorem dX8_rest_148 : decode cX8_rest 148 = .ok (.bipush (-9), 2) := by decide +kernel
theorem dX8_rest_150 : decode cX8_rest 150 = .ok (.ireturn, 1) := by decide +kernel
set_option maxRecDepth 20000 in
theorem ggX8_coolest_X8_in : GoodIn wsX8_coolest wsX8_in := goodIn_r _ [8] (by decide +kernel) (by decide +kernel)
set_option maxRecDepth 20000 in
theorem gX8_coolest_X8_in : GoodIn wsX8_coolest (va_wsS RX8 67 yX8_in wsX8_in) := goodIn_app (goodIn_of _ (by decide +kernel)) ggX8_coolest_X8_in
set_option maxRecDepth 20000 in
theorem ggX8_coolest_X8_begins : GoodIn wsX8_coolest wsX8_begins := goodIn_r _ [12, 2, 4, 13, 28, 29, 30, 31, 32, 33, 34, 35, 36, 37, 38, 39, 40, 41, 42, 43, 44, 45, 46, 47, 48, 49, 50, 51, 52, 53, 54, 55, 56, 57, 58, 59, 60] (by decide +kernel) (by decide +kernel)
set_option maxRecDepth 20000 in
theorem gX8_coolest_X8_begins : GoodIn wsX8_coolest (wsV RX8 192 RX8 yX8_begins wsX8_begins) := goodIn_app (goodIn_of _ (by decide +kernel)) ggX8_coolest_X8_begins
set_option maxRecDepth 20000 in
theorem ggX8_coolest_X8_passes : GoodIn wsX8_coolest wsX8_passes := goodIn_r _ [17, 4, 18, 19, 20, 21, 7, 22, 2, 23, 24, 25, 26, 27, 28, 29, 30, 31, 32, 33, 34, 35, 36, 37, 38, 39, 40, 41, 42, 43, 44, 45, 46, 47, 48, 49, 50, 51, 52, 53, 54, 55, 56, 57, 58, 59, 60] (by decide +kernel) (by decide +kernel)
set_option maxRecDepth 20000 in
theorem gX8_coolest_X8_passes : GoodIn wsX8_coolest (wsV RX8 195 RX8 yX8_passes wsX8_passes) := goodIn_app (goodIn_of _ (by decide +kernel)) ggX8_coolest_X8_passes
theorem dX8_coolest_0 : decode cX8_coolest 0 = .ok (.iload_n 1, 1) := by decide +kernel
theorem dX8_coolest_1 : decode cX8_coolest 1 = .ok (.i2l, 1) := by decide +kernel
theorem dX8_coolest_2 : decode cX8_coolest 2 = .ok (.lconst 0, 1) := by decide +kernel
theorem dX8_coolest_3 : decode cX8_coolest 3 = .ok (.ldc2_w 203, 3) := by decide +kernel
theorem dX8_coolest_6 : decode cX8_coolest 6 = .ok (.invokestatic 67, 3) := by decide +kernel
theorem dX8_coolest_9 : decode cX8_coolest 9 = .ok (.ifCond .eq 13, 3) := by decide +kernel
theorem dX8_coolest_12 : decode cX8_coolest 12 = .ok (.iload_n 2, 1) := by decide +kernel
theorem dX8_coolest_13 : decode cX8_coolest 13 = .ok (.i2l, 1) := by decide +kernel
theorem dX8_coolest_14 : decode cX8_coolest 14 = .ok (.lconst 0, 1) := by decide +kernel
theorem dX8_coolest_15 : decode cX8_coolest 15 = .ok (.lconst 1, 1) := by decide +kernel
theorem dX8_coolest_16 : decode cX8_coolest 16 = .ok (.invokestatic 67, 3) := by decide +kernel
theorem dX8_coolest_19 : decode cX8_coolest 19 = .ok (.ifCond .ne 5, 3) := by decide +kernel
theorem dX8_coolest_22 : decode cX8_coolest 22 = .ok (.iconst (-1), 1) := by decide +kernel
theorem dX8_coolest_23 : decode cX8_coolest 23 = .ok (.ireturn, 1) := by decide +kernel
theorem dX8_coolest_24 : decode cX8_coolest 24 = .ok (.bipush (-9), 2) := by decide +kernel
theorem dX8_coolest_26 : decode cX8_coolest 26 = .ok (.istore_n 3, 1) := by decide +kernel
theorem dX8_coolest_27 : decode cX8_coolest 27 = .ok (.iconst 0, 1) := by decide +kernel
theorem dX8_coolest_28 : decode cX8_coolest 28 = .ok (.istore 4, 2) := by decide +kernel
theorem dX8_coolest_30 : decode cX8_coolest 30 = .ok (.iconst 0, 1) := by decide +kernel
theorem dX8_coolest_31 : decode cX8_coolest 31 = .ok (.istore 5, 2) := by decide +kernel
theorem dX8_coolest_33 : decode cX8_coolest 33 = .ok (.iload 5, 2) := by decide +kernel
theorem dX8_coolest_35 : decode cX8_coolest 35 = .ok (.iconst 1, 1) := by decide +kernel
theorem dX8_coolest_36 : decode cX8_coolest 36 = .ok (.aload_n 0, 1) := by decide +kernel
theorem dX8_coolest_37 : decode cX8_coolest 37 = .ok (.getfield 154, 3) := by decide +kernel
theorem dX8_coolest_40 : decode cX8_coolest 40 = .ok (.ishl, 1) := by decide +kernel
theorem dX8_coolest_41 : decode cX8_coolest 41 = .ok (.if_icmp .ge 124, 3) := by decide +kernel
theorem dX8_coolest_44 : decode cX8_coolest 44 = .ok (.aload_n 0, 1) := by decide +kernel
theorem dX8_coolest_45 : decode cX8_coolest 45 = .ok (.getfield 154, 3) := by decide +kernel
theorem dX8_coolest_48 : decode cX8_coolest 48 = .ok (.ifCond .le 117, 3) := by decide +kernel
theorem dX8_coolest_51 : decode cX8_coolest 51 = .ok (.aload_n 0, 1) := by decide +kernel
theorem dX8_coolest_52 : decode cX8_coolest 52 = .ok (.invokevirtual 192, 3) := by decide +kernel
theorem dX8_coolest_55 : decode cX8_coolest 55 = .ok (.aload_n 0, 1) := by decide +kernel
theorem dX8_coolest_56 : decode cX8_coolest 56 = .ok (.iload_n 1, 1) := by decide +kernel
theorem dX8_coolest_57 : decode cX8_coolest 57 = .ok (.iload 5, 2) := by decide +kernel
theorem dX8_coolest_59 : decode cX8_coolest 59 = .ok (.aload_n 0, 1) := by decide +kernel
theorem dX8_coolest_60 : decode cX8_coolest 60 = .ok (.getfield 163, 3) := by decide +kernel
theorem dX8_coolest_63 : decode cX8_coolest 63 = .ok (.invokevirtual 195, 3) := by decide +kernel
theorem dX8_coolest_66 : decode cX8_coolest 66 = .ok (.iconst 0, 1) := by decide +kernel
theorem dX8_coolest_67 : decode cX8_coolest 67 = .ok (.istore 6, 2) := by decide +kernel
theorem dX8_coolest_69 : decode cX8_coolest 69 = .ok (.iconst 0, 1) := by decide +kernel
theorem dX8_coolest_70 : decode cX8_coolest 70 = .ok (.istore 7, 2) := by decide +kernel
theorem dX8_coolest_72 : decode cX8_coolest 72 = .ok (.iload 7, 2) := by decide +kernel
theorem dX8_coolest_74 : decode cX8_coolest 74 = .ok (.aload_n 0, 1) := by decide +kernel
theorem dX8_coolest_75 : decode cX8_coolest 75 = .ok (.getfield 154, 3) := by decide +kernel
theorem dX8_coolest_78 : decode cX8_coolest 78 = .ok (.if_icmp .ge 35, 3) := by decide +kernel
theorem dX8_coolest_81 : decode cX8_coolest 81 = .ok (.aload_n 0, 1) := by decide +kernel
theorem dX8_coolest_82 : decode cX8_coolest 82 = .ok (.getfield 43, 3) := by decide +kernel
theorem dX8_coolest_85 : decode cX8_coolest 85 = .ok (.iload 7, 2) := by decide +kernel
theorem dX8_coolest_87 : decode cX8_coolest 87 = .ok (.iaload, 1) := by decide +kernel
theorem dX8_coolest_88 : decode cX8_coolest 88 = .ok (.iload 6, 2) := by decide +kernel
theorem dX8_coolest_90 : decode cX8_coolest 90 = .ok (.if_icmp .le 13, 3) := by decide +kernel
theorem dX8_coolest_93 : decode cX8_coolest 93 = .ok (.aload_n 0, 1) := by decide +kernel
theorem dX8_coolest_94 : decode cX8_coolest 94 = .ok (.getfield 43, 3) := by decide +kernel
theorem dX8_coolest_97 : decode cX8_coolest 97 = .ok (.iload 7, 2) := by decide +kernel
theorem dX8_coolest_99 : decode cX8_coolest 99 = .ok (.iaload, 1) := by decide +kernel
theorem dX8_coolest_100 : decode cX8_coolest 100 = .ok (.goto 5, 3) := by decide +kernel
theorem dX8_coolest_103 : decode cX8_coolest 103 = .ok (.iload 6, 2) := by decide +kernel
theorem dX8_coolest_105 : decode cX8_coolest 105 = .ok (.istore 6, 2) := by decide +kernel
theorem dX8_coolest_107 : decode cX8_coolest 107 = .ok (.iinc 7 1, 3) := by decide +kernel
theorem dX8_coolest_110 : decode cX8_coolest 110 = .ok (.goto (-38), 3) := by decide +kernel
theorem dX8_coolest_113 : decode cX8_coolest 113 = .ok (.iload_n 3, 1) := by decide +kernel
theorem dX8_coolest_114 : decode cX8_coolest 114 = .ok (.bipush (-9), 2) := by decide +kernel
theorem dX8_coolest_116 : decode cX8_coolest 116 = .ok (.if_icmp .eq 10, 3) := by decide +kernel
theorem dX8_coolest_119 : decode cX8_coolest 119 = .ok (.iload 6, 2) := by decide +kernel
theorem dX8_coolest_121 : decode cX8_coolest 121 = .ok (.iload 4, 2) := by decide +kernel
theorem dX8_coolest_123 : decode cX8_coolest 123 = .ok (.if_icmp .ge 7, 3) := by decide +kernel
theorem dX8_coolest_126 : decode cX8_coolest 126 = .ok (.iconst 1, 1) := by decide +kernel
theorem dX8_coolest_127 : decode cX8_coolest 127 = .ok (.goto 4, 3) := by decide +kernel
theorem dX8_coolest_130 : decode cX8_coolest 130 = .ok (.iconst 0, 1) := by decide +kernel
theorem dX8_coolest_131 : decode cX8_coolest 131 = .ok (.istore 7, 2) := by decide +kernel
theorem dX8_coolest_133 : decode cX8_coolest 133 = .ok (.iload 7, 2) := by decide +kernel
theorem dX8_coolest_135 : decode cX8_coolest 135 = .ok (.ifCond .eq 8, 3) := by decide +kernel
theorem dX8_coolest_138 : decode cX8_coolest 138 = .ok (.iload 5, 2) := by decide +kernel
theorem dX8_coolest_140 : decode cX8_coolest 140 = .ok (.goto 4, 3) := by decide +kernel
theorem dX8_coolest_143 : decode cX8_coolest 143 = .ok (.iload_n 3, 1) := by decide +kernel
theorem dX8_coolest_144 : decode cX8_coolest 144 = .ok (.istore_n 3, 1) := by decide +kernel
theorem dX8_coolest_145 : decode cX8_coolest 145 = .ok (.iload 7, 2) := by decide +kernel
theorem dX8_coolest_147 : decode cX8_coolest 147 = .ok (.ifCond .eq 8, 3) := by decide +kernel
theorem dX8_coolest_150 : decode cX8_coolest 150 = .ok (.iload 6, 2) := by decide +kernel
theorem dX8_coolest_152 : decode cX8_coolest 152 = .ok (.goto 5, 3) := by decide +kernel
theorem dX8_coolest_155 : decode cX8_coolest 155 = .ok (.iload 4, 2) := by decide +kernel
theorem dX8_coolest_157 : decode cX8_coolest 157 = .ok (.istore 4, 2) := by decide +kernel
theorem dX8_coolest_159 : decode cX8_coolest 159 = .ok (.iinc 5 1, 3) := by decide +kernel
theorem dX8_coolest_162 : decode cX8_coolest 162 = .ok (.goto (-129), 3) := by decide +kernel
theorem dX8_coolest_165 : decode cX8_coolest 165 = .ok (.iload_n 3, 1) := by decide +kernel
theorem dX8_coolest_166 : decode cX8_coolest 166 = .ok (.bipush (-9), 2) := by decide +kernel
theorem dX8_coolest_168 : decode cX8_coolest 168 = .ok (.if_icmp .ne 8, 3) := by decide +kernel
theorem dX8_coolest_171 : decode cX8_coolest 171 = .ok (.bipush (-9), 2) := by decide +kernel
theorem dX8_coolest_173 : decode cX8_coolest 173 = .ok (.goto 13, 3) := by decide +kernel
theorem dX8_coolest_176 : decode cX8_coolest 176 = .ok (.iload_n 2, 1) := by decide +kernel
theorem dX8_coolest_177 : decode cX8_coolest 177 = .ok (.ifCond .ne 8, 3) := by decide +kernel
theorem dX8_coolest_180 : decode cX8_coolest 180 = .ok (.iload 4, 2) := by decide +kernel
theorem dX8_coolest_182 : decode cX8_coolest 182 = .ok (.goto 4, 3) := by decide +kernel
theorem dX8_coolest_185 : decode cX8_coolest 185 = .ok (.iload_n 3, 1) := by decide +kernel
theorem dX8_coolest_186 : decode cX8_coolest 186 = .ok (.ireturn, 1) := by decide +kernel
set_option maxRecDepth 20000 in
theorem ggX8_busy_X8_isWall : GoodIn wsX8_busy wsX8_isWall := goodIn_r _ [10, 11, 12, 13, 9, 14, 36, 37, 38, 39, 40, 41, 42, 43, 44, 45, 46, 47, 48, 49, 50, 51, 52, 53, 54, 55, 56, 57, 58, 59, 60, 61, 62, 63, 64, 65, 66, 67, 68] (by decide +kernel) (by decide +kernel)
set_option maxRecDepth 20000 in
theorem gX8_busy_X8_isWall : GoodIn wsX8_busy (wsV RX8 175 RX8 yX8_isWall wsX8_isWall) := goodIn_app (goodIn_of _ (by decide +kernel)) ggX8_busy_X8_isWall
set_option maxRecDepth 20000 in
theorem ggX8_busy_X8_in : GoodIn wsX8_busy wsX8_in := goodIn_r _ [14] (by decide +kernel) (by decide +kernel)
set_option maxRecDepth 20000 in
theorem gX8_busy_X8_in : GoodIn wsX8_busy (va_wsS RX8 67 yX8_in wsX8_in) := goodIn_app (goodIn_of _ (by decide +kernel)) ggX8_busy_X8_in
set_option maxRecDepth 20000 in
theorem ggX8_busy_X8_begins : GoodIn wsX8_busy wsX8_begins := goodIn_r _ [18, 11, 2, 19, 36, 37, 38, 39, 40, 41, 42, 43, 44, 45, 46, 47, 48, 49, 50, 51, 52, 53, 54, 55, 56, 57, 58, 59, 60, 61, 62, 63, 64, 65, 66, 67, 68] (by decide +kernel) (by decide +kernel)
set_option maxRecDepth 20000 in
theorem gX8_busy_X8_begins : GoodIn wsX8_busy (wsV RX8 192 RX8 yX8_begins wsX8_begins) := goodIn_app (goodIn_of _ (by decide +kernel)) ggX8_busy_X8_begins
set_option maxRecDepth 20000 in
theorem ggX8_busy_X8_many : GoodIn wsX8_busy wsX8_many := goodIn_r _ [22] (by decide +kernel) (by decide +kernel)
set_option maxRecDepth 20000 in
theorem gX8_busy_X8_many : GoodIn wsX8_busy (va_wsS RX8 186 yX8_many wsX8_many) := goodIn_app (goodIn_of _ (by decide +kernel)) ggX8_busy_X8_many
set_option maxRecDepth 20000 in
theorem ggX8_busy_X8_goes : GoodIn wsX8_busy wsX8_goes := goodIn_r _ [26, 11, 27, 1, 28, 29, 30, 36, 37, 38, 39, 40, 41, 42, 43, 44, 45, 46, 47, 48, 49, 50, 51, 52, 53, 54, 55, 56, 57, 58, 59, 60, 61, 62, 63, 64, 65, 66, 67, 68] (by decide +kernel) (by decide +kernel)
set_option maxRecDepth 20000 in
theorem gX8_busy_X8_goes : GoodIn wsX8_busy (wsV RX8 178 RX8 yX8_goes wsX8_goes) := goodIn_app (goodIn_of _ (by decide +kernel)) ggX8_busy_X8_goes
set_option maxRecDepth 20000 in
theorem ggX8_busy_X8_tooWarm : GoodIn wsX8_busy wsX8_tooWarm := goodIn_r _ [34, 11, 2, 35, 36, 37, 38, 39, 40, 41, 42, 43, 44, 45, 46, 47, 48, 49, 50, 51, 52, 53, 54, 55, 56, 57, 58, 59, 60, 61, 62, 63, 64, 65, 66, 67, 68] (by decide +kernel) (by decide +kernel)
set_option maxRecDepth 20000 in
theorem gX8_busy_X8_tooWarm : GoodIn wsX8_busy (wsV RX8 199 RX8 yX8_tooWarm wsX8_tooWarm) := goodIn_app (goodIn_of _ (by decide +kernel)) ggX8_busy_X8_tooWarm
theorem dX8_busy_0 : decode cX8_busy 0 = .ok (.aload_n 0, 1) := by decide +kernel
theorem dX8_busy_1 : decode cX8_busy 1 = .ok (.iload_n 1, 1) := by decide +kernel
theorem dX8_busy_2 : decode cX8_busy 2 = .ok (.invokevirtual 175, 3) := by decide +kernel
theorem dX8_busy_5 : decode cX8_busy 5 = .ok (.ifCond .eq 13, 3) := by decide +kernel
theorem dX8_busy_8 : decode cX8_busy 8 = .ok (.iload_n 2, 1) := by decide +kernel
theorem dX8_busy_9 : decode cX8_busy 9 = .ok (.i2l, 1) := by decide +kernel
theorem dX8_busy_10 : decode cX8_busy 10 = .ok (.lconst 0, 1) := by decide +kernel
theorem dX8_busy_11 : decode cX8_busy 11 = .ok (.lconst 1, 1) := by decide +kernel
theorem dX8_busy_12 : decode cX8_busy 12 = .ok (.invokestatic 67, 3) := by decide +kernel
theorem dX8_busy_15 : decode cX8_busy 15 = .ok (.ifCond .ne 5, 3) := by decide +kernel
theorem dX8_busy_18 : decode cX8_busy 18 = .ok (.iconst (-1), 1) := by decide +kernel
theorem dX8_busy_19 : decode cX8_busy 19 = .ok (.ireturn, 1) := by decide +kernel
theorem dX8_busy_20 : decode cX8_busy 20 = .ok (.aload_n 0, 1) := by decide +kernel
theorem dX8_busy_21 : decode cX8_busy 21 = .ok (.getfield 28, 3) := by decide +kernel
theorem dX8_busy_24 : decode cX8_busy 24 = .ok (.iload_n 1, 1) := by decide +kernel
theorem dX8_busy_25 : decode cX8_busy 25 = .ok (.iaload, 1) := by decide +kernel
theorem dX8_busy_26 : decode cX8_busy 26 = .ok (.istore_n 3, 1) := by decide +kernel
theorem dX8_busy_27 : decode cX8_busy 27 = .ok (.bipush (-9), 2) := by decide +kernel
theorem dX8_busy_29 : decode cX8_busy 29 = .ok (.istore 4, 2) := by decide +kernel
theorem dX8_busy_31 : decode cX8_busy 31 = .ok (.iconst 0, 1) := by decide +kernel
theorem dX8_busy_32 : decode cX8_busy 32 = .ok (.istore 5, 2) := by decide +kernel
theorem dX8_busy_34 : decode cX8_busy 34 = .ok (.iload 5, 2) := by decide +kernel
theorem dX8_busy_36 : decode cX8_busy 36 = .ok (.sipush 256, 3) := by decide +kernel
theorem dX8_busy_39 : decode cX8_busy 39 = .ok (.if_icmp .ge 123, 3) := by decide +kernel
theorem dX8_busy_42 : decode cX8_busy 42 = .ok (.aload_n 0, 1) := by decide +kernel
theorem dX8_busy_43 : decode cX8_busy 43 = .ok (.getfield 28, 3) := by decide +kernel
theorem dX8_busy_46 : decode cX8_busy 46 = .ok (.iload_n 1, 1) := by decide +kernel
theorem dX8_busy_47 : decode cX8_busy 47 = .ok (.iload 5, 2) := by decide +kernel
theorem dX8_busy_49 : decode cX8_busy 49 = .ok (.iastore, 1) := by decide +kernel
theorem dX8_busy_50 : decode cX8_busy 50 = .ok (.aload_n 0, 1) := by decide +kernel
theorem dX8_busy_51 : decode cX8_busy 51 = .ok (.invokevirtual 192, 3) := by decide +kernel
theorem dX8_busy_54 : decode cX8_busy 54 = .ok (.iload 4, 2) := by decide +kernel
theorem dX8_busy_56 : decode cX8_busy 56 = .ok (.bipush (-9), 2) := by decide +kernel
theorem dX8_busy_58 : decode cX8_busy 58 = .ok (.if_icmp .eq 16, 3) := by decide +kernel
theorem dX8_busy_61 : decode cX8_busy 61 = .ok (.iload 5, 2) := by decide +kernel
theorem dX8_busy_63 : decode cX8_busy 63 = .ok (.invokestatic 186, 3) := by decide +kernel
theorem dX8_busy_66 : decode cX8_busy 66 = .ok (.iload 4, 2) := by decide +kernel
theorem dX8_busy_68 : decode cX8_busy 68 = .ok (.invokestatic 186, 3) := by decide +kernel
theorem dX8_busy_71 : decode cX8_busy 71 = .ok (.if_icmp .le 7, 3) := by decide +kernel
theorem dX8_busy_74 : decode cX8_busy 74 = .ok (.iconst 1, 1) := by decide +kernel
theorem dX8_busy_75 : decode cX8_busy 75 = .ok (.goto 4, 3) := by decide +kernel
theorem dX8_busy_78 : decode cX8_busy 78 = .ok (.iconst 0, 1) := by decide +kernel
theorem dX8_busy_79 : decode cX8_busy 79 = .ok (.istore 6, 2) := by decide +kernel
theorem dX8_busy_81 : decode cX8_busy 81 = .ok (.iconst 0, 1) := by decide +kernel
theorem dX8_busy_82 : decode cX8_busy 82 = .ok (.istore 7, 2) := by decide +kernel
theorem dX8_busy_84 : decode cX8_busy 84 = .ok (.iload 7, 2) := by decide +kernel
theorem dX8_busy_86 : decode cX8_busy 86 = .ok (.bipush 16, 2) := by decide +kernel
theorem dX8_busy_88 : decode cX8_busy 88 = .ok (.if_icmp .ge 54, 3) := by decide +kernel
theorem dX8_busy_91 : decode cX8_busy 91 = .ok (.iload 6, 2) := by decide +kernel
theorem dX8_busy_93 : decode cX8_busy 93 = .ok (.ifCond .eq 49, 3) := by decide +kernel
theorem dX8_busy_96 : decode cX8_busy 96 = .ok (.aload_n 0, 1) := by decide +kernel
theorem dX8_busy_97 : decode cX8_busy 97 = .ok (.aload_n 0, 1) := by decide +kernel
theorem dX8_busy_98 : decode cX8_busy 98 = .ok (.getfield 43, 3) := by decide +kernel
theorem dX8_busy_101 : decode cX8_busy 101 = .ok (.aload_n 0, 1) := by decide +kernel
theorem dX8_busy_102 : decode cX8_busy 102 = .ok (.getfield 157, 3) := by decide +kernel
theorem dX8_busy_105 : decode cX8_busy 105 = .ok (.iload 7, 2) := by decide +kernel
theorem dX8_busy_107 : decode cX8_busy 107 = .ok (.iadd, 1) := by decide +kernel
theorem dX8_busy_108 : decode cX8_busy 108 = .ok (.aload_n 0, 1) := by decide +kernel
theorem dX8_busy_109 : decode cX8_busy 109 = .ok (.getfield 160, 3) := by decide +kernel
theorem dX8_busy_112 : decode cX8_busy 112 = .ok (.aload_n 0, 1) := by decide +kernel
theorem dX8_busy_113 : decode cX8_busy 113 = .ok (.getfield 163, 3) := by decide +kernel
theorem dX8_busy_116 : decode cX8_busy 116 = .ok (.invokevirtual 178, 3) := by decide +kernel
theorem dX8_busy_119 : decode cX8_busy 119 = .ok (.pop, 1) := by decide +kernel
theorem dX8_busy_120 : decode cX8_busy 120 = .ok (.aload_n 0, 1) := by decide +kernel
theorem dX8_busy_121 : decode cX8_busy 121 = .ok (.invokevirtual 199, 3) := by decide +kernel
theorem dX8_busy_124 : decode cX8_busy 124 = .ok (.bipush (-9), 2) := by decide +kernel
theorem dX8_busy_126 : decode cX8_busy 126 = .ok (.if_icmp .ne 7, 3) := by decide +kernel
theorem dX8_busy_129 : decode cX8_busy 129 = .ok (.iconst 1, 1) := by decide +kernel
theorem dX8_busy_130 : decode cX8_busy 130 = .ok (.goto 4, 3) := by decide +kernel
theorem dX8_busy_133 : decode cX8_busy 133 = .ok (.iconst 0, 1) := by decide +kernel
theorem dX8_busy_134 : decode cX8_busy 134 = .ok (.istore 6, 2) := by decide +kernel
theorem dX8_busy_136 : decode cX8_busy 136 = .ok (.iinc 7 1, 3) := by decide +kernel
theorem dX8_busy_139 : decode cX8_busy 139 = .ok (.goto (-55), 3) := by decide +kernel
theorem dX8_busy_142 : decode cX8_busy 142 = .ok (.iload 6, 2) := by decide +kernel
theorem dX8_busy_144 : decode cX8_busy 144 = .ok (.ifCond .eq 8, 3) := by decide +kernel
theorem dX8_busy_147 : decode cX8_busy 147 = .ok (.iload 5, 2) := by decide +kernel
theorem dX8_busy_149 : decode cX8_busy 149 = .ok (.goto 5, 3) := by decide +kernel
theorem dX8_busy_152 : decode cX8_busy 152 = .ok (.iload 4, 2) := by decide +kernel
theorem dX8_busy_154 : decode cX8_busy 154 = .ok (.istore 4, 2) := by decide +kernel
theorem dX8_busy_156 : decode cX8_busy 156 = .ok (.iinc 5 1, 3) := by decide +kernel
theorem dX8_busy_159 : decode cX8_busy 159 = .ok (.goto (-125), 3) := by decide +kernel
theorem dX8_busy_162 : decode cX8_busy 162 = .ok (.aload_n 0, 1) := by decide +kernel
theorem dX8_busy_163 : decode cX8_busy 163 = .ok (.getfield 28, 3) := by decide +kernel
theorem dX8_busy_166 : decode cX8_busy 166 = .ok (.iload_n 1, 1) := by decide +kernel
theorem dX8_busy_167 : decode cX8_busy 167 = .ok (.iload_n 3, 1) := by decide +kernel
theorem dX8_busy_168 : decode cX8_busy 168 = .ok (.iastore, 1) := by decide +kernel
theorem dX8_busy_169 : decode cX8_busy 169 = .ok (.iload 4, 2) := by decide +kernel
theorem dX8_busy_171 : decode cX8_busy 171 = .ok (.bipush (-9), 2) := by decide +kernel
theorem dX8_busy_173 : decode cX8_busy 173 = .ok (.if_icmp .ne 8, 3) := by decide +kernel
theorem dX8_busy_176 : decode cX8_busy 176 = .ok (.bipush (-9), 2) := by decide +kernel
theorem dX8_busy_178 : decode cX8_busy 178 = .ok (.goto 17, 3) := by decide +kernel
theorem dX8_busy_181 : decode cX8_busy 181 = .ok (.iload_n 2, 1) := by decide +kernel
theorem dX8_busy_182 : decode cX8_busy 182 = .ok (.ifCond .ne 11, 3) := by decide +kernel
theorem dX8_busy_185 : decode cX8_busy 185 = .ok (.iload 4, 2) := by decide +kernel
theorem dX8_busy_187 : decode cX8_busy 187 = .ok (.invokestatic 186, 3) := by decide +kernel
theorem dX8_busy_190 : decode cX8_busy 190 = .ok (.goto 5, 3) := by decide +kernel
theorem dX8_busy_193 : decode cX8_busy 193 = .ok (.iload 4, 2) := by decide +kernel
theorem dX8_busy_195 : decode cX8_busy 195 = .ok (.ireturn, 1) := by decide +kernel
set_option maxRecDepth 20000 in
theorem ggX8_blanket_X8_isWall : GoodIn wsX8_blanket wsX8_isWall := goodIn_r _ [11, 3, 12, 13, 10, 14, 37, 38, 39, 40, 41, 42, 43, 44, 45, 46, 47, 48, 49, 50, 51, 52, 53, 54, 55, 56, 57, 58, 59, 60, 61, 62, 63, 64, 65, 66, 67, 68, 69] (by decide +kernel) (by decide +kernel)
set_option maxRecDepth 20000 in
theorem gX8_blanket_X8_isWall : GoodIn wsX8_blanket (wsV RX8 175 RX8 yX8_isWall wsX8_isWall) := goodIn_app (goodIn_of _ (by decide +kernel)) ggX8_blanket_X8_isWall
set_option maxRecDepth 20000 in
theorem ggX8_blanket_X8_in : GoodIn wsX8_blanket wsX8_in := goodIn_r _ [14] (by decide +kernel) (by decide +kernel)
set_option maxRecDepth 20000 in
theorem gX8_blanket_X8_in : GoodIn wsX8_blanket (va_wsS RX8 67 yX8_in wsX8_in) := goodIn_app (goodIn_of _ (by decide +kernel)) ggX8_blanket_X8_in
set_option maxRecDepth 20000 in
theorem ggX8_blanket_X8_many : GoodIn wsX8_blanket wsX8_many := goodIn_r _ [17] (by decide +kernel) (by decide +kernel)
set_option maxRecDepth 20000 in
theorem gX8_blanket_X8_many : GoodIn wsX8_blanket (va_wsS RX8 186 yX8_many wsX8_many) := goodIn_app (goodIn_of _ (by decide +kernel)) ggX8_blanket_X8_many
set_option maxRecDepth 20000 in
theorem ggX8_blanket_X8_begins : GoodIn wsX8_blanket wsX8_begins := goodIn_r _ [21, 3, 6, 22, 37, 38, 39, 40, 41, 42, 43, 44, 45, 46, 47, 48, 49, 50, 51, 52, 53, 54, 55, 56, 57, 58, 59, 60, 61, 62, 63, 64, 65, 66, 67, 68, 69] (by decide +kernel) (by decide +kernel)
set_option maxRecDepth 20000 in
theorem gX8_blanket_X8_begins : GoodIn wsX8_blanket (wsV RX8 192 RX8 yX8_begins wsX8_begins) := goodIn_app (goodIn_of _ (by decide +kernel)) ggX8_blanket_X8_begins
set_option maxRecDepth 20000 in
theorem ggX8_blanket_X8_passes : GoodIn wsX8_blanket wsX8_passes := goodIn_r _ [26, 6, 27, 28, 29, 30, 10, 31, 3, 32, 33, 34, 35, 36, 37, 38, 39, 40, 41, 42, 43, 44, 45, 46, 47, 48, 49, 50, 51, 52, 53, 54, 55, 56, 57, 58, 59, 60, 61, 62, 63, 64, 65, 66, 67, 68, 69] (by decide +kernel) (by decide +kernel)
set_option maxRecDepth 20000 in
theorem gX8_blanket_X8_passes : GoodIn wsX8_blanket (wsV RX8 195 RX8 yX8_passes wsX8_passes) := goodIn_app (goodIn_of _ (by decide +kernel)) ggX8_blanket_X8_passes
theorem dX8_blanket_0 : decode cX8_blanket 0 = .ok (.aload_n 0, 1) := by decide +kernel
theorem dX8_blanket_1 : decode cX8_blanket 1 = .ok (.iload_n 1, 1) := by decide +kernel
theorem dX8_blanket_2 : decode cX8_blanket 2 = .ok (.invokevirtual 175, 3) := by decide +kernel
theorem dX8_blanket_5 : decode cX8_blanket 5 = .ok (.ifCond .eq 27, 3) := by decide +kernel
theorem dX8_blanket_8 : decode cX8_blanket 8 = .ok (.iload_n 2, 1) := by decide +kernel
theorem dX8_blanket_9 : decode cX8_blanket 9 = .ok (.i2l, 1) := by decide +kernel
theorem dX8_blanket_10 : decode cX8_blanket 10 = .ok (.lconst 0, 1) := by decide +kernel
theorem dX8_blanket_11 : decode cX8_blanket 11 = .ok (.ldc2_w 205, 3) := by decide +kernel
theorem dX8_blanket_14 : decode cX8_blanket 14 = .ok (.invokestatic 67, 3) := by decide +kernel
theorem dX8_blanket_17 : decode cX8_blanket 17 = .ok (.ifCond .eq 15, 3) := by decide +kernel
theorem dX8_blanket_20 : decode cX8_blanket 20 = .ok (.iload_n 3, 1) := by decide +kernel
theorem dX8_blanket_21 : decode cX8_blanket 21 = .ok (.i2l, 1) := by decide +kernel
theorem dX8_blanket_22 : decode cX8_blanket 22 = .ok (.lconst 0, 1) := by decide +kernel
theorem dX8_blanket_23 : decode cX8_blanket 23 = .ok (.ldc2_w 203, 3) := by decide +kernel
theorem dX8_blanket_26 : decode cX8_blanket 26 = .ok (.invokestatic 67, 3) := by decide +kernel
theorem dX8_blanket_29 : decode cX8_blanket 29 = .ok (.ifCond .ne 5, 3) := by decide +kernel
theorem dX8_blanket_32 : decode cX8_blanket 32 = .ok (.iconst (-1), 1) := by decide +kernel
theorem dX8_blanket_33 : decode cX8_blanket 33 = .ok (.ireturn, 1) := by decide +kernel
theorem dX8_blanket_34 : decode cX8_blanket 34 = .ok (.bipush (-9), 2) := by decide +kernel
theorem dX8_blanket_36 : decode cX8_blanket 36 = .ok (.istore 4, 2) := by decide +kernel
theorem dX8_blanket_38 : decode cX8_blanket 38 = .ok (.iconst 0, 1) := by decide +kernel
theorem dX8_blanket_39 : decode cX8_blanket 39 = .ok (.istore 5, 2) := by decide +kernel
theorem dX8_blanket_41 : decode cX8_blanket 41 = .ok (.iload 5, 2) := by decide +kernel
theorem dX8_blanket_43 : decode cX8_blanket 43 = .ok (.iconst 1, 1) := by decide +kernel
theorem dX8_blanket_44 : decode cX8_blanket 44 = .ok (.aload_n 0, 1) := by decide +kernel
theorem dX8_blanket_45 : decode cX8_blanket 45 = .ok (.getfield 154, 3) := by decide +kernel
theorem dX8_blanket_48 : decode cX8_blanket 48 = .ok (.ishl, 1) := by decide +kernel
theorem dX8_blanket_49 : decode cX8_blanket 49 = .ok (.if_icmp .ge 94, 3) := by decide +kernel
theorem dX8_blanket_52 : decode cX8_blanket 52 = .ok (.iload 5, 2) := by decide +kernel
theorem dX8_blanket_54 : decode cX8_blanket 54 = .ok (.aload_n 0, 1) := by decide +kernel
theorem dX8_blanket_55 : decode cX8_blanket 55 = .ok (.getfield 163, 3) := by decide +kernel
theorem dX8_blanket_58 : decode cX8_blanket 58 = .ok (.iconst 1, 1) := by decide +kernel
theorem dX8_blanket_59 : decode cX8_blanket 59 = .ok (.iload_n 1, 1) := by decide +kernel
theorem dX8_blanket_60 : decode cX8_blanket 60 = .ok (.ishl, 1) := by decide +kernel
theorem dX8_blanket_61 : decode cX8_blanket 61 = .ok (.ior, 1) := by decide +kernel
theorem dX8_blanket_62 : decode cX8_blanket 62 = .ok (.iand, 1) := by decide +kernel
theorem dX8_blanket_63 : decode cX8_blanket 63 = .ok (.ifCond .ne 27, 3) := by decide +kernel
theorem dX8_blanket_66 : decode cX8_blanket 66 = .ok (.iload 4, 2) := by decide +kernel
theorem dX8_blanket_68 : decode cX8_blanket 68 = .ok (.bipush (-9), 2) := by decide +kernel
theorem dX8_blanket_70 : decode cX8_blanket 70 = .ok (.if_icmp .eq 16, 3) := by decide +kernel
theorem dX8_blanket_73 : decode cX8_blanket 73 = .ok (.iload 5, 2) := by decide +kernel
theorem dX8_blanket_75 : decode cX8_blanket 75 = .ok (.invokestatic 186, 3) := by decide +kernel
theorem dX8_blanket_78 : decode cX8_blanket 78 = .ok (.iload 4, 2) := by decide +kernel
theorem dX8_blanket_80 : decode cX8_blanket 80 = .ok (.invokestatic 186, 3) := by decide +kernel
theorem dX8_blanket_83 : decode cX8_blanket 83 = .ok (.if_icmp .ge 7, 3) := by decide +kernel
theorem dX8_blanket_86 : decode cX8_blanket 86 = .ok (.iconst 1, 1) := by decide +kernel
theorem dX8_blanket_87 : decode cX8_blanket 87 = .ok (.goto 4, 3) := by decide +kernel
theorem dX8_blanket_90 : decode cX8_blanket 90 = .ok (.iconst 0, 1) := by decide +kernel
theorem dX8_blanket_91 : decode cX8_blanket 91 = .ok (.istore 6, 2) := by decide +kernel
theorem dX8_blanket_93 : decode cX8_blanket 93 = .ok (.iload 6, 2) := by decide +kernel
theorem dX8_blanket_95 : decode cX8_blanket 95 = .ok (.ifCond .eq 42, 3) := by decide +kernel
theorem dX8_blanket_98 : decode cX8_blanket 98 = .ok (.aload_n 0, 1) := by decide +kernel
theorem dX8_blanket_99 : decode cX8_blanket 99 = .ok (.invokevirtual 192, 3) := by decide +kernel
theorem dX8_blanket_102 : decode cX8_blanket 102 = .ok (.aload_n 0, 1) := by decide +kernel
theorem dX8_blanket_103 : decode cX8_blanket 103 = .ok (.iload_n 3, 1) := by decide +kernel
theorem dX8_blanket_104 : decode cX8_blanket 104 = .ok (.aload_n 0, 1) := by decide +kernel
theorem dX8_blanket_105 : decode cX8_blanket 105 = .ok (.getfield 160, 3) := by decide +kernel
theorem dX8_blanket_108 : decode cX8_blanket 108 = .ok (.aload_n 0, 1) := by decide +kernel
theorem dX8_blanket_109 : decode cX8_blanket 109 = .ok (.getfield 163, 3) := by decide +kernel
theorem dX8_blanket_112 : decode cX8_blanket 112 = .ok (.iload 5, 2) := by decide +kernel
theorem dX8_blanket_114 : decode cX8_blanket 114 = .ok (.ior, 1) := by decide +kernel
theorem dX8_blanket_115 : decode cX8_blanket 115 = .ok (.invokevirtual 195, 3) := by decide +kernel
theorem dX8_blanket_118 : decode cX8_blanket 118 = .ok (.aload_n 0, 1) := by decide +kernel
theorem dX8_blanket_119 : decode cX8_blanket 119 = .ok (.getfield 43, 3) := by decide +kernel
theorem dX8_blanket_122 : decode cX8_blanket 122 = .ok (.iload_n 1, 1) := by decide +kernel
theorem dX8_blanket_123 : decode cX8_blanket 123 = .ok (.iaload, 1) := by decide +kernel
theorem dX8_blanket_124 : decode cX8_blanket 124 = .ok (.iload_n 2, 1) := by decide +kernel
theorem dX8_blanket_125 : decode cX8_blanket 125 = .ok (.if_icmp .lt 8, 3) := by decide +kernel
theorem dX8_blanket_128 : decode cX8_blanket 128 = .ok (.iload 5, 2) := by decide +kernel
theorem dX8_blanket_130 : decode cX8_blanket 130 = .ok (.goto 5, 3) := by decide +kernel
theorem dX8_blanket_133 : decode cX8_blanket 133 = .ok (.iload 4, 2) := by decide +kernel
theorem dX8_blanket_135 : decode cX8_blanket 135 = .ok (.istore 4, 2) := by decide +kernel
theorem dX8_blanket_137 : decode cX8_blanket 137 = .ok (.iinc 5 1, 3) := by decide +kernel
theorem dX8_blanket_140 : decode cX8_blanket 140 = .ok (.goto (-99), 3) := by decide +kernel
theorem dX8_blanket_143 : decode cX8_blanket 143 = .ok (.iload 4, 2) := by decide +kernel
theorem dX8_blanket_145 : decode cX8_blanket 145 = .ok (.ireturn, 1) := by decide +kernel
set_option maxRecDepth 20000 in
theorem ggX8_sumWith_X8_begins : GoodIn wsX8_sumWith wsX8_begins := goodIn_r _ [10, 5, 1, 11, 21, 22, 23, 24, 25, 26, 27, 28, 29, 30, 31, 32, 33, 34, 35, 36, 37, 38, 39, 40, 41, 42, 43, 44, 45, 46, 47, 48, 49, 50, 51, 52, 53] (by decide +kernel) (by decide +kernel)
set_option maxRecDepth 20000 in
theorem gX8_sumWith_X8_begins : GoodIn wsX8_sumWith (wsV RX8 192 RX8 yX8_begins wsX8_begins) := goodIn_app (goodIn_of _ (by decide +kernel)) ggX8_sumWith_X8_begins
set_option maxRecDepth 20000 in
theorem ggX8_sumWith_X8_goes : GoodIn wsX8_sumWith wsX8_goes := goodIn_r _ [15, 5, 16, 17, 18, 19, 20, 21, 22, 23, 24, 25, 26, 27, 28, 29, 30, 31, 32, 33, 34, 35, 36, 37, 38, 39, 40, 41, 42, 43, 44, 45, 46, 47, 48, 49, 50, 51, 52, 53] (by decide +kernel) (by decide +kernel)
set_option maxRecDepth 20000 in
theorem gX8_sumWith_X8_goes : GoodIn wsX8_sumWith (wsV RX8 178 RX8 yX8_goes wsX8_goes) := goodIn_app (goodIn_of _ (by decide +kernel)) ggX8_sumWith_X8_goes
theorem dX8_sumWith_0 : decode cX8_sumWith 0 = .ok (.aload_n 0, 1) := by decide +kernel
theorem dX8_sumWith_1 : decode cX8_sumWith 1 = .ok (.invokevirtual 192, 3) := by decide +kernel
theorem dX8_sumWith_4 : decode cX8_sumWith 4 = .ok (.iconst 0, 1) := by decide +kernel
theorem dX8_sumWith_5 : decode cX8_sumWith 5 = .ok (.istore_n 3, 1) := by decide +kernel
theorem dX8_sumWith_6 : decode cX8_sumWith 6 = .ok (.iload_n 3, 1) := by decide +kernel
theorem dX8_sumWith_7 : decode cX8_sumWith 7 = .ok (.bipush 8, 2) := by decide +kernel
theorem dX8_sumWith_9 : decode cX8_sumWith 9 = .ok (.if_icmp .ge 46, 3) := by decide +kernel
theorem dX8_sumWith_12 : decode cX8_sumWith 12 = .ok (.aload_n 0, 1) := by decide +kernel
theorem dX8_sumWith_13 : decode cX8_sumWith 13 = .ok (.aload_n 0, 1) := by decide +kernel
theorem dX8_sumWith_14 : decode cX8_sumWith 14 = .ok (.getfield 43, 3) := by decide +kernel
theorem dX8_sumWith_17 : decode cX8_sumWith 17 = .ok (.aload_n 0, 1) := by decide +kernel
theorem dX8_sumWith_18 : decode cX8_sumWith 18 = .ok (.getfield 157, 3) := by decide +kernel
theorem dX8_sumWith_21 : decode cX8_sumWith 21 = .ok (.iload_n 3, 1) := by decide +kernel
theorem dX8_sumWith_22 : decode cX8_sumWith 22 = .ok (.iadd, 1) := by decide +kernel
theorem dX8_sumWith_23 : decode cX8_sumWith 23 = .ok (.aload_n 0, 1) := by decide +kernel
theorem dX8_sumWith_24 : decode cX8_sumWith 24 = .ok (.getfield 160, 3) := by decide +kernel
theorem dX8_sumWith_27 : decode cX8_sumWith 27 = .ok (.aload_n 0, 1) := by decide +kernel
theorem dX8_sumWith_28 : decode cX8_sumWith 28 = .ok (.getfield 163, 3) := by decide +kernel
theorem dX8_sumWith_31 : decode cX8_sumWith 31 = .ok (.invokevirtual 178, 3) := by decide +kernel
theorem dX8_sumWith_34 : decode cX8_sumWith 34 = .ok (.pop, 1) := by decide +kernel
theorem dX8_sumWith_35 : decode cX8_sumWith 35 = .ok (.iload_n 1, 1) := by decide +kernel
theorem dX8_sumWith_36 : decode cX8_sumWith 36 = .ok (.ifCond .lt 13, 3) := by decide +kernel
theorem dX8_sumWith_39 : decode cX8_sumWith 39 = .ok (.aload_n 0, 1) := by decide +kernel
theorem dX8_sumWith_40 : decode cX8_sumWith 40 = .ok (.getfield 43, 3) := by decide +kernel
theorem dX8_sumWith_43 : decode cX8_sumWith 43 = .ok (.iload_n 1, 1) := by decide +kernel
theorem dX8_sumWith_44 : decode cX8_sumWith 44 = .ok (.dup2, 1) := by decide +kernel
theorem dX8_sumWith_45 : decode cX8_sumWith 45 = .ok (.iaload, 1) := by decide +kernel
theorem dX8_sumWith_46 : decode cX8_sumWith 46 = .ok (.iload_n 2, 1) := by decide +kernel
theorem dX8_sumWith_47 : decode cX8_sumWith 47 = .ok (.iadd, 1) := by decide +kernel
theorem dX8_sumWith_48 : decode cX8_sumWith 48 = .ok (.iastore, 1) := by decide +kernel
theorem dX8_sumWith_49 : decode cX8_sumWith 49 = .ok (.iinc 3 1, 3) := by decide +kernel
theorem dX8_sumWith_52 : decode cX8_sumWith 52 = .ok (.goto (-46), 3) := by decide +kernel
theorem dX8_sumWith_55 : decode cX8_sumWith 55 = .ok (.iconst 0, 1) := by decide +kernel
theorem dX8_sumWith_56 : decode cX8_sumWith 56 = .ok (.istore_n 3, 1) := by decide +kernel
theorem dX8_sumWith_57 : decode cX8_sumWith 57 = .ok (.iconst 0, 1) := by decide +kernel
theorem dX8_sumWith_58 : decode cX8_sumWith 58 = .ok (.istore 4, 2) := by decide +kernel
theorem dX8_sumWith_60 : decode cX8_sumWith 60 = .ok (.iload 4, 2) := by decide +kernel
theorem dX8_sumWith_62 : decode cX8_sumWith 62 = .ok (.aload_n 0, 1) := by decide +kernel
theorem dX8_sumWith_63 : decode cX8_sumWith 63 = .ok (.getfield 154, 3) := by decide +kernel
theorem dX8_sumWith_66 : decode cX8_sumWith 66 = .ok (.if_icmp .ge 19, 3) := by decide +kernel
theorem dX8_sumWith_69 : decode cX8_sumWith 69 = .ok (.iload_n 3, 1) := by decide +kernel
theorem dX8_sumWith_70 : decode cX8_sumWith 70 = .ok (.aload_n 0, 1) := by decide +kernel
theorem dX8_sumWith_71 : decode cX8_sumWith 71 = .ok (.getfield 43, 3) := by decide +kernel
theorem dX8_sumWith_74 : decode cX8_sumWith 74 = .ok (.iload 4, 2) := by decide +kernel
theorem dX8_sumWith_76 : decode cX8_sumWith 76 = .ok (.iaload, 1) := by decide +kernel
theorem dX8_sumWith_77 : decode cX8_sumWith 77 = .ok (.iadd, 1) := by decide +kernel
theorem dX8_sumWith_78 : decode cX8_sumWith 78 = .ok (.istore_n 3, 1) := by decide +kernel
theorem dX8_sumWith_79 : decode cX8_sumWith 79 = .ok (.iinc 4 1, 3) := by decide +kernel
theorem dX8_sumWith_82 : decode cX8_sumWith 82 = .ok (.goto (-22), 3) := by decide +kernel
theorem dX8_sumWith_85 : decode cX8_sumWith 85 = .ok (.iload_n 3, 1) := by decide +kernel
theorem dX8_sumWith_86 : decode cX8_sumWith 86 = .ok (.ireturn, 1) := by decide +kernel
set_option maxRecDepth 20000 in
theorem ggX8_harm_X8_isWall : GoodIn wsX8_harm wsX8_isWall := goodIn_r _ [8, 3, 9, 10, 7, 11, 34, 35, 36, 37, 38, 39, 40, 41, 42, 43, 44, 45, 46, 47, 48, 49, 50, 51, 52, 53, 54, 55, 56, 57, 58, 59, 60, 61, 62, 63, 64, 65, 66] (by decide +kernel) (by decide +kernel)
set_option maxRecDepth 20000 in
theorem gX8_harm_X8_isWall : GoodIn wsX8_harm (wsV RX8 175 RX8 yX8_isWall wsX8_isWall) := goodIn_app (goodIn_of _ (by decide +kernel)) ggX8_harm_X8_isWall
set_option maxRecDepth 20000 in
theorem ggX8_harm_X8_in : GoodIn wsX8_harm wsX8_in := goodIn_r _ [11] (by decide +kernel) (by decide +kernel)
set_option maxRecDepth 20000 in
theorem gX8_harm_X8_in : GoodIn wsX8_harm (va_wsS RX8 67 yX8_in wsX8_in) := goodIn_app (goodIn_of _ (by decide +kernel)) ggX8_harm_X8_in
set_option maxRecDepth 20000 in
theorem ggX8_harm_X8_sumWith : GoodIn wsX8_harm wsX8_sumWith := goodIn_r _ [15, 16, 17, 18, 19, 3, 20, 21, 22, 7, 23, 24, 25, 26, 27, 28, 29, 30, 31, 32, 33, 34, 35, 36, 37, 38, 39, 40, 41, 42, 43, 44, 45, 46, 47, 48, 49, 50, 51, 52, 53, 54, 55, 56, 57, 58, 59, 60, 61, 62, 63, 64, 65, 66] (by decide +kernel) (by decide +kernel)
set_option maxRecDepth 20000 in
theorem gX8_harm_X8_sumWith : GoodIn wsX8_harm (wsV RX8 208 RX8 yX8_sumWith wsX8_sumWith) := goodIn_app (goodIn_of _ (by decide +kernel)) ggX8_harm_X8_sumWith
theorem dX8_harm_0 : decode cX8_harm 0 = .ok (.iload_n 1, 1) := by decide +kernel
theorem dX8_harm_1 : decode cX8_harm 1 = .ok (.iconst (-1), 1) := by decide +kernel
theorem dX8_harm_2 : decode cX8_harm 2 = .ok (.if_icmp .eq 11, 3) := by decide +kernel
theorem dX8_harm_5 : decode cX8_harm 5 = .ok (.aload_n 0, 1) := by decide +kernel
theorem dX8_harm_6 : decode cX8_harm 6 = .ok (.iload_n 1, 1) := by decide +kernel
theorem dX8_harm_7 : decode cX8_harm 7 = .ok (.invokevirtual 175, 3) := by decide +kernel
theorem dX8_harm_10 : decode cX8_harm 10 = .ok (.ifCond .eq 15, 3) := by decide +kernel
theorem dX8_harm_13 : decode cX8_harm 13 = .ok (.iload_n 2, 1) := by decide +kernel
theorem dX8_harm_14 : decode cX8_harm 14 = .ok (.i2l, 1) := by decide +kernel
theorem dX8_harm_15 : decode cX8_harm 15 = .ok (.lconst 1, 1) := by decide +kernel
theorem dX8_harm_16 : decode cX8_harm 16 = .ok (.ldc2_w 190, 3) := by decide +kernel
theorem dX8_harm_19 : decode cX8_harm 19 = .ok (.invokestatic 67, 3) := by decide +kernel
theorem dX8_harm_22 : decode cX8_harm 22 = .ok (.ifCond .ne 6, 3) := by decide +kernel
theorem dX8_harm_25 : decode cX8_harm 25 = .ok (.ldc 207, 2) := by decide +kernel
theorem dX8_harm_27 : decode cX8_harm 27 = .ok (.ireturn, 1) := by decide +kernel
theorem dX8_harm_28 : decode cX8_harm 28 = .ok (.iload_n 1, 1) := by decide +kernel
theorem dX8_harm_29 : decode cX8_harm 29 = .ok (.ifCond .lt 17, 3) := by decide +kernel
theorem dX8_harm_32 : decode cX8_harm 32 = .ok (.aload_n 0, 1) := by decide +kernel
theorem dX8_harm_33 : decode cX8_harm 33 = .ok (.iload_n 1, 1) := by decide +kernel
theorem dX8_harm_34 : decode cX8_harm 34 = .ok (.iload_n 2, 1) := by decide +kernel
theorem dX8_harm_35 : decode cX8_harm 35 = .ok (.invokevirtual 208, 3) := by decide +kernel
theorem dX8_harm_38 : decode cX8_harm 38 = .ok (.aload_n 0, 1) := by decide +kernel
theorem dX8_harm_39 : decode cX8_harm 39 = .ok (.iconst (-1), 1) := by decide +kernel
theorem dX8_harm_40 : decode cX8_harm 40 = .ok (.iconst 0, 1) := by decide +kernel
theorem dX8_harm_41 : decode cX8_harm 41 = .ok (.invokevirtual 208, 3) := by decide +kernel
theorem dX8_harm_44 : decode cX8_harm 44 = .ok (.isub, 1) := by decide +kernel
theorem dX8_harm_45 : decode cX8_harm 45 = .ok (.ireturn, 1) := by decide +kernel
theorem dX8_harm_46 : decode cX8_harm 46 = .ok (.bipush (-9), 2) := by decide +kernel
theorem dX8_harm_48 : decode cX8_harm 48 = .ok (.istore_n 3, 1) := by decide +kernel
theorem dX8_harm_49 : decode cX8_harm 49 = .ok (.iconst 0, 1) := by decide +kernel
theorem dX8_harm_50 : decode cX8_harm 50 = .ok (.istore 4, 2) := by decide +kernel
theorem dX8_harm_52 : decode cX8_harm 52 = .ok (.iconst 0, 1) := by decide +kernel
theorem dX8_harm_53 : decode cX8_harm 53 = .ok (.istore 5, 2) := by decide +kernel
theorem dX8_harm_55 : decode cX8_harm 55 = .ok (.iload 5, 2) := by decide +kernel
theorem dX8_harm_57 : decode cX8_harm 57 = .ok (.aload_n 0, 1) := by decide +kernel
theorem dX8_harm_58 : decode cX8_harm 58 = .ok (.getfield 154, 3) := by decide +kernel
theorem dX8_harm_61 : decode cX8_harm 61 = .ok (.if_icmp .ge 64, 3) := by decide +kernel
theorem dX8_harm_64 : decode cX8_harm 64 = .ok (.aload_n 0, 1) := by decide +kernel
theorem dX8_harm_65 : decode cX8_harm 65 = .ok (.iload 5, 2) := by decide +kernel
theorem dX8_harm_67 : decode cX8_harm 67 = .ok (.iload_n 2, 1) := by decide +kernel
theorem dX8_harm_68 : decode cX8_harm 68 = .ok (.invokevirtual 208, 3) := by decide +kernel
theorem dX8_harm_71 : decode cX8_harm 71 = .ok (.istore 6, 2) := by decide +kernel
theorem dX8_harm_73 : decode cX8_harm 73 = .ok (.iload_n 3, 1) := by decide +kernel
theorem dX8_harm_74 : decode cX8_harm 74 = .ok (.bipush (-9), 2) := by decide +kernel
theorem dX8_harm_76 : decode cX8_harm 76 = .ok (.if_icmp .eq 10, 3) := by decide +kernel
theorem dX8_harm_79 : decode cX8_harm 79 = .ok (.iload 6, 2) := by decide +kernel
theorem dX8_harm_81 : decode cX8_harm 81 = .ok (.iload 4, 2) := by decide +kernel
theorem dX8_harm_83 : decode cX8_harm 83 = .ok (.if_icmp .ge 7, 3) := by decide +kernel
theorem dX8_harm_86 : decode cX8_harm 86 = .ok (.iconst 1, 1) := by decide +kernel
theorem dX8_harm_87 : decode cX8_harm 87 = .ok (.goto 4, 3) := by decide +kernel
theorem dX8_harm_90 : decode cX8_harm 90 = .ok (.iconst 0, 1) := by decide +kernel
theorem dX8_harm_91 : decode cX8_harm 91 = .ok (.istore 7, 2) := by decide +kernel
theorem dX8_harm_93 : decode cX8_harm 93 = .ok (.iload 7, 2) := by decide +kernel
theorem dX8_harm_95 : decode cX8_harm 95 = .ok (.ifCond .eq 8, 3) := by decide +kernel
theorem dX8_harm_98 : decode cX8_harm 98 = .ok (.iload 5, 2) := by decide +kernel
theorem dX8_harm_100 : decode cX8_harm 100 = .ok (.goto 4, 3) := by decide +kernel
theorem dX8_harm_103 : decode cX8_harm 103 = .ok (.iload_n 3, 1) := by decide +kernel
theorem dX8_harm_104 : decode cX8_harm 104 = .ok (.istore_n 3, 1) := by decide +kernel
theorem dX8_harm_105 : decode cX8_harm 105 = .ok (.iload 7, 2) := by decide +kernel
theorem dX8_harm_107 : decode cX8_harm 107 = .ok (.ifCond .eq 8, 3) := by decide +kernel
theorem dX8_harm_110 : decode cX8_harm 110 = .ok (.iload 6, 2) := by decide +kernel
theorem dX8_harm_112 : decode cX8_harm 112 = .ok (.goto 5, 3) := by decide +kernel
theorem dX8_harm_115 : decode cX8_harm 115 = .ok (.iload 4, 2) := by decide +kernel
theorem dX8_harm_117 : decode cX8_harm 117 = .ok (.istore 4, 2) := by decide +kernel
theorem dX8_harm_119 : decode cX8_harm 119 = .ok (.iinc 5 1, 3) := by decide +kernel
theorem dX8_harm_122 : decode cX8_harm 122 = .ok (.goto (-67), 3) := by decide +kernel
theorem dX8_harm_125 : decode cX8_harm 125 = .ok (.iload_n 3, 1) := by decide +kernel
theorem dX8_harm_126 : decode cX8_harm 126 = .ok (.ireturn, 1) := by decide +kernel
set_option maxRecDepth 20000 in
theorem ggX8_saw_X8_in : GoodIn wsX8_saw wsX8_in := goodIn_r _ [10] (by decide +kernel) (by decide +kernel)
set_option maxRecDepth 20000 in
theorem gX8_saw_X8_in : GoodIn wsX8_saw (va_wsS RX8 67 yX8_in wsX8_in) := goodIn_app (goodIn_of _ (by decide +kernel)) ggX8_saw_X8_in
set_option maxRecDepth 20000 in
theorem ggX8_saw_X8_isWall : GoodIn wsX8_saw wsX8_isWall := goodIn_r _ [14, 15, 7, 8, 9, 10, 16, 17, 18, 19, 20, 21, 22, 23, 24, 25, 26, 27, 28, 29, 30, 31, 32, 33, 34, 35, 36, 37, 38, 39, 40, 41, 42, 43, 44, 45, 46, 47, 48] (by decide +kernel) (by decide +kernel)
set_option maxRecDepth 20000 in
theorem gX8_saw_X8_isWall : GoodIn wsX8_saw (wsV RX8 175 RX8 yX8_isWall wsX8_isWall) := goodIn_app (goodIn_of _ (by decide +kernel)) ggX8_saw_X8_isWall
theorem dX8_saw_0 : decode cX8_saw 0 = .ok (.iload_n 1, 1) := by decide +kernel
theorem dX8_saw_1 : decode cX8_saw 1 = .ok (.i2l, 1) := by decide +kernel
theorem dX8_saw_2 : decode cX8_saw 2 = .ok (.lconst 0, 1) := by decide +kernel
theorem dX8_saw_3 : decode cX8_saw 3 = .ok (.ldc2_w 203, 3) := by decide +kernel
theorem dX8_saw_6 : decode cX8_saw 6 = .ok (.invokestatic 67, 3) := by decide +kernel
theorem dX8_saw_9 : decode cX8_saw 9 = .ok (.ifCond .eq 23, 3) := by decide +kernel
theorem dX8_saw_12 : decode cX8_saw 12 = .ok (.aload_n 0, 1) := by decide +kernel
theorem dX8_saw_13 : decode cX8_saw 13 = .ok (.iload_n 2, 1) := by decide +kernel
theorem dX8_saw_14 : decode cX8_saw 14 = .ok (.invokevirtual 175, 3) := by decide +kernel
theorem dX8_saw_17 : decode cX8_saw 17 = .ok (.ifCond .eq 15, 3) := by decide +kernel
theorem dX8_saw_20 : decode cX8_saw 20 = .ok (.iload_n 3, 1) := by decide +kernel
theorem dX8_saw_21 : decode cX8_saw 21 = .ok (.i2l, 1) := by decide +kernel
theorem dX8_saw_22 : decode cX8_saw 22 = .ok (.lconst 0, 1) := by decide +kernel
theorem dX8_saw_23 : decode cX8_saw 23 = .ok (.ldc2_w 211, 3) := by decide +kernel
theorem dX8_saw_26 : decode cX8_saw 26 = .ok (.invokestatic 67, 3) := by decide +kernel
theorem dX8_saw_29 : decode cX8_saw 29 = .ok (.ifCond .ne 5, 3) := by decide +kernel
theorem dX8_saw_32 : decode cX8_saw 32 = .ok (.iconst (-1), 1) := by decide +kernel
theorem dX8_saw_33 : decode cX8_saw 33 = .ok (.ireturn, 1) := by decide +kernel
theorem dX8_saw_34 : decode cX8_saw 34 = .ok (.aload_n 0, 1) := by decide +kernel
theorem dX8_saw_35 : decode cX8_saw 35 = .ok (.getfield 172, 3) := by decide +kernel
theorem dX8_saw_38 : decode cX8_saw 38 = .ok (.bipush 8, 2) := by decide +kernel
theorem dX8_saw_40 : decode cX8_saw 40 = .ok (.if_icmp .ne 6, 3) := by decide +kernel
theorem dX8_saw_43 : decode cX8_saw 43 = .ok (.bipush (-3), 2) := by decide +kernel
theorem dX8_saw_45 : decode cX8_saw 45 = .ok (.ireturn, 1) := by decide +kernel
theorem dX8_saw_46 : decode cX8_saw 46 = .ok (.aload_n 0, 1) := by decide +kernel
theorem dX8_saw_47 : decode cX8_saw 47 = .ok (.getfield 49, 3) := by decide +kernel
theorem dX8_saw_50 : decode cX8_saw 50 = .ok (.aload_n 0, 1) := by decide +kernel
theorem dX8_saw_51 : decode cX8_saw 51 = .ok (.getfield 172, 3) := by decide +kernel
theorem dX8_saw_54 : decode cX8_saw 54 = .ok (.iload_n 1, 1) := by decide +kernel
theorem dX8_saw_55 : decode cX8_saw 55 = .ok (.iastore, 1) := by decide +kernel
theorem dX8_saw_56 : decode cX8_saw 56 = .ok (.aload_n 0, 1) := by decide +kernel
theorem dX8_saw_57 : decode cX8_saw 57 = .ok (.getfield 52, 3) := by decide +kernel
theorem dX8_saw_60 : decode cX8_saw 60 = .ok (.aload_n 0, 1) := by decide +kernel
theorem dX8_saw_61 : decode cX8_saw 61 = .ok (.getfield 172, 3) := by decide +kernel
theorem dX8_saw_64 : decode cX8_saw 64 = .ok (.iload_n 2, 1) := by decide +kernel
theorem dX8_saw_65 : decode cX8_saw 65 = .ok (.iastore, 1) := by decide +kernel
theorem dX8_saw_66 : decode cX8_saw 66 = .ok (.aload_n 0, 1) := by decide +kernel
theorem dX8_saw_67 : decode cX8_saw 67 = .ok (.getfield 55, 3) := by decide +kernel
theorem dX8_saw_70 : decode cX8_saw 70 = .ok (.aload_n 0, 1) := by decide +kernel
theorem dX8_saw_71 : decode cX8_saw 71 = .ok (.getfield 172, 3) := by decide +kernel
theorem dX8_saw_74 : decode cX8_saw 74 = .ok (.iload_n 3, 1) := by decide +kernel
theorem dX8_saw_75 : decode cX8_saw 75 = .ok (.iastore, 1) := by decide +kernel
theorem dX8_saw_76 : decode cX8_saw 76 = .ok (.aload_n 0, 1) := by decide +kernel
theorem dX8_saw_77 : decode cX8_saw 77 = .ok (.dup, 1) := by decide +kernel
theorem dX8_saw_78 : decode cX8_saw 78 = .ok (.getfield 172, 3) := by decide +kernel
theorem dX8_saw_81 : decode cX8_saw 81 = .ok (.iconst 1, 1) := by decide +kernel
theorem dX8_saw_82 : decode cX8_saw 82 = .ok (.iadd, 1) := by decide +kernel
theorem dX8_saw_83 : decode cX8_saw 83 = .ok (.putfield 172, 3) := by decide +kernel
theorem dX8_saw_86 : decode cX8_saw 86 = .ok (.aload_n 0, 1) := by decide +kernel
theorem dX8_saw_87 : decode cX8_saw 87 = .ok (.getfield 172, 3) := by decide +kernel
theorem dX8_saw_90 : decode cX8_saw 90 = .ok (.ireturn, 1) := by decide +kernel
theorem dX8_forget_0 : decode cX8_forget 0 = .ok (.aload_n 0, 1) := by decide +kernel
theorem dX8_forget_1 : decode cX8_forget 1 = .ok (.getfield 172, 3) := by decide +kernel
theorem dX8_forget_4 : decode cX8_forget 4 = .ok (.istore_n 1, 1) := by decide +kernel
theorem dX8_forget_5 : decode cX8_forget 5 = .ok (.aload_n 0, 1) := by decide +kernel
theorem dX8_forget_6 : decode cX8_forget 6 = .ok (.iconst 0, 1) := by decide +kernel
theorem dX8_forget_7 : decode cX8_forget 7 = .ok (.putfield 172, 3) := by decide +kernel
theorem dX8_forget_10 : decode cX8_forget 10 = .ok (.iload_n 1, 1) := by decide +kernel
theorem dX8_forget_11 : decode cX8_forget 11 = .ok (.ireturn, 1) := by decide +kernel
set_option maxRecDepth 20000 in
theorem ggX8_isSo_X8_goes : GoodIn wsX8_isSo wsX8_goes := goodIn_r _ [12, 1, 13, 14, 15, 16, 17, 18, 19, 20, 21, 22, 23, 24, 25, 26, 27, 28, 29, 30, 31, 32, 33, 34, 35, 36, 37, 38, 39, 40, 41, 42, 43, 44, 45, 46, 47, 48, 49, 50] (by decide +kernel) (by decide +kernel)
set_option maxRecDepth 20000 in
theorem gX8_isSo_X8_goes : GoodIn wsX8_isSo (wsV RX8 178 RX8 yX8_goes wsX8_goes) := goodIn_app (goodIn_of _ (by decide +kernel)) ggX8_isSo_X8_goes
theorem dX8_isSo_0 : decode cX8_isSo 0 = .ok (.iconst 0, 1) := by decide +kernel
theorem dX8_isSo_1 : decode cX8_isSo 1 = .ok (.istore_n 1, 1) := by decide +kernel
theorem dX8_isSo_2 : decode cX8_isSo 2 = .ok (.iload_n 1, 1) := by decide +kernel
theorem dX8_isSo_3 : decode cX8_isSo 3 = .ok (.aload_n 0, 1) := by decide +kernel
theorem dX8_isSo_4 : decode cX8_isSo 4 = .ok (.getfield 154, 3) := by decide +kernel
theorem dX8_isSo_7 : decode cX8_isSo 7 = .ok (.if_icmp .ge 21, 3) := by decide +kernel
theorem dX8_isSo_10 : decode cX8_isSo 10 = .ok (.aload_n 0, 1) := by decide +kernel
theorem dX8_isSo_11 : decode cX8_isSo 11 = .ok (.getfield 43, 3) := by decide +kernel
theorem dX8_isSo_14 : decode cX8_isSo 14 = .ok (.iload_n 1, 1) := by decide +kernel
theorem dX8_isSo_15 : decode cX8_isSo 15 = .ok (.aload_n 0, 1) := by decide +kernel
theorem dX8_isSo_16 : decode cX8_isSo 16 = .ok (.getfield 19, 3) := by decide +kernel
theorem dX8_isSo_19 : decode cX8_isSo 19 = .ok (.iload_n 1, 1) := by decide +kernel
theorem dX8_isSo_20 : decode cX8_isSo 20 = .ok (.iaload, 1) := by decide +kernel
theorem dX8_isSo_21 : decode cX8_isSo 21 = .ok (.iastore, 1) := by decide +kernel
theorem dX8_isSo_22 : decode cX8_isSo 22 = .ok (.iinc 1 1, 3) := by decide +kernel
theorem dX8_isSo_25 : decode cX8_isSo 25 = .ok (.goto (-23), 3) := by decide +kernel
theorem dX8_isSo_28 : decode cX8_isSo 28 = .ok (.iconst 0, 1) := by decide +kernel
theorem dX8_isSo_29 : decode cX8_isSo 29 = .ok (.istore_n 1, 1) := by decide +kernel
theorem dX8_isSo_30 : decode cX8_isSo 30 = .ok (.iload_n 1, 1) := by decide +kernel
theorem dX8_isSo_31 : decode cX8_isSo 31 = .ok (.bipush 20, 2) := by decide +kernel
theorem dX8_isSo_33 : decode cX8_isSo 33 = .ok (.if_icmp .gt 69, 3) := by decide +kernel
theorem dX8_isSo_36 : decode cX8_isSo 36 = .ok (.iconst 0, 1) := by decide +kernel
theorem dX8_isSo_37 : decode cX8_isSo 37 = .ok (.istore_n 2, 1) := by decide +kernel
theorem dX8_isSo_38 : decode cX8_isSo 38 = .ok (.iload_n 2, 1) := by decide +kernel
theorem dX8_isSo_39 : decode cX8_isSo 39 = .ok (.aload_n 0, 1) := by decide +kernel
theorem dX8_isSo_40 : decode cX8_isSo 40 = .ok (.getfield 172, 3) := by decide +kernel
theorem dX8_isSo_43 : decode cX8_isSo 43 = .ok (.if_icmp .ge 41, 3) := by decide +kernel
theorem dX8_isSo_46 : decode cX8_isSo 46 = .ok (.aload_n 0, 1) := by decide +kernel
theorem dX8_isSo_47 : decode cX8_isSo 47 = .ok (.getfield 49, 3) := by decide +kernel
theorem dX8_isSo_50 : decode cX8_isSo 50 = .ok (.iload_n 2, 1) := by decide +kernel
theorem dX8_isSo_51 : decode cX8_isSo 51 = .ok (.iaload, 1) := by decide +kernel
theorem dX8_isSo_52 : decode cX8_isSo 52 = .ok (.iload_n 1, 1) := by decide +kernel
theorem dX8_isSo_53 : decode cX8_isSo 53 = .ok (.if_icmp .ne 25, 3) := by decide +kernel
theorem dX8_isSo_56 : decode cX8_isSo 56 = .ok (.aload_n 0, 1) := by decide +kernel
theorem dX8_isSo_57 : decode cX8_isSo 57 = .ok (.getfield 43, 3) := by decide +kernel
theorem dX8_isSo_60 : decode cX8_isSo 60 = .ok (.aload_n 0, 1) := by decide +kernel
theorem dX8_isSo_61 : decode cX8_isSo 61 = .ok (.getfield 52, 3) := by decide +kernel
theorem dX8_isSo_64 : decode cX8_isSo 64 = .ok (.iload_n 2, 1) := by decide +kernel
theorem dX8_isSo_65 : decode cX8_isSo 65 = .ok (.iaload, 1) := by decide +kernel
theorem dX8_isSo_66 : decode cX8_isSo 66 = .ok (.iaload, 1) := by decide +kernel
theorem dX8_isSo_67 : decode cX8_isSo 67 = .ok (.aload_n 0, 1) := by decide +kernel
theorem dX8_isSo_68 : decode cX8_isSo 68 = .ok (.getfield 55, 3) := by decide +kernel
theorem dX8_isSo_71 : decode cX8_isSo 71 = .ok (.iload_n 2, 1) := by decide +kernel
theorem dX8_isSo_72 : decode cX8_isSo 72 = .ok (.iaload, 1) := by decide +kernel
theorem dX8_isSo_73 : decode cX8_isSo 73 = .ok (.if_icmp .eq 5, 3) := by decide +kernel
theorem dX8_isSo_76 : decode cX8_isSo 76 = .ok (.iconst 0, 1) := by decide +kernel
theorem dX8_isSo_77 : decode cX8_isSo 77 = .ok (.ireturn, 1) := by decide +kernel
theorem dX8_isSo_78 : decode cX8_isSo 78 = .ok (.iinc 2 1, 3) := by decide +kernel
theorem dX8_isSo_81 : decode cX8_isSo 81 = .ok (.goto (-43), 3) := by decide +kernel
theorem dX8_isSo_84 : decode cX8_isSo 84 = .ok (.aload_n 0, 1) := by decide +kernel
theorem dX8_isSo_85 : decode cX8_isSo 85 = .ok (.aload_n 0, 1) := by decide +kernel
theorem dX8_isSo_86 : decode cX8_isSo 86 = .ok (.getfield 43, 3) := by decide +kernel
theorem dX8_isSo_89 : decode cX8_isSo 89 = .ok (.iload_n 1, 1) := by decide +kernel
theorem dX8_isSo_90 : decode cX8_isSo 90 = .ok (.iconst 0, 1) := by decide +kernel
theorem dX8_isSo_91 : decode cX8_isSo 91 = .ok (.iconst 0, 1) := by decide +kernel
theorem dX8_isSo_92 : decode cX8_isSo 92 = .ok (.invokevirtual 178, 3) := by decide +kernel
theorem dX8_isSo_95 : decode cX8_isSo 95 = .ok (.pop, 1) := by decide +kernel
theorem dX8_isSo_96 : decode cX8_isSo 96 = .ok (.iinc 1 1, 3) := by decide +kernel
theorem dX8_isSo_99 : decode cX8_isSo 99 = .ok (.goto (-69), 3) := by decide +kernel
theorem dX8_isSo_102 : decode cX8_isSo 102 = .ok (.iconst 1, 1) := by decide +kernel
theorem dX8_isSo_103 : decode cX8_isSo 103 = .ok (.ireturn, 1) := by decide +kernel
set_option maxRecDepth 20000 in
theorem ggX8_hole_X8_isSo : GoodIn wsX8_hole wsX8_isSo := goodIn_r _ [6, 7, 8, 9, 10, 11, 12, 13, 14, 15, 16, 5, 17, 18, 19, 20, 1, 21, 22, 23, 24, 25, 26, 27, 28, 29, 30, 31, 32, 33, 34, 35, 36, 37, 38, 39, 40, 41, 42, 43, 44, 45, 46, 47, 48, 49, 50, 51, 52, 53, 54] (by decide +kernel) (by decide +kernel)
set_option maxRecDepth 20000 in
theorem gX8_hole_X8_isSo : GoodIn wsX8_hole (wsV RX8 213 RX8 yX8_isSo wsX8_isSo) := goodIn_app (goodIn_of _ (by decide +kernel)) ggX8_hole_X8_isSo
theorem dX8_hole_0 : decode cX8_hole 0 = .ok (.aload_n 0, 1) := by decide +kernel
theorem dX8_hole_1 : decode cX8_hole 1 = .ok (.getfield 22, 3) := by decide +kernel
theorem dX8_hole_4 : decode cX8_hole 4 = .ok (.iload_n 1, 1) := by decide +kernel
theorem dX8_hole_5 : decode cX8_hole 5 = .ok (.iaload, 1) := by decide +kernel
theorem dX8_hole_6 : decode cX8_hole 6 = .ok (.istore_n 2, 1) := by decide +kernel
theorem dX8_hole_7 : decode cX8_hole 7 = .ok (.bipush (-9), 2) := by decide +kernel
theorem dX8_hole_9 : decode cX8_hole 9 = .ok (.istore_n 3, 1) := by decide +kernel
theorem dX8_hole_10 : decode cX8_hole 10 = .ok (.iconst 0, 1) := by decide +kernel
theorem dX8_hole_11 : decode cX8_hole 11 = .ok (.istore 4, 2) := by decide +kernel
theorem dX8_hole_13 : decode cX8_hole 13 = .ok (.iload 4, 2) := by decide +kernel
theorem dX8_hole_15 : decode cX8_hole 15 = .ok (.bipush 10, 2) := by decide +kernel
theorem dX8_hole_17 : decode cX8_hole 17 = .ok (.if_icmp .ge 44, 3) := by decide +kernel
theorem dX8_hole_20 : decode cX8_hole 20 = .ok (.iload_n 3, 1) := by decide +kernel
theorem dX8_hole_21 : decode cX8_hole 21 = .ok (.bipush (-9), 2) := by decide +kernel
theorem dX8_hole_23 : decode cX8_hole 23 = .ok (.if_icmp .ne 38, 3) := by decide +kernel
theorem dX8_hole_26 : decode cX8_hole 26 = .ok (.aload_n 0, 1) := by decide +kernel
theorem dX8_hole_27 : decode cX8_hole 27 = .ok (.getfield 22, 3) := by decide +kernel
theorem dX8_hole_30 : decode cX8_hole 30 = .ok (.iload_n 1, 1) := by decide +kernel
theorem dX8_hole_31 : decode cX8_hole 31 = .ok (.iload 4, 2) := by decide +kernel
theorem dX8_hole_33 : decode cX8_hole 33 = .ok (.iastore, 1) := by decide +kernel
theorem dX8_hole_34 : decode cX8_hole 34 = .ok (.iload 4, 2) := by decide +kernel
theorem dX8_hole_36 : decode cX8_hole 36 = .ok (.iload_n 2, 1) := by decide +kernel
theorem dX8_hole_37 : decode cX8_hole 37 = .ok (.if_icmp .eq 15, 3) := by decide +kernel
theorem dX8_hole_40 : decode cX8_hole 40 = .ok (.aload_n 0, 1) := by decide +kernel
theorem dX8_hole_41 : decode cX8_hole 41 = .ok (.invokevirtual 213, 3) := by decide +kernel
theorem dX8_hole_44 : decode cX8_hole 44 = .ok (.ifCond .eq 8, 3) := by decide +kernel
theorem dX8_hole_47 : decode cX8_hole 47 = .ok (.iload 4, 2) := by decide +kernel
theorem dX8_hole_49 : decode cX8_hole 49 = .ok (.goto 5, 3) := by decide +kernel
theorem dX8_hole_52 : decode cX8_hole 52 = .ok (.bipush (-9), 2) := by decide +kernel
theorem dX8_hole_54 : decode cX8_hole 54 = .ok (.istore_n 3, 1) := by decide +kernel
theorem dX8_hole_55 : decode cX8_hole 55 = .ok (.iinc 4 1, 3) := by decide +kernel
theorem dX8_hole_58 : decode cX8_hole 58 = .ok (.goto (-45), 3) := by decide +kernel
theorem dX8_hole_61 : decode cX8_hole 61 = .ok (.aload_n 0, 1) := by decide +kernel
theorem dX8_hole_62 : decode cX8_hole 62 = .ok (.getfield 22, 3) := by decide +kernel
theorem dX8_hole_65 : decode cX8_hole 65 = .ok (.iload_n 1, 1) := by decide +kernel
theorem dX8_hole_66 : decode cX8_hole 66 = .ok (.iload_n 2, 1) := by decide +kernel
theorem dX8_hole_67 : decode cX8_hole 67 = .ok (.iastore, 1) := by decide +kernel
theorem dX8_hole_68 : decode cX8_hole 68 = .ok (.iload_n 3, 1) := by decide +kernel
theorem dX8_hole_69 : decode cX8_hole 69 = .ok (.ireturn, 1) := by decide +kernel
set_option maxRecDepth 20000 in
theorem ggX8_holes_X8_isWall : GoodIn wsX8_holes wsX8_isWall := goodIn_r _ [6, 1, 7, 8, 5, 9, 33, 34, 35, 36, 37, 38, 39, 40, 41, 42, 43, 44, 45, 46, 47, 48, 49, 50, 51, 52, 53, 54, 55, 56, 57, 58, 59, 60, 61, 62, 63, 64, 65] (by decide +kernel) (by decide +kernel)
set_option maxRecDepth 20000 in
theorem gX8_holes_X8_isWall : GoodIn wsX8_holes (wsV RX8 175 RX8 yX8_isWall wsX8_isWall) := goodIn_app (goodIn_of _ (by decide +kernel)) ggX8_holes_X8_isWall
set_option maxRecDepth 20000 in
theorem ggX8_holes_X8_hole : GoodIn wsX8_holes wsX8_hole := goodIn_r _ [13, 14, 15, 16, 17, 5, 18, 1, 19, 20, 21, 22, 23, 24, 25, 26, 27, 28, 29, 30, 31, 32, 33, 34, 35, 36, 37, 38, 39, 40, 41, 42, 43, 44, 45, 46, 47, 48, 49, 50, 51, 52, 53, 54, 55, 56, 57, 58, 59, 60, 61, 62, 63, 64, 65] (by decide +kernel) (by decide +kernel)
set_option maxRecDepth 20000 in
theorem gX8_holes_X8_hole : GoodIn wsX8_holes (wsV RX8 216 RX8 yX8_hole wsX8_hole) := goodIn_app (goodIn_of _ (by decide +kernel)) ggX8_holes_X8_hole
set_option maxRecDepth 20000 in
theorem ggX8_holes_X8_isSo : GoodIn wsX8_holes wsX8_isSo := goodIn_r _ [18, 1, 19, 20, 21, 22, 23, 24, 25, 26, 27, 5, 28, 29, 30, 31, 14, 32, 33, 34, 35, 36, 37, 38, 39, 40, 41, 42, 43, 44, 45, 46, 47, 48, 49, 50, 51, 52, 53, 54, 55, 56, 57, 58, 59, 60, 61, 62, 63, 64, 65] (by decide +kernel) (by decide +kernel)
set_option maxRecDepth 20000 in
theorem gX8_holes_X8_isSo : GoodIn wsX8_holes (wsV RX8 213 RX8 yX8_isSo wsX8_isSo) := goodIn_app (goodIn_of _ (by decide +kernel)) ggX8_holes_X8_isSo
theorem dX8_holes_0 : decode cX8_holes 0 = .ok (.iload_n 1, 1) := by decide +kernel
theorem dX8_holes_1 : decode cX8_holes 1 = .ok (.iconst (-1), 1) := by decide +kernel
theorem dX8_holes_2 : decode cX8_holes 2 = .ok (.if_icmp .eq 13, 3) := by decide +kernel
theorem dX8_holes_5 : decode cX8_holes 5 = .ok (.aload_n 0, 1) := by decide +kernel
theorem dX8_holes_6 : decode cX8_holes 6 = .ok (.iload_n 1, 1) := by decide +kernel
theorem dX8_holes_7 : decode cX8_holes 7 = .ok (.invokevirtual 175, 3) := by decide +kernel
theorem dX8_holes_10 : decode cX8_holes 10 = .ok (.ifCond .ne 5, 3) := by decide +kernel
theorem dX8_holes_13 : decode cX8_holes 13 = .ok (.iconst (-1), 1) := by decide +kernel
theorem dX8_holes_14 : decode cX8_holes 14 = .ok (.ireturn, 1) := by decide +kernel
theorem dX8_holes_15 : decode cX8_holes 15 = .ok (.iload_n 1, 1) := by decide +kernel
theorem dX8_holes_16 : decode cX8_holes 16 = .ok (.ifCond .lt 9, 3) := by decide +kernel
theorem dX8_holes_19 : decode cX8_holes 19 = .ok (.aload_n 0, 1) := by decide +kernel
theorem dX8_holes_20 : decode cX8_holes 20 = .ok (.iload_n 1, 1) := by decide +kernel
theorem dX8_holes_21 : decode cX8_holes 21 = .ok (.invokevirtual 216, 3) := by decide +kernel
theorem dX8_holes_24 : decode cX8_holes 24 = .ok (.ireturn, 1) := by decide +kernel
theorem dX8_holes_25 : decode cX8_holes 25 = .ok (.aload_n 0, 1) := by decide +kernel
theorem dX8_holes_26 : decode cX8_holes 26 = .ok (.invokevirtual 213, 3) := by decide +kernel
theorem dX8_holes_29 : decode cX8_holes 29 = .ok (.ifCond .eq 8, 3) := by decide +kernel
theorem dX8_holes_32 : decode cX8_holes 32 = .ok (.bipush 64, 2) := by decide +kernel
theorem dX8_holes_34 : decode cX8_holes 34 = .ok (.goto 4, 3) := by decide +kernel
theorem dX8_holes_37 : decode cX8_holes 37 = .ok (.iconst 0, 1) := by decide +kernel
theorem dX8_holes_38 : decode cX8_holes 38 = .ok (.istore_n 2, 1) := by decide +kernel
theorem dX8_holes_39 : decode cX8_holes 39 = .ok (.iconst 0, 1) := by decide +kernel
theorem dX8_holes_40 : decode cX8_holes 40 = .ok (.istore_n 3, 1) := by decide +kernel
theorem dX8_holes_41 : decode cX8_holes 41 = .ok (.iload_n 3, 1) := by decide +kernel
theorem dX8_holes_42 : decode cX8_holes 42 = .ok (.aload_n 0, 1) := by decide +kernel
theorem dX8_holes_43 : decode cX8_holes 43 = .ok (.getfield 154, 3) := by decide +kernel
theorem dX8_holes_46 : decode cX8_holes 46 = .ok (.if_icmp .ge 29, 3) := by decide +kernel
theorem dX8_holes_49 : decode cX8_holes 49 = .ok (.iload_n 2, 1) := by decide +kernel
theorem dX8_holes_50 : decode cX8_holes 50 = .ok (.aload_n 0, 1) := by decide +kernel
theorem dX8_holes_51 : decode cX8_holes 51 = .ok (.iload_n 3, 1) := by decide +kernel
theorem dX8_holes_52 : decode cX8_holes 52 = .ok (.invokevirtual 216, 3) := by decide +kernel
theorem dX8_holes_55 : decode cX8_holes 55 = .ok (.bipush (-9), 2) := by decide +kernel
theorem dX8_holes_57 : decode cX8_holes 57 = .ok (.if_icmp .ne 7, 3) := by decide +kernel
theorem dX8_holes_60 : decode cX8_holes 60 = .ok (.iconst 0, 1) := by decide +kernel
theorem dX8_holes_61 : decode cX8_holes 61 = .ok (.goto 6, 3) := by decide +kernel
theorem dX8_holes_64 : decode cX8_holes 64 = .ok (.iconst 1, 1) := by decide +kernel
theorem dX8_holes_65 : decode cX8_holes 65 = .ok (.iload_n 3, 1) := by decide +kernel
theorem dX8_holes_66 : decode cX8_holes 66 = .ok (.ishl, 1) := by decide +kernel
theorem dX8_holes_67 : decode cX8_holes 67 = .ok (.ior, 1) := by decide +kernel
theorem dX8_holes_68 : decode cX8_holes 68 = .ok (.istore_n 2, 1) := by decide +kernel
theorem dX8_holes_69 : decode cX8_holes 69 = .ok (.iinc 3 1, 3) := by decide +kernel
theorem dX8_holes_72 : decode cX8_holes 72 = .ok (.goto (-31), 3) := by decide +kernel
theorem dX8_holes_75 : decode cX8_holes 75 = .ok (.iload_n 2, 1) := by decide +kernel
theorem dX8_holes_76 : decode cX8_holes 76 = .ok (.ireturn, 1) := by decide +kernel
set_option maxRecDepth 20000 in
theorem ggX8_mark_X8_in : GoodIn wsX8_mark wsX8_in := goodIn_r _ [16] (by decide +kernel) (by decide +kernel)
set_option maxRecDepth 20000 in
theorem gX8_mark_X8_in : GoodIn wsX8_mark (va_wsS RX8 67 yX8_in wsX8_in) := goodIn_app (goodIn_of _ (by decide +kernel)) ggX8_mark_X8_in
set_option maxRecDepth 20000 in
theorem ggX8_mark_X8_isWall : GoodIn wsX8_mark wsX8_isWall := goodIn_r _ [20, 21, 13, 14, 15, 16, 26, 27, 28, 29, 30, 31, 32, 33, 34, 35, 36, 37, 38, 39, 40, 41, 42, 43, 44, 45, 46, 47, 48, 49, 50, 51, 52, 53, 54, 55, 56, 57, 58] (by decide +kernel) (by decide +kernel)
set_option maxRecDepth 20000 in
theorem gX8_mark_X8_isWall : GoodIn wsX8_mark (wsV RX8 175 RX8 yX8_isWall wsX8_isWall) := goodIn_app (goodIn_of _ (by decide +kernel)) ggX8_mark_X8_isWall
set_option maxRecDepth 20000 in
theorem ggX8_mark_X8_seen : GoodIn wsX8_mark wsX8_seen := goodIn_r _ [25] (by decide +kernel) (by decide +kernel)
set_option maxRecDepth 20000 in
theorem gX8_mark_X8_seen : GoodIn wsX8_mark (wsV RX8 131 RX8 yX8_seen wsX8_seen) := goodIn_app (goodIn_of _ (by decide +kernel)) ggX8_mark_X8_seen
theorem dX8_mark_0 : decode cX8_mark 0 = .ok (.iload_n 1, 1) := by decide +kernel
theorem dX8_mark_1 : decode cX8_mark 1 = .ok (.i2l, 1) := by decide +kernel
theorem dX8_mark_2 : decode cX8_mark 2 = .ok (.lconst 0, 1) := by decide +kernel
theorem dX8_mark_3 : decode cX8_mark 3 = .ok (.ldc2_w 219, 3) := by decide +kernel
theorem dX8_mark_6 : decode cX8_mark 6 = .ok (.invokestatic 67, 3) := by decide +kernel
theorem dX8_mark_9 : decode cX8_mark 9 = .ok (.ifCond .eq 11, 3) := by decide +kernel
theorem dX8_mark_12 : decode cX8_mark 12 = .ok (.aload_n 0, 1) := by decide +kernel
theorem dX8_mark_13 : decode cX8_mark 13 = .ok (.iload_n 2, 1) := by decide +kernel
theorem dX8_mark_14 : decode cX8_mark 14 = .ok (.invokevirtual 175, 3) := by decide +kernel
theorem dX8_mark_17 : decode cX8_mark 17 = .ok (.ifCond .ne 6, 3) := by decide +kernel
theorem dX8_mark_20 : decode cX8_mark 20 = .ok (.ldc 207, 2) := by decide +kernel
theorem dX8_mark_22 : decode cX8_mark 22 = .ok (.ireturn, 1) := by decide +kernel
theorem dX8_mark_23 : decode cX8_mark 23 = .ok (.aload_n 0, 1) := by decide +kernel
theorem dX8_mark_24 : decode cX8_mark 24 = .ok (.dup, 1) := by decide +kernel
theorem dX8_mark_25 : decode cX8_mark 25 = .ok (.getfield 221, 3) := by decide +kernel
theorem dX8_mark_28 : decode cX8_mark 28 = .ok (.iload_n 1, 1) := by decide +kernel
theorem dX8_mark_29 : decode cX8_mark 29 = .ok (.ifCond .ne 7, 3) := by decide +kernel
theorem dX8_mark_32 : decode cX8_mark 32 = .ok (.lconst 1, 1) := by decide +kernel
theorem dX8_mark_33 : decode cX8_mark 33 = .ok (.goto 50, 3) := by decide +kernel
theorem dX8_mark_36 : decode cX8_mark 36 = .ok (.iload_n 1, 1) := by decide +kernel
theorem dX8_mark_37 : decode cX8_mark 37 = .ok (.iconst 1, 1) := by decide +kernel
theorem dX8_mark_38 : decode cX8_mark 38 = .ok (.if_icmp .ne 9, 3) := by decide +kernel
theorem dX8_mark_41 : decode cX8_mark 41 = .ok (.ldc2_w 225, 3) := by decide +kernel
theorem dX8_mark_44 : decode cX8_mark 44 = .ok (.goto 39, 3) := by decide +kernel
theorem dX8_mark_47 : decode cX8_mark 47 = .ok (.iload_n 1, 1) := by decide +kernel
theorem dX8_mark_48 : decode cX8_mark 48 = .ok (.iconst 2, 1) := by decide +kernel
theorem dX8_mark_49 : decode cX8_mark 49 = .ok (.if_icmp .ne 9, 3) := by decide +kernel
theorem dX8_mark_52 : decode cX8_mark 52 = .ok (.ldc2_w 227, 3) := by decide +kernel
theorem dX8_mark_55 : decode cX8_mark 55 = .ok (.goto 28, 3) := by decide +kernel
theorem dX8_mark_58 : decode cX8_mark 58 = .ok (.iload_n 1, 1) := by decide +kernel
theorem dX8_mark_59 : decode cX8_mark 59 = .ok (.iconst 3, 1) := by decide +kernel
theorem dX8_mark_60 : decode cX8_mark 60 = .ok (.if_icmp .ne 9, 3) := by decide +kernel
theorem dX8_mark_63 : decode cX8_mark 63 = .ok (.ldc2_w 229, 3) := by decide +kernel
theorem dX8_mark_66 : decode cX8_mark 66 = .ok (.goto 17, 3) := by decide +kernel
theorem dX8_mark_69 : decode cX8_mark 69 = .ok (.iload_n 1, 1) := by decide +kernel
theorem dX8_mark_70 : decode cX8_mark 70 = .ok (.iconst 4, 1) := by decide +kernel
theorem dX8_mark_71 : decode cX8_mark 71 = .ok (.if_icmp .ne 9, 3) := by decide +kernel
theorem dX8_mark_74 : decode cX8_mark 74 = .ok (.ldc2_w 231, 3) := by decide +kernel
theorem dX8_mark_77 : decode cX8_mark 77 = .ok (.goto 6, 3) := by decide +kernel
theorem dX8_mark_80 : decode cX8_mark 80 = .ok (.ldc2_w 233, 3) := by decide +kernel
theorem dX8_mark_83 : decode cX8_mark 83 = .ok (.ladd, 1) := by decide +kernel
theorem dX8_mark_84 : decode cX8_mark 84 = .ok (.putfield 221, 3) := by decide +kernel
theorem dX8_mark_87 : decode cX8_mark 87 = .ok (.bipush 10, 2) := by decide +kernel
theorem dX8_mark_89 : decode cX8_mark 89 = .ok (.aload_n 0, 1) := by decide +kernel
theorem dX8_mark_90 : decode cX8_mark 90 = .ok (.aload_n 0, 1) := by decide +kernel
theorem dX8_mark_91 : decode cX8_mark 91 = .ok (.getfield 31, 3) := by decide +kernel
theorem dX8_mark_94 : decode cX8_mark 94 = .ok (.iload_n 2, 1) := by decide +kernel
theorem dX8_mark_95 : decode cX8_mark 95 = .ok (.invokevirtual 131, 3) := by decide +kernel
theorem dX8_mark_98 : decode cX8_mark 98 = .ok (.isub, 1) := by decide +kernel
theorem dX8_mark_99 : decode cX8_mark 99 = .ok (.istore_n 3, 1) := by decide +kernel
theorem dX8_mark_100 : decode cX8_mark 100 = .ok (.iload_n 1, 1) := by decide +kernel
theorem dX8_mark_101 : decode cX8_mark 101 = .ok (.tableswitch 92 0 4 #[35, 42, 56, 65, 81], 35) := by decide +kernel
theorem dX8_mark_136 : decode cX8_mark 136 = .ok (.aload_n 0, 1) := by decide +kernel
theorem dX8_mark_137 : decode cX8_mark 137 = .ok (.getfield 34, 3) := by decide +kernel
theorem dX8_mark_140 : decode cX8_mark 140 = .ok (.iload_n 2, 1) := by decide +kernel
theorem dX8_mark_141 : decode cX8_mark 141 = .ok (.iaload, 1) := by decide +kernel
theorem dX8_mark_142 : decode cX8_mark 142 = .ok (.ireturn, 1) := by decide +kernel
theorem dX8_mark_143 : decode cX8_mark 143 = .ok (.aload_n 0, 1) := by decide +kernel
theorem dX8_mark_144 : decode cX8_mark 144 = .ok (.getfield 34, 3) := by decide +kernel
theorem dX8_mark_147 : decode cX8_mark 147 = .ok (.iload_n 2, 1) := by decide +kernel
theorem dX8_mark_148 : decode cX8_mark 148 = .ok (.iaload, 1) := by decide +kernel
theorem dX8_mark_149 : decode cX8_mark 149 = .ok (.aload_n 0, 1) := by decide +kernel
theorem dX8_mark_150 : decode cX8_mark 150 = .ok (.getfield 22, 3) := by decide +kernel
theorem dX8_mark_153 : decode cX8_mark 153 = .ok (.iload_n 2, 1) := by decide +kernel
theorem dX8_mark_154 : decode cX8_mark 154 = .ok (.iaload, 1) := by decide +kernel
theorem dX8_mark_155 : decode cX8_mark 155 = .ok (.iadd, 1) := by decide +kernel
theorem dX8_mark_156 : decode cX8_mark 156 = .ok (.ireturn, 1) := by decide +kernel
theorem dX8_mark_157 : decode cX8_mark 157 = .ok (.aload_n 0, 1) := by decide +kernel
theorem dX8_mark_158 : decode cX8_mark 158 = .ok (.getfield 34, 3) := by decide +kernel
theorem dX8_mark_161 : decode cX8_mark 161 = .ok (.iload_n 2, 1) := by decide +kernel
theorem dX8_mark_162 : decode cX8_mark 162 = .ok (.iaload, 1) := by decide +kernel
theorem dX8_mark_163 : decode cX8_mark 163 = .ok (.iload_n 3, 1) := by decide +kernel
theorem dX8_mark_164 : decode cX8_mark 164 = .ok (.isub, 1) := by decide +kernel
theorem dX8_mark_165 : decode cX8_mark 165 = .ok (.ireturn, 1) := by decide +kernel
theorem dX8_mark_166 : decode cX8_mark 166 = .ok (.iconst 2, 1) := by decide +kernel
theorem dX8_mark_167 : decode cX8_mark 167 = .ok (.aload_n 0, 1) := by decide +kernel
theorem dX8_mark_168 : decode cX8_mark 168 = .ok (.getfield 34, 3) := by decide +kernel
theorem dX8_mark_171 : decode cX8_mark 171 = .ok (.iload_n 2, 1) := by decide +kernel
theorem dX8_mark_172 : decode cX8_mark 172 = .ok (.iaload, 1) := by decide +kernel
theorem dX8_mark_173 : decode cX8_mark 173 = .ok (.aload_n 0, 1) := by decide +kernel
theorem dX8_mark_174 : decode cX8_mark 174 = .ok (.getfield 22, 3) := by decide +kernel
theorem dX8_mark_177 : decode cX8_mark 177 = .ok (.iload_n 2, 1) := by decide +kernel
theorem dX8_mark_178 : decode cX8_mark 178 = .ok (.iaload, 1) := by decide +kernel
theorem dX8_mark_179 : decode cX8_mark 179 = .ok (.iadd, 1) := by decide +kernel
theorem dX8_mark_180 : decode cX8_mark 180 = .ok (.imul, 1) := by decide +kernel
theorem dX8_mark_181 : decode cX8_mark 181 = .ok (.ireturn, 1) := by decide +kernel
theorem dX8_mark_182 : decode cX8_mark 182 = .ok (.aload_n 0, 1) := by decide +kernel
theorem dX8_mark_183 : decode cX8_mark 183 = .ok (.getfield 34, 3) := by decide +kernel
theorem dX8_mark_186 : decode cX8_mark 186 = .ok (.iload_n 2, 1) := by decide +kernel
theorem dX8_mark_187 : decode cX8_mark 187 = .ok (.iaload, 1) := by decide +kernel
theorem dX8_mark_188 : decode cX8_mark 188 = .ok (.iload_n 3, 1) := by decide +kernel
theorem dX8_mark_189 : decode cX8_mark 189 = .ok (.isub, 1) := by decide +kernel
theorem dX8_mark_190 : decode cX8_mark 190 = .ok (.iload_n 2, 1) := by decide +kernel
theorem dX8_mark_191 : decode cX8_mark 191 = .ok (.iadd, 1) := by decide +kernel
theorem dX8_mark_192 : decode cX8_mark 192 = .ok (.ireturn, 1) := by decide +kernel
theorem dX8_mark_193 : decode cX8_mark 193 = .ok (.aload_n 0, 1) := by decide +kernel
theorem dX8_mark_194 : decode cX8_mark 194 = .ok (.getfield 34, 3) := by decide +kernel
theorem dX8_mark_197 : decode cX8_mark 197 = .ok (.iload_n 2, 1) := by decide +kernel
theorem dX8_mark_198 : decode cX8_mark 198 = .ok (.iaload, 1) := by decide +kernel
theorem dX8_mark_199 : decode cX8_mark 199 = .ok (.aload_n 0, 1) := by decide +kernel
theorem dX8_mark_200 : decode cX8_mark 200 = .ok (.getfield 157, 3) := by decide +kernel
theorem dX8_mark_203 : decode cX8_mark 203 = .ok (.iadd, 1) := by decide +kernel
theorem dX8_mark_204 : decode cX8_mark 204 = .ok (.ireturn, 1) := by decide +kernel
theorem dX8_trace_0 : decode cX8_trace 0 = .ok (.aload_n 0, 1) := by decide +kernel
theorem dX8_trace_1 : decode cX8_trace 1 = .ok (.getfield 221, 3) := by decide +kernel
theorem dX8_trace_4 : decode cX8_trace 4 = .ok (.lreturn, 1) := by decide +kernel
set_option maxRecDepth 20000 in
theorem ggX8_keep_X8_in : GoodIn wsX8_keep wsX8_in := goodIn_r _ [12] (by decide +kernel) (by decide +kernel)
set_option maxRecDepth 20000 in
theorem gX8_keep_X8_in : GoodIn wsX8_keep (va_wsS RX8 67 yX8_in wsX8_in) := goodIn_app (goodIn_of _ (by decide +kernel)) ggX8_keep_X8_in
theorem dX8_keep_0 : decode cX8_keep 0 = .ok (.iload_n 1, 1) := by decide +kernel
theorem dX8_keep_1 : decode cX8_keep 1 = .ok (.i2l, 1) := by decide +kernel
theorem dX8_keep_2 : decode cX8_keep 2 = .ok (.lconst 0, 1) := by decide +kernel
theorem dX8_keep_3 : decode cX8_keep 3 = .ok (.lconst 1, 1) := by decide +kernel
theorem dX8_keep_4 : decode cX8_keep 4 = .ok (.invokestatic 67, 3) := by decide +kernel
theorem dX8_keep_7 : decode cX8_keep 7 = .ok (.ifCond .ne 5, 3) := by decide +kernel
theorem dX8_keep_10 : decode cX8_keep 10 = .ok (.iconst (-1), 1) := by decide +kernel
theorem dX8_keep_11 : decode cX8_keep 11 = .ok (.ireturn, 1) := by decide +kernel
theorem dX8_keep_12 : decode cX8_keep 12 = .ok (.bipush 21, 2) := by decide +kernel
theorem dX8_keep_14 : decode cX8_keep 14 = .ok (.iload_n 1, 1) := by decide +kernel
theorem dX8_keep_15 : decode cX8_keep 15 = .ok (.imul, 1) := by decide +kernel
theorem dX8_keep_16 : decode cX8_keep 16 = .ok (.istore_n 2, 1) := by decide +kernel
theorem dX8_keep_17 : decode cX8_keep 17 = .ok (.aload_n 0, 1) := by decide +kernel
theorem dX8_keep_18 : decode cX8_keep 18 = .ok (.getfield 58, 3) := by decide +kernel
theorem dX8_keep_21 : decode cX8_keep 21 = .ok (.iload_n 2, 1) := by decide +kernel
theorem dX8_keep_22 : decode cX8_keep 22 = .ok (.aload_n 0, 1) := by decide +kernel
theorem dX8_keep_23 : decode cX8_keep 23 = .ok (.getfield 157, 3) := by decide +kernel
theorem dX8_keep_26 : decode cX8_keep 26 = .ok (.iastore, 1) := by decide +kernel
theorem dX8_keep_27 : decode cX8_keep 27 = .ok (.aload_n 0, 1) := by decide +kernel
theorem dX8_keep_28 : decode cX8_keep 28 = .ok (.getfield 58, 3) := by decide +kernel
theorem dX8_keep_31 : decode cX8_keep 31 = .ok (.iload_n 2, 1) := by decide +kernel
theorem dX8_keep_32 : decode cX8_keep 32 = .ok (.iconst 1, 1) := by decide +kernel
theorem dX8_keep_33 : decode cX8_keep 33 = .ok (.iadd, 1) := by decide +kernel
theorem dX8_keep_34 : decode cX8_keep 34 = .ok (.aload_n 0, 1) := by decide +kernel
theorem dX8_keep_35 : decode cX8_keep 35 = .ok (.getfield 160, 3) := by decide +kernel
theorem dX8_keep_38 : decode cX8_keep 38 = .ok (.iastore, 1) := by decide +kernel
theorem dX8_keep_39 : decode cX8_keep 39 = .ok (.aload_n 0, 1) := by decide +kernel
theorem dX8_keep_40 : decode cX8_keep 40 = .ok (.getfield 58, 3) := by decide +kernel
theorem dX8_keep_43 : decode cX8_keep 43 = .ok (.iload_n 2, 1) := by decide +kernel
theorem dX8_keep_44 : decode cX8_keep 44 = .ok (.iconst 2, 1) := by decide +kernel
theorem dX8_keep_45 : decode cX8_keep 45 = .ok (.iadd, 1) := by decide +kernel
theorem dX8_keep_46 : decode cX8_keep 46 = .ok (.aload_n 0, 1) := by decide +kernel
theorem dX8_keep_47 : decode cX8_keep 47 = .ok (.getfield 163, 3) := by decide +kernel
theorem dX8_keep_50 : decode cX8_keep 50 = .ok (.iastore, 1) := by decide +kernel
theorem dX8_keep_51 : decode cX8_keep 51 = .ok (.aload_n 0, 1) := by decide +kernel
theorem dX8_keep_52 : decode cX8_keep 52 = .ok (.getfield 58, 3) := by decide +kernel
theorem dX8_keep_55 : decode cX8_keep 55 = .ok (.iload_n 2, 1) := by decide +kernel
theorem dX8_keep_56 : decode cX8_keep 56 = .ok (.iconst 3, 1) := by decide +kernel
theorem dX8_keep_57 : decode cX8_keep 57 = .ok (.iadd, 1) := by decide +kernel
theorem dX8_keep_58 : decode cX8_keep 58 = .ok (.aload_n 0, 1) := by decide +kernel
theorem dX8_keep_59 : decode cX8_keep 59 = .ok (.getfield 166, 3) := by decide +kernel
theorem dX8_keep_62 : decode cX8_keep 62 = .ok (.iastore, 1) := by decide +kernel
theorem dX8_keep_63 : decode cX8_keep 63 = .ok (.aload_n 0, 1) := by decide +kernel
theorem dX8_keep_64 : decode cX8_keep 64 = .ok (.getfield 58, 3) := by decide +kernel
theorem dX8_keep_67 : decode cX8_keep 67 = .ok (.iload_n 2, 1) := by decide +kernel
theorem dX8_keep_68 : decode cX8_keep 68 = .ok (.iconst 4, 1) := by decide +kernel
theorem dX8_keep_69 : decode cX8_keep 69 = .ok (.iadd, 1) := by decide +kernel
theorem dX8_keep_70 : decode cX8_keep 70 = .ok (.aload_n 0, 1) := by decide +kernel
theorem dX8_keep_71 : decode cX8_keep 71 = .ok (.getfield 169, 3) := by decide +kernel
theorem dX8_keep_74 : decode cX8_keep 74 = .ok (.iastore, 1) := by decide +kernel
theorem dX8_keep_75 : decode cX8_keep 75 = .ok (.iconst 0, 1) := by decide +kernel
theorem dX8_keep_76 : decode cX8_keep 76 = .ok (.istore_n 3, 1) := by decide +kernel
theorem dX8_keep_77 : decode cX8_keep 77 = .ok (.iload_n 3, 1) := by decide +kernel
theorem dX8_keep_78 : decode cX8_keep 78 = .ok (.bipush 6, 2) := by decide +kernel
theorem dX8_keep_80 : decode cX8_keep 80 = .ok (.if_icmp .ge 25, 3) := by decide +kernel
theorem dX8_keep_83 : decode cX8_keep 83 = .ok (.aload_n 0, 1) := by decide +kernel
theorem dX8_keep_84 : decode cX8_keep 84 = .ok (.getfield 58, 3) := by decide +kernel
theorem dX8_keep_87 : decode cX8_keep 87 = .ok (.iload_n 2, 1) := by decide +kernel
theorem dX8_keep_88 : decode cX8_keep 88 = .ok (.iconst 5, 1) := by decide +kernel
theorem dX8_keep_89 : decode cX8_keep 89 = .ok (.iadd, 1) := by decide +kernel
theorem dX8_keep_90 : decode cX8_keep 90 = .ok (.iload_n 3, 1) := by decide +kernel
theorem dX8_keep_91 : decode cX8_keep 91 = .ok (.iadd, 1) := by decide +kernel
theorem dX8_keep_92 : decode cX8_keep 92 = .ok (.aload_n 0, 1) := by decide +kernel
theorem dX8_keep_93 : decode cX8_keep 93 = .ok (.getfield 34, 3) := by decide +kernel
theorem dX8_keep_96 : decode cX8_keep 96 = .ok (.iload_n 3, 1) := by decide +kernel
theorem dX8_keep_97 : decode cX8_keep 97 = .ok (.iaload, 1) := by decide +kernel
theorem dX8_keep_98 : decode cX8_keep 98 = .ok (.iastore, 1) := by decide +kernel
theorem dX8_keep_99 : decode cX8_keep 99 = .ok (.iinc 3 1, 3) := by decide +kernel
theorem dX8_keep_102 : decode cX8_keep 102 = .ok (.goto (-25), 3) := by decide +kernel
theorem dX8_keep_105 : decode cX8_keep 105 = .ok (.iconst 0, 1) := by decide +kernel
theorem dX8_keep_106 : decode cX8_keep 106 = .ok (.istore_n 3, 1) := by decide +kernel
theorem dX8_keep_107 : decode cX8_keep 107 = .ok (.iload_n 3, 1) := by decide +kernel
theorem dX8_keep_108 : decode cX8_keep 108 = .ok (.bipush 10, 2) := by decide +kernel
theorem dX8_keep_110 : decode cX8_keep 110 = .ok (.if_icmp .ge 26, 3) := by decide +kernel
theorem dX8_keep_113 : decode cX8_keep 113 = .ok (.aload_n 0, 1) := by decide +kernel
theorem dX8_keep_114 : decode cX8_keep 114 = .ok (.getfield 58, 3) := by decide +kernel
theorem dX8_keep_117 : decode cX8_keep 117 = .ok (.iload_n 2, 1) := by decide +kernel
theorem dX8_keep_118 : decode cX8_keep 118 = .ok (.bipush 11, 2) := by decide +kernel
theorem dX8_keep_120 : decode cX8_keep 120 = .ok (.iadd, 1) := by decide +kernel
theorem dX8_keep_121 : decode cX8_keep 121 = .ok (.iload_n 3, 1) := by decide +kernel
theorem dX8_keep_122 : decode cX8_keep 122 = .ok (.iadd, 1) := by decide +kernel
theorem dX8_keep_123 : decode cX8_keep 123 = .ok (.aload_n 0, 1) := by decide +kernel
theorem dX8_keep_124 : decode cX8_keep 124 = .ok (.getfield 40, 3) := by decide +kernel
theorem dX8_keep_127 : decode cX8_keep 127 = .ok (.iload_n 3, 1) := by decide +kernel
theorem dX8_keep_128 : decode cX8_keep 128 = .ok (.iaload, 1) := by decide +kernel
theorem dX8_keep_129 : decode cX8_keep 129 = .ok (.iastore, 1) := by decide +kernel
theorem dX8_keep_130 : decode cX8_keep 130 = .ok (.iinc 3 1, 3) := by decide +kernel
theorem dX8_keep_133 : decode cX8_keep 133 = .ok (.goto (-26), 3) := by decide +kernel
theorem dX8_keep_136 : decode cX8_keep 136 = .ok (.aload_n 0, 1) := by decide +kernel
theorem dX8_keep_137 : decode cX8_keep 137 = .ok (.getfield 157, 3) := by decide +kernel
theorem dX8_keep_140 : decode cX8_keep 140 = .ok (.ireturn, 1) := by decide +kernel
set_option maxRecDepth 20000 in
theorem ggX8_back_X8_in : GoodIn wsX8_back wsX8_in := goodIn_r _ [12] (by decide +kernel) (by decide +kernel)
set_option maxRecDepth 20000 in
theorem gX8_back_X8_in : GoodIn wsX8_back (va_wsS RX8 67 yX8_in wsX8_in) := goodIn_app (goodIn_of _ (by decide +kernel)) ggX8_back_X8_in
theorem dX8_back_0 : decode cX8_back 0 = .ok (.iload_n 1, 1) := by decide +kernel
theorem dX8_back_1 : decode cX8_back 1 = .ok (.i2l, 1) := by decide +kernel
theorem dX8_back_2 : decode cX8_back 2 = .ok (.lconst 0, 1) := by decide +kernel
theorem dX8_back_3 : decode cX8_back 3 = .ok (.lconst 1, 1) := by decide +kernel
theorem dX8_back_4 : decode cX8_back 4 = .ok (.invokestatic 67, 3) := by decide +kernel
theorem dX8_back_7 : decode cX8_back 7 = .ok (.ifCond .ne 5, 3) := by decide +kernel
theorem dX8_back_10 : decode cX8_back 10 = .ok (.iconst (-1), 1) := by decide +kernel
theorem dX8_back_11 : decode cX8_back 11 = .ok (.ireturn, 1) := by decide +kernel
theorem dX8_back_12 : decode cX8_back 12 = .ok (.bipush 21, 2) := by decide +kernel
theorem dX8_back_14 : decode cX8_back 14 = .ok (.iload_n 1, 1) := by decide +kernel
theorem dX8_back_15 : decode cX8_back 15 = .ok (.imul, 1) := by decide +kernel
theorem dX8_back_16 : decode cX8_back 16 = .ok (.istore_n 2, 1) := by decide +kernel
theorem dX8_back_17 : decode cX8_back 17 = .ok (.aload_n 0, 1) := by decide +kernel
theorem dX8_back_18 : decode cX8_back 18 = .ok (.getfield 58, 3) := by decide +kernel
theorem dX8_back_21 : decode cX8_back 21 = .ok (.iload_n 2, 1) := by decide +kernel
theorem dX8_back_22 : decode cX8_back 22 = .ok (.iaload, 1) := by decide +kernel
theorem dX8_back_23 : decode cX8_back 23 = .ok (.ifCond .ge 6, 3) := by decide +kernel
theorem dX8_back_26 : decode cX8_back 26 = .ok (.bipush (-2), 2) := by decide +kernel
theorem dX8_back_28 : decode cX8_back 28 = .ok (.ireturn, 1) := by decide +kernel
theorem dX8_back_29 : decode cX8_back 29 = .ok (.aload_n 0, 1) := by decide +kernel
theorem dX8_back_30 : decode cX8_back 30 = .ok (.aload_n 0, 1) := by decide +kernel
theorem dX8_back_31 : decode cX8_back 31 = .ok (.getfield 58, 3) := by decide +kernel
theorem dX8_back_34 : decode cX8_back 34 = .ok (.iload_n 2, 1) := by decide +kernel
theorem dX8_back_35 : decode cX8_back 35 = .ok (.iaload, 1) := by decide +kernel
theorem dX8_back_36 : decode cX8_back 36 = .ok (.putfield 157, 3) := by decide +kernel
theorem dX8_back_39 : decode cX8_back 39 = .ok (.aload_n 0, 1) := by decide +kernel
theorem dX8_back_40 : decode cX8_back 40 = .ok (.aload_n 0, 1) := by decide +kernel
theorem dX8_back_41 : decode cX8_back 41 = .ok (.getfield 58, 3) := by decide +kernel
theorem dX8_back_44 : decode cX8_back 44 = .ok (.iload_n 2, 1) := by decide +kernel
theorem dX8_back_45 : decode cX8_back 45 = .ok (.iconst 1, 1) := by decide +kernel
theorem dX8_back_46 : decode cX8_back 46 = .ok (.iadd, 1) := by decide +kernel
theorem dX8_back_47 : decode cX8_back 47 = .ok (.iaload, 1) := by decide +kernel
theorem dX8_back_48 : decode cX8_back 48 = .ok (.putfield 160, 3) := by decide +kernel
theorem dX8_back_51 : decode cX8_back 51 = .ok (.aload_n 0, 1) := by decide +kernel
theorem dX8_back_52 : decode cX8_back 52 = .ok (.aload_n 0, 1) := by decide +kernel
theorem dX8_back_53 : decode cX8_back 53 = .ok (.getfield 58, 3) := by decide +kernel
theorem dX8_back_56 : decode cX8_back 56 = .ok (.iload_n 2, 1) := by decide +kernel
theorem dX8_back_57 : decode cX8_back 57 = .ok (.iconst 2, 1) := by decide +kernel
theorem dX8_back_58 : decode cX8_back 58 = .ok (.iadd, 1) := by decide +kernel
theorem dX8_back_59 : decode cX8_back 59 = .ok (.iaload, 1) := by decide +kernel
theorem dX8_back_60 : decode cX8_back 60 = .ok (.putfield 163, 3) := by decide +kernel
theorem dX8_back_63 : decode cX8_back 63 = .ok (.aload_n 0, 1) := by decide +kernel
theorem dX8_back_64 : decode cX8_back 64 = .ok (.aload_n 0, 1) := by decide +kernel
theorem dX8_back_65 : decode cX8_back 65 = .ok (.getfield 58, 3) := by decide +kernel
theorem dX8_back_68 : decode cX8_back 68 = .ok (.iload_n 2, 1) := by decide +kernel
theorem dX8_back_69 : decode cX8_back 69 = .ok (.iconst 3, 1) := by decide +kernel
theorem dX8_back_70 : decode cX8_back 70 = .ok (.iadd, 1) := by decide +kernel
theorem dX8_back_71 : decode cX8_back 71 = .ok (.iaload, 1) := by decide +kernel
theorem dX8_back_72 : decode cX8_back 72 = .ok (.putfield 166, 3) := by decide +kernel
theorem dX8_back_75 : decode cX8_back 75 = .ok (.aload_n 0, 1) := by decide +kernel
theorem dX8_back_76 : decode cX8_back 76 = .ok (.aload_n 0, 1) := by decide +kernel
theorem dX8_back_77 : decode cX8_back 77 = .ok (.getfield 58, 3) := by decide +kernel
theorem dX8_back_80 : decode cX8_back 80 = .ok (.iload_n 2, 1) := by decide +kernel
theorem dX8_back_81 : decode cX8_back 81 = .ok (.iconst 4, 1) := by decide +kernel
theorem dX8_back_82 : decode cX8_back 82 = .ok (.iadd, 1) := by decide +kernel
theorem dX8_back_83 : decode cX8_back 83 = .ok (.iaload, 1) := by decide +kernel
theorem dX8_back_84 : decode cX8_back 84 = .ok (.putfield 169, 3) := by decide +kernel
theorem dX8_back_87 : decode cX8_back 87 = .ok (.iconst 0, 1) := by decide +kernel
theorem dX8_back_88 : decode cX8_back 88 = .ok (.istore_n 3, 1) := by decide +kernel
theorem dX8_back_89 : decode cX8_back 89 = .ok (.iload_n 3, 1) := by decide +kernel
theorem dX8_back_90 : decode cX8_back 90 = .ok (.bipush 6, 2) := by decide +kernel
theorem dX8_back_92 : decode cX8_back 92 = .ok (.if_icmp .ge 25, 3) := by decide +kernel
theorem dX8_back_95 : decode cX8_back 95 = .ok (.aload_n 0, 1) := by decide +kernel
theorem dX8_back_96 : decode cX8_back 96 = .ok (.getfield 34, 3) := by decide +kernel
theorem dX8_back_99 : decode cX8_back 99 = .ok (.iload_n 3, 1) := by decide +kernel
theorem dX8_back_100 : decode cX8_back 100 = .ok (.aload_n 0, 1) := by decide +kernel
theorem dX8_back_101 : decode cX8_back 101 = .ok (.getfield 58, 3) := by decide +kernel
theorem dX8_back_104 : decode cX8_back 104 = .ok (.iload_n 2, 1) := by decide +kernel
theorem dX8_back_105 : decode cX8_back 105 = .ok (.iconst 5, 1) := by decide +kernel
theorem dX8_back_106 : decode cX8_back 106 = .ok (.iadd, 1) := by decide +kernel
theorem dX8_back_107 : decode cX8_back 107 = .ok (.iload_n 3, 1) := by decide +kernel
theorem dX8_back_108 : decode cX8_back 108 = .ok (.iadd, 1) := by decide +kernel
theorem dX8_back_109 : decode cX8_back 109 = .ok (.iaload, 1) := by decide +kernel
theorem dX8_back_110 : decode cX8_back 110 = .ok (.iastore, 1) := by decide +kernel
theorem dX8_back_111 : decode cX8_back 111 = .ok (.iinc 3 1, 3) := by decide +kernel
theorem dX8_back_114 : decode cX8_back 114 = .ok (.goto (-25), 3) := by decide +kernel
theorem dX8_back_117 : decode cX8_back 117 = .ok (.iconst 0, 1) := by decide +kernel
theorem dX8_back_118 : decode cX8_back 118 = .ok (.istore_n 3, 1) := by decide +kernel
theorem dX8_back_119 : decode cX8_back 119 = .ok (.iload_n 3, 1) := by decide +kernel
theorem dX8_back_120 : decode cX8_back 120 = .ok (.bipush 10, 2) := by decide +kernel
theorem dX8_back_122 : decode cX8_back 122 = .ok (.if_icmp .ge 26, 3) := by decide +kernel
theorem dX8_back_125 : decode cX8_back 125 = .ok (.aload_n 0, 1) := by decide +kernel
theorem dX8_back_126 : decode cX8_back 126 = .ok (.getfield 40, 3) := by decide +kernel
theorem dX8_back_129 : decode cX8_back 129 = .ok (.iload_n 3, 1) := by decide +kernel
theorem dX8_back_130 : decode cX8_back 130 = .ok (.aload_n 0, 1) := by decide +kernel
theorem dX8_back_131 : decode cX8_back 131 = .ok (.getfield 58, 3) := by decide +kernel
theorem dX8_back_134 : decode cX8_back 134 = .ok (.iload_n 2, 1) := by decide +kernel
theorem dX8_back_135 : decode cX8_back 135 = .ok (.bipush 11, 2) := by decide +kernel
theorem dX8_back_137 : decode cX8_back 137 = .ok (.iadd, 1) := by decide +kernel
theorem dX8_back_138 : decode cX8_back 138 = .ok (.iload_n 3, 1) := by decide +kernel
theorem dX8_back_139 : decode cX8_back 139 = .ok (.iadd, 1) := by decide +kernel
theorem dX8_back_140 : decode cX8_back 140 = .ok (.iaload, 1) := by decide +kernel
theorem dX8_back_141 : decode cX8_back 141 = .ok (.iastore, 1) := by decide +kernel
theorem dX8_back_142 : decode cX8_back 142 = .ok (.iinc 3 1, 3) := by decide +kernel
theorem dX8_back_145 : decode cX8_back 145 = .ok (.goto (-26), 3) := by decide +kernel
theorem dX8_back_148 : decode cX8_back 148 = .ok (.aload_n 0, 1) := by decide +kernel
theorem dX8_back_149 : decode cX8_back 149 = .ok (.getfield 157, 3) := by decide +kernel
theorem dX8_back_152 : decode cX8_back 152 = .ok (.ireturn, 1) := by decide +kernel
set_option maxRecDepth 20000 in
theorem ggX8_count_X8_many : GoodIn wsX8_count wsX8_many := goodIn_r _ [11] (by decide +kernel) (by decide +kernel)
set_option maxRecDepth 20000 in
theorem gX8_count_X8_many : GoodIn wsX8_count (va_wsS RX8 186 yX8_many wsX8_many) := goodIn_app (goodIn_of _ (by decide +kernel)) ggX8_count_X8_many
theorem dX8_count_0 : decode cX8_count 0 = .ok (.iload_n 1, 1) := by decide +kernel
theorem dX8_count_1 : decode cX8_count 1 = .ok (.tableswitch 84 0 6 #[43, 48, 53, 61, 69, 74, 79], 43) := by decide +kernel
theorem dX8_count_44 : decode cX8_count 44 = .ok (.aload_n 0, 1) := by decide +kernel
theorem dX8_count_45 : decode cX8_count 45 = .ok (.getfield 154, 3) := by decide +kernel
theorem dX8_count_48 : decode cX8_count 48 = .ok (.ireturn, 1) := by decide +kernel
theorem dX8_count_49 : decode cX8_count 49 = .ok (.aload_n 0, 1) := by decide +kernel
theorem dX8_count_50 : decode cX8_count 50 = .ok (.getfield 61, 3) := by decide +kernel
theorem dX8_count_53 : decode cX8_count 53 = .ok (.ireturn, 1) := by decide +kernel
theorem dX8_count_54 : decode cX8_count 54 = .ok (.aload_n 0, 1) := by decide +kernel
theorem dX8_count_55 : decode cX8_count 55 = .ok (.getfield 160, 3) := by decide +kernel
theorem dX8_count_58 : decode cX8_count 58 = .ok (.invokestatic 186, 3) := by decide +kernel
theorem dX8_count_61 : decode cX8_count 61 = .ok (.ireturn, 1) := by decide +kernel
theorem dX8_count_62 : decode cX8_count 62 = .ok (.aload_n 0, 1) := by decide +kernel
theorem dX8_count_63 : decode cX8_count 63 = .ok (.getfield 163, 3) := by decide +kernel
theorem dX8_count_66 : decode cX8_count 66 = .ok (.invokestatic 186, 3) := by decide +kernel
theorem dX8_count_69 : decode cX8_count 69 = .ok (.ireturn, 1) := by decide +kernel
theorem dX8_count_70 : decode cX8_count 70 = .ok (.aload_n 0, 1) := by decide +kernel
theorem dX8_count_71 : decode cX8_count 71 = .ok (.getfield 172, 3) := by decide +kernel
theorem dX8_count_74 : decode cX8_count 74 = .ok (.ireturn, 1) := by decide +kernel
theorem dX8_count_75 : decode cX8_count 75 = .ok (.aload_n 0, 1) := by decide +kernel
theorem dX8_count_76 : decode cX8_count 76 = .ok (.getfield 169, 3) := by decide +kernel
theorem dX8_count_79 : decode cX8_count 79 = .ok (.ireturn, 1) := by decide +kernel
theorem dX8_count_80 : decode cX8_count 80 = .ok (.aload_n 0, 1) := by decide +kernel
theorem dX8_count_81 : decode cX8_count 81 = .ok (.getfield 71, 3) := by decide +kernel
theorem dX8_count_84 : decode cX8_count 84 = .ok (.ireturn, 1) := by decide +kernel
theorem dX8_count_85 : decode cX8_count 85 = .ok (.iconst (-1), 1) := by decide +kernel
theorem dX8_count_86 : decode cX8_count 86 = .ok (.ireturn, 1) := by decide +kernel
