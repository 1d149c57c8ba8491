theorem dX0_init_0 : decode cX0_init 0 = .ok (.aload_n 0, 1) := by decide +kernel
theorem dX0_init_1 : decode cX0_init 1 = .ok (.invokespecial 1, 3) := by decide +kernel
theorem dX0_init_4 : decode cX0_init 4 = .ok (.aload_n 0, 1) := by decide +kernel
theorem dX0_init_5 : decode cX0_init 5 = .ok (.bipush 24, 2) := by decide +kernel
theorem dX0_init_7 : decode cX0_init 7 = .ok (.newarray .int, 2) := by decide +kernel
theorem dX0_init_9 : decode cX0_init 9 = .ok (.putfield 9, 3) := by decide +kernel
theorem dX0_init_12 : decode cX0_init 12 = .ok (.aload_n 0, 1) := by decide +kernel
theorem dX0_init_13 : decode cX0_init 13 = .ok (.bipush 24, 2) := by decide +kernel
theorem dX0_init_15 : decode cX0_init 15 = .ok (.newarray .int, 2) := by decide +kernel
theorem dX0_init_17 : decode cX0_init 17 = .ok (.putfield 15, 3) := by decide +kernel
theorem dX0_init_20 : decode cX0_init 20 = .ok (.aload_n 0, 1) := by decide +kernel
theorem dX0_init_21 : decode cX0_init 21 = .ok (.bipush 24, 2) := by decide +kernel
theorem dX0_init_23 : decode cX0_init 23 = .ok (.newarray .int, 2) := by decide +kernel
theorem dX0_init_25 : decode cX0_init 25 = .ok (.putfield 18, 3) := by decide +kernel
theorem dX0_init_28 : decode cX0_init 28 = .ok (.aload_n 0, 1) := by decide +kernel
theorem dX0_init_29 : decode cX0_init 29 = .ok (.bipush 24, 2) := by decide +kernel
theorem dX0_init_31 : decode cX0_init 31 = .ok (.newarray .int, 2) := by decide +kernel
theorem dX0_init_33 : decode cX0_init 33 = .ok (.putfield 21, 3) := by decide +kernel
theorem dX0_init_36 : decode cX0_init 36 = .ok (.aload_n 0, 1) := by decide +kernel
theorem dX0_init_37 : decode cX0_init 37 = .ok (.iconst 0, 1) := by decide +kernel
theorem dX0_init_38 : decode cX0_init 38 = .ok (.putfield 24, 3) := by decide +kernel
theorem dX0_init_41 : decode cX0_init 41 = .ok (.aload_n 0, 1) := by decide +kernel
theorem dX0_init_42 : decode cX0_init 42 = .ok (.iconst 1, 1) := by decide +kernel
theorem dX0_init_43 : decode cX0_init 43 = .ok (.putfield 28, 3) := by decide +kernel
theorem dX0_init_46 : decode cX0_init 46 = .ok (.aload_n 0, 1) := by decide +kernel
theorem dX0_init_47 : decode cX0_init 47 = .ok (.iconst 0, 1) := by decide +kernel
theorem dX0_init_48 : decode cX0_init 48 = .ok (.putfield 33, 3) := by decide +kernel
theorem dX0_init_51 : decode cX0_init 51 = .ok (.aload_n 0, 1) := by decide +kernel
theorem dX0_init_52 : decode cX0_init 52 = .ok (.iconst 1, 1) := by decide +kernel
theorem dX0_init_53 : decode cX0_init 53 = .ok (.putfield 36, 3) := by decide +kernel
theorem dX0_init_56 : decode cX0_init 56 = .ok (.aload_n 0, 1) := by decide +kernel
theorem dX0_init_57 : decode cX0_init 57 = .ok (.iconst (-1), 1) := by decide +kernel
theorem dX0_init_58 : decode cX0_init 58 = .ok (.putfield 39, 3) := by decide +kernel
theorem dX0_init_61 : decode cX0_init 61 = .ok (.return_, 1) := by decide +kernel
set_option maxRecDepth 20000 in
theorem ggX0_begin_X3_rowCount : GoodIn wsX0_begin wsX3_rowCount := goodIn_r _ [13, 14, 34, 35, 36] (by decide +kernel) (by decide +kernel)
set_option maxRecDepth 20000 in
theorem gX0_begin_X3_rowCount : GoodIn wsX0_begin (wsV RX0 42 RX3 yX3_rowCount wsX3_rowCount) := goodIn_app (goodIn_of _ (by decide +kernel)) ggX0_begin_X3_rowCount
set_option maxRecDepth 20000 in
theorem ggX0_begin_X3_held : GoodIn wsX0_begin wsX3_held := goodIn_r _ [18, 19, 34, 35, 36] (by decide +kernel) (by decide +kernel)
set_option maxRecDepth 20000 in
theorem gX0_begin_X3_held : GoodIn wsX0_begin (wsV RX0 46 RX3 yX3_held wsX3_held) := goodIn_app (goodIn_of _ (by decide +kernel)) ggX0_begin_X3_held
set_option maxRecDepth 20000 in
theorem ggX0_begin_X3_heldSixty : GoodIn wsX0_begin wsX3_heldSixty := goodIn_r _ [23, 24, 34, 35, 36] (by decide +kernel) (by decide +kernel)
set_option maxRecDepth 20000 in
theorem gX0_begin_X3_heldSixty : GoodIn wsX0_begin (wsV RX0 50 RX3 yX3_heldSixty wsX3_heldSixty) := goodIn_app (goodIn_of _ (by decide +kernel)) ggX0_begin_X3_heldSixty
theorem dX0_begin_0 : decode cX0_begin 0 = .ok (.aload_n 0, 1) := by decide +kernel
theorem dX0_begin_1 : decode cX0_begin 1 = .ok (.iconst 0, 1) := by decide +kernel
theorem dX0_begin_2 : decode cX0_begin 2 = .ok (.putfield 33, 3) := by decide +kernel
theorem dX0_begin_5 : decode cX0_begin 5 = .ok (.aload_n 0, 1) := by decide +kernel
theorem dX0_begin_6 : decode cX0_begin 6 = .ok (.iconst 1, 1) := by decide +kernel
theorem dX0_begin_7 : decode cX0_begin 7 = .ok (.putfield 36, 3) := by decide +kernel
theorem dX0_begin_10 : decode cX0_begin 10 = .ok (.aload_n 0, 1) := by decide +kernel
theorem dX0_begin_11 : decode cX0_begin 11 = .ok (.iconst (-1), 1) := by decide +kernel
theorem dX0_begin_12 : decode cX0_begin 12 = .ok (.putfield 39, 3) := by decide +kernel
theorem dX0_begin_15 : decode cX0_begin 15 = .ok (.aload_n 0, 1) := by decide +kernel
theorem dX0_begin_16 : decode cX0_begin 16 = .ok (.aload_n 1, 1) := by decide +kernel
theorem dX0_begin_17 : decode cX0_begin 17 = .ok (.invokevirtual 42, 3) := by decide +kernel
theorem dX0_begin_20 : decode cX0_begin 20 = .ok (.putfield 28, 3) := by decide +kernel
theorem dX0_begin_23 : decode cX0_begin 23 = .ok (.aload_n 0, 1) := by decide +kernel
theorem dX0_begin_24 : decode cX0_begin 24 = .ok (.iconst 0, 1) := by decide +kernel
theorem dX0_begin_25 : decode cX0_begin 25 = .ok (.putfield 24, 3) := by decide +kernel
theorem dX0_begin_28 : decode cX0_begin 28 = .ok (.iconst 0, 1) := by decide +kernel
theorem dX0_begin_29 : decode cX0_begin 29 = .ok (.istore_n 2, 1) := by decide +kernel
theorem dX0_begin_30 : decode cX0_begin 30 = .ok (.iload_n 2, 1) := by decide +kernel
theorem dX0_begin_31 : decode cX0_begin 31 = .ok (.aload_n 0, 1) := by decide +kernel
theorem dX0_begin_32 : decode cX0_begin 32 = .ok (.getfield 28, 3) := by decide +kernel
theorem dX0_begin_35 : decode cX0_begin 35 = .ok (.iconst 3, 1) := by decide +kernel
theorem dX0_begin_36 : decode cX0_begin 36 = .ok (.imul, 1) := by decide +kernel
theorem dX0_begin_37 : decode cX0_begin 37 = .ok (.if_icmp .ge 97, 3) := by decide +kernel
theorem dX0_begin_40 : decode cX0_begin 40 = .ok (.iload_n 2, 1) := by decide +kernel
theorem dX0_begin_41 : decode cX0_begin 41 = .ok (.bipush 24, 2) := by decide +kernel
theorem dX0_begin_43 : decode cX0_begin 43 = .ok (.if_icmp .ge 91, 3) := by decide +kernel
theorem dX0_begin_46 : decode cX0_begin 46 = .ok (.iload_n 2, 1) := by decide +kernel
theorem dX0_begin_47 : decode cX0_begin 47 = .ok (.iconst 3, 1) := by decide +kernel
theorem dX0_begin_48 : decode cX0_begin 48 = .ok (.idiv, 1) := by decide +kernel
theorem dX0_begin_49 : decode cX0_begin 49 = .ok (.istore_n 3, 1) := by decide +kernel
theorem dX0_begin_50 : decode cX0_begin 50 = .ok (.iload_n 2, 1) := by decide +kernel
theorem dX0_begin_51 : decode cX0_begin 51 = .ok (.iconst 3, 1) := by decide +kernel
theorem dX0_begin_52 : decode cX0_begin 52 = .ok (.irem, 1) := by decide +kernel
theorem dX0_begin_53 : decode cX0_begin 53 = .ok (.istore 4, 2) := by decide +kernel
theorem dX0_begin_55 : decode cX0_begin 55 = .ok (.aload_n 1, 1) := by decide +kernel
theorem dX0_begin_56 : decode cX0_begin 56 = .ok (.iload_n 3, 1) := by decide +kernel
theorem dX0_begin_57 : decode cX0_begin 57 = .ok (.iload 4, 2) := by decide +kernel
theorem dX0_begin_59 : decode cX0_begin 59 = .ok (.invokevirtual 46, 3) := by decide +kernel
theorem dX0_begin_62 : decode cX0_begin 62 = .ok (.ifCond .eq 66, 3) := by decide +kernel
theorem dX0_begin_65 : decode cX0_begin 65 = .ok (.aload_n 0, 1) := by decide +kernel
theorem dX0_begin_66 : decode cX0_begin 66 = .ok (.getfield 24, 3) := by decide +kernel
theorem dX0_begin_69 : decode cX0_begin 69 = .ok (.ifCond .lt 59, 3) := by decide +kernel
theorem dX0_begin_72 : decode cX0_begin 72 = .ok (.aload_n 0, 1) := by decide +kernel
theorem dX0_begin_73 : decode cX0_begin 73 = .ok (.getfield 24, 3) := by decide +kernel
theorem dX0_begin_76 : decode cX0_begin 76 = .ok (.bipush 24, 2) := by decide +kernel
theorem dX0_begin_78 : decode cX0_begin 78 = .ok (.if_icmp .ge 50, 3) := by decide +kernel
theorem dX0_begin_81 : decode cX0_begin 81 = .ok (.aload_n 0, 1) := by decide +kernel
theorem dX0_begin_82 : decode cX0_begin 82 = .ok (.getfield 9, 3) := by decide +kernel
theorem dX0_begin_85 : decode cX0_begin 85 = .ok (.aload_n 0, 1) := by decide +kernel
theorem dX0_begin_86 : decode cX0_begin 86 = .ok (.getfield 24, 3) := by decide +kernel
theorem dX0_begin_89 : decode cX0_begin 89 = .ok (.iload_n 3, 1) := by decide +kernel
theorem dX0_begin_90 : decode cX0_begin 90 = .ok (.iastore, 1) := by decide +kernel
theorem dX0_begin_91 : decode cX0_begin 91 = .ok (.aload_n 0, 1) := by decide +kernel
theorem dX0_begin_92 : decode cX0_begin 92 = .ok (.getfield 15, 3) := by decide +kernel
theorem dX0_begin_95 : decode cX0_begin 95 = .ok (.aload_n 0, 1) := by decide +kernel
theorem dX0_begin_96 : decode cX0_begin 96 = .ok (.getfield 24, 3) := by decide +kernel
theorem dX0_begin_99 : decode cX0_begin 99 = .ok (.iload 4, 2) := by decide +kernel
theorem dX0_begin_101 : decode cX0_begin 101 = .ok (.iastore, 1) := by decide +kernel
theorem dX0_begin_102 : decode cX0_begin 102 = .ok (.aload_n 0, 1) := by decide +kernel
theorem dX0_begin_103 : decode cX0_begin 103 = .ok (.getfield 18, 3) := by decide +kernel
theorem dX0_begin_106 : decode cX0_begin 106 = .ok (.aload_n 0, 1) := by decide +kernel
theorem dX0_begin_107 : decode cX0_begin 107 = .ok (.getfield 24, 3) := by decide +kernel
theorem dX0_begin_110 : decode cX0_begin 110 = .ok (.aload_n 1, 1) := by decide +kernel
theorem dX0_begin_111 : decode cX0_begin 111 = .ok (.iload_n 3, 1) := by decide +kernel
theorem dX0_begin_112 : decode cX0_begin 112 = .ok (.iload 4, 2) := by decide +kernel
theorem dX0_begin_114 : decode cX0_begin 114 = .ok (.invokevirtual 50, 3) := by decide +kernel
theorem dX0_begin_117 : decode cX0_begin 117 = .ok (.iastore, 1) := by decide +kernel
theorem dX0_begin_118 : decode cX0_begin 118 = .ok (.aload_n 0, 1) := by decide +kernel
theorem dX0_begin_119 : decode cX0_begin 119 = .ok (.dup, 1) := by decide +kernel
theorem dX0_begin_120 : decode cX0_begin 120 = .ok (.getfield 24, 3) := by decide +kernel
theorem dX0_begin_123 : decode cX0_begin 123 = .ok (.iconst 1, 1) := by decide +kernel
theorem dX0_begin_124 : decode cX0_begin 124 = .ok (.iadd, 1) := by decide +kernel
theorem dX0_begin_125 : decode cX0_begin 125 = .ok (.putfield 24, 3) := by decide +kernel
theorem dX0_begin_128 : decode cX0_begin 128 = .ok (.iinc 2 1, 3) := by decide +kernel
theorem dX0_begin_131 : decode cX0_begin 131 = .ok (.goto (-101), 3) := by decide +kernel
theorem dX0_begin_134 : decode cX0_begin 134 = .ok (.return_, 1) := by decide +kernel
set_option maxRecDepth 20000 in
theorem ggX0_nextPlace_X2_rowsOf : GoodIn wsX0_nextPlace wsX2_rowsOf := goodIn_r _ [8, 9, 10, 11, 12, 13] (by decide +kernel) (by decide +kernel)
set_option maxRecDepth 20000 in
theorem gX0_nextPlace_X2_rowsOf : GoodIn wsX0_nextPlace (va_wsS RX0 53 yX2_rowsOf wsX2_rowsOf) := goodIn_app (goodIn_of _ (by decide +kernel)) ggX0_nextPlace_X2_rowsOf
theorem dX0_nextPlace_0 : decode cX0_nextPlace 0 = .ok (.aload_n 0, 1) := by decide +kernel
theorem dX0_nextPlace_1 : decode cX0_nextPlace 1 = .ok (.dup, 1) := by decide +kernel
theorem dX0_nextPlace_2 : decode cX0_nextPlace 2 = .ok (.getfield 39, 3) := by decide +kernel
theorem dX0_nextPlace_5 : decode cX0_nextPlace 5 = .ok (.iconst 1, 1) := by decide +kernel
theorem dX0_nextPlace_6 : decode cX0_nextPlace 6 = .ok (.iadd, 1) := by decide +kernel
theorem dX0_nextPlace_7 : decode cX0_nextPlace 7 = .ok (.putfield 39, 3) := by decide +kernel
theorem dX0_nextPlace_10 : decode cX0_nextPlace 10 = .ok (.aload_n 0, 1) := by decide +kernel
theorem dX0_nextPlace_11 : decode cX0_nextPlace 11 = .ok (.getfield 39, 3) := by decide +kernel
theorem dX0_nextPlace_14 : decode cX0_nextPlace 14 = .ok (.aload_n 0, 1) := by decide +kernel
theorem dX0_nextPlace_15 : decode cX0_nextPlace 15 = .ok (.getfield 28, 3) := by decide +kernel
theorem dX0_nextPlace_18 : decode cX0_nextPlace 18 = .ok (.iadd, 1) := by decide +kernel
theorem dX0_nextPlace_19 : decode cX0_nextPlace 19 = .ok (.aload_n 0, 1) := by decide +kernel
theorem dX0_nextPlace_20 : decode cX0_nextPlace 20 = .ok (.getfield 33, 3) := by decide +kernel
theorem dX0_nextPlace_23 : decode cX0_nextPlace 23 = .ok (.invokestatic 53, 3) := by decide +kernel
theorem dX0_nextPlace_26 : decode cX0_nextPlace 26 = .ok (.if_icmp .gt 5, 3) := by decide +kernel
theorem dX0_nextPlace_29 : decode cX0_nextPlace 29 = .ok (.iconst 1, 1) := by decide +kernel
theorem dX0_nextPlace_30 : decode cX0_nextPlace 30 = .ok (.ireturn, 1) := by decide +kernel
theorem dX0_nextPlace_31 : decode cX0_nextPlace 31 = .ok (.aload_n 0, 1) := by decide +kernel
theorem dX0_nextPlace_32 : decode cX0_nextPlace 32 = .ok (.iconst 0, 1) := by decide +kernel
theorem dX0_nextPlace_33 : decode cX0_nextPlace 33 = .ok (.putfield 39, 3) := by decide +kernel
theorem dX0_nextPlace_36 : decode cX0_nextPlace 36 = .ok (.aload_n 0, 1) := by decide +kernel
theorem dX0_nextPlace_37 : decode cX0_nextPlace 37 = .ok (.getfield 33, 3) := by decide +kernel
theorem dX0_nextPlace_40 : decode cX0_nextPlace 40 = .ok (.ifCond .ne 24, 3) := by decide +kernel
theorem dX0_nextPlace_43 : decode cX0_nextPlace 43 = .ok (.aload_n 0, 1) := by decide +kernel
theorem dX0_nextPlace_44 : decode cX0_nextPlace 44 = .ok (.getfield 36, 3) := by decide +kernel
theorem dX0_nextPlace_47 : decode cX0_nextPlace 47 = .ok (.bipush 59, 2) := by decide +kernel
theorem dX0_nextPlace_49 : decode cX0_nextPlace 49 = .ok (.if_icmp .ge 15, 3) := by decide +kernel
theorem dX0_nextPlace_52 : decode cX0_nextPlace 52 = .ok (.aload_n 0, 1) := by decide +kernel
theorem dX0_nextPlace_53 : decode cX0_nextPlace 53 = .ok (.dup, 1) := by decide +kernel
theorem dX0_nextPlace_54 : decode cX0_nextPlace 54 = .ok (.getfield 36, 3) := by decide +kernel
theorem dX0_nextPlace_57 : decode cX0_nextPlace 57 = .ok (.iconst 1, 1) := by decide +kernel
theorem dX0_nextPlace_58 : decode cX0_nextPlace 58 = .ok (.iadd, 1) := by decide +kernel
theorem dX0_nextPlace_59 : decode cX0_nextPlace 59 = .ok (.putfield 36, 3) := by decide +kernel
theorem dX0_nextPlace_62 : decode cX0_nextPlace 62 = .ok (.iconst 1, 1) := by decide +kernel
theorem dX0_nextPlace_63 : decode cX0_nextPlace 63 = .ok (.ireturn, 1) := by decide +kernel
theorem dX0_nextPlace_64 : decode cX0_nextPlace 64 = .ok (.aload_n 0, 1) := by decide +kernel
theorem dX0_nextPlace_65 : decode cX0_nextPlace 65 = .ok (.dup, 1) := by decide +kernel
theorem dX0_nextPlace_66 : decode cX0_nextPlace 66 = .ok (.getfield 33, 3) := by decide +kernel
theorem dX0_nextPlace_69 : decode cX0_nextPlace 69 = .ok (.iconst 1, 1) := by decide +kernel
theorem dX0_nextPlace_70 : decode cX0_nextPlace 70 = .ok (.iadd, 1) := by decide +kernel
theorem dX0_nextPlace_71 : decode cX0_nextPlace 71 = .ok (.putfield 33, 3) := by decide +kernel
theorem dX0_nextPlace_74 : decode cX0_nextPlace 74 = .ok (.aload_n 0, 1) := by decide +kernel
theorem dX0_nextPlace_75 : decode cX0_nextPlace 75 = .ok (.iconst 0, 1) := by decide +kernel
theorem dX0_nextPlace_76 : decode cX0_nextPlace 76 = .ok (.putfield 36, 3) := by decide +kernel
theorem dX0_nextPlace_79 : decode cX0_nextPlace 79 = .ok (.aload_n 0, 1) := by decide +kernel
theorem dX0_nextPlace_80 : decode cX0_nextPlace 80 = .ok (.getfield 33, 3) := by decide +kernel
theorem dX0_nextPlace_83 : decode cX0_nextPlace 83 = .ok (.iconst 4, 1) := by decide +kernel
theorem dX0_nextPlace_84 : decode cX0_nextPlace 84 = .ok (.if_icmp .ge 7, 3) := by decide +kernel
theorem dX0_nextPlace_87 : decode cX0_nextPlace 87 = .ok (.iconst 1, 1) := by decide +kernel
theorem dX0_nextPlace_88 : decode cX0_nextPlace 88 = .ok (.goto 4, 3) := by decide +kernel
theorem dX0_nextPlace_91 : decode cX0_nextPlace 91 = .ok (.iconst 0, 1) := by decide +kernel
theorem dX0_nextPlace_92 : decode cX0_nextPlace 92 = .ok (.ireturn, 1) := by decide +kernel
set_option maxRecDepth 20000 in
theorem ggX0_nextReading_X0_nextPlace : GoodIn wsX0_nextReading wsX0_nextPlace := goodIn_r _ [5, 6, 7, 8, 9, 10, 11, 12, 13, 14, 15, 16, 17, 18, 46, 47, 48, 49, 50, 51, 52, 53, 54] (by decide +kernel) (by decide +kernel)
set_option maxRecDepth 20000 in
theorem gX0_nextReading_X0_nextPlace : GoodIn wsX0_nextReading (wsV RX0 57 RX0 yX0_nextPlace wsX0_nextPlace) := goodIn_app (goodIn_of _ (by decide +kernel)) ggX0_nextReading_X0_nextPlace
set_option maxRecDepth 20000 in
theorem ggX0_nextReading_X0_strayRow : GoodIn wsX0_nextReading wsX0_strayRow := goodIn_r _ [22, 23, 24, 25, 26, 27, 28, 29, 4, 30, 8, 9, 6, 31, 32, 12, 33, 34, 35, 16, 36, 18, 37, 38, 39, 40, 41, 42, 43, 44, 45, 46, 47, 48, 49, 50, 51, 52, 53, 54] (by decide +kernel) (by decide +kernel)
set_option maxRecDepth 20000 in
theorem gX0_nextReading_X0_strayRow : GoodIn wsX0_nextReading (wsV RX0 61 RX0 yX0_strayRow wsX0_strayRow) := goodIn_app (goodIn_of _ (by decide +kernel)) ggX0_nextReading_X0_strayRow
theorem dX0_nextReading_0 : decode cX0_nextReading 0 = .ok (.iconst 0, 1) := by decide +kernel
theorem dX0_nextReading_1 : decode cX0_nextReading 1 = .ok (.istore_n 1, 1) := by decide +kernel
theorem dX0_nextReading_2 : decode cX0_nextReading 2 = .ok (.iload_n 1, 1) := by decide +kernel
theorem dX0_nextReading_3 : decode cX0_nextReading 3 = .ok (.sipush 4000, 3) := by decide +kernel
theorem dX0_nextReading_6 : decode cX0_nextReading 6 = .ok (.if_icmp .ge 26, 3) := by decide +kernel
theorem dX0_nextReading_9 : decode cX0_nextReading 9 = .ok (.aload_n 0, 1) := by decide +kernel
theorem dX0_nextReading_10 : decode cX0_nextReading 10 = .ok (.invokevirtual 57, 3) := by decide +kernel
theorem dX0_nextReading_13 : decode cX0_nextReading 13 = .ok (.ifCond .eq 19, 3) := by decide +kernel
theorem dX0_nextReading_16 : decode cX0_nextReading 16 = .ok (.aload_n 0, 1) := by decide +kernel
theorem dX0_nextReading_17 : decode cX0_nextReading 17 = .ok (.invokevirtual 61, 3) := by decide +kernel
theorem dX0_nextReading_20 : decode cX0_nextReading 20 = .ok (.iconst (-1), 1) := by decide +kernel
theorem dX0_nextReading_21 : decode cX0_nextReading 21 = .ok (.if_icmp .ne 5, 3) := by decide +kernel
theorem dX0_nextReading_24 : decode cX0_nextReading 24 = .ok (.iconst 1, 1) := by decide +kernel
theorem dX0_nextReading_25 : decode cX0_nextReading 25 = .ok (.ireturn, 1) := by decide +kernel
theorem dX0_nextReading_26 : decode cX0_nextReading 26 = .ok (.iinc 1 1, 3) := by decide +kernel
theorem dX0_nextReading_29 : decode cX0_nextReading 29 = .ok (.goto (-27), 3) := by decide +kernel
theorem dX0_nextReading_32 : decode cX0_nextReading 32 = .ok (.iconst 0, 1) := by decide +kernel
theorem dX0_nextReading_33 : decode cX0_nextReading 33 = .ok (.ireturn, 1) := by decide +kernel
theorem dX0_code_0 : decode cX0_code 0 = .ok (.sipush 10000, 3) := by decide +kernel
theorem dX0_code_3 : decode cX0_code 3 = .ok (.aload_n 0, 1) := by decide +kernel
theorem dX0_code_4 : decode cX0_code 4 = .ok (.getfield 33, 3) := by decide +kernel
theorem dX0_code_7 : decode cX0_code 7 = .ok (.imul, 1) := by decide +kernel
theorem dX0_code_8 : decode cX0_code 8 = .ok (.bipush 100, 2) := by decide +kernel
theorem dX0_code_10 : decode cX0_code 10 = .ok (.aload_n 0, 1) := by decide +kernel
theorem dX0_code_11 : decode cX0_code 11 = .ok (.getfield 36, 3) := by decide +kernel
theorem dX0_code_14 : decode cX0_code 14 = .ok (.imul, 1) := by decide +kernel
theorem dX0_code_15 : decode cX0_code 15 = .ok (.iadd, 1) := by decide +kernel
theorem dX0_code_16 : decode cX0_code 16 = .ok (.aload_n 0, 1) := by decide +kernel
theorem dX0_code_17 : decode cX0_code 17 = .ok (.getfield 39, 3) := by decide +kernel
theorem dX0_code_20 : decode cX0_code 20 = .ok (.iadd, 1) := by decide +kernel
theorem dX0_code_21 : decode cX0_code 21 = .ok (.ireturn, 1) := by decide +kernel
set_option maxRecDepth 20000 in
theorem ggX0_strayRow_X0_sixtyHere : GoodIn wsX0_strayRow wsX0_sixtyHere := goodIn_r _ [9, 10, 11, 12, 13, 14, 15, 16, 17, 18, 19, 20, 21, 22, 23, 24, 25, 26, 27, 28, 29, 30, 31, 32, 33, 34, 35, 36, 37, 38, 39] (by decide +kernel) (by decide +kernel)
set_option maxRecDepth 20000 in
theorem gX0_strayRow_X0_sixtyHere : GoodIn wsX0_strayRow (wsV RX0 64 RX0 yX0_sixtyHere wsX0_sixtyHere) := goodIn_app (goodIn_of _ (by decide +kernel)) ggX0_strayRow_X0_sixtyHere
theorem dX0_strayRow_0 : decode cX0_strayRow 0 = .ok (.iconst (-1), 1) := by decide +kernel
theorem dX0_strayRow_1 : decode cX0_strayRow 1 = .ok (.istore_n 1, 1) := by decide +kernel
theorem dX0_strayRow_2 : decode cX0_strayRow 2 = .ok (.iconst 0, 1) := by decide +kernel
theorem dX0_strayRow_3 : decode cX0_strayRow 3 = .ok (.istore_n 2, 1) := by decide +kernel
theorem dX0_strayRow_4 : decode cX0_strayRow 4 = .ok (.iload_n 2, 1) := by decide +kernel
theorem dX0_strayRow_5 : decode cX0_strayRow 5 = .ok (.aload_n 0, 1) := by decide +kernel
theorem dX0_strayRow_6 : decode cX0_strayRow 6 = .ok (.getfield 24, 3) := by decide +kernel
theorem dX0_strayRow_9 : decode cX0_strayRow 9 = .ok (.if_icmp .ge 57, 3) := by decide +kernel
theorem dX0_strayRow_12 : decode cX0_strayRow 12 = .ok (.iload_n 2, 1) := by decide +kernel
theorem dX0_strayRow_13 : decode cX0_strayRow 13 = .ok (.bipush 24, 2) := by decide +kernel
theorem dX0_strayRow_15 : decode cX0_strayRow 15 = .ok (.if_icmp .ge 51, 3) := by decide +kernel
theorem dX0_strayRow_18 : decode cX0_strayRow 18 = .ok (.aload_n 0, 1) := by decide +kernel
theorem dX0_strayRow_19 : decode cX0_strayRow 19 = .ok (.getfield 9, 3) := by decide +kernel
theorem dX0_strayRow_22 : decode cX0_strayRow 22 = .ok (.iload_n 2, 1) := by decide +kernel
theorem dX0_strayRow_23 : decode cX0_strayRow 23 = .ok (.iaload, 1) := by decide +kernel
theorem dX0_strayRow_24 : decode cX0_strayRow 24 = .ok (.istore_n 3, 1) := by decide +kernel
theorem dX0_strayRow_25 : decode cX0_strayRow 25 = .ok (.iload_n 3, 1) := by decide +kernel
theorem dX0_strayRow_26 : decode cX0_strayRow 26 = .ok (.iload_n 1, 1) := by decide +kernel
theorem dX0_strayRow_27 : decode cX0_strayRow 27 = .ok (.if_icmp .eq 33, 3) := by decide +kernel
theorem dX0_strayRow_30 : decode cX0_strayRow 30 = .ok (.aload_n 0, 1) := by decide +kernel
theorem dX0_strayRow_31 : decode cX0_strayRow 31 = .ok (.getfield 18, 3) := by decide +kernel
theorem dX0_strayRow_34 : decode cX0_strayRow 34 = .ok (.iload_n 2, 1) := by decide +kernel
theorem dX0_strayRow_35 : decode cX0_strayRow 35 = .ok (.iaload, 1) := by decide +kernel
theorem dX0_strayRow_36 : decode cX0_strayRow 36 = .ok (.aload_n 0, 1) := by decide +kernel
theorem dX0_strayRow_37 : decode cX0_strayRow 37 = .ok (.iload_n 3, 1) := by decide +kernel
theorem dX0_strayRow_38 : decode cX0_strayRow 38 = .ok (.aload_n 0, 1) := by decide +kernel
theorem dX0_strayRow_39 : decode cX0_strayRow 39 = .ok (.getfield 15, 3) := by decide +kernel
theorem dX0_strayRow_42 : decode cX0_strayRow 42 = .ok (.iload_n 2, 1) := by decide +kernel
theorem dX0_strayRow_43 : decode cX0_strayRow 43 = .ok (.iaload, 1) := by decide +kernel
theorem dX0_strayRow_44 : decode cX0_strayRow 44 = .ok (.invokevirtual 64, 3) := by decide +kernel
theorem dX0_strayRow_47 : decode cX0_strayRow 47 = .ok (.if_icmp .eq 13, 3) := by decide +kernel
theorem dX0_strayRow_50 : decode cX0_strayRow 50 = .ok (.iload_n 1, 1) := by decide +kernel
theorem dX0_strayRow_51 : decode cX0_strayRow 51 = .ok (.iconst (-1), 1) := by decide +kernel
theorem dX0_strayRow_52 : decode cX0_strayRow 52 = .ok (.if_icmp .eq 6, 3) := by decide +kernel
theorem dX0_strayRow_55 : decode cX0_strayRow 55 = .ok (.bipush (-2), 2) := by decide +kernel
theorem dX0_strayRow_57 : decode cX0_strayRow 57 = .ok (.ireturn, 1) := by decide +kernel
theorem dX0_strayRow_58 : decode cX0_strayRow 58 = .ok (.iload_n 3, 1) := by decide +kernel
theorem dX0_strayRow_59 : decode cX0_strayRow 59 = .ok (.istore_n 1, 1) := by decide +kernel
theorem dX0_strayRow_60 : decode cX0_strayRow 60 = .ok (.iinc 2 1, 3) := by decide +kernel
theorem dX0_strayRow_63 : decode cX0_strayRow 63 = .ok (.goto (-59), 3) := by decide +kernel
theorem dX0_strayRow_66 : decode cX0_strayRow 66 = .ok (.iload_n 1, 1) := by decide +kernel
theorem dX0_strayRow_67 : decode cX0_strayRow 67 = .ok (.ireturn, 1) := by decide +kernel
set_option maxRecDepth 20000 in
theorem ggX0_sixtyHere_X2_number : GoodIn wsX0_sixtyHere wsX2_number := goodIn_r _ [7, 8, 9, 10, 11, 12, 13, 14, 15, 16] (by decide +kernel) (by decide +kernel)
set_option maxRecDepth 20000 in
theorem gX0_sixtyHere_X2_number : GoodIn wsX0_sixtyHere (va_wsS RX0 67 yX2_number wsX2_number) := goodIn_app (goodIn_of _ (by decide +kernel)) ggX0_sixtyHere_X2_number
set_option maxRecDepth 20000 in
theorem ggX0_sixtyHere_X1_strip : GoodIn wsX0_sixtyHere wsX1_strip := goodIn_r _ [20, 21] (by decide +kernel) (by decide +kernel)
set_option maxRecDepth 20000 in
theorem gX0_sixtyHere_X1_strip : GoodIn wsX0_sixtyHere (va_wsS RX0 71 yX1_strip wsX1_strip) := goodIn_app (goodIn_of _ (by decide +kernel)) ggX0_sixtyHere_X1_strip
theorem dX0_sixtyHere_0 : decode cX0_sixtyHere 0 = .ok (.aload_n 0, 1) := by decide +kernel
theorem dX0_sixtyHere_1 : decode cX0_sixtyHere 1 = .ok (.getfield 33, 3) := by decide +kernel
theorem dX0_sixtyHere_4 : decode cX0_sixtyHere 4 = .ok (.aload_n 0, 1) := by decide +kernel
theorem dX0_sixtyHere_5 : decode cX0_sixtyHere 5 = .ok (.getfield 36, 3) := by decide +kernel
theorem dX0_sixtyHere_8 : decode cX0_sixtyHere 8 = .ok (.aload_n 0, 1) := by decide +kernel
theorem dX0_sixtyHere_9 : decode cX0_sixtyHere 9 = .ok (.getfield 39, 3) := by decide +kernel
theorem dX0_sixtyHere_12 : decode cX0_sixtyHere 12 = .ok (.iload_n 1, 1) := by decide +kernel
theorem dX0_sixtyHere_13 : decode cX0_sixtyHere 13 = .ok (.iadd, 1) := by decide +kernel
theorem dX0_sixtyHere_14 : decode cX0_sixtyHere 14 = .ok (.iload_n 2, 1) := by decide +kernel
theorem dX0_sixtyHere_15 : decode cX0_sixtyHere 15 = .ok (.invokestatic 67, 3) := by decide +kernel
theorem dX0_sixtyHere_18 : decode cX0_sixtyHere 18 = .ok (.i2l, 1) := by decide +kernel
theorem dX0_sixtyHere_19 : decode cX0_sixtyHere 19 = .ok (.invokestatic 71, 3) := by decide +kernel
theorem dX0_sixtyHere_22 : decode cX0_sixtyHere 22 = .ok (.l2i, 1) := by decide +kernel
theorem dX0_sixtyHere_23 : decode cX0_sixtyHere 23 = .ok (.ireturn, 1) := by decide +kernel
set_option maxRecDepth 20000 in
theorem ggX0_gatherSure_X0_begin : GoodIn wsX0_gatherSure wsX0_begin := goodIn_r _ [6, 7, 8, 9, 10, 11, 12, 13, 14, 15, 16, 17, 18, 19, 20, 21, 22, 23, 24, 25, 26, 27, 28, 29, 30, 79, 80, 81, 82, 83, 84, 85, 86, 87, 88, 89, 90] (by decide +kernel) (by decide +kernel)
set_option maxRecDepth 20000 in
theorem gX0_gatherSure_X0_begin : GoodIn wsX0_gatherSure (wsV RX0 77 RX0 yX0_begin wsX0_begin) := goodIn_app (goodIn_of _ (by decide +kernel)) ggX0_gatherSure_X0_begin
set_option maxRecDepth 20000 in
theorem ggX0_gatherSure_X0_nextReading : GoodIn wsX0_gatherSure wsX0_nextReading := goodIn_r _ [34, 35, 36, 37, 5, 38, 9, 10, 7, 8, 39, 40, 41, 42, 43, 44, 45, 46, 47, 48, 49, 50, 51, 11, 12, 14, 13, 52, 53, 54, 55, 56, 57, 58, 59, 60, 61, 62, 63, 64, 65, 66, 67, 68, 69, 70, 79, 80, 81, 82, 83, 84, 85, 86, 87] (by decide +kernel) (by decide +kernel)
set_option maxRecDepth 20000 in
theorem gX0_gatherSure_X0_nextReading : GoodIn wsX0_gatherSure (wsV RX0 81 RX0 yX0_nextReading wsX0_nextReading) := goodIn_app (goodIn_of _ (by decide +kernel)) ggX0_gatherSure_X0_nextReading
set_option maxRecDepth 20000 in
theorem ggX0_gatherSure_X0_takeAll : GoodIn wsX0_gatherSure wsX0_takeAll := goodIn_r _ [74, 10, 1, 52, 53, 54, 5, 55, 7, 8, 9, 56, 57, 41, 58, 59, 60, 45, 61, 47, 62, 63, 64, 65, 66, 67, 68, 69, 70, 79, 80, 81, 82, 83, 84, 85, 86, 87] (by decide +kernel) (by decide +kernel)
set_option maxRecDepth 20000 in
theorem gX0_gatherSure_X0_takeAll : GoodIn wsX0_gatherSure (wsV RX0 84 RX0 yX0_takeAll wsX0_takeAll) := goodIn_app (goodIn_of _ (by decide +kernel)) ggX0_gatherSure_X0_takeAll
set_option maxRecDepth 20000 in
theorem ggX0_gatherSure_X0_keepAgreed : GoodIn wsX0_gatherSure wsX0_keepAgreed := goodIn_r _ [78, 10, 1, 11, 52, 53, 54, 5, 55, 7, 8, 9, 56, 57, 41, 58, 59, 60, 45, 61, 47, 62, 63, 64, 65, 66, 67, 68, 69, 70, 79, 80, 81, 82, 83, 84, 85, 86, 87] (by decide +kernel) (by decide +kernel)
set_option maxRecDepth 20000 in
theorem gX0_gatherSure_X0_keepAgreed : GoodIn wsX0_gatherSure (wsV RX0 87 RX0 yX0_keepAgreed wsX0_keepAgreed) := goodIn_app (goodIn_of _ (by decide +kernel)) ggX0_gatherSure_X0_keepAgreed
theorem dX0_gatherSure_0 : decode cX0_gatherSure 0 = .ok (.iconst 0, 1) := by decide +kernel
theorem dX0_gatherSure_1 : decode cX0_gatherSure 1 = .ok (.istore_n 2, 1) := by decide +kernel
theorem dX0_gatherSure_2 : decode cX0_gatherSure 2 = .ok (.iload_n 2, 1) := by decide +kernel
theorem dX0_gatherSure_3 : decode cX0_gatherSure 3 = .ok (.bipush 24, 2) := by decide +kernel
theorem dX0_gatherSure_5 : decode cX0_gatherSure 5 = .ok (.if_icmp .ge 16, 3) := by decide +kernel
theorem dX0_gatherSure_8 : decode cX0_gatherSure 8 = .ok (.aload_n 0, 1) := by decide +kernel
theorem dX0_gatherSure_9 : decode cX0_gatherSure 9 = .ok (.getfield 21, 3) := by decide +kernel
theorem dX0_gatherSure_12 : decode cX0_gatherSure 12 = .ok (.iload_n 2, 1) := by decide +kernel
theorem dX0_gatherSure_13 : decode cX0_gatherSure 13 = .ok (.iconst 0, 1) := by decide +kernel
theorem dX0_gatherSure_14 : decode cX0_gatherSure 14 = .ok (.iastore, 1) := by decide +kernel
theorem dX0_gatherSure_15 : decode cX0_gatherSure 15 = .ok (.iinc 2 1, 3) := by decide +kernel
theorem dX0_gatherSure_18 : decode cX0_gatherSure 18 = .ok (.goto (-16), 3) := by decide +kernel
theorem dX0_gatherSure_21 : decode cX0_gatherSure 21 = .ok (.aload_n 0, 1) := by decide +kernel
theorem dX0_gatherSure_22 : decode cX0_gatherSure 22 = .ok (.aload_n 1, 1) := by decide +kernel
theorem dX0_gatherSure_23 : decode cX0_gatherSure 23 = .ok (.invokevirtual 77, 3) := by decide +kernel
theorem dX0_gatherSure_26 : decode cX0_gatherSure 26 = .ok (.aload_n 0, 1) := by decide +kernel
theorem dX0_gatherSure_27 : decode cX0_gatherSure 27 = .ok (.invokevirtual 81, 3) := by decide +kernel
theorem dX0_gatherSure_30 : decode cX0_gatherSure 30 = .ok (.istore_n 2, 1) := by decide +kernel
theorem dX0_gatherSure_31 : decode cX0_gatherSure 31 = .ok (.iload_n 2, 1) := by decide +kernel
theorem dX0_gatherSure_32 : decode cX0_gatherSure 32 = .ok (.ifCond .eq 7, 3) := by decide +kernel
theorem dX0_gatherSure_35 : decode cX0_gatherSure 35 = .ok (.aload_n 0, 1) := by decide +kernel
theorem dX0_gatherSure_36 : decode cX0_gatherSure 36 = .ok (.invokevirtual 84, 3) := by decide +kernel
theorem dX0_gatherSure_39 : decode cX0_gatherSure 39 = .ok (.iconst 0, 1) := by decide +kernel
theorem dX0_gatherSure_40 : decode cX0_gatherSure 40 = .ok (.istore_n 3, 1) := by decide +kernel
theorem dX0_gatherSure_41 : decode cX0_gatherSure 41 = .ok (.iload_n 3, 1) := by decide +kernel
theorem dX0_gatherSure_42 : decode cX0_gatherSure 42 = .ok (.sipush 4000, 3) := by decide +kernel
theorem dX0_gatherSure_45 : decode cX0_gatherSure 45 = .ok (.if_icmp .ge 33, 3) := by decide +kernel
theorem dX0_gatherSure_48 : decode cX0_gatherSure 48 = .ok (.iload_n 2, 1) := by decide +kernel
theorem dX0_gatherSure_49 : decode cX0_gatherSure 49 = .ok (.ifCond .eq 29, 3) := by decide +kernel
theorem dX0_gatherSure_52 : decode cX0_gatherSure 52 = .ok (.aload_n 0, 1) := by decide +kernel
theorem dX0_gatherSure_53 : decode cX0_gatherSure 53 = .ok (.invokevirtual 81, 3) := by decide +kernel
theorem dX0_gatherSure_56 : decode cX0_gatherSure 56 = .ok (.ifCond .eq 14, 3) := by decide +kernel
theorem dX0_gatherSure_59 : decode cX0_gatherSure 59 = .ok (.aload_n 0, 1) := by decide +kernel
theorem dX0_gatherSure_60 : decode cX0_gatherSure 60 = .ok (.invokevirtual 87, 3) := by decide +kernel
theorem dX0_gatherSure_63 : decode cX0_gatherSure 63 = .ok (.ifCond .eq 7, 3) := by decide +kernel
theorem dX0_gatherSure_66 : decode cX0_gatherSure 66 = .ok (.iconst 1, 1) := by decide +kernel
theorem dX0_gatherSure_67 : decode cX0_gatherSure 67 = .ok (.goto 4, 3) := by decide +kernel
theorem dX0_gatherSure_70 : decode cX0_gatherSure 70 = .ok (.iconst 0, 1) := by decide +kernel
theorem dX0_gatherSure_71 : decode cX0_gatherSure 71 = .ok (.istore_n 2, 1) := by decide +kernel
theorem dX0_gatherSure_72 : decode cX0_gatherSure 72 = .ok (.iinc 3 1, 3) := by decide +kernel
theorem dX0_gatherSure_75 : decode cX0_gatherSure 75 = .ok (.goto (-34), 3) := by decide +kernel
theorem dX0_gatherSure_78 : decode cX0_gatherSure 78 = .ok (.return_, 1) := by decide +kernel
theorem dX0_sureIn_0 : decode cX0_sureIn 0 = .ok (.iload_n 1, 1) := by decide +kernel
theorem dX0_sureIn_1 : decode cX0_sureIn 1 = .ok (.iconst 3, 1) := by decide +kernel
theorem dX0_sureIn_2 : decode cX0_sureIn 2 = .ok (.imul, 1) := by decide +kernel
theorem dX0_sureIn_3 : decode cX0_sureIn 3 = .ok (.iload_n 2, 1) := by decide +kernel
theorem dX0_sureIn_4 : decode cX0_sureIn 4 = .ok (.iadd, 1) := by decide +kernel
theorem dX0_sureIn_5 : decode cX0_sureIn 5 = .ok (.istore_n 3, 1) := by decide +kernel
theorem dX0_sureIn_6 : decode cX0_sureIn 6 = .ok (.iload_n 3, 1) := by decide +kernel
theorem dX0_sureIn_7 : decode cX0_sureIn 7 = .ok (.ifCond .lt 18, 3) := by decide +kernel
theorem dX0_sureIn_10 : decode cX0_sureIn 10 = .ok (.iload_n 3, 1) := by decide +kernel
theorem dX0_sureIn_11 : decode cX0_sureIn 11 = .ok (.bipush 24, 2) := by decide +kernel
theorem dX0_sureIn_13 : decode cX0_sureIn 13 = .ok (.if_icmp .ge 12, 3) := by decide +kernel
theorem dX0_sureIn_16 : decode cX0_sureIn 16 = .ok (.aload_n 0, 1) := by decide +kernel
theorem dX0_sureIn_17 : decode cX0_sureIn 17 = .ok (.getfield 21, 3) := by decide +kernel
theorem dX0_sureIn_20 : decode cX0_sureIn 20 = .ok (.iload_n 3, 1) := by decide +kernel
theorem dX0_sureIn_21 : decode cX0_sureIn 21 = .ok (.iaload, 1) := by decide +kernel
theorem dX0_sureIn_22 : decode cX0_sureIn 22 = .ok (.goto 4, 3) := by decide +kernel
theorem dX0_sureIn_25 : decode cX0_sureIn 25 = .ok (.iconst 0, 1) := by decide +kernel
theorem dX0_sureIn_26 : decode cX0_sureIn 26 = .ok (.ireturn, 1) := by decide +kernel
set_option maxRecDepth 20000 in
theorem ggX0_takeAll_X0_sixtyHere : GoodIn wsX0_takeAll wsX0_sixtyHere := goodIn_r _ [7, 8, 9, 10, 11, 12, 13, 14, 15, 16, 17, 18, 19, 20, 21, 22, 23, 24, 25, 26, 27, 28, 29, 30, 31, 32, 33, 34, 35, 36, 37] (by decide +kernel) (by decide +kernel)
set_option maxRecDepth 20000 in
theorem gX0_takeAll_X0_sixtyHere : GoodIn wsX0_takeAll (wsV RX0 64 RX0 yX0_sixtyHere wsX0_sixtyHere) := goodIn_app (goodIn_of _ (by decide +kernel)) ggX0_takeAll_X0_sixtyHere
theorem dX0_takeAll_0 : decode cX0_takeAll 0 = .ok (.iconst 0, 1) := by decide +kernel
theorem dX0_takeAll_1 : decode cX0_takeAll 1 = .ok (.istore_n 1, 1) := by decide +kernel
theorem dX0_takeAll_2 : decode cX0_takeAll 2 = .ok (.iload_n 1, 1) := by decide +kernel
theorem dX0_takeAll_3 : decode cX0_takeAll 3 = .ok (.aload_n 0, 1) := by decide +kernel
theorem dX0_takeAll_4 : decode cX0_takeAll 4 = .ok (.getfield 28, 3) := by decide +kernel
theorem dX0_takeAll_7 : decode cX0_takeAll 7 = .ok (.iconst 3, 1) := by decide +kernel
theorem dX0_takeAll_8 : decode cX0_takeAll 8 = .ok (.imul, 1) := by decide +kernel
theorem dX0_takeAll_9 : decode cX0_takeAll 9 = .ok (.if_icmp .ge 31, 3) := by decide +kernel
theorem dX0_takeAll_12 : decode cX0_takeAll 12 = .ok (.iload_n 1, 1) := by decide +kernel
theorem dX0_takeAll_13 : decode cX0_takeAll 13 = .ok (.bipush 24, 2) := by decide +kernel
theorem dX0_takeAll_15 : decode cX0_takeAll 15 = .ok (.if_icmp .ge 25, 3) := by decide +kernel
theorem dX0_takeAll_18 : decode cX0_takeAll 18 = .ok (.aload_n 0, 1) := by decide +kernel
theorem dX0_takeAll_19 : decode cX0_takeAll 19 = .ok (.getfield 21, 3) := by decide +kernel
theorem dX0_takeAll_22 : decode cX0_takeAll 22 = .ok (.iload_n 1, 1) := by decide +kernel
theorem dX0_takeAll_23 : decode cX0_takeAll 23 = .ok (.aload_n 0, 1) := by decide +kernel
theorem dX0_takeAll_24 : decode cX0_takeAll 24 = .ok (.iload_n 1, 1) := by decide +kernel
theorem dX0_takeAll_25 : decode cX0_takeAll 25 = .ok (.iconst 3, 1) := by decide +kernel
theorem dX0_takeAll_26 : decode cX0_takeAll 26 = .ok (.idiv, 1) := by decide +kernel
theorem dX0_takeAll_27 : decode cX0_takeAll 27 = .ok (.iload_n 1, 1) := by decide +kernel
theorem dX0_takeAll_28 : decode cX0_takeAll 28 = .ok (.iconst 3, 1) := by decide +kernel
theorem dX0_takeAll_29 : decode cX0_takeAll 29 = .ok (.irem, 1) := by decide +kernel
theorem dX0_takeAll_30 : decode cX0_takeAll 30 = .ok (.invokevirtual 64, 3) := by decide +kernel
theorem dX0_takeAll_33 : decode cX0_takeAll 33 = .ok (.iastore, 1) := by decide +kernel
theorem dX0_takeAll_34 : decode cX0_takeAll 34 = .ok (.iinc 1 1, 3) := by decide +kernel
theorem dX0_takeAll_37 : decode cX0_takeAll 37 = .ok (.goto (-35), 3) := by decide +kernel
theorem dX0_takeAll_40 : decode cX0_takeAll 40 = .ok (.return_, 1) := by decide +kernel
set_option maxRecDepth 20000 in
theorem ggX0_keepAgreed_X0_sixtyHere : GoodIn wsX0_keepAgreed wsX0_sixtyHere := goodIn_r _ [8, 9, 10, 11, 12, 13, 14, 15, 16, 17, 18, 19, 20, 21, 22, 23, 24, 25, 26, 27, 28, 29, 30, 31, 32, 33, 34, 35, 36, 37, 38] (by decide +kernel) (by decide +kernel)
set_option maxRecDepth 20000 in
theorem gX0_keepAgreed_X0_sixtyHere : GoodIn wsX0_keepAgreed (wsV RX0 64 RX0 yX0_sixtyHere wsX0_sixtyHere) := goodIn_app (goodIn_of _ (by decide +kernel)) ggX0_keepAgreed_X0_sixtyHere
theorem dX0_keepAgreed_0 : decode cX0_keepAgreed 0 = .ok (.iconst 0, 1) := by decide +kernel
theorem dX0_keepAgreed_1 : decode cX0_keepAgreed 1 = .ok (.istore_n 1, 1) := by decide +kernel
theorem dX0_keepAgreed_2 : decode cX0_keepAgreed 2 = .ok (.iconst 0, 1) := by decide +kernel
theorem dX0_keepAgreed_3 : decode cX0_keepAgreed 3 = .ok (.istore_n 2, 1) := by decide +kernel
theorem dX0_keepAgreed_4 : decode cX0_keepAgreed 4 = .ok (.iload_n 2, 1) := by decide +kernel
theorem dX0_keepAgreed_5 : decode cX0_keepAgreed 5 = .ok (.aload_n 0, 1) := by decide +kernel
theorem dX0_keepAgreed_6 : decode cX0_keepAgreed 6 = .ok (.getfield 28, 3) := by decide +kernel
theorem dX0_keepAgreed_9 : decode cX0_keepAgreed 9 = .ok (.iconst 3, 1) := by decide +kernel
theorem dX0_keepAgreed_10 : decode cX0_keepAgreed 10 = .ok (.imul, 1) := by decide +kernel
theorem dX0_keepAgreed_11 : decode cX0_keepAgreed 11 = .ok (.if_icmp .ge 56, 3) := by decide +kernel
theorem dX0_keepAgreed_14 : decode cX0_keepAgreed 14 = .ok (.iload_n 2, 1) := by decide +kernel
theorem dX0_keepAgreed_15 : decode cX0_keepAgreed 15 = .ok (.bipush 24, 2) := by decide +kernel
theorem dX0_keepAgreed_17 : decode cX0_keepAgreed 17 = .ok (.if_icmp .ge 50, 3) := by decide +kernel
theorem dX0_keepAgreed_20 : decode cX0_keepAgreed 20 = .ok (.aload_n 0, 1) := by decide +kernel
theorem dX0_keepAgreed_21 : decode cX0_keepAgreed 21 = .ok (.getfield 21, 3) := by decide +kernel
theorem dX0_keepAgreed_24 : decode cX0_keepAgreed 24 = .ok (.iload_n 2, 1) := by decide +kernel
theorem dX0_keepAgreed_25 : decode cX0_keepAgreed 25 = .ok (.iaload, 1) := by decide +kernel
theorem dX0_keepAgreed_26 : decode cX0_keepAgreed 26 = .ok (.ifCond .eq 35, 3) := by decide +kernel
theorem dX0_keepAgreed_29 : decode cX0_keepAgreed 29 = .ok (.aload_n 0, 1) := by decide +kernel
theorem dX0_keepAgreed_30 : decode cX0_keepAgreed 30 = .ok (.getfield 21, 3) := by decide +kernel
theorem dX0_keepAgreed_33 : decode cX0_keepAgreed 33 = .ok (.iload_n 2, 1) := by decide +kernel
theorem dX0_keepAgreed_34 : decode cX0_keepAgreed 34 = .ok (.iaload, 1) := by decide +kernel
theorem dX0_keepAgreed_35 : decode cX0_keepAgreed 35 = .ok (.aload_n 0, 1) := by decide +kernel
theorem dX0_keepAgreed_36 : decode cX0_keepAgreed 36 = .ok (.iload_n 2, 1) := by decide +kernel
theorem dX0_keepAgreed_37 : decode cX0_keepAgreed 37 = .ok (.iconst 3, 1) := by decide +kernel
theorem dX0_keepAgreed_38 : decode cX0_keepAgreed 38 = .ok (.idiv, 1) := by decide +kernel
theorem dX0_keepAgreed_39 : decode cX0_keepAgreed 39 = .ok (.iload_n 2, 1) := by decide +kernel
theorem dX0_keepAgreed_40 : decode cX0_keepAgreed 40 = .ok (.iconst 3, 1) := by decide +kernel
theorem dX0_keepAgreed_41 : decode cX0_keepAgreed 41 = .ok (.irem, 1) := by decide +kernel
theorem dX0_keepAgreed_42 : decode cX0_keepAgreed 42 = .ok (.invokevirtual 64, 3) := by decide +kernel
theorem dX0_keepAgreed_45 : decode cX0_keepAgreed 45 = .ok (.if_icmp .ne 9, 3) := by decide +kernel
theorem dX0_keepAgreed_48 : decode cX0_keepAgreed 48 = .ok (.iinc 1 1, 3) := by decide +kernel
theorem dX0_keepAgreed_51 : decode cX0_keepAgreed 51 = .ok (.goto 10, 3) := by decide +kernel
theorem dX0_keepAgreed_54 : decode cX0_keepAgreed 54 = .ok (.aload_n 0, 1) := by decide +kernel
theorem dX0_keepAgreed_55 : decode cX0_keepAgreed 55 = .ok (.getfield 21, 3) := by decide +kernel
theorem dX0_keepAgreed_58 : decode cX0_keepAgreed 58 = .ok (.iload_n 2, 1) := by decide +kernel
theorem dX0_keepAgreed_59 : decode cX0_keepAgreed 59 = .ok (.iconst 0, 1) := by decide +kernel
theorem dX0_keepAgreed_60 : decode cX0_keepAgreed 60 = .ok (.iastore, 1) := by decide +kernel
theorem dX0_keepAgreed_61 : decode cX0_keepAgreed 61 = .ok (.iinc 2 1, 3) := by decide +kernel
theorem dX0_keepAgreed_64 : decode cX0_keepAgreed 64 = .ok (.goto (-60), 3) := by decide +kernel
theorem dX0_keepAgreed_67 : decode cX0_keepAgreed 67 = .ok (.iload_n 1, 1) := by decide +kernel
theorem dX0_keepAgreed_68 : decode cX0_keepAgreed 68 = .ok (.aload_n 0, 1) := by decide +kernel
theorem dX0_keepAgreed_69 : decode cX0_keepAgreed 69 = .ok (.getfield 24, 3) := by decide +kernel
theorem dX0_keepAgreed_72 : decode cX0_keepAgreed 72 = .ok (.if_icmp .le 7, 3) := by decide +kernel
theorem dX0_keepAgreed_75 : decode cX0_keepAgreed 75 = .ok (.iconst 1, 1) := by decide +kernel
theorem dX0_keepAgreed_76 : decode cX0_keepAgreed 76 = .ok (.goto 4, 3) := by decide +kernel
theorem dX0_keepAgreed_79 : decode cX0_keepAgreed 79 = .ok (.iconst 0, 1) := by decide +kernel
theorem dX0_keepAgreed_80 : decode cX0_keepAgreed 80 = .ok (.ireturn, 1) := by decide +kernel
theorem dX1_isNumber_0 : decode cX1_isNumber 0 = .ok (.lload_n 0, 1) := by decide +kernel
theorem dX1_isNumber_1 : decode cX1_isNumber 1 = .ok (.lconst 1, 1) := by decide +kernel
theorem dX1_isNumber_2 : decode cX1_isNumber 2 = .ok (.lcmp, 1) := by decide +kernel
theorem dX1_isNumber_3 : decode cX1_isNumber 3 = .ok (.ifCond .lt 15, 3) := by decide +kernel
theorem dX1_isNumber_6 : decode cX1_isNumber 6 = .ok (.lload_n 0, 1) := by decide +kernel
theorem dX1_isNumber_7 : decode cX1_isNumber 7 = .ok (.ldc2_w 9, 3) := by decide +kernel
theorem dX1_isNumber_10 : decode cX1_isNumber 10 = .ok (.lcmp, 1) := by decide +kernel
theorem dX1_isNumber_11 : decode cX1_isNumber 11 = .ok (.ifCond .ge 7, 3) := by decide +kernel
theorem dX1_isNumber_14 : decode cX1_isNumber 14 = .ok (.iconst 1, 1) := by decide +kernel
theorem dX1_isNumber_15 : decode cX1_isNumber 15 = .ok (.goto 4, 3) := by decide +kernel
theorem dX1_isNumber_18 : decode cX1_isNumber 18 = .ok (.iconst 0, 1) := by decide +kernel
theorem dX1_isNumber_19 : decode cX1_isNumber 19 = .ok (.ireturn, 1) := by decide +kernel
theorem dX1_strip_0 : decode cX1_strip 0 = .ok (.lload_n 0, 1) := by decide +kernel
theorem dX1_strip_1 : decode cX1_strip 1 = .ok (.lstore_n 2, 1) := by decide +kernel
theorem dX1_strip_2 : decode cX1_strip 2 = .ok (.iconst 0, 1) := by decide +kernel
theorem dX1_strip_3 : decode cX1_strip 3 = .ok (.istore 4, 2) := by decide +kernel
theorem dX1_strip_5 : decode cX1_strip 5 = .ok (.iload 4, 2) := by decide +kernel
theorem dX1_strip_7 : decode cX1_strip 7 = .ok (.bipush 8, 2) := by decide +kernel
theorem dX1_strip_9 : decode cX1_strip 9 = .ok (.if_icmp .ge 25, 3) := by decide +kernel
theorem dX1_strip_12 : decode cX1_strip 12 = .ok (.lload_n 2, 1) := by decide +kernel
theorem dX1_strip_13 : decode cX1_strip 13 = .ok (.ldc2_w 11, 3) := by decide +kernel
theorem dX1_strip_16 : decode cX1_strip 16 = .ok (.lrem, 1) := by decide +kernel
theorem dX1_strip_17 : decode cX1_strip 17 = .ok (.lconst 0, 1) := by decide +kernel
theorem dX1_strip_18 : decode cX1_strip 18 = .ok (.lcmp, 1) := by decide +kernel
theorem dX1_strip_19 : decode cX1_strip 19 = .ok (.ifCond .ne 15, 3) := by decide +kernel
theorem dX1_strip_22 : decode cX1_strip 22 = .ok (.lload_n 2, 1) := by decide +kernel
theorem dX1_strip_23 : decode cX1_strip 23 = .ok (.ldc2_w 11, 3) := by decide +kernel
theorem dX1_strip_26 : decode cX1_strip 26 = .ok (.ldiv, 1) := by decide +kernel
theorem dX1_strip_27 : decode cX1_strip 27 = .ok (.lstore_n 2, 1) := by decide +kernel
theorem dX1_strip_28 : decode cX1_strip 28 = .ok (.iinc 4 1, 3) := by decide +kernel
theorem dX1_strip_31 : decode cX1_strip 31 = .ok (.goto (-26), 3) := by decide +kernel
theorem dX1_strip_34 : decode cX1_strip 34 = .ok (.lload_n 2, 1) := by decide +kernel
theorem dX1_strip_35 : decode cX1_strip 35 = .ok (.lreturn, 1) := by decide +kernel
theorem dX1_length_0 : decode cX1_length 0 = .ok (.iconst 0, 1) := by decide +kernel
theorem dX1_length_1 : decode cX1_length 1 = .ok (.istore_n 2, 1) := by decide +kernel
theorem dX1_length_2 : decode cX1_length 2 = .ok (.lload_n 0, 1) := by decide +kernel
theorem dX1_length_3 : decode cX1_length 3 = .ok (.lstore_n 3, 1) := by decide +kernel
theorem dX1_length_4 : decode cX1_length 4 = .ok (.iconst 0, 1) := by decide +kernel
theorem dX1_length_5 : decode cX1_length 5 = .ok (.istore 5, 2) := by decide +kernel
theorem dX1_length_7 : decode cX1_length 7 = .ok (.iload 5, 2) := by decide +kernel
theorem dX1_length_9 : decode cX1_length 9 = .ok (.bipush 8, 2) := by decide +kernel
theorem dX1_length_11 : decode cX1_length 11 = .ok (.if_icmp .ge 24, 3) := by decide +kernel
theorem dX1_length_14 : decode cX1_length 14 = .ok (.lload_n 3, 1) := by decide +kernel
theorem dX1_length_15 : decode cX1_length 15 = .ok (.lconst 0, 1) := by decide +kernel
theorem dX1_length_16 : decode cX1_length 16 = .ok (.lcmp, 1) := by decide +kernel
theorem dX1_length_17 : decode cX1_length 17 = .ok (.ifCond .le 18, 3) := by decide +kernel
theorem dX1_length_20 : decode cX1_length 20 = .ok (.lload_n 3, 1) := by decide +kernel
theorem dX1_length_21 : decode cX1_length 21 = .ok (.ldc2_w 11, 3) := by decide +kernel
theorem dX1_length_24 : decode cX1_length 24 = .ok (.ldiv, 1) := by decide +kernel
theorem dX1_length_25 : decode cX1_length 25 = .ok (.lstore_n 3, 1) := by decide +kernel
theorem dX1_length_26 : decode cX1_length 26 = .ok (.iinc 2 1, 3) := by decide +kernel
theorem dX1_length_29 : decode cX1_length 29 = .ok (.iinc 5 1, 3) := by decide +kernel
theorem dX1_length_32 : decode cX1_length 32 = .ok (.goto (-25), 3) := by decide +kernel
theorem dX1_length_35 : decode cX1_length 35 = .ok (.iload_n 2, 1) := by decide +kernel
theorem dX1_length_36 : decode cX1_length 36 = .ok (.ireturn, 1) := by decide +kernel
theorem dX1_digitAhead_0 : decode cX1_digitAhead 0 = .ok (.lload_n 0, 1) := by decide +kernel
theorem dX1_digitAhead_1 : decode cX1_digitAhead 1 = .ok (.lstore_n 3, 1) := by decide +kernel
theorem dX1_digitAhead_2 : decode cX1_digitAhead 2 = .ok (.iconst 0, 1) := by decide +kernel
theorem dX1_digitAhead_3 : decode cX1_digitAhead 3 = .ok (.istore 5, 2) := by decide +kernel
theorem dX1_digitAhead_5 : decode cX1_digitAhead 5 = .ok (.iload 5, 2) := by decide +kernel
theorem dX1_digitAhead_7 : decode cX1_digitAhead 7 = .ok (.iload_n 2, 1) := by decide +kernel
theorem dX1_digitAhead_8 : decode cX1_digitAhead 8 = .ok (.if_icmp .ge 22, 3) := by decide +kernel
theorem dX1_digitAhead_11 : decode cX1_digitAhead 11 = .ok (.iload 5, 2) := by decide +kernel
theorem dX1_digitAhead_13 : decode cX1_digitAhead 13 = .ok (.bipush 8, 2) := by decide +kernel
theorem dX1_digitAhead_15 : decode cX1_digitAhead 15 = .ok (.if_icmp .ge 15, 3) := by decide +kernel
theorem dX1_digitAhead_18 : decode cX1_digitAhead 18 = .ok (.lload_n 3, 1) := by decide +kernel
theorem dX1_digitAhead_19 : decode cX1_digitAhead 19 = .ok (.ldc2_w 11, 3) := by decide +kernel
theorem dX1_digitAhead_22 : decode cX1_digitAhead 22 = .ok (.ldiv, 1) := by decide +kernel
theorem dX1_digitAhead_23 : decode cX1_digitAhead 23 = .ok (.lstore_n 3, 1) := by decide +kernel
theorem dX1_digitAhead_24 : decode cX1_digitAhead 24 = .ok (.iinc 5 1, 3) := by decide +kernel
theorem dX1_digitAhead_27 : decode cX1_digitAhead 27 = .ok (.goto (-22), 3) := by decide +kernel
theorem dX1_digitAhead_30 : decode cX1_digitAhead 30 = .ok (.lload_n 3, 1) := by decide +kernel
theorem dX1_digitAhead_31 : decode cX1_digitAhead 31 = .ok (.ldc2_w 11, 3) := by decide +kernel
theorem dX1_digitAhead_34 : decode cX1_digitAhead 34 = .ok (.lrem, 1) := by decide +kernel
theorem dX1_digitAhead_35 : decode cX1_digitAhead 35 = .ok (.l2i, 1) := by decide +kernel
theorem dX1_digitAhead_36 : decode cX1_digitAhead 36 = .ok (.ireturn, 1) := by decide +kernel
theorem dX1_sightLength_0 : decode cX1_sightLength 0 = .ok (.iconst 0, 1) := by decide +kernel
theorem dX1_sightLength_1 : decode cX1_sightLength 1 = .ok (.istore_n 2, 1) := by decide +kernel
theorem dX1_sightLength_2 : decode cX1_sightLength 2 = .ok (.lload_n 0, 1) := by decide +kernel
theorem dX1_sightLength_3 : decode cX1_sightLength 3 = .ok (.lstore_n 3, 1) := by decide +kernel
theorem dX1_sightLength_4 : decode cX1_sightLength 4 = .ok (.iconst 0, 1) := by decide +kernel
theorem dX1_sightLength_5 : decode cX1_sightLength 5 = .ok (.istore 5, 2) := by decide +kernel
theorem dX1_sightLength_7 : decode cX1_sightLength 7 = .ok (.iload 5, 2) := by decide +kernel
theorem dX1_sightLength_9 : decode cX1_sightLength 9 = .ok (.bipush 8, 2) := by decide +kernel
theorem dX1_sightLength_11 : decode cX1_sightLength 11 = .ok (.if_icmp .ge 34, 3) := by decide +kernel
theorem dX1_sightLength_14 : decode cX1_sightLength 14 = .ok (.lload_n 3, 1) := by decide +kernel
theorem dX1_sightLength_15 : decode cX1_sightLength 15 = .ok (.lconst 0, 1) := by decide +kernel
theorem dX1_sightLength_16 : decode cX1_sightLength 16 = .ok (.lcmp, 1) := by decide +kernel
theorem dX1_sightLength_17 : decode cX1_sightLength 17 = .ok (.ifCond .le 28, 3) := by decide +kernel
theorem dX1_sightLength_20 : decode cX1_sightLength 20 = .ok (.lload_n 3, 1) := by decide +kernel
theorem dX1_sightLength_21 : decode cX1_sightLength 21 = .ok (.ldc2_w 11, 3) := by decide +kernel
theorem dX1_sightLength_24 : decode cX1_sightLength 24 = .ok (.lrem, 1) := by decide +kernel
theorem dX1_sightLength_25 : decode cX1_sightLength 25 = .ok (.lconst 0, 1) := by decide +kernel
theorem dX1_sightLength_26 : decode cX1_sightLength 26 = .ok (.lcmp, 1) := by decide +kernel
theorem dX1_sightLength_27 : decode cX1_sightLength 27 = .ok (.ifCond .eq 6, 3) := by decide +kernel
theorem dX1_sightLength_30 : decode cX1_sightLength 30 = .ok (.iinc 2 1, 3) := by decide +kernel
theorem dX1_sightLength_33 : decode cX1_sightLength 33 = .ok (.lload_n 3, 1) := by decide +kernel
theorem dX1_sightLength_34 : decode cX1_sightLength 34 = .ok (.ldc2_w 11, 3) := by decide +kernel
theorem dX1_sightLength_37 : decode cX1_sightLength 37 = .ok (.ldiv, 1) := by decide +kernel
theorem dX1_sightLength_38 : decode cX1_sightLength 38 = .ok (.lstore_n 3, 1) := by decide +kernel
theorem dX1_sightLength_39 : decode cX1_sightLength 39 = .ok (.iinc 5 1, 3) := by decide +kernel
theorem dX1_sightLength_42 : decode cX1_sightLength 42 = .ok (.goto (-35), 3) := by decide +kernel
theorem dX1_sightLength_45 : decode cX1_sightLength 45 = .ok (.iload_n 2, 1) := by decide +kernel
theorem dX1_sightLength_46 : decode cX1_sightLength 46 = .ok (.ireturn, 1) := by decide +kernel
set_option maxRecDepth 20000 in
theorem ggX1_spread_X1_strip : GoodIn wsX1_spread wsX1_strip := goodIn_r _ [5, 1] (by decide +kernel) (by decide +kernel)
set_option maxRecDepth 20000 in
theorem gX1_spread_X1_strip : GoodIn wsX1_spread (va_wsS RX1 13 yX1_strip wsX1_strip) := goodIn_app (goodIn_of _ (by decide +kernel)) ggX1_spread_X1_strip
theorem dX1_spread_0 : decode cX1_spread 0 = .ok (.lload_n 0, 1) := by decide +kernel
theorem dX1_spread_1 : decode cX1_spread 1 = .ok (.invokestatic 13, 3) := by decide +kernel
theorem dX1_spread_4 : decode cX1_spread 4 = .ok (.lstore_n 3, 1) := by decide +kernel
theorem dX1_spread_5 : decode cX1_spread 5 = .ok (.lconst 1, 1) := by decide +kernel
theorem dX1_spread_6 : decode cX1_spread 6 = .ok (.lstore 5, 2) := by decide +kernel
theorem dX1_spread_8 : decode cX1_spread 8 = .ok (.lconst 0, 1) := by decide +kernel
theorem dX1_spread_9 : decode cX1_spread 9 = .ok (.lstore 7, 2) := by decide +kernel
theorem dX1_spread_11 : decode cX1_spread 11 = .ok (.iconst 0, 1) := by decide +kernel
theorem dX1_spread_12 : decode cX1_spread 12 = .ok (.istore 9, 2) := by decide +kernel
theorem dX1_spread_14 : decode cX1_spread 14 = .ok (.iload 9, 2) := by decide +kernel
theorem dX1_spread_16 : decode cX1_spread 16 = .ok (.bipush 8, 2) := by decide +kernel
theorem dX1_spread_18 : decode cX1_spread 18 = .ok (.if_icmp .ge 49, 3) := by decide +kernel
theorem dX1_spread_21 : decode cX1_spread 21 = .ok (.iload_n 2, 1) := by decide +kernel
theorem dX1_spread_22 : decode cX1_spread 22 = .ok (.iload 9, 2) := by decide +kernel
theorem dX1_spread_24 : decode cX1_spread 24 = .ok (.ishr, 1) := by decide +kernel
theorem dX1_spread_25 : decode cX1_spread 25 = .ok (.iconst 1, 1) := by decide +kernel
theorem dX1_spread_26 : decode cX1_spread 26 = .ok (.iand, 1) := by decide +kernel
theorem dX1_spread_27 : decode cX1_spread 27 = .ok (.iconst 1, 1) := by decide +kernel
theorem dX1_spread_28 : decode cX1_spread 28 = .ok (.if_icmp .ne 25, 3) := by decide +kernel
theorem dX1_spread_31 : decode cX1_spread 31 = .ok (.lload 7, 2) := by decide +kernel
theorem dX1_spread_33 : decode cX1_spread 33 = .ok (.lload_n 3, 1) := by decide +kernel
theorem dX1_spread_34 : decode cX1_spread 34 = .ok (.ldc2_w 11, 3) := by decide +kernel
theorem dX1_spread_37 : decode cX1_spread 37 = .ok (.lrem, 1) := by decide +kernel
theorem dX1_spread_38 : decode cX1_spread 38 = .ok (.lload 5, 2) := by decide +kernel
theorem dX1_spread_40 : decode cX1_spread 40 = .ok (.lmul, 1) := by decide +kernel
theorem dX1_spread_41 : decode cX1_spread 41 = .ok (.ladd, 1) := by decide +kernel
theorem dX1_spread_42 : decode cX1_spread 42 = .ok (.lstore 7, 2) := by decide +kernel
theorem dX1_spread_44 : decode cX1_spread 44 = .ok (.lload_n 3, 1) := by decide +kernel
theorem dX1_spread_45 : decode cX1_spread 45 = .ok (.ldc2_w 11, 3) := by decide +kernel
theorem dX1_spread_48 : decode cX1_spread 48 = .ok (.ldiv, 1) := by decide +kernel
theorem dX1_spread_49 : decode cX1_spread 49 = .ok (.invokestatic 13, 3) := by decide +kernel
theorem dX1_spread_52 : decode cX1_spread 52 = .ok (.lstore_n 3, 1) := by decide +kernel
theorem dX1_spread_53 : decode cX1_spread 53 = .ok (.lload 5, 2) := by decide +kernel
theorem dX1_spread_55 : decode cX1_spread 55 = .ok (.ldc2_w 11, 3) := by decide +kernel
theorem dX1_spread_58 : decode cX1_spread 58 = .ok (.lmul, 1) := by decide +kernel
theorem dX1_spread_59 : decode cX1_spread 59 = .ok (.lstore 5, 2) := by decide +kernel
theorem dX1_spread_61 : decode cX1_spread 61 = .ok (.iinc 9 1, 3) := by decide +kernel
theorem dX1_spread_64 : decode cX1_spread 64 = .ok (.goto (-50), 3) := by decide +kernel
theorem dX1_spread_67 : decode cX1_spread 67 = .ok (.lload 7, 2) := by decide +kernel
theorem dX1_spread_69 : decode cX1_spread 69 = .ok (.lreturn, 1) := by decide +kernel
theorem dX1_raise_0 : decode cX1_raise 0 = .ok (.lload_n 0, 1) := by decide +kernel
theorem dX1_raise_1 : decode cX1_raise 1 = .ok (.lstore_n 3, 1) := by decide +kernel
theorem dX1_raise_2 : decode cX1_raise 2 = .ok (.iconst 0, 1) := by decide +kernel
theorem dX1_raise_3 : decode cX1_raise 3 = .ok (.istore 5, 2) := by decide +kernel
theorem dX1_raise_5 : decode cX1_raise 5 = .ok (.iload 5, 2) := by decide +kernel
theorem dX1_raise_7 : decode cX1_raise 7 = .ok (.iload_n 2, 1) := by decide +kernel
theorem dX1_raise_8 : decode cX1_raise 8 = .ok (.if_icmp .ge 29, 3) := by decide +kernel
theorem dX1_raise_11 : decode cX1_raise 11 = .ok (.lload_n 3, 1) := by decide +kernel
theorem dX1_raise_12 : decode cX1_raise 12 = .ok (.ldc2_w 17, 3) := by decide +kernel
theorem dX1_raise_15 : decode cX1_raise 15 = .ok (.lcmp, 1) := by decide +kernel
theorem dX1_raise_16 : decode cX1_raise 16 = .ok (.ifCond .lt 9, 3) := by decide +kernel
theorem dX1_raise_19 : decode cX1_raise 19 = .ok (.ldc2_w 9, 3) := by decide +kernel
theorem dX1_raise_22 : decode cX1_raise 22 = .ok (.goto 8, 3) := by decide +kernel
theorem dX1_raise_25 : decode cX1_raise 25 = .ok (.lload_n 3, 1) := by decide +kernel
theorem dX1_raise_26 : decode cX1_raise 26 = .ok (.ldc2_w 11, 3) := by decide +kernel
theorem dX1_raise_29 : decode cX1_raise 29 = .ok (.lmul, 1) := by decide +kernel
theorem dX1_raise_30 : decode cX1_raise 30 = .ok (.lstore_n 3, 1) := by decide +kernel
theorem dX1_raise_31 : decode cX1_raise 31 = .ok (.iinc 5 1, 3) := by decide +kernel
theorem dX1_raise_34 : decode cX1_raise 34 = .ok (.goto (-29), 3) := by decide +kernel
theorem dX1_raise_37 : decode cX1_raise 37 = .ok (.lload_n 3, 1) := by decide +kernel
theorem dX1_raise_38 : decode cX1_raise 38 = .ok (.lreturn, 1) := by decide +kernel
theorem dX1_atPlace_0 : decode cX1_atPlace 0 = .ok (.lload_n 0, 1) := by decide +kernel
theorem dX1_atPlace_1 : decode cX1_atPlace 1 = .ok (.lstore_n 3, 1) := by decide +kernel
theorem dX1_atPlace_2 : decode cX1_atPlace 2 = .ok (.iconst 0, 1) := by decide +kernel
theorem dX1_atPlace_3 : decode cX1_atPlace 3 = .ok (.istore 5, 2) := by decide +kernel
theorem dX1_atPlace_5 : decode cX1_atPlace 5 = .ok (.iload 5, 2) := by decide +kernel
theorem dX1_atPlace_7 : decode cX1_atPlace 7 = .ok (.iload_n 2, 1) := by decide +kernel
theorem dX1_atPlace_8 : decode cX1_atPlace 8 = .ok (.if_icmp .ge 22, 3) := by decide +kernel
theorem dX1_atPlace_11 : decode cX1_atPlace 11 = .ok (.iload 5, 2) := by decide +kernel
theorem dX1_atPlace_13 : decode cX1_atPlace 13 = .ok (.bipush 8, 2) := by decide +kernel
theorem dX1_atPlace_15 : decode cX1_atPlace 15 = .ok (.if_icmp .ge 15, 3) := by decide +kernel
theorem dX1_atPlace_18 : decode cX1_atPlace 18 = .ok (.lload_n 3, 1) := by decide +kernel
theorem dX1_atPlace_19 : decode cX1_atPlace 19 = .ok (.ldc2_w 11, 3) := by decide +kernel
theorem dX1_atPlace_22 : decode cX1_atPlace 22 = .ok (.lmul, 1) := by decide +kernel
theorem dX1_atPlace_23 : decode cX1_atPlace 23 = .ok (.lstore_n 3, 1) := by decide +kernel
theorem dX1_atPlace_24 : decode cX1_atPlace 24 = .ok (.iinc 5 1, 3) := by decide +kernel
theorem dX1_atPlace_27 : decode cX1_atPlace 27 = .ok (.goto (-22), 3) := by decide +kernel
theorem dX1_atPlace_30 : decode cX1_atPlace 30 = .ok (.lload_n 3, 1) := by decide +kernel
theorem dX1_atPlace_31 : decode cX1_atPlace 31 = .ok (.lreturn, 1) := by decide +kernel
theorem dX1_floorRoot_0 : decode cX1_floorRoot 0 = .ok (.lconst 0, 1) := by decide +kernel
theorem dX1_floorRoot_1 : decode cX1_floorRoot 1 = .ok (.lstore_n 2, 1) := by decide +kernel
theorem dX1_floorRoot_2 : decode cX1_floorRoot 2 = .ok (.ldc2_w 19, 3) := by decide +kernel
theorem dX1_floorRoot_5 : decode cX1_floorRoot 5 = .ok (.lstore 4, 2) := by decide +kernel
theorem dX1_floorRoot_7 : decode cX1_floorRoot 7 = .ok (.iconst 0, 1) := by decide +kernel
theorem dX1_floorRoot_8 : decode cX1_floorRoot 8 = .ok (.istore 6, 2) := by decide +kernel
theorem dX1_floorRoot_10 : decode cX1_floorRoot 10 = .ok (.iload 6, 2) := by decide +kernel
theorem dX1_floorRoot_12 : decode cX1_floorRoot 12 = .ok (.bipush 31, 2) := by decide +kernel
theorem dX1_floorRoot_14 : decode cX1_floorRoot 14 = .ok (.if_icmp .ge 48, 3) := by decide +kernel
theorem dX1_floorRoot_17 : decode cX1_floorRoot 17 = .ok (.lload 4, 2) := by decide +kernel
theorem dX1_floorRoot_19 : decode cX1_floorRoot 19 = .ok (.lload_n 2, 1) := by decide +kernel
theorem dX1_floorRoot_20 : decode cX1_floorRoot 20 = .ok (.lsub, 1) := by decide +kernel
theorem dX1_floorRoot_21 : decode cX1_floorRoot 21 = .ok (.lconst 1, 1) := by decide +kernel
theorem dX1_floorRoot_22 : decode cX1_floorRoot 22 = .ok (.lcmp, 1) := by decide +kernel
theorem dX1_floorRoot_23 : decode cX1_floorRoot 23 = .ok (.ifCond .le 39, 3) := by decide +kernel
theorem dX1_floorRoot_26 : decode cX1_floorRoot 26 = .ok (.lload_n 2, 1) := by decide +kernel
theorem dX1_floorRoot_27 : decode cX1_floorRoot 27 = .ok (.lload 4, 2) := by decide +kernel
theorem dX1_floorRoot_29 : decode cX1_floorRoot 29 = .ok (.ladd, 1) := by decide +kernel
theorem dX1_floorRoot_30 : decode cX1_floorRoot 30 = .ok (.ldc2_w 21, 3) := by decide +kernel
theorem dX1_floorRoot_33 : decode cX1_floorRoot 33 = .ok (.ldiv, 1) := by decide +kernel
theorem dX1_floorRoot_34 : decode cX1_floorRoot 34 = .ok (.lstore 7, 2) := by decide +kernel
theorem dX1_floorRoot_36 : decode cX1_floorRoot 36 = .ok (.lload 7, 2) := by decide +kernel
theorem dX1_floorRoot_38 : decode cX1_floorRoot 38 = .ok (.lload 7, 2) := by decide +kernel
theorem dX1_floorRoot_40 : decode cX1_floorRoot 40 = .ok (.lmul, 1) := by decide +kernel
theorem dX1_floorRoot_41 : decode cX1_floorRoot 41 = .ok (.lload_n 0, 1) := by decide +kernel
theorem dX1_floorRoot_42 : decode cX1_floorRoot 42 = .ok (.lcmp, 1) := by decide +kernel
theorem dX1_floorRoot_43 : decode cX1_floorRoot 43 = .ok (.ifCond .gt 9, 3) := by decide +kernel
theorem dX1_floorRoot_46 : decode cX1_floorRoot 46 = .ok (.lload 7, 2) := by decide +kernel
theorem dX1_floorRoot_48 : decode cX1_floorRoot 48 = .ok (.lstore_n 2, 1) := by decide +kernel
theorem dX1_floorRoot_49 : decode cX1_floorRoot 49 = .ok (.goto 7, 3) := by decide +kernel
theorem dX1_floorRoot_52 : decode cX1_floorRoot 52 = .ok (.lload 7, 2) := by decide +kernel
theorem dX1_floorRoot_54 : decode cX1_floorRoot 54 = .ok (.lstore 4, 2) := by decide +kernel
theorem dX1_floorRoot_56 : decode cX1_floorRoot 56 = .ok (.iinc 6 1, 3) := by decide +kernel
theorem dX1_floorRoot_59 : decode cX1_floorRoot 59 = .ok (.goto (-49), 3) := by decide +kernel
theorem dX1_floorRoot_62 : decode cX1_floorRoot 62 = .ok (.lload_n 2, 1) := by decide +kernel
theorem dX1_floorRoot_63 : decode cX1_floorRoot 63 = .ok (.lreturn, 1) := by decide +kernel
theorem dX2_isTable_0 : decode cX2_isTable 0 = .ok (.iload_n 0, 1) := by decide +kernel
theorem dX2_isTable_1 : decode cX2_isTable 1 = .ok (.ifCond .ne 20, 3) := by decide +kernel
theorem dX2_isTable_4 : decode cX2_isTable 4 = .ok (.iload_n 1, 1) := by decide +kernel
theorem dX2_isTable_5 : decode cX2_isTable 5 = .ok (.iconst 1, 1) := by decide +kernel
theorem dX2_isTable_6 : decode cX2_isTable 6 = .ok (.if_icmp .lt 13, 3) := by decide +kernel
theorem dX2_isTable_9 : decode cX2_isTable 9 = .ok (.iload_n 1, 1) := by decide +kernel
theorem dX2_isTable_10 : decode cX2_isTable 10 = .ok (.bipush 59, 2) := by decide +kernel
theorem dX2_isTable_12 : decode cX2_isTable 12 = .ok (.if_icmp .gt 7, 3) := by decide +kernel
theorem dX2_isTable_15 : decode cX2_isTable 15 = .ok (.iconst 1, 1) := by decide +kernel
theorem dX2_isTable_16 : decode cX2_isTable 16 = .ok (.goto 4, 3) := by decide +kernel
theorem dX2_isTable_19 : decode cX2_isTable 19 = .ok (.iconst 0, 1) := by decide +kernel
theorem dX2_isTable_20 : decode cX2_isTable 20 = .ok (.ireturn, 1) := by decide +kernel
theorem dX2_isTable_21 : decode cX2_isTable 21 = .ok (.iload_n 0, 1) := by decide +kernel
theorem dX2_isTable_22 : decode cX2_isTable 22 = .ok (.ifCond .le 16, 3) := by decide +kernel
theorem dX2_isTable_25 : decode cX2_isTable 25 = .ok (.iload_n 0, 1) := by decide +kernel
theorem dX2_isTable_26 : decode cX2_isTable 26 = .ok (.iconst 4, 1) := by decide +kernel
theorem dX2_isTable_27 : decode cX2_isTable 27 = .ok (.if_icmp .ge 11, 3) := by decide +kernel
theorem dX2_isTable_30 : decode cX2_isTable 30 = .ok (.iload_n 1, 1) := by decide +kernel
theorem dX2_isTable_31 : decode cX2_isTable 31 = .ok (.ifCond .ne 7, 3) := by decide +kernel
theorem dX2_isTable_34 : decode cX2_isTable 34 = .ok (.iconst 1, 1) := by decide +kernel
theorem dX2_isTable_35 : decode cX2_isTable 35 = .ok (.goto 4, 3) := by decide +kernel
theorem dX2_isTable_38 : decode cX2_isTable 38 = .ok (.iconst 0, 1) := by decide +kernel
theorem dX2_isTable_39 : decode cX2_isTable 39 = .ok (.ireturn, 1) := by decide +kernel
set_option maxRecDepth 20000 in
theorem ggX2_rowsOf_X4_listRows : GoodIn wsX2_rowsOf wsX4_listRows := goodIn_r _ [4, 5] (by decide +kernel) (by decide +kernel)
set_option maxRecDepth 20000 in
theorem gX2_rowsOf_X4_listRows : GoodIn wsX2_rowsOf (va_wsS RX2 9 yX4_listRows wsX4_listRows) := goodIn_app (goodIn_of _ (by decide +kernel)) ggX2_rowsOf_X4_listRows
theorem dX2_rowsOf_0 : decode cX2_rowsOf 0 = .ok (.iload_n 0, 1) := by decide +kernel
theorem dX2_rowsOf_1 : decode cX2_rowsOf 1 = .ok (.lookupswitch 34 #[(1, 27), (3, 31)], 27) := by decide +kernel
theorem dX2_rowsOf_28 : decode cX2_rowsOf 28 = .ok (.invokestatic 9, 3) := by decide +kernel
theorem dX2_rowsOf_31 : decode cX2_rowsOf 31 = .ok (.ireturn, 1) := by decide +kernel
theorem dX2_rowsOf_32 : decode cX2_rowsOf 32 = .ok (.bipush 40, 2) := by decide +kernel
theorem dX2_rowsOf_34 : decode cX2_rowsOf 34 = .ok (.ireturn, 1) := by decide +kernel
theorem dX2_rowsOf_35 : decode cX2_rowsOf 35 = .ok (.bipush 59, 2) := by decide +kernel
theorem dX2_rowsOf_37 : decode cX2_rowsOf 37 = .ok (.ireturn, 1) := by decide +kernel
set_option maxRecDepth 20000 in
theorem ggX2_number_X4_listed : GoodIn wsX2_number wsX4_listed := goodIn_r _ [4, 5] (by decide +kernel) (by decide +kernel)
set_option maxRecDepth 20000 in
theorem gX2_number_X4_listed : GoodIn wsX2_number (va_wsS RX2 15 yX4_listed wsX4_listed) := goodIn_app (goodIn_of _ (by decide +kernel)) ggX2_number_X4_listed
set_option maxRecDepth 20000 in
theorem ggX2_number_X4_listedOver : GoodIn wsX2_number wsX4_listedOver := goodIn_r _ [8, 9] (by decide +kernel) (by decide +kernel)
set_option maxRecDepth 20000 in
theorem gX2_number_X4_listedOver : GoodIn wsX2_number (va_wsS RX2 19 yX4_listedOver wsX4_listedOver) := goodIn_app (goodIn_of _ (by decide +kernel)) ggX2_number_X4_listedOver
theorem dX2_number_0 : decode cX2_number 0 = .ok (.iload_n 2, 1) := by decide +kernel
theorem dX2_number_1 : decode cX2_number 1 = .ok (.iconst 1, 1) := by decide +kernel
theorem dX2_number_2 : decode cX2_number 2 = .ok (.iadd, 1) := by decide +kernel
theorem dX2_number_3 : decode cX2_number 3 = .ok (.istore 4, 2) := by decide +kernel
theorem dX2_number_5 : decode cX2_number 5 = .ok (.iload_n 0, 1) := by decide +kernel
theorem dX2_number_6 : decode cX2_number 6 = .ok (.tableswitch 90 0 2 #[26, 49, 74], 26) := by decide +kernel
theorem dX2_number_32 : decode cX2_number 32 = .ok (.iload_n 3, 1) := by decide +kernel
theorem dX2_number_33 : decode cX2_number 33 = .ok (.ifCond .ne 7, 3) := by decide +kernel
theorem dX2_number_36 : decode cX2_number 36 = .ok (.iload_n 1, 1) := by decide +kernel
theorem dX2_number_37 : decode cX2_number 37 = .ok (.goto 17, 3) := by decide +kernel
theorem dX2_number_40 : decode cX2_number 40 = .ok (.iload_n 3, 1) := by decide +kernel
theorem dX2_number_41 : decode cX2_number 41 = .ok (.iconst 1, 1) := by decide +kernel
theorem dX2_number_42 : decode cX2_number 42 = .ok (.if_icmp .ne 8, 3) := by decide +kernel
theorem dX2_number_45 : decode cX2_number 45 = .ok (.iload 4, 2) := by decide +kernel
theorem dX2_number_47 : decode cX2_number 47 = .ok (.goto 7, 3) := by decide +kernel
theorem dX2_number_50 : decode cX2_number 50 = .ok (.iload_n 1, 1) := by decide +kernel
theorem dX2_number_51 : decode cX2_number 51 = .ok (.iload 4, 2) := by decide +kernel
theorem dX2_number_53 : decode cX2_number 53 = .ok (.imul, 1) := by decide +kernel
theorem dX2_number_54 : decode cX2_number 54 = .ok (.ireturn, 1) := by decide +kernel
theorem dX2_number_55 : decode cX2_number 55 = .ok (.iload_n 3, 1) := by decide +kernel
theorem dX2_number_56 : decode cX2_number 56 = .ok (.ifCond .ne 10, 3) := by decide +kernel
theorem dX2_number_59 : decode cX2_number 59 = .ok (.iload_n 2, 1) := by decide +kernel
theorem dX2_number_60 : decode cX2_number 60 = .ok (.invokestatic 15, 3) := by decide +kernel
theorem dX2_number_63 : decode cX2_number 63 = .ok (.goto 16, 3) := by decide +kernel
theorem dX2_number_66 : decode cX2_number 66 = .ok (.iload_n 3, 1) := by decide +kernel
theorem dX2_number_67 : decode cX2_number 67 = .ok (.iconst 1, 1) := by decide +kernel
theorem dX2_number_68 : decode cX2_number 68 = .ok (.if_icmp .ne 10, 3) := by decide +kernel
theorem dX2_number_71 : decode cX2_number 71 = .ok (.iload_n 2, 1) := by decide +kernel
theorem dX2_number_72 : decode cX2_number 72 = .ok (.invokestatic 19, 3) := by decide +kernel
theorem dX2_number_75 : decode cX2_number 75 = .ok (.goto 4, 3) := by decide +kernel
theorem dX2_number_78 : decode cX2_number 78 = .ok (.iconst 1, 1) := by decide +kernel
theorem dX2_number_79 : decode cX2_number 79 = .ok (.ireturn, 1) := by decide +kernel
theorem dX2_number_80 : decode cX2_number 80 = .ok (.iload_n 3, 1) := by decide +kernel
theorem dX2_number_81 : decode cX2_number 81 = .ok (.iconst 2, 1) := by decide +kernel
theorem dX2_number_82 : decode cX2_number 82 = .ok (.if_icmp .ge 8, 3) := by decide +kernel
theorem dX2_number_85 : decode cX2_number 85 = .ok (.iload 4, 2) := by decide +kernel
theorem dX2_number_87 : decode cX2_number 87 = .ok (.goto 8, 3) := by decide +kernel
theorem dX2_number_90 : decode cX2_number 90 = .ok (.iload 4, 2) := by decide +kernel
theorem dX2_number_92 : decode cX2_number 92 = .ok (.iload 4, 2) := by decide +kernel
theorem dX2_number_94 : decode cX2_number 94 = .ok (.imul, 1) := by decide +kernel
theorem dX2_number_95 : decode cX2_number 95 = .ok (.ireturn, 1) := by decide +kernel
theorem dX2_number_96 : decode cX2_number 96 = .ok (.iload_n 3, 1) := by decide +kernel
theorem dX2_number_97 : decode cX2_number 97 = .ok (.ifCond .ne 8, 3) := by decide +kernel
theorem dX2_number_100 : decode cX2_number 100 = .ok (.iload 4, 2) := by decide +kernel
theorem dX2_number_102 : decode cX2_number 102 = .ok (.goto 24, 3) := by decide +kernel
theorem dX2_number_105 : decode cX2_number 105 = .ok (.iload_n 3, 1) := by decide +kernel
theorem dX2_number_106 : decode cX2_number 106 = .ok (.iconst 1, 1) := by decide +kernel
theorem dX2_number_107 : decode cX2_number 107 = .ok (.if_icmp .ne 11, 3) := by decide +kernel
theorem dX2_number_110 : decode cX2_number 110 = .ok (.iload 4, 2) := by decide +kernel
theorem dX2_number_112 : decode cX2_number 112 = .ok (.iload 4, 2) := by decide +kernel
theorem dX2_number_114 : decode cX2_number 114 = .ok (.imul, 1) := by decide +kernel
theorem dX2_number_115 : decode cX2_number 115 = .ok (.goto 11, 3) := by decide +kernel
theorem dX2_number_118 : decode cX2_number 118 = .ok (.iload 4, 2) := by decide +kernel
theorem dX2_number_120 : decode cX2_number 120 = .ok (.iload 4, 2) := by decide +kernel
theorem dX2_number_122 : decode cX2_number 122 = .ok (.imul, 1) := by decide +kernel
theorem dX2_number_123 : decode cX2_number 123 = .ok (.iload 4, 2) := by decide +kernel
theorem dX2_number_125 : decode cX2_number 125 = .ok (.imul, 1) := by decide +kernel
theorem dX2_number_126 : decode cX2_number 126 = .ok (.ireturn, 1) := by decide +kernel
theorem dX3_init_0 : decode cX3_init 0 = .ok (.aload_n 0, 1) := by decide +kernel
theorem dX3_init_1 : decode cX3_init 1 = .ok (.invokespecial 3, 3) := by decide +kernel
theorem dX3_init_4 : decode cX3_init 4 = .ok (.aload_n 0, 1) := by decide +kernel
theorem dX3_init_5 : decode cX3_init 5 = .ok (.bipush 24, 2) := by decide +kernel
theorem dX3_init_7 : decode cX3_init 7 = .ok (.newarray .int, 2) := by decide +kernel
theorem dX3_init_9 : decode cX3_init 9 = .ok (.putfield 9, 3) := by decide +kernel
theorem dX3_init_12 : decode cX3_init 12 = .ok (.aload_n 0, 1) := by decide +kernel
theorem dX3_init_13 : decode cX3_init 13 = .ok (.bipush 24, 2) := by decide +kernel
theorem dX3_init_15 : decode cX3_init 15 = .ok (.newarray .int, 2) := by decide +kernel
theorem dX3_init_17 : decode cX3_init 17 = .ok (.putfield 13, 3) := by decide +kernel
theorem dX3_init_20 : decode cX3_init 20 = .ok (.aload_n 0, 1) := by decide +kernel
theorem dX3_init_21 : decode cX3_init 21 = .ok (.iconst 1, 1) := by decide +kernel
theorem dX3_init_22 : decode cX3_init 22 = .ok (.putfield 16, 3) := by decide +kernel
theorem dX3_init_25 : decode cX3_init 25 = .ok (.return_, 1) := by decide +kernel
theorem dX3_rowCount_0 : decode cX3_rowCount 0 = .ok (.aload_n 0, 1) := by decide +kernel
theorem dX3_rowCount_1 : decode cX3_rowCount 1 = .ok (.getfield 16, 3) := by decide +kernel
theorem dX3_rowCount_4 : decode cX3_rowCount 4 = .ok (.ireturn, 1) := by decide +kernel
theorem dX3_hasCell_0 : decode cX3_hasCell 0 = .ok (.iload_n 1, 1) := by decide +kernel
theorem dX3_hasCell_1 : decode cX3_hasCell 1 = .ok (.ifCond .lt 24, 3) := by decide +kernel
theorem dX3_hasCell_4 : decode cX3_hasCell 4 = .ok (.iload_n 1, 1) := by decide +kernel
theorem dX3_hasCell_5 : decode cX3_hasCell 5 = .ok (.aload_n 0, 1) := by decide +kernel
theorem dX3_hasCell_6 : decode cX3_hasCell 6 = .ok (.getfield 16, 3) := by decide +kernel
theorem dX3_hasCell_9 : decode cX3_hasCell 9 = .ok (.if_icmp .ge 16, 3) := by decide +kernel
theorem dX3_hasCell_12 : decode cX3_hasCell 12 = .ok (.iload_n 2, 1) := by decide +kernel
theorem dX3_hasCell_13 : decode cX3_hasCell 13 = .ok (.ifCond .lt 12, 3) := by decide +kernel
theorem dX3_hasCell_16 : decode cX3_hasCell 16 = .ok (.iload_n 2, 1) := by decide +kernel
theorem dX3_hasCell_17 : decode cX3_hasCell 17 = .ok (.iconst 3, 1) := by decide +kernel
theorem dX3_hasCell_18 : decode cX3_hasCell 18 = .ok (.if_icmp .ge 7, 3) := by decide +kernel
theorem dX3_hasCell_21 : decode cX3_hasCell 21 = .ok (.iconst 1, 1) := by decide +kernel
theorem dX3_hasCell_22 : decode cX3_hasCell 22 = .ok (.goto 4, 3) := by decide +kernel
theorem dX3_hasCell_25 : decode cX3_hasCell 25 = .ok (.iconst 0, 1) := by decide +kernel
theorem dX3_hasCell_26 : decode cX3_hasCell 26 = .ok (.ireturn, 1) := by decide +kernel
theorem dX3_smooth_0 : decode cX3_smooth 0 = .ok (.aload_n 0, 1) := by decide +kernel
theorem dX3_smooth_1 : decode cX3_smooth 1 = .ok (.iload_n 1, 1) := by decide +kernel
theorem dX3_smooth_2 : decode cX3_smooth 2 = .ok (.putfield 16, 3) := by decide +kernel
theorem dX3_smooth_5 : decode cX3_smooth 5 = .ok (.iconst 0, 1) := by decide +kernel
theorem dX3_smooth_6 : decode cX3_smooth 6 = .ok (.istore_n 2, 1) := by decide +kernel
theorem dX3_smooth_7 : decode cX3_smooth 7 = .ok (.iload_n 2, 1) := by decide +kernel
theorem dX3_smooth_8 : decode cX3_smooth 8 = .ok (.bipush 24, 2) := by decide +kernel
theorem dX3_smooth_10 : decode cX3_smooth 10 = .ok (.if_icmp .ge 23, 3) := by decide +kernel
theorem dX3_smooth_13 : decode cX3_smooth 13 = .ok (.aload_n 0, 1) := by decide +kernel
theorem dX3_smooth_14 : decode cX3_smooth 14 = .ok (.getfield 9, 3) := by decide +kernel
theorem dX3_smooth_17 : decode cX3_smooth 17 = .ok (.iload_n 2, 1) := by decide +kernel
theorem dX3_smooth_18 : decode cX3_smooth 18 = .ok (.iconst 0, 1) := by decide +kernel
theorem dX3_smooth_19 : decode cX3_smooth 19 = .ok (.iastore, 1) := by decide +kernel
theorem dX3_smooth_20 : decode cX3_smooth 20 = .ok (.aload_n 0, 1) := by decide +kernel
theorem dX3_smooth_21 : decode cX3_smooth 21 = .ok (.getfield 13, 3) := by decide +kernel
theorem dX3_smooth_24 : decode cX3_smooth 24 = .ok (.iload_n 2, 1) := by decide +kernel
theorem dX3_smooth_25 : decode cX3_smooth 25 = .ok (.iconst 0, 1) := by decide +kernel
theorem dX3_smooth_26 : decode cX3_smooth 26 = .ok (.iastore, 1) := by decide +kernel
theorem dX3_smooth_27 : decode cX3_smooth 27 = .ok (.iinc 2 1, 3) := by decide +kernel
theorem dX3_smooth_30 : decode cX3_smooth 30 = .ok (.goto (-23), 3) := by decide +kernel
theorem dX3_smooth_33 : decode cX3_smooth 33 = .ok (.return_, 1) := by decide +kernel
set_option maxRecDepth 20000 in
theorem ggX3_hold_X1_strip : GoodIn wsX3_hold wsX1_strip := goodIn_r _ [6, 7] (by decide +kernel) (by decide +kernel)
set_option maxRecDepth 20000 in
theorem gX3_hold_X1_strip : GoodIn wsX3_hold (va_wsS RX3 20 yX1_strip wsX1_strip) := goodIn_app (goodIn_of _ (by decide +kernel)) ggX3_hold_X1_strip
theorem dX3_hold_0 : decode cX3_hold 0 = .ok (.iload_n 1, 1) := by decide +kernel
theorem dX3_hold_1 : decode cX3_hold 1 = .ok (.iconst 3, 1) := by decide +kernel
theorem dX3_hold_2 : decode cX3_hold 2 = .ok (.imul, 1) := by decide +kernel
theorem dX3_hold_3 : decode cX3_hold 3 = .ok (.iload_n 2, 1) := by decide +kernel
theorem dX3_hold_4 : decode cX3_hold 4 = .ok (.iadd, 1) := by decide +kernel
theorem dX3_hold_5 : decode cX3_hold 5 = .ok (.istore 4, 2) := by decide +kernel
theorem dX3_hold_7 : decode cX3_hold 7 = .ok (.iload 4, 2) := by decide +kernel
theorem dX3_hold_9 : decode cX3_hold 9 = .ok (.ifCond .lt 39, 3) := by decide +kernel
theorem dX3_hold_12 : decode cX3_hold 12 = .ok (.iload 4, 2) := by decide +kernel
theorem dX3_hold_14 : decode cX3_hold 14 = .ok (.bipush 24, 2) := by decide +kernel
theorem dX3_hold_16 : decode cX3_hold 16 = .ok (.if_icmp .ge 32, 3) := by decide +kernel
theorem dX3_hold_19 : decode cX3_hold 19 = .ok (.aload_n 0, 1) := by decide +kernel
theorem dX3_hold_20 : decode cX3_hold 20 = .ok (.getfield 9, 3) := by decide +kernel
theorem dX3_hold_23 : decode cX3_hold 23 = .ok (.iload 4, 2) := by decide +kernel
theorem dX3_hold_25 : decode cX3_hold 25 = .ok (.iload_n 3, 1) := by decide +kernel
theorem dX3_hold_26 : decode cX3_hold 26 = .ok (.iastore, 1) := by decide +kernel
theorem dX3_hold_27 : decode cX3_hold 27 = .ok (.aload_n 0, 1) := by decide +kernel
theorem dX3_hold_28 : decode cX3_hold 28 = .ok (.getfield 13, 3) := by decide +kernel
theorem dX3_hold_31 : decode cX3_hold 31 = .ok (.iload 4, 2) := by decide +kernel
theorem dX3_hold_33 : decode cX3_hold 33 = .ok (.iload_n 3, 1) := by decide +kernel
theorem dX3_hold_34 : decode cX3_hold 34 = .ok (.ifCond .ne 7, 3) := by decide +kernel
theorem dX3_hold_37 : decode cX3_hold 37 = .ok (.iconst 0, 1) := by decide +kernel
theorem dX3_hold_38 : decode cX3_hold 38 = .ok (.goto 9, 3) := by decide +kernel
theorem dX3_hold_41 : decode cX3_hold 41 = .ok (.iload_n 3, 1) := by decide +kernel
theorem dX3_hold_42 : decode cX3_hold 42 = .ok (.i2l, 1) := by decide +kernel
theorem dX3_hold_43 : decode cX3_hold 43 = .ok (.invokestatic 20, 3) := by decide +kernel
theorem dX3_hold_46 : decode cX3_hold 46 = .ok (.l2i, 1) := by decide +kernel
theorem dX3_hold_47 : decode cX3_hold 47 = .ok (.iastore, 1) := by decide +kernel
theorem dX3_hold_48 : decode cX3_hold 48 = .ok (.return_, 1) := by decide +kernel
theorem dX3_held_0 : decode cX3_held 0 = .ok (.iload_n 1, 1) := by decide +kernel
theorem dX3_held_1 : decode cX3_held 1 = .ok (.iconst 3, 1) := by decide +kernel
theorem dX3_held_2 : decode cX3_held 2 = .ok (.imul, 1) := by decide +kernel
theorem dX3_held_3 : decode cX3_held 3 = .ok (.iload_n 2, 1) := by decide +kernel
theorem dX3_held_4 : decode cX3_held 4 = .ok (.iadd, 1) := by decide +kernel
theorem dX3_held_5 : decode cX3_held 5 = .ok (.istore_n 3, 1) := by decide +kernel
theorem dX3_held_6 : decode cX3_held 6 = .ok (.iload_n 3, 1) := by decide +kernel
theorem dX3_held_7 : decode cX3_held 7 = .ok (.ifCond .lt 18, 3) := by decide +kernel
theorem dX3_held_10 : decode cX3_held 10 = .ok (.iload_n 3, 1) := by decide +kernel
theorem dX3_held_11 : decode cX3_held 11 = .ok (.bipush 24, 2) := by decide +kernel
theorem dX3_held_13 : decode cX3_held 13 = .ok (.if_icmp .ge 12, 3) := by decide +kernel
theorem dX3_held_16 : decode cX3_held 16 = .ok (.aload_n 0, 1) := by decide +kernel
theorem dX3_held_17 : decode cX3_held 17 = .ok (.getfield 9, 3) := by decide +kernel
theorem dX3_held_20 : decode cX3_held 20 = .ok (.iload_n 3, 1) := by decide +kernel
theorem dX3_held_21 : decode cX3_held 21 = .ok (.iaload, 1) := by decide +kernel
theorem dX3_held_22 : decode cX3_held 22 = .ok (.goto 4, 3) := by decide +kernel
theorem dX3_held_25 : decode cX3_held 25 = .ok (.iconst 0, 1) := by decide +kernel
theorem dX3_held_26 : decode cX3_held 26 = .ok (.ireturn, 1) := by decide +kernel
theorem dX3_heldSixty_0 : decode cX3_heldSixty 0 = .ok (.iload_n 1, 1) := by decide +kernel
theorem dX3_heldSixty_1 : decode cX3_heldSixty 1 = .ok (.iconst 3, 1) := by decide +kernel
theorem dX3_heldSixty_2 : decode cX3_heldSixty 2 = .ok (.imul, 1) := by decide +kernel
theorem dX3_heldSixty_3 : decode cX3_heldSixty 3 = .ok (.iload_n 2, 1) := by decide +kernel
theorem dX3_heldSixty_4 : decode cX3_heldSixty 4 = .ok (.iadd, 1) := by decide +kernel
theorem dX3_heldSixty_5 : decode cX3_heldSixty 5 = .ok (.istore_n 3, 1) := by decide +kernel
theorem dX3_heldSixty_6 : decode cX3_heldSixty 6 = .ok (.iload_n 3, 1) := by decide +kernel
theorem dX3_heldSixty_7 : decode cX3_heldSixty 7 = .ok (.ifCond .lt 18, 3) := by decide +kernel
theorem dX3_heldSixty_10 : decode cX3_heldSixty 10 = .ok (.iload_n 3, 1) := by decide +kernel
theorem dX3_heldSixty_11 : decode cX3_heldSixty 11 = .ok (.bipush 24, 2) := by decide +kernel
theorem dX3_heldSixty_13 : decode cX3_heldSixty 13 = .ok (.if_icmp .ge 12, 3) := by decide +kernel
theorem dX3_heldSixty_16 : decode cX3_heldSixty 16 = .ok (.aload_n 0, 1) := by decide +kernel
theorem dX3_heldSixty_17 : decode cX3_heldSixty 17 = .ok (.getfield 13, 3) := by decide +kernel
theorem dX3_heldSixty_20 : decode cX3_heldSixty 20 = .ok (.iload_n 3, 1) := by decide +kernel
theorem dX3_heldSixty_21 : decode cX3_heldSixty 21 = .ok (.iaload, 1) := by decide +kernel
theorem dX3_heldSixty_22 : decode cX3_heldSixty 22 = .ok (.goto 4, 3) := by decide +kernel
theorem dX3_heldSixty_25 : decode cX3_heldSixty 25 = .ok (.iconst 0, 1) := by decide +kernel
theorem dX3_heldSixty_26 : decode cX3_heldSixty 26 = .ok (.ireturn, 1) := by decide +kernel
set_option maxRecDepth 20000 in
theorem ggX3_mayBe_X3_heldSixty : GoodIn wsX3_mayBe wsX3_heldSixty := goodIn_r _ [5, 6, 12, 13, 14] (by decide +kernel) (by decide +kernel)
set_option maxRecDepth 20000 in
theorem gX3_mayBe_X3_heldSixty : GoodIn wsX3_mayBe (wsV RX3 26 RX3 yX3_heldSixty wsX3_heldSixty) := goodIn_app (goodIn_of _ (by decide +kernel)) ggX3_mayBe_X3_heldSixty
set_option maxRecDepth 20000 in
theorem ggX3_mayBe_X1_strip : GoodIn wsX3_mayBe wsX1_strip := goodIn_r _ [10, 11] (by decide +kernel) (by decide +kernel)
set_option maxRecDepth 20000 in
theorem gX3_mayBe_X1_strip : GoodIn wsX3_mayBe (va_wsS RX3 20 yX1_strip wsX1_strip) := goodIn_app (goodIn_of _ (by decide +kernel)) ggX3_mayBe_X1_strip
theorem dX3_mayBe_0 : decode cX3_mayBe 0 = .ok (.aload_n 0, 1) := by decide +kernel
theorem dX3_mayBe_1 : decode cX3_mayBe 1 = .ok (.iload_n 1, 1) := by decide +kernel
theorem dX3_mayBe_2 : decode cX3_mayBe 2 = .ok (.iload_n 2, 1) := by decide +kernel
theorem dX3_mayBe_3 : decode cX3_mayBe 3 = .ok (.invokevirtual 26, 3) := by decide +kernel
theorem dX3_mayBe_6 : decode cX3_mayBe 6 = .ok (.istore 4, 2) := by decide +kernel
theorem dX3_mayBe_8 : decode cX3_mayBe 8 = .ok (.iload 4, 2) := by decide +kernel
theorem dX3_mayBe_10 : decode cX3_mayBe 10 = .ok (.ifCond .eq 15, 3) := by decide +kernel
theorem dX3_mayBe_13 : decode cX3_mayBe 13 = .ok (.iload 4, 2) := by decide +kernel
theorem dX3_mayBe_15 : decode cX3_mayBe 15 = .ok (.i2l, 1) := by decide +kernel
theorem dX3_mayBe_16 : decode cX3_mayBe 16 = .ok (.iload_n 3, 1) := by decide +kernel
theorem dX3_mayBe_17 : decode cX3_mayBe 17 = .ok (.i2l, 1) := by decide +kernel
theorem dX3_mayBe_18 : decode cX3_mayBe 18 = .ok (.invokestatic 20, 3) := by decide +kernel
theorem dX3_mayBe_21 : decode cX3_mayBe 21 = .ok (.lcmp, 1) := by decide +kernel
theorem dX3_mayBe_22 : decode cX3_mayBe 22 = .ok (.ifCond .ne 7, 3) := by decide +kernel
theorem dX3_mayBe_25 : decode cX3_mayBe 25 = .ok (.iconst 1, 1) := by decide +kernel
theorem dX3_mayBe_26 : decode cX3_mayBe 26 = .ok (.goto 4, 3) := by decide +kernel
theorem dX3_mayBe_29 : decode cX3_mayBe 29 = .ok (.iconst 0, 1) := by decide +kernel
theorem dX3_mayBe_30 : decode cX3_mayBe 30 = .ok (.ireturn, 1) := by decide +kernel
theorem dX3_brokenCells_0 : decode cX3_brokenCells 0 = .ok (.iconst 0, 1) := by decide +kernel
theorem dX3_brokenCells_1 : decode cX3_brokenCells 1 = .ok (.istore_n 1, 1) := by decide +kernel
theorem dX3_brokenCells_2 : decode cX3_brokenCells 2 = .ok (.iconst 0, 1) := by decide +kernel
theorem dX3_brokenCells_3 : decode cX3_brokenCells 3 = .ok (.istore_n 2, 1) := by decide +kernel
theorem dX3_brokenCells_4 : decode cX3_brokenCells 4 = .ok (.iload_n 2, 1) := by decide +kernel
theorem dX3_brokenCells_5 : decode cX3_brokenCells 5 = .ok (.aload_n 0, 1) := by decide +kernel
theorem dX3_brokenCells_6 : decode cX3_brokenCells 6 = .ok (.getfield 16, 3) := by decide +kernel
theorem dX3_brokenCells_9 : decode cX3_brokenCells 9 = .ok (.iconst 3, 1) := by decide +kernel
theorem dX3_brokenCells_10 : decode cX3_brokenCells 10 = .ok (.imul, 1) := by decide +kernel
theorem dX3_brokenCells_11 : decode cX3_brokenCells 11 = .ok (.if_icmp .ge 27, 3) := by decide +kernel
theorem dX3_brokenCells_14 : decode cX3_brokenCells 14 = .ok (.iload_n 2, 1) := by decide +kernel
theorem dX3_brokenCells_15 : decode cX3_brokenCells 15 = .ok (.bipush 24, 2) := by decide +kernel
theorem dX3_brokenCells_17 : decode cX3_brokenCells 17 = .ok (.if_icmp .ge 21, 3) := by decide +kernel
theorem dX3_brokenCells_20 : decode cX3_brokenCells 20 = .ok (.aload_n 0, 1) := by decide +kernel
theorem dX3_brokenCells_21 : decode cX3_brokenCells 21 = .ok (.getfield 9, 3) := by decide +kernel
theorem dX3_brokenCells_24 : decode cX3_brokenCells 24 = .ok (.iload_n 2, 1) := by decide +kernel
theorem dX3_brokenCells_25 : decode cX3_brokenCells 25 = .ok (.iaload, 1) := by decide +kernel
theorem dX3_brokenCells_26 : decode cX3_brokenCells 26 = .ok (.ifCond .ne 6, 3) := by decide +kernel
theorem dX3_brokenCells_29 : decode cX3_brokenCells 29 = .ok (.iinc 1 1, 3) := by decide +kernel
theorem dX3_brokenCells_32 : decode cX3_brokenCells 32 = .ok (.iinc 2 1, 3) := by decide +kernel
theorem dX3_brokenCells_35 : decode cX3_brokenCells 35 = .ok (.goto (-31), 3) := by decide +kernel
theorem dX3_brokenCells_38 : decode cX3_brokenCells 38 = .ok (.iload_n 1, 1) := by decide +kernel
theorem dX3_brokenCells_39 : decode cX3_brokenCells 39 = .ok (.ireturn, 1) := by decide +kernel
set_option maxRecDepth 20000 in
theorem ggX3_fits_X3_heldSixty : GoodIn wsX3_fits wsX3_heldSixty := goodIn_r _ [6, 7, 8, 9, 10] (by decide +kernel) (by decide +kernel)
set_option maxRecDepth 20000 in
theorem gX3_fits_X3_heldSixty : GoodIn wsX3_fits (wsV RX3 26 RX3 yX3_heldSixty wsX3_heldSixty) := goodIn_app (goodIn_of _ (by decide +kernel)) ggX3_fits_X3_heldSixty
theorem dX3_fits_0 : decode cX3_fits 0 = .ok (.iconst 0, 1) := by decide +kernel
theorem dX3_fits_1 : decode cX3_fits 1 = .ok (.istore_n 3, 1) := by decide +kernel
theorem dX3_fits_2 : decode cX3_fits 2 = .ok (.iload_n 3, 1) := by decide +kernel
theorem dX3_fits_3 : decode cX3_fits 3 = .ok (.aload_n 1, 1) := by decide +kernel
theorem dX3_fits_4 : decode cX3_fits 4 = .ok (.getfield 16, 3) := by decide +kernel
theorem dX3_fits_7 : decode cX3_fits 7 = .ok (.if_icmp .ge 63, 3) := by decide +kernel
theorem dX3_fits_10 : decode cX3_fits 10 = .ok (.iconst 0, 1) := by decide +kernel
theorem dX3_fits_11 : decode cX3_fits 11 = .ok (.istore 4, 2) := by decide +kernel
theorem dX3_fits_13 : decode cX3_fits 13 = .ok (.iload 4, 2) := by decide +kernel
theorem dX3_fits_15 : decode cX3_fits 15 = .ok (.iconst 3, 1) := by decide +kernel
theorem dX3_fits_16 : decode cX3_fits 16 = .ok (.if_icmp .ge 48, 3) := by decide +kernel
theorem dX3_fits_19 : decode cX3_fits 19 = .ok (.aload_n 1, 1) := by decide +kernel
theorem dX3_fits_20 : decode cX3_fits 20 = .ok (.iload_n 3, 1) := by decide +kernel
theorem dX3_fits_21 : decode cX3_fits 21 = .ok (.iload 4, 2) := by decide +kernel
theorem dX3_fits_23 : decode cX3_fits 23 = .ok (.invokevirtual 26, 3) := by decide +kernel
theorem dX3_fits_26 : decode cX3_fits 26 = .ok (.istore 5, 2) := by decide +kernel
theorem dX3_fits_28 : decode cX3_fits 28 = .ok (.aload_n 0, 1) := by decide +kernel
theorem dX3_fits_29 : decode cX3_fits 29 = .ok (.iload_n 2, 1) := by decide +kernel
theorem dX3_fits_30 : decode cX3_fits 30 = .ok (.iload_n 3, 1) := by decide +kernel
theorem dX3_fits_31 : decode cX3_fits 31 = .ok (.iadd, 1) := by decide +kernel
theorem dX3_fits_32 : decode cX3_fits 32 = .ok (.iload 4, 2) := by decide +kernel
theorem dX3_fits_34 : decode cX3_fits 34 = .ok (.invokevirtual 26, 3) := by decide +kernel
theorem dX3_fits_37 : decode cX3_fits 37 = .ok (.istore 6, 2) := by decide +kernel
theorem dX3_fits_39 : decode cX3_fits 39 = .ok (.iload 5, 2) := by decide +kernel
theorem dX3_fits_41 : decode cX3_fits 41 = .ok (.ifCond .eq 17, 3) := by decide +kernel
theorem dX3_fits_44 : decode cX3_fits 44 = .ok (.iload 6, 2) := by decide +kernel
theorem dX3_fits_46 : decode cX3_fits 46 = .ok (.ifCond .eq 12, 3) := by decide +kernel
theorem dX3_fits_49 : decode cX3_fits 49 = .ok (.iload 5, 2) := by decide +kernel
theorem dX3_fits_51 : decode cX3_fits 51 = .ok (.iload 6, 2) := by decide +kernel
theorem dX3_fits_53 : decode cX3_fits 53 = .ok (.if_icmp .eq 5, 3) := by decide +kernel
theorem dX3_fits_56 : decode cX3_fits 56 = .ok (.iconst 0, 1) := by decide +kernel
theorem dX3_fits_57 : decode cX3_fits 57 = .ok (.ireturn, 1) := by decide +kernel
theorem dX3_fits_58 : decode cX3_fits 58 = .ok (.iinc 4 1, 3) := by decide +kernel
theorem dX3_fits_61 : decode cX3_fits 61 = .ok (.goto (-48), 3) := by decide +kernel
theorem dX3_fits_64 : decode cX3_fits 64 = .ok (.iinc 3 1, 3) := by decide +kernel
theorem dX3_fits_67 : decode cX3_fits 67 = .ok (.goto (-65), 3) := by decide +kernel
theorem dX3_fits_70 : decode cX3_fits 70 = .ok (.iconst 1, 1) := by decide +kernel
theorem dX3_fits_71 : decode cX3_fits 71 = .ok (.ireturn, 1) := by decide +kernel
set_option maxRecDepth 20000 in
theorem ggX3_take_X3_held : GoodIn wsX3_take wsX3_held := goodIn_r _ [13, 14, 25, 26, 27] (by decide +kernel) (by decide +kernel)
set_option maxRecDepth 20000 in
theorem gX3_take_X3_held : GoodIn wsX3_take (wsV RX3 38 RX3 yX3_held wsX3_held) := goodIn_app (goodIn_of _ (by decide +kernel)) ggX3_take_X3_held
set_option maxRecDepth 20000 in
theorem ggX3_take_X3_hold : GoodIn wsX3_take wsX3_hold := goodIn_r _ [18, 14, 19, 20, 21, 22, 23, 24, 25, 26, 27] (by decide +kernel) (by decide +kernel)
set_option maxRecDepth 20000 in
theorem gX3_take_X3_hold : GoodIn wsX3_take (wsV RX3 41 RX3 yX3_hold wsX3_hold) := goodIn_app (goodIn_of _ (by decide +kernel)) ggX3_take_X3_hold
theorem dX3_take_0 : decode cX3_take 0 = .ok (.aload_n 0, 1) := by decide +kernel
theorem dX3_take_1 : decode cX3_take 1 = .ok (.bipush 8, 2) := by decide +kernel
theorem dX3_take_3 : decode cX3_take 3 = .ok (.aload_n 0, 1) := by decide +kernel
theorem dX3_take_4 : decode cX3_take 4 = .ok (.getfield 16, 3) := by decide +kernel
theorem dX3_take_7 : decode cX3_take 7 = .ok (.iload_n 2, 1) := by decide +kernel
theorem dX3_take_8 : decode cX3_take 8 = .ok (.aload_n 1, 1) := by decide +kernel
theorem dX3_take_9 : decode cX3_take 9 = .ok (.getfield 16, 3) := by decide +kernel
theorem dX3_take_12 : decode cX3_take 12 = .ok (.iadd, 1) := by decide +kernel
theorem dX3_take_13 : decode cX3_take 13 = .ok (.invokestatic 30, 3) := by decide +kernel
theorem dX3_take_16 : decode cX3_take 16 = .ok (.invokestatic 35, 3) := by decide +kernel
theorem dX3_take_19 : decode cX3_take 19 = .ok (.putfield 16, 3) := by decide +kernel
theorem dX3_take_22 : decode cX3_take 22 = .ok (.iconst 0, 1) := by decide +kernel
theorem dX3_take_23 : decode cX3_take 23 = .ok (.istore_n 3, 1) := by decide +kernel
theorem dX3_take_24 : decode cX3_take 24 = .ok (.iload_n 3, 1) := by decide +kernel
theorem dX3_take_25 : decode cX3_take 25 = .ok (.aload_n 1, 1) := by decide +kernel
theorem dX3_take_26 : decode cX3_take 26 = .ok (.getfield 16, 3) := by decide +kernel
theorem dX3_take_29 : decode cX3_take 29 = .ok (.if_icmp .ge 52, 3) := by decide +kernel
theorem dX3_take_32 : decode cX3_take 32 = .ok (.iconst 0, 1) := by decide +kernel
theorem dX3_take_33 : decode cX3_take 33 = .ok (.istore 4, 2) := by decide +kernel
theorem dX3_take_35 : decode cX3_take 35 = .ok (.iload 4, 2) := by decide +kernel
theorem dX3_take_37 : decode cX3_take 37 = .ok (.iconst 3, 1) := by decide +kernel
theorem dX3_take_38 : decode cX3_take 38 = .ok (.if_icmp .ge 37, 3) := by decide +kernel
theorem dX3_take_41 : decode cX3_take 41 = .ok (.aload_n 0, 1) := by decide +kernel
theorem dX3_take_42 : decode cX3_take 42 = .ok (.iload_n 2, 1) := by decide +kernel
theorem dX3_take_43 : decode cX3_take 43 = .ok (.iload_n 3, 1) := by decide +kernel
theorem dX3_take_44 : decode cX3_take 44 = .ok (.iadd, 1) := by decide +kernel
theorem dX3_take_45 : decode cX3_take 45 = .ok (.iload 4, 2) := by decide +kernel
theorem dX3_take_47 : decode cX3_take 47 = .ok (.invokevirtual 38, 3) := by decide +kernel
theorem dX3_take_50 : decode cX3_take 50 = .ok (.ifCond .ne 19, 3) := by decide +kernel
theorem dX3_take_53 : decode cX3_take 53 = .ok (.aload_n 0, 1) := by decide +kernel
theorem dX3_take_54 : decode cX3_take 54 = .ok (.iload_n 2, 1) := by decide +kernel
theorem dX3_take_55 : decode cX3_take 55 = .ok (.iload_n 3, 1) := by decide +kernel
theorem dX3_take_56 : decode cX3_take 56 = .ok (.iadd, 1) := by decide +kernel
theorem dX3_take_57 : decode cX3_take 57 = .ok (.iload 4, 2) := by decide +kernel
theorem dX3_take_59 : decode cX3_take 59 = .ok (.aload_n 1, 1) := by decide +kernel
theorem dX3_take_60 : decode cX3_take 60 = .ok (.iload_n 3, 1) := by decide +kernel
theorem dX3_take_61 : decode cX3_take 61 = .ok (.iload 4, 2) := by decide +kernel
theorem dX3_take_63 : decode cX3_take 63 = .ok (.invokevirtual 38, 3) := by decide +kernel
theorem dX3_take_66 : decode cX3_take 66 = .ok (.invokevirtual 41, 3) := by decide +kernel
theorem dX3_take_69 : decode cX3_take 69 = .ok (.iinc 4 1, 3) := by decide +kernel
theorem dX3_take_72 : decode cX3_take 72 = .ok (.goto (-37), 3) := by decide +kernel
theorem dX3_take_75 : decode cX3_take 75 = .ok (.iinc 3 1, 3) := by decide +kernel
theorem dX3_take_78 : decode cX3_take 78 = .ok (.goto (-54), 3) := by decide +kernel
theorem dX3_take_81 : decode cX3_take 81 = .ok (.return_, 1) := by decide +kernel
theorem dX4_listRows_0 : decode cX4_listRows 0 = .ok (.getstatic 7, 3) := by decide +kernel
theorem dX4_listRows_3 : decode cX4_listRows 3 = .ok (.arraylength, 1) := by decide +kernel
theorem dX4_listRows_4 : decode cX4_listRows 4 = .ok (.ireturn, 1) := by decide +kernel
theorem dX4_listed_0 : decode cX4_listed 0 = .ok (.iload_n 0, 1) := by decide +kernel
theorem dX4_listed_1 : decode cX4_listed 1 = .ok (.ifCond .lt 19, 3) := by decide +kernel
theorem dX4_listed_4 : decode cX4_listed 4 = .ok (.iload_n 0, 1) := by decide +kernel
theorem dX4_listed_5 : decode cX4_listed 5 = .ok (.getstatic 7, 3) := by decide +kernel
theorem dX4_listed_8 : decode cX4_listed 8 = .ok (.arraylength, 1) := by decide +kernel
theorem dX4_listed_9 : decode cX4_listed 9 = .ok (.if_icmp .ge 11, 3) := by decide +kernel
theorem dX4_listed_12 : decode cX4_listed 12 = .ok (.getstatic 7, 3) := by decide +kernel
theorem dX4_listed_15 : decode cX4_listed 15 = .ok (.iload_n 0, 1) := by decide +kernel
theorem dX4_listed_16 : decode cX4_listed 16 = .ok (.iaload, 1) := by decide +kernel
theorem dX4_listed_17 : decode cX4_listed 17 = .ok (.goto 4, 3) := by decide +kernel
theorem dX4_listed_20 : decode cX4_listed 20 = .ok (.iconst 1, 1) := by decide +kernel
theorem dX4_listed_21 : decode cX4_listed 21 = .ok (.ireturn, 1) := by decide +kernel
theorem dX4_listedOver_0 : decode cX4_listedOver 0 = .ok (.iload_n 0, 1) := by decide +kernel
theorem dX4_listedOver_1 : decode cX4_listedOver 1 = .ok (.ifCond .lt 19, 3) := by decide +kernel
theorem dX4_listedOver_4 : decode cX4_listedOver 4 = .ok (.iload_n 0, 1) := by decide +kernel
theorem dX4_listedOver_5 : decode cX4_listedOver 5 = .ok (.getstatic 13, 3) := by decide +kernel
theorem dX4_listedOver_8 : decode cX4_listedOver 8 = .ok (.arraylength, 1) := by decide +kernel
theorem dX4_listedOver_9 : decode cX4_listedOver 9 = .ok (.if_icmp .ge 11, 3) := by decide +kernel
theorem dX4_listedOver_12 : decode cX4_listedOver 12 = .ok (.getstatic 13, 3) := by decide +kernel
theorem dX4_listedOver_15 : decode cX4_listedOver 15 = .ok (.iload_n 0, 1) := by decide +kernel
theorem dX4_listedOver_16 : decode cX4_listedOver 16 = .ok (.iaload, 1) := by decide +kernel
theorem dX4_listedOver_17 : decode cX4_listedOver 17 = .ok (.goto 4, 3) := by decide +kernel
theorem dX4_listedOver_20 : decode cX4_listedOver 20 = .ok (.iconst 1, 1) := by decide +kernel
theorem dX4_listedOver_21 : decode cX4_listedOver 21 = .ok (.ireturn, 1) := by decide +kernel
set_option maxRecDepth 20000 in
theorem ggX4_isEven_X4_without : GoodIn wsX4_isEven wsX4_without := goodIn_r _ [4] (by decide +kernel) (by decide +kernel)
set_option maxRecDepth 20000 in
theorem gX4_isEven_X4_without : GoodIn wsX4_isEven (va_wsS RX4 16 yX4_without wsX4_without) := goodIn_app (goodIn_of _ (by decide +kernel)) ggX4_isEven_X4_without
theorem dX4_isEven_0 : decode cX4_isEven 0 = .ok (.lload_n 0, 1) := by decide +kernel
theorem dX4_isEven_1 : decode cX4_isEven 1 = .ok (.iconst 2, 1) := by decide +kernel
theorem dX4_isEven_2 : decode cX4_isEven 2 = .ok (.invokestatic 16, 3) := by decide +kernel
theorem dX4_isEven_5 : decode cX4_isEven 5 = .ok (.iconst 3, 1) := by decide +kernel
theorem dX4_isEven_6 : decode cX4_isEven 6 = .ok (.invokestatic 16, 3) := by decide +kernel
theorem dX4_isEven_9 : decode cX4_isEven 9 = .ok (.iconst 5, 1) := by decide +kernel
theorem dX4_isEven_10 : decode cX4_isEven 10 = .ok (.invokestatic 16, 3) := by decide +kernel
theorem dX4_isEven_13 : decode cX4_isEven 13 = .ok (.lconst 1, 1) := by decide +kernel
theorem dX4_isEven_14 : decode cX4_isEven 14 = .ok (.lcmp, 1) := by decide +kernel
theorem dX4_isEven_15 : decode cX4_isEven 15 = .ok (.ifCond .ne 7, 3) := by decide +kernel
theorem dX4_isEven_18 : decode cX4_isEven 18 = .ok (.iconst 1, 1) := by decide +kernel
theorem dX4_isEven_19 : decode cX4_isEven 19 = .ok (.goto 4, 3) := by decide +kernel
theorem dX4_isEven_22 : decode cX4_isEven 22 = .ok (.iconst 0, 1) := by decide +kernel
theorem dX4_isEven_23 : decode cX4_isEven 23 = .ok (.ireturn, 1) := by decide +kernel
set_option maxRecDepth 20000 in
theorem ggX4_turnOver_X4_powerIn : GoodIn wsX4_turnOver wsX4_powerIn := goodIn_r _ [8] (by decide +kernel) (by decide +kernel)
set_option maxRecDepth 20000 in
theorem gX4_turnOver_X4_powerIn : GoodIn wsX4_turnOver (va_wsS RX4 20 yX4_powerIn wsX4_powerIn) := goodIn_app (goodIn_of _ (by decide +kernel)) ggX4_turnOver_X4_powerIn
set_option maxRecDepth 20000 in
theorem ggX4_turnOver_X4_grown : GoodIn wsX4_turnOver wsX4_grown := goodIn_r _ [11, 12, 13, 14, 3, 15] (by decide +kernel) (by decide +kernel)
set_option maxRecDepth 20000 in
theorem gX4_turnOver_X4_grown : GoodIn wsX4_turnOver (va_wsS RX4 30 yX4_grown wsX4_grown) := goodIn_app (goodIn_of _ (by decide +kernel)) ggX4_turnOver_X4_grown
theorem dX4_turnOver_0 : decode cX4_turnOver 0 = .ok (.lload_n 0, 1) := by decide +kernel
theorem dX4_turnOver_1 : decode cX4_turnOver 1 = .ok (.iconst 2, 1) := by decide +kernel
theorem dX4_turnOver_2 : decode cX4_turnOver 2 = .ok (.invokestatic 20, 3) := by decide +kernel
theorem dX4_turnOver_5 : decode cX4_turnOver 5 = .ok (.istore_n 2, 1) := by decide +kernel
theorem dX4_turnOver_6 : decode cX4_turnOver 6 = .ok (.lload_n 0, 1) := by decide +kernel
theorem dX4_turnOver_7 : decode cX4_turnOver 7 = .ok (.iconst 3, 1) := by decide +kernel
theorem dX4_turnOver_8 : decode cX4_turnOver 8 = .ok (.invokestatic 20, 3) := by decide +kernel
theorem dX4_turnOver_11 : decode cX4_turnOver 11 = .ok (.istore_n 3, 1) := by decide +kernel
theorem dX4_turnOver_12 : decode cX4_turnOver 12 = .ok (.lload_n 0, 1) := by decide +kernel
theorem dX4_turnOver_13 : decode cX4_turnOver 13 = .ok (.iconst 5, 1) := by decide +kernel
theorem dX4_turnOver_14 : decode cX4_turnOver 14 = .ok (.invokestatic 20, 3) := by decide +kernel
theorem dX4_turnOver_17 : decode cX4_turnOver 17 = .ok (.istore 4, 2) := by decide +kernel
theorem dX4_turnOver_19 : decode cX4_turnOver 19 = .ok (.iload_n 2, 1) := by decide +kernel
theorem dX4_turnOver_20 : decode cX4_turnOver 20 = .ok (.iconst 1, 1) := by decide +kernel
theorem dX4_turnOver_21 : decode cX4_turnOver 21 = .ok (.iadd, 1) := by decide +kernel
theorem dX4_turnOver_22 : decode cX4_turnOver 22 = .ok (.iconst 2, 1) := by decide +kernel
theorem dX4_turnOver_23 : decode cX4_turnOver 23 = .ok (.idiv, 1) := by decide +kernel
theorem dX4_turnOver_24 : decode cX4_turnOver 24 = .ok (.iload_n 3, 1) := by decide +kernel
theorem dX4_turnOver_25 : decode cX4_turnOver 25 = .ok (.iload 4, 2) := by decide +kernel
theorem dX4_turnOver_27 : decode cX4_turnOver 27 = .ok (.invokestatic 24, 3) := by decide +kernel
theorem dX4_turnOver_30 : decode cX4_turnOver 30 = .ok (.invokestatic 24, 3) := by decide +kernel
theorem dX4_turnOver_33 : decode cX4_turnOver 33 = .ok (.istore 5, 2) := by decide +kernel
theorem dX4_turnOver_35 : decode cX4_turnOver 35 = .ok (.lconst 1, 1) := by decide +kernel
theorem dX4_turnOver_36 : decode cX4_turnOver 36 = .ok (.iconst 2, 1) := by decide +kernel
theorem dX4_turnOver_37 : decode cX4_turnOver 37 = .ok (.iconst 2, 1) := by decide +kernel
theorem dX4_turnOver_38 : decode cX4_turnOver 38 = .ok (.iload 5, 2) := by decide +kernel
theorem dX4_turnOver_40 : decode cX4_turnOver 40 = .ok (.imul, 1) := by decide +kernel
theorem dX4_turnOver_41 : decode cX4_turnOver 41 = .ok (.iload_n 2, 1) := by decide +kernel
theorem dX4_turnOver_42 : decode cX4_turnOver 42 = .ok (.isub, 1) := by decide +kernel
theorem dX4_turnOver_43 : decode cX4_turnOver 43 = .ok (.invokestatic 30, 3) := by decide +kernel
theorem dX4_turnOver_46 : decode cX4_turnOver 46 = .ok (.lstore 6, 2) := by decide +kernel
theorem dX4_turnOver_48 : decode cX4_turnOver 48 = .ok (.lload 6, 2) := by decide +kernel
theorem dX4_turnOver_50 : decode cX4_turnOver 50 = .ok (.iconst 3, 1) := by decide +kernel
theorem dX4_turnOver_51 : decode cX4_turnOver 51 = .ok (.iload 5, 2) := by decide +kernel
theorem dX4_turnOver_53 : decode cX4_turnOver 53 = .ok (.iload_n 3, 1) := by decide +kernel
theorem dX4_turnOver_54 : decode cX4_turnOver 54 = .ok (.isub, 1) := by decide +kernel
theorem dX4_turnOver_55 : decode cX4_turnOver 55 = .ok (.invokestatic 30, 3) := by decide +kernel
theorem dX4_turnOver_58 : decode cX4_turnOver 58 = .ok (.lstore 6, 2) := by decide +kernel
theorem dX4_turnOver_60 : decode cX4_turnOver 60 = .ok (.lload 6, 2) := by decide +kernel
theorem dX4_turnOver_62 : decode cX4_turnOver 62 = .ok (.iconst 5, 1) := by decide +kernel
theorem dX4_turnOver_63 : decode cX4_turnOver 63 = .ok (.iload 5, 2) := by decide +kernel
theorem dX4_turnOver_65 : decode cX4_turnOver 65 = .ok (.iload 4, 2) := by decide +kernel
theorem dX4_turnOver_67 : decode cX4_turnOver 67 = .ok (.isub, 1) := by decide +kernel
theorem dX4_turnOver_68 : decode cX4_turnOver 68 = .ok (.invokestatic 30, 3) := by decide +kernel
theorem dX4_turnOver_71 : decode cX4_turnOver 71 = .ok (.lreturn, 1) := by decide +kernel
theorem dX4_greatestListed_0 : decode cX4_greatestListed 0 = .ok (.getstatic 7, 3) := by decide +kernel
theorem dX4_greatestListed_3 : decode cX4_greatestListed 3 = .ok (.arraylength, 1) := by decide +kernel
theorem dX4_greatestListed_4 : decode cX4_greatestListed 4 = .ok (.iconst 1, 1) := by decide +kernel
theorem dX4_greatestListed_5 : decode cX4_greatestListed 5 = .ok (.isub, 1) := by decide +kernel
theorem dX4_greatestListed_6 : decode cX4_greatestListed 6 = .ok (.istore_n 2, 1) := by decide +kernel
theorem dX4_greatestListed_7 : decode cX4_greatestListed 7 = .ok (.iload_n 2, 1) := by decide +kernel
theorem dX4_greatestListed_8 : decode cX4_greatestListed 8 = .ok (.ifCond .lt 31, 3) := by decide +kernel
theorem dX4_greatestListed_11 : decode cX4_greatestListed 11 = .ok (.getstatic 7, 3) := by decide +kernel
theorem dX4_greatestListed_14 : decode cX4_greatestListed 14 = .ok (.iload_n 2, 1) := by decide +kernel
theorem dX4_greatestListed_15 : decode cX4_greatestListed 15 = .ok (.iaload, 1) := by decide +kernel
theorem dX4_greatestListed_16 : decode cX4_greatestListed 16 = .ok (.istore_n 3, 1) := by decide +kernel
theorem dX4_greatestListed_17 : decode cX4_greatestListed 17 = .ok (.iload_n 3, 1) := by decide +kernel
theorem dX4_greatestListed_18 : decode cX4_greatestListed 18 = .ok (.iconst 1, 1) := by decide +kernel
theorem dX4_greatestListed_19 : decode cX4_greatestListed 19 = .ok (.if_icmp .le 14, 3) := by decide +kernel
theorem dX4_greatestListed_22 : decode cX4_greatestListed 22 = .ok (.lload_n 0, 1) := by decide +kernel
theorem dX4_greatestListed_23 : decode cX4_greatestListed 23 = .ok (.iload_n 3, 1) := by decide +kernel
theorem dX4_greatestListed_24 : decode cX4_greatestListed 24 = .ok (.i2l, 1) := by decide +kernel
theorem dX4_greatestListed_25 : decode cX4_greatestListed 25 = .ok (.lrem, 1) := by decide +kernel
theorem dX4_greatestListed_26 : decode cX4_greatestListed 26 = .ok (.lconst 0, 1) := by decide +kernel
theorem dX4_greatestListed_27 : decode cX4_greatestListed 27 = .ok (.lcmp, 1) := by decide +kernel
theorem dX4_greatestListed_28 : decode cX4_greatestListed 28 = .ok (.ifCond .ne 5, 3) := by decide +kernel
theorem dX4_greatestListed_31 : decode cX4_greatestListed 31 = .ok (.iload_n 3, 1) := by decide +kernel
theorem dX4_greatestListed_32 : decode cX4_greatestListed 32 = .ok (.ireturn, 1) := by decide +kernel
theorem dX4_greatestListed_33 : decode cX4_greatestListed 33 = .ok (.iinc 2 (-1), 3) := by decide +kernel
theorem dX4_greatestListed_36 : decode cX4_greatestListed 36 = .ok (.goto (-29), 3) := by decide +kernel
theorem dX4_greatestListed_39 : decode cX4_greatestListed 39 = .ok (.iconst 1, 1) := by decide +kernel
theorem dX4_greatestListed_40 : decode cX4_greatestListed 40 = .ok (.ireturn, 1) := by decide +kernel
theorem dX4_powerIn_0 : decode cX4_powerIn 0 = .ok (.iconst 0, 1) := by decide +kernel
theorem dX4_powerIn_1 : decode cX4_powerIn 1 = .ok (.istore_n 3, 1) := by decide +kernel
theorem dX4_powerIn_2 : decode cX4_powerIn 2 = .ok (.lload_n 0, 1) := by decide +kernel
theorem dX4_powerIn_3 : decode cX4_powerIn 3 = .ok (.lstore 4, 2) := by decide +kernel
theorem dX4_powerIn_5 : decode cX4_powerIn 5 = .ok (.iconst 0, 1) := by decide +kernel
theorem dX4_powerIn_6 : decode cX4_powerIn 6 = .ok (.istore 6, 2) := by decide +kernel
theorem dX4_powerIn_8 : decode cX4_powerIn 8 = .ok (.iload 6, 2) := by decide +kernel
theorem dX4_powerIn_10 : decode cX4_powerIn 10 = .ok (.bipush 63, 2) := by decide +kernel
theorem dX4_powerIn_12 : decode cX4_powerIn 12 = .ok (.if_icmp .ge 34, 3) := by decide +kernel
theorem dX4_powerIn_15 : decode cX4_powerIn 15 = .ok (.iload_n 2, 1) := by decide +kernel
theorem dX4_powerIn_16 : decode cX4_powerIn 16 = .ok (.iconst 1, 1) := by decide +kernel
theorem dX4_powerIn_17 : decode cX4_powerIn 17 = .ok (.if_icmp .le 29, 3) := by decide +kernel
theorem dX4_powerIn_20 : decode cX4_powerIn 20 = .ok (.lload 4, 2) := by decide +kernel
theorem dX4_powerIn_22 : decode cX4_powerIn 22 = .ok (.iload_n 2, 1) := by decide +kernel
theorem dX4_powerIn_23 : decode cX4_powerIn 23 = .ok (.i2l, 1) := by decide +kernel
theorem dX4_powerIn_24 : decode cX4_powerIn 24 = .ok (.lrem, 1) := by decide +kernel
theorem dX4_powerIn_25 : decode cX4_powerIn 25 = .ok (.lconst 0, 1) := by decide +kernel
theorem dX4_powerIn_26 : decode cX4_powerIn 26 = .ok (.lcmp, 1) := by decide +kernel
theorem dX4_powerIn_27 : decode cX4_powerIn 27 = .ok (.ifCond .ne 19, 3) := by decide +kernel
theorem dX4_powerIn_30 : decode cX4_powerIn 30 = .ok (.lload 4, 2) := by decide +kernel
theorem dX4_powerIn_32 : decode cX4_powerIn 32 = .ok (.iload_n 2, 1) := by decide +kernel
theorem dX4_powerIn_33 : decode cX4_powerIn 33 = .ok (.i2l, 1) := by decide +kernel
theorem dX4_powerIn_34 : decode cX4_powerIn 34 = .ok (.ldiv, 1) := by decide +kernel
theorem dX4_powerIn_35 : decode cX4_powerIn 35 = .ok (.lstore 4, 2) := by decide +kernel
theorem dX4_powerIn_37 : decode cX4_powerIn 37 = .ok (.iinc 3 1, 3) := by decide +kernel
theorem dX4_powerIn_40 : decode cX4_powerIn 40 = .ok (.iinc 6 1, 3) := by decide +kernel
theorem dX4_powerIn_43 : decode cX4_powerIn 43 = .ok (.goto (-35), 3) := by decide +kernel
theorem dX4_powerIn_46 : decode cX4_powerIn 46 = .ok (.iload_n 3, 1) := by decide +kernel
theorem dX4_powerIn_47 : decode cX4_powerIn 47 = .ok (.ireturn, 1) := by decide +kernel
theorem dX4_without_0 : decode cX4_without 0 = .ok (.lload_n 0, 1) := by decide +kernel
theorem dX4_without_1 : decode cX4_without 1 = .ok (.lstore_n 3, 1) := by decide +kernel
theorem dX4_without_2 : decode cX4_without 2 = .ok (.iconst 0, 1) := by decide +kernel
theorem dX4_without_3 : decode cX4_without 3 = .ok (.istore 5, 2) := by decide +kernel
theorem dX4_without_5 : decode cX4_without 5 = .ok (.iload 5, 2) := by decide +kernel
theorem dX4_without_7 : decode cX4_without 7 = .ok (.bipush 63, 2) := by decide +kernel
theorem dX4_without_9 : decode cX4_without 9 = .ok (.if_icmp .ge 28, 3) := by decide +kernel
theorem dX4_without_12 : decode cX4_without 12 = .ok (.iload_n 2, 1) := by decide +kernel
theorem dX4_without_13 : decode cX4_without 13 = .ok (.iconst 1, 1) := by decide +kernel
theorem dX4_without_14 : decode cX4_without 14 = .ok (.if_icmp .le 23, 3) := by decide +kernel
theorem dX4_without_17 : decode cX4_without 17 = .ok (.lload_n 3, 1) := by decide +kernel
theorem dX4_without_18 : decode cX4_without 18 = .ok (.iload_n 2, 1) := by decide +kernel
theorem dX4_without_19 : decode cX4_without 19 = .ok (.i2l, 1) := by decide +kernel
theorem dX4_without_20 : decode cX4_without 20 = .ok (.lrem, 1) := by decide +kernel
theorem dX4_without_21 : decode cX4_without 21 = .ok (.lconst 0, 1) := by decide +kernel
theorem dX4_without_22 : decode cX4_without 22 = .ok (.lcmp, 1) := by decide +kernel
theorem dX4_without_23 : decode cX4_without 23 = .ok (.ifCond .ne 14, 3) := by decide +kernel
theorem dX4_without_26 : decode cX4_without 26 = .ok (.lload_n 3, 1) := by decide +kernel
theorem dX4_without_27 : decode cX4_without 27 = .ok (.iload_n 2, 1) := by decide +kernel
theorem dX4_without_28 : decode cX4_without 28 = .ok (.i2l, 1) := by decide +kernel
theorem dX4_without_29 : decode cX4_without 29 = .ok (.ldiv, 1) := by decide +kernel
theorem dX4_without_30 : decode cX4_without 30 = .ok (.lstore_n 3, 1) := by decide +kernel
theorem dX4_without_31 : decode cX4_without 31 = .ok (.iinc 5 1, 3) := by decide +kernel
theorem dX4_without_34 : decode cX4_without 34 = .ok (.goto (-29), 3) := by decide +kernel
theorem dX4_without_37 : decode cX4_without 37 = .ok (.lload_n 3, 1) := by decide +kernel
theorem dX4_without_38 : decode cX4_without 38 = .ok (.lreturn, 1) := by decide +kernel
theorem dX4_grown_0 : decode cX4_grown 0 = .ok (.lload_n 0, 1) := by decide +kernel
theorem dX4_grown_1 : decode cX4_grown 1 = .ok (.lstore 4, 2) := by decide +kernel
theorem dX4_grown_3 : decode cX4_grown 3 = .ok (.iconst 0, 1) := by decide +kernel
theorem dX4_grown_4 : decode cX4_grown 4 = .ok (.istore 6, 2) := by decide +kernel
theorem dX4_grown_6 : decode cX4_grown 6 = .ok (.iload 6, 2) := by decide +kernel
theorem dX4_grown_8 : decode cX4_grown 8 = .ok (.iload_n 3, 1) := by decide +kernel
theorem dX4_grown_9 : decode cX4_grown 9 = .ok (.if_icmp .ge 22, 3) := by decide +kernel
theorem dX4_grown_12 : decode cX4_grown 12 = .ok (.ldc2_w 36, 3) := by decide +kernel
theorem dX4_grown_15 : decode cX4_grown 15 = .ok (.lload 4, 2) := by decide +kernel
theorem dX4_grown_17 : decode cX4_grown 17 = .ok (.iload_n 2, 1) := by decide +kernel
theorem dX4_grown_18 : decode cX4_grown 18 = .ok (.i2l, 1) := by decide +kernel
theorem dX4_grown_19 : decode cX4_grown 19 = .ok (.lmul, 1) := by decide +kernel
theorem dX4_grown_20 : decode cX4_grown 20 = .ok (.invokestatic 38, 3) := by decide +kernel
theorem dX4_grown_23 : decode cX4_grown 23 = .ok (.lstore 4, 2) := by decide +kernel
theorem dX4_grown_25 : decode cX4_grown 25 = .ok (.iinc 6 1, 3) := by decide +kernel
theorem dX4_grown_28 : decode cX4_grown 28 = .ok (.goto (-22), 3) := by decide +kernel
theorem dX4_grown_31 : decode cX4_grown 31 = .ok (.lload 4, 2) := by decide +kernel
theorem dX4_grown_33 : decode cX4_grown 33 = .ok (.lreturn, 1) := by decide +kernel
theorem dX5_init_0 : decode cX5_init 0 = .ok (.aload_n 0, 1) := by decide +kernel
theorem dX5_init_1 : decode cX5_init 1 = .ok (.invokespecial 3, 3) := by decide +kernel
theorem dX5_init_4 : decode cX5_init 4 = .ok (.aload_n 0, 1) := by decide +kernel
theorem dX5_init_5 : decode cX5_init 5 = .ok (.bipush 16, 2) := by decide +kernel
theorem dX5_init_7 : decode cX5_init 7 = .ok (.newarray .int, 2) := by decide +kernel
theorem dX5_init_9 : decode cX5_init 9 = .ok (.putfield 9, 3) := by decide +kernel
theorem dX5_init_12 : decode cX5_init 12 = .ok (.aload_n 0, 1) := by decide +kernel
theorem dX5_init_13 : decode cX5_init 13 = .ok (.bipush 16, 2) := by decide +kernel
theorem dX5_init_15 : decode cX5_init 15 = .ok (.newarray .int, 2) := by decide +kernel
theorem dX5_init_17 : decode cX5_init 17 = .ok (.putfield 13, 3) := by decide +kernel
theorem dX5_init_20 : decode cX5_init 20 = .ok (.aload_n 0, 1) := by decide +kernel
theorem dX5_init_21 : decode cX5_init 21 = .ok (.bipush 16, 2) := by decide +kernel
theorem dX5_init_23 : decode cX5_init 23 = .ok (.newarray .int, 2) := by decide +kernel
theorem dX5_init_25 : decode cX5_init 25 = .ok (.putfield 16, 3) := by decide +kernel
theorem dX5_init_28 : decode cX5_init 28 = .ok (.aload_n 0, 1) := by decide +kernel
theorem dX5_init_29 : decode cX5_init 29 = .ok (.iconst 0, 1) := by decide +kernel
theorem dX5_init_30 : decode cX5_init 30 = .ok (.putfield 19, 3) := by decide +kernel
theorem dX5_init_33 : decode cX5_init 33 = .ok (.return_, 1) := by decide +kernel
set_option maxRecDepth 20000 in
theorem ggX5_begin_X1_length : GoodIn wsX5_begin wsX1_length := goodIn_r _ [5, 6] (by decide +kernel) (by decide +kernel)
set_option maxRecDepth 20000 in
theorem gX5_begin_X1_length : GoodIn wsX5_begin (va_wsS RX5 23 yX1_length wsX1_length) := goodIn_app (goodIn_of _ (by decide +kernel)) ggX5_begin_X1_length
set_option maxRecDepth 20000 in
theorem ggX5_begin_X1_digitAhead : GoodIn wsX5_begin wsX1_digitAhead := goodIn_r _ [9, 6] (by decide +kernel) (by decide +kernel)
set_option maxRecDepth 20000 in
theorem gX5_begin_X1_digitAhead : GoodIn wsX5_begin (va_wsS RX5 29 yX1_digitAhead wsX1_digitAhead) := goodIn_app (goodIn_of _ (by decide +kernel)) ggX5_begin_X1_digitAhead
set_option maxRecDepth 20000 in
theorem ggX5_begin_X5_write : GoodIn wsX5_begin wsX5_write := goodIn_r _ [14, 1, 15, 16, 17, 18, 19, 20, 21] (by decide +kernel) (by decide +kernel)
set_option maxRecDepth 20000 in
theorem gX5_begin_X5_write : GoodIn wsX5_begin (wsV RX5 33 RX5 yX5_write wsX5_write) := goodIn_app (goodIn_of _ (by decide +kernel)) ggX5_begin_X5_write
theorem dX5_begin_0 : decode cX5_begin 0 = .ok (.aload_n 0, 1) := by decide +kernel
theorem dX5_begin_1 : decode cX5_begin 1 = .ok (.iconst 0, 1) := by decide +kernel
theorem dX5_begin_2 : decode cX5_begin 2 = .ok (.putfield 19, 3) := by decide +kernel
theorem dX5_begin_5 : decode cX5_begin 5 = .ok (.lload_n 1, 1) := by decide +kernel
theorem dX5_begin_6 : decode cX5_begin 6 = .ok (.invokestatic 23, 3) := by decide +kernel
theorem dX5_begin_9 : decode cX5_begin 9 = .ok (.iconst 1, 1) := by decide +kernel
theorem dX5_begin_10 : decode cX5_begin 10 = .ok (.isub, 1) := by decide +kernel
theorem dX5_begin_11 : decode cX5_begin 11 = .ok (.istore 5, 2) := by decide +kernel
theorem dX5_begin_13 : decode cX5_begin 13 = .ok (.iload 5, 2) := by decide +kernel
theorem dX5_begin_15 : decode cX5_begin 15 = .ok (.ifCond .lt 49, 3) := by decide +kernel
theorem dX5_begin_18 : decode cX5_begin 18 = .ok (.lload_n 3, 1) := by decide +kernel
theorem dX5_begin_19 : decode cX5_begin 19 = .ok (.invokestatic 23, 3) := by decide +kernel
theorem dX5_begin_22 : decode cX5_begin 22 = .ok (.iconst 1, 1) := by decide +kernel
theorem dX5_begin_23 : decode cX5_begin 23 = .ok (.isub, 1) := by decide +kernel
theorem dX5_begin_24 : decode cX5_begin 24 = .ok (.istore 6, 2) := by decide +kernel
theorem dX5_begin_26 : decode cX5_begin 26 = .ok (.iload 6, 2) := by decide +kernel
theorem dX5_begin_28 : decode cX5_begin 28 = .ok (.ifCond .lt 30, 3) := by decide +kernel
theorem dX5_begin_31 : decode cX5_begin 31 = .ok (.aload_n 0, 1) := by decide +kernel
theorem dX5_begin_32 : decode cX5_begin 32 = .ok (.lload_n 1, 1) := by decide +kernel
theorem dX5_begin_33 : decode cX5_begin 33 = .ok (.iload 5, 2) := by decide +kernel
theorem dX5_begin_35 : decode cX5_begin 35 = .ok (.invokestatic 29, 3) := by decide +kernel
theorem dX5_begin_38 : decode cX5_begin 38 = .ok (.lload_n 3, 1) := by decide +kernel
theorem dX5_begin_39 : decode cX5_begin 39 = .ok (.iload 6, 2) := by decide +kernel
theorem dX5_begin_41 : decode cX5_begin 41 = .ok (.invokestatic 29, 3) := by decide +kernel
theorem dX5_begin_44 : decode cX5_begin 44 = .ok (.iload 5, 2) := by decide +kernel
theorem dX5_begin_46 : decode cX5_begin 46 = .ok (.iload 6, 2) := by decide +kernel
theorem dX5_begin_48 : decode cX5_begin 48 = .ok (.iadd, 1) := by decide +kernel
theorem dX5_begin_49 : decode cX5_begin 49 = .ok (.invokevirtual 33, 3) := by decide +kernel
theorem dX5_begin_52 : decode cX5_begin 52 = .ok (.iinc 6 (-1), 3) := by decide +kernel
theorem dX5_begin_55 : decode cX5_begin 55 = .ok (.goto (-29), 3) := by decide +kernel
theorem dX5_begin_58 : decode cX5_begin 58 = .ok (.iinc 5 (-1), 3) := by decide +kernel
theorem dX5_begin_61 : decode cX5_begin 61 = .ok (.goto (-48), 3) := by decide +kernel
theorem dX5_begin_64 : decode cX5_begin 64 = .ok (.return_, 1) := by decide +kernel
theorem dX5_write_0 : decode cX5_write 0 = .ok (.iload_n 1, 1) := by decide +kernel
theorem dX5_write_1 : decode cX5_write 1 = .ok (.ifCond .eq 23, 3) := by decide +kernel
theorem dX5_write_4 : decode cX5_write 4 = .ok (.iload_n 2, 1) := by decide +kernel
theorem dX5_write_5 : decode cX5_write 5 = .ok (.ifCond .eq 19, 3) := by decide +kernel
theorem dX5_write_8 : decode cX5_write 8 = .ok (.aload_n 0, 1) := by decide +kernel
theorem dX5_write_9 : decode cX5_write 9 = .ok (.getfield 19, 3) := by decide +kernel
theorem dX5_write_12 : decode cX5_write 12 = .ok (.ifCond .lt 12, 3) := by decide +kernel
theorem dX5_write_15 : decode cX5_write 15 = .ok (.aload_n 0, 1) := by decide +kernel
theorem dX5_write_16 : decode cX5_write 16 = .ok (.getfield 19, 3) := by decide +kernel
theorem dX5_write_19 : decode cX5_write 19 = .ok (.bipush 16, 2) := by decide +kernel
theorem dX5_write_21 : decode cX5_write 21 = .ok (.if_icmp .lt 4, 3) := by decide +kernel
theorem dX5_write_24 : decode cX5_write 24 = .ok (.return_, 1) := by decide +kernel
theorem dX5_write_25 : decode cX5_write 25 = .ok (.aload_n 0, 1) := by decide +kernel
theorem dX5_write_26 : decode cX5_write 26 = .ok (.getfield 9, 3) := by decide +kernel
theorem dX5_write_29 : decode cX5_write 29 = .ok (.aload_n 0, 1) := by decide +kernel
theorem dX5_write_30 : decode cX5_write 30 = .ok (.getfield 19, 3) := by decide +kernel
theorem dX5_write_33 : decode cX5_write 33 = .ok (.iload_n 1, 1) := by decide +kernel
theorem dX5_write_34 : decode cX5_write 34 = .ok (.iastore, 1) := by decide +kernel
theorem dX5_write_35 : decode cX5_write 35 = .ok (.aload_n 0, 1) := by decide +kernel
theorem dX5_write_36 : decode cX5_write 36 = .ok (.getfield 13, 3) := by decide +kernel
theorem dX5_write_39 : decode cX5_write 39 = .ok (.aload_n 0, 1) := by decide +kernel
theorem dX5_write_40 : decode cX5_write 40 = .ok (.getfield 19, 3) := by decide +kernel
theorem dX5_write_43 : decode cX5_write 43 = .ok (.iload_n 2, 1) := by decide +kernel
theorem dX5_write_44 : decode cX5_write 44 = .ok (.iastore, 1) := by decide +kernel
theorem dX5_write_45 : decode cX5_write 45 = .ok (.aload_n 0, 1) := by decide +kernel
theorem dX5_write_46 : decode cX5_write 46 = .ok (.getfield 16, 3) := by decide +kernel
theorem dX5_write_49 : decode cX5_write 49 = .ok (.aload_n 0, 1) := by decide +kernel
theorem dX5_write_50 : decode cX5_write 50 = .ok (.getfield 19, 3) := by decide +kernel
theorem dX5_write_53 : decode cX5_write 53 = .ok (.iload_n 3, 1) := by decide +kernel
theorem dX5_write_54 : decode cX5_write 54 = .ok (.iastore, 1) := by decide +kernel
theorem dX5_write_55 : decode cX5_write 55 = .ok (.aload_n 0, 1) := by decide +kernel
theorem dX5_write_56 : decode cX5_write 56 = .ok (.dup, 1) := by decide +kernel
theorem dX5_write_57 : decode cX5_write 57 = .ok (.getfield 19, 3) := by decide +kernel
theorem dX5_write_60 : decode cX5_write 60 = .ok (.iconst 1, 1) := by decide +kernel
theorem dX5_write_61 : decode cX5_write 61 = .ok (.iadd, 1) := by decide +kernel
theorem dX5_write_62 : decode cX5_write 62 = .ok (.putfield 19, 3) := by decide +kernel
theorem dX5_write_65 : decode cX5_write 65 = .ok (.return_, 1) := by decide +kernel
theorem dX5_lineCount_0 : decode cX5_lineCount 0 = .ok (.aload_n 0, 1) := by decide +kernel
theorem dX5_lineCount_1 : decode cX5_lineCount 1 = .ok (.getfield 19, 3) := by decide +kernel
theorem dX5_lineCount_4 : decode cX5_lineCount 4 = .ok (.ireturn, 1) := by decide +kernel
theorem dX5_hasLine_0 : decode cX5_hasLine 0 = .ok (.iload_n 1, 1) := by decide +kernel
theorem dX5_hasLine_1 : decode cX5_hasLine 1 = .ok (.ifCond .lt 21, 3) := by decide +kernel
theorem dX5_hasLine_4 : decode cX5_hasLine 4 = .ok (.iload_n 1, 1) := by decide +kernel
theorem dX5_hasLine_5 : decode cX5_hasLine 5 = .ok (.aload_n 0, 1) := by decide +kernel
theorem dX5_hasLine_6 : decode cX5_hasLine 6 = .ok (.getfield 19, 3) := by decide +kernel
theorem dX5_hasLine_9 : decode cX5_hasLine 9 = .ok (.if_icmp .ge 13, 3) := by decide +kernel
theorem dX5_hasLine_12 : decode cX5_hasLine 12 = .ok (.iload_n 1, 1) := by decide +kernel
theorem dX5_hasLine_13 : decode cX5_hasLine 13 = .ok (.bipush 16, 2) := by decide +kernel
theorem dX5_hasLine_15 : decode cX5_hasLine 15 = .ok (.if_icmp .ge 7, 3) := by decide +kernel
theorem dX5_hasLine_18 : decode cX5_hasLine 18 = .ok (.iconst 1, 1) := by decide +kernel
theorem dX5_hasLine_19 : decode cX5_hasLine 19 = .ok (.goto 4, 3) := by decide +kernel
theorem dX5_hasLine_22 : decode cX5_hasLine 22 = .ok (.iconst 0, 1) := by decide +kernel
theorem dX5_hasLine_23 : decode cX5_hasLine 23 = .ok (.ireturn, 1) := by decide +kernel
set_option maxRecDepth 20000 in
theorem ggX5_digitOfX_X5_hasLine : GoodIn wsX5_digitOfX wsX5_hasLine := goodIn_r _ [6, 7, 8, 9, 10, 11] (by decide +kernel) (by decide +kernel)
set_option maxRecDepth 20000 in
theorem gX5_digitOfX_X5_hasLine : GoodIn wsX5_digitOfX (wsV RX5 37 RX5 yX5_hasLine wsX5_hasLine) := goodIn_app (goodIn_of _ (by decide +kernel)) ggX5_digitOfX_X5_hasLine
theorem dX5_digitOfX_0 : decode cX5_digitOfX 0 = .ok (.aload_n 0, 1) := by decide +kernel
theorem dX5_digitOfX_1 : decode cX5_digitOfX 1 = .ok (.iload_n 1, 1) := by decide +kernel
theorem dX5_digitOfX_2 : decode cX5_digitOfX 2 = .ok (.invokevirtual 37, 3) := by decide +kernel
theorem dX5_digitOfX_5 : decode cX5_digitOfX 5 = .ok (.ifCond .eq 12, 3) := by decide +kernel
theorem dX5_digitOfX_8 : decode cX5_digitOfX 8 = .ok (.aload_n 0, 1) := by decide +kernel
theorem dX5_digitOfX_9 : decode cX5_digitOfX 9 = .ok (.getfield 9, 3) := by decide +kernel
theorem dX5_digitOfX_12 : decode cX5_digitOfX 12 = .ok (.iload_n 1, 1) := by decide +kernel
theorem dX5_digitOfX_13 : decode cX5_digitOfX 13 = .ok (.iaload, 1) := by decide +kernel
theorem dX5_digitOfX_14 : decode cX5_digitOfX 14 = .ok (.goto 4, 3) := by decide +kernel
theorem dX5_digitOfX_17 : decode cX5_digitOfX 17 = .ok (.iconst 0, 1) := by decide +kernel
theorem dX5_digitOfX_18 : decode cX5_digitOfX 18 = .ok (.ireturn, 1) := by decide +kernel
set_option maxRecDepth 20000 in
theorem ggX5_digitOfY_X5_hasLine : GoodIn wsX5_digitOfY wsX5_hasLine := goodIn_r _ [6, 7, 8, 9, 10, 11] (by decide +kernel) (by decide +kernel)
set_option maxRecDepth 20000 in
theorem gX5_digitOfY_X5_hasLine : GoodIn wsX5_digitOfY (wsV RX5 37 RX5 yX5_hasLine wsX5_hasLine) := goodIn_app (goodIn_of _ (by decide +kernel)) ggX5_digitOfY_X5_hasLine
theorem dX5_digitOfY_0 : decode cX5_digitOfY 0 = .ok (.aload_n 0, 1) := by decide +kernel
theorem dX5_digitOfY_1 : decode cX5_digitOfY 1 = .ok (.iload_n 1, 1) := by decide +kernel
theorem dX5_digitOfY_2 : decode cX5_digitOfY 2 = .ok (.invokevirtual 37, 3) := by decide +kernel
theorem dX5_digitOfY_5 : decode cX5_digitOfY 5 = .ok (.ifCond .eq 12, 3) := by decide +kernel
theorem dX5_digitOfY_8 : decode cX5_digitOfY 8 = .ok (.aload_n 0, 1) := by decide +kernel
theorem dX5_digitOfY_9 : decode cX5_digitOfY 9 = .ok (.getfield 13, 3) := by decide +kernel
theorem dX5_digitOfY_12 : decode cX5_digitOfY 12 = .ok (.iload_n 1, 1) := by decide +kernel
theorem dX5_digitOfY_13 : decode cX5_digitOfY 13 = .ok (.iaload, 1) := by decide +kernel
theorem dX5_digitOfY_14 : decode cX5_digitOfY 14 = .ok (.goto 4, 3) := by decide +kernel
theorem dX5_digitOfY_17 : decode cX5_digitOfY 17 = .ok (.iconst 0, 1) := by decide +kernel
theorem dX5_digitOfY_18 : decode cX5_digitOfY 18 = .ok (.ireturn, 1) := by decide +kernel
set_option maxRecDepth 20000 in
theorem ggX5_place_X5_hasLine : GoodIn wsX5_place wsX5_hasLine := goodIn_r _ [6, 7, 8, 9, 10, 11] (by decide +kernel) (by decide +kernel)
set_option maxRecDepth 20000 in
theorem gX5_place_X5_hasLine : GoodIn wsX5_place (wsV RX5 37 RX5 yX5_hasLine wsX5_hasLine) := goodIn_app (goodIn_of _ (by decide +kernel)) ggX5_place_X5_hasLine
theorem dX5_place_0 : decode cX5_place 0 = .ok (.aload_n 0, 1) := by decide +kernel
theorem dX5_place_1 : decode cX5_place 1 = .ok (.iload_n 1, 1) := by decide +kernel
theorem dX5_place_2 : decode cX5_place 2 = .ok (.invokevirtual 37, 3) := by decide +kernel
theorem dX5_place_5 : decode cX5_place 5 = .ok (.ifCond .eq 12, 3) := by decide +kernel
theorem dX5_place_8 : decode cX5_place 8 = .ok (.aload_n 0, 1) := by decide +kernel
theorem dX5_place_9 : decode cX5_place 9 = .ok (.getfield 16, 3) := by decide +kernel
theorem dX5_place_12 : decode cX5_place 12 = .ok (.iload_n 1, 1) := by decide +kernel
theorem dX5_place_13 : decode cX5_place 13 = .ok (.iaload, 1) := by decide +kernel
theorem dX5_place_14 : decode cX5_place 14 = .ok (.goto 4, 3) := by decide +kernel
theorem dX5_place_17 : decode cX5_place 17 = .ok (.iconst 0, 1) := by decide +kernel
theorem dX5_place_18 : decode cX5_place 18 = .ok (.ireturn, 1) := by decide +kernel
set_option maxRecDepth 20000 in
theorem ggX5_product_X5_digitOfX : GoodIn wsX5_product wsX5_digitOfX := goodIn_r _ [5, 6, 7, 8, 9, 4, 10, 11, 17, 18, 19, 20] (by decide +kernel) (by decide +kernel)
set_option maxRecDepth 20000 in
theorem gX5_product_X5_digitOfX : GoodIn wsX5_product (wsV RX5 41 RX5 yX5_digitOfX wsX5_digitOfX) := goodIn_app (goodIn_of _ (by decide +kernel)) ggX5_product_X5_digitOfX
set_option maxRecDepth 20000 in
theorem ggX5_product_X5_digitOfY : GoodIn wsX5_product wsX5_digitOfY := goodIn_r _ [15, 16, 7, 8, 9, 4, 10, 11, 17, 18, 19, 20] (by decide +kernel) (by decide +kernel)
set_option maxRecDepth 20000 in
theorem gX5_product_X5_digitOfY : GoodIn wsX5_product (wsV RX5 45 RX5 yX5_digitOfY wsX5_digitOfY) := goodIn_app (goodIn_of _ (by decide +kernel)) ggX5_product_X5_digitOfY
theorem dX5_product_0 : decode cX5_product 0 = .ok (.aload_n 0, 1) := by decide +kernel
theorem dX5_product_1 : decode cX5_product 1 = .ok (.iload_n 1, 1) := by decide +kernel
theorem dX5_product_2 : decode cX5_product 2 = .ok (.invokevirtual 41, 3) := by decide +kernel
theorem dX5_product_5 : decode cX5_product 5 = .ok (.aload_n 0, 1) := by decide +kernel
theorem dX5_product_6 : decode cX5_product 6 = .ok (.iload_n 1, 1) := by decide +kernel
theorem dX5_product_7 : decode cX5_product 7 = .ok (.invokevirtual 45, 3) := by decide +kernel
theorem dX5_product_10 : decode cX5_product 10 = .ok (.imul, 1) := by decide +kernel
theorem dX5_product_11 : decode cX5_product 11 = .ok (.ireturn, 1) := by decide +kernel
set_option maxRecDepth 20000 in
theorem ggX5_worth_X5_product : GoodIn wsX5_worth wsX5_product := goodIn_r _ [5, 6, 7, 8, 4, 9, 10, 11, 12, 13, 14, 15, 16, 17, 18, 19, 20, 31, 32, 33, 34] (by decide +kernel) (by decide +kernel)
set_option maxRecDepth 20000 in
theorem gX5_worth_X5_product : GoodIn wsX5_worth (wsV RX5 48 RX5 yX5_product wsX5_product) := goodIn_app (goodIn_of _ (by decide +kernel)) ggX5_worth_X5_product
set_option maxRecDepth 20000 in
theorem ggX5_worth_X5_place : GoodIn wsX5_worth wsX5_place := goodIn_r _ [24, 25, 11, 12, 13, 4, 14, 15, 31, 32, 33, 34] (by decide +kernel) (by decide +kernel)
set_option maxRecDepth 20000 in
theorem gX5_worth_X5_place : GoodIn wsX5_worth (wsV RX5 51 RX5 yX5_place wsX5_place) := goodIn_app (goodIn_of _ (by decide +kernel)) ggX5_worth_X5_place
set_option maxRecDepth 20000 in
theorem ggX5_worth_X1_atPlace : GoodIn wsX5_worth wsX1_atPlace := goodIn_r _ [29, 30] (by decide +kernel) (by decide +kernel)
set_option maxRecDepth 20000 in
theorem gX5_worth_X1_atPlace : GoodIn wsX5_worth (va_wsS RX5 54 yX1_atPlace wsX1_atPlace) := goodIn_app (goodIn_of _ (by decide +kernel)) ggX5_worth_X1_atPlace
theorem dX5_worth_0 : decode cX5_worth 0 = .ok (.aload_n 0, 1) := by decide +kernel
theorem dX5_worth_1 : decode cX5_worth 1 = .ok (.iload_n 1, 1) := by decide +kernel
theorem dX5_worth_2 : decode cX5_worth 2 = .ok (.invokevirtual 48, 3) := by decide +kernel
theorem dX5_worth_5 : decode cX5_worth 5 = .ok (.i2l, 1) := by decide +kernel
theorem dX5_worth_6 : decode cX5_worth 6 = .ok (.aload_n 0, 1) := by decide +kernel
theorem dX5_worth_7 : decode cX5_worth 7 = .ok (.iload_n 1, 1) := by decide +kernel
theorem dX5_worth_8 : decode cX5_worth 8 = .ok (.invokevirtual 51, 3) := by decide +kernel
theorem dX5_worth_11 : decode cX5_worth 11 = .ok (.invokestatic 54, 3) := by decide +kernel
theorem dX5_worth_14 : decode cX5_worth 14 = .ok (.lreturn, 1) := by decide +kernel
set_option maxRecDepth 20000 in
theorem ggX5_sumUpTo_X5_worth : GoodIn wsX5_sumUpTo wsX5_worth := goodIn_r _ [5, 6, 7, 8, 4, 9, 10, 11, 12, 13, 14, 15, 16, 17, 18, 19, 20, 21, 22, 23, 24, 25, 26, 27, 28, 29, 30, 31, 32, 33, 34, 35, 36, 37, 38] (by decide +kernel) (by decide +kernel)
set_option maxRecDepth 20000 in
theorem gX5_sumUpTo_X5_worth : GoodIn wsX5_sumUpTo (wsV RX5 58 RX5 yX5_worth wsX5_worth) := goodIn_app (goodIn_of _ (by decide +kernel)) ggX5_sumUpTo_X5_worth
theorem dX5_sumUpTo_0 : decode cX5_sumUpTo 0 = .ok (.lconst 0, 1) := by decide +kernel
theorem dX5_sumUpTo_1 : decode cX5_sumUpTo 1 = .ok (.lstore_n 2, 1) := by decide +kernel
theorem dX5_sumUpTo_2 : decode cX5_sumUpTo 2 = .ok (.iconst 0, 1) := by decide +kernel
theorem dX5_sumUpTo_3 : decode cX5_sumUpTo 3 = .ok (.istore 4, 2) := by decide +kernel
theorem dX5_sumUpTo_5 : decode cX5_sumUpTo 5 = .ok (.iload 4, 2) := by decide +kernel
theorem dX5_sumUpTo_7 : decode cX5_sumUpTo 7 = .ok (.iload_n 1, 1) := by decide +kernel
theorem dX5_sumUpTo_8 : decode cX5_sumUpTo 8 = .ok (.if_icmp .gt 25, 3) := by decide +kernel
theorem dX5_sumUpTo_11 : decode cX5_sumUpTo 11 = .ok (.iload 4, 2) := by decide +kernel
theorem dX5_sumUpTo_13 : decode cX5_sumUpTo 13 = .ok (.bipush 16, 2) := by decide +kernel
theorem dX5_sumUpTo_15 : decode cX5_sumUpTo 15 = .ok (.if_icmp .ge 18, 3) := by decide +kernel
theorem dX5_sumUpTo_18 : decode cX5_sumUpTo 18 = .ok (.lload_n 2, 1) := by decide +kernel
theorem dX5_sumUpTo_19 : decode cX5_sumUpTo 19 = .ok (.aload_n 0, 1) := by decide +kernel
theorem dX5_sumUpTo_20 : decode cX5_sumUpTo 20 = .ok (.iload 4, 2) := by decide +kernel
theorem dX5_sumUpTo_22 : decode cX5_sumUpTo 22 = .ok (.invokevirtual 58, 3) := by decide +kernel
theorem dX5_sumUpTo_25 : decode cX5_sumUpTo 25 = .ok (.ladd, 1) := by decide +kernel
theorem dX5_sumUpTo_26 : decode cX5_sumUpTo 26 = .ok (.lstore_n 2, 1) := by decide +kernel
theorem dX5_sumUpTo_27 : decode cX5_sumUpTo 27 = .ok (.iinc 4 1, 3) := by decide +kernel
theorem dX5_sumUpTo_30 : decode cX5_sumUpTo 30 = .ok (.goto (-25), 3) := by decide +kernel
theorem dX5_sumUpTo_33 : decode cX5_sumUpTo 33 = .ok (.lload_n 2, 1) := by decide +kernel
theorem dX5_sumUpTo_34 : decode cX5_sumUpTo 34 = .ok (.lreturn, 1) := by decide +kernel
set_option maxRecDepth 20000 in
theorem ggX5_slipped_X5_leftOut : GoodIn wsX5_slipped wsX5_leftOut := goodIn_r _ [6, 1, 7, 8, 9, 5, 10, 11, 12, 13, 14, 15, 16, 17, 18, 19, 20, 21, 22, 23, 24, 25, 26, 27, 28, 29, 30, 31, 32, 33, 34, 35, 48, 49, 50, 51] (by decide +kernel) (by decide +kernel)
set_option maxRecDepth 20000 in
theorem gX5_slipped_X5_leftOut : GoodIn wsX5_slipped (wsV RX5 62 RX5 yX5_leftOut wsX5_leftOut) := goodIn_app (goodIn_of _ (by decide +kernel)) ggX5_slipped_X5_leftOut
set_option maxRecDepth 20000 in
theorem ggX5_slipped_X5_placeLost : GoodIn wsX5_slipped wsX5_placeLost := goodIn_r _ [39, 1, 26, 27, 28, 5, 29, 30, 16, 17, 18, 19, 20, 7, 8, 9, 10, 11, 12, 13, 14, 15, 21, 22, 23, 24, 25, 31, 32, 33, 34, 35, 48, 49, 50, 51] (by decide +kernel) (by decide +kernel)
set_option maxRecDepth 20000 in
theorem gX5_slipped_X5_placeLost : GoodIn wsX5_slipped (wsV RX5 66 RX5 yX5_placeLost wsX5_placeLost) := goodIn_app (goodIn_of _ (by decide +kernel)) ggX5_slipped_X5_placeLost
set_option maxRecDepth 20000 in
theorem ggX5_slipped_X5_rowBeside : GoodIn wsX5_slipped wsX5_rowBeside := goodIn_r _ [43, 1, 21, 22, 23, 5, 24, 25, 16, 17, 18, 19, 20, 11, 12, 13, 14, 15, 26, 27, 28, 29, 30, 31, 32, 33, 34, 35, 48, 49, 50, 51] (by decide +kernel) (by decide +kernel)
set_option maxRecDepth 20000 in
theorem gX5_slipped_X5_rowBeside : GoodIn wsX5_slipped (wsV RX5 69 RX5 yX5_rowBeside wsX5_rowBeside) := goodIn_app (goodIn_of _ (by decide +kernel)) ggX5_slipped_X5_rowBeside
set_option maxRecDepth 20000 in
theorem ggX5_slipped_X5_writtenTwice : GoodIn wsX5_slipped wsX5_writtenTwice := goodIn_r _ [47, 1, 7, 8, 9, 5, 10, 11, 12, 13, 14, 15, 16, 17, 18, 19, 20, 21, 22, 23, 24, 25, 26, 27, 28, 29, 30, 31, 32, 33, 34, 35, 48, 49, 50, 51] (by decide +kernel) (by decide +kernel)
set_option maxRecDepth 20000 in
theorem gX5_slipped_X5_writtenTwice : GoodIn wsX5_slipped (wsV RX5 72 RX5 yX5_writtenTwice wsX5_writtenTwice) := goodIn_app (goodIn_of _ (by decide +kernel)) ggX5_slipped_X5_writtenTwice
theorem dX5_slipped_0 : decode cX5_slipped 0 = .ok (.iload_n 2, 1) := by decide +kernel
theorem dX5_slipped_1 : decode cX5_slipped 1 = .ok (.tableswitch 59 0 3 #[31, 38, 45, 52], 31) := by decide +kernel
theorem dX5_slipped_32 : decode cX5_slipped 32 = .ok (.aload_n 0, 1) := by decide +kernel
theorem dX5_slipped_33 : decode cX5_slipped 33 = .ok (.iload_n 1, 1) := by decide +kernel
theorem dX5_slipped_34 : decode cX5_slipped 34 = .ok (.iload_n 3, 1) := by decide +kernel
theorem dX5_slipped_35 : decode cX5_slipped 35 = .ok (.invokevirtual 62, 3) := by decide +kernel
theorem dX5_slipped_38 : decode cX5_slipped 38 = .ok (.lreturn, 1) := by decide +kernel
theorem dX5_slipped_39 : decode cX5_slipped 39 = .ok (.aload_n 0, 1) := by decide +kernel
theorem dX5_slipped_40 : decode cX5_slipped 40 = .ok (.iload_n 1, 1) := by decide +kernel
theorem dX5_slipped_41 : decode cX5_slipped 41 = .ok (.iload_n 3, 1) := by decide +kernel
theorem dX5_slipped_42 : decode cX5_slipped 42 = .ok (.invokevirtual 66, 3) := by decide +kernel
theorem dX5_slipped_45 : decode cX5_slipped 45 = .ok (.lreturn, 1) := by decide +kernel
theorem dX5_slipped_46 : decode cX5_slipped 46 = .ok (.aload_n 0, 1) := by decide +kernel
theorem dX5_slipped_47 : decode cX5_slipped 47 = .ok (.iload_n 1, 1) := by decide +kernel
theorem dX5_slipped_48 : decode cX5_slipped 48 = .ok (.iload_n 3, 1) := by decide +kernel
theorem dX5_slipped_49 : decode cX5_slipped 49 = .ok (.invokevirtual 69, 3) := by decide +kernel
theorem dX5_slipped_52 : decode cX5_slipped 52 = .ok (.lreturn, 1) := by decide +kernel
theorem dX5_slipped_53 : decode cX5_slipped 53 = .ok (.aload_n 0, 1) := by decide +kernel
theorem dX5_slipped_54 : decode cX5_slipped 54 = .ok (.iload_n 1, 1) := by decide +kernel
theorem dX5_slipped_55 : decode cX5_slipped 55 = .ok (.iload_n 3, 1) := by decide +kernel
theorem dX5_slipped_56 : decode cX5_slipped 56 = .ok (.invokevirtual 72, 3) := by decide +kernel
theorem dX5_slipped_59 : decode cX5_slipped 59 = .ok (.lreturn, 1) := by decide +kernel
theorem dX5_slipped_60 : decode cX5_slipped 60 = .ok (.ldc2_w 75, 3) := by decide +kernel
theorem dX5_slipped_63 : decode cX5_slipped 63 = .ok (.lreturn, 1) := by decide +kernel
set_option maxRecDepth 20000 in
theorem ggX5_leftOut_X5_product : GoodIn wsX5_leftOut wsX5_product := goodIn_r _ [6, 7, 8, 9, 5, 10, 11, 12, 13, 14, 15, 16, 17, 18, 19, 20, 21, 32, 33, 34, 35] (by decide +kernel) (by decide +kernel)
set_option maxRecDepth 20000 in
theorem gX5_leftOut_X5_product : GoodIn wsX5_leftOut (wsV RX5 48 RX5 yX5_product wsX5_product) := goodIn_app (goodIn_of _ (by decide +kernel)) ggX5_leftOut_X5_product
set_option maxRecDepth 20000 in
theorem ggX5_leftOut_X5_place : GoodIn wsX5_leftOut wsX5_place := goodIn_r _ [25, 26, 12, 13, 14, 5, 15, 16, 32, 33, 34, 35] (by decide +kernel) (by decide +kernel)
set_option maxRecDepth 20000 in
theorem gX5_leftOut_X5_place : GoodIn wsX5_leftOut (wsV RX5 51 RX5 yX5_place wsX5_place) := goodIn_app (goodIn_of _ (by decide +kernel)) ggX5_leftOut_X5_place
set_option maxRecDepth 20000 in
theorem ggX5_leftOut_X1_atPlace : GoodIn wsX5_leftOut wsX1_atPlace := goodIn_r _ [30, 31] (by decide +kernel) (by decide +kernel)
set_option maxRecDepth 20000 in
theorem gX5_leftOut_X1_atPlace : GoodIn wsX5_leftOut (va_wsS RX5 54 yX1_atPlace wsX1_atPlace) := goodIn_app (goodIn_of _ (by decide +kernel)) ggX5_leftOut_X1_atPlace
theorem dX5_leftOut_0 : decode cX5_leftOut 0 = .ok (.aload_n 0, 1) := by decide +kernel
theorem dX5_leftOut_1 : decode cX5_leftOut 1 = .ok (.iload_n 1, 1) := by decide +kernel
theorem dX5_leftOut_2 : decode cX5_leftOut 2 = .ok (.invokevirtual 48, 3) := by decide +kernel
theorem dX5_leftOut_5 : decode cX5_leftOut 5 = .ok (.bipush 60, 2) := by decide +kernel
theorem dX5_leftOut_7 : decode cX5_leftOut 7 = .ok (.idiv, 1) := by decide +kernel
theorem dX5_leftOut_8 : decode cX5_leftOut 8 = .ok (.istore_n 3, 1) := by decide +kernel
theorem dX5_leftOut_9 : decode cX5_leftOut 9 = .ok (.aload_n 0, 1) := by decide +kernel
theorem dX5_leftOut_10 : decode cX5_leftOut 10 = .ok (.iload_n 1, 1) := by decide +kernel
theorem dX5_leftOut_11 : decode cX5_leftOut 11 = .ok (.invokevirtual 48, 3) := by decide +kernel
theorem dX5_leftOut_14 : decode cX5_leftOut 14 = .ok (.bipush 60, 2) := by decide +kernel
theorem dX5_leftOut_16 : decode cX5_leftOut 16 = .ok (.irem, 1) := by decide +kernel
theorem dX5_leftOut_17 : decode cX5_leftOut 17 = .ok (.istore 4, 2) := by decide +kernel
theorem dX5_leftOut_19 : decode cX5_leftOut 19 = .ok (.iload_n 3, 1) := by decide +kernel
theorem dX5_leftOut_20 : decode cX5_leftOut 20 = .ok (.ifCond .eq 13, 3) := by decide +kernel
theorem dX5_leftOut_23 : decode cX5_leftOut 23 = .ok (.iload_n 2, 1) := by decide +kernel
theorem dX5_leftOut_24 : decode cX5_leftOut 24 = .ok (.iconst 1, 1) := by decide +kernel
theorem dX5_leftOut_25 : decode cX5_leftOut 25 = .ok (.if_icmp .ne 12, 3) := by decide +kernel
theorem dX5_leftOut_28 : decode cX5_leftOut 28 = .ok (.iload 4, 2) := by decide +kernel
theorem dX5_leftOut_30 : decode cX5_leftOut 30 = .ok (.ifCond .ne 7, 3) := by decide +kernel
theorem dX5_leftOut_33 : decode cX5_leftOut 33 = .ok (.ldc2_w 75, 3) := by decide +kernel
theorem dX5_leftOut_36 : decode cX5_leftOut 36 = .ok (.lreturn, 1) := by decide +kernel
theorem dX5_leftOut_37 : decode cX5_leftOut 37 = .ok (.iload_n 2, 1) := by decide +kernel
theorem dX5_leftOut_38 : decode cX5_leftOut 38 = .ok (.ifCond .ne 9, 3) := by decide +kernel
theorem dX5_leftOut_41 : decode cX5_leftOut 41 = .ok (.iload 4, 2) := by decide +kernel
theorem dX5_leftOut_43 : decode cX5_leftOut 43 = .ok (.i2l, 1) := by decide +kernel
theorem dX5_leftOut_44 : decode cX5_leftOut 44 = .ok (.goto 5, 3) := by decide +kernel
theorem dX5_leftOut_47 : decode cX5_leftOut 47 = .ok (.iload_n 3, 1) := by decide +kernel
theorem dX5_leftOut_48 : decode cX5_leftOut 48 = .ok (.i2l, 1) := by decide +kernel
theorem dX5_leftOut_49 : decode cX5_leftOut 49 = .ok (.aload_n 0, 1) := by decide +kernel
theorem dX5_leftOut_50 : decode cX5_leftOut 50 = .ok (.iload_n 1, 1) := by decide +kernel
theorem dX5_leftOut_51 : decode cX5_leftOut 51 = .ok (.invokevirtual 51, 3) := by decide +kernel
theorem dX5_leftOut_54 : decode cX5_leftOut 54 = .ok (.invokestatic 54, 3) := by decide +kernel
theorem dX5_leftOut_57 : decode cX5_leftOut 57 = .ok (.lreturn, 1) := by decide +kernel
set_option maxRecDepth 20000 in
theorem ggX5_placeLost_X5_place : GoodIn wsX5_placeLost wsX5_place := goodIn_r _ [6, 7, 8, 9, 10, 5, 11, 12, 32, 33, 34, 35] (by decide +kernel) (by decide +kernel)
set_option maxRecDepth 20000 in
theorem gX5_placeLost_X5_place : GoodIn wsX5_placeLost (wsV RX5 51 RX5 yX5_place wsX5_place) := goodIn_app (goodIn_of _ (by decide +kernel)) ggX5_placeLost_X5_place
set_option maxRecDepth 20000 in
theorem ggX5_placeLost_X5_product : GoodIn wsX5_placeLost wsX5_product := goodIn_r _ [16, 17, 18, 19, 5, 20, 21, 8, 9, 10, 11, 12, 22, 23, 24, 25, 26, 32, 33, 34, 35] (by decide +kernel) (by decide +kernel)
set_option maxRecDepth 20000 in
theorem gX5_placeLost_X5_product : GoodIn wsX5_placeLost (wsV RX5 48 RX5 yX5_product wsX5_product) := goodIn_app (goodIn_of _ (by decide +kernel)) ggX5_placeLost_X5_product
set_option maxRecDepth 20000 in
theorem ggX5_placeLost_X1_atPlace : GoodIn wsX5_placeLost wsX1_atPlace := goodIn_r _ [30, 31] (by decide +kernel) (by decide +kernel)
set_option maxRecDepth 20000 in
theorem gX5_placeLost_X1_atPlace : GoodIn wsX5_placeLost (va_wsS RX5 54 yX1_atPlace wsX1_atPlace) := goodIn_app (goodIn_of _ (by decide +kernel)) ggX5_placeLost_X1_atPlace
theorem dX5_placeLost_0 : decode cX5_placeLost 0 = .ok (.iload_n 2, 1) := by decide +kernel
theorem dX5_placeLost_1 : decode cX5_placeLost 1 = .ok (.ifCond .ne 30, 3) := by decide +kernel
theorem dX5_placeLost_4 : decode cX5_placeLost 4 = .ok (.aload_n 0, 1) := by decide +kernel
theorem dX5_placeLost_5 : decode cX5_placeLost 5 = .ok (.iload_n 1, 1) := by decide +kernel
theorem dX5_placeLost_6 : decode cX5_placeLost 6 = .ok (.invokevirtual 51, 3) := by decide +kernel
theorem dX5_placeLost_9 : decode cX5_placeLost 9 = .ok (.ifCond .le 22, 3) := by decide +kernel
theorem dX5_placeLost_12 : decode cX5_placeLost 12 = .ok (.aload_n 0, 1) := by decide +kernel
theorem dX5_placeLost_13 : decode cX5_placeLost 13 = .ok (.iload_n 1, 1) := by decide +kernel
theorem dX5_placeLost_14 : decode cX5_placeLost 14 = .ok (.invokevirtual 48, 3) := by decide +kernel
theorem dX5_placeLost_17 : decode cX5_placeLost 17 = .ok (.i2l, 1) := by decide +kernel
theorem dX5_placeLost_18 : decode cX5_placeLost 18 = .ok (.aload_n 0, 1) := by decide +kernel
theorem dX5_placeLost_19 : decode cX5_placeLost 19 = .ok (.iload_n 1, 1) := by decide +kernel
theorem dX5_placeLost_20 : decode cX5_placeLost 20 = .ok (.invokevirtual 51, 3) := by decide +kernel
theorem dX5_placeLost_23 : decode cX5_placeLost 23 = .ok (.iconst 1, 1) := by decide +kernel
theorem dX5_placeLost_24 : decode cX5_placeLost 24 = .ok (.isub, 1) := by decide +kernel
theorem dX5_placeLost_25 : decode cX5_placeLost 25 = .ok (.invokestatic 54, 3) := by decide +kernel
theorem dX5_placeLost_28 : decode cX5_placeLost 28 = .ok (.goto 6, 3) := by decide +kernel
theorem dX5_placeLost_31 : decode cX5_placeLost 31 = .ok (.ldc2_w 75, 3) := by decide +kernel
theorem dX5_placeLost_34 : decode cX5_placeLost 34 = .ok (.lreturn, 1) := by decide +kernel
set_option maxRecDepth 20000 in
theorem ggX5_rowBeside_X5_digitOfY : GoodIn wsX5_rowBeside wsX5_digitOfY := goodIn_r _ [6, 7, 8, 9, 10, 5, 11, 12, 28, 29, 30, 31] (by decide +kernel) (by decide +kernel)
set_option maxRecDepth 20000 in
theorem gX5_rowBeside_X5_digitOfY : GoodIn wsX5_rowBeside (wsV RX5 45 RX5 yX5_digitOfY wsX5_digitOfY) := goodIn_app (goodIn_of _ (by decide +kernel)) ggX5_rowBeside_X5_digitOfY
set_option maxRecDepth 20000 in
theorem ggX5_rowBeside_X5_digitOfX : GoodIn wsX5_rowBeside wsX5_digitOfX := goodIn_r _ [16, 17, 8, 9, 10, 5, 11, 12, 28, 29, 30, 31] (by decide +kernel) (by decide +kernel)
set_option maxRecDepth 20000 in
theorem gX5_rowBeside_X5_digitOfX : GoodIn wsX5_rowBeside (wsV RX5 41 RX5 yX5_digitOfX wsX5_digitOfX) := goodIn_app (goodIn_of _ (by decide +kernel)) ggX5_rowBeside_X5_digitOfX
set_option maxRecDepth 20000 in
theorem ggX5_rowBeside_X5_place : GoodIn wsX5_rowBeside wsX5_place := goodIn_r _ [21, 22, 8, 9, 10, 5, 11, 12, 28, 29, 30, 31] (by decide +kernel) (by decide +kernel)
set_option maxRecDepth 20000 in
theorem gX5_rowBeside_X5_place : GoodIn wsX5_rowBeside (wsV RX5 51 RX5 yX5_place wsX5_place) := goodIn_app (goodIn_of _ (by decide +kernel)) ggX5_rowBeside_X5_place
set_option maxRecDepth 20000 in
theorem ggX5_rowBeside_X1_atPlace : GoodIn wsX5_rowBeside wsX1_atPlace := goodIn_r _ [26, 27] (by decide +kernel) (by decide +kernel)
set_option maxRecDepth 20000 in
theorem gX5_rowBeside_X1_atPlace : GoodIn wsX5_rowBeside (va_wsS RX5 54 yX1_atPlace wsX1_atPlace) := goodIn_app (goodIn_of _ (by decide +kernel)) ggX5_rowBeside_X1_atPlace
theorem dX5_rowBeside_0 : decode cX5_rowBeside 0 = .ok (.iload_n 2, 1) := by decide +kernel
theorem dX5_rowBeside_1 : decode cX5_rowBeside 1 = .ok (.ifCond .ne 13, 3) := by decide +kernel
theorem dX5_rowBeside_4 : decode cX5_rowBeside 4 = .ok (.aload_n 0, 1) := by decide +kernel
theorem dX5_rowBeside_5 : decode cX5_rowBeside 5 = .ok (.iload_n 1, 1) := by decide +kernel
theorem dX5_rowBeside_6 : decode cX5_rowBeside 6 = .ok (.invokevirtual 45, 3) := by decide +kernel
theorem dX5_rowBeside_9 : decode cX5_rowBeside 9 = .ok (.iconst 1, 1) := by decide +kernel
theorem dX5_rowBeside_10 : decode cX5_rowBeside 10 = .ok (.isub, 1) := by decide +kernel
theorem dX5_rowBeside_11 : decode cX5_rowBeside 11 = .ok (.goto 10, 3) := by decide +kernel
theorem dX5_rowBeside_14 : decode cX5_rowBeside 14 = .ok (.aload_n 0, 1) := by decide +kernel
theorem dX5_rowBeside_15 : decode cX5_rowBeside 15 = .ok (.iload_n 1, 1) := by decide +kernel
theorem dX5_rowBeside_16 : decode cX5_rowBeside 16 = .ok (.invokevirtual 45, 3) := by decide +kernel
theorem dX5_rowBeside_19 : decode cX5_rowBeside 19 = .ok (.iconst 1, 1) := by decide +kernel
theorem dX5_rowBeside_20 : decode cX5_rowBeside 20 = .ok (.iadd, 1) := by decide +kernel
theorem dX5_rowBeside_21 : decode cX5_rowBeside 21 = .ok (.istore_n 3, 1) := by decide +kernel
theorem dX5_rowBeside_22 : decode cX5_rowBeside 22 = .ok (.iload_n 3, 1) := by decide +kernel
theorem dX5_rowBeside_23 : decode cX5_rowBeside 23 = .ok (.iconst 1, 1) := by decide +kernel
theorem dX5_rowBeside_24 : decode cX5_rowBeside 24 = .ok (.if_icmp .lt 9, 3) := by decide +kernel
theorem dX5_rowBeside_27 : decode cX5_rowBeside 27 = .ok (.iload_n 3, 1) := by decide +kernel
theorem dX5_rowBeside_28 : decode cX5_rowBeside 28 = .ok (.bipush 60, 2) := by decide +kernel
theorem dX5_rowBeside_30 : decode cX5_rowBeside 30 = .ok (.if_icmp .lt 7, 3) := by decide +kernel
theorem dX5_rowBeside_33 : decode cX5_rowBeside 33 = .ok (.ldc2_w 75, 3) := by decide +kernel
theorem dX5_rowBeside_36 : decode cX5_rowBeside 36 = .ok (.lreturn, 1) := by decide +kernel
theorem dX5_rowBeside_37 : decode cX5_rowBeside 37 = .ok (.aload_n 0, 1) := by decide +kernel
theorem dX5_rowBeside_38 : decode cX5_rowBeside 38 = .ok (.iload_n 1, 1) := by decide +kernel
theorem dX5_rowBeside_39 : decode cX5_rowBeside 39 = .ok (.invokevirtual 41, 3) := by decide +kernel
theorem dX5_rowBeside_42 : decode cX5_rowBeside 42 = .ok (.i2l, 1) := by decide +kernel
theorem dX5_rowBeside_43 : decode cX5_rowBeside 43 = .ok (.iload_n 3, 1) := by decide +kernel
theorem dX5_rowBeside_44 : decode cX5_rowBeside 44 = .ok (.i2l, 1) := by decide +kernel
theorem dX5_rowBeside_45 : decode cX5_rowBeside 45 = .ok (.lmul, 1) := by decide +kernel
theorem dX5_rowBeside_46 : decode cX5_rowBeside 46 = .ok (.aload_n 0, 1) := by decide +kernel
theorem dX5_rowBeside_47 : decode cX5_rowBeside 47 = .ok (.iload_n 1, 1) := by decide +kernel
theorem dX5_rowBeside_48 : decode cX5_rowBeside 48 = .ok (.invokevirtual 51, 3) := by decide +kernel
theorem dX5_rowBeside_51 : decode cX5_rowBeside 51 = .ok (.invokestatic 54, 3) := by decide +kernel
theorem dX5_rowBeside_54 : decode cX5_rowBeside 54 = .ok (.lreturn, 1) := by decide +kernel
set_option maxRecDepth 20000 in
theorem ggX5_writtenTwice_X5_product : GoodIn wsX5_writtenTwice wsX5_product := goodIn_r _ [6, 7, 8, 9, 5, 10, 11, 12, 13, 14, 15, 16, 17, 18, 19, 20, 21, 32, 33, 34, 35] (by decide +kernel) (by decide +kernel)
set_option maxRecDepth 20000 in
theorem gX5_writtenTwice_X5_product : GoodIn wsX5_writtenTwice (wsV RX5 48 RX5 yX5_product wsX5_product) := goodIn_app (goodIn_of _ (by decide +kernel)) ggX5_writtenTwice_X5_product
set_option maxRecDepth 20000 in
theorem ggX5_writtenTwice_X5_place : GoodIn wsX5_writtenTwice wsX5_place := goodIn_r _ [25, 26, 12, 13, 14, 5, 15, 16, 32, 33, 34, 35] (by decide +kernel) (by decide +kernel)
set_option maxRecDepth 20000 in
theorem gX5_writtenTwice_X5_place : GoodIn wsX5_writtenTwice (wsV RX5 51 RX5 yX5_place wsX5_place) := goodIn_app (goodIn_of _ (by decide +kernel)) ggX5_writtenTwice_X5_place
set_option maxRecDepth 20000 in
theorem ggX5_writtenTwice_X1_atPlace : GoodIn wsX5_writtenTwice wsX1_atPlace := goodIn_r _ [30, 31] (by decide +kernel) (by decide +kernel)
set_option maxRecDepth 20000 in
theorem gX5_writtenTwice_X1_atPlace : GoodIn wsX5_writtenTwice (va_wsS RX5 54 yX1_atPlace wsX1_atPlace) := goodIn_app (goodIn_of _ (by decide +kernel)) ggX5_writtenTwice_X1_atPlace
theorem dX5_writtenTwice_0 : decode cX5_writtenTwice 0 = .ok (.aload_n 0, 1) := by decide +kernel
theorem dX5_writtenTwice_1 : decode cX5_writtenTwice 1 = .ok (.iload_n 1, 1) := by decide +kernel
theorem dX5_writtenTwice_2 : decode cX5_writtenTwice 2 = .ok (.invokevirtual 48, 3) := by decide +kernel
theorem dX5_writtenTwice_5 : decode cX5_writtenTwice 5 = .ok (.bipush 60, 2) := by decide +kernel
theorem dX5_writtenTwice_7 : decode cX5_writtenTwice 7 = .ok (.idiv, 1) := by decide +kernel
theorem dX5_writtenTwice_8 : decode cX5_writtenTwice 8 = .ok (.istore_n 3, 1) := by decide +kernel
theorem dX5_writtenTwice_9 : decode cX5_writtenTwice 9 = .ok (.aload_n 0, 1) := by decide +kernel
theorem dX5_writtenTwice_10 : decode cX5_writtenTwice 10 = .ok (.iload_n 1, 1) := by decide +kernel
theorem dX5_writtenTwice_11 : decode cX5_writtenTwice 11 = .ok (.invokevirtual 48, 3) := by decide +kernel
theorem dX5_writtenTwice_14 : decode cX5_writtenTwice 14 = .ok (.bipush 60, 2) := by decide +kernel
theorem dX5_writtenTwice_16 : decode cX5_writtenTwice 16 = .ok (.irem, 1) := by decide +kernel
theorem dX5_writtenTwice_17 : decode cX5_writtenTwice 17 = .ok (.istore 4, 2) := by decide +kernel
theorem dX5_writtenTwice_19 : decode cX5_writtenTwice 19 = .ok (.iload_n 2, 1) := by decide +kernel
theorem dX5_writtenTwice_20 : decode cX5_writtenTwice 20 = .ok (.ifCond .ne 7, 3) := by decide +kernel
theorem dX5_writtenTwice_23 : decode cX5_writtenTwice 23 = .ok (.iload_n 3, 1) := by decide +kernel
theorem dX5_writtenTwice_24 : decode cX5_writtenTwice 24 = .ok (.goto 5, 3) := by decide +kernel
theorem dX5_writtenTwice_27 : decode cX5_writtenTwice 27 = .ok (.iload 4, 2) := by decide +kernel
theorem dX5_writtenTwice_29 : decode cX5_writtenTwice 29 = .ok (.istore 5, 2) := by decide +kernel
theorem dX5_writtenTwice_31 : decode cX5_writtenTwice 31 = .ok (.iload 5, 2) := by decide +kernel
theorem dX5_writtenTwice_33 : decode cX5_writtenTwice 33 = .ok (.ifCond .ne 7, 3) := by decide +kernel
theorem dX5_writtenTwice_36 : decode cX5_writtenTwice 36 = .ok (.ldc2_w 75, 3) := by decide +kernel
theorem dX5_writtenTwice_39 : decode cX5_writtenTwice 39 = .ok (.lreturn, 1) := by decide +kernel
theorem dX5_writtenTwice_40 : decode cX5_writtenTwice 40 = .ok (.iload_n 3, 1) := by decide +kernel
theorem dX5_writtenTwice_41 : decode cX5_writtenTwice 41 = .ok (.bipush 60, 2) := by decide +kernel
theorem dX5_writtenTwice_43 : decode cX5_writtenTwice 43 = .ok (.imul, 1) := by decide +kernel
theorem dX5_writtenTwice_44 : decode cX5_writtenTwice 44 = .ok (.iload 5, 2) := by decide +kernel
theorem dX5_writtenTwice_46 : decode cX5_writtenTwice 46 = .ok (.iadd, 1) := by decide +kernel
theorem dX5_writtenTwice_47 : decode cX5_writtenTwice 47 = .ok (.bipush 60, 2) := by decide +kernel
theorem dX5_writtenTwice_49 : decode cX5_writtenTwice 49 = .ok (.imul, 1) := by decide +kernel
theorem dX5_writtenTwice_50 : decode cX5_writtenTwice 50 = .ok (.iload 4, 2) := by decide +kernel
theorem dX5_writtenTwice_52 : decode cX5_writtenTwice 52 = .ok (.iadd, 1) := by decide +kernel
theorem dX5_writtenTwice_53 : decode cX5_writtenTwice 53 = .ok (.i2l, 1) := by decide +kernel
theorem dX5_writtenTwice_54 : decode cX5_writtenTwice 54 = .ok (.aload_n 0, 1) := by decide +kernel
theorem dX5_writtenTwice_55 : decode cX5_writtenTwice 55 = .ok (.iload_n 1, 1) := by decide +kernel
theorem dX5_writtenTwice_56 : decode cX5_writtenTwice 56 = .ok (.invokevirtual 51, 3) := by decide +kernel
theorem dX5_writtenTwice_59 : decode cX5_writtenTwice 59 = .ok (.invokestatic 54, 3) := by decide +kernel
theorem dX5_writtenTwice_62 : decode cX5_writtenTwice 62 = .ok (.lreturn, 1) := by decide +kernel
theorem dJ6_bitCount_0f7a4_0 : decode cJ6_bitCount_0f7a4 0 = .ok (.iload_n 0, 1) := by decide +kernel
theorem dJ6_bitCount_0f7a4_1 : decode cJ6_bitCount_0f7a4 1 = .ok (.iload_n 0, 1) := by decide +kernel
theorem dJ6_bitCount_0f7a4_2 : decode cJ6_bitCount_0f7a4 2 = .ok (.iconst 1, 1) := by decide +kernel
theorem dJ6_bitCount_0f7a4_3 : decode cJ6_bitCount_0f7a4 3 = .ok (.iushr, 1) := by decide +kernel
theorem dJ6_bitCount_0f7a4_4 : decode cJ6_bitCount_0f7a4 4 = .ok (.ldc_w 265, 3) := by decide +kernel
theorem dJ6_bitCount_0f7a4_7 : decode cJ6_bitCount_0f7a4 7 = .ok (.iand, 1) := by decide +kernel
theorem dJ6_bitCount_0f7a4_8 : decode cJ6_bitCount_0f7a4 8 = .ok (.isub, 1) := by decide +kernel
theorem dJ6_bitCount_0f7a4_9 : decode cJ6_bitCount_0f7a4 9 = .ok (.istore_n 0, 1) := by decide +kernel
theorem dJ6_bitCount_0f7a4_10 : decode cJ6_bitCount_0f7a4 10 = .ok (.iload_n 0, 1) := by decide +kernel
theorem dJ6_bitCount_0f7a4_11 : decode cJ6_bitCount_0f7a4 11 = .ok (.ldc_w 266, 3) := by decide +kernel
theorem dJ6_bitCount_0f7a4_14 : decode cJ6_bitCount_0f7a4 14 = .ok (.iand, 1) := by decide +kernel
theorem dJ6_bitCount_0f7a4_15 : decode cJ6_bitCount_0f7a4 15 = .ok (.iload_n 0, 1) := by decide +kernel
theorem dJ6_bitCount_0f7a4_16 : decode cJ6_bitCount_0f7a4 16 = .ok (.iconst 2, 1) := by decide +kernel
theorem dJ6_bitCount_0f7a4_17 : decode cJ6_bitCount_0f7a4 17 = .ok (.iushr, 1) := by decide +kernel
theorem dJ6_bitCount_0f7a4_18 : decode cJ6_bitCount_0f7a4 18 = .ok (.ldc_w 266, 3) := by decide +kernel
theorem dJ6_bitCount_0f7a4_21 : decode cJ6_bitCount_0f7a4 21 = .ok (.iand, 1) := by decide +kernel
theorem dJ6_bitCount_0f7a4_22 : decode cJ6_bitCount_0f7a4 22 = .ok (.iadd, 1) := by decide +kernel
theorem dJ6_bitCount_0f7a4_23 : decode cJ6_bitCount_0f7a4 23 = .ok (.istore_n 0, 1) := by decide +kernel
theorem dJ6_bitCount_0f7a4_24 : decode cJ6_bitCount_0f7a4 24 = .ok (.iload_n 0, 1) := by decide +kernel
theorem dJ6_bitCount_0f7a4_25 : decode cJ6_bitCount_0f7a4 25 = .ok (.iload_n 0, 1) := by decide +kernel
theorem dJ6_bitCount_0f7a4_26 : decode cJ6_bitCount_0f7a4 26 = .ok (.iconst 4, 1) := by decide +kernel
theorem dJ6_bitCount_0f7a4_27 : decode cJ6_bitCount_0f7a4 27 = .ok (.iushr, 1) := by decide +kernel
theorem dJ6_bitCount_0f7a4_28 : decode cJ6_bitCount_0f7a4 28 = .ok (.iadd, 1) := by decide +kernel
theorem dJ6_bitCount_0f7a4_29 : decode cJ6_bitCount_0f7a4 29 = .ok (.ldc_w 267, 3) := by decide +kernel
theorem dJ6_bitCount_0f7a4_32 : decode cJ6_bitCount_0f7a4 32 = .ok (.iand, 1) := by decide +kernel
theorem dJ6_bitCount_0f7a4_33 : decode cJ6_bitCount_0f7a4 33 = .ok (.istore_n 0, 1) := by decide +kernel
theorem dJ6_bitCount_0f7a4_34 : decode cJ6_bitCount_0f7a4 34 = .ok (.iload_n 0, 1) := by decide +kernel
theorem dJ6_bitCount_0f7a4_35 : decode cJ6_bitCount_0f7a4 35 = .ok (.iload_n 0, 1) := by decide +kernel
theorem dJ6_bitCount_0f7a4_36 : decode cJ6_bitCount_0f7a4 36 = .ok (.bipush 8, 2) := by decide +kernel
theorem dJ6_bitCount_0f7a4_38 : decode cJ6_bitCount_0f7a4 38 = .ok (.iushr, 1) := by decide +kernel
theorem dJ6_bitCount_0f7a4_39 : decode cJ6_bitCount_0f7a4 39 = .ok (.iadd, 1) := by decide +kernel
theorem dJ6_bitCount_0f7a4_40 : decode cJ6_bitCount_0f7a4 40 = .ok (.istore_n 0, 1) := by decide +kernel
theorem dJ6_bitCount_0f7a4_41 : decode cJ6_bitCount_0f7a4 41 = .ok (.iload_n 0, 1) := by decide +kernel
theorem dJ6_bitCount_0f7a4_42 : decode cJ6_bitCount_0f7a4 42 = .ok (.iload_n 0, 1) := by decide +kernel
theorem dJ6_bitCount_0f7a4_43 : decode cJ6_bitCount_0f7a4 43 = .ok (.bipush 16, 2) := by decide +kernel
theorem dJ6_bitCount_0f7a4_45 : decode cJ6_bitCount_0f7a4 45 = .ok (.iushr, 1) := by decide +kernel
theorem dJ6_bitCount_0f7a4_46 : decode cJ6_bitCount_0f7a4 46 = .ok (.iadd, 1) := by decide +kernel
theorem dJ6_bitCount_0f7a4_47 : decode cJ6_bitCount_0f7a4 47 = .ok (.istore_n 0, 1) := by decide +kernel
theorem dJ6_bitCount_0f7a4_48 : decode cJ6_bitCount_0f7a4 48 = .ok (.iload_n 0, 1) := by decide +kernel
theorem dJ6_bitCount_0f7a4_49 : decode cJ6_bitCount_0f7a4 49 = .ok (.bipush 63, 2) := by decide +kernel
theorem dJ6_bitCount_0f7a4_51 : decode cJ6_bitCount_0f7a4 51 = .ok (.iand, 1) := by decide +kernel
theorem dJ6_bitCount_0f7a4_52 : decode cJ6_bitCount_0f7a4 52 = .ok (.ireturn, 1) := by decide +kernel
theorem dJ9_max_7cf53_0 : decode cJ9_max_7cf53 0 = .ok (.iload_n 0, 1) := by decide +kernel
theorem dJ9_max_7cf53_1 : decode cJ9_max_7cf53 1 = .ok (.iload_n 1, 1) := by decide +kernel
theorem dJ9_max_7cf53_2 : decode cJ9_max_7cf53 2 = .ok (.if_icmp .lt 7, 3) := by decide +kernel
theorem dJ9_max_7cf53_5 : decode cJ9_max_7cf53 5 = .ok (.iload_n 0, 1) := by decide +kernel
theorem dJ9_max_7cf53_6 : decode cJ9_max_7cf53 6 = .ok (.goto 4, 3) := by decide +kernel
theorem dJ9_max_7cf53_9 : decode cJ9_max_7cf53 9 = .ok (.iload_n 1, 1) := by decide +kernel
theorem dJ9_max_7cf53_10 : decode cJ9_max_7cf53 10 = .ok (.ireturn, 1) := by decide +kernel
theorem dJ9_min_7cf53_0 : decode cJ9_min_7cf53 0 = .ok (.iload_n 0, 1) := by decide +kernel
theorem dJ9_min_7cf53_1 : decode cJ9_min_7cf53 1 = .ok (.iload_n 1, 1) := by decide +kernel
theorem dJ9_min_7cf53_2 : decode cJ9_min_7cf53 2 = .ok (.if_icmp .gt 7, 3) := by decide +kernel
theorem dJ9_min_7cf53_5 : decode cJ9_min_7cf53 5 = .ok (.iload_n 0, 1) := by decide +kernel
theorem dJ9_min_7cf53_6 : decode cJ9_min_7cf53 6 = .ok (.goto 4, 3) := by decide +kernel
theorem dJ9_min_7cf53_9 : decode cJ9_min_7cf53 9 = .ok (.iload_n 1, 1) := by decide +kernel
theorem dJ9_min_7cf53_10 : decode cJ9_min_7cf53 10 = .ok (.ireturn, 1) := by decide +kernel
theorem dJ9_min_f86c9_0 : decode cJ9_min_f86c9 0 = .ok (.lload_n 0, 1) := by decide +kernel
theorem dJ9_min_f86c9_1 : decode cJ9_min_f86c9 1 = .ok (.lload_n 2, 1) := by decide +kernel
theorem dJ9_min_f86c9_2 : decode cJ9_min_f86c9 2 = .ok (.lcmp, 1) := by decide +kernel
theorem dJ9_min_f86c9_3 : decode cJ9_min_f86c9 3 = .ok (.ifCond .gt 7, 3) := by decide +kernel
theorem dJ9_min_f86c9_6 : decode cJ9_min_f86c9 6 = .ok (.lload_n 0, 1) := by decide +kernel
theorem dJ9_min_f86c9_7 : decode cJ9_min_f86c9 7 = .ok (.goto 4, 3) := by decide +kernel
theorem dJ9_min_f86c9_10 : decode cJ9_min_f86c9 10 = .ok (.lload_n 2, 1) := by decide +kernel
theorem dJ9_min_f86c9_11 : decode cJ9_min_f86c9 11 = .ok (.lreturn, 1) := by decide +kernel
