set_option maxRecDepth 20000 in
theorem ggX6_init_X5_init : GoodIn wsX6_init wsX5_init := goodIn_r _ [21, 22, 2, 3, 12, 23, 24, 25, 26, 47, 48, 49, 50] (by decide +kernel) (by decide +kernel)
set_option maxRecDepth 20000 in
theorem gX6_init_X5_init : GoodIn wsX6_init (wsX5_init) := ggX6_init_X5_init
set_option maxRecDepth 20000 in
theorem ggX6_init_X0_init : GoodIn wsX6_init wsX0_init := goodIn_r _ [29, 30, 2, 3, 12, 31, 32, 33, 34, 35, 36, 37, 38, 39, 56, 57, 58, 59, 60, 61, 62, 63, 64] (by decide +kernel) (by decide +kernel)
set_option maxRecDepth 20000 in
theorem gX6_init_X0_init : GoodIn wsX6_init (wsX0_init) := ggX6_init_X0_init
set_option maxRecDepth 20000 in
theorem ggX6_init_X3_init : GoodIn wsX6_init wsX3_init := goodIn_r _ [42, 43, 2, 3, 12, 44, 45, 46, 65, 66, 67] (by decide +kernel) (by decide +kernel)
set_option maxRecDepth 20000 in
theorem gX6_init_X3_init : GoodIn wsX6_init (wsX3_init) := ggX6_init_X3_init
theorem dX6_init_0 : decode cX6_init 0 = .ok (.aload_n 0, 1) := by decide +kernel
theorem dX6_init_1 : decode cX6_init 1 = .ok (.invokespecial 1, 3) := by decide +kernel
theorem dX6_init_4 : decode cX6_init 4 = .ok (.aload_n 0, 1) := by decide +kernel
theorem dX6_init_5 : decode cX6_init 5 = .ok (.new 7, 3) := by decide +kernel
theorem dX6_init_8 : decode cX6_init 8 = .ok (.dup, 1) := by decide +kernel
theorem dX6_init_9 : decode cX6_init 9 = .ok (.invokespecial 9, 3) := by decide +kernel
theorem dX6_init_12 : decode cX6_init 12 = .ok (.putfield 10, 3) := by decide +kernel
theorem dX6_init_15 : decode cX6_init 15 = .ok (.aload_n 0, 1) := by decide +kernel
theorem dX6_init_16 : decode cX6_init 16 = .ok (.new 16, 3) := by decide +kernel
theorem dX6_init_19 : decode cX6_init 19 = .ok (.dup, 1) := by decide +kernel
theorem dX6_init_20 : decode cX6_init 20 = .ok (.invokespecial 18, 3) := by decide +kernel
theorem dX6_init_23 : decode cX6_init 23 = .ok (.putfield 19, 3) := by decide +kernel
theorem dX6_init_26 : decode cX6_init 26 = .ok (.aload_n 0, 1) := by decide +kernel
theorem dX6_init_27 : decode cX6_init 27 = .ok (.iconst 5, 1) := by decide +kernel
theorem dX6_init_28 : decode cX6_init 28 = .ok (.newarray .int, 2) := by decide +kernel
theorem dX6_init_30 : decode cX6_init 30 = .ok (.putfield 23, 3) := by decide +kernel
theorem dX6_init_33 : decode cX6_init 33 = .ok (.aload_n 0, 1) := by decide +kernel
theorem dX6_init_34 : decode cX6_init 34 = .ok (.iconst 0, 1) := by decide +kernel
theorem dX6_init_35 : decode cX6_init 35 = .ok (.putfield 27, 3) := by decide +kernel
theorem dX6_init_38 : decode cX6_init 38 = .ok (.aload_n 0, 1) := by decide +kernel
theorem dX6_init_39 : decode cX6_init 39 = .ok (.iconst 4, 1) := by decide +kernel
theorem dX6_init_40 : decode cX6_init 40 = .ok (.anewarray 31, 3) := by decide +kernel
theorem dX6_init_43 : decode cX6_init 43 = .ok (.putfield 33, 3) := by decide +kernel
theorem dX6_init_46 : decode cX6_init 46 = .ok (.iconst 0, 1) := by decide +kernel
theorem dX6_init_47 : decode cX6_init 47 = .ok (.istore_n 1, 1) := by decide +kernel
theorem dX6_init_48 : decode cX6_init 48 = .ok (.iload_n 1, 1) := by decide +kernel
theorem dX6_init_49 : decode cX6_init 49 = .ok (.aload_n 0, 1) := by decide +kernel
theorem dX6_init_50 : decode cX6_init 50 = .ok (.getfield 33, 3) := by decide +kernel
theorem dX6_init_53 : decode cX6_init 53 = .ok (.arraylength, 1) := by decide +kernel
theorem dX6_init_54 : decode cX6_init 54 = .ok (.if_icmp .ge 22, 3) := by decide +kernel
theorem dX6_init_57 : decode cX6_init 57 = .ok (.aload_n 0, 1) := by decide +kernel
theorem dX6_init_58 : decode cX6_init 58 = .ok (.getfield 33, 3) := by decide +kernel
theorem dX6_init_61 : decode cX6_init 61 = .ok (.iload_n 1, 1) := by decide +kernel
theorem dX6_init_62 : decode cX6_init 62 = .ok (.new 31, 3) := by decide +kernel
theorem dX6_init_65 : decode cX6_init 65 = .ok (.dup, 1) := by decide +kernel
theorem dX6_init_66 : decode cX6_init 66 = .ok (.invokespecial 37, 3) := by decide +kernel
theorem dX6_init_69 : decode cX6_init 69 = .ok (.aastore, 1) := by decide +kernel
theorem dX6_init_70 : decode cX6_init 70 = .ok (.iinc 1 1, 3) := by decide +kernel
theorem dX6_init_73 : decode cX6_init 73 = .ok (.goto (-25), 3) := by decide +kernel
theorem dX6_init_76 : decode cX6_init 76 = .ok (.return_, 1) := by decide +kernel
set_option maxRecDepth 20000 in
theorem ggX6_sixty_X1_isNumber : GoodIn wsX6_sixty wsX1_isNumber := goodIn_r _ [5, 6] (by decide +kernel) (by decide +kernel)
set_option maxRecDepth 20000 in
theorem gX6_sixty_X1_isNumber : GoodIn wsX6_sixty (va_wsS RX6 38 yX1_isNumber wsX1_isNumber) := goodIn_app (goodIn_of _ (by decide +kernel)) ggX6_sixty_X1_isNumber
set_option maxRecDepth 20000 in
theorem ggX6_sixty_X1_strip : GoodIn wsX6_sixty wsX1_strip := goodIn_r _ [9, 10] (by decide +kernel) (by decide +kernel)
set_option maxRecDepth 20000 in
theorem gX6_sixty_X1_strip : GoodIn wsX6_sixty (va_wsS RX6 44 yX1_strip wsX1_strip) := goodIn_app (goodIn_of _ (by decide +kernel)) ggX6_sixty_X1_strip
theorem dX6_sixty_0 : decode cX6_sixty 0 = .ok (.lload_n 1, 1) := by decide +kernel
theorem dX6_sixty_1 : decode cX6_sixty 1 = .ok (.invokestatic 38, 3) := by decide +kernel
theorem dX6_sixty_4 : decode cX6_sixty 4 = .ok (.ifCond .eq 10, 3) := by decide +kernel
theorem dX6_sixty_7 : decode cX6_sixty 7 = .ok (.lload_n 1, 1) := by decide +kernel
theorem dX6_sixty_8 : decode cX6_sixty 8 = .ok (.invokestatic 44, 3) := by decide +kernel
theorem dX6_sixty_11 : decode cX6_sixty 11 = .ok (.goto 6, 3) := by decide +kernel
theorem dX6_sixty_14 : decode cX6_sixty 14 = .ok (.ldc2_w 48, 3) := by decide +kernel
theorem dX6_sixty_17 : decode cX6_sixty 17 = .ok (.lreturn, 1) := by decide +kernel
set_option maxRecDepth 20000 in
theorem ggX6_digit_X1_isNumber : GoodIn wsX6_digit wsX1_isNumber := goodIn_r _ [4, 5] (by decide +kernel) (by decide +kernel)
set_option maxRecDepth 20000 in
theorem gX6_digit_X1_isNumber : GoodIn wsX6_digit (va_wsS RX6 38 yX1_isNumber wsX1_isNumber) := goodIn_app (goodIn_of _ (by decide +kernel)) ggX6_digit_X1_isNumber
set_option maxRecDepth 20000 in
theorem ggX6_digit_X1_strip : GoodIn wsX6_digit wsX1_strip := goodIn_r _ [8, 9] (by decide +kernel) (by decide +kernel)
set_option maxRecDepth 20000 in
theorem gX6_digit_X1_strip : GoodIn wsX6_digit (va_wsS RX6 44 yX1_strip wsX1_strip) := goodIn_app (goodIn_of _ (by decide +kernel)) ggX6_digit_X1_strip
set_option maxRecDepth 20000 in
theorem ggX6_digit_X1_length : GoodIn wsX6_digit wsX1_length := goodIn_r _ [12, 9] (by decide +kernel) (by decide +kernel)
set_option maxRecDepth 20000 in
theorem gX6_digit_X1_length : GoodIn wsX6_digit (va_wsS RX6 50 yX1_length wsX1_length) := goodIn_app (goodIn_of _ (by decide +kernel)) ggX6_digit_X1_length
set_option maxRecDepth 20000 in
theorem ggX6_digit_X1_digitAhead : GoodIn wsX6_digit wsX1_digitAhead := goodIn_r _ [15, 9] (by decide +kernel) (by decide +kernel)
set_option maxRecDepth 20000 in
theorem gX6_digit_X1_digitAhead : GoodIn wsX6_digit (va_wsS RX6 54 yX1_digitAhead wsX1_digitAhead) := goodIn_app (goodIn_of _ (by decide +kernel)) ggX6_digit_X1_digitAhead
theorem dX6_digit_0 : decode cX6_digit 0 = .ok (.lload_n 1, 1) := by decide +kernel
theorem dX6_digit_1 : decode cX6_digit 1 = .ok (.invokestatic 38, 3) := by decide +kernel
theorem dX6_digit_4 : decode cX6_digit 4 = .ok (.ifCond .ne 6, 3) := by decide +kernel
theorem dX6_digit_7 : decode cX6_digit 7 = .ok (.bipush (-2), 2) := by decide +kernel
theorem dX6_digit_9 : decode cX6_digit 9 = .ok (.ireturn, 1) := by decide +kernel
theorem dX6_digit_10 : decode cX6_digit 10 = .ok (.lload_n 1, 1) := by decide +kernel
theorem dX6_digit_11 : decode cX6_digit 11 = .ok (.invokestatic 44, 3) := by decide +kernel
theorem dX6_digit_14 : decode cX6_digit 14 = .ok (.lstore 4, 2) := by decide +kernel
theorem dX6_digit_16 : decode cX6_digit 16 = .ok (.lload 4, 2) := by decide +kernel
theorem dX6_digit_18 : decode cX6_digit 18 = .ok (.invokestatic 50, 3) := by decide +kernel
theorem dX6_digit_21 : decode cX6_digit 21 = .ok (.istore 6, 2) := by decide +kernel
theorem dX6_digit_23 : decode cX6_digit 23 = .ok (.iload_n 3, 1) := by decide +kernel
theorem dX6_digit_24 : decode cX6_digit 24 = .ok (.iconst (-1), 1) := by decide +kernel
theorem dX6_digit_25 : decode cX6_digit 25 = .ok (.if_icmp .ne 6, 3) := by decide +kernel
theorem dX6_digit_28 : decode cX6_digit 28 = .ok (.iload 6, 2) := by decide +kernel
theorem dX6_digit_30 : decode cX6_digit 30 = .ok (.ireturn, 1) := by decide +kernel
theorem dX6_digit_31 : decode cX6_digit 31 = .ok (.iload_n 3, 1) := by decide +kernel
theorem dX6_digit_32 : decode cX6_digit 32 = .ok (.ifCond .lt 23, 3) := by decide +kernel
theorem dX6_digit_35 : decode cX6_digit 35 = .ok (.iload_n 3, 1) := by decide +kernel
theorem dX6_digit_36 : decode cX6_digit 36 = .ok (.iload 6, 2) := by decide +kernel
theorem dX6_digit_38 : decode cX6_digit 38 = .ok (.if_icmp .ge 17, 3) := by decide +kernel
theorem dX6_digit_41 : decode cX6_digit 41 = .ok (.lload 4, 2) := by decide +kernel
theorem dX6_digit_43 : decode cX6_digit 43 = .ok (.iload 6, 2) := by decide +kernel
theorem dX6_digit_45 : decode cX6_digit 45 = .ok (.iconst 1, 1) := by decide +kernel
theorem dX6_digit_46 : decode cX6_digit 46 = .ok (.isub, 1) := by decide +kernel
theorem dX6_digit_47 : decode cX6_digit 47 = .ok (.iload_n 3, 1) := by decide +kernel
theorem dX6_digit_48 : decode cX6_digit 48 = .ok (.isub, 1) := by decide +kernel
theorem dX6_digit_49 : decode cX6_digit 49 = .ok (.invokestatic 54, 3) := by decide +kernel
theorem dX6_digit_52 : decode cX6_digit 52 = .ok (.goto 5, 3) := by decide +kernel
theorem dX6_digit_55 : decode cX6_digit 55 = .ok (.bipush (-6), 2) := by decide +kernel
theorem dX6_digit_57 : decode cX6_digit 57 = .ok (.ireturn, 1) := by decide +kernel
set_option maxRecDepth 20000 in
theorem ggX6_sight_X1_isNumber : GoodIn wsX6_sight wsX1_isNumber := goodIn_r _ [4, 5] (by decide +kernel) (by decide +kernel)
set_option maxRecDepth 20000 in
theorem gX6_sight_X1_isNumber : GoodIn wsX6_sight (va_wsS RX6 38 yX1_isNumber wsX1_isNumber) := goodIn_app (goodIn_of _ (by decide +kernel)) ggX6_sight_X1_isNumber
set_option maxRecDepth 20000 in
theorem ggX6_sight_X1_length : GoodIn wsX6_sight wsX1_length := goodIn_r _ [8, 9] (by decide +kernel) (by decide +kernel)
set_option maxRecDepth 20000 in
theorem gX6_sight_X1_length : GoodIn wsX6_sight (va_wsS RX6 50 yX1_length wsX1_length) := goodIn_app (goodIn_of _ (by decide +kernel)) ggX6_sight_X1_length
set_option maxRecDepth 20000 in
theorem ggX6_sight_X1_digitAhead : GoodIn wsX6_sight wsX1_digitAhead := goodIn_r _ [12, 9] (by decide +kernel) (by decide +kernel)
set_option maxRecDepth 20000 in
theorem gX6_sight_X1_digitAhead : GoodIn wsX6_sight (va_wsS RX6 54 yX1_digitAhead wsX1_digitAhead) := goodIn_app (goodIn_of _ (by decide +kernel)) ggX6_sight_X1_digitAhead
theorem dX6_sight_0 : decode cX6_sight 0 = .ok (.lload_n 1, 1) := by decide +kernel
theorem dX6_sight_1 : decode cX6_sight 1 = .ok (.invokestatic 38, 3) := by decide +kernel
theorem dX6_sight_4 : decode cX6_sight 4 = .ok (.ifCond .ne 6, 3) := by decide +kernel
theorem dX6_sight_7 : decode cX6_sight 7 = .ok (.bipush (-2), 2) := by decide +kernel
theorem dX6_sight_9 : decode cX6_sight 9 = .ok (.ireturn, 1) := by decide +kernel
theorem dX6_sight_10 : decode cX6_sight 10 = .ok (.iconst 0, 1) := by decide +kernel
theorem dX6_sight_11 : decode cX6_sight 11 = .ok (.istore 4, 2) := by decide +kernel
theorem dX6_sight_13 : decode cX6_sight 13 = .ok (.lload_n 1, 1) := by decide +kernel
theorem dX6_sight_14 : decode cX6_sight 14 = .ok (.invokestatic 50, 3) := by decide +kernel
theorem dX6_sight_17 : decode cX6_sight 17 = .ok (.iconst 1, 1) := by decide +kernel
theorem dX6_sight_18 : decode cX6_sight 18 = .ok (.isub, 1) := by decide +kernel
theorem dX6_sight_19 : decode cX6_sight 19 = .ok (.istore 5, 2) := by decide +kernel
theorem dX6_sight_21 : decode cX6_sight 21 = .ok (.iload 5, 2) := by decide +kernel
theorem dX6_sight_23 : decode cX6_sight 23 = .ok (.ifCond .lt 34, 3) := by decide +kernel
theorem dX6_sight_26 : decode cX6_sight 26 = .ok (.lload_n 1, 1) := by decide +kernel
theorem dX6_sight_27 : decode cX6_sight 27 = .ok (.iload 5, 2) := by decide +kernel
theorem dX6_sight_29 : decode cX6_sight 29 = .ok (.invokestatic 54, 3) := by decide +kernel
theorem dX6_sight_32 : decode cX6_sight 32 = .ok (.istore 6, 2) := by decide +kernel
theorem dX6_sight_34 : decode cX6_sight 34 = .ok (.iload 6, 2) := by decide +kernel
theorem dX6_sight_36 : decode cX6_sight 36 = .ok (.ifCond .eq 15, 3) := by decide +kernel
theorem dX6_sight_39 : decode cX6_sight 39 = .ok (.iload 4, 2) := by decide +kernel
theorem dX6_sight_41 : decode cX6_sight 41 = .ok (.iload_n 3, 1) := by decide +kernel
theorem dX6_sight_42 : decode cX6_sight 42 = .ok (.if_icmp .ne 6, 3) := by decide +kernel
theorem dX6_sight_45 : decode cX6_sight 45 = .ok (.iload 6, 2) := by decide +kernel
theorem dX6_sight_47 : decode cX6_sight 47 = .ok (.ireturn, 1) := by decide +kernel
theorem dX6_sight_48 : decode cX6_sight 48 = .ok (.iinc 4 1, 3) := by decide +kernel
theorem dX6_sight_51 : decode cX6_sight 51 = .ok (.iinc 5 (-1), 3) := by decide +kernel
theorem dX6_sight_54 : decode cX6_sight 54 = .ok (.goto (-33), 3) := by decide +kernel
theorem dX6_sight_57 : decode cX6_sight 57 = .ok (.iload_n 3, 1) := by decide +kernel
theorem dX6_sight_58 : decode cX6_sight 58 = .ok (.iconst (-1), 1) := by decide +kernel
theorem dX6_sight_59 : decode cX6_sight 59 = .ok (.if_icmp .ne 8, 3) := by decide +kernel
theorem dX6_sight_62 : decode cX6_sight 62 = .ok (.iload 4, 2) := by decide +kernel
theorem dX6_sight_64 : decode cX6_sight 64 = .ok (.goto 5, 3) := by decide +kernel
theorem dX6_sight_67 : decode cX6_sight 67 = .ok (.bipush (-6), 2) := by decide +kernel
theorem dX6_sight_69 : decode cX6_sight 69 = .ok (.ireturn, 1) := by decide +kernel
set_option maxRecDepth 20000 in
theorem ggX6_like_X1_isNumber : GoodIn wsX6_like wsX1_isNumber := goodIn_r _ [6, 7] (by decide +kernel) (by decide +kernel)
set_option maxRecDepth 20000 in
theorem gX6_like_X1_isNumber : GoodIn wsX6_like (va_wsS RX6 38 yX1_isNumber wsX1_isNumber) := goodIn_app (goodIn_of _ (by decide +kernel)) ggX6_like_X1_isNumber
set_option maxRecDepth 20000 in
theorem ggX6_like_X1_sightLength : GoodIn wsX6_like wsX1_sightLength := goodIn_r _ [10, 11] (by decide +kernel) (by decide +kernel)
set_option maxRecDepth 20000 in
theorem gX6_like_X1_sightLength : GoodIn wsX6_like (va_wsS RX6 58 yX1_sightLength wsX1_sightLength) := goodIn_app (goodIn_of _ (by decide +kernel)) ggX6_like_X1_sightLength
set_option maxRecDepth 20000 in
theorem ggX6_like_J6_bitCount_0f7a4 : GoodIn wsX6_like wsJ6_bitCount_0f7a4 := goodIn_r _ [15, 16, 17, 18] (by decide +kernel) (by decide +kernel)
set_option maxRecDepth 20000 in
theorem gX6_like_J6_bitCount_0f7a4 : GoodIn wsX6_like (va_wsS RX6 61 yJ6_bitCount_0f7a4 wsJ6_bitCount_0f7a4) := goodIn_app (goodIn_of _ (by decide +kernel)) ggX6_like_J6_bitCount_0f7a4
set_option maxRecDepth 20000 in
theorem ggX6_like_X1_spread : GoodIn wsX6_like wsX1_spread := goodIn_r _ [21, 11, 22, 23, 5, 24] (by decide +kernel) (by decide +kernel)
set_option maxRecDepth 20000 in
theorem gX6_like_X1_spread : GoodIn wsX6_like (va_wsS RX6 67 yX1_spread wsX1_spread) := goodIn_app (goodIn_of _ (by decide +kernel)) ggX6_like_X1_spread
theorem dX6_like_0 : decode cX6_like 0 = .ok (.lload_n 1, 1) := by decide +kernel
theorem dX6_like_1 : decode cX6_like 1 = .ok (.invokestatic 38, 3) := by decide +kernel
theorem dX6_like_4 : decode cX6_like 4 = .ok (.ifCond .eq 14, 3) := by decide +kernel
theorem dX6_like_7 : decode cX6_like 7 = .ok (.iload_n 3, 1) := by decide +kernel
theorem dX6_like_8 : decode cX6_like 8 = .ok (.iconst 1, 1) := by decide +kernel
theorem dX6_like_9 : decode cX6_like 9 = .ok (.if_icmp .lt 9, 3) := by decide +kernel
theorem dX6_like_12 : decode cX6_like 12 = .ok (.iload_n 3, 1) := by decide +kernel
theorem dX6_like_13 : decode cX6_like 13 = .ok (.bipush 8, 2) := by decide +kernel
theorem dX6_like_15 : decode cX6_like 15 = .ok (.if_icmp .le 7, 3) := by decide +kernel
theorem dX6_like_18 : decode cX6_like 18 = .ok (.ldc2_w 48, 3) := by decide +kernel
theorem dX6_like_21 : decode cX6_like 21 = .ok (.lreturn, 1) := by decide +kernel
theorem dX6_like_22 : decode cX6_like 22 = .ok (.lload_n 1, 1) := by decide +kernel
theorem dX6_like_23 : decode cX6_like 23 = .ok (.invokestatic 58, 3) := by decide +kernel
theorem dX6_like_26 : decode cX6_like 26 = .ok (.istore 5, 2) := by decide +kernel
theorem dX6_like_28 : decode cX6_like 28 = .ok (.iconst 0, 1) := by decide +kernel
theorem dX6_like_29 : decode cX6_like 29 = .ok (.istore 6, 2) := by decide +kernel
theorem dX6_like_31 : decode cX6_like 31 = .ok (.iconst 1, 1) := by decide +kernel
theorem dX6_like_32 : decode cX6_like 32 = .ok (.istore 7, 2) := by decide +kernel
theorem dX6_like_34 : decode cX6_like 34 = .ok (.iload 7, 2) := by decide +kernel
theorem dX6_like_36 : decode cX6_like 36 = .ok (.iconst 1, 1) := by decide +kernel
theorem dX6_like_37 : decode cX6_like 37 = .ok (.iload_n 3, 1) := by decide +kernel
theorem dX6_like_38 : decode cX6_like 38 = .ok (.ishl, 1) := by decide +kernel
theorem dX6_like_39 : decode cX6_like 39 = .ok (.if_icmp .ge 36, 3) := by decide +kernel
theorem dX6_like_42 : decode cX6_like 42 = .ok (.iload 7, 2) := by decide +kernel
theorem dX6_like_44 : decode cX6_like 44 = .ok (.invokestatic 61, 3) := by decide +kernel
theorem dX6_like_47 : decode cX6_like 47 = .ok (.iload 5, 2) := by decide +kernel
theorem dX6_like_49 : decode cX6_like 49 = .ok (.if_icmp .ne 20, 3) := by decide +kernel
theorem dX6_like_52 : decode cX6_like 52 = .ok (.iload 6, 2) := by decide +kernel
theorem dX6_like_54 : decode cX6_like 54 = .ok (.iload 4, 2) := by decide +kernel
theorem dX6_like_56 : decode cX6_like 56 = .ok (.if_icmp .ne 10, 3) := by decide +kernel
theorem dX6_like_59 : decode cX6_like 59 = .ok (.lload_n 1, 1) := by decide +kernel
theorem dX6_like_60 : decode cX6_like 60 = .ok (.iload 7, 2) := by decide +kernel
theorem dX6_like_62 : decode cX6_like 62 = .ok (.invokestatic 67, 3) := by decide +kernel
theorem dX6_like_65 : decode cX6_like 65 = .ok (.lreturn, 1) := by decide +kernel
theorem dX6_like_66 : decode cX6_like 66 = .ok (.iinc 6 1, 3) := by decide +kernel
theorem dX6_like_69 : decode cX6_like 69 = .ok (.iinc 7 2, 3) := by decide +kernel
theorem dX6_like_72 : decode cX6_like 72 = .ok (.goto (-38), 3) := by decide +kernel
theorem dX6_like_75 : decode cX6_like 75 = .ok (.iload 4, 2) := by decide +kernel
theorem dX6_like_77 : decode cX6_like 77 = .ok (.iconst (-1), 1) := by decide +kernel
theorem dX6_like_78 : decode cX6_like 78 = .ok (.if_icmp .ne 9, 3) := by decide +kernel
theorem dX6_like_81 : decode cX6_like 81 = .ok (.iload 6, 2) := by decide +kernel
theorem dX6_like_83 : decode cX6_like 83 = .ok (.i2l, 1) := by decide +kernel
theorem dX6_like_84 : decode cX6_like 84 = .ok (.goto 6, 3) := by decide +kernel
theorem dX6_like_87 : decode cX6_like 87 = .ok (.ldc2_w 71, 3) := by decide +kernel
theorem dX6_like_90 : decode cX6_like 90 = .ok (.lreturn, 1) := by decide +kernel
set_option maxRecDepth 20000 in
theorem ggX6_put_X1_isNumber : GoodIn wsX6_put wsX1_isNumber := goodIn_r _ [7, 8] (by decide +kernel) (by decide +kernel)
set_option maxRecDepth 20000 in
theorem gX6_put_X1_isNumber : GoodIn wsX6_put (va_wsS RX6 38 yX1_isNumber wsX1_isNumber) := goodIn_app (goodIn_of _ (by decide +kernel)) ggX6_put_X1_isNumber
set_option maxRecDepth 20000 in
theorem ggX6_put_X1_raise : GoodIn wsX6_put wsX1_raise := goodIn_r _ [11, 12, 8, 13] (by decide +kernel) (by decide +kernel)
set_option maxRecDepth 20000 in
theorem gX6_put_X1_raise : GoodIn wsX6_put (va_wsS RX6 73 yX1_raise wsX1_raise) := goodIn_app (goodIn_of _ (by decide +kernel)) ggX6_put_X1_raise
set_option maxRecDepth 20000 in
theorem ggX6_put_X1_strip : GoodIn wsX6_put wsX1_strip := goodIn_r _ [16, 13] (by decide +kernel) (by decide +kernel)
set_option maxRecDepth 20000 in
theorem gX6_put_X1_strip : GoodIn wsX6_put (va_wsS RX6 44 yX1_strip wsX1_strip) := goodIn_app (goodIn_of _ (by decide +kernel)) ggX6_put_X1_strip
theorem dX6_put_0 : decode cX6_put 0 = .ok (.lload_n 1, 1) := by decide +kernel
theorem dX6_put_1 : decode cX6_put 1 = .ok (.invokestatic 38, 3) := by decide +kernel
theorem dX6_put_4 : decode cX6_put 4 = .ok (.ifCond .eq 24, 3) := by decide +kernel
theorem dX6_put_7 : decode cX6_put 7 = .ok (.lload_n 3, 1) := by decide +kernel
theorem dX6_put_8 : decode cX6_put 8 = .ok (.invokestatic 38, 3) := by decide +kernel
theorem dX6_put_11 : decode cX6_put 11 = .ok (.ifCond .eq 17, 3) := by decide +kernel
theorem dX6_put_14 : decode cX6_put 14 = .ok (.iload 5, 2) := by decide +kernel
theorem dX6_put_16 : decode cX6_put 16 = .ok (.bipush (-7), 2) := by decide +kernel
theorem dX6_put_18 : decode cX6_put 18 = .ok (.if_icmp .lt 10, 3) := by decide +kernel
theorem dX6_put_21 : decode cX6_put 21 = .ok (.iload 5, 2) := by decide +kernel
theorem dX6_put_23 : decode cX6_put 23 = .ok (.bipush 7, 2) := by decide +kernel
theorem dX6_put_25 : decode cX6_put 25 = .ok (.if_icmp .le 7, 3) := by decide +kernel
theorem dX6_put_28 : decode cX6_put 28 = .ok (.ldc2_w 48, 3) := by decide +kernel
theorem dX6_put_31 : decode cX6_put 31 = .ok (.lreturn, 1) := by decide +kernel
theorem dX6_put_32 : decode cX6_put 32 = .ok (.iload 5, 2) := by decide +kernel
theorem dX6_put_34 : decode cX6_put 34 = .ok (.ifCond .ge 15, 3) := by decide +kernel
theorem dX6_put_37 : decode cX6_put 37 = .ok (.lload_n 1, 1) := by decide +kernel
theorem dX6_put_38 : decode cX6_put 38 = .ok (.iload 5, 2) := by decide +kernel
theorem dX6_put_40 : decode cX6_put 40 = .ok (.ineg, 1) := by decide +kernel
theorem dX6_put_41 : decode cX6_put 41 = .ok (.invokestatic 73, 3) := by decide +kernel
theorem dX6_put_44 : decode cX6_put 44 = .ok (.lload_n 3, 1) := by decide +kernel
theorem dX6_put_45 : decode cX6_put 45 = .ok (.ladd, 1) := by decide +kernel
theorem dX6_put_46 : decode cX6_put 46 = .ok (.goto 11, 3) := by decide +kernel
theorem dX6_put_49 : decode cX6_put 49 = .ok (.lload_n 1, 1) := by decide +kernel
theorem dX6_put_50 : decode cX6_put 50 = .ok (.lload_n 3, 1) := by decide +kernel
theorem dX6_put_51 : decode cX6_put 51 = .ok (.iload 5, 2) := by decide +kernel
theorem dX6_put_53 : decode cX6_put 53 = .ok (.invokestatic 73, 3) := by decide +kernel
theorem dX6_put_56 : decode cX6_put 56 = .ok (.ladd, 1) := by decide +kernel
theorem dX6_put_57 : decode cX6_put 57 = .ok (.lstore 6, 2) := by decide +kernel
theorem dX6_put_59 : decode cX6_put 59 = .ok (.lload 6, 2) := by decide +kernel
theorem dX6_put_61 : decode cX6_put 61 = .ok (.ldc2_w 76, 3) := by decide +kernel
theorem dX6_put_64 : decode cX6_put 64 = .ok (.lcmp, 1) := by decide +kernel
theorem dX6_put_65 : decode cX6_put 65 = .ok (.ifCond .ge 11, 3) := by decide +kernel
theorem dX6_put_68 : decode cX6_put 68 = .ok (.lload 6, 2) := by decide +kernel
theorem dX6_put_70 : decode cX6_put 70 = .ok (.invokestatic 44, 3) := by decide +kernel
theorem dX6_put_73 : decode cX6_put 73 = .ok (.goto 6, 3) := by decide +kernel
theorem dX6_put_76 : decode cX6_put 76 = .ok (.ldc2_w 78, 3) := by decide +kernel
theorem dX6_put_79 : decode cX6_put 79 = .ok (.lreturn, 1) := by decide +kernel
set_option maxRecDepth 20000 in
theorem ggX6_even_X1_isNumber : GoodIn wsX6_even wsX1_isNumber := goodIn_r _ [4, 5] (by decide +kernel) (by decide +kernel)
set_option maxRecDepth 20000 in
theorem gX6_even_X1_isNumber : GoodIn wsX6_even (va_wsS RX6 38 yX1_isNumber wsX1_isNumber) := goodIn_app (goodIn_of _ (by decide +kernel)) ggX6_even_X1_isNumber
set_option maxRecDepth 20000 in
theorem ggX6_even_X4_isEven : GoodIn wsX6_even wsX4_isEven := goodIn_r _ [9, 10, 11, 8, 12] (by decide +kernel) (by decide +kernel)
set_option maxRecDepth 20000 in
theorem gX6_even_X4_isEven : GoodIn wsX6_even (va_wsS RX6 80 yX4_isEven wsX4_isEven) := goodIn_app (goodIn_of _ (by decide +kernel)) ggX6_even_X4_isEven
theorem dX6_even_0 : decode cX6_even 0 = .ok (.lload_n 1, 1) := by decide +kernel
theorem dX6_even_1 : decode cX6_even 1 = .ok (.invokestatic 38, 3) := by decide +kernel
theorem dX6_even_4 : decode cX6_even 4 = .ok (.ifCond .ne 6, 3) := by decide +kernel
theorem dX6_even_7 : decode cX6_even 7 = .ok (.bipush (-2), 2) := by decide +kernel
theorem dX6_even_9 : decode cX6_even 9 = .ok (.ireturn, 1) := by decide +kernel
theorem dX6_even_10 : decode cX6_even 10 = .ok (.lload_n 1, 1) := by decide +kernel
theorem dX6_even_11 : decode cX6_even 11 = .ok (.invokestatic 80, 3) := by decide +kernel
theorem dX6_even_14 : decode cX6_even 14 = .ok (.ifCond .eq 7, 3) := by decide +kernel
theorem dX6_even_17 : decode cX6_even 17 = .ok (.iconst 1, 1) := by decide +kernel
theorem dX6_even_18 : decode cX6_even 18 = .ok (.goto 4, 3) := by decide +kernel
theorem dX6_even_21 : decode cX6_even 21 = .ok (.iconst 0, 1) := by decide +kernel
theorem dX6_even_22 : decode cX6_even 22 = .ok (.ireturn, 1) := by decide +kernel
set_option maxRecDepth 20000 in
theorem ggX6_turned_X1_isNumber : GoodIn wsX6_turned wsX1_isNumber := goodIn_r _ [8, 9] (by decide +kernel) (by decide +kernel)
set_option maxRecDepth 20000 in
theorem gX6_turned_X1_isNumber : GoodIn wsX6_turned (va_wsS RX6 38 yX1_isNumber wsX1_isNumber) := goodIn_app (goodIn_of _ (by decide +kernel)) ggX6_turned_X1_isNumber
set_option maxRecDepth 20000 in
theorem ggX6_turned_X4_isEven : GoodIn wsX6_turned wsX4_isEven := goodIn_r _ [13, 14, 15, 12, 16] (by decide +kernel) (by decide +kernel)
set_option maxRecDepth 20000 in
theorem gX6_turned_X4_isEven : GoodIn wsX6_turned (va_wsS RX6 80 yX4_isEven wsX4_isEven) := goodIn_app (goodIn_of _ (by decide +kernel)) ggX6_turned_X4_isEven
set_option maxRecDepth 20000 in
theorem ggX6_turned_X4_turnOver : GoodIn wsX6_turned wsX4_turnOver := goodIn_r _ [19, 20, 21, 22, 23, 24, 25, 12, 26, 27, 28, 29, 30, 31, 32, 33] (by decide +kernel) (by decide +kernel)
set_option maxRecDepth 20000 in
theorem gX6_turned_X4_turnOver : GoodIn wsX6_turned (va_wsS RX6 87 yX4_turnOver wsX4_turnOver) := goodIn_app (goodIn_of _ (by decide +kernel)) ggX6_turned_X4_turnOver
theorem dX6_turned_0 : decode cX6_turned 0 = .ok (.lload_n 1, 1) := by decide +kernel
theorem dX6_turned_1 : decode cX6_turned 1 = .ok (.invokestatic 38, 3) := by decide +kernel
theorem dX6_turned_4 : decode cX6_turned 4 = .ok (.ifCond .ne 7, 3) := by decide +kernel
theorem dX6_turned_7 : decode cX6_turned 7 = .ok (.ldc2_w 48, 3) := by decide +kernel
theorem dX6_turned_10 : decode cX6_turned 10 = .ok (.lreturn, 1) := by decide +kernel
theorem dX6_turned_11 : decode cX6_turned 11 = .ok (.lload_n 1, 1) := by decide +kernel
theorem dX6_turned_12 : decode cX6_turned 12 = .ok (.invokestatic 80, 3) := by decide +kernel
theorem dX6_turned_15 : decode cX6_turned 15 = .ok (.ifCond .ne 7, 3) := by decide +kernel
theorem dX6_turned_18 : decode cX6_turned 18 = .ok (.ldc2_w 85, 3) := by decide +kernel
theorem dX6_turned_21 : decode cX6_turned 21 = .ok (.lreturn, 1) := by decide +kernel
theorem dX6_turned_22 : decode cX6_turned 22 = .ok (.lload_n 1, 1) := by decide +kernel
theorem dX6_turned_23 : decode cX6_turned 23 = .ok (.invokestatic 87, 3) := by decide +kernel
theorem dX6_turned_26 : decode cX6_turned 26 = .ok (.lstore_n 3, 1) := by decide +kernel
theorem dX6_turned_27 : decode cX6_turned 27 = .ok (.lload_n 3, 1) := by decide +kernel
theorem dX6_turned_28 : decode cX6_turned 28 = .ok (.ldc2_w 76, 3) := by decide +kernel
theorem dX6_turned_31 : decode cX6_turned 31 = .ok (.lcmp, 1) := by decide +kernel
theorem dX6_turned_32 : decode cX6_turned 32 = .ok (.ifCond .ge 7, 3) := by decide +kernel
theorem dX6_turned_35 : decode cX6_turned 35 = .ok (.lload_n 3, 1) := by decide +kernel
theorem dX6_turned_36 : decode cX6_turned 36 = .ok (.goto 6, 3) := by decide +kernel
theorem dX6_turned_39 : decode cX6_turned 39 = .ok (.ldc2_w 78, 3) := by decide +kernel
theorem dX6_turned_42 : decode cX6_turned 42 = .ok (.lreturn, 1) := by decide +kernel
set_option maxRecDepth 20000 in
theorem ggX6_list_X4_listRows : GoodIn wsX6_list wsX4_listRows := goodIn_r _ [4, 5] (by decide +kernel) (by decide +kernel)
set_option maxRecDepth 20000 in
theorem gX6_list_X4_listRows : GoodIn wsX6_list (va_wsS RX6 90 yX4_listRows wsX4_listRows) := goodIn_app (goodIn_of _ (by decide +kernel)) ggX6_list_X4_listRows
set_option maxRecDepth 20000 in
theorem ggX6_list_X4_listed : GoodIn wsX6_list wsX4_listed := goodIn_r _ [8, 5] (by decide +kernel) (by decide +kernel)
set_option maxRecDepth 20000 in
theorem gX6_list_X4_listed : GoodIn wsX6_list (va_wsS RX6 94 yX4_listed wsX4_listed) := goodIn_app (goodIn_of _ (by decide +kernel)) ggX6_list_X4_listed
theorem dX6_list_0 : decode cX6_list 0 = .ok (.iload_n 1, 1) := by decide +kernel
theorem dX6_list_1 : decode cX6_list 1 = .ok (.iconst (-1), 1) := by decide +kernel
theorem dX6_list_2 : decode cX6_list 2 = .ok (.if_icmp .ne 7, 3) := by decide +kernel
theorem dX6_list_5 : decode cX6_list 5 = .ok (.invokestatic 90, 3) := by decide +kernel
theorem dX6_list_8 : decode cX6_list 8 = .ok (.ireturn, 1) := by decide +kernel
theorem dX6_list_9 : decode cX6_list 9 = .ok (.iload_n 1, 1) := by decide +kernel
theorem dX6_list_10 : decode cX6_list 10 = .ok (.ifCond .lt 17, 3) := by decide +kernel
theorem dX6_list_13 : decode cX6_list 13 = .ok (.iload_n 1, 1) := by decide +kernel
theorem dX6_list_14 : decode cX6_list 14 = .ok (.invokestatic 90, 3) := by decide +kernel
theorem dX6_list_17 : decode cX6_list 17 = .ok (.if_icmp .ge 10, 3) := by decide +kernel
theorem dX6_list_20 : decode cX6_list 20 = .ok (.iload_n 1, 1) := by decide +kernel
theorem dX6_list_21 : decode cX6_list 21 = .ok (.invokestatic 94, 3) := by decide +kernel
theorem dX6_list_24 : decode cX6_list 24 = .ok (.goto 4, 3) := by decide +kernel
theorem dX6_list_27 : decode cX6_list 27 = .ok (.iconst (-1), 1) := by decide +kernel
theorem dX6_list_28 : decode cX6_list 28 = .ok (.ireturn, 1) := by decide +kernel
set_option maxRecDepth 20000 in
theorem ggX6_factor_X1_isNumber : GoodIn wsX6_factor wsX1_isNumber := goodIn_r _ [4, 5] (by decide +kernel) (by decide +kernel)
set_option maxRecDepth 20000 in
theorem gX6_factor_X1_isNumber : GoodIn wsX6_factor (va_wsS RX6 38 yX1_isNumber wsX1_isNumber) := goodIn_app (goodIn_of _ (by decide +kernel)) ggX6_factor_X1_isNumber
set_option maxRecDepth 20000 in
theorem ggX6_factor_X4_isEven : GoodIn wsX6_factor wsX4_isEven := goodIn_r _ [9, 10, 11, 8, 12] (by decide +kernel) (by decide +kernel)
set_option maxRecDepth 20000 in
theorem gX6_factor_X4_isEven : GoodIn wsX6_factor (va_wsS RX6 80 yX4_isEven wsX4_isEven) := goodIn_app (goodIn_of _ (by decide +kernel)) ggX6_factor_X4_isEven
set_option maxRecDepth 20000 in
theorem ggX6_factor_X1_strip : GoodIn wsX6_factor wsX1_strip := goodIn_r _ [15, 16] (by decide +kernel) (by decide +kernel)
set_option maxRecDepth 20000 in
theorem gX6_factor_X1_strip : GoodIn wsX6_factor (va_wsS RX6 44 yX1_strip wsX1_strip) := goodIn_app (goodIn_of _ (by decide +kernel)) ggX6_factor_X1_strip
set_option maxRecDepth 20000 in
theorem ggX6_factor_X4_greatestListed : GoodIn wsX6_factor wsX4_greatestListed := goodIn_r _ [19, 20] (by decide +kernel) (by decide +kernel)
set_option maxRecDepth 20000 in
theorem gX6_factor_X4_greatestListed : GoodIn wsX6_factor (va_wsS RX6 97 yX4_greatestListed wsX4_greatestListed) := goodIn_app (goodIn_of _ (by decide +kernel)) ggX6_factor_X4_greatestListed
theorem dX6_factor_0 : decode cX6_factor 0 = .ok (.lload_n 1, 1) := by decide +kernel
theorem dX6_factor_1 : decode cX6_factor 1 = .ok (.invokestatic 38, 3) := by decide +kernel
theorem dX6_factor_4 : decode cX6_factor 4 = .ok (.ifCond .ne 6, 3) := by decide +kernel
theorem dX6_factor_7 : decode cX6_factor 7 = .ok (.bipush (-2), 2) := by decide +kernel
theorem dX6_factor_9 : decode cX6_factor 9 = .ok (.ireturn, 1) := by decide +kernel
theorem dX6_factor_10 : decode cX6_factor 10 = .ok (.lload_n 1, 1) := by decide +kernel
theorem dX6_factor_11 : decode cX6_factor 11 = .ok (.invokestatic 80, 3) := by decide +kernel
theorem dX6_factor_14 : decode cX6_factor 14 = .ok (.ifCond .ne 6, 3) := by decide +kernel
theorem dX6_factor_17 : decode cX6_factor 17 = .ok (.bipush (-5), 2) := by decide +kernel
theorem dX6_factor_19 : decode cX6_factor 19 = .ok (.ireturn, 1) := by decide +kernel
theorem dX6_factor_20 : decode cX6_factor 20 = .ok (.lload_n 1, 1) := by decide +kernel
theorem dX6_factor_21 : decode cX6_factor 21 = .ok (.invokestatic 44, 3) := by decide +kernel
theorem dX6_factor_24 : decode cX6_factor 24 = .ok (.lstore 4, 2) := by decide +kernel
theorem dX6_factor_26 : decode cX6_factor 26 = .ok (.iconst 0, 1) := by decide +kernel
theorem dX6_factor_27 : decode cX6_factor 27 = .ok (.istore 6, 2) := by decide +kernel
theorem dX6_factor_29 : decode cX6_factor 29 = .ok (.iconst 0, 1) := by decide +kernel
theorem dX6_factor_30 : decode cX6_factor 30 = .ok (.istore 7, 2) := by decide +kernel
theorem dX6_factor_32 : decode cX6_factor 32 = .ok (.iload 7, 2) := by decide +kernel
theorem dX6_factor_34 : decode cX6_factor 34 = .ok (.bipush 48, 2) := by decide +kernel
theorem dX6_factor_36 : decode cX6_factor 36 = .ok (.if_icmp .ge 56, 3) := by decide +kernel
theorem dX6_factor_39 : decode cX6_factor 39 = .ok (.lload 4, 2) := by decide +kernel
theorem dX6_factor_41 : decode cX6_factor 41 = .ok (.lconst 1, 1) := by decide +kernel
theorem dX6_factor_42 : decode cX6_factor 42 = .ok (.lcmp, 1) := by decide +kernel
theorem dX6_factor_43 : decode cX6_factor 43 = .ok (.ifCond .le 49, 3) := by decide +kernel
theorem dX6_factor_46 : decode cX6_factor 46 = .ok (.lload 4, 2) := by decide +kernel
theorem dX6_factor_48 : decode cX6_factor 48 = .ok (.invokestatic 97, 3) := by decide +kernel
theorem dX6_factor_51 : decode cX6_factor 51 = .ok (.istore 8, 2) := by decide +kernel
theorem dX6_factor_53 : decode cX6_factor 53 = .ok (.iload 6, 2) := by decide +kernel
theorem dX6_factor_55 : decode cX6_factor 55 = .ok (.iload_n 3, 1) := by decide +kernel
theorem dX6_factor_56 : decode cX6_factor 56 = .ok (.if_icmp .ne 6, 3) := by decide +kernel
theorem dX6_factor_59 : decode cX6_factor 59 = .ok (.iload 8, 2) := by decide +kernel
theorem dX6_factor_61 : decode cX6_factor 61 = .ok (.ireturn, 1) := by decide +kernel
theorem dX6_factor_62 : decode cX6_factor 62 = .ok (.iinc 6 1, 3) := by decide +kernel
theorem dX6_factor_65 : decode cX6_factor 65 = .ok (.iload 8, 2) := by decide +kernel
theorem dX6_factor_67 : decode cX6_factor 67 = .ok (.iconst 1, 1) := by decide +kernel
theorem dX6_factor_68 : decode cX6_factor 68 = .ok (.if_icmp .le 15, 3) := by decide +kernel
theorem dX6_factor_71 : decode cX6_factor 71 = .ok (.lload 4, 2) := by decide +kernel
theorem dX6_factor_73 : decode cX6_factor 73 = .ok (.iload 8, 2) := by decide +kernel
theorem dX6_factor_75 : decode cX6_factor 75 = .ok (.i2l, 1) := by decide +kernel
theorem dX6_factor_76 : decode cX6_factor 76 = .ok (.ldiv, 1) := by decide +kernel
theorem dX6_factor_77 : decode cX6_factor 77 = .ok (.invokestatic 44, 3) := by decide +kernel
theorem dX6_factor_80 : decode cX6_factor 80 = .ok (.goto 4, 3) := by decide +kernel
theorem dX6_factor_83 : decode cX6_factor 83 = .ok (.lconst 1, 1) := by decide +kernel
theorem dX6_factor_84 : decode cX6_factor 84 = .ok (.lstore 4, 2) := by decide +kernel
theorem dX6_factor_86 : decode cX6_factor 86 = .ok (.iinc 7 1, 3) := by decide +kernel
theorem dX6_factor_89 : decode cX6_factor 89 = .ok (.goto (-57), 3) := by decide +kernel
theorem dX6_factor_92 : decode cX6_factor 92 = .ok (.iload_n 3, 1) := by decide +kernel
theorem dX6_factor_93 : decode cX6_factor 93 = .ok (.iconst (-1), 1) := by decide +kernel
theorem dX6_factor_94 : decode cX6_factor 94 = .ok (.if_icmp .ne 8, 3) := by decide +kernel
theorem dX6_factor_97 : decode cX6_factor 97 = .ok (.iload 6, 2) := by decide +kernel
theorem dX6_factor_99 : decode cX6_factor 99 = .ok (.goto 5, 3) := by decide +kernel
theorem dX6_factor_102 : decode cX6_factor 102 = .ok (.bipush (-6), 2) := by decide +kernel
theorem dX6_factor_104 : decode cX6_factor 104 = .ok (.ireturn, 1) := by decide +kernel
set_option maxRecDepth 20000 in
theorem ggX6_root_X1_isNumber : GoodIn wsX6_root wsX1_isNumber := goodIn_r _ [8, 9] (by decide +kernel) (by decide +kernel)
set_option maxRecDepth 20000 in
theorem gX6_root_X1_isNumber : GoodIn wsX6_root (va_wsS RX6 38 yX1_isNumber wsX1_isNumber) := goodIn_app (goodIn_of _ (by decide +kernel)) ggX6_root_X1_isNumber
set_option maxRecDepth 20000 in
theorem ggX6_root_X1_floorRoot : GoodIn wsX6_root wsX1_floorRoot := goodIn_r _ [12, 13, 14] (by decide +kernel) (by decide +kernel)
set_option maxRecDepth 20000 in
theorem gX6_root_X1_floorRoot : GoodIn wsX6_root (va_wsS RX6 102 yX1_floorRoot wsX1_floorRoot) := goodIn_app (goodIn_of _ (by decide +kernel)) ggX6_root_X1_floorRoot
theorem dX6_root_0 : decode cX6_root 0 = .ok (.lload_n 1, 1) := by decide +kernel
theorem dX6_root_1 : decode cX6_root 1 = .ok (.invokestatic 38, 3) := by decide +kernel
theorem dX6_root_4 : decode cX6_root 4 = .ok (.ifCond .eq 12, 3) := by decide +kernel
theorem dX6_root_7 : decode cX6_root 7 = .ok (.iload_n 3, 1) := by decide +kernel
theorem dX6_root_8 : decode cX6_root 8 = .ok (.ifCond .lt 8, 3) := by decide +kernel
theorem dX6_root_11 : decode cX6_root 11 = .ok (.iload_n 3, 1) := by decide +kernel
theorem dX6_root_12 : decode cX6_root 12 = .ok (.iconst 3, 1) := by decide +kernel
theorem dX6_root_13 : decode cX6_root 13 = .ok (.if_icmp .le 7, 3) := by decide +kernel
theorem dX6_root_16 : decode cX6_root 16 = .ok (.ldc2_w 48, 3) := by decide +kernel
theorem dX6_root_19 : decode cX6_root 19 = .ok (.lreturn, 1) := by decide +kernel
theorem dX6_root_20 : decode cX6_root 20 = .ok (.lload_n 1, 1) := by decide +kernel
theorem dX6_root_21 : decode cX6_root 21 = .ok (.lstore 4, 2) := by decide +kernel
theorem dX6_root_23 : decode cX6_root 23 = .ok (.iconst 0, 1) := by decide +kernel
theorem dX6_root_24 : decode cX6_root 24 = .ok (.istore 6, 2) := by decide +kernel
theorem dX6_root_26 : decode cX6_root 26 = .ok (.iload 6, 2) := by decide +kernel
theorem dX6_root_28 : decode cX6_root 28 = .ok (.iload_n 3, 1) := by decide +kernel
theorem dX6_root_29 : decode cX6_root 29 = .ok (.if_icmp .ge 30, 3) := by decide +kernel
theorem dX6_root_32 : decode cX6_root 32 = .ok (.lload 4, 2) := by decide +kernel
theorem dX6_root_34 : decode cX6_root 34 = .ok (.ldc2_w 76, 3) := by decide +kernel
theorem dX6_root_37 : decode cX6_root 37 = .ok (.lcmp, 1) := by decide +kernel
theorem dX6_root_38 : decode cX6_root 38 = .ok (.ifCond .lt 7, 3) := by decide +kernel
theorem dX6_root_41 : decode cX6_root 41 = .ok (.ldc2_w 78, 3) := by decide +kernel
theorem dX6_root_44 : decode cX6_root 44 = .ok (.lreturn, 1) := by decide +kernel
theorem dX6_root_45 : decode cX6_root 45 = .ok (.lload 4, 2) := by decide +kernel
theorem dX6_root_47 : decode cX6_root 47 = .ok (.ldc2_w 100, 3) := by decide +kernel
theorem dX6_root_50 : decode cX6_root 50 = .ok (.lmul, 1) := by decide +kernel
theorem dX6_root_51 : decode cX6_root 51 = .ok (.lstore 4, 2) := by decide +kernel
theorem dX6_root_53 : decode cX6_root 53 = .ok (.iinc 6 1, 3) := by decide +kernel
theorem dX6_root_56 : decode cX6_root 56 = .ok (.goto (-30), 3) := by decide +kernel
theorem dX6_root_59 : decode cX6_root 59 = .ok (.lload 4, 2) := by decide +kernel
theorem dX6_root_61 : decode cX6_root 61 = .ok (.invokestatic 102, 3) := by decide +kernel
theorem dX6_root_64 : decode cX6_root 64 = .ok (.lreturn, 1) := by decide +kernel
set_option maxRecDepth 20000 in
theorem ggX6_times_X5_begin : GoodIn wsX6_times wsX5_begin := goodIn_r _ [7, 8, 9, 10, 11, 12, 13, 14, 15, 16, 17, 18, 19, 6, 20, 21, 22, 23, 33, 34, 35, 36] (by decide +kernel) (by decide +kernel)
set_option maxRecDepth 20000 in
theorem gX6_times_X5_begin : GoodIn wsX6_times (wsV RX6 107 RX5 yX5_begin wsX5_begin) := goodIn_app (goodIn_of _ (by decide +kernel)) ggX6_times_X5_begin
set_option maxRecDepth 20000 in
theorem ggX6_times_X5_lineCount : GoodIn wsX6_times wsX5_lineCount := goodIn_r _ [27, 8, 33, 34, 35, 36] (by decide +kernel) (by decide +kernel)
set_option maxRecDepth 20000 in
theorem gX6_times_X5_lineCount : GoodIn wsX6_times (wsV RX6 111 RX5 yX5_lineCount wsX5_lineCount) := goodIn_app (goodIn_of _ (by decide +kernel)) ggX6_times_X5_lineCount
theorem dX6_times_0 : decode cX6_times 0 = .ok (.lload_n 1, 1) := by decide +kernel
theorem dX6_times_1 : decode cX6_times 1 = .ok (.lconst 1, 1) := by decide +kernel
theorem dX6_times_2 : decode cX6_times 2 = .ok (.lcmp, 1) := by decide +kernel
theorem dX6_times_3 : decode cX6_times 3 = .ok (.ifCond .lt 25, 3) := by decide +kernel
theorem dX6_times_6 : decode cX6_times 6 = .ok (.lload_n 1, 1) := by decide +kernel
theorem dX6_times_7 : decode cX6_times 7 = .ok (.ldc2_w 105, 3) := by decide +kernel
theorem dX6_times_10 : decode cX6_times 10 = .ok (.lcmp, 1) := by decide +kernel
theorem dX6_times_11 : decode cX6_times 11 = .ok (.ifCond .ge 17, 3) := by decide +kernel
theorem dX6_times_14 : decode cX6_times 14 = .ok (.lload_n 3, 1) := by decide +kernel
theorem dX6_times_15 : decode cX6_times 15 = .ok (.lconst 1, 1) := by decide +kernel
theorem dX6_times_16 : decode cX6_times 16 = .ok (.lcmp, 1) := by decide +kernel
theorem dX6_times_17 : decode cX6_times 17 = .ok (.ifCond .lt 11, 3) := by decide +kernel
theorem dX6_times_20 : decode cX6_times 20 = .ok (.lload_n 3, 1) := by decide +kernel
theorem dX6_times_21 : decode cX6_times 21 = .ok (.ldc2_w 105, 3) := by decide +kernel
theorem dX6_times_24 : decode cX6_times 24 = .ok (.lcmp, 1) := by decide +kernel
theorem dX6_times_25 : decode cX6_times 25 = .ok (.ifCond .lt 6, 3) := by decide +kernel
theorem dX6_times_28 : decode cX6_times 28 = .ok (.bipush (-2), 2) := by decide +kernel
theorem dX6_times_30 : decode cX6_times 30 = .ok (.ireturn, 1) := by decide +kernel
theorem dX6_times_31 : decode cX6_times 31 = .ok (.aload_n 0, 1) := by decide +kernel
theorem dX6_times_32 : decode cX6_times 32 = .ok (.getfield 10, 3) := by decide +kernel
theorem dX6_times_35 : decode cX6_times 35 = .ok (.lload_n 1, 1) := by decide +kernel
theorem dX6_times_36 : decode cX6_times 36 = .ok (.lload_n 3, 1) := by decide +kernel
theorem dX6_times_37 : decode cX6_times 37 = .ok (.invokevirtual 107, 3) := by decide +kernel
theorem dX6_times_40 : decode cX6_times 40 = .ok (.aload_n 0, 1) := by decide +kernel
theorem dX6_times_41 : decode cX6_times 41 = .ok (.getfield 10, 3) := by decide +kernel
theorem dX6_times_44 : decode cX6_times 44 = .ok (.invokevirtual 111, 3) := by decide +kernel
theorem dX6_times_47 : decode cX6_times 47 = .ok (.ireturn, 1) := by decide +kernel
set_option maxRecDepth 20000 in
theorem ggX6_line_X5_hasLine : GoodIn wsX6_line wsX5_hasLine := goodIn_r _ [6, 7, 35, 36, 37, 38] (by decide +kernel) (by decide +kernel)
set_option maxRecDepth 20000 in
theorem gX6_line_X5_hasLine : GoodIn wsX6_line (wsV RX6 114 RX5 yX5_hasLine wsX5_hasLine) := goodIn_app (goodIn_of _ (by decide +kernel)) ggX6_line_X5_hasLine
set_option maxRecDepth 20000 in
theorem ggX6_line_X5_product : GoodIn wsX6_line wsX5_product := goodIn_r _ [11, 12, 13, 14, 5, 15, 16, 17, 3, 4, 6, 7, 18, 19, 20, 21, 22, 35, 36, 37, 38] (by decide +kernel) (by decide +kernel)
set_option maxRecDepth 20000 in
theorem gX6_line_X5_product : GoodIn wsX6_line (wsV RX6 118 RX5 yX5_product wsX5_product) := goodIn_app (goodIn_of _ (by decide +kernel)) ggX6_line_X5_product
set_option maxRecDepth 20000 in
theorem ggX6_line_X5_place : GoodIn wsX6_line wsX5_place := goodIn_r _ [26, 27, 17, 3, 4, 5, 6, 7, 35, 36, 37, 38] (by decide +kernel) (by decide +kernel)
set_option maxRecDepth 20000 in
theorem gX6_line_X5_place : GoodIn wsX6_line (wsV RX6 121 RX5 yX5_place wsX5_place) := goodIn_app (goodIn_of _ (by decide +kernel)) ggX6_line_X5_place
set_option maxRecDepth 20000 in
theorem ggX6_line_X5_digitOfX : GoodIn wsX6_line wsX5_digitOfX := goodIn_r _ [15, 16, 17, 3, 4, 5, 6, 7, 35, 36, 37, 38] (by decide +kernel) (by decide +kernel)
set_option maxRecDepth 20000 in
theorem gX6_line_X5_digitOfX : GoodIn wsX6_line (wsV RX6 124 RX5 yX5_digitOfX wsX5_digitOfX) := goodIn_app (goodIn_of _ (by decide +kernel)) ggX6_line_X5_digitOfX
set_option maxRecDepth 20000 in
theorem ggX6_line_X5_digitOfY : GoodIn wsX6_line wsX5_digitOfY := goodIn_r _ [21, 22, 17, 3, 4, 5, 6, 7, 35, 36, 37, 38] (by decide +kernel) (by decide +kernel)
set_option maxRecDepth 20000 in
theorem gX6_line_X5_digitOfY : GoodIn wsX6_line (wsV RX6 127 RX5 yX5_digitOfY wsX5_digitOfY) := goodIn_app (goodIn_of _ (by decide +kernel)) ggX6_line_X5_digitOfY
theorem dX6_line_0 : decode cX6_line 0 = .ok (.aload_n 0, 1) := by decide +kernel
theorem dX6_line_1 : decode cX6_line 1 = .ok (.getfield 10, 3) := by decide +kernel
theorem dX6_line_4 : decode cX6_line 4 = .ok (.iload_n 1, 1) := by decide +kernel
theorem dX6_line_5 : decode cX6_line 5 = .ok (.invokevirtual 114, 3) := by decide +kernel
theorem dX6_line_8 : decode cX6_line 8 = .ok (.ifCond .ne 5, 3) := by decide +kernel
theorem dX6_line_11 : decode cX6_line 11 = .ok (.iconst (-1), 1) := by decide +kernel
theorem dX6_line_12 : decode cX6_line 12 = .ok (.ireturn, 1) := by decide +kernel
theorem dX6_line_13 : decode cX6_line 13 = .ok (.iload_n 2, 1) := by decide +kernel
theorem dX6_line_14 : decode cX6_line 14 = .ok (.tableswitch 66 0 3 #[30, 39, 48, 57], 30) := by decide +kernel
theorem dX6_line_44 : decode cX6_line 44 = .ok (.aload_n 0, 1) := by decide +kernel
theorem dX6_line_45 : decode cX6_line 45 = .ok (.getfield 10, 3) := by decide +kernel
theorem dX6_line_48 : decode cX6_line 48 = .ok (.iload_n 1, 1) := by decide +kernel
theorem dX6_line_49 : decode cX6_line 49 = .ok (.invokevirtual 118, 3) := by decide +kernel
theorem dX6_line_52 : decode cX6_line 52 = .ok (.ireturn, 1) := by decide +kernel
theorem dX6_line_53 : decode cX6_line 53 = .ok (.aload_n 0, 1) := by decide +kernel
theorem dX6_line_54 : decode cX6_line 54 = .ok (.getfield 10, 3) := by decide +kernel
theorem dX6_line_57 : decode cX6_line 57 = .ok (.iload_n 1, 1) := by decide +kernel
theorem dX6_line_58 : decode cX6_line 58 = .ok (.invokevirtual 121, 3) := by decide +kernel
theorem dX6_line_61 : decode cX6_line 61 = .ok (.ireturn, 1) := by decide +kernel
theorem dX6_line_62 : decode cX6_line 62 = .ok (.aload_n 0, 1) := by decide +kernel
theorem dX6_line_63 : decode cX6_line 63 = .ok (.getfield 10, 3) := by decide +kernel
theorem dX6_line_66 : decode cX6_line 66 = .ok (.iload_n 1, 1) := by decide +kernel
theorem dX6_line_67 : decode cX6_line 67 = .ok (.invokevirtual 124, 3) := by decide +kernel
theorem dX6_line_70 : decode cX6_line 70 = .ok (.ireturn, 1) := by decide +kernel
theorem dX6_line_71 : decode cX6_line 71 = .ok (.aload_n 0, 1) := by decide +kernel
theorem dX6_line_72 : decode cX6_line 72 = .ok (.getfield 10, 3) := by decide +kernel
theorem dX6_line_75 : decode cX6_line 75 = .ok (.iload_n 1, 1) := by decide +kernel
theorem dX6_line_76 : decode cX6_line 76 = .ok (.invokevirtual 127, 3) := by decide +kernel
theorem dX6_line_79 : decode cX6_line 79 = .ok (.ireturn, 1) := by decide +kernel
theorem dX6_line_80 : decode cX6_line 80 = .ok (.bipush (-2), 2) := by decide +kernel
theorem dX6_line_82 : decode cX6_line 82 = .ok (.ireturn, 1) := by decide +kernel
set_option maxRecDepth 20000 in
theorem ggX6_sum_X5_hasLine : GoodIn wsX6_sum wsX5_hasLine := goodIn_r _ [7, 8, 47, 48, 49, 50] (by decide +kernel) (by decide +kernel)
set_option maxRecDepth 20000 in
theorem gX6_sum_X5_hasLine : GoodIn wsX6_sum (wsV RX6 114 RX5 yX5_hasLine wsX5_hasLine) := goodIn_app (goodIn_of _ (by decide +kernel)) ggX6_sum_X5_hasLine
set_option maxRecDepth 20000 in
theorem ggX6_sum_X5_sumUpTo : GoodIn wsX6_sum wsX5_sumUpTo := goodIn_r _ [12, 13, 14, 15, 6, 16, 17, 18, 19, 20, 21, 22, 23, 24, 25, 26, 4, 5, 7, 8, 27, 28, 29, 30, 31, 32, 33, 34, 35, 36, 37, 38, 39, 40, 41, 47, 48, 49, 50] (by decide +kernel) (by decide +kernel)
set_option maxRecDepth 20000 in
theorem gX6_sum_X5_sumUpTo : GoodIn wsX6_sum (wsV RX6 130 RX5 yX5_sumUpTo wsX5_sumUpTo) := goodIn_app (goodIn_of _ (by decide +kernel)) ggX6_sum_X5_sumUpTo
theorem dX6_sum_0 : decode cX6_sum 0 = .ok (.aload_n 0, 1) := by decide +kernel
theorem dX6_sum_1 : decode cX6_sum 1 = .ok (.getfield 10, 3) := by decide +kernel
theorem dX6_sum_4 : decode cX6_sum 4 = .ok (.iload_n 1, 1) := by decide +kernel
theorem dX6_sum_5 : decode cX6_sum 5 = .ok (.invokevirtual 114, 3) := by decide +kernel
theorem dX6_sum_8 : decode cX6_sum 8 = .ok (.ifCond .eq 14, 3) := by decide +kernel
theorem dX6_sum_11 : decode cX6_sum 11 = .ok (.aload_n 0, 1) := by decide +kernel
theorem dX6_sum_12 : decode cX6_sum 12 = .ok (.getfield 10, 3) := by decide +kernel
theorem dX6_sum_15 : decode cX6_sum 15 = .ok (.iload_n 1, 1) := by decide +kernel
theorem dX6_sum_16 : decode cX6_sum 16 = .ok (.invokevirtual 130, 3) := by decide +kernel
theorem dX6_sum_19 : decode cX6_sum 19 = .ok (.goto 6, 3) := by decide +kernel
theorem dX6_sum_22 : decode cX6_sum 22 = .ok (.ldc2_w 134, 3) := by decide +kernel
theorem dX6_sum_25 : decode cX6_sum 25 = .ok (.lreturn, 1) := by decide +kernel
set_option maxRecDepth 20000 in
theorem ggX6_slip_X5_hasLine : GoodIn wsX6_slip wsX5_hasLine := goodIn_r _ [10, 11, 72, 73, 74, 75] (by decide +kernel) (by decide +kernel)
set_option maxRecDepth 20000 in
theorem gX6_slip_X5_hasLine : GoodIn wsX6_slip (wsV RX6 114 RX5 yX5_hasLine wsX5_hasLine) := goodIn_app (goodIn_of _ (by decide +kernel)) ggX6_slip_X5_hasLine
set_option maxRecDepth 20000 in
theorem ggX6_slip_X5_slipped : GoodIn wsX6_slip wsX5_slipped := goodIn_r _ [15, 16, 17, 18, 19, 9, 20, 21, 22, 23, 24, 25, 26, 27, 28, 29, 30, 7, 8, 10, 11, 31, 32, 33, 34, 35, 36, 37, 38, 39, 40, 41, 42, 43, 44, 45, 46, 47, 48, 49, 50, 51, 52, 53, 54, 55, 56, 57, 72, 73, 74, 75] (by decide +kernel) (by decide +kernel)
set_option maxRecDepth 20000 in
theorem gX6_slip_X5_slipped : GoodIn wsX6_slip (wsV RX6 136 RX5 yX5_slipped wsX5_slipped) := goodIn_app (goodIn_of _ (by decide +kernel)) ggX6_slip_X5_slipped
set_option maxRecDepth 20000 in
theorem ggX6_slip_X5_sumUpTo : GoodIn wsX6_slip wsX5_sumUpTo := goodIn_r _ [61, 62, 63, 64, 9, 65, 21, 22, 23, 24, 25, 26, 27, 28, 29, 30, 7, 8, 10, 11, 31, 32, 33, 34, 35, 36, 37, 38, 39, 40, 41, 42, 43, 44, 45, 72, 73, 74, 75] (by decide +kernel) (by decide +kernel)
set_option maxRecDepth 20000 in
theorem gX6_slip_X5_sumUpTo : GoodIn wsX6_slip (wsV RX6 130 RX5 yX5_sumUpTo wsX5_sumUpTo) := goodIn_app (goodIn_of _ (by decide +kernel)) ggX6_slip_X5_sumUpTo
set_option maxRecDepth 20000 in
theorem ggX6_slip_X5_worth : GoodIn wsX6_slip wsX5_worth := goodIn_r _ [65, 21, 22, 23, 9, 24, 25, 26, 27, 28, 29, 30, 7, 8, 10, 11, 31, 32, 33, 34, 35, 36, 37, 38, 39, 40, 41, 42, 43, 44, 45, 72, 73, 74, 75] (by decide +kernel) (by decide +kernel)
set_option maxRecDepth 20000 in
theorem gX6_slip_X5_worth : GoodIn wsX6_slip (wsV RX6 142 RX5 yX5_worth wsX5_worth) := goodIn_app (goodIn_of _ (by decide +kernel)) ggX6_slip_X5_worth
theorem dX6_slip_0 : decode cX6_slip 0 = .ok (.aload_n 0, 1) := by decide +kernel
theorem dX6_slip_1 : decode cX6_slip 1 = .ok (.getfield 10, 3) := by decide +kernel
theorem dX6_slip_4 : decode cX6_slip 4 = .ok (.iload_n 1, 1) := by decide +kernel
theorem dX6_slip_5 : decode cX6_slip 5 = .ok (.invokevirtual 114, 3) := by decide +kernel
theorem dX6_slip_8 : decode cX6_slip 8 = .ok (.ifCond .eq 15, 3) := by decide +kernel
theorem dX6_slip_11 : decode cX6_slip 11 = .ok (.aload_n 0, 1) := by decide +kernel
theorem dX6_slip_12 : decode cX6_slip 12 = .ok (.getfield 10, 3) := by decide +kernel
theorem dX6_slip_15 : decode cX6_slip 15 = .ok (.iload 4, 2) := by decide +kernel
theorem dX6_slip_17 : decode cX6_slip 17 = .ok (.invokevirtual 114, 3) := by decide +kernel
theorem dX6_slip_20 : decode cX6_slip 20 = .ok (.ifCond .ne 7, 3) := by decide +kernel
theorem dX6_slip_23 : decode cX6_slip 23 = .ok (.ldc2_w 134, 3) := by decide +kernel
theorem dX6_slip_26 : decode cX6_slip 26 = .ok (.lreturn, 1) := by decide +kernel
theorem dX6_slip_27 : decode cX6_slip 27 = .ok (.iload_n 2, 1) := by decide +kernel
theorem dX6_slip_28 : decode cX6_slip 28 = .ok (.ifCond .lt 17, 3) := by decide +kernel
theorem dX6_slip_31 : decode cX6_slip 31 = .ok (.iload_n 2, 1) := by decide +kernel
theorem dX6_slip_32 : decode cX6_slip 32 = .ok (.iconst 4, 1) := by decide +kernel
theorem dX6_slip_33 : decode cX6_slip 33 = .ok (.if_icmp .ge 12, 3) := by decide +kernel
theorem dX6_slip_36 : decode cX6_slip 36 = .ok (.iload_n 3, 1) := by decide +kernel
theorem dX6_slip_37 : decode cX6_slip 37 = .ok (.ifCond .lt 8, 3) := by decide +kernel
theorem dX6_slip_40 : decode cX6_slip 40 = .ok (.iload_n 3, 1) := by decide +kernel
theorem dX6_slip_41 : decode cX6_slip 41 = .ok (.iconst 2, 1) := by decide +kernel
theorem dX6_slip_42 : decode cX6_slip 42 = .ok (.if_icmp .lt 7, 3) := by decide +kernel
theorem dX6_slip_45 : decode cX6_slip 45 = .ok (.ldc2_w 48, 3) := by decide +kernel
theorem dX6_slip_48 : decode cX6_slip 48 = .ok (.lreturn, 1) := by decide +kernel
theorem dX6_slip_49 : decode cX6_slip 49 = .ok (.aload_n 0, 1) := by decide +kernel
theorem dX6_slip_50 : decode cX6_slip 50 = .ok (.getfield 10, 3) := by decide +kernel
theorem dX6_slip_53 : decode cX6_slip 53 = .ok (.iload_n 1, 1) := by decide +kernel
theorem dX6_slip_54 : decode cX6_slip 54 = .ok (.iload_n 2, 1) := by decide +kernel
theorem dX6_slip_55 : decode cX6_slip 55 = .ok (.iload_n 3, 1) := by decide +kernel
theorem dX6_slip_56 : decode cX6_slip 56 = .ok (.invokevirtual 136, 3) := by decide +kernel
theorem dX6_slip_59 : decode cX6_slip 59 = .ok (.lstore 5, 2) := by decide +kernel
theorem dX6_slip_61 : decode cX6_slip 61 = .ok (.lload 5, 2) := by decide +kernel
theorem dX6_slip_63 : decode cX6_slip 63 = .ok (.ldc2_w 140, 3) := by decide +kernel
theorem dX6_slip_66 : decode cX6_slip 66 = .ok (.lcmp, 1) := by decide +kernel
theorem dX6_slip_67 : decode cX6_slip 67 = .ok (.ifCond .ne 7, 3) := by decide +kernel
theorem dX6_slip_70 : decode cX6_slip 70 = .ok (.ldc2_w 85, 3) := by decide +kernel
theorem dX6_slip_73 : decode cX6_slip 73 = .ok (.lreturn, 1) := by decide +kernel
theorem dX6_slip_74 : decode cX6_slip 74 = .ok (.aload_n 0, 1) := by decide +kernel
theorem dX6_slip_75 : decode cX6_slip 75 = .ok (.getfield 10, 3) := by decide +kernel
theorem dX6_slip_78 : decode cX6_slip 78 = .ok (.iload 4, 2) := by decide +kernel
theorem dX6_slip_80 : decode cX6_slip 80 = .ok (.invokevirtual 130, 3) := by decide +kernel
theorem dX6_slip_83 : decode cX6_slip 83 = .ok (.lstore 7, 2) := by decide +kernel
theorem dX6_slip_85 : decode cX6_slip 85 = .ok (.iload 4, 2) := by decide +kernel
theorem dX6_slip_87 : decode cX6_slip 87 = .ok (.iload_n 1, 1) := by decide +kernel
theorem dX6_slip_88 : decode cX6_slip 88 = .ok (.if_icmp .ge 8, 3) := by decide +kernel
theorem dX6_slip_91 : decode cX6_slip 91 = .ok (.lload 7, 2) := by decide +kernel
theorem dX6_slip_93 : decode cX6_slip 93 = .ok (.goto 17, 3) := by decide +kernel
theorem dX6_slip_96 : decode cX6_slip 96 = .ok (.lload 7, 2) := by decide +kernel
theorem dX6_slip_98 : decode cX6_slip 98 = .ok (.aload_n 0, 1) := by decide +kernel
theorem dX6_slip_99 : decode cX6_slip 99 = .ok (.getfield 10, 3) := by decide +kernel
theorem dX6_slip_102 : decode cX6_slip 102 = .ok (.iload_n 1, 1) := by decide +kernel
theorem dX6_slip_103 : decode cX6_slip 103 = .ok (.invokevirtual 142, 3) := by decide +kernel
theorem dX6_slip_106 : decode cX6_slip 106 = .ok (.lsub, 1) := by decide +kernel
theorem dX6_slip_107 : decode cX6_slip 107 = .ok (.lload 5, 2) := by decide +kernel
theorem dX6_slip_109 : decode cX6_slip 109 = .ok (.ladd, 1) := by decide +kernel
theorem dX6_slip_110 : decode cX6_slip 110 = .ok (.lreturn, 1) := by decide +kernel
set_option maxRecDepth 20000 in
theorem ggX6_blame_X5_lineCount : GoodIn wsX6_blame wsX5_lineCount := goodIn_r _ [7, 8, 72, 73, 74, 75] (by decide +kernel) (by decide +kernel)
set_option maxRecDepth 20000 in
theorem gX6_blame_X5_lineCount : GoodIn wsX6_blame (wsV RX6 111 RX5 yX5_lineCount wsX5_lineCount) := goodIn_app (goodIn_of _ (by decide +kernel)) ggX6_blame_X5_lineCount
set_option maxRecDepth 20000 in
theorem ggX6_blame_X5_sumUpTo : GoodIn wsX6_blame wsX5_sumUpTo := goodIn_r _ [12, 13, 14, 15, 6, 16, 17, 18, 19, 20, 21, 22, 23, 24, 25, 26, 27, 28, 29, 8, 30, 31, 32, 33, 34, 35, 36, 37, 38, 39, 40, 41, 42, 43, 44, 72, 73, 74, 75] (by decide +kernel) (by decide +kernel)
set_option maxRecDepth 20000 in
theorem gX6_blame_X5_sumUpTo : GoodIn wsX6_blame (wsV RX6 130 RX5 yX5_sumUpTo wsX5_sumUpTo) := goodIn_app (goodIn_of _ (by decide +kernel)) ggX6_blame_X5_sumUpTo
set_option maxRecDepth 20000 in
theorem ggX6_blame_X5_slipped : GoodIn wsX6_blame wsX5_slipped := goodIn_r _ [48, 49, 50, 51, 52, 6, 53, 17, 18, 19, 20, 21, 22, 23, 24, 25, 26, 27, 28, 29, 8, 30, 31, 32, 33, 34, 35, 36, 37, 38, 39, 40, 41, 42, 43, 44, 54, 55, 56, 57, 58, 59, 60, 61, 62, 63, 64, 65, 72, 73, 74, 75] (by decide +kernel) (by decide +kernel)
set_option maxRecDepth 20000 in
theorem gX6_blame_X5_slipped : GoodIn wsX6_blame (wsV RX6 136 RX5 yX5_slipped wsX5_slipped) := goodIn_app (goodIn_of _ (by decide +kernel)) ggX6_blame_X5_slipped
set_option maxRecDepth 20000 in
theorem ggX6_blame_X5_worth : GoodIn wsX6_blame wsX5_worth := goodIn_r _ [16, 17, 18, 19, 6, 20, 21, 22, 23, 24, 25, 26, 27, 28, 29, 8, 30, 31, 32, 33, 34, 35, 36, 37, 38, 39, 40, 41, 42, 43, 44, 72, 73, 74, 75] (by decide +kernel) (by decide +kernel)
set_option maxRecDepth 20000 in
theorem gX6_blame_X5_worth : GoodIn wsX6_blame (wsV RX6 142 RX5 yX5_worth wsX5_worth) := goodIn_app (goodIn_of _ (by decide +kernel)) ggX6_blame_X5_worth
theorem dX6_blame_0 : decode cX6_blame 0 = .ok (.aload_n 0, 1) := by decide +kernel
theorem dX6_blame_1 : decode cX6_blame 1 = .ok (.getfield 10, 3) := by decide +kernel
theorem dX6_blame_4 : decode cX6_blame 4 = .ok (.invokevirtual 111, 3) := by decide +kernel
theorem dX6_blame_7 : decode cX6_blame 7 = .ok (.ifCond .ne 6, 3) := by decide +kernel
theorem dX6_blame_10 : decode cX6_blame 10 = .ok (.bipush (-3), 2) := by decide +kernel
theorem dX6_blame_12 : decode cX6_blame 12 = .ok (.ireturn, 1) := by decide +kernel
theorem dX6_blame_13 : decode cX6_blame 13 = .ok (.aload_n 0, 1) := by decide +kernel
theorem dX6_blame_14 : decode cX6_blame 14 = .ok (.getfield 10, 3) := by decide +kernel
theorem dX6_blame_17 : decode cX6_blame 17 = .ok (.aload_n 0, 1) := by decide +kernel
theorem dX6_blame_18 : decode cX6_blame 18 = .ok (.getfield 10, 3) := by decide +kernel
theorem dX6_blame_21 : decode cX6_blame 21 = .ok (.invokevirtual 111, 3) := by decide +kernel
theorem dX6_blame_24 : decode cX6_blame 24 = .ok (.iconst 1, 1) := by decide +kernel
theorem dX6_blame_25 : decode cX6_blame 25 = .ok (.isub, 1) := by decide +kernel
theorem dX6_blame_26 : decode cX6_blame 26 = .ok (.invokevirtual 130, 3) := by decide +kernel
theorem dX6_blame_29 : decode cX6_blame 29 = .ok (.lstore 4, 2) := by decide +kernel
theorem dX6_blame_31 : decode cX6_blame 31 = .ok (.iconst 0, 1) := by decide +kernel
theorem dX6_blame_32 : decode cX6_blame 32 = .ok (.istore 6, 2) := by decide +kernel
theorem dX6_blame_34 : decode cX6_blame 34 = .ok (.iconst 0, 1) := by decide +kernel
theorem dX6_blame_35 : decode cX6_blame 35 = .ok (.istore 7, 2) := by decide +kernel
theorem dX6_blame_37 : decode cX6_blame 37 = .ok (.iload 7, 2) := by decide +kernel
theorem dX6_blame_39 : decode cX6_blame 39 = .ok (.aload_n 0, 1) := by decide +kernel
theorem dX6_blame_40 : decode cX6_blame 40 = .ok (.getfield 10, 3) := by decide +kernel
theorem dX6_blame_43 : decode cX6_blame 43 = .ok (.invokevirtual 111, 3) := by decide +kernel
theorem dX6_blame_46 : decode cX6_blame 46 = .ok (.bipush 8, 2) := by decide +kernel
theorem dX6_blame_48 : decode cX6_blame 48 = .ok (.imul, 1) := by decide +kernel
theorem dX6_blame_49 : decode cX6_blame 49 = .ok (.if_icmp .ge 106, 3) := by decide +kernel
theorem dX6_blame_52 : decode cX6_blame 52 = .ok (.iload 7, 2) := by decide +kernel
theorem dX6_blame_54 : decode cX6_blame 54 = .ok (.bipush 8, 2) := by decide +kernel
theorem dX6_blame_56 : decode cX6_blame 56 = .ok (.idiv, 1) := by decide +kernel
theorem dX6_blame_57 : decode cX6_blame 57 = .ok (.istore 8, 2) := by decide +kernel
theorem dX6_blame_59 : decode cX6_blame 59 = .ok (.iload 7, 2) := by decide +kernel
theorem dX6_blame_61 : decode cX6_blame 61 = .ok (.bipush 8, 2) := by decide +kernel
theorem dX6_blame_63 : decode cX6_blame 63 = .ok (.irem, 1) := by decide +kernel
theorem dX6_blame_64 : decode cX6_blame 64 = .ok (.iconst 2, 1) := by decide +kernel
theorem dX6_blame_65 : decode cX6_blame 65 = .ok (.idiv, 1) := by decide +kernel
theorem dX6_blame_66 : decode cX6_blame 66 = .ok (.istore 9, 2) := by decide +kernel
theorem dX6_blame_68 : decode cX6_blame 68 = .ok (.iload 7, 2) := by decide +kernel
theorem dX6_blame_70 : decode cX6_blame 70 = .ok (.iconst 2, 1) := by decide +kernel
theorem dX6_blame_71 : decode cX6_blame 71 = .ok (.irem, 1) := by decide +kernel
theorem dX6_blame_72 : decode cX6_blame 72 = .ok (.istore 10, 2) := by decide +kernel
theorem dX6_blame_74 : decode cX6_blame 74 = .ok (.aload_n 0, 1) := by decide +kernel
theorem dX6_blame_75 : decode cX6_blame 75 = .ok (.getfield 10, 3) := by decide +kernel
theorem dX6_blame_78 : decode cX6_blame 78 = .ok (.iload 8, 2) := by decide +kernel
theorem dX6_blame_80 : decode cX6_blame 80 = .ok (.iload 9, 2) := by decide +kernel
theorem dX6_blame_82 : decode cX6_blame 82 = .ok (.iload 10, 2) := by decide +kernel
theorem dX6_blame_84 : decode cX6_blame 84 = .ok (.invokevirtual 136, 3) := by decide +kernel
theorem dX6_blame_87 : decode cX6_blame 87 = .ok (.lstore 11, 2) := by decide +kernel
theorem dX6_blame_89 : decode cX6_blame 89 = .ok (.lload 11, 2) := by decide +kernel
theorem dX6_blame_91 : decode cX6_blame 91 = .ok (.ldc2_w 140, 3) := by decide +kernel
theorem dX6_blame_94 : decode cX6_blame 94 = .ok (.lcmp, 1) := by decide +kernel
theorem dX6_blame_95 : decode cX6_blame 95 = .ok (.ifCond .eq 54, 3) := by decide +kernel
theorem dX6_blame_98 : decode cX6_blame 98 = .ok (.lload_n 1, 1) := by decide +kernel
theorem dX6_blame_99 : decode cX6_blame 99 = .ok (.lload 4, 2) := by decide +kernel
theorem dX6_blame_101 : decode cX6_blame 101 = .ok (.lcmp, 1) := by decide +kernel
theorem dX6_blame_102 : decode cX6_blame 102 = .ok (.ifCond .eq 47, 3) := by decide +kernel
theorem dX6_blame_105 : decode cX6_blame 105 = .ok (.lload 4, 2) := by decide +kernel
theorem dX6_blame_107 : decode cX6_blame 107 = .ok (.aload_n 0, 1) := by decide +kernel
theorem dX6_blame_108 : decode cX6_blame 108 = .ok (.getfield 10, 3) := by decide +kernel
theorem dX6_blame_111 : decode cX6_blame 111 = .ok (.iload 8, 2) := by decide +kernel
theorem dX6_blame_113 : decode cX6_blame 113 = .ok (.invokevirtual 142, 3) := by decide +kernel
theorem dX6_blame_116 : decode cX6_blame 116 = .ok (.lsub, 1) := by decide +kernel
theorem dX6_blame_117 : decode cX6_blame 117 = .ok (.lload 11, 2) := by decide +kernel
theorem dX6_blame_119 : decode cX6_blame 119 = .ok (.ladd, 1) := by decide +kernel
theorem dX6_blame_120 : decode cX6_blame 120 = .ok (.lload_n 1, 1) := by decide +kernel
theorem dX6_blame_121 : decode cX6_blame 121 = .ok (.lcmp, 1) := by decide +kernel
theorem dX6_blame_122 : decode cX6_blame 122 = .ok (.ifCond .ne 27, 3) := by decide +kernel
theorem dX6_blame_125 : decode cX6_blame 125 = .ok (.iload 6, 2) := by decide +kernel
theorem dX6_blame_127 : decode cX6_blame 127 = .ok (.iload_n 3, 1) := by decide +kernel
theorem dX6_blame_128 : decode cX6_blame 128 = .ok (.if_icmp .ne 18, 3) := by decide +kernel
theorem dX6_blame_131 : decode cX6_blame 131 = .ok (.bipush 100, 2) := by decide +kernel
theorem dX6_blame_133 : decode cX6_blame 133 = .ok (.iload 8, 2) := by decide +kernel
theorem dX6_blame_135 : decode cX6_blame 135 = .ok (.imul, 1) := by decide +kernel
theorem dX6_blame_136 : decode cX6_blame 136 = .ok (.bipush 10, 2) := by decide +kernel
theorem dX6_blame_138 : decode cX6_blame 138 = .ok (.iload 9, 2) := by decide +kernel
theorem dX6_blame_140 : decode cX6_blame 140 = .ok (.imul, 1) := by decide +kernel
theorem dX6_blame_141 : decode cX6_blame 141 = .ok (.iadd, 1) := by decide +kernel
theorem dX6_blame_142 : decode cX6_blame 142 = .ok (.iload 10, 2) := by decide +kernel
theorem dX6_blame_144 : decode cX6_blame 144 = .ok (.iadd, 1) := by decide +kernel
theorem dX6_blame_145 : decode cX6_blame 145 = .ok (.ireturn, 1) := by decide +kernel
theorem dX6_blame_146 : decode cX6_blame 146 = .ok (.iinc 6 1, 3) := by decide +kernel
theorem dX6_blame_149 : decode cX6_blame 149 = .ok (.iinc 7 1, 3) := by decide +kernel
theorem dX6_blame_152 : decode cX6_blame 152 = .ok (.goto (-115), 3) := by decide +kernel
theorem dX6_blame_155 : decode cX6_blame 155 = .ok (.iload_n 3, 1) := by decide +kernel
theorem dX6_blame_156 : decode cX6_blame 156 = .ok (.iconst (-1), 1) := by decide +kernel
theorem dX6_blame_157 : decode cX6_blame 157 = .ok (.if_icmp .ne 8, 3) := by decide +kernel
theorem dX6_blame_160 : decode cX6_blame 160 = .ok (.iload 6, 2) := by decide +kernel
theorem dX6_blame_162 : decode cX6_blame 162 = .ok (.goto 5, 3) := by decide +kernel
theorem dX6_blame_165 : decode cX6_blame 165 = .ok (.bipush (-6), 2) := by decide +kernel
theorem dX6_blame_167 : decode cX6_blame 167 = .ok (.ireturn, 1) := by decide +kernel
set_option maxRecDepth 20000 in
theorem ggX6_tablet_X6_clayOf : GoodIn wsX6_tablet wsX6_clayOf := goodIn_r _ [5, 6, 15, 16, 17, 18, 19] (by decide +kernel) (by decide +kernel)
set_option maxRecDepth 20000 in
theorem gX6_tablet_X6_clayOf : GoodIn wsX6_tablet (wsV RX6 145 RX6 yX6_clayOf wsX6_clayOf) := goodIn_app (goodIn_of _ (by decide +kernel)) ggX6_tablet_X6_clayOf
set_option maxRecDepth 20000 in
theorem ggX6_tablet_X3_smooth : GoodIn wsX6_tablet wsX3_smooth := goodIn_r _ [11, 12, 13, 14, 20, 21, 22] (by decide +kernel) (by decide +kernel)
set_option maxRecDepth 20000 in
theorem gX6_tablet_X3_smooth : GoodIn wsX6_tablet (wsV RX6 149 RX3 yX3_smooth wsX3_smooth) := goodIn_app (goodIn_of _ (by decide +kernel)) ggX6_tablet_X3_smooth
theorem dX6_tablet_0 : decode cX6_tablet 0 = .ok (.aload_n 0, 1) := by decide +kernel
theorem dX6_tablet_1 : decode cX6_tablet 1 = .ok (.iload_n 1, 1) := by decide +kernel
theorem dX6_tablet_2 : decode cX6_tablet 2 = .ok (.invokevirtual 145, 3) := by decide +kernel
theorem dX6_tablet_5 : decode cX6_tablet 5 = .ok (.astore_n 3, 1) := by decide +kernel
theorem dX6_tablet_6 : decode cX6_tablet 6 = .ok (.aload_n 3, 1) := by decide +kernel
theorem dX6_tablet_7 : decode cX6_tablet 7 = .ok (.ifnonnull 5, 3) := by decide +kernel
theorem dX6_tablet_10 : decode cX6_tablet 10 = .ok (.iconst (-1), 1) := by decide +kernel
theorem dX6_tablet_11 : decode cX6_tablet 11 = .ok (.ireturn, 1) := by decide +kernel
theorem dX6_tablet_12 : decode cX6_tablet 12 = .ok (.iload_n 2, 1) := by decide +kernel
theorem dX6_tablet_13 : decode cX6_tablet 13 = .ok (.iconst 1, 1) := by decide +kernel
theorem dX6_tablet_14 : decode cX6_tablet 14 = .ok (.if_icmp .lt 9, 3) := by decide +kernel
theorem dX6_tablet_17 : decode cX6_tablet 17 = .ok (.iload_n 2, 1) := by decide +kernel
theorem dX6_tablet_18 : decode cX6_tablet 18 = .ok (.bipush 8, 2) := by decide +kernel
theorem dX6_tablet_20 : decode cX6_tablet 20 = .ok (.if_icmp .le 6, 3) := by decide +kernel
theorem dX6_tablet_23 : decode cX6_tablet 23 = .ok (.bipush (-2), 2) := by decide +kernel
theorem dX6_tablet_25 : decode cX6_tablet 25 = .ok (.ireturn, 1) := by decide +kernel
theorem dX6_tablet_26 : decode cX6_tablet 26 = .ok (.aload_n 3, 1) := by decide +kernel
theorem dX6_tablet_27 : decode cX6_tablet 27 = .ok (.iload_n 2, 1) := by decide +kernel
theorem dX6_tablet_28 : decode cX6_tablet 28 = .ok (.invokevirtual 149, 3) := by decide +kernel
theorem dX6_tablet_31 : decode cX6_tablet 31 = .ok (.iconst 1, 1) := by decide +kernel
theorem dX6_tablet_32 : decode cX6_tablet 32 = .ok (.ireturn, 1) := by decide +kernel
set_option maxRecDepth 20000 in
theorem ggX6_press_X6_clayOf : GoodIn wsX6_press wsX6_clayOf := goodIn_r _ [6, 7, 29, 30, 31, 32, 33] (by decide +kernel) (by decide +kernel)
set_option maxRecDepth 20000 in
theorem gX6_press_X6_clayOf : GoodIn wsX6_press (wsV RX6 145 RX6 yX6_clayOf wsX6_clayOf) := goodIn_app (goodIn_of _ (by decide +kernel)) ggX6_press_X6_clayOf
set_option maxRecDepth 20000 in
theorem ggX6_press_X3_hasCell : GoodIn wsX6_press wsX3_hasCell := goodIn_r _ [12, 13, 34, 35, 36] (by decide +kernel) (by decide +kernel)
set_option maxRecDepth 20000 in
theorem gX6_press_X3_hasCell : GoodIn wsX6_press (wsV RX6 153 RX3 yX3_hasCell wsX3_hasCell) := goodIn_app (goodIn_of _ (by decide +kernel)) ggX6_press_X3_hasCell
set_option maxRecDepth 20000 in
theorem ggX6_press_X3_held : GoodIn wsX6_press wsX3_held := goodIn_r _ [17, 18, 34, 35, 36] (by decide +kernel) (by decide +kernel)
set_option maxRecDepth 20000 in
theorem gX6_press_X3_held : GoodIn wsX6_press (wsV RX6 158 RX3 yX3_held wsX3_held) := goodIn_app (goodIn_of _ (by decide +kernel)) ggX6_press_X3_held
set_option maxRecDepth 20000 in
theorem ggX6_press_X3_hold : GoodIn wsX6_press wsX3_hold := goodIn_r _ [22, 18, 23, 24, 25, 26, 27, 28, 34, 35, 36] (by decide +kernel) (by decide +kernel)
set_option maxRecDepth 20000 in
theorem gX6_press_X3_hold : GoodIn wsX6_press (wsV RX6 162 RX3 yX3_hold wsX3_hold) := goodIn_app (goodIn_of _ (by decide +kernel)) ggX6_press_X3_hold
theorem dX6_press_0 : decode cX6_press 0 = .ok (.aload_n 0, 1) := by decide +kernel
theorem dX6_press_1 : decode cX6_press 1 = .ok (.iload_n 1, 1) := by decide +kernel
theorem dX6_press_2 : decode cX6_press 2 = .ok (.invokevirtual 145, 3) := by decide +kernel
theorem dX6_press_5 : decode cX6_press 5 = .ok (.astore 5, 2) := by decide +kernel
theorem dX6_press_7 : decode cX6_press 7 = .ok (.aload 5, 2) := by decide +kernel
theorem dX6_press_9 : decode cX6_press 9 = .ok (.ifnull 13, 3) := by decide +kernel
theorem dX6_press_12 : decode cX6_press 12 = .ok (.aload 5, 2) := by decide +kernel
theorem dX6_press_14 : decode cX6_press 14 = .ok (.iload_n 2, 1) := by decide +kernel
theorem dX6_press_15 : decode cX6_press 15 = .ok (.iload_n 3, 1) := by decide +kernel
theorem dX6_press_16 : decode cX6_press 16 = .ok (.invokevirtual 153, 3) := by decide +kernel
theorem dX6_press_19 : decode cX6_press 19 = .ok (.ifCond .ne 5, 3) := by decide +kernel
theorem dX6_press_22 : decode cX6_press 22 = .ok (.iconst (-1), 1) := by decide +kernel
theorem dX6_press_23 : decode cX6_press 23 = .ok (.ireturn, 1) := by decide +kernel
theorem dX6_press_24 : decode cX6_press 24 = .ok (.iload 4, 2) := by decide +kernel
theorem dX6_press_26 : decode cX6_press 26 = .ok (.ifCond .lt 10, 3) := by decide +kernel
theorem dX6_press_29 : decode cX6_press 29 = .ok (.iload 4, 2) := by decide +kernel
theorem dX6_press_31 : decode cX6_press 31 = .ok (.ldc 157, 2) := by decide +kernel
theorem dX6_press_33 : decode cX6_press 33 = .ok (.if_icmp .le 6, 3) := by decide +kernel
theorem dX6_press_36 : decode cX6_press 36 = .ok (.bipush (-2), 2) := by decide +kernel
theorem dX6_press_38 : decode cX6_press 38 = .ok (.ireturn, 1) := by decide +kernel
theorem dX6_press_39 : decode cX6_press 39 = .ok (.aload 5, 2) := by decide +kernel
theorem dX6_press_41 : decode cX6_press 41 = .ok (.iload_n 2, 1) := by decide +kernel
theorem dX6_press_42 : decode cX6_press 42 = .ok (.iload_n 3, 1) := by decide +kernel
theorem dX6_press_43 : decode cX6_press 43 = .ok (.invokevirtual 158, 3) := by decide +kernel
theorem dX6_press_46 : decode cX6_press 46 = .ok (.istore 6, 2) := by decide +kernel
theorem dX6_press_48 : decode cX6_press 48 = .ok (.aload 5, 2) := by decide +kernel
theorem dX6_press_50 : decode cX6_press 50 = .ok (.iload_n 2, 1) := by decide +kernel
theorem dX6_press_51 : decode cX6_press 51 = .ok (.iload_n 3, 1) := by decide +kernel
theorem dX6_press_52 : decode cX6_press 52 = .ok (.iload 4, 2) := by decide +kernel
theorem dX6_press_54 : decode cX6_press 54 = .ok (.invokevirtual 162, 3) := by decide +kernel
theorem dX6_press_57 : decode cX6_press 57 = .ok (.iload 6, 2) := by decide +kernel
theorem dX6_press_59 : decode cX6_press 59 = .ok (.ireturn, 1) := by decide +kernel
set_option maxRecDepth 20000 in
theorem ggX6_cell_X6_clayOf : GoodIn wsX6_cell wsX6_clayOf := goodIn_r _ [5, 6, 18, 19, 20, 21, 22] (by decide +kernel) (by decide +kernel)
set_option maxRecDepth 20000 in
theorem gX6_cell_X6_clayOf : GoodIn wsX6_cell (wsV RX6 145 RX6 yX6_clayOf wsX6_clayOf) := goodIn_app (goodIn_of _ (by decide +kernel)) ggX6_cell_X6_clayOf
set_option maxRecDepth 20000 in
theorem ggX6_cell_X3_hasCell : GoodIn wsX6_cell wsX3_hasCell := goodIn_r _ [11, 12, 23, 24, 25] (by decide +kernel) (by decide +kernel)
set_option maxRecDepth 20000 in
theorem gX6_cell_X3_hasCell : GoodIn wsX6_cell (wsV RX6 153 RX3 yX3_hasCell wsX3_hasCell) := goodIn_app (goodIn_of _ (by decide +kernel)) ggX6_cell_X3_hasCell
set_option maxRecDepth 20000 in
theorem ggX6_cell_X3_held : GoodIn wsX6_cell wsX3_held := goodIn_r _ [16, 17, 23, 24, 25] (by decide +kernel) (by decide +kernel)
set_option maxRecDepth 20000 in
theorem gX6_cell_X3_held : GoodIn wsX6_cell (wsV RX6 158 RX3 yX3_held wsX3_held) := goodIn_app (goodIn_of _ (by decide +kernel)) ggX6_cell_X3_held
theorem dX6_cell_0 : decode cX6_cell 0 = .ok (.aload_n 0, 1) := by decide +kernel
theorem dX6_cell_1 : decode cX6_cell 1 = .ok (.iload_n 1, 1) := by decide +kernel
theorem dX6_cell_2 : decode cX6_cell 2 = .ok (.invokevirtual 145, 3) := by decide +kernel
theorem dX6_cell_5 : decode cX6_cell 5 = .ok (.astore 4, 2) := by decide +kernel
theorem dX6_cell_7 : decode cX6_cell 7 = .ok (.aload 4, 2) := by decide +kernel
theorem dX6_cell_9 : decode cX6_cell 9 = .ok (.ifnull 23, 3) := by decide +kernel
theorem dX6_cell_12 : decode cX6_cell 12 = .ok (.aload 4, 2) := by decide +kernel
theorem dX6_cell_14 : decode cX6_cell 14 = .ok (.iload_n 2, 1) := by decide +kernel
theorem dX6_cell_15 : decode cX6_cell 15 = .ok (.iload_n 3, 1) := by decide +kernel
theorem dX6_cell_16 : decode cX6_cell 16 = .ok (.invokevirtual 153, 3) := by decide +kernel
theorem dX6_cell_19 : decode cX6_cell 19 = .ok (.ifCond .eq 13, 3) := by decide +kernel
theorem dX6_cell_22 : decode cX6_cell 22 = .ok (.aload 4, 2) := by decide +kernel
theorem dX6_cell_24 : decode cX6_cell 24 = .ok (.iload_n 2, 1) := by decide +kernel
theorem dX6_cell_25 : decode cX6_cell 25 = .ok (.iload_n 3, 1) := by decide +kernel
theorem dX6_cell_26 : decode cX6_cell 26 = .ok (.invokevirtual 158, 3) := by decide +kernel
theorem dX6_cell_29 : decode cX6_cell 29 = .ok (.goto 4, 3) := by decide +kernel
theorem dX6_cell_32 : decode cX6_cell 32 = .ok (.iconst (-1), 1) := by decide +kernel
theorem dX6_cell_33 : decode cX6_cell 33 = .ok (.ireturn, 1) := by decide +kernel
set_option maxRecDepth 20000 in
theorem ggX6_copy_X6_clayOf : GoodIn wsX6_copy wsX6_clayOf := goodIn_r _ [5, 6, 46, 47, 48, 49, 50] (by decide +kernel) (by decide +kernel)
set_option maxRecDepth 20000 in
theorem gX6_copy_X6_clayOf : GoodIn wsX6_copy (wsV RX6 145 RX6 yX6_clayOf wsX6_clayOf) := goodIn_app (goodIn_of _ (by decide +kernel)) ggX6_copy_X6_clayOf
set_option maxRecDepth 20000 in
theorem ggX6_copy_X2_isTable : GoodIn wsX6_copy wsX2_isTable := goodIn_r _ [10] (by decide +kernel) (by decide +kernel)
set_option maxRecDepth 20000 in
theorem gX6_copy_X2_isTable : GoodIn wsX6_copy (va_wsS RX6 166 yX2_isTable wsX2_isTable) := goodIn_app (goodIn_of _ (by decide +kernel)) ggX6_copy_X2_isTable
set_option maxRecDepth 20000 in
theorem ggX6_copy_X2_rowsOf : GoodIn wsX6_copy wsX2_rowsOf := goodIn_r _ [13, 14, 15, 16, 17, 18] (by decide +kernel) (by decide +kernel)
set_option maxRecDepth 20000 in
theorem gX6_copy_X2_rowsOf : GoodIn wsX6_copy (va_wsS RX6 171 yX2_rowsOf wsX2_rowsOf) := goodIn_app (goodIn_of _ (by decide +kernel)) ggX6_copy_X2_rowsOf
set_option maxRecDepth 20000 in
theorem ggX6_copy_X3_smooth : GoodIn wsX6_copy wsX3_smooth := goodIn_r _ [23, 24, 25, 26, 51, 52, 53] (by decide +kernel) (by decide +kernel)
set_option maxRecDepth 20000 in
theorem gX6_copy_X3_smooth : GoodIn wsX6_copy (wsV RX6 149 RX3 yX3_smooth wsX3_smooth) := goodIn_app (goodIn_of _ (by decide +kernel)) ggX6_copy_X3_smooth
set_option maxRecDepth 20000 in
theorem ggX6_copy_X2_number : GoodIn wsX6_copy wsX2_number := goodIn_r _ [29, 30, 31, 16, 32, 18, 33, 34, 35, 36] (by decide +kernel) (by decide +kernel)
set_option maxRecDepth 20000 in
theorem gX6_copy_X2_number : GoodIn wsX6_copy (va_wsS RX6 174 yX2_number wsX2_number) := goodIn_app (goodIn_of _ (by decide +kernel)) ggX6_copy_X2_number
set_option maxRecDepth 20000 in
theorem ggX6_copy_X3_hold : GoodIn wsX6_copy wsX3_hold := goodIn_r _ [40, 25, 26, 41, 42, 43, 44, 45, 51, 52, 53] (by decide +kernel) (by decide +kernel)
set_option maxRecDepth 20000 in
theorem gX6_copy_X3_hold : GoodIn wsX6_copy (wsV RX6 162 RX3 yX3_hold wsX3_hold) := goodIn_app (goodIn_of _ (by decide +kernel)) ggX6_copy_X3_hold
theorem dX6_copy_0 : decode cX6_copy 0 = .ok (.aload_n 0, 1) := by decide +kernel
theorem dX6_copy_1 : decode cX6_copy 1 = .ok (.iload_n 1, 1) := by decide +kernel
theorem dX6_copy_2 : decode cX6_copy 2 = .ok (.invokevirtual 145, 3) := by decide +kernel
theorem dX6_copy_5 : decode cX6_copy 5 = .ok (.astore 6, 2) := by decide +kernel
theorem dX6_copy_7 : decode cX6_copy 7 = .ok (.aload 6, 2) := by decide +kernel
theorem dX6_copy_9 : decode cX6_copy 9 = .ok (.ifnonnull 5, 3) := by decide +kernel
theorem dX6_copy_12 : decode cX6_copy 12 = .ok (.iconst (-1), 1) := by decide +kernel
theorem dX6_copy_13 : decode cX6_copy 13 = .ok (.ireturn, 1) := by decide +kernel
theorem dX6_copy_14 : decode cX6_copy 14 = .ok (.iload_n 2, 1) := by decide +kernel
theorem dX6_copy_15 : decode cX6_copy 15 = .ok (.iload_n 3, 1) := by decide +kernel
theorem dX6_copy_16 : decode cX6_copy 16 = .ok (.invokestatic 166, 3) := by decide +kernel
theorem dX6_copy_19 : decode cX6_copy 19 = .ok (.ifCond .eq 16, 3) := by decide +kernel
theorem dX6_copy_22 : decode cX6_copy 22 = .ok (.iload 5, 2) := by decide +kernel
theorem dX6_copy_24 : decode cX6_copy 24 = .ok (.iconst 1, 1) := by decide +kernel
theorem dX6_copy_25 : decode cX6_copy 25 = .ok (.if_icmp .lt 10, 3) := by decide +kernel
theorem dX6_copy_28 : decode cX6_copy 28 = .ok (.iload 5, 2) := by decide +kernel
theorem dX6_copy_30 : decode cX6_copy 30 = .ok (.bipush 8, 2) := by decide +kernel
theorem dX6_copy_32 : decode cX6_copy 32 = .ok (.if_icmp .le 6, 3) := by decide +kernel
theorem dX6_copy_35 : decode cX6_copy 35 = .ok (.bipush (-2), 2) := by decide +kernel
theorem dX6_copy_37 : decode cX6_copy 37 = .ok (.ireturn, 1) := by decide +kernel
theorem dX6_copy_38 : decode cX6_copy 38 = .ok (.iload 4, 2) := by decide +kernel
theorem dX6_copy_40 : decode cX6_copy 40 = .ok (.ifCond .lt 15, 3) := by decide +kernel
theorem dX6_copy_43 : decode cX6_copy 43 = .ok (.iload 4, 2) := by decide +kernel
theorem dX6_copy_45 : decode cX6_copy 45 = .ok (.iload_n 2, 1) := by decide +kernel
theorem dX6_copy_46 : decode cX6_copy 46 = .ok (.invokestatic 171, 3) := by decide +kernel
theorem dX6_copy_49 : decode cX6_copy 49 = .ok (.iload 5, 2) := by decide +kernel
theorem dX6_copy_51 : decode cX6_copy 51 = .ok (.isub, 1) := by decide +kernel
theorem dX6_copy_52 : decode cX6_copy 52 = .ok (.if_icmp .le 6, 3) := by decide +kernel
theorem dX6_copy_55 : decode cX6_copy 55 = .ok (.bipush (-5), 2) := by decide +kernel
theorem dX6_copy_57 : decode cX6_copy 57 = .ok (.ireturn, 1) := by decide +kernel
theorem dX6_copy_58 : decode cX6_copy 58 = .ok (.aload 6, 2) := by decide +kernel
theorem dX6_copy_60 : decode cX6_copy 60 = .ok (.iload 5, 2) := by decide +kernel
theorem dX6_copy_62 : decode cX6_copy 62 = .ok (.invokevirtual 149, 3) := by decide +kernel
theorem dX6_copy_65 : decode cX6_copy 65 = .ok (.iconst 0, 1) := by decide +kernel
theorem dX6_copy_66 : decode cX6_copy 66 = .ok (.istore 7, 2) := by decide +kernel
theorem dX6_copy_68 : decode cX6_copy 68 = .ok (.iload 7, 2) := by decide +kernel
theorem dX6_copy_70 : decode cX6_copy 70 = .ok (.iload 5, 2) := by decide +kernel
theorem dX6_copy_72 : decode cX6_copy 72 = .ok (.if_icmp .ge 45, 3) := by decide +kernel
theorem dX6_copy_75 : decode cX6_copy 75 = .ok (.iconst 0, 1) := by decide +kernel
theorem dX6_copy_76 : decode cX6_copy 76 = .ok (.istore 8, 2) := by decide +kernel
theorem dX6_copy_78 : decode cX6_copy 78 = .ok (.iload 8, 2) := by decide +kernel
theorem dX6_copy_80 : decode cX6_copy 80 = .ok (.iconst 3, 1) := by decide +kernel
theorem dX6_copy_81 : decode cX6_copy 81 = .ok (.if_icmp .ge 30, 3) := by decide +kernel
theorem dX6_copy_84 : decode cX6_copy 84 = .ok (.aload 6, 2) := by decide +kernel
theorem dX6_copy_86 : decode cX6_copy 86 = .ok (.iload 7, 2) := by decide +kernel
theorem dX6_copy_88 : decode cX6_copy 88 = .ok (.iload 8, 2) := by decide +kernel
theorem dX6_copy_90 : decode cX6_copy 90 = .ok (.iload_n 2, 1) := by decide +kernel
theorem dX6_copy_91 : decode cX6_copy 91 = .ok (.iload_n 3, 1) := by decide +kernel
theorem dX6_copy_92 : decode cX6_copy 92 = .ok (.iload 4, 2) := by decide +kernel
theorem dX6_copy_94 : decode cX6_copy 94 = .ok (.iload 7, 2) := by decide +kernel
theorem dX6_copy_96 : decode cX6_copy 96 = .ok (.iadd, 1) := by decide +kernel
theorem dX6_copy_97 : decode cX6_copy 97 = .ok (.iload 8, 2) := by decide +kernel
theorem dX6_copy_99 : decode cX6_copy 99 = .ok (.invokestatic 174, 3) := by decide +kernel
theorem dX6_copy_102 : decode cX6_copy 102 = .ok (.invokevirtual 162, 3) := by decide +kernel
theorem dX6_copy_105 : decode cX6_copy 105 = .ok (.iinc 8 1, 3) := by decide +kernel
theorem dX6_copy_108 : decode cX6_copy 108 = .ok (.goto (-30), 3) := by decide +kernel
theorem dX6_copy_111 : decode cX6_copy 111 = .ok (.iinc 7 1, 3) := by decide +kernel
theorem dX6_copy_114 : decode cX6_copy 114 = .ok (.goto (-46), 3) := by decide +kernel
theorem dX6_copy_117 : decode cX6_copy 117 = .ok (.iload 5, 2) := by decide +kernel
theorem dX6_copy_119 : decode cX6_copy 119 = .ok (.ireturn, 1) := by decide +kernel
set_option maxRecDepth 20000 in
theorem ggX6_reading_X6_clayOf : GoodIn wsX6_reading wsX6_clayOf := goodIn_r _ [6, 7, 81, 82, 83, 84, 85] (by decide +kernel) (by decide +kernel)
set_option maxRecDepth 20000 in
theorem gX6_reading_X6_clayOf : GoodIn wsX6_reading (wsV RX6 145 RX6 yX6_clayOf wsX6_clayOf) := goodIn_app (goodIn_of _ (by decide +kernel)) ggX6_reading_X6_clayOf
set_option maxRecDepth 20000 in
theorem ggX6_reading_X0_begin : GoodIn wsX6_reading wsX0_begin := goodIn_r _ [12, 13, 14, 15, 16, 17, 18, 19, 20, 21, 22, 23, 24, 25, 26, 27, 28, 29, 30, 31, 32, 33, 34, 35, 36, 86, 87, 88, 89, 90, 91, 92, 93, 94, 95, 96, 97] (by decide +kernel) (by decide +kernel)
set_option maxRecDepth 20000 in
theorem gX6_reading_X0_begin : GoodIn wsX6_reading (wsV RX6 178 RX0 yX0_begin wsX0_begin) := goodIn_app (goodIn_of _ (by decide +kernel)) ggX6_reading_X0_begin
set_option maxRecDepth 20000 in
theorem ggX6_reading_X0_nextReading : GoodIn wsX6_reading wsX0_nextReading := goodIn_r _ [40, 41, 42, 43, 11, 44, 15, 16, 13, 14, 45, 46, 47, 48, 49, 50, 51, 52, 53, 54, 55, 56, 57, 17, 18, 20, 19, 58, 59, 60, 61, 62, 63, 64, 65, 66, 67, 68, 69, 70, 71, 72, 73, 74, 75, 76, 86, 87, 88, 89, 90, 91, 92, 93, 94] (by decide +kernel) (by decide +kernel)
set_option maxRecDepth 20000 in
theorem gX6_reading_X0_nextReading : GoodIn wsX6_reading (wsV RX6 181 RX0 yX0_nextReading wsX0_nextReading) := goodIn_app (goodIn_of _ (by decide +kernel)) ggX6_reading_X0_nextReading
set_option maxRecDepth 20000 in
theorem ggX6_reading_X0_code : GoodIn wsX6_reading wsX0_code := goodIn_r _ [80, 13, 14, 15, 86, 87, 88, 89, 90, 91, 92, 93, 94] (by decide +kernel) (by decide +kernel)
set_option maxRecDepth 20000 in
theorem gX6_reading_X0_code : GoodIn wsX6_reading (wsV RX6 185 RX0 yX0_code wsX0_code) := goodIn_app (goodIn_of _ (by decide +kernel)) ggX6_reading_X0_code
theorem dX6_reading_0 : decode cX6_reading 0 = .ok (.aload_n 0, 1) := by decide +kernel
theorem dX6_reading_1 : decode cX6_reading 1 = .ok (.iload_n 1, 1) := by decide +kernel
theorem dX6_reading_2 : decode cX6_reading 2 = .ok (.invokevirtual 145, 3) := by decide +kernel
theorem dX6_reading_5 : decode cX6_reading 5 = .ok (.astore_n 3, 1) := by decide +kernel
theorem dX6_reading_6 : decode cX6_reading 6 = .ok (.aload_n 3, 1) := by decide +kernel
theorem dX6_reading_7 : decode cX6_reading 7 = .ok (.ifnonnull 5, 3) := by decide +kernel
theorem dX6_reading_10 : decode cX6_reading 10 = .ok (.iconst (-1), 1) := by decide +kernel
theorem dX6_reading_11 : decode cX6_reading 11 = .ok (.ireturn, 1) := by decide +kernel
theorem dX6_reading_12 : decode cX6_reading 12 = .ok (.iconst 0, 1) := by decide +kernel
theorem dX6_reading_13 : decode cX6_reading 13 = .ok (.istore 4, 2) := by decide +kernel
theorem dX6_reading_15 : decode cX6_reading 15 = .ok (.aload_n 0, 1) := by decide +kernel
theorem dX6_reading_16 : decode cX6_reading 16 = .ok (.getfield 19, 3) := by decide +kernel
theorem dX6_reading_19 : decode cX6_reading 19 = .ok (.aload_n 3, 1) := by decide +kernel
theorem dX6_reading_20 : decode cX6_reading 20 = .ok (.invokevirtual 178, 3) := by decide +kernel
theorem dX6_reading_23 : decode cX6_reading 23 = .ok (.iconst 0, 1) := by decide +kernel
theorem dX6_reading_24 : decode cX6_reading 24 = .ok (.istore 5, 2) := by decide +kernel
theorem dX6_reading_26 : decode cX6_reading 26 = .ok (.iload 5, 2) := by decide +kernel
theorem dX6_reading_28 : decode cX6_reading 28 = .ok (.sipush 4000, 3) := by decide +kernel
theorem dX6_reading_31 : decode cX6_reading 31 = .ok (.if_icmp .ge 36, 3) := by decide +kernel
theorem dX6_reading_34 : decode cX6_reading 34 = .ok (.aload_n 0, 1) := by decide +kernel
theorem dX6_reading_35 : decode cX6_reading 35 = .ok (.getfield 19, 3) := by decide +kernel
theorem dX6_reading_38 : decode cX6_reading 38 = .ok (.invokevirtual 181, 3) := by decide +kernel
theorem dX6_reading_41 : decode cX6_reading 41 = .ok (.ifCond .eq 26, 3) := by decide +kernel
theorem dX6_reading_44 : decode cX6_reading 44 = .ok (.iload 4, 2) := by decide +kernel
theorem dX6_reading_46 : decode cX6_reading 46 = .ok (.iload_n 2, 1) := by decide +kernel
theorem dX6_reading_47 : decode cX6_reading 47 = .ok (.if_icmp .ne 11, 3) := by decide +kernel
theorem dX6_reading_50 : decode cX6_reading 50 = .ok (.aload_n 0, 1) := by decide +kernel
theorem dX6_reading_51 : decode cX6_reading 51 = .ok (.getfield 19, 3) := by decide +kernel
theorem dX6_reading_54 : decode cX6_reading 54 = .ok (.invokevirtual 185, 3) := by decide +kernel
theorem dX6_reading_57 : decode cX6_reading 57 = .ok (.ireturn, 1) := by decide +kernel
theorem dX6_reading_58 : decode cX6_reading 58 = .ok (.iinc 4 1, 3) := by decide +kernel
theorem dX6_reading_61 : decode cX6_reading 61 = .ok (.iinc 5 1, 3) := by decide +kernel
theorem dX6_reading_64 : decode cX6_reading 64 = .ok (.goto (-38), 3) := by decide +kernel
theorem dX6_reading_67 : decode cX6_reading 67 = .ok (.iload_n 2, 1) := by decide +kernel
theorem dX6_reading_68 : decode cX6_reading 68 = .ok (.iconst (-1), 1) := by decide +kernel
theorem dX6_reading_69 : decode cX6_reading 69 = .ok (.if_icmp .ne 8, 3) := by decide +kernel
theorem dX6_reading_72 : decode cX6_reading 72 = .ok (.iload 4, 2) := by decide +kernel
theorem dX6_reading_74 : decode cX6_reading 74 = .ok (.goto 5, 3) := by decide +kernel
theorem dX6_reading_77 : decode cX6_reading 77 = .ok (.bipush (-6), 2) := by decide +kernel
theorem dX6_reading_79 : decode cX6_reading 79 = .ok (.ireturn, 1) := by decide +kernel
set_option maxRecDepth 20000 in
theorem ggX6_sure_X6_clayOf : GoodIn wsX6_sure wsX6_clayOf := goodIn_r _ [6, 7, 98, 99, 100, 101, 102] (by decide +kernel) (by decide +kernel)
set_option maxRecDepth 20000 in
theorem gX6_sure_X6_clayOf : GoodIn wsX6_sure (wsV RX6 145 RX6 yX6_clayOf wsX6_clayOf) := goodIn_app (goodIn_of _ (by decide +kernel)) ggX6_sure_X6_clayOf
set_option maxRecDepth 20000 in
theorem ggX6_sure_X3_hasCell : GoodIn wsX6_sure wsX3_hasCell := goodIn_r _ [12, 13, 103, 104, 105] (by decide +kernel) (by decide +kernel)
set_option maxRecDepth 20000 in
theorem gX6_sure_X3_hasCell : GoodIn wsX6_sure (wsV RX6 153 RX3 yX3_hasCell wsX3_hasCell) := goodIn_app (goodIn_of _ (by decide +kernel)) ggX6_sure_X3_hasCell
set_option maxRecDepth 20000 in
theorem ggX6_sure_X0_gatherSure : GoodIn wsX6_sure wsX0_gatherSure := goodIn_r _ [18, 19, 20, 21, 22, 17, 23, 24, 25, 26, 27, 28, 29, 30, 31, 32, 33, 34, 11, 35, 13, 36, 37, 38, 39, 40, 41, 42, 43, 44, 45, 46, 47, 48, 49, 50, 51, 52, 53, 54, 55, 56, 57, 58, 59, 60, 61, 62, 63, 64, 65, 66, 67, 68, 69, 70, 71, 72, 73, 74, 75, 76, 77, 78, 79, 80, 81, 82, 83, 84, 85, 86, 87, 88, 89, 90, 91, 92, 93, 106, 107, 108, 109, 110, 111, 112, 113, 114, 103, 104, 105] (by decide +kernel) (by decide +kernel)
set_option maxRecDepth 20000 in
theorem gX6_sure_X0_gatherSure : GoodIn wsX6_sure (wsV RX6 188 RX0 yX0_gatherSure wsX0_gatherSure) := goodIn_app (goodIn_of _ (by decide +kernel)) ggX6_sure_X0_gatherSure
set_option maxRecDepth 20000 in
theorem ggX6_sure_X0_sureIn : GoodIn wsX6_sure wsX0_sureIn := goodIn_r _ [97, 19, 106, 107, 108, 109, 110, 111, 112, 113, 114] (by decide +kernel) (by decide +kernel)
set_option maxRecDepth 20000 in
theorem gX6_sure_X0_sureIn : GoodIn wsX6_sure (wsV RX6 191 RX0 yX0_sureIn wsX0_sureIn) := goodIn_app (goodIn_of _ (by decide +kernel)) ggX6_sure_X0_sureIn
theorem dX6_sure_0 : decode cX6_sure 0 = .ok (.aload_n 0, 1) := by decide +kernel
theorem dX6_sure_1 : decode cX6_sure 1 = .ok (.iload_n 1, 1) := by decide +kernel
theorem dX6_sure_2 : decode cX6_sure 2 = .ok (.invokevirtual 145, 3) := by decide +kernel
theorem dX6_sure_5 : decode cX6_sure 5 = .ok (.astore 4, 2) := by decide +kernel
theorem dX6_sure_7 : decode cX6_sure 7 = .ok (.aload 4, 2) := by decide +kernel
theorem dX6_sure_9 : decode cX6_sure 9 = .ok (.ifnull 13, 3) := by decide +kernel
theorem dX6_sure_12 : decode cX6_sure 12 = .ok (.aload 4, 2) := by decide +kernel
theorem dX6_sure_14 : decode cX6_sure 14 = .ok (.iload_n 2, 1) := by decide +kernel
theorem dX6_sure_15 : decode cX6_sure 15 = .ok (.iload_n 3, 1) := by decide +kernel
theorem dX6_sure_16 : decode cX6_sure 16 = .ok (.invokevirtual 153, 3) := by decide +kernel
theorem dX6_sure_19 : decode cX6_sure 19 = .ok (.ifCond .ne 5, 3) := by decide +kernel
theorem dX6_sure_22 : decode cX6_sure 22 = .ok (.iconst (-1), 1) := by decide +kernel
theorem dX6_sure_23 : decode cX6_sure 23 = .ok (.ireturn, 1) := by decide +kernel
theorem dX6_sure_24 : decode cX6_sure 24 = .ok (.aload_n 0, 1) := by decide +kernel
theorem dX6_sure_25 : decode cX6_sure 25 = .ok (.getfield 19, 3) := by decide +kernel
theorem dX6_sure_28 : decode cX6_sure 28 = .ok (.aload 4, 2) := by decide +kernel
theorem dX6_sure_30 : decode cX6_sure 30 = .ok (.invokevirtual 188, 3) := by decide +kernel
theorem dX6_sure_33 : decode cX6_sure 33 = .ok (.aload_n 0, 1) := by decide +kernel
theorem dX6_sure_34 : decode cX6_sure 34 = .ok (.getfield 19, 3) := by decide +kernel
theorem dX6_sure_37 : decode cX6_sure 37 = .ok (.iload_n 2, 1) := by decide +kernel
theorem dX6_sure_38 : decode cX6_sure 38 = .ok (.iload_n 3, 1) := by decide +kernel
theorem dX6_sure_39 : decode cX6_sure 39 = .ok (.invokevirtual 191, 3) := by decide +kernel
theorem dX6_sure_42 : decode cX6_sure 42 = .ok (.ireturn, 1) := by decide +kernel
set_option maxRecDepth 20000 in
theorem ggX6_fill_X6_clayOf : GoodIn wsX6_fill wsX6_clayOf := goodIn_r _ [6, 7, 101, 102, 103, 104, 105] (by decide +kernel) (by decide +kernel)
set_option maxRecDepth 20000 in
theorem gX6_fill_X6_clayOf : GoodIn wsX6_fill (wsV RX6 145 RX6 yX6_clayOf wsX6_clayOf) := goodIn_app (goodIn_of _ (by decide +kernel)) ggX6_fill_X6_clayOf
set_option maxRecDepth 20000 in
theorem ggX6_fill_X0_gatherSure : GoodIn wsX6_fill wsX0_gatherSure := goodIn_r _ [12, 13, 14, 15, 16, 11, 17, 18, 19, 20, 21, 22, 23, 24, 25, 26, 27, 28, 29, 30, 31, 32, 33, 34, 35, 36, 37, 38, 39, 40, 41, 42, 43, 44, 45, 46, 47, 48, 49, 50, 51, 52, 53, 54, 55, 56, 57, 58, 59, 60, 61, 62, 63, 64, 65, 66, 67, 68, 69, 70, 71, 72, 73, 74, 75, 76, 77, 78, 79, 80, 81, 82, 83, 84, 85, 86, 87, 88, 89, 106, 107, 108, 109, 110, 111, 112, 113, 114, 115, 116, 117] (by decide +kernel) (by decide +kernel)
set_option maxRecDepth 20000 in
theorem gX6_fill_X0_gatherSure : GoodIn wsX6_fill (wsV RX6 188 RX0 yX0_gatherSure wsX0_gatherSure) := goodIn_app (goodIn_of _ (by decide +kernel)) ggX6_fill_X0_gatherSure
set_option maxRecDepth 20000 in
theorem ggX6_fill_X3_rowCount : GoodIn wsX6_fill wsX3_rowCount := goodIn_r _ [30, 31, 115, 116, 117] (by decide +kernel) (by decide +kernel)
set_option maxRecDepth 20000 in
theorem gX6_fill_X3_rowCount : GoodIn wsX6_fill (wsV RX6 194 RX3 yX3_rowCount wsX3_rowCount) := goodIn_app (goodIn_of _ (by decide +kernel)) ggX6_fill_X3_rowCount
set_option maxRecDepth 20000 in
theorem ggX6_fill_X0_sureIn : GoodIn wsX6_fill wsX0_sureIn := goodIn_r _ [94, 13, 106, 107, 108, 109, 110, 111, 112, 113, 114] (by decide +kernel) (by decide +kernel)
set_option maxRecDepth 20000 in
theorem gX6_fill_X0_sureIn : GoodIn wsX6_fill (wsV RX6 191 RX0 yX0_sureIn wsX0_sureIn) := goodIn_app (goodIn_of _ (by decide +kernel)) ggX6_fill_X0_sureIn
set_option maxRecDepth 20000 in
theorem ggX6_fill_X3_held : GoodIn wsX6_fill wsX3_held := goodIn_r _ [35, 36, 115, 116, 117] (by decide +kernel) (by decide +kernel)
set_option maxRecDepth 20000 in
theorem gX6_fill_X3_held : GoodIn wsX6_fill (wsV RX6 158 RX3 yX3_held wsX3_held) := goodIn_app (goodIn_of _ (by decide +kernel)) ggX6_fill_X3_held
set_option maxRecDepth 20000 in
theorem ggX6_fill_X3_hold : GoodIn wsX6_fill wsX3_hold := goodIn_r _ [99, 36, 41, 100, 78, 79, 80, 81, 115, 116, 117] (by decide +kernel) (by decide +kernel)
set_option maxRecDepth 20000 in
theorem gX6_fill_X3_hold : GoodIn wsX6_fill (wsV RX6 162 RX3 yX3_hold wsX3_hold) := goodIn_app (goodIn_of _ (by decide +kernel)) ggX6_fill_X3_hold
theorem dX6_fill_0 : decode cX6_fill 0 = .ok (.aload_n 0, 1) := by decide +kernel
theorem dX6_fill_1 : decode cX6_fill 1 = .ok (.iload_n 1, 1) := by decide +kernel
theorem dX6_fill_2 : decode cX6_fill 2 = .ok (.invokevirtual 145, 3) := by decide +kernel
theorem dX6_fill_5 : decode cX6_fill 5 = .ok (.astore_n 2, 1) := by decide +kernel
theorem dX6_fill_6 : decode cX6_fill 6 = .ok (.aload_n 2, 1) := by decide +kernel
theorem dX6_fill_7 : decode cX6_fill 7 = .ok (.ifnonnull 5, 3) := by decide +kernel
theorem dX6_fill_10 : decode cX6_fill 10 = .ok (.iconst (-1), 1) := by decide +kernel
theorem dX6_fill_11 : decode cX6_fill 11 = .ok (.ireturn, 1) := by decide +kernel
theorem dX6_fill_12 : decode cX6_fill 12 = .ok (.aload_n 0, 1) := by decide +kernel
theorem dX6_fill_13 : decode cX6_fill 13 = .ok (.getfield 19, 3) := by decide +kernel
theorem dX6_fill_16 : decode cX6_fill 16 = .ok (.aload_n 2, 1) := by decide +kernel
theorem dX6_fill_17 : decode cX6_fill 17 = .ok (.invokevirtual 188, 3) := by decide +kernel
theorem dX6_fill_20 : decode cX6_fill 20 = .ok (.iconst 0, 1) := by decide +kernel
theorem dX6_fill_21 : decode cX6_fill 21 = .ok (.istore_n 3, 1) := by decide +kernel
theorem dX6_fill_22 : decode cX6_fill 22 = .ok (.iconst 0, 1) := by decide +kernel
theorem dX6_fill_23 : decode cX6_fill 23 = .ok (.istore 4, 2) := by decide +kernel
theorem dX6_fill_25 : decode cX6_fill 25 = .ok (.iload 4, 2) := by decide +kernel
theorem dX6_fill_27 : decode cX6_fill 27 = .ok (.aload_n 2, 1) := by decide +kernel
theorem dX6_fill_28 : decode cX6_fill 28 = .ok (.invokevirtual 194, 3) := by decide +kernel
theorem dX6_fill_31 : decode cX6_fill 31 = .ok (.if_icmp .ge 66, 3) := by decide +kernel
theorem dX6_fill_34 : decode cX6_fill 34 = .ok (.iconst 0, 1) := by decide +kernel
theorem dX6_fill_35 : decode cX6_fill 35 = .ok (.istore 5, 2) := by decide +kernel
theorem dX6_fill_37 : decode cX6_fill 37 = .ok (.iload 5, 2) := by decide +kernel
theorem dX6_fill_39 : decode cX6_fill 39 = .ok (.iconst 3, 1) := by decide +kernel
theorem dX6_fill_40 : decode cX6_fill 40 = .ok (.if_icmp .ge 51, 3) := by decide +kernel
theorem dX6_fill_43 : decode cX6_fill 43 = .ok (.aload_n 0, 1) := by decide +kernel
theorem dX6_fill_44 : decode cX6_fill 44 = .ok (.getfield 19, 3) := by decide +kernel
theorem dX6_fill_47 : decode cX6_fill 47 = .ok (.iload 4, 2) := by decide +kernel
theorem dX6_fill_49 : decode cX6_fill 49 = .ok (.iload 5, 2) := by decide +kernel
theorem dX6_fill_51 : decode cX6_fill 51 = .ok (.invokevirtual 191, 3) := by decide +kernel
theorem dX6_fill_54 : decode cX6_fill 54 = .ok (.istore 6, 2) := by decide +kernel
theorem dX6_fill_56 : decode cX6_fill 56 = .ok (.iload 6, 2) := by decide +kernel
theorem dX6_fill_58 : decode cX6_fill 58 = .ok (.ifCond .eq 27, 3) := by decide +kernel
theorem dX6_fill_61 : decode cX6_fill 61 = .ok (.aload_n 2, 1) := by decide +kernel
theorem dX6_fill_62 : decode cX6_fill 62 = .ok (.iload 4, 2) := by decide +kernel
theorem dX6_fill_64 : decode cX6_fill 64 = .ok (.iload 5, 2) := by decide +kernel
theorem dX6_fill_66 : decode cX6_fill 66 = .ok (.invokevirtual 158, 3) := by decide +kernel
theorem dX6_fill_69 : decode cX6_fill 69 = .ok (.ifCond .ne 16, 3) := by decide +kernel
theorem dX6_fill_72 : decode cX6_fill 72 = .ok (.aload_n 2, 1) := by decide +kernel
theorem dX6_fill_73 : decode cX6_fill 73 = .ok (.iload 4, 2) := by decide +kernel
theorem dX6_fill_75 : decode cX6_fill 75 = .ok (.iload 5, 2) := by decide +kernel
theorem dX6_fill_77 : decode cX6_fill 77 = .ok (.iload 6, 2) := by decide +kernel
theorem dX6_fill_79 : decode cX6_fill 79 = .ok (.invokevirtual 162, 3) := by decide +kernel
theorem dX6_fill_82 : decode cX6_fill 82 = .ok (.iinc 3 1, 3) := by decide +kernel
theorem dX6_fill_85 : decode cX6_fill 85 = .ok (.iinc 5 1, 3) := by decide +kernel
theorem dX6_fill_88 : decode cX6_fill 88 = .ok (.goto (-51), 3) := by decide +kernel
theorem dX6_fill_91 : decode cX6_fill 91 = .ok (.iinc 4 1, 3) := by decide +kernel
theorem dX6_fill_94 : decode cX6_fill 94 = .ok (.goto (-69), 3) := by decide +kernel
theorem dX6_fill_97 : decode cX6_fill 97 = .ok (.iload_n 3, 1) := by decide +kernel
theorem dX6_fill_98 : decode cX6_fill 98 = .ok (.ireturn, 1) := by decide +kernel
set_option maxRecDepth 20000 in
theorem ggX6_odd_X6_clayOf : GoodIn wsX6_odd wsX6_clayOf := goodIn_r _ [6, 7, 73, 74, 75, 76, 77] (by decide +kernel) (by decide +kernel)
set_option maxRecDepth 20000 in
theorem gX6_odd_X6_clayOf : GoodIn wsX6_odd (wsV RX6 145 RX6 yX6_clayOf wsX6_clayOf) := goodIn_app (goodIn_of _ (by decide +kernel)) ggX6_odd_X6_clayOf
set_option maxRecDepth 20000 in
theorem ggX6_odd_X0_begin : GoodIn wsX6_odd wsX0_begin := goodIn_r _ [12, 13, 14, 15, 16, 17, 18, 19, 20, 21, 22, 23, 24, 25, 26, 27, 28, 29, 30, 31, 32, 33, 34, 35, 36, 78, 79, 80, 81, 82, 83, 84, 85, 86, 87, 88, 89] (by decide +kernel) (by decide +kernel)
set_option maxRecDepth 20000 in
theorem gX6_odd_X0_begin : GoodIn wsX6_odd (wsV RX6 178 RX0 yX0_begin wsX0_begin) := goodIn_app (goodIn_of _ (by decide +kernel)) ggX6_odd_X0_begin
set_option maxRecDepth 20000 in
theorem ggX6_odd_X0_nextPlace : GoodIn wsX6_odd wsX0_nextPlace := goodIn_r _ [40, 15, 16, 13, 14, 41, 42, 43, 44, 45, 46, 47, 48, 49, 78, 79, 80, 81, 82, 83, 84, 85, 86] (by decide +kernel) (by decide +kernel)
set_option maxRecDepth 20000 in
theorem gX6_odd_X0_nextPlace : GoodIn wsX6_odd (wsV RX6 197 RX0 yX0_nextPlace wsX0_nextPlace) := goodIn_app (goodIn_of _ (by decide +kernel)) ggX6_odd_X0_nextPlace
set_option maxRecDepth 20000 in
theorem ggX6_odd_X0_strayRow : GoodIn wsX6_odd wsX0_strayRow := goodIn_r _ [53, 17, 18, 20, 19, 54, 55, 56, 11, 57, 13, 14, 15, 58, 59, 43, 60, 61, 62, 47, 63, 49, 64, 65, 66, 67, 68, 69, 70, 71, 72, 78, 79, 80, 81, 82, 83, 84, 85, 86] (by decide +kernel) (by decide +kernel)
set_option maxRecDepth 20000 in
theorem gX6_odd_X0_strayRow : GoodIn wsX6_odd (wsV RX6 200 RX0 yX0_strayRow wsX0_strayRow) := goodIn_app (goodIn_of _ (by decide +kernel)) ggX6_odd_X0_strayRow
theorem dX6_odd_0 : decode cX6_odd 0 = .ok (.aload_n 0, 1) := by decide +kernel
theorem dX6_odd_1 : decode cX6_odd 1 = .ok (.iload_n 1, 1) := by decide +kernel
theorem dX6_odd_2 : decode cX6_odd 2 = .ok (.invokevirtual 145, 3) := by decide +kernel
theorem dX6_odd_5 : decode cX6_odd 5 = .ok (.astore_n 2, 1) := by decide +kernel
theorem dX6_odd_6 : decode cX6_odd 6 = .ok (.aload_n 2, 1) := by decide +kernel
theorem dX6_odd_7 : decode cX6_odd 7 = .ok (.ifnonnull 5, 3) := by decide +kernel
theorem dX6_odd_10 : decode cX6_odd 10 = .ok (.iconst (-1), 1) := by decide +kernel
theorem dX6_odd_11 : decode cX6_odd 11 = .ok (.ireturn, 1) := by decide +kernel
theorem dX6_odd_12 : decode cX6_odd 12 = .ok (.bipush (-6), 2) := by decide +kernel
theorem dX6_odd_14 : decode cX6_odd 14 = .ok (.istore_n 3, 1) := by decide +kernel
theorem dX6_odd_15 : decode cX6_odd 15 = .ok (.aload_n 0, 1) := by decide +kernel
theorem dX6_odd_16 : decode cX6_odd 16 = .ok (.getfield 19, 3) := by decide +kernel
theorem dX6_odd_19 : decode cX6_odd 19 = .ok (.aload_n 2, 1) := by decide +kernel
theorem dX6_odd_20 : decode cX6_odd 20 = .ok (.invokevirtual 178, 3) := by decide +kernel
theorem dX6_odd_23 : decode cX6_odd 23 = .ok (.iconst 0, 1) := by decide +kernel
theorem dX6_odd_24 : decode cX6_odd 24 = .ok (.istore 4, 2) := by decide +kernel
theorem dX6_odd_26 : decode cX6_odd 26 = .ok (.iload 4, 2) := by decide +kernel
theorem dX6_odd_28 : decode cX6_odd 28 = .ok (.sipush 4000, 3) := by decide +kernel
theorem dX6_odd_31 : decode cX6_odd 31 = .ok (.if_icmp .ge 53, 3) := by decide +kernel
theorem dX6_odd_34 : decode cX6_odd 34 = .ok (.aload_n 0, 1) := by decide +kernel
theorem dX6_odd_35 : decode cX6_odd 35 = .ok (.getfield 19, 3) := by decide +kernel
theorem dX6_odd_38 : decode cX6_odd 38 = .ok (.invokevirtual 197, 3) := by decide +kernel
theorem dX6_odd_41 : decode cX6_odd 41 = .ok (.ifCond .eq 43, 3) := by decide +kernel
theorem dX6_odd_44 : decode cX6_odd 44 = .ok (.aload_n 0, 1) := by decide +kernel
theorem dX6_odd_45 : decode cX6_odd 45 = .ok (.getfield 19, 3) := by decide +kernel
theorem dX6_odd_48 : decode cX6_odd 48 = .ok (.invokevirtual 200, 3) := by decide +kernel
theorem dX6_odd_51 : decode cX6_odd 51 = .ok (.istore 5, 2) := by decide +kernel
theorem dX6_odd_53 : decode cX6_odd 53 = .ok (.iload 5, 2) := by decide +kernel
theorem dX6_odd_55 : decode cX6_odd 55 = .ok (.iconst (-1), 1) := by decide +kernel
theorem dX6_odd_56 : decode cX6_odd 56 = .ok (.if_icmp .ne 6, 3) := by decide +kernel
theorem dX6_odd_59 : decode cX6_odd 59 = .ok (.bipush (-6), 2) := by decide +kernel
theorem dX6_odd_61 : decode cX6_odd 61 = .ok (.ireturn, 1) := by decide +kernel
theorem dX6_odd_62 : decode cX6_odd 62 = .ok (.iload_n 3, 1) := by decide +kernel
theorem dX6_odd_63 : decode cX6_odd 63 = .ok (.bipush (-6), 2) := by decide +kernel
theorem dX6_odd_65 : decode cX6_odd 65 = .ok (.if_icmp .ne 13, 3) := by decide +kernel
theorem dX6_odd_68 : decode cX6_odd 68 = .ok (.iload 5, 2) := by decide +kernel
theorem dX6_odd_70 : decode cX6_odd 70 = .ok (.bipush (-2), 2) := by decide +kernel
theorem dX6_odd_72 : decode cX6_odd 72 = .ok (.if_icmp .eq 6, 3) := by decide +kernel
theorem dX6_odd_75 : decode cX6_odd 75 = .ok (.iload 5, 2) := by decide +kernel
theorem dX6_odd_77 : decode cX6_odd 77 = .ok (.istore_n 3, 1) := by decide +kernel
theorem dX6_odd_78 : decode cX6_odd 78 = .ok (.iinc 4 1, 3) := by decide +kernel
theorem dX6_odd_81 : decode cX6_odd 81 = .ok (.goto (-55), 3) := by decide +kernel
theorem dX6_odd_84 : decode cX6_odd 84 = .ok (.iload_n 3, 1) := by decide +kernel
theorem dX6_odd_85 : decode cX6_odd 85 = .ok (.ireturn, 1) := by decide +kernel
set_option maxRecDepth 20000 in
theorem ggX6_triple_X6_clayOf : GoodIn wsX6_triple wsX6_clayOf := goodIn_r _ [5, 6, 40, 41, 42, 43, 44] (by decide +kernel) (by decide +kernel)
set_option maxRecDepth 20000 in
theorem gX6_triple_X6_clayOf : GoodIn wsX6_triple (wsV RX6 145 RX6 yX6_clayOf wsX6_clayOf) := goodIn_app (goodIn_of _ (by decide +kernel)) ggX6_triple_X6_clayOf
set_option maxRecDepth 20000 in
theorem ggX6_triple_X3_hasCell : GoodIn wsX6_triple wsX3_hasCell := goodIn_r _ [11, 12, 45, 46, 47] (by decide +kernel) (by decide +kernel)
set_option maxRecDepth 20000 in
theorem gX6_triple_X3_hasCell : GoodIn wsX6_triple (wsV RX6 153 RX3 yX3_hasCell wsX3_hasCell) := goodIn_app (goodIn_of _ (by decide +kernel)) ggX6_triple_X3_hasCell
set_option maxRecDepth 20000 in
theorem ggX6_triple_X6_makesTriple : GoodIn wsX6_triple wsX6_makesTriple := goodIn_r _ [15] (by decide +kernel) (by decide +kernel)
set_option maxRecDepth 20000 in
theorem gX6_triple_X6_makesTriple : GoodIn wsX6_triple (va_wsS RX6 203 yX6_makesTriple wsX6_makesTriple) := goodIn_app (goodIn_of _ (by decide +kernel)) ggX6_triple_X6_makesTriple
set_option maxRecDepth 20000 in
theorem ggX6_triple_X6_mayBeTriple : GoodIn wsX6_triple wsX6_mayBeTriple := goodIn_r _ [18, 19, 20, 21, 22, 23, 24, 25, 26, 27, 28, 10, 29, 30, 31, 32, 33, 34, 35, 36, 37, 38, 39, 45, 46, 47] (by decide +kernel) (by decide +kernel)
set_option maxRecDepth 20000 in
theorem gX6_triple_X6_mayBeTriple : GoodIn wsX6_triple (va_wsS RX6 206 yX6_mayBeTriple wsX6_mayBeTriple) := goodIn_app (goodIn_of _ (by decide +kernel)) ggX6_triple_X6_mayBeTriple
theorem dX6_triple_0 : decode cX6_triple 0 = .ok (.aload_n 0, 1) := by decide +kernel
theorem dX6_triple_1 : decode cX6_triple 1 = .ok (.iload_n 1, 1) := by decide +kernel
theorem dX6_triple_2 : decode cX6_triple 2 = .ok (.invokevirtual 145, 3) := by decide +kernel
theorem dX6_triple_5 : decode cX6_triple 5 = .ok (.astore 4, 2) := by decide +kernel
theorem dX6_triple_7 : decode cX6_triple 7 = .ok (.aload 4, 2) := by decide +kernel
theorem dX6_triple_9 : decode cX6_triple 9 = .ok (.ifnull 13, 3) := by decide +kernel
theorem dX6_triple_12 : decode cX6_triple 12 = .ok (.aload 4, 2) := by decide +kernel
theorem dX6_triple_14 : decode cX6_triple 14 = .ok (.iload_n 2, 1) := by decide +kernel
theorem dX6_triple_15 : decode cX6_triple 15 = .ok (.iconst 0, 1) := by decide +kernel
theorem dX6_triple_16 : decode cX6_triple 16 = .ok (.invokevirtual 153, 3) := by decide +kernel
theorem dX6_triple_19 : decode cX6_triple 19 = .ok (.ifCond .ne 5, 3) := by decide +kernel
theorem dX6_triple_22 : decode cX6_triple 22 = .ok (.iconst (-1), 1) := by decide +kernel
theorem dX6_triple_23 : decode cX6_triple 23 = .ok (.ireturn, 1) := by decide +kernel
theorem dX6_triple_24 : decode cX6_triple 24 = .ok (.iconst 0, 1) := by decide +kernel
theorem dX6_triple_25 : decode cX6_triple 25 = .ok (.istore 5, 2) := by decide +kernel
theorem dX6_triple_27 : decode cX6_triple 27 = .ok (.iconst 2, 1) := by decide +kernel
theorem dX6_triple_28 : decode cX6_triple 28 = .ok (.istore 6, 2) := by decide +kernel
theorem dX6_triple_30 : decode cX6_triple 30 = .ok (.iload 6, 2) := by decide +kernel
theorem dX6_triple_32 : decode cX6_triple 32 = .ok (.bipush 12, 2) := by decide +kernel
theorem dX6_triple_34 : decode cX6_triple 34 = .ok (.if_icmp .gt 66, 3) := by decide +kernel
theorem dX6_triple_37 : decode cX6_triple 37 = .ok (.iconst 1, 1) := by decide +kernel
theorem dX6_triple_38 : decode cX6_triple 38 = .ok (.istore 7, 2) := by decide +kernel
theorem dX6_triple_40 : decode cX6_triple 40 = .ok (.iload 7, 2) := by decide +kernel
theorem dX6_triple_42 : decode cX6_triple 42 = .ok (.iload 6, 2) := by decide +kernel
theorem dX6_triple_44 : decode cX6_triple 44 = .ok (.if_icmp .ge 50, 3) := by decide +kernel
theorem dX6_triple_47 : decode cX6_triple 47 = .ok (.iload 6, 2) := by decide +kernel
theorem dX6_triple_49 : decode cX6_triple 49 = .ok (.iload 7, 2) := by decide +kernel
theorem dX6_triple_51 : decode cX6_triple 51 = .ok (.invokestatic 203, 3) := by decide +kernel
theorem dX6_triple_54 : decode cX6_triple 54 = .ok (.ifCond .eq 34, 3) := by decide +kernel
theorem dX6_triple_57 : decode cX6_triple 57 = .ok (.aload 4, 2) := by decide +kernel
theorem dX6_triple_59 : decode cX6_triple 59 = .ok (.iload_n 2, 1) := by decide +kernel
theorem dX6_triple_60 : decode cX6_triple 60 = .ok (.iload 6, 2) := by decide +kernel
theorem dX6_triple_62 : decode cX6_triple 62 = .ok (.iload 7, 2) := by decide +kernel
theorem dX6_triple_64 : decode cX6_triple 64 = .ok (.invokestatic 206, 3) := by decide +kernel
theorem dX6_triple_67 : decode cX6_triple 67 = .ok (.ifCond .eq 21, 3) := by decide +kernel
theorem dX6_triple_70 : decode cX6_triple 70 = .ok (.iload 5, 2) := by decide +kernel
theorem dX6_triple_72 : decode cX6_triple 72 = .ok (.iload_n 3, 1) := by decide +kernel
theorem dX6_triple_73 : decode cX6_triple 73 = .ok (.if_icmp .ne 12, 3) := by decide +kernel
theorem dX6_triple_76 : decode cX6_triple 76 = .ok (.bipush 100, 2) := by decide +kernel
theorem dX6_triple_78 : decode cX6_triple 78 = .ok (.iload 6, 2) := by decide +kernel
theorem dX6_triple_80 : decode cX6_triple 80 = .ok (.imul, 1) := by decide +kernel
theorem dX6_triple_81 : decode cX6_triple 81 = .ok (.iload 7, 2) := by decide +kernel
theorem dX6_triple_83 : decode cX6_triple 83 = .ok (.iadd, 1) := by decide +kernel
theorem dX6_triple_84 : decode cX6_triple 84 = .ok (.ireturn, 1) := by decide +kernel
theorem dX6_triple_85 : decode cX6_triple 85 = .ok (.iinc 5 1, 3) := by decide +kernel
theorem dX6_triple_88 : decode cX6_triple 88 = .ok (.iinc 7 1, 3) := by decide +kernel
theorem dX6_triple_91 : decode cX6_triple 91 = .ok (.goto (-51), 3) := by decide +kernel
theorem dX6_triple_94 : decode cX6_triple 94 = .ok (.iinc 6 1, 3) := by decide +kernel
theorem dX6_triple_97 : decode cX6_triple 97 = .ok (.goto (-67), 3) := by decide +kernel
theorem dX6_triple_100 : decode cX6_triple 100 = .ok (.iload_n 3, 1) := by decide +kernel
theorem dX6_triple_101 : decode cX6_triple 101 = .ok (.iconst (-1), 1) := by decide +kernel
theorem dX6_triple_102 : decode cX6_triple 102 = .ok (.if_icmp .ne 8, 3) := by decide +kernel
theorem dX6_triple_105 : decode cX6_triple 105 = .ok (.iload 5, 2) := by decide +kernel
theorem dX6_triple_107 : decode cX6_triple 107 = .ok (.goto 5, 3) := by decide +kernel
theorem dX6_triple_110 : decode cX6_triple 110 = .ok (.bipush (-6), 2) := by decide +kernel
theorem dX6_triple_112 : decode cX6_triple 112 = .ok (.ireturn, 1) := by decide +kernel
set_option maxRecDepth 20000 in
theorem ggX6_join_X6_clayOf : GoodIn wsX6_join wsX6_clayOf := goodIn_r _ [5, 6, 47, 48, 49, 50, 51] (by decide +kernel) (by decide +kernel)
set_option maxRecDepth 20000 in
theorem gX6_join_X6_clayOf : GoodIn wsX6_join (wsV RX6 145 RX6 yX6_clayOf wsX6_clayOf) := goodIn_app (goodIn_of _ (by decide +kernel)) ggX6_join_X6_clayOf
set_option maxRecDepth 20000 in
theorem ggX6_join_X3_rowCount : GoodIn wsX6_join wsX3_rowCount := goodIn_r _ [11, 12, 52, 53, 54] (by decide +kernel) (by decide +kernel)
set_option maxRecDepth 20000 in
theorem gX6_join_X3_rowCount : GoodIn wsX6_join (wsV RX6 194 RX3 yX3_rowCount wsX3_rowCount) := goodIn_app (goodIn_of _ (by decide +kernel)) ggX6_join_X3_rowCount
set_option maxRecDepth 20000 in
theorem ggX6_join_X3_fits : GoodIn wsX6_join wsX3_fits := goodIn_r _ [16, 12, 17, 18, 19, 10, 20, 21, 52, 53, 54] (by decide +kernel) (by decide +kernel)
set_option maxRecDepth 20000 in
theorem gX6_join_X3_fits : GoodIn wsX6_join (wsV RX6 210 RX3 yX3_fits wsX3_fits) := goodIn_app (goodIn_of _ (by decide +kernel)) ggX6_join_X3_fits
set_option maxRecDepth 20000 in
theorem ggX6_join_X3_take : GoodIn wsX6_join wsX3_take := goodIn_r _ [25, 12, 26, 27, 28, 29, 30, 31, 32, 33, 34, 35, 10, 36, 37, 38, 39, 40, 41, 21, 42, 43, 44, 45, 46, 52, 53, 54] (by decide +kernel) (by decide +kernel)
set_option maxRecDepth 20000 in
theorem gX6_join_X3_take : GoodIn wsX6_join (wsV RX6 214 RX3 yX3_take wsX3_take) := goodIn_app (goodIn_of _ (by decide +kernel)) ggX6_join_X3_take
theorem dX6_join_0 : decode cX6_join 0 = .ok (.aload_n 0, 1) := by decide +kernel
theorem dX6_join_1 : decode cX6_join 1 = .ok (.iload_n 1, 1) := by decide +kernel
theorem dX6_join_2 : decode cX6_join 2 = .ok (.invokevirtual 145, 3) := by decide +kernel
theorem dX6_join_5 : decode cX6_join 5 = .ok (.astore 4, 2) := by decide +kernel
theorem dX6_join_7 : decode cX6_join 7 = .ok (.aload_n 0, 1) := by decide +kernel
theorem dX6_join_8 : decode cX6_join 8 = .ok (.iload_n 2, 1) := by decide +kernel
theorem dX6_join_9 : decode cX6_join 9 = .ok (.invokevirtual 145, 3) := by decide +kernel
theorem dX6_join_12 : decode cX6_join 12 = .ok (.astore 5, 2) := by decide +kernel
theorem dX6_join_14 : decode cX6_join 14 = .ok (.aload 4, 2) := by decide +kernel
theorem dX6_join_16 : decode cX6_join 16 = .ok (.ifnull 13, 3) := by decide +kernel
theorem dX6_join_19 : decode cX6_join 19 = .ok (.aload 5, 2) := by decide +kernel
theorem dX6_join_21 : decode cX6_join 21 = .ok (.ifnull 8, 3) := by decide +kernel
theorem dX6_join_24 : decode cX6_join 24 = .ok (.iload_n 1, 1) := by decide +kernel
theorem dX6_join_25 : decode cX6_join 25 = .ok (.iload_n 2, 1) := by decide +kernel
theorem dX6_join_26 : decode cX6_join 26 = .ok (.if_icmp .ne 5, 3) := by decide +kernel
theorem dX6_join_29 : decode cX6_join 29 = .ok (.iconst (-1), 1) := by decide +kernel
theorem dX6_join_30 : decode cX6_join 30 = .ok (.ireturn, 1) := by decide +kernel
theorem dX6_join_31 : decode cX6_join 31 = .ok (.iload_n 3, 1) := by decide +kernel
theorem dX6_join_32 : decode cX6_join 32 = .ok (.ifCond .lt 9, 3) := by decide +kernel
theorem dX6_join_35 : decode cX6_join 35 = .ok (.iload_n 3, 1) := by decide +kernel
theorem dX6_join_36 : decode cX6_join 36 = .ok (.bipush 8, 2) := by decide +kernel
theorem dX6_join_38 : decode cX6_join 38 = .ok (.if_icmp .lt 6, 3) := by decide +kernel
theorem dX6_join_41 : decode cX6_join 41 = .ok (.bipush (-2), 2) := by decide +kernel
theorem dX6_join_43 : decode cX6_join 43 = .ok (.ireturn, 1) := by decide +kernel
theorem dX6_join_44 : decode cX6_join 44 = .ok (.iload_n 3, 1) := by decide +kernel
theorem dX6_join_45 : decode cX6_join 45 = .ok (.aload 4, 2) := by decide +kernel
theorem dX6_join_47 : decode cX6_join 47 = .ok (.invokevirtual 194, 3) := by decide +kernel
theorem dX6_join_50 : decode cX6_join 50 = .ok (.if_icmp .le 6, 3) := by decide +kernel
theorem dX6_join_53 : decode cX6_join 53 = .ok (.bipush (-3), 2) := by decide +kernel
theorem dX6_join_55 : decode cX6_join 55 = .ok (.ireturn, 1) := by decide +kernel
theorem dX6_join_56 : decode cX6_join 56 = .ok (.iload_n 3, 1) := by decide +kernel
theorem dX6_join_57 : decode cX6_join 57 = .ok (.aload 5, 2) := by decide +kernel
theorem dX6_join_59 : decode cX6_join 59 = .ok (.invokevirtual 194, 3) := by decide +kernel
theorem dX6_join_62 : decode cX6_join 62 = .ok (.iadd, 1) := by decide +kernel
theorem dX6_join_63 : decode cX6_join 63 = .ok (.bipush 8, 2) := by decide +kernel
theorem dX6_join_65 : decode cX6_join 65 = .ok (.if_icmp .le 6, 3) := by decide +kernel
theorem dX6_join_68 : decode cX6_join 68 = .ok (.bipush (-4), 2) := by decide +kernel
theorem dX6_join_70 : decode cX6_join 70 = .ok (.ireturn, 1) := by decide +kernel
theorem dX6_join_71 : decode cX6_join 71 = .ok (.aload 4, 2) := by decide +kernel
theorem dX6_join_73 : decode cX6_join 73 = .ok (.aload 5, 2) := by decide +kernel
theorem dX6_join_75 : decode cX6_join 75 = .ok (.iload_n 3, 1) := by decide +kernel
theorem dX6_join_76 : decode cX6_join 76 = .ok (.invokevirtual 210, 3) := by decide +kernel
theorem dX6_join_79 : decode cX6_join 79 = .ok (.ifCond .ne 6, 3) := by decide +kernel
theorem dX6_join_82 : decode cX6_join 82 = .ok (.bipush (-5), 2) := by decide +kernel
theorem dX6_join_84 : decode cX6_join 84 = .ok (.ireturn, 1) := by decide +kernel
theorem dX6_join_85 : decode cX6_join 85 = .ok (.aload 4, 2) := by decide +kernel
theorem dX6_join_87 : decode cX6_join 87 = .ok (.aload 5, 2) := by decide +kernel
theorem dX6_join_89 : decode cX6_join 89 = .ok (.iload_n 3, 1) := by decide +kernel
theorem dX6_join_90 : decode cX6_join 90 = .ok (.invokevirtual 214, 3) := by decide +kernel
theorem dX6_join_93 : decode cX6_join 93 = .ok (.aload 4, 2) := by decide +kernel
theorem dX6_join_95 : decode cX6_join 95 = .ok (.invokevirtual 194, 3) := by decide +kernel
theorem dX6_join_98 : decode cX6_join 98 = .ok (.ireturn, 1) := by decide +kernel
set_option maxRecDepth 20000 in
theorem ggX6_problem_X6_isInProblem : GoodIn wsX6_problem wsX6_isInProblem := goodIn_r _ [6, 7] (by decide +kernel) (by decide +kernel)
set_option maxRecDepth 20000 in
theorem gX6_problem_X6_isInProblem : GoodIn wsX6_problem (va_wsS RX6 218 yX6_isInProblem wsX6_isInProblem) := goodIn_app (goodIn_of _ (by decide +kernel)) ggX6_problem_X6_isInProblem
set_option maxRecDepth 20000 in
theorem ggX6_problem_X6_share : GoodIn wsX6_problem wsX6_share := goodIn_r _ [10, 11, 12, 13, 14, 15, 16, 17, 18, 19, 20, 21, 22, 23, 24, 25, 26, 27, 28, 29, 30, 31, 32, 33, 34, 35, 36, 37, 38, 39, 40, 41] (by decide +kernel) (by decide +kernel)
set_option maxRecDepth 20000 in
theorem gX6_problem_X6_share : GoodIn wsX6_problem (va_wsS RX6 221 yX6_share wsX6_share) := goodIn_app (goodIn_of _ (by decide +kernel)) ggX6_problem_X6_share
set_option maxRecDepth 20000 in
theorem ggX6_problem_X6_onlyAnswer : GoodIn wsX6_problem wsX6_onlyAnswer := goodIn_r _ [44, 45] (by decide +kernel) (by decide +kernel)
set_option maxRecDepth 20000 in
theorem gX6_problem_X6_onlyAnswer : GoodIn wsX6_problem (va_wsS RX6 225 yX6_onlyAnswer wsX6_onlyAnswer) := goodIn_app (goodIn_of _ (by decide +kernel)) ggX6_problem_X6_onlyAnswer
set_option maxRecDepth 20000 in
theorem ggX6_problem_X6_wholeRoot : GoodIn wsX6_problem wsX6_wholeRoot := goodIn_r _ [48, 49, 50, 51, 39, 52, 53, 54] (by decide +kernel) (by decide +kernel)
set_option maxRecDepth 20000 in
theorem gX6_problem_X6_wholeRoot : GoodIn wsX6_problem (va_wsS RX6 228 yX6_wholeRoot wsX6_wholeRoot) := goodIn_app (goodIn_of _ (by decide +kernel)) ggX6_problem_X6_wholeRoot
set_option maxRecDepth 20000 in
theorem ggX6_problem_X6_sideOf : GoodIn wsX6_problem wsX6_sideOf := goodIn_r _ [57, 58, 45] (by decide +kernel) (by decide +kernel)
set_option maxRecDepth 20000 in
theorem gX6_problem_X6_sideOf : GoodIn wsX6_problem (va_wsS RX6 233 yX6_sideOf wsX6_sideOf) := goodIn_app (goodIn_of _ (by decide +kernel)) ggX6_problem_X6_sideOf
theorem dX6_problem_0 : decode cX6_problem 0 = .ok (.iload_n 1, 1) := by decide +kernel
theorem dX6_problem_1 : decode cX6_problem 1 = .ok (.ifCond .lt 33, 3) := by decide +kernel
theorem dX6_problem_4 : decode cX6_problem 4 = .ok (.iload_n 1, 1) := by decide +kernel
theorem dX6_problem_5 : decode cX6_problem 5 = .ok (.iconst 5, 1) := by decide +kernel
theorem dX6_problem_6 : decode cX6_problem 6 = .ok (.if_icmp .gt 28, 3) := by decide +kernel
theorem dX6_problem_9 : decode cX6_problem 9 = .ok (.iload_n 2, 1) := by decide +kernel
theorem dX6_problem_10 : decode cX6_problem 10 = .ok (.invokestatic 218, 3) := by decide +kernel
theorem dX6_problem_13 : decode cX6_problem 13 = .ok (.ifCond .eq 21, 3) := by decide +kernel
theorem dX6_problem_16 : decode cX6_problem 16 = .ok (.iload_n 3, 1) := by decide +kernel
theorem dX6_problem_17 : decode cX6_problem 17 = .ok (.invokestatic 218, 3) := by decide +kernel
theorem dX6_problem_20 : decode cX6_problem 20 = .ok (.ifCond .eq 14, 3) := by decide +kernel
theorem dX6_problem_23 : decode cX6_problem 23 = .ok (.iload 4, 2) := by decide +kernel
theorem dX6_problem_25 : decode cX6_problem 25 = .ok (.ifCond .lt 9, 3) := by decide +kernel
theorem dX6_problem_28 : decode cX6_problem 28 = .ok (.iload 4, 2) := by decide +kernel
theorem dX6_problem_30 : decode cX6_problem 30 = .ok (.iconst 1, 1) := by decide +kernel
theorem dX6_problem_31 : decode cX6_problem 31 = .ok (.if_icmp .le 7, 3) := by decide +kernel
theorem dX6_problem_34 : decode cX6_problem 34 = .ok (.ldc2_w 48, 3) := by decide +kernel
theorem dX6_problem_37 : decode cX6_problem 37 = .ok (.lreturn, 1) := by decide +kernel
theorem dX6_problem_38 : decode cX6_problem 38 = .ok (.iload_n 1, 1) := by decide +kernel
theorem dX6_problem_39 : decode cX6_problem 39 = .ok (.tableswitch 99 1 4 #[29, 42, 53, 76], 29) := by decide +kernel
theorem dX6_problem_68 : decode cX6_problem 68 = .ok (.iload_n 2, 1) := by decide +kernel
theorem dX6_problem_69 : decode cX6_problem 69 = .ok (.i2l, 1) := by decide +kernel
theorem dX6_problem_70 : decode cX6_problem 70 = .ok (.iload_n 3, 1) := by decide +kernel
theorem dX6_problem_71 : decode cX6_problem 71 = .ok (.i2l, 1) := by decide +kernel
theorem dX6_problem_72 : decode cX6_problem 72 = .ok (.invokestatic 221, 3) := by decide +kernel
theorem dX6_problem_75 : decode cX6_problem 75 = .ok (.iload 4, 2) := by decide +kernel
theorem dX6_problem_77 : decode cX6_problem 77 = .ok (.invokestatic 225, 3) := by decide +kernel
theorem dX6_problem_80 : decode cX6_problem 80 = .ok (.lreturn, 1) := by decide +kernel
theorem dX6_problem_81 : decode cX6_problem 81 = .ok (.iload_n 2, 1) := by decide +kernel
theorem dX6_problem_82 : decode cX6_problem 82 = .ok (.i2l, 1) := by decide +kernel
theorem dX6_problem_83 : decode cX6_problem 83 = .ok (.invokestatic 228, 3) := by decide +kernel
theorem dX6_problem_86 : decode cX6_problem 86 = .ok (.iload 4, 2) := by decide +kernel
theorem dX6_problem_88 : decode cX6_problem 88 = .ok (.invokestatic 225, 3) := by decide +kernel
theorem dX6_problem_91 : decode cX6_problem 91 = .ok (.lreturn, 1) := by decide +kernel
theorem dX6_problem_92 : decode cX6_problem 92 = .ok (.iload_n 2, 1) := by decide +kernel
theorem dX6_problem_93 : decode cX6_problem 93 = .ok (.i2l, 1) := by decide +kernel
theorem dX6_problem_94 : decode cX6_problem 94 = .ok (.iload_n 2, 1) := by decide +kernel
theorem dX6_problem_95 : decode cX6_problem 95 = .ok (.i2l, 1) := by decide +kernel
theorem dX6_problem_96 : decode cX6_problem 96 = .ok (.lmul, 1) := by decide +kernel
theorem dX6_problem_97 : decode cX6_problem 97 = .ok (.ldc2_w 231, 3) := by decide +kernel
theorem dX6_problem_100 : decode cX6_problem 100 = .ok (.iload_n 3, 1) := by decide +kernel
theorem dX6_problem_101 : decode cX6_problem 101 = .ok (.i2l, 1) := by decide +kernel
theorem dX6_problem_102 : decode cX6_problem 102 = .ok (.lmul, 1) := by decide +kernel
theorem dX6_problem_103 : decode cX6_problem 103 = .ok (.lsub, 1) := by decide +kernel
theorem dX6_problem_104 : decode cX6_problem 104 = .ok (.invokestatic 228, 3) := by decide +kernel
theorem dX6_problem_107 : decode cX6_problem 107 = .ok (.iload_n 2, 1) := by decide +kernel
theorem dX6_problem_108 : decode cX6_problem 108 = .ok (.i2l, 1) := by decide +kernel
theorem dX6_problem_109 : decode cX6_problem 109 = .ok (.iload 4, 2) := by decide +kernel
theorem dX6_problem_111 : decode cX6_problem 111 = .ok (.invokestatic 233, 3) := by decide +kernel
theorem dX6_problem_114 : decode cX6_problem 114 = .ok (.lreturn, 1) := by decide +kernel
theorem dX6_problem_115 : decode cX6_problem 115 = .ok (.iload_n 2, 1) := by decide +kernel
theorem dX6_problem_116 : decode cX6_problem 116 = .ok (.i2l, 1) := by decide +kernel
theorem dX6_problem_117 : decode cX6_problem 117 = .ok (.iload_n 2, 1) := by decide +kernel
theorem dX6_problem_118 : decode cX6_problem 118 = .ok (.i2l, 1) := by decide +kernel
theorem dX6_problem_119 : decode cX6_problem 119 = .ok (.iload_n 2, 1) := by decide +kernel
theorem dX6_problem_120 : decode cX6_problem 120 = .ok (.i2l, 1) := by decide +kernel
theorem dX6_problem_121 : decode cX6_problem 121 = .ok (.lmul, 1) := by decide +kernel
theorem dX6_problem_122 : decode cX6_problem 122 = .ok (.ldc2_w 231, 3) := by decide +kernel
theorem dX6_problem_125 : decode cX6_problem 125 = .ok (.iload_n 3, 1) := by decide +kernel
theorem dX6_problem_126 : decode cX6_problem 126 = .ok (.i2l, 1) := by decide +kernel
theorem dX6_problem_127 : decode cX6_problem 127 = .ok (.lmul, 1) := by decide +kernel
theorem dX6_problem_128 : decode cX6_problem 128 = .ok (.ladd, 1) := by decide +kernel
theorem dX6_problem_129 : decode cX6_problem 129 = .ok (.invokestatic 228, 3) := by decide +kernel
theorem dX6_problem_132 : decode cX6_problem 132 = .ok (.iload 4, 2) := by decide +kernel
theorem dX6_problem_134 : decode cX6_problem 134 = .ok (.invokestatic 233, 3) := by decide +kernel
theorem dX6_problem_137 : decode cX6_problem 137 = .ok (.lreturn, 1) := by decide +kernel
theorem dX6_problem_138 : decode cX6_problem 138 = .ok (.iload_n 2, 1) := by decide +kernel
theorem dX6_problem_139 : decode cX6_problem 139 = .ok (.i2l, 1) := by decide +kernel
theorem dX6_problem_140 : decode cX6_problem 140 = .ok (.iload_n 3, 1) := by decide +kernel
theorem dX6_problem_141 : decode cX6_problem 141 = .ok (.i2l, 1) := by decide +kernel
theorem dX6_problem_142 : decode cX6_problem 142 = .ok (.lmul, 1) := by decide +kernel
theorem dX6_problem_143 : decode cX6_problem 143 = .ok (.iload 4, 2) := by decide +kernel
theorem dX6_problem_145 : decode cX6_problem 145 = .ok (.invokestatic 225, 3) := by decide +kernel
theorem dX6_problem_148 : decode cX6_problem 148 = .ok (.lreturn, 1) := by decide +kernel
theorem dX6_unit_0 : decode cX6_unit 0 = .ok (.iload_n 1, 1) := by decide +kernel
theorem dX6_unit_1 : decode cX6_unit 1 = .ok (.iconst 2, 1) := by decide +kernel
theorem dX6_unit_2 : decode cX6_unit 2 = .ok (.if_icmp .lt 9, 3) := by decide +kernel
theorem dX6_unit_5 : decode cX6_unit 5 = .ok (.iload_n 1, 1) := by decide +kernel
theorem dX6_unit_6 : decode cX6_unit 6 = .ok (.bipush 100, 2) := by decide +kernel
theorem dX6_unit_8 : decode cX6_unit 8 = .ok (.if_icmp .le 6, 3) := by decide +kernel
theorem dX6_unit_11 : decode cX6_unit 11 = .ok (.bipush (-2), 2) := by decide +kernel
theorem dX6_unit_13 : decode cX6_unit 13 = .ok (.ireturn, 1) := by decide +kernel
theorem dX6_unit_14 : decode cX6_unit 14 = .ok (.aload_n 0, 1) := by decide +kernel
theorem dX6_unit_15 : decode cX6_unit 15 = .ok (.getfield 27, 3) := by decide +kernel
theorem dX6_unit_18 : decode cX6_unit 18 = .ok (.ifCond .lt 15, 3) := by decide +kernel
theorem dX6_unit_21 : decode cX6_unit 21 = .ok (.aload_n 0, 1) := by decide +kernel
theorem dX6_unit_22 : decode cX6_unit 22 = .ok (.getfield 27, 3) := by decide +kernel
theorem dX6_unit_25 : decode cX6_unit 25 = .ok (.aload_n 0, 1) := by decide +kernel
theorem dX6_unit_26 : decode cX6_unit 26 = .ok (.getfield 23, 3) := by decide +kernel
theorem dX6_unit_29 : decode cX6_unit 29 = .ok (.arraylength, 1) := by decide +kernel
theorem dX6_unit_30 : decode cX6_unit 30 = .ok (.if_icmp .lt 6, 3) := by decide +kernel
theorem dX6_unit_33 : decode cX6_unit 33 = .ok (.bipush (-4), 2) := by decide +kernel
theorem dX6_unit_35 : decode cX6_unit 35 = .ok (.ireturn, 1) := by decide +kernel
theorem dX6_unit_36 : decode cX6_unit 36 = .ok (.aload_n 0, 1) := by decide +kernel
theorem dX6_unit_37 : decode cX6_unit 37 = .ok (.getfield 23, 3) := by decide +kernel
theorem dX6_unit_40 : decode cX6_unit 40 = .ok (.aload_n 0, 1) := by decide +kernel
theorem dX6_unit_41 : decode cX6_unit 41 = .ok (.getfield 27, 3) := by decide +kernel
theorem dX6_unit_44 : decode cX6_unit 44 = .ok (.iload_n 1, 1) := by decide +kernel
theorem dX6_unit_45 : decode cX6_unit 45 = .ok (.iastore, 1) := by decide +kernel
theorem dX6_unit_46 : decode cX6_unit 46 = .ok (.aload_n 0, 1) := by decide +kernel
theorem dX6_unit_47 : decode cX6_unit 47 = .ok (.dup, 1) := by decide +kernel
theorem dX6_unit_48 : decode cX6_unit 48 = .ok (.getfield 27, 3) := by decide +kernel
theorem dX6_unit_51 : decode cX6_unit 51 = .ok (.iconst 1, 1) := by decide +kernel
theorem dX6_unit_52 : decode cX6_unit 52 = .ok (.iadd, 1) := by decide +kernel
theorem dX6_unit_53 : decode cX6_unit 53 = .ok (.putfield 27, 3) := by decide +kernel
theorem dX6_unit_56 : decode cX6_unit 56 = .ok (.aload_n 0, 1) := by decide +kernel
theorem dX6_unit_57 : decode cX6_unit 57 = .ok (.getfield 27, 3) := by decide +kernel
theorem dX6_unit_60 : decode cX6_unit 60 = .ok (.ireturn, 1) := by decide +kernel
theorem dX6_wipe_0 : decode cX6_wipe 0 = .ok (.aload_n 0, 1) := by decide +kernel
theorem dX6_wipe_1 : decode cX6_wipe 1 = .ok (.getfield 27, 3) := by decide +kernel
theorem dX6_wipe_4 : decode cX6_wipe 4 = .ok (.istore_n 1, 1) := by decide +kernel
theorem dX6_wipe_5 : decode cX6_wipe 5 = .ok (.aload_n 0, 1) := by decide +kernel
theorem dX6_wipe_6 : decode cX6_wipe 6 = .ok (.iconst 0, 1) := by decide +kernel
theorem dX6_wipe_7 : decode cX6_wipe 7 = .ok (.putfield 27, 3) := by decide +kernel
theorem dX6_wipe_10 : decode cX6_wipe 10 = .ok (.iload_n 1, 1) := by decide +kernel
theorem dX6_wipe_11 : decode cX6_wipe 11 = .ok (.ireturn, 1) := by decide +kernel
theorem dX6_units_0 : decode cX6_units 0 = .ok (.iload_n 3, 1) := by decide +kernel
theorem dX6_units_1 : decode cX6_units 1 = .ok (.ifCond .lt 11, 3) := by decide +kernel
theorem dX6_units_4 : decode cX6_units 4 = .ok (.iload_n 3, 1) := by decide +kernel
theorem dX6_units_5 : decode cX6_units 5 = .ok (.aload_n 0, 1) := by decide +kernel
theorem dX6_units_6 : decode cX6_units 6 = .ok (.getfield 27, 3) := by decide +kernel
theorem dX6_units_9 : decode cX6_units 9 = .ok (.if_icmp .le 7, 3) := by decide +kernel
theorem dX6_units_12 : decode cX6_units 12 = .ok (.ldc2_w 134, 3) := by decide +kernel
theorem dX6_units_15 : decode cX6_units 15 = .ok (.lreturn, 1) := by decide +kernel
theorem dX6_units_16 : decode cX6_units 16 = .ok (.lload_n 1, 1) := by decide +kernel
theorem dX6_units_17 : decode cX6_units 17 = .ok (.lconst 0, 1) := by decide +kernel
theorem dX6_units_18 : decode cX6_units 18 = .ok (.lcmp, 1) := by decide +kernel
theorem dX6_units_19 : decode cX6_units 19 = .ok (.ifCond .lt 11, 3) := by decide +kernel
theorem dX6_units_22 : decode cX6_units 22 = .ok (.lload_n 1, 1) := by decide +kernel
theorem dX6_units_23 : decode cX6_units 23 = .ok (.ldc2_w 76, 3) := by decide +kernel
theorem dX6_units_26 : decode cX6_units 26 = .ok (.lcmp, 1) := by decide +kernel
theorem dX6_units_27 : decode cX6_units 27 = .ok (.ifCond .lt 7, 3) := by decide +kernel
theorem dX6_units_30 : decode cX6_units 30 = .ok (.ldc2_w 48, 3) := by decide +kernel
theorem dX6_units_33 : decode cX6_units 33 = .ok (.lreturn, 1) := by decide +kernel
theorem dX6_units_34 : decode cX6_units 34 = .ok (.lload_n 1, 1) := by decide +kernel
theorem dX6_units_35 : decode cX6_units 35 = .ok (.lstore 4, 2) := by decide +kernel
theorem dX6_units_37 : decode cX6_units 37 = .ok (.iconst 0, 1) := by decide +kernel
theorem dX6_units_38 : decode cX6_units 38 = .ok (.istore 6, 2) := by decide +kernel
theorem dX6_units_40 : decode cX6_units 40 = .ok (.iload 6, 2) := by decide +kernel
theorem dX6_units_42 : decode cX6_units 42 = .ok (.iload_n 3, 1) := by decide +kernel
theorem dX6_units_43 : decode cX6_units 43 = .ok (.if_icmp .ge 47, 3) := by decide +kernel
theorem dX6_units_46 : decode cX6_units 46 = .ok (.iload 6, 2) := by decide +kernel
theorem dX6_units_48 : decode cX6_units 48 = .ok (.aload_n 0, 1) := by decide +kernel
theorem dX6_units_49 : decode cX6_units 49 = .ok (.getfield 23, 3) := by decide +kernel
theorem dX6_units_52 : decode cX6_units 52 = .ok (.arraylength, 1) := by decide +kernel
theorem dX6_units_53 : decode cX6_units 53 = .ok (.if_icmp .ge 37, 3) := by decide +kernel
theorem dX6_units_56 : decode cX6_units 56 = .ok (.aload_n 0, 1) := by decide +kernel
theorem dX6_units_57 : decode cX6_units 57 = .ok (.getfield 23, 3) := by decide +kernel
theorem dX6_units_60 : decode cX6_units 60 = .ok (.iload 6, 2) := by decide +kernel
theorem dX6_units_62 : decode cX6_units 62 = .ok (.iaload, 1) := by decide +kernel
theorem dX6_units_63 : decode cX6_units 63 = .ok (.ifCond .le 17, 3) := by decide +kernel
theorem dX6_units_66 : decode cX6_units 66 = .ok (.lload 4, 2) := by decide +kernel
theorem dX6_units_68 : decode cX6_units 68 = .ok (.aload_n 0, 1) := by decide +kernel
theorem dX6_units_69 : decode cX6_units 69 = .ok (.getfield 23, 3) := by decide +kernel
theorem dX6_units_72 : decode cX6_units 72 = .ok (.iload 6, 2) := by decide +kernel
theorem dX6_units_74 : decode cX6_units 74 = .ok (.iaload, 1) := by decide +kernel
theorem dX6_units_75 : decode cX6_units 75 = .ok (.i2l, 1) := by decide +kernel
theorem dX6_units_76 : decode cX6_units 76 = .ok (.ldiv, 1) := by decide +kernel
theorem dX6_units_77 : decode cX6_units 77 = .ok (.goto 5, 3) := by decide +kernel
theorem dX6_units_80 : decode cX6_units 80 = .ok (.lload 4, 2) := by decide +kernel
theorem dX6_units_82 : decode cX6_units 82 = .ok (.lstore 4, 2) := by decide +kernel
theorem dX6_units_84 : decode cX6_units 84 = .ok (.iinc 6 1, 3) := by decide +kernel
theorem dX6_units_87 : decode cX6_units 87 = .ok (.goto (-47), 3) := by decide +kernel
theorem dX6_units_90 : decode cX6_units 90 = .ok (.iload_n 3, 1) := by decide +kernel
theorem dX6_units_91 : decode cX6_units 91 = .ok (.aload_n 0, 1) := by decide +kernel
theorem dX6_units_92 : decode cX6_units 92 = .ok (.getfield 27, 3) := by decide +kernel
theorem dX6_units_95 : decode cX6_units 95 = .ok (.if_icmp .ge 34, 3) := by decide +kernel
theorem dX6_units_98 : decode cX6_units 98 = .ok (.iload_n 3, 1) := by decide +kernel
theorem dX6_units_99 : decode cX6_units 99 = .ok (.aload_n 0, 1) := by decide +kernel
theorem dX6_units_100 : decode cX6_units 100 = .ok (.getfield 23, 3) := by decide +kernel
theorem dX6_units_103 : decode cX6_units 103 = .ok (.arraylength, 1) := by decide +kernel
theorem dX6_units_104 : decode cX6_units 104 = .ok (.if_icmp .ge 25, 3) := by decide +kernel
theorem dX6_units_107 : decode cX6_units 107 = .ok (.aload_n 0, 1) := by decide +kernel
theorem dX6_units_108 : decode cX6_units 108 = .ok (.getfield 23, 3) := by decide +kernel
theorem dX6_units_111 : decode cX6_units 111 = .ok (.iload_n 3, 1) := by decide +kernel
theorem dX6_units_112 : decode cX6_units 112 = .ok (.iaload, 1) := by decide +kernel
theorem dX6_units_113 : decode cX6_units 113 = .ok (.ifCond .le 16, 3) := by decide +kernel
theorem dX6_units_116 : decode cX6_units 116 = .ok (.lload 4, 2) := by decide +kernel
theorem dX6_units_118 : decode cX6_units 118 = .ok (.aload_n 0, 1) := by decide +kernel
theorem dX6_units_119 : decode cX6_units 119 = .ok (.getfield 23, 3) := by decide +kernel
theorem dX6_units_122 : decode cX6_units 122 = .ok (.iload_n 3, 1) := by decide +kernel
theorem dX6_units_123 : decode cX6_units 123 = .ok (.iaload, 1) := by decide +kernel
theorem dX6_units_124 : decode cX6_units 124 = .ok (.i2l, 1) := by decide +kernel
theorem dX6_units_125 : decode cX6_units 125 = .ok (.lrem, 1) := by decide +kernel
theorem dX6_units_126 : decode cX6_units 126 = .ok (.goto 5, 3) := by decide +kernel
theorem dX6_units_129 : decode cX6_units 129 = .ok (.lload 4, 2) := by decide +kernel
theorem dX6_units_131 : decode cX6_units 131 = .ok (.lreturn, 1) := by decide +kernel
set_option maxRecDepth 20000 in
theorem ggX6_told_X5_lineCount : GoodIn wsX6_told wsX5_lineCount := goodIn_r _ [7, 8, 31, 32, 33, 34] (by decide +kernel) (by decide +kernel)
set_option maxRecDepth 20000 in
theorem gX6_told_X5_lineCount : GoodIn wsX6_told (wsV RX6 111 RX5 yX5_lineCount wsX5_lineCount) := goodIn_app (goodIn_of _ (by decide +kernel)) ggX6_told_X5_lineCount
set_option maxRecDepth 20000 in
theorem ggX6_told_X6_clayOf : GoodIn wsX6_told wsX6_clayOf := goodIn_r _ [13, 14, 26, 27, 28, 29, 30] (by decide +kernel) (by decide +kernel)
set_option maxRecDepth 20000 in
theorem gX6_told_X6_clayOf : GoodIn wsX6_told (wsV RX6 145 RX6 yX6_clayOf wsX6_clayOf) := goodIn_app (goodIn_of _ (by decide +kernel)) ggX6_told_X6_clayOf
set_option maxRecDepth 20000 in
theorem ggX6_told_X3_rowCount : GoodIn wsX6_told wsX3_rowCount := goodIn_r _ [19, 20, 35, 36, 37] (by decide +kernel) (by decide +kernel)
set_option maxRecDepth 20000 in
theorem gX6_told_X3_rowCount : GoodIn wsX6_told (wsV RX6 194 RX3 yX3_rowCount wsX3_rowCount) := goodIn_app (goodIn_of _ (by decide +kernel)) ggX6_told_X3_rowCount
set_option maxRecDepth 20000 in
theorem ggX6_told_X3_brokenCells : GoodIn wsX6_told wsX3_brokenCells := goodIn_r _ [24, 20, 25, 35, 36, 37] (by decide +kernel) (by decide +kernel)
set_option maxRecDepth 20000 in
theorem gX6_told_X3_brokenCells : GoodIn wsX6_told (wsV RX6 237 RX3 yX3_brokenCells wsX3_brokenCells) := goodIn_app (goodIn_of _ (by decide +kernel)) ggX6_told_X3_brokenCells
theorem dX6_told_0 : decode cX6_told 0 = .ok (.iload_n 1, 1) := by decide +kernel
theorem dX6_told_1 : decode cX6_told 1 = .ok (.ifCond .lt 9, 3) := by decide +kernel
theorem dX6_told_4 : decode cX6_told 4 = .ok (.iload_n 1, 1) := by decide +kernel
theorem dX6_told_5 : decode cX6_told 5 = .ok (.bipush 10, 2) := by decide +kernel
theorem dX6_told_7 : decode cX6_told 7 = .ok (.if_icmp .lt 6, 3) := by decide +kernel
theorem dX6_told_10 : decode cX6_told 10 = .ok (.bipush (-2), 2) := by decide +kernel
theorem dX6_told_12 : decode cX6_told 12 = .ok (.ireturn, 1) := by decide +kernel
theorem dX6_told_13 : decode cX6_told 13 = .ok (.iload_n 1, 1) := by decide +kernel
theorem dX6_told_14 : decode cX6_told 14 = .ok (.ifCond .ne 11, 3) := by decide +kernel
theorem dX6_told_17 : decode cX6_told 17 = .ok (.aload_n 0, 1) := by decide +kernel
theorem dX6_told_18 : decode cX6_told 18 = .ok (.getfield 10, 3) := by decide +kernel
theorem dX6_told_21 : decode cX6_told 21 = .ok (.invokevirtual 111, 3) := by decide +kernel
theorem dX6_told_24 : decode cX6_told 24 = .ok (.ireturn, 1) := by decide +kernel
theorem dX6_told_25 : decode cX6_told 25 = .ok (.iload_n 1, 1) := by decide +kernel
theorem dX6_told_26 : decode cX6_told 26 = .ok (.iconst 1, 1) := by decide +kernel
theorem dX6_told_27 : decode cX6_told 27 = .ok (.if_icmp .ne 8, 3) := by decide +kernel
theorem dX6_told_30 : decode cX6_told 30 = .ok (.aload_n 0, 1) := by decide +kernel
theorem dX6_told_31 : decode cX6_told 31 = .ok (.getfield 27, 3) := by decide +kernel
theorem dX6_told_34 : decode cX6_told 34 = .ok (.ireturn, 1) := by decide +kernel
theorem dX6_told_35 : decode cX6_told 35 = .ok (.aload_n 0, 1) := by decide +kernel
theorem dX6_told_36 : decode cX6_told 36 = .ok (.iload_n 1, 1) := by decide +kernel
theorem dX6_told_37 : decode cX6_told 37 = .ok (.iconst 2, 1) := by decide +kernel
theorem dX6_told_38 : decode cX6_told 38 = .ok (.isub, 1) := by decide +kernel
theorem dX6_told_39 : decode cX6_told 39 = .ok (.iconst 4, 1) := by decide +kernel
theorem dX6_told_40 : decode cX6_told 40 = .ok (.irem, 1) := by decide +kernel
theorem dX6_told_41 : decode cX6_told 41 = .ok (.invokevirtual 145, 3) := by decide +kernel
theorem dX6_told_44 : decode cX6_told 44 = .ok (.astore_n 2, 1) := by decide +kernel
theorem dX6_told_45 : decode cX6_told 45 = .ok (.aload_n 2, 1) := by decide +kernel
theorem dX6_told_46 : decode cX6_told 46 = .ok (.ifnonnull 6, 3) := by decide +kernel
theorem dX6_told_49 : decode cX6_told 49 = .ok (.bipush (-2), 2) := by decide +kernel
theorem dX6_told_51 : decode cX6_told 51 = .ok (.ireturn, 1) := by decide +kernel
theorem dX6_told_52 : decode cX6_told 52 = .ok (.iload_n 1, 1) := by decide +kernel
theorem dX6_told_53 : decode cX6_told 53 = .ok (.bipush 6, 2) := by decide +kernel
theorem dX6_told_55 : decode cX6_told 55 = .ok (.if_icmp .ge 10, 3) := by decide +kernel
theorem dX6_told_58 : decode cX6_told 58 = .ok (.aload_n 2, 1) := by decide +kernel
theorem dX6_told_59 : decode cX6_told 59 = .ok (.invokevirtual 194, 3) := by decide +kernel
theorem dX6_told_62 : decode cX6_told 62 = .ok (.goto 7, 3) := by decide +kernel
theorem dX6_told_65 : decode cX6_told 65 = .ok (.aload_n 2, 1) := by decide +kernel
theorem dX6_told_66 : decode cX6_told 66 = .ok (.invokevirtual 237, 3) := by decide +kernel
theorem dX6_told_69 : decode cX6_told 69 = .ok (.ireturn, 1) := by decide +kernel
theorem dX6_clayOf_0 : decode cX6_clayOf 0 = .ok (.iload_n 1, 1) := by decide +kernel
theorem dX6_clayOf_1 : decode cX6_clayOf 1 = .ok (.ifCond .lt 21, 3) := by decide +kernel
theorem dX6_clayOf_4 : decode cX6_clayOf 4 = .ok (.iload_n 1, 1) := by decide +kernel
theorem dX6_clayOf_5 : decode cX6_clayOf 5 = .ok (.aload_n 0, 1) := by decide +kernel
theorem dX6_clayOf_6 : decode cX6_clayOf 6 = .ok (.getfield 33, 3) := by decide +kernel
theorem dX6_clayOf_9 : decode cX6_clayOf 9 = .ok (.arraylength, 1) := by decide +kernel
theorem dX6_clayOf_10 : decode cX6_clayOf 10 = .ok (.if_icmp .ge 12, 3) := by decide +kernel
theorem dX6_clayOf_13 : decode cX6_clayOf 13 = .ok (.aload_n 0, 1) := by decide +kernel
theorem dX6_clayOf_14 : decode cX6_clayOf 14 = .ok (.getfield 33, 3) := by decide +kernel
theorem dX6_clayOf_17 : decode cX6_clayOf 17 = .ok (.iload_n 1, 1) := by decide +kernel
theorem dX6_clayOf_18 : decode cX6_clayOf 18 = .ok (.aaload, 1) := by decide +kernel
theorem dX6_clayOf_19 : decode cX6_clayOf 19 = .ok (.goto 4, 3) := by decide +kernel
theorem dX6_clayOf_22 : decode cX6_clayOf 22 = .ok (.aconst_null, 1) := by decide +kernel
theorem dX6_clayOf_23 : decode cX6_clayOf 23 = .ok (.areturn, 1) := by decide +kernel
theorem dX6_makesTriple_0 : decode cX6_makesTriple 0 = .ok (.iload_n 0, 1) := by decide +kernel
theorem dX6_makesTriple_1 : decode cX6_makesTriple 1 = .ok (.iload_n 1, 1) := by decide +kernel
theorem dX6_makesTriple_2 : decode cX6_makesTriple 2 = .ok (.iadd, 1) := by decide +kernel
theorem dX6_makesTriple_3 : decode cX6_makesTriple 3 = .ok (.iconst 2, 1) := by decide +kernel
theorem dX6_makesTriple_4 : decode cX6_makesTriple 4 = .ok (.irem, 1) := by decide +kernel
theorem dX6_makesTriple_5 : decode cX6_makesTriple 5 = .ok (.ifCond .ne 5, 3) := by decide +kernel
theorem dX6_makesTriple_8 : decode cX6_makesTriple 8 = .ok (.iconst 0, 1) := by decide +kernel
theorem dX6_makesTriple_9 : decode cX6_makesTriple 9 = .ok (.ireturn, 1) := by decide +kernel
theorem dX6_makesTriple_10 : decode cX6_makesTriple 10 = .ok (.iconst 2, 1) := by decide +kernel
theorem dX6_makesTriple_11 : decode cX6_makesTriple 11 = .ok (.istore_n 2, 1) := by decide +kernel
theorem dX6_makesTriple_12 : decode cX6_makesTriple 12 = .ok (.iload_n 2, 1) := by decide +kernel
theorem dX6_makesTriple_13 : decode cX6_makesTriple 13 = .ok (.iload_n 1, 1) := by decide +kernel
theorem dX6_makesTriple_14 : decode cX6_makesTriple 14 = .ok (.if_icmp .gt 23, 3) := by decide +kernel
theorem dX6_makesTriple_17 : decode cX6_makesTriple 17 = .ok (.iload_n 0, 1) := by decide +kernel
theorem dX6_makesTriple_18 : decode cX6_makesTriple 18 = .ok (.iload_n 2, 1) := by decide +kernel
theorem dX6_makesTriple_19 : decode cX6_makesTriple 19 = .ok (.irem, 1) := by decide +kernel
theorem dX6_makesTriple_20 : decode cX6_makesTriple 20 = .ok (.ifCond .ne 11, 3) := by decide +kernel
theorem dX6_makesTriple_23 : decode cX6_makesTriple 23 = .ok (.iload_n 1, 1) := by decide +kernel
theorem dX6_makesTriple_24 : decode cX6_makesTriple 24 = .ok (.iload_n 2, 1) := by decide +kernel
theorem dX6_makesTriple_25 : decode cX6_makesTriple 25 = .ok (.irem, 1) := by decide +kernel
theorem dX6_makesTriple_26 : decode cX6_makesTriple 26 = .ok (.ifCond .ne 5, 3) := by decide +kernel
theorem dX6_makesTriple_29 : decode cX6_makesTriple 29 = .ok (.iconst 0, 1) := by decide +kernel
theorem dX6_makesTriple_30 : decode cX6_makesTriple 30 = .ok (.ireturn, 1) := by decide +kernel
theorem dX6_makesTriple_31 : decode cX6_makesTriple 31 = .ok (.iinc 2 1, 3) := by decide +kernel
theorem dX6_makesTriple_34 : decode cX6_makesTriple 34 = .ok (.goto (-22), 3) := by decide +kernel
theorem dX6_makesTriple_37 : decode cX6_makesTriple 37 = .ok (.iconst 1, 1) := by decide +kernel
theorem dX6_makesTriple_38 : decode cX6_makesTriple 38 = .ok (.ireturn, 1) := by decide +kernel
set_option maxRecDepth 20000 in
theorem ggX6_mayBeTriple_X3_mayBe : GoodIn wsX6_mayBeTriple wsX3_mayBe := goodIn_r _ [12, 13, 14, 15, 11, 16, 17, 18, 19, 20, 21, 22, 23, 24, 25] (by decide +kernel) (by decide +kernel)
set_option maxRecDepth 20000 in
theorem gX6_mayBeTriple_X3_mayBe : GoodIn wsX6_mayBeTriple (wsV RX6 245 RX3 yX3_mayBe wsX3_mayBe) := goodIn_app (goodIn_of _ (by decide +kernel)) ggX6_mayBeTriple_X3_mayBe
theorem dX6_mayBeTriple_0 : decode cX6_mayBeTriple 0 = .ok (.iload_n 2, 1) := by decide +kernel
theorem dX6_mayBeTriple_1 : decode cX6_mayBeTriple 1 = .ok (.iload_n 2, 1) := by decide +kernel
theorem dX6_mayBeTriple_2 : decode cX6_mayBeTriple 2 = .ok (.imul, 1) := by decide +kernel
theorem dX6_mayBeTriple_3 : decode cX6_mayBeTriple 3 = .ok (.iload_n 3, 1) := by decide +kernel
theorem dX6_mayBeTriple_4 : decode cX6_mayBeTriple 4 = .ok (.iload_n 3, 1) := by decide +kernel
theorem dX6_mayBeTriple_5 : decode cX6_mayBeTriple 5 = .ok (.imul, 1) := by decide +kernel
theorem dX6_mayBeTriple_6 : decode cX6_mayBeTriple 6 = .ok (.isub, 1) := by decide +kernel
theorem dX6_mayBeTriple_7 : decode cX6_mayBeTriple 7 = .ok (.istore 4, 2) := by decide +kernel
theorem dX6_mayBeTriple_9 : decode cX6_mayBeTriple 9 = .ok (.iconst 2, 1) := by decide +kernel
theorem dX6_mayBeTriple_10 : decode cX6_mayBeTriple 10 = .ok (.iload_n 2, 1) := by decide +kernel
theorem dX6_mayBeTriple_11 : decode cX6_mayBeTriple 11 = .ok (.imul, 1) := by decide +kernel
theorem dX6_mayBeTriple_12 : decode cX6_mayBeTriple 12 = .ok (.iload_n 3, 1) := by decide +kernel
theorem dX6_mayBeTriple_13 : decode cX6_mayBeTriple 13 = .ok (.imul, 1) := by decide +kernel
theorem dX6_mayBeTriple_14 : decode cX6_mayBeTriple 14 = .ok (.istore 5, 2) := by decide +kernel
theorem dX6_mayBeTriple_16 : decode cX6_mayBeTriple 16 = .ok (.aload_n 0, 1) := by decide +kernel
theorem dX6_mayBeTriple_17 : decode cX6_mayBeTriple 17 = .ok (.iload_n 1, 1) := by decide +kernel
theorem dX6_mayBeTriple_18 : decode cX6_mayBeTriple 18 = .ok (.iconst 0, 1) := by decide +kernel
theorem dX6_mayBeTriple_19 : decode cX6_mayBeTriple 19 = .ok (.iload 4, 2) := by decide +kernel
theorem dX6_mayBeTriple_21 : decode cX6_mayBeTriple 21 = .ok (.iload 5, 2) := by decide +kernel
theorem dX6_mayBeTriple_23 : decode cX6_mayBeTriple 23 = .ok (.invokestatic 240, 3) := by decide +kernel
theorem dX6_mayBeTriple_26 : decode cX6_mayBeTriple 26 = .ok (.invokevirtual 245, 3) := by decide +kernel
theorem dX6_mayBeTriple_29 : decode cX6_mayBeTriple 29 = .ok (.ifCond .eq 39, 3) := by decide +kernel
theorem dX6_mayBeTriple_32 : decode cX6_mayBeTriple 32 = .ok (.aload_n 0, 1) := by decide +kernel
theorem dX6_mayBeTriple_33 : decode cX6_mayBeTriple 33 = .ok (.iload_n 1, 1) := by decide +kernel
theorem dX6_mayBeTriple_34 : decode cX6_mayBeTriple 34 = .ok (.iconst 1, 1) := by decide +kernel
theorem dX6_mayBeTriple_35 : decode cX6_mayBeTriple 35 = .ok (.iload 4, 2) := by decide +kernel
theorem dX6_mayBeTriple_37 : decode cX6_mayBeTriple 37 = .ok (.iload 5, 2) := by decide +kernel
theorem dX6_mayBeTriple_39 : decode cX6_mayBeTriple 39 = .ok (.invokestatic 249, 3) := by decide +kernel
theorem dX6_mayBeTriple_42 : decode cX6_mayBeTriple 42 = .ok (.invokevirtual 245, 3) := by decide +kernel
theorem dX6_mayBeTriple_45 : decode cX6_mayBeTriple 45 = .ok (.ifCond .eq 23, 3) := by decide +kernel
theorem dX6_mayBeTriple_48 : decode cX6_mayBeTriple 48 = .ok (.aload_n 0, 1) := by decide +kernel
theorem dX6_mayBeTriple_49 : decode cX6_mayBeTriple 49 = .ok (.iload_n 1, 1) := by decide +kernel
theorem dX6_mayBeTriple_50 : decode cX6_mayBeTriple 50 = .ok (.iconst 2, 1) := by decide +kernel
theorem dX6_mayBeTriple_51 : decode cX6_mayBeTriple 51 = .ok (.iload_n 2, 1) := by decide +kernel
theorem dX6_mayBeTriple_52 : decode cX6_mayBeTriple 52 = .ok (.iload_n 2, 1) := by decide +kernel
theorem dX6_mayBeTriple_53 : decode cX6_mayBeTriple 53 = .ok (.imul, 1) := by decide +kernel
theorem dX6_mayBeTriple_54 : decode cX6_mayBeTriple 54 = .ok (.iload_n 3, 1) := by decide +kernel
theorem dX6_mayBeTriple_55 : decode cX6_mayBeTriple 55 = .ok (.iload_n 3, 1) := by decide +kernel
theorem dX6_mayBeTriple_56 : decode cX6_mayBeTriple 56 = .ok (.imul, 1) := by decide +kernel
theorem dX6_mayBeTriple_57 : decode cX6_mayBeTriple 57 = .ok (.iadd, 1) := by decide +kernel
theorem dX6_mayBeTriple_58 : decode cX6_mayBeTriple 58 = .ok (.invokevirtual 245, 3) := by decide +kernel
theorem dX6_mayBeTriple_61 : decode cX6_mayBeTriple 61 = .ok (.ifCond .eq 7, 3) := by decide +kernel
theorem dX6_mayBeTriple_64 : decode cX6_mayBeTriple 64 = .ok (.iconst 1, 1) := by decide +kernel
theorem dX6_mayBeTriple_65 : decode cX6_mayBeTriple 65 = .ok (.goto 4, 3) := by decide +kernel
theorem dX6_mayBeTriple_68 : decode cX6_mayBeTriple 68 = .ok (.iconst 0, 1) := by decide +kernel
theorem dX6_mayBeTriple_69 : decode cX6_mayBeTriple 69 = .ok (.ireturn, 1) := by decide +kernel
theorem dX6_isInProblem_0 : decode cX6_isInProblem 0 = .ok (.iload_n 0, 1) := by decide +kernel
theorem dX6_isInProblem_1 : decode cX6_isInProblem 1 = .ok (.iconst 1, 1) := by decide +kernel
theorem dX6_isInProblem_2 : decode cX6_isInProblem 2 = .ok (.if_icmp .lt 13, 3) := by decide +kernel
theorem dX6_isInProblem_5 : decode cX6_isInProblem 5 = .ok (.iload_n 0, 1) := by decide +kernel
theorem dX6_isInProblem_6 : decode cX6_isInProblem 6 = .ok (.ldc 252, 2) := by decide +kernel
theorem dX6_isInProblem_8 : decode cX6_isInProblem 8 = .ok (.if_icmp .gt 7, 3) := by decide +kernel
theorem dX6_isInProblem_11 : decode cX6_isInProblem 11 = .ok (.iconst 1, 1) := by decide +kernel
theorem dX6_isInProblem_12 : decode cX6_isInProblem 12 = .ok (.goto 4, 3) := by decide +kernel
theorem dX6_isInProblem_15 : decode cX6_isInProblem 15 = .ok (.iconst 0, 1) := by decide +kernel
theorem dX6_isInProblem_16 : decode cX6_isInProblem 16 = .ok (.ireturn, 1) := by decide +kernel
theorem dX6_onlyAnswer_0 : decode cX6_onlyAnswer 0 = .ok (.lload_n 0, 1) := by decide +kernel
theorem dX6_onlyAnswer_1 : decode cX6_onlyAnswer 1 = .ok (.lconst 0, 1) := by decide +kernel
theorem dX6_onlyAnswer_2 : decode cX6_onlyAnswer 2 = .ok (.lcmp, 1) := by decide +kernel
theorem dX6_onlyAnswer_3 : decode cX6_onlyAnswer 3 = .ok (.ifCond .gt 7, 3) := by decide +kernel
theorem dX6_onlyAnswer_6 : decode cX6_onlyAnswer 6 = .ok (.ldc2_w 85, 3) := by decide +kernel
theorem dX6_onlyAnswer_9 : decode cX6_onlyAnswer 9 = .ok (.lreturn, 1) := by decide +kernel
theorem dX6_onlyAnswer_10 : decode cX6_onlyAnswer 10 = .ok (.iload_n 2, 1) := by decide +kernel
theorem dX6_onlyAnswer_11 : decode cX6_onlyAnswer 11 = .ok (.ifCond .ne 7, 3) := by decide +kernel
theorem dX6_onlyAnswer_14 : decode cX6_onlyAnswer 14 = .ok (.lload_n 0, 1) := by decide +kernel
theorem dX6_onlyAnswer_15 : decode cX6_onlyAnswer 15 = .ok (.goto 4, 3) := by decide +kernel
theorem dX6_onlyAnswer_18 : decode cX6_onlyAnswer 18 = .ok (.lconst 0, 1) := by decide +kernel
theorem dX6_onlyAnswer_19 : decode cX6_onlyAnswer 19 = .ok (.lreturn, 1) := by decide +kernel
theorem dX6_sideOf_0 : decode cX6_sideOf 0 = .ok (.lload_n 0, 1) := by decide +kernel
theorem dX6_sideOf_1 : decode cX6_sideOf 1 = .ok (.lconst 0, 1) := by decide +kernel
theorem dX6_sideOf_2 : decode cX6_sideOf 2 = .ok (.lcmp, 1) := by decide +kernel
theorem dX6_sideOf_3 : decode cX6_sideOf 3 = .ok (.ifCond .lt 21, 3) := by decide +kernel
theorem dX6_sideOf_6 : decode cX6_sideOf 6 = .ok (.lload_n 2, 1) := by decide +kernel
theorem dX6_sideOf_7 : decode cX6_sideOf 7 = .ok (.lload_n 0, 1) := by decide +kernel
theorem dX6_sideOf_8 : decode cX6_sideOf 8 = .ok (.lcmp, 1) := by decide +kernel
theorem dX6_sideOf_9 : decode cX6_sideOf 9 = .ok (.ifCond .le 15, 3) := by decide +kernel
theorem dX6_sideOf_12 : decode cX6_sideOf 12 = .ok (.lload_n 2, 1) := by decide +kernel
theorem dX6_sideOf_13 : decode cX6_sideOf 13 = .ok (.lload_n 0, 1) := by decide +kernel
theorem dX6_sideOf_14 : decode cX6_sideOf 14 = .ok (.lsub, 1) := by decide +kernel
theorem dX6_sideOf_15 : decode cX6_sideOf 15 = .ok (.ldc2_w 253, 3) := by decide +kernel
theorem dX6_sideOf_18 : decode cX6_sideOf 18 = .ok (.lrem, 1) := by decide +kernel
theorem dX6_sideOf_19 : decode cX6_sideOf 19 = .ok (.lconst 0, 1) := by decide +kernel
theorem dX6_sideOf_20 : decode cX6_sideOf 20 = .ok (.lcmp, 1) := by decide +kernel
theorem dX6_sideOf_21 : decode cX6_sideOf 21 = .ok (.ifCond .eq 7, 3) := by decide +kernel
theorem dX6_sideOf_24 : decode cX6_sideOf 24 = .ok (.ldc2_w 85, 3) := by decide +kernel
theorem dX6_sideOf_27 : decode cX6_sideOf 27 = .ok (.lreturn, 1) := by decide +kernel
theorem dX6_sideOf_28 : decode cX6_sideOf 28 = .ok (.iload 4, 2) := by decide +kernel
theorem dX6_sideOf_30 : decode cX6_sideOf 30 = .ok (.ifCond .ne 13, 3) := by decide +kernel
theorem dX6_sideOf_33 : decode cX6_sideOf 33 = .ok (.lload_n 2, 1) := by decide +kernel
theorem dX6_sideOf_34 : decode cX6_sideOf 34 = .ok (.lload_n 0, 1) := by decide +kernel
theorem dX6_sideOf_35 : decode cX6_sideOf 35 = .ok (.ladd, 1) := by decide +kernel
theorem dX6_sideOf_36 : decode cX6_sideOf 36 = .ok (.ldc2_w 253, 3) := by decide +kernel
theorem dX6_sideOf_39 : decode cX6_sideOf 39 = .ok (.ldiv, 1) := by decide +kernel
theorem dX6_sideOf_40 : decode cX6_sideOf 40 = .ok (.goto 10, 3) := by decide +kernel
theorem dX6_sideOf_43 : decode cX6_sideOf 43 = .ok (.lload_n 2, 1) := by decide +kernel
theorem dX6_sideOf_44 : decode cX6_sideOf 44 = .ok (.lload_n 0, 1) := by decide +kernel
theorem dX6_sideOf_45 : decode cX6_sideOf 45 = .ok (.lsub, 1) := by decide +kernel
theorem dX6_sideOf_46 : decode cX6_sideOf 46 = .ok (.ldc2_w 253, 3) := by decide +kernel
theorem dX6_sideOf_49 : decode cX6_sideOf 49 = .ok (.ldiv, 1) := by decide +kernel
theorem dX6_sideOf_50 : decode cX6_sideOf 50 = .ok (.lreturn, 1) := by decide +kernel
set_option maxRecDepth 20000 in
theorem ggX6_wholeRoot_X1_floorRoot : GoodIn wsX6_wholeRoot wsX1_floorRoot := goodIn_r _ [5, 6, 7] (by decide +kernel) (by decide +kernel)
set_option maxRecDepth 20000 in
theorem gX6_wholeRoot_X1_floorRoot : GoodIn wsX6_wholeRoot (va_wsS RX6 102 yX1_floorRoot wsX1_floorRoot) := goodIn_app (goodIn_of _ (by decide +kernel)) ggX6_wholeRoot_X1_floorRoot
theorem dX6_wholeRoot_0 : decode cX6_wholeRoot 0 = .ok (.lload_n 0, 1) := by decide +kernel
theorem dX6_wholeRoot_1 : decode cX6_wholeRoot 1 = .ok (.lconst 0, 1) := by decide +kernel
theorem dX6_wholeRoot_2 : decode cX6_wholeRoot 2 = .ok (.lcmp, 1) := by decide +kernel
theorem dX6_wholeRoot_3 : decode cX6_wholeRoot 3 = .ok (.ifCond .ge 7, 3) := by decide +kernel
theorem dX6_wholeRoot_6 : decode cX6_wholeRoot 6 = .ok (.ldc2_w 140, 3) := by decide +kernel
theorem dX6_wholeRoot_9 : decode cX6_wholeRoot 9 = .ok (.lreturn, 1) := by decide +kernel
theorem dX6_wholeRoot_10 : decode cX6_wholeRoot 10 = .ok (.lload_n 0, 1) := by decide +kernel
theorem dX6_wholeRoot_11 : decode cX6_wholeRoot 11 = .ok (.invokestatic 102, 3) := by decide +kernel
theorem dX6_wholeRoot_14 : decode cX6_wholeRoot 14 = .ok (.lstore_n 2, 1) := by decide +kernel
theorem dX6_wholeRoot_15 : decode cX6_wholeRoot 15 = .ok (.lload_n 2, 1) := by decide +kernel
theorem dX6_wholeRoot_16 : decode cX6_wholeRoot 16 = .ok (.lload_n 2, 1) := by decide +kernel
theorem dX6_wholeRoot_17 : decode cX6_wholeRoot 17 = .ok (.lmul, 1) := by decide +kernel
theorem dX6_wholeRoot_18 : decode cX6_wholeRoot 18 = .ok (.lload_n 0, 1) := by decide +kernel
theorem dX6_wholeRoot_19 : decode cX6_wholeRoot 19 = .ok (.lcmp, 1) := by decide +kernel
theorem dX6_wholeRoot_20 : decode cX6_wholeRoot 20 = .ok (.ifCond .ne 7, 3) := by decide +kernel
theorem dX6_wholeRoot_23 : decode cX6_wholeRoot 23 = .ok (.lload_n 2, 1) := by decide +kernel
theorem dX6_wholeRoot_24 : decode cX6_wholeRoot 24 = .ok (.goto 6, 3) := by decide +kernel
theorem dX6_wholeRoot_27 : decode cX6_wholeRoot 27 = .ok (.ldc2_w 140, 3) := by decide +kernel
theorem dX6_wholeRoot_30 : decode cX6_wholeRoot 30 = .ok (.lreturn, 1) := by decide +kernel
set_option maxRecDepth 20000 in
theorem ggX6_share_X4_isEven : GoodIn wsX6_share wsX4_isEven := goodIn_r _ [6, 7, 8, 5, 9] (by decide +kernel) (by decide +kernel)
set_option maxRecDepth 20000 in
theorem gX6_share_X4_isEven : GoodIn wsX6_share (va_wsS RX6 80 yX4_isEven wsX4_isEven) := goodIn_app (goodIn_of _ (by decide +kernel)) ggX6_share_X4_isEven
set_option maxRecDepth 20000 in
theorem ggX6_share_X4_turnOver : GoodIn wsX6_share wsX4_turnOver := goodIn_r _ [12, 13, 14, 15, 16, 17, 18, 5, 19, 20, 21, 22, 23, 24, 25, 26] (by decide +kernel) (by decide +kernel)
set_option maxRecDepth 20000 in
theorem gX6_share_X4_turnOver : GoodIn wsX6_share (va_wsS RX6 87 yX4_turnOver wsX4_turnOver) := goodIn_app (goodIn_of _ (by decide +kernel)) ggX6_share_X4_turnOver
set_option maxRecDepth 20000 in
theorem ggX6_share_X1_strip : GoodIn wsX6_share wsX1_strip := goodIn_r _ [30, 31] (by decide +kernel) (by decide +kernel)
set_option maxRecDepth 20000 in
theorem gX6_share_X1_strip : GoodIn wsX6_share (va_wsS RX6 44 yX1_strip wsX1_strip) := goodIn_app (goodIn_of _ (by decide +kernel)) ggX6_share_X1_strip
theorem dX6_share_0 : decode cX6_share 0 = .ok (.lload_n 2, 1) := by decide +kernel
theorem dX6_share_1 : decode cX6_share 1 = .ok (.invokestatic 80, 3) := by decide +kernel
theorem dX6_share_4 : decode cX6_share 4 = .ok (.ifCond .ne 5, 3) := by decide +kernel
theorem dX6_share_7 : decode cX6_share 7 = .ok (.lconst 0, 1) := by decide +kernel
theorem dX6_share_8 : decode cX6_share 8 = .ok (.lreturn, 1) := by decide +kernel
theorem dX6_share_9 : decode cX6_share 9 = .ok (.lload_n 2, 1) := by decide +kernel
theorem dX6_share_10 : decode cX6_share 10 = .ok (.invokestatic 87, 3) := by decide +kernel
theorem dX6_share_13 : decode cX6_share 13 = .ok (.lstore 4, 2) := by decide +kernel
theorem dX6_share_15 : decode cX6_share 15 = .ok (.lload_n 0, 1) := by decide +kernel
theorem dX6_share_16 : decode cX6_share 16 = .ok (.invokestatic 44, 3) := by decide +kernel
theorem dX6_share_19 : decode cX6_share 19 = .ok (.lstore 6, 2) := by decide +kernel
theorem dX6_share_21 : decode cX6_share 21 = .ok (.lload 4, 2) := by decide +kernel
theorem dX6_share_23 : decode cX6_share 23 = .ok (.ldc2_w 76, 3) := by decide +kernel
theorem dX6_share_26 : decode cX6_share 26 = .ok (.lcmp, 1) := by decide +kernel
theorem dX6_share_27 : decode cX6_share 27 = .ok (.ifCond .ge 22, 3) := by decide +kernel
theorem dX6_share_30 : decode cX6_share 30 = .ok (.lload 6, 2) := by decide +kernel
theorem dX6_share_32 : decode cX6_share 32 = .ok (.lconst 1, 1) := by decide +kernel
theorem dX6_share_33 : decode cX6_share 33 = .ok (.lcmp, 1) := by decide +kernel
theorem dX6_share_34 : decode cX6_share 34 = .ok (.ifCond .lt 15, 3) := by decide +kernel
theorem dX6_share_37 : decode cX6_share 37 = .ok (.lload 4, 2) := by decide +kernel
theorem dX6_share_39 : decode cX6_share 39 = .ok (.ldc2_w 255, 3) := by decide +kernel
theorem dX6_share_42 : decode cX6_share 42 = .ok (.lload 6, 2) := by decide +kernel
theorem dX6_share_44 : decode cX6_share 44 = .ok (.ldiv, 1) := by decide +kernel
theorem dX6_share_45 : decode cX6_share 45 = .ok (.lcmp, 1) := by decide +kernel
theorem dX6_share_46 : decode cX6_share 46 = .ok (.ifCond .le 5, 3) := by decide +kernel
theorem dX6_share_49 : decode cX6_share 49 = .ok (.lconst 0, 1) := by decide +kernel
theorem dX6_share_50 : decode cX6_share 50 = .ok (.lreturn, 1) := by decide +kernel
theorem dX6_share_51 : decode cX6_share 51 = .ok (.lload 4, 2) := by decide +kernel
theorem dX6_share_53 : decode cX6_share 53 = .ok (.lload 6, 2) := by decide +kernel
theorem dX6_share_55 : decode cX6_share 55 = .ok (.lmul, 1) := by decide +kernel
theorem dX6_share_56 : decode cX6_share 56 = .ok (.invokestatic 44, 3) := by decide +kernel
theorem dX6_share_59 : decode cX6_share 59 = .ok (.lreturn, 1) := by decide +kernel
