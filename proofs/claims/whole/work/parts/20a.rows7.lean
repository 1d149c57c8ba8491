theorem dX7_init_0 : decode cX7_init 0 = .ok (.aload_n 0, 1) := by decide +kernel
theorem dX7_init_1 : decode cX7_init 1 = .ok (.invokespecial 1, 3) := by decide +kernel
theorem dX7_init_4 : decode cX7_init 4 = .ok (.aload_n 0, 1) := by decide +kernel
theorem dX7_init_5 : decode cX7_init 5 = .ok (.bipush 16, 2) := by decide +kernel
theorem dX7_init_7 : decode cX7_init 7 = .ok (.newarray .int, 2) := by decide +kernel
theorem dX7_init_9 : decode cX7_init 9 = .ok (.putfield 7, 3) := by decide +kernel
theorem dX7_init_12 : decode cX7_init 12 = .ok (.aload_n 0, 1) := by decide +kernel
theorem dX7_init_13 : decode cX7_init 13 = .ok (.bipush 16, 2) := by decide +kernel
theorem dX7_init_15 : decode cX7_init 15 = .ok (.newarray .int, 2) := by decide +kernel
theorem dX7_init_17 : decode cX7_init 17 = .ok (.putfield 13, 3) := by decide +kernel
theorem dX7_init_20 : decode cX7_init 20 = .ok (.aload_n 0, 1) := by decide +kernel
theorem dX7_init_21 : decode cX7_init 21 = .ok (.bipush 16, 2) := by decide +kernel
theorem dX7_init_23 : decode cX7_init 23 = .ok (.newarray .int, 2) := by decide +kernel
theorem dX7_init_25 : decode cX7_init 25 = .ok (.putfield 16, 3) := by decide +kernel
theorem dX7_init_28 : decode cX7_init 28 = .ok (.aload_n 0, 1) := by decide +kernel
theorem dX7_init_29 : decode cX7_init 29 = .ok (.bipush 16, 2) := by decide +kernel
theorem dX7_init_31 : decode cX7_init 31 = .ok (.newarray .int, 2) := by decide +kernel
theorem dX7_init_33 : decode cX7_init 33 = .ok (.putfield 19, 3) := by decide +kernel
theorem dX7_init_36 : decode cX7_init 36 = .ok (.aload_n 0, 1) := by decide +kernel
theorem dX7_init_37 : decode cX7_init 37 = .ok (.iconst 5, 1) := by decide +kernel
theorem dX7_init_38 : decode cX7_init 38 = .ok (.newarray .int, 2) := by decide +kernel
theorem dX7_init_40 : decode cX7_init 40 = .ok (.putfield 22, 3) := by decide +kernel
theorem dX7_init_43 : decode cX7_init 43 = .ok (.aload_n 0, 1) := by decide +kernel
theorem dX7_init_44 : decode cX7_init 44 = .ok (.iconst 4, 1) := by decide +kernel
theorem dX7_init_45 : decode cX7_init 45 = .ok (.newarray .int, 2) := by decide +kernel
theorem dX7_init_47 : decode cX7_init 47 = .ok (.putfield 25, 3) := by decide +kernel
theorem dX7_init_50 : decode cX7_init 50 = .ok (.aload_n 0, 1) := by decide +kernel
theorem dX7_init_51 : decode cX7_init 51 = .ok (.bipush 96, 2) := by decide +kernel
theorem dX7_init_53 : decode cX7_init 53 = .ok (.newarray .int, 2) := by decide +kernel
theorem dX7_init_55 : decode cX7_init 55 = .ok (.putfield 28, 3) := by decide +kernel
theorem dX7_init_58 : decode cX7_init 58 = .ok (.aload_n 0, 1) := by decide +kernel
theorem dX7_init_59 : decode cX7_init 59 = .ok (.bipush 29, 2) := by decide +kernel
theorem dX7_init_61 : decode cX7_init 61 = .ok (.newarray .int, 2) := by decide +kernel
theorem dX7_init_63 : decode cX7_init 63 = .ok (.putfield 31, 3) := by decide +kernel
theorem dX7_init_66 : decode cX7_init 66 = .ok (.aload_n 0, 1) := by decide +kernel
theorem dX7_init_67 : decode cX7_init 67 = .ok (.bipush 24, 2) := by decide +kernel
theorem dX7_init_69 : decode cX7_init 69 = .ok (.newarray .int, 2) := by decide +kernel
theorem dX7_init_71 : decode cX7_init 71 = .ok (.putfield 34, 3) := by decide +kernel
theorem dX7_init_74 : decode cX7_init 74 = .ok (.iconst 0, 1) := by decide +kernel
theorem dX7_init_75 : decode cX7_init 75 = .ok (.istore_n 1, 1) := by decide +kernel
theorem dX7_init_76 : decode cX7_init 76 = .ok (.iload_n 1, 1) := by decide +kernel
theorem dX7_init_77 : decode cX7_init 77 = .ok (.iconst 4, 1) := by decide +kernel
theorem dX7_init_78 : decode cX7_init 78 = .ok (.if_icmp .ge 16, 3) := by decide +kernel
theorem dX7_init_81 : decode cX7_init 81 = .ok (.aload_n 0, 1) := by decide +kernel
theorem dX7_init_82 : decode cX7_init 82 = .ok (.getfield 25, 3) := by decide +kernel
theorem dX7_init_85 : decode cX7_init 85 = .ok (.iload_n 1, 1) := by decide +kernel
theorem dX7_init_86 : decode cX7_init 86 = .ok (.iconst 1, 1) := by decide +kernel
theorem dX7_init_87 : decode cX7_init 87 = .ok (.iastore, 1) := by decide +kernel
theorem dX7_init_88 : decode cX7_init 88 = .ok (.iinc 1 1, 3) := by decide +kernel
theorem dX7_init_91 : decode cX7_init 91 = .ok (.goto (-15), 3) := by decide +kernel
theorem dX7_init_94 : decode cX7_init 94 = .ok (.return_, 1) := by decide +kernel
theorem dX7_in_0 : decode cX7_in 0 = .ok (.lload_n 0, 1) := by decide +kernel
theorem dX7_in_1 : decode cX7_in 1 = .ok (.lload_n 2, 1) := by decide +kernel
theorem dX7_in_2 : decode cX7_in 2 = .ok (.lcmp, 1) := by decide +kernel
theorem dX7_in_3 : decode cX7_in 3 = .ok (.ifCond .lt 14, 3) := by decide +kernel
theorem dX7_in_6 : decode cX7_in 6 = .ok (.lload_n 0, 1) := by decide +kernel
theorem dX7_in_7 : decode cX7_in 7 = .ok (.lload 4, 2) := by decide +kernel
theorem dX7_in_9 : decode cX7_in 9 = .ok (.lcmp, 1) := by decide +kernel
theorem dX7_in_10 : decode cX7_in 10 = .ok (.ifCond .gt 7, 3) := by decide +kernel
theorem dX7_in_13 : decode cX7_in 13 = .ok (.iconst 1, 1) := by decide +kernel
theorem dX7_in_14 : decode cX7_in 14 = .ok (.goto 4, 3) := by decide +kernel
theorem dX7_in_17 : decode cX7_in 17 = .ok (.iconst 0, 1) := by decide +kernel
theorem dX7_in_18 : decode cX7_in 18 = .ok (.ireturn, 1) := by decide +kernel
set_option maxRecDepth 20000 in
theorem ggX7_isGiven_X7_in : GoodIn wsX7_isGiven wsX7_in := goodIn_r _ [5] (by decide +kernel) (by decide +kernel)
set_option maxRecDepth 20000 in
theorem gX7_isGiven_X7_in : GoodIn wsX7_isGiven (va_wsS RX7 39 yX7_in wsX7_in) := goodIn_app (goodIn_of _ (by decide +kernel)) ggX7_isGiven_X7_in
theorem dX7_isGiven_0 : decode cX7_isGiven 0 = .ok (.lload_n 0, 1) := by decide +kernel
theorem dX7_isGiven_1 : decode cX7_isGiven 1 = .ok (.lconst 1, 1) := by decide +kernel
theorem dX7_isGiven_2 : decode cX7_isGiven 2 = .ok (.ldc2_w 37, 3) := by decide +kernel
theorem dX7_isGiven_5 : decode cX7_isGiven 5 = .ok (.invokestatic 39, 3) := by decide +kernel
theorem dX7_isGiven_8 : decode cX7_isGiven 8 = .ok (.ireturn, 1) := by decide +kernel
theorem dX7_power_0 : decode cX7_power 0 = .ok (.lconst 1, 1) := by decide +kernel
theorem dX7_power_1 : decode cX7_power 1 = .ok (.lstore_n 1, 1) := by decide +kernel
theorem dX7_power_2 : decode cX7_power 2 = .ok (.iconst 0, 1) := by decide +kernel
theorem dX7_power_3 : decode cX7_power 3 = .ok (.istore_n 3, 1) := by decide +kernel
theorem dX7_power_4 : decode cX7_power 4 = .ok (.iload_n 3, 1) := by decide +kernel
theorem dX7_power_5 : decode cX7_power 5 = .ok (.iload_n 0, 1) := by decide +kernel
theorem dX7_power_6 : decode cX7_power 6 = .ok (.if_icmp .ge 15, 3) := by decide +kernel
theorem dX7_power_9 : decode cX7_power 9 = .ok (.lload_n 1, 1) := by decide +kernel
theorem dX7_power_10 : decode cX7_power 10 = .ok (.ldc2_w 43, 3) := by decide +kernel
theorem dX7_power_13 : decode cX7_power 13 = .ok (.lmul, 1) := by decide +kernel
theorem dX7_power_14 : decode cX7_power 14 = .ok (.lstore_n 1, 1) := by decide +kernel
theorem dX7_power_15 : decode cX7_power 15 = .ok (.iinc 3 1, 3) := by decide +kernel
theorem dX7_power_18 : decode cX7_power 18 = .ok (.goto (-14), 3) := by decide +kernel
theorem dX7_power_21 : decode cX7_power 21 = .ok (.lload_n 1, 1) := by decide +kernel
theorem dX7_power_22 : decode cX7_power 22 = .ok (.lreturn, 1) := by decide +kernel
theorem dX7_sixtyOf_0 : decode cX7_sixtyOf 0 = .ok (.lload_n 0, 1) := by decide +kernel
theorem dX7_sixtyOf_1 : decode cX7_sixtyOf 1 = .ok (.lstore_n 2, 1) := by decide +kernel
theorem dX7_sixtyOf_2 : decode cX7_sixtyOf 2 = .ok (.lload_n 2, 1) := by decide +kernel
theorem dX7_sixtyOf_3 : decode cX7_sixtyOf 3 = .ok (.ldc2_w 43, 3) := by decide +kernel
theorem dX7_sixtyOf_6 : decode cX7_sixtyOf 6 = .ok (.lrem, 1) := by decide +kernel
theorem dX7_sixtyOf_7 : decode cX7_sixtyOf 7 = .ok (.lconst 0, 1) := by decide +kernel
theorem dX7_sixtyOf_8 : decode cX7_sixtyOf 8 = .ok (.lcmp, 1) := by decide +kernel
theorem dX7_sixtyOf_9 : decode cX7_sixtyOf 9 = .ok (.ifCond .ne 12, 3) := by decide +kernel
theorem dX7_sixtyOf_12 : decode cX7_sixtyOf 12 = .ok (.lload_n 2, 1) := by decide +kernel
theorem dX7_sixtyOf_13 : decode cX7_sixtyOf 13 = .ok (.ldc2_w 43, 3) := by decide +kernel
theorem dX7_sixtyOf_16 : decode cX7_sixtyOf 16 = .ok (.ldiv, 1) := by decide +kernel
theorem dX7_sixtyOf_17 : decode cX7_sixtyOf 17 = .ok (.lstore_n 2, 1) := by decide +kernel
theorem dX7_sixtyOf_18 : decode cX7_sixtyOf 18 = .ok (.goto (-16), 3) := by decide +kernel
theorem dX7_sixtyOf_21 : decode cX7_sixtyOf 21 = .ok (.lload_n 2, 1) := by decide +kernel
theorem dX7_sixtyOf_22 : decode cX7_sixtyOf 22 = .ok (.lreturn, 1) := by decide +kernel
theorem dX7_digits_0 : decode cX7_digits 0 = .ok (.iconst 0, 1) := by decide +kernel
theorem dX7_digits_1 : decode cX7_digits 1 = .ok (.istore_n 2, 1) := by decide +kernel
theorem dX7_digits_2 : decode cX7_digits 2 = .ok (.lload_n 0, 1) := by decide +kernel
theorem dX7_digits_3 : decode cX7_digits 3 = .ok (.lstore_n 3, 1) := by decide +kernel
theorem dX7_digits_4 : decode cX7_digits 4 = .ok (.lload_n 3, 1) := by decide +kernel
theorem dX7_digits_5 : decode cX7_digits 5 = .ok (.lconst 0, 1) := by decide +kernel
theorem dX7_digits_6 : decode cX7_digits 6 = .ok (.lcmp, 1) := by decide +kernel
theorem dX7_digits_7 : decode cX7_digits 7 = .ok (.ifCond .le 15, 3) := by decide +kernel
theorem dX7_digits_10 : decode cX7_digits 10 = .ok (.iinc 2 1, 3) := by decide +kernel
theorem dX7_digits_13 : decode cX7_digits 13 = .ok (.lload_n 3, 1) := by decide +kernel
theorem dX7_digits_14 : decode cX7_digits 14 = .ok (.ldc2_w 43, 3) := by decide +kernel
theorem dX7_digits_17 : decode cX7_digits 17 = .ok (.ldiv, 1) := by decide +kernel
theorem dX7_digits_18 : decode cX7_digits 18 = .ok (.lstore_n 3, 1) := by decide +kernel
theorem dX7_digits_19 : decode cX7_digits 19 = .ok (.goto (-15), 3) := by decide +kernel
theorem dX7_digits_22 : decode cX7_digits 22 = .ok (.iload_n 2, 1) := by decide +kernel
theorem dX7_digits_23 : decode cX7_digits 23 = .ok (.ireturn, 1) := by decide +kernel
set_option maxRecDepth 20000 in
theorem ggX7_digitAt_X7_power : GoodIn wsX7_digitAt wsX7_power := goodIn_r _ [5, 1] (by decide +kernel) (by decide +kernel)
set_option maxRecDepth 20000 in
theorem gX7_digitAt_X7_power : GoodIn wsX7_digitAt (va_wsS RX7 45 yX7_power wsX7_power) := goodIn_app (goodIn_of _ (by decide +kernel)) ggX7_digitAt_X7_power
theorem dX7_digitAt_0 : decode cX7_digitAt 0 = .ok (.lload_n 0, 1) := by decide +kernel
theorem dX7_digitAt_1 : decode cX7_digitAt 1 = .ok (.iload_n 2, 1) := by decide +kernel
theorem dX7_digitAt_2 : decode cX7_digitAt 2 = .ok (.invokestatic 45, 3) := by decide +kernel
theorem dX7_digitAt_5 : decode cX7_digitAt 5 = .ok (.ldiv, 1) := by decide +kernel
theorem dX7_digitAt_6 : decode cX7_digitAt 6 = .ok (.ldc2_w 43, 3) := by decide +kernel
theorem dX7_digitAt_9 : decode cX7_digitAt 9 = .ok (.lrem, 1) := by decide +kernel
theorem dX7_digitAt_10 : decode cX7_digitAt 10 = .ok (.l2i, 1) := by decide +kernel
theorem dX7_digitAt_11 : decode cX7_digitAt 11 = .ok (.ireturn, 1) := by decide +kernel
set_option maxRecDepth 20000 in
theorem ggX7_sixty_X7_isGiven : GoodIn wsX7_sixty wsX7_isGiven := goodIn_r _ [5, 6, 7, 8, 4, 9] (by decide +kernel) (by decide +kernel)
set_option maxRecDepth 20000 in
theorem gX7_sixty_X7_isGiven : GoodIn wsX7_sixty (va_wsS RX7 49 yX7_isGiven wsX7_isGiven) := goodIn_app (goodIn_of _ (by decide +kernel)) ggX7_sixty_X7_isGiven
set_option maxRecDepth 20000 in
theorem ggX7_sixty_X7_sixtyOf : GoodIn wsX7_sixty wsX7_sixtyOf := goodIn_r _ [12, 13] (by decide +kernel) (by decide +kernel)
set_option maxRecDepth 20000 in
theorem gX7_sixty_X7_sixtyOf : GoodIn wsX7_sixty (va_wsS RX7 53 yX7_sixtyOf wsX7_sixtyOf) := goodIn_app (goodIn_of _ (by decide +kernel)) ggX7_sixty_X7_sixtyOf
theorem dX7_sixty_0 : decode cX7_sixty 0 = .ok (.lload_n 1, 1) := by decide +kernel
theorem dX7_sixty_1 : decode cX7_sixty 1 = .ok (.invokestatic 49, 3) := by decide +kernel
theorem dX7_sixty_4 : decode cX7_sixty 4 = .ok (.ifCond .eq 10, 3) := by decide +kernel
theorem dX7_sixty_7 : decode cX7_sixty 7 = .ok (.lload_n 1, 1) := by decide +kernel
theorem dX7_sixty_8 : decode cX7_sixty 8 = .ok (.invokestatic 53, 3) := by decide +kernel
theorem dX7_sixty_11 : decode cX7_sixty 11 = .ok (.goto 6, 3) := by decide +kernel
theorem dX7_sixty_14 : decode cX7_sixty 14 = .ok (.ldc2_w 57, 3) := by decide +kernel
theorem dX7_sixty_17 : decode cX7_sixty 17 = .ok (.lreturn, 1) := by decide +kernel
set_option maxRecDepth 20000 in
theorem ggX7_digit_X7_isGiven : GoodIn wsX7_digit wsX7_isGiven := goodIn_r _ [4, 5, 6, 7, 3, 8] (by decide +kernel) (by decide +kernel)
set_option maxRecDepth 20000 in
theorem gX7_digit_X7_isGiven : GoodIn wsX7_digit (va_wsS RX7 49 yX7_isGiven wsX7_isGiven) := goodIn_app (goodIn_of _ (by decide +kernel)) ggX7_digit_X7_isGiven
set_option maxRecDepth 20000 in
theorem ggX7_digit_X7_sixtyOf : GoodIn wsX7_digit wsX7_sixtyOf := goodIn_r _ [11, 12] (by decide +kernel) (by decide +kernel)
set_option maxRecDepth 20000 in
theorem gX7_digit_X7_sixtyOf : GoodIn wsX7_digit (va_wsS RX7 53 yX7_sixtyOf wsX7_sixtyOf) := goodIn_app (goodIn_of _ (by decide +kernel)) ggX7_digit_X7_sixtyOf
set_option maxRecDepth 20000 in
theorem ggX7_digit_X7_digits : GoodIn wsX7_digit wsX7_digits := goodIn_r _ [15, 12] (by decide +kernel) (by decide +kernel)
set_option maxRecDepth 20000 in
theorem gX7_digit_X7_digits : GoodIn wsX7_digit (va_wsS RX7 59 yX7_digits wsX7_digits) := goodIn_app (goodIn_of _ (by decide +kernel)) ggX7_digit_X7_digits
set_option maxRecDepth 20000 in
theorem ggX7_digit_X7_in : GoodIn wsX7_digit wsX7_in := goodIn_r _ [8] (by decide +kernel) (by decide +kernel)
set_option maxRecDepth 20000 in
theorem gX7_digit_X7_in : GoodIn wsX7_digit (va_wsS RX7 39 yX7_in wsX7_in) := goodIn_app (goodIn_of _ (by decide +kernel)) ggX7_digit_X7_in
set_option maxRecDepth 20000 in
theorem ggX7_digit_X7_digitAt : GoodIn wsX7_digit wsX7_digitAt := goodIn_r _ [18, 12, 19, 20, 3, 21] (by decide +kernel) (by decide +kernel)
set_option maxRecDepth 20000 in
theorem gX7_digit_X7_digitAt : GoodIn wsX7_digit (va_wsS RX7 63 yX7_digitAt wsX7_digitAt) := goodIn_app (goodIn_of _ (by decide +kernel)) ggX7_digit_X7_digitAt
theorem dX7_digit_0 : decode cX7_digit 0 = .ok (.lload_n 1, 1) := by decide +kernel
theorem dX7_digit_1 : decode cX7_digit 1 = .ok (.invokestatic 49, 3) := by decide +kernel
theorem dX7_digit_4 : decode cX7_digit 4 = .ok (.ifCond .ne 6, 3) := by decide +kernel
theorem dX7_digit_7 : decode cX7_digit 7 = .ok (.bipush (-2), 2) := by decide +kernel
theorem dX7_digit_9 : decode cX7_digit 9 = .ok (.ireturn, 1) := by decide +kernel
theorem dX7_digit_10 : decode cX7_digit 10 = .ok (.lload_n 1, 1) := by decide +kernel
theorem dX7_digit_11 : decode cX7_digit 11 = .ok (.invokestatic 53, 3) := by decide +kernel
theorem dX7_digit_14 : decode cX7_digit 14 = .ok (.lstore 4, 2) := by decide +kernel
theorem dX7_digit_16 : decode cX7_digit 16 = .ok (.lload 4, 2) := by decide +kernel
theorem dX7_digit_18 : decode cX7_digit 18 = .ok (.invokestatic 59, 3) := by decide +kernel
theorem dX7_digit_21 : decode cX7_digit 21 = .ok (.istore 6, 2) := by decide +kernel
theorem dX7_digit_23 : decode cX7_digit 23 = .ok (.iload_n 3, 1) := by decide +kernel
theorem dX7_digit_24 : decode cX7_digit 24 = .ok (.iconst (-1), 1) := by decide +kernel
theorem dX7_digit_25 : decode cX7_digit 25 = .ok (.if_icmp .ne 8, 3) := by decide +kernel
theorem dX7_digit_28 : decode cX7_digit 28 = .ok (.iload 6, 2) := by decide +kernel
theorem dX7_digit_30 : decode cX7_digit 30 = .ok (.goto 33, 3) := by decide +kernel
theorem dX7_digit_33 : decode cX7_digit 33 = .ok (.iload_n 3, 1) := by decide +kernel
theorem dX7_digit_34 : decode cX7_digit 34 = .ok (.i2l, 1) := by decide +kernel
theorem dX7_digit_35 : decode cX7_digit 35 = .ok (.lconst 0, 1) := by decide +kernel
theorem dX7_digit_36 : decode cX7_digit 36 = .ok (.iload 6, 2) := by decide +kernel
theorem dX7_digit_38 : decode cX7_digit 38 = .ok (.iconst 1, 1) := by decide +kernel
theorem dX7_digit_39 : decode cX7_digit 39 = .ok (.isub, 1) := by decide +kernel
theorem dX7_digit_40 : decode cX7_digit 40 = .ok (.i2l, 1) := by decide +kernel
theorem dX7_digit_41 : decode cX7_digit 41 = .ok (.invokestatic 39, 3) := by decide +kernel
theorem dX7_digit_44 : decode cX7_digit 44 = .ok (.ifCond .eq 17, 3) := by decide +kernel
theorem dX7_digit_47 : decode cX7_digit 47 = .ok (.lload 4, 2) := by decide +kernel
theorem dX7_digit_49 : decode cX7_digit 49 = .ok (.iload 6, 2) := by decide +kernel
theorem dX7_digit_51 : decode cX7_digit 51 = .ok (.iconst 1, 1) := by decide +kernel
theorem dX7_digit_52 : decode cX7_digit 52 = .ok (.isub, 1) := by decide +kernel
theorem dX7_digit_53 : decode cX7_digit 53 = .ok (.iload_n 3, 1) := by decide +kernel
theorem dX7_digit_54 : decode cX7_digit 54 = .ok (.isub, 1) := by decide +kernel
theorem dX7_digit_55 : decode cX7_digit 55 = .ok (.invokestatic 63, 3) := by decide +kernel
theorem dX7_digit_58 : decode cX7_digit 58 = .ok (.goto 5, 3) := by decide +kernel
theorem dX7_digit_61 : decode cX7_digit 61 = .ok (.bipush (-6), 2) := by decide +kernel
theorem dX7_digit_63 : decode cX7_digit 63 = .ok (.ireturn, 1) := by decide +kernel
set_option maxRecDepth 20000 in
theorem ggX7_sightOf_X7_digits : GoodIn wsX7_sightOf wsX7_digits := goodIn_r _ [4, 5] (by decide +kernel) (by decide +kernel)
set_option maxRecDepth 20000 in
theorem gX7_sightOf_X7_digits : GoodIn wsX7_sightOf (va_wsS RX7 59 yX7_digits wsX7_digits) := goodIn_app (goodIn_of _ (by decide +kernel)) ggX7_sightOf_X7_digits
set_option maxRecDepth 20000 in
theorem ggX7_sightOf_X7_digitAt : GoodIn wsX7_sightOf wsX7_digitAt := goodIn_r _ [8, 5, 9, 10, 3, 11] (by decide +kernel) (by decide +kernel)
set_option maxRecDepth 20000 in
theorem gX7_sightOf_X7_digitAt : GoodIn wsX7_sightOf (va_wsS RX7 63 yX7_digitAt wsX7_digitAt) := goodIn_app (goodIn_of _ (by decide +kernel)) ggX7_sightOf_X7_digitAt
theorem dX7_sightOf_0 : decode cX7_sightOf 0 = .ok (.iconst 0, 1) := by decide +kernel
theorem dX7_sightOf_1 : decode cX7_sightOf 1 = .ok (.istore_n 3, 1) := by decide +kernel
theorem dX7_sightOf_2 : decode cX7_sightOf 2 = .ok (.lload_n 0, 1) := by decide +kernel
theorem dX7_sightOf_3 : decode cX7_sightOf 3 = .ok (.invokestatic 59, 3) := by decide +kernel
theorem dX7_sightOf_6 : decode cX7_sightOf 6 = .ok (.iconst 1, 1) := by decide +kernel
theorem dX7_sightOf_7 : decode cX7_sightOf 7 = .ok (.isub, 1) := by decide +kernel
theorem dX7_sightOf_8 : decode cX7_sightOf 8 = .ok (.istore 4, 2) := by decide +kernel
theorem dX7_sightOf_10 : decode cX7_sightOf 10 = .ok (.iload 4, 2) := by decide +kernel
theorem dX7_sightOf_12 : decode cX7_sightOf 12 = .ok (.ifCond .lt 33, 3) := by decide +kernel
theorem dX7_sightOf_15 : decode cX7_sightOf 15 = .ok (.lload_n 0, 1) := by decide +kernel
theorem dX7_sightOf_16 : decode cX7_sightOf 16 = .ok (.iload 4, 2) := by decide +kernel
theorem dX7_sightOf_18 : decode cX7_sightOf 18 = .ok (.invokestatic 63, 3) := by decide +kernel
theorem dX7_sightOf_21 : decode cX7_sightOf 21 = .ok (.ifCond .le 18, 3) := by decide +kernel
theorem dX7_sightOf_24 : decode cX7_sightOf 24 = .ok (.iload_n 3, 1) := by decide +kernel
theorem dX7_sightOf_25 : decode cX7_sightOf 25 = .ok (.iload_n 2, 1) := by decide +kernel
theorem dX7_sightOf_26 : decode cX7_sightOf 26 = .ok (.if_icmp .ne 10, 3) := by decide +kernel
theorem dX7_sightOf_29 : decode cX7_sightOf 29 = .ok (.lload_n 0, 1) := by decide +kernel
theorem dX7_sightOf_30 : decode cX7_sightOf 30 = .ok (.iload 4, 2) := by decide +kernel
theorem dX7_sightOf_32 : decode cX7_sightOf 32 = .ok (.invokestatic 63, 3) := by decide +kernel
theorem dX7_sightOf_35 : decode cX7_sightOf 35 = .ok (.ireturn, 1) := by decide +kernel
theorem dX7_sightOf_36 : decode cX7_sightOf 36 = .ok (.iinc 3 1, 3) := by decide +kernel
theorem dX7_sightOf_39 : decode cX7_sightOf 39 = .ok (.iinc 4 (-1), 3) := by decide +kernel
theorem dX7_sightOf_42 : decode cX7_sightOf 42 = .ok (.goto (-32), 3) := by decide +kernel
theorem dX7_sightOf_45 : decode cX7_sightOf 45 = .ok (.iload_n 2, 1) := by decide +kernel
theorem dX7_sightOf_46 : decode cX7_sightOf 46 = .ok (.iconst (-1), 1) := by decide +kernel
theorem dX7_sightOf_47 : decode cX7_sightOf 47 = .ok (.if_icmp .ne 7, 3) := by decide +kernel
theorem dX7_sightOf_50 : decode cX7_sightOf 50 = .ok (.iload_n 3, 1) := by decide +kernel
theorem dX7_sightOf_51 : decode cX7_sightOf 51 = .ok (.goto 5, 3) := by decide +kernel
theorem dX7_sightOf_54 : decode cX7_sightOf 54 = .ok (.bipush (-6), 2) := by decide +kernel
theorem dX7_sightOf_56 : decode cX7_sightOf 56 = .ok (.ireturn, 1) := by decide +kernel
set_option maxRecDepth 20000 in
theorem ggX7_sight_X7_isGiven : GoodIn wsX7_sight wsX7_isGiven := goodIn_r _ [4, 5, 6, 7, 3, 8] (by decide +kernel) (by decide +kernel)
set_option maxRecDepth 20000 in
theorem gX7_sight_X7_isGiven : GoodIn wsX7_sight (va_wsS RX7 49 yX7_isGiven wsX7_isGiven) := goodIn_app (goodIn_of _ (by decide +kernel)) ggX7_sight_X7_isGiven
set_option maxRecDepth 20000 in
theorem ggX7_sight_X7_sightOf : GoodIn wsX7_sight wsX7_sightOf := goodIn_r _ [11, 12, 13, 3, 14, 15, 16, 17, 18, 19, 20, 21] (by decide +kernel) (by decide +kernel)
set_option maxRecDepth 20000 in
theorem gX7_sight_X7_sightOf : GoodIn wsX7_sight (va_wsS RX7 67 yX7_sightOf wsX7_sightOf) := goodIn_app (goodIn_of _ (by decide +kernel)) ggX7_sight_X7_sightOf
theorem dX7_sight_0 : decode cX7_sight 0 = .ok (.lload_n 1, 1) := by decide +kernel
theorem dX7_sight_1 : decode cX7_sight 1 = .ok (.invokestatic 49, 3) := by decide +kernel
theorem dX7_sight_4 : decode cX7_sight 4 = .ok (.ifCond .eq 11, 3) := by decide +kernel
theorem dX7_sight_7 : decode cX7_sight 7 = .ok (.lload_n 1, 1) := by decide +kernel
theorem dX7_sight_8 : decode cX7_sight 8 = .ok (.iload_n 3, 1) := by decide +kernel
theorem dX7_sight_9 : decode cX7_sight 9 = .ok (.invokestatic 67, 3) := by decide +kernel
theorem dX7_sight_12 : decode cX7_sight 12 = .ok (.goto 5, 3) := by decide +kernel
theorem dX7_sight_15 : decode cX7_sight 15 = .ok (.bipush (-2), 2) := by decide +kernel
theorem dX7_sight_17 : decode cX7_sight 17 = .ok (.ireturn, 1) := by decide +kernel
set_option maxRecDepth 20000 in
theorem ggX7_likeBy_X7_sightOf : GoodIn wsX7_likeBy wsX7_sightOf := goodIn_r _ [5, 6, 7, 4, 8, 9, 10, 11, 12, 13, 14, 15] (by decide +kernel) (by decide +kernel)
set_option maxRecDepth 20000 in
theorem gX7_likeBy_X7_sightOf : GoodIn wsX7_likeBy (va_wsS RX7 67 yX7_sightOf wsX7_sightOf) := goodIn_app (goodIn_of _ (by decide +kernel)) ggX7_likeBy_X7_sightOf
set_option maxRecDepth 20000 in
theorem ggX7_likeBy_X7_power : GoodIn wsX7_likeBy wsX7_power := goodIn_r _ [15, 9] (by decide +kernel) (by decide +kernel)
set_option maxRecDepth 20000 in
theorem gX7_likeBy_X7_power : GoodIn wsX7_likeBy (va_wsS RX7 45 yX7_power wsX7_power) := goodIn_app (goodIn_of _ (by decide +kernel)) ggX7_likeBy_X7_power
theorem dX7_likeBy_0 : decode cX7_likeBy 0 = .ok (.lload_n 0, 1) := by decide +kernel
theorem dX7_likeBy_1 : decode cX7_likeBy 1 = .ok (.iconst (-1), 1) := by decide +kernel
theorem dX7_likeBy_2 : decode cX7_likeBy 2 = .ok (.invokestatic 67, 3) := by decide +kernel
theorem dX7_likeBy_5 : decode cX7_likeBy 5 = .ok (.istore_n 3, 1) := by decide +kernel
theorem dX7_likeBy_6 : decode cX7_likeBy 6 = .ok (.lconst 0, 1) := by decide +kernel
theorem dX7_likeBy_7 : decode cX7_likeBy 7 = .ok (.lstore 4, 2) := by decide +kernel
theorem dX7_likeBy_9 : decode cX7_likeBy 9 = .ok (.iload_n 3, 1) := by decide +kernel
theorem dX7_likeBy_10 : decode cX7_likeBy 10 = .ok (.istore 6, 2) := by decide +kernel
theorem dX7_likeBy_12 : decode cX7_likeBy 12 = .ok (.iconst 0, 1) := by decide +kernel
theorem dX7_likeBy_13 : decode cX7_likeBy 13 = .ok (.istore 7, 2) := by decide +kernel
theorem dX7_likeBy_15 : decode cX7_likeBy 15 = .ok (.iload 7, 2) := by decide +kernel
theorem dX7_likeBy_17 : decode cX7_likeBy 17 = .ok (.bipush 8, 2) := by decide +kernel
theorem dX7_likeBy_19 : decode cX7_likeBy 19 = .ok (.if_icmp .ge 49, 3) := by decide +kernel
theorem dX7_likeBy_22 : decode cX7_likeBy 22 = .ok (.iload_n 2, 1) := by decide +kernel
theorem dX7_likeBy_23 : decode cX7_likeBy 23 = .ok (.iload 7, 2) := by decide +kernel
theorem dX7_likeBy_25 : decode cX7_likeBy 25 = .ok (.ishr, 1) := by decide +kernel
theorem dX7_likeBy_26 : decode cX7_likeBy 26 = .ok (.iconst 1, 1) := by decide +kernel
theorem dX7_likeBy_27 : decode cX7_likeBy 27 = .ok (.iand, 1) := by decide +kernel
theorem dX7_likeBy_28 : decode cX7_likeBy 28 = .ok (.iconst 1, 1) := by decide +kernel
theorem dX7_likeBy_29 : decode cX7_likeBy 29 = .ok (.if_icmp .ne 33, 3) := by decide +kernel
theorem dX7_likeBy_32 : decode cX7_likeBy 32 = .ok (.iinc 6 (-1), 3) := by decide +kernel
theorem dX7_likeBy_35 : decode cX7_likeBy 35 = .ok (.lload 4, 2) := by decide +kernel
theorem dX7_likeBy_37 : decode cX7_likeBy 37 = .ok (.iload 6, 2) := by decide +kernel
theorem dX7_likeBy_39 : decode cX7_likeBy 39 = .ok (.ifCond .ge 7, 3) := by decide +kernel
theorem dX7_likeBy_42 : decode cX7_likeBy 42 = .ok (.lconst 0, 1) := by decide +kernel
theorem dX7_likeBy_43 : decode cX7_likeBy 43 = .ok (.goto 16, 3) := by decide +kernel
theorem dX7_likeBy_46 : decode cX7_likeBy 46 = .ok (.lload_n 0, 1) := by decide +kernel
theorem dX7_likeBy_47 : decode cX7_likeBy 47 = .ok (.iload 6, 2) := by decide +kernel
theorem dX7_likeBy_49 : decode cX7_likeBy 49 = .ok (.invokestatic 67, 3) := by decide +kernel
theorem dX7_likeBy_52 : decode cX7_likeBy 52 = .ok (.i2l, 1) := by decide +kernel
theorem dX7_likeBy_53 : decode cX7_likeBy 53 = .ok (.iload 7, 2) := by decide +kernel
theorem dX7_likeBy_55 : decode cX7_likeBy 55 = .ok (.invokestatic 45, 3) := by decide +kernel
theorem dX7_likeBy_58 : decode cX7_likeBy 58 = .ok (.lmul, 1) := by decide +kernel
theorem dX7_likeBy_59 : decode cX7_likeBy 59 = .ok (.ladd, 1) := by decide +kernel
theorem dX7_likeBy_60 : decode cX7_likeBy 60 = .ok (.lstore 4, 2) := by decide +kernel
theorem dX7_likeBy_62 : decode cX7_likeBy 62 = .ok (.iinc 7 1, 3) := by decide +kernel
theorem dX7_likeBy_65 : decode cX7_likeBy 65 = .ok (.goto (-50), 3) := by decide +kernel
theorem dX7_likeBy_68 : decode cX7_likeBy 68 = .ok (.iload 6, 2) := by decide +kernel
theorem dX7_likeBy_70 : decode cX7_likeBy 70 = .ok (.ifCond .ne 15, 3) := by decide +kernel
theorem dX7_likeBy_73 : decode cX7_likeBy 73 = .ok (.iload_n 2, 1) := by decide +kernel
theorem dX7_likeBy_74 : decode cX7_likeBy 74 = .ok (.iconst 1, 1) := by decide +kernel
theorem dX7_likeBy_75 : decode cX7_likeBy 75 = .ok (.iand, 1) := by decide +kernel
theorem dX7_likeBy_76 : decode cX7_likeBy 76 = .ok (.iconst 1, 1) := by decide +kernel
theorem dX7_likeBy_77 : decode cX7_likeBy 77 = .ok (.if_icmp .ne 8, 3) := by decide +kernel
theorem dX7_likeBy_80 : decode cX7_likeBy 80 = .ok (.lload 4, 2) := by decide +kernel
theorem dX7_likeBy_82 : decode cX7_likeBy 82 = .ok (.goto 6, 3) := by decide +kernel
theorem dX7_likeBy_85 : decode cX7_likeBy 85 = .ok (.ldc2_w 70, 3) := by decide +kernel
theorem dX7_likeBy_88 : decode cX7_likeBy 88 = .ok (.lreturn, 1) := by decide +kernel
set_option maxRecDepth 20000 in
theorem ggX7_like_X7_isGiven : GoodIn wsX7_like wsX7_isGiven := goodIn_r _ [7, 8, 9, 10, 6, 11] (by decide +kernel) (by decide +kernel)
set_option maxRecDepth 20000 in
theorem gX7_like_X7_isGiven : GoodIn wsX7_like (va_wsS RX7 49 yX7_isGiven wsX7_isGiven) := goodIn_app (goodIn_of _ (by decide +kernel)) ggX7_like_X7_isGiven
set_option maxRecDepth 20000 in
theorem ggX7_like_X7_in : GoodIn wsX7_like wsX7_in := goodIn_r _ [11] (by decide +kernel) (by decide +kernel)
set_option maxRecDepth 20000 in
theorem gX7_like_X7_in : GoodIn wsX7_like (va_wsS RX7 39 yX7_in wsX7_in) := goodIn_app (goodIn_of _ (by decide +kernel)) ggX7_like_X7_in
set_option maxRecDepth 20000 in
theorem ggX7_like_X7_likeBy : GoodIn wsX7_like wsX7_likeBy := goodIn_r _ [14, 15, 16, 17, 6, 18, 19, 20, 21, 22, 23, 24, 25, 26, 27, 28] (by decide +kernel) (by decide +kernel)
set_option maxRecDepth 20000 in
theorem gX7_like_X7_likeBy : GoodIn wsX7_like (va_wsS RX7 74 yX7_likeBy wsX7_likeBy) := goodIn_app (goodIn_of _ (by decide +kernel)) ggX7_like_X7_likeBy
theorem dX7_like_0 : decode cX7_like 0 = .ok (.lload_n 1, 1) := by decide +kernel
theorem dX7_like_1 : decode cX7_like 1 = .ok (.invokestatic 49, 3) := by decide +kernel
theorem dX7_like_4 : decode cX7_like 4 = .ok (.ifCond .eq 15, 3) := by decide +kernel
theorem dX7_like_7 : decode cX7_like 7 = .ok (.iload_n 3, 1) := by decide +kernel
theorem dX7_like_8 : decode cX7_like 8 = .ok (.i2l, 1) := by decide +kernel
theorem dX7_like_9 : decode cX7_like 9 = .ok (.lconst 1, 1) := by decide +kernel
theorem dX7_like_10 : decode cX7_like 10 = .ok (.ldc2_w 72, 3) := by decide +kernel
theorem dX7_like_13 : decode cX7_like 13 = .ok (.invokestatic 39, 3) := by decide +kernel
theorem dX7_like_16 : decode cX7_like 16 = .ok (.ifCond .ne 7, 3) := by decide +kernel
theorem dX7_like_19 : decode cX7_like 19 = .ok (.ldc2_w 57, 3) := by decide +kernel
theorem dX7_like_22 : decode cX7_like 22 = .ok (.lreturn, 1) := by decide +kernel
theorem dX7_like_23 : decode cX7_like 23 = .ok (.iconst 0, 1) := by decide +kernel
theorem dX7_like_24 : decode cX7_like 24 = .ok (.istore 5, 2) := by decide +kernel
theorem dX7_like_26 : decode cX7_like 26 = .ok (.iconst 1, 1) := by decide +kernel
theorem dX7_like_27 : decode cX7_like 27 = .ok (.istore 6, 2) := by decide +kernel
theorem dX7_like_29 : decode cX7_like 29 = .ok (.iload 6, 2) := by decide +kernel
theorem dX7_like_31 : decode cX7_like 31 = .ok (.iconst 1, 1) := by decide +kernel
theorem dX7_like_32 : decode cX7_like 32 = .ok (.iload_n 3, 1) := by decide +kernel
theorem dX7_like_33 : decode cX7_like 33 = .ok (.ishl, 1) := by decide +kernel
theorem dX7_like_34 : decode cX7_like 34 = .ok (.if_icmp .ge 37, 3) := by decide +kernel
theorem dX7_like_37 : decode cX7_like 37 = .ok (.lload_n 1, 1) := by decide +kernel
theorem dX7_like_38 : decode cX7_like 38 = .ok (.iload 6, 2) := by decide +kernel
theorem dX7_like_40 : decode cX7_like 40 = .ok (.invokestatic 74, 3) := by decide +kernel
theorem dX7_like_43 : decode cX7_like 43 = .ok (.lstore 7, 2) := by decide +kernel
theorem dX7_like_45 : decode cX7_like 45 = .ok (.lload 7, 2) := by decide +kernel
theorem dX7_like_47 : decode cX7_like 47 = .ok (.lconst 0, 1) := by decide +kernel
theorem dX7_like_48 : decode cX7_like 48 = .ok (.lcmp, 1) := by decide +kernel
theorem dX7_like_49 : decode cX7_like 49 = .ok (.ifCond .le 16, 3) := by decide +kernel
theorem dX7_like_52 : decode cX7_like 52 = .ok (.iload 5, 2) := by decide +kernel
theorem dX7_like_54 : decode cX7_like 54 = .ok (.iload 4, 2) := by decide +kernel
theorem dX7_like_56 : decode cX7_like 56 = .ok (.if_icmp .ne 6, 3) := by decide +kernel
theorem dX7_like_59 : decode cX7_like 59 = .ok (.lload 7, 2) := by decide +kernel
theorem dX7_like_61 : decode cX7_like 61 = .ok (.lreturn, 1) := by decide +kernel
theorem dX7_like_62 : decode cX7_like 62 = .ok (.iinc 5 1, 3) := by decide +kernel
theorem dX7_like_65 : decode cX7_like 65 = .ok (.iinc 6 1, 3) := by decide +kernel
theorem dX7_like_68 : decode cX7_like 68 = .ok (.goto (-39), 3) := by decide +kernel
theorem dX7_like_71 : decode cX7_like 71 = .ok (.iload 4, 2) := by decide +kernel
theorem dX7_like_73 : decode cX7_like 73 = .ok (.iconst (-1), 1) := by decide +kernel
theorem dX7_like_74 : decode cX7_like 74 = .ok (.if_icmp .ne 9, 3) := by decide +kernel
theorem dX7_like_77 : decode cX7_like 77 = .ok (.iload 5, 2) := by decide +kernel
theorem dX7_like_79 : decode cX7_like 79 = .ok (.i2l, 1) := by decide +kernel
theorem dX7_like_80 : decode cX7_like 80 = .ok (.goto 6, 3) := by decide +kernel
theorem dX7_like_83 : decode cX7_like 83 = .ok (.ldc2_w 78, 3) := by decide +kernel
theorem dX7_like_86 : decode cX7_like 86 = .ok (.lreturn, 1) := by decide +kernel
set_option maxRecDepth 20000 in
theorem ggX7_put_X7_isGiven : GoodIn wsX7_put wsX7_isGiven := goodIn_r _ [9, 10, 11, 12, 8, 13] (by decide +kernel) (by decide +kernel)
set_option maxRecDepth 20000 in
theorem gX7_put_X7_isGiven : GoodIn wsX7_put (va_wsS RX7 49 yX7_isGiven wsX7_isGiven) := goodIn_app (goodIn_of _ (by decide +kernel)) ggX7_put_X7_isGiven
set_option maxRecDepth 20000 in
theorem ggX7_put_X7_in : GoodIn wsX7_put wsX7_in := goodIn_r _ [13] (by decide +kernel) (by decide +kernel)
set_option maxRecDepth 20000 in
theorem gX7_put_X7_in : GoodIn wsX7_put (va_wsS RX7 39 yX7_in wsX7_in) := goodIn_app (goodIn_of _ (by decide +kernel)) ggX7_put_X7_in
set_option maxRecDepth 20000 in
theorem ggX7_put_X7_power : GoodIn wsX7_put wsX7_power := goodIn_r _ [16, 17] (by decide +kernel) (by decide +kernel)
set_option maxRecDepth 20000 in
theorem gX7_put_X7_power : GoodIn wsX7_put (va_wsS RX7 45 yX7_power wsX7_power) := goodIn_app (goodIn_of _ (by decide +kernel)) ggX7_put_X7_power
set_option maxRecDepth 20000 in
theorem ggX7_put_X7_sixtyOf : GoodIn wsX7_put wsX7_sixtyOf := goodIn_r _ [20, 17] (by decide +kernel) (by decide +kernel)
set_option maxRecDepth 20000 in
theorem gX7_put_X7_sixtyOf : GoodIn wsX7_put (va_wsS RX7 53 yX7_sixtyOf wsX7_sixtyOf) := goodIn_app (goodIn_of _ (by decide +kernel)) ggX7_put_X7_sixtyOf
theorem dX7_put_0 : decode cX7_put 0 = .ok (.lload_n 1, 1) := by decide +kernel
theorem dX7_put_1 : decode cX7_put 1 = .ok (.invokestatic 49, 3) := by decide +kernel
theorem dX7_put_4 : decode cX7_put 4 = .ok (.ifCond .eq 25, 3) := by decide +kernel
theorem dX7_put_7 : decode cX7_put 7 = .ok (.lload_n 3, 1) := by decide +kernel
theorem dX7_put_8 : decode cX7_put 8 = .ok (.invokestatic 49, 3) := by decide +kernel
theorem dX7_put_11 : decode cX7_put 11 = .ok (.ifCond .eq 18, 3) := by decide +kernel
theorem dX7_put_14 : decode cX7_put 14 = .ok (.iload 5, 2) := by decide +kernel
theorem dX7_put_16 : decode cX7_put 16 = .ok (.i2l, 1) := by decide +kernel
theorem dX7_put_17 : decode cX7_put 17 = .ok (.ldc2_w 80, 3) := by decide +kernel
theorem dX7_put_20 : decode cX7_put 20 = .ok (.ldc2_w 82, 3) := by decide +kernel
theorem dX7_put_23 : decode cX7_put 23 = .ok (.invokestatic 39, 3) := by decide +kernel
theorem dX7_put_26 : decode cX7_put 26 = .ok (.ifCond .ne 7, 3) := by decide +kernel
theorem dX7_put_29 : decode cX7_put 29 = .ok (.ldc2_w 57, 3) := by decide +kernel
theorem dX7_put_32 : decode cX7_put 32 = .ok (.lreturn, 1) := by decide +kernel
theorem dX7_put_33 : decode cX7_put 33 = .ok (.iload 5, 2) := by decide +kernel
theorem dX7_put_35 : decode cX7_put 35 = .ok (.ifCond .lt 7, 3) := by decide +kernel
theorem dX7_put_38 : decode cX7_put 38 = .ok (.lload_n 3, 1) := by decide +kernel
theorem dX7_put_39 : decode cX7_put 39 = .ok (.goto 4, 3) := by decide +kernel
theorem dX7_put_42 : decode cX7_put 42 = .ok (.lload_n 1, 1) := by decide +kernel
theorem dX7_put_43 : decode cX7_put 43 = .ok (.lstore 6, 2) := by decide +kernel
theorem dX7_put_45 : decode cX7_put 45 = .ok (.iload 5, 2) := by decide +kernel
theorem dX7_put_47 : decode cX7_put 47 = .ok (.ifCond .lt 7, 3) := by decide +kernel
theorem dX7_put_50 : decode cX7_put 50 = .ok (.lload_n 1, 1) := by decide +kernel
theorem dX7_put_51 : decode cX7_put 51 = .ok (.goto 4, 3) := by decide +kernel
theorem dX7_put_54 : decode cX7_put 54 = .ok (.lload_n 3, 1) := by decide +kernel
theorem dX7_put_55 : decode cX7_put 55 = .ok (.lstore 8, 2) := by decide +kernel
theorem dX7_put_57 : decode cX7_put 57 = .ok (.iload 5, 2) := by decide +kernel
theorem dX7_put_59 : decode cX7_put 59 = .ok (.ifCond .lt 8, 3) := by decide +kernel
theorem dX7_put_62 : decode cX7_put 62 = .ok (.iload 5, 2) := by decide +kernel
theorem dX7_put_64 : decode cX7_put 64 = .ok (.goto 6, 3) := by decide +kernel
theorem dX7_put_67 : decode cX7_put 67 = .ok (.iload 5, 2) := by decide +kernel
theorem dX7_put_69 : decode cX7_put 69 = .ok (.ineg, 1) := by decide +kernel
theorem dX7_put_70 : decode cX7_put 70 = .ok (.invokestatic 45, 3) := by decide +kernel
theorem dX7_put_73 : decode cX7_put 73 = .ok (.lstore 10, 2) := by decide +kernel
theorem dX7_put_75 : decode cX7_put 75 = .ok (.lload 6, 2) := by decide +kernel
theorem dX7_put_77 : decode cX7_put 77 = .ok (.ldc2_w 84, 3) := by decide +kernel
theorem dX7_put_80 : decode cX7_put 80 = .ok (.lload 10, 2) := by decide +kernel
theorem dX7_put_82 : decode cX7_put 82 = .ok (.ldiv, 1) := by decide +kernel
theorem dX7_put_83 : decode cX7_put 83 = .ok (.lcmp, 1) := by decide +kernel
theorem dX7_put_84 : decode cX7_put 84 = .ok (.ifCond .gt 18, 3) := by decide +kernel
theorem dX7_put_87 : decode cX7_put 87 = .ok (.lload 6, 2) := by decide +kernel
theorem dX7_put_89 : decode cX7_put 89 = .ok (.lload 10, 2) := by decide +kernel
theorem dX7_put_91 : decode cX7_put 91 = .ok (.lmul, 1) := by decide +kernel
theorem dX7_put_92 : decode cX7_put 92 = .ok (.lload 8, 2) := by decide +kernel
theorem dX7_put_94 : decode cX7_put 94 = .ok (.ladd, 1) := by decide +kernel
theorem dX7_put_95 : decode cX7_put 95 = .ok (.ldc2_w 84, 3) := by decide +kernel
theorem dX7_put_98 : decode cX7_put 98 = .ok (.lcmp, 1) := by decide +kernel
theorem dX7_put_99 : decode cX7_put 99 = .ok (.ifCond .lt 7, 3) := by decide +kernel
theorem dX7_put_102 : decode cX7_put 102 = .ok (.ldc2_w 86, 3) := by decide +kernel
theorem dX7_put_105 : decode cX7_put 105 = .ok (.lreturn, 1) := by decide +kernel
theorem dX7_put_106 : decode cX7_put 106 = .ok (.lload 6, 2) := by decide +kernel
theorem dX7_put_108 : decode cX7_put 108 = .ok (.lload 10, 2) := by decide +kernel
theorem dX7_put_110 : decode cX7_put 110 = .ok (.lmul, 1) := by decide +kernel
theorem dX7_put_111 : decode cX7_put 111 = .ok (.lload 8, 2) := by decide +kernel
theorem dX7_put_113 : decode cX7_put 113 = .ok (.ladd, 1) := by decide +kernel
theorem dX7_put_114 : decode cX7_put 114 = .ok (.invokestatic 53, 3) := by decide +kernel
theorem dX7_put_117 : decode cX7_put 117 = .ok (.lreturn, 1) := by decide +kernel
theorem dX7_times_0 : decode cX7_times 0 = .ok (.iconst 0, 1) := by decide +kernel
theorem dX7_times_1 : decode cX7_times 1 = .ok (.istore_n 3, 1) := by decide +kernel
theorem dX7_times_2 : decode cX7_times 2 = .ok (.lload_n 0, 1) := by decide +kernel
theorem dX7_times_3 : decode cX7_times 3 = .ok (.lstore 4, 2) := by decide +kernel
theorem dX7_times_5 : decode cX7_times 5 = .ok (.lload 4, 2) := by decide +kernel
theorem dX7_times_7 : decode cX7_times 7 = .ok (.iload_n 2, 1) := by decide +kernel
theorem dX7_times_8 : decode cX7_times 8 = .ok (.i2l, 1) := by decide +kernel
theorem dX7_times_9 : decode cX7_times 9 = .ok (.lrem, 1) := by decide +kernel
theorem dX7_times_10 : decode cX7_times 10 = .ok (.lconst 0, 1) := by decide +kernel
theorem dX7_times_11 : decode cX7_times 11 = .ok (.lcmp, 1) := by decide +kernel
theorem dX7_times_12 : decode cX7_times 12 = .ok (.ifCond .ne 16, 3) := by decide +kernel
theorem dX7_times_15 : decode cX7_times 15 = .ok (.iinc 3 1, 3) := by decide +kernel
theorem dX7_times_18 : decode cX7_times 18 = .ok (.lload 4, 2) := by decide +kernel
theorem dX7_times_20 : decode cX7_times 20 = .ok (.iload_n 2, 1) := by decide +kernel
theorem dX7_times_21 : decode cX7_times 21 = .ok (.i2l, 1) := by decide +kernel
theorem dX7_times_22 : decode cX7_times 22 = .ok (.ldiv, 1) := by decide +kernel
theorem dX7_times_23 : decode cX7_times 23 = .ok (.lstore 4, 2) := by decide +kernel
theorem dX7_times_25 : decode cX7_times 25 = .ok (.goto (-20), 3) := by decide +kernel
theorem dX7_times_28 : decode cX7_times 28 = .ok (.iload_n 3, 1) := by decide +kernel
theorem dX7_times_29 : decode cX7_times 29 = .ok (.ireturn, 1) := by decide +kernel
theorem dX7_isEven_0 : decode cX7_isEven 0 = .ok (.lload_n 0, 1) := by decide +kernel
theorem dX7_isEven_1 : decode cX7_isEven 1 = .ok (.lstore_n 2, 1) := by decide +kernel
theorem dX7_isEven_2 : decode cX7_isEven 2 = .ok (.iconst 2, 1) := by decide +kernel
theorem dX7_isEven_3 : decode cX7_isEven 3 = .ok (.istore 4, 2) := by decide +kernel
theorem dX7_isEven_5 : decode cX7_isEven 5 = .ok (.iload 4, 2) := by decide +kernel
theorem dX7_isEven_7 : decode cX7_isEven 7 = .ok (.bipush 6, 2) := by decide +kernel
theorem dX7_isEven_9 : decode cX7_isEven 9 = .ok (.if_icmp .ge 28, 3) := by decide +kernel
theorem dX7_isEven_12 : decode cX7_isEven 12 = .ok (.lload_n 2, 1) := by decide +kernel
theorem dX7_isEven_13 : decode cX7_isEven 13 = .ok (.iload 4, 2) := by decide +kernel
theorem dX7_isEven_15 : decode cX7_isEven 15 = .ok (.i2l, 1) := by decide +kernel
theorem dX7_isEven_16 : decode cX7_isEven 16 = .ok (.lrem, 1) := by decide +kernel
theorem dX7_isEven_17 : decode cX7_isEven 17 = .ok (.lconst 0, 1) := by decide +kernel
theorem dX7_isEven_18 : decode cX7_isEven 18 = .ok (.lcmp, 1) := by decide +kernel
theorem dX7_isEven_19 : decode cX7_isEven 19 = .ok (.ifCond .ne 12, 3) := by decide +kernel
theorem dX7_isEven_22 : decode cX7_isEven 22 = .ok (.lload_n 2, 1) := by decide +kernel
theorem dX7_isEven_23 : decode cX7_isEven 23 = .ok (.iload 4, 2) := by decide +kernel
theorem dX7_isEven_25 : decode cX7_isEven 25 = .ok (.i2l, 1) := by decide +kernel
theorem dX7_isEven_26 : decode cX7_isEven 26 = .ok (.ldiv, 1) := by decide +kernel
theorem dX7_isEven_27 : decode cX7_isEven 27 = .ok (.lstore_n 2, 1) := by decide +kernel
theorem dX7_isEven_28 : decode cX7_isEven 28 = .ok (.goto (-16), 3) := by decide +kernel
theorem dX7_isEven_31 : decode cX7_isEven 31 = .ok (.iinc 4 1, 3) := by decide +kernel
theorem dX7_isEven_34 : decode cX7_isEven 34 = .ok (.goto (-29), 3) := by decide +kernel
theorem dX7_isEven_37 : decode cX7_isEven 37 = .ok (.lload_n 2, 1) := by decide +kernel
theorem dX7_isEven_38 : decode cX7_isEven 38 = .ok (.lconst 1, 1) := by decide +kernel
theorem dX7_isEven_39 : decode cX7_isEven 39 = .ok (.lcmp, 1) := by decide +kernel
theorem dX7_isEven_40 : decode cX7_isEven 40 = .ok (.ifCond .ne 7, 3) := by decide +kernel
theorem dX7_isEven_43 : decode cX7_isEven 43 = .ok (.iconst 1, 1) := by decide +kernel
theorem dX7_isEven_44 : decode cX7_isEven 44 = .ok (.goto 4, 3) := by decide +kernel
theorem dX7_isEven_47 : decode cX7_isEven 47 = .ok (.iconst 0, 1) := by decide +kernel
theorem dX7_isEven_48 : decode cX7_isEven 48 = .ok (.ireturn, 1) := by decide +kernel
set_option maxRecDepth 20000 in
theorem ggX7_even_X7_isGiven : GoodIn wsX7_even wsX7_isGiven := goodIn_r _ [4, 5, 6, 7, 3, 8] (by decide +kernel) (by decide +kernel)
set_option maxRecDepth 20000 in
theorem gX7_even_X7_isGiven : GoodIn wsX7_even (va_wsS RX7 49 yX7_isGiven wsX7_isGiven) := goodIn_app (goodIn_of _ (by decide +kernel)) ggX7_even_X7_isGiven
set_option maxRecDepth 20000 in
theorem ggX7_even_X7_isEven : GoodIn wsX7_even wsX7_isEven := goodIn_r _ [11] (by decide +kernel) (by decide +kernel)
set_option maxRecDepth 20000 in
theorem gX7_even_X7_isEven : GoodIn wsX7_even (va_wsS RX7 88 yX7_isEven wsX7_isEven) := goodIn_app (goodIn_of _ (by decide +kernel)) ggX7_even_X7_isEven
theorem dX7_even_0 : decode cX7_even 0 = .ok (.lload_n 1, 1) := by decide +kernel
theorem dX7_even_1 : decode cX7_even 1 = .ok (.invokestatic 49, 3) := by decide +kernel
theorem dX7_even_4 : decode cX7_even 4 = .ok (.ifCond .ne 8, 3) := by decide +kernel
theorem dX7_even_7 : decode cX7_even 7 = .ok (.bipush (-2), 2) := by decide +kernel
theorem dX7_even_9 : decode cX7_even 9 = .ok (.goto 15, 3) := by decide +kernel
theorem dX7_even_12 : decode cX7_even 12 = .ok (.lload_n 1, 1) := by decide +kernel
theorem dX7_even_13 : decode cX7_even 13 = .ok (.invokestatic 88, 3) := by decide +kernel
theorem dX7_even_16 : decode cX7_even 16 = .ok (.ifCond .eq 7, 3) := by decide +kernel
theorem dX7_even_19 : decode cX7_even 19 = .ok (.iconst 1, 1) := by decide +kernel
theorem dX7_even_20 : decode cX7_even 20 = .ok (.goto 4, 3) := by decide +kernel
theorem dX7_even_23 : decode cX7_even 23 = .ok (.iconst 0, 1) := by decide +kernel
theorem dX7_even_24 : decode cX7_even 24 = .ok (.ireturn, 1) := by decide +kernel
set_option maxRecDepth 20000 in
theorem ggX7_turnedOf_X7_sixtyOf : GoodIn wsX7_turnedOf wsX7_sixtyOf := goodIn_r _ [6, 7] (by decide +kernel) (by decide +kernel)
set_option maxRecDepth 20000 in
theorem gX7_turnedOf_X7_sixtyOf : GoodIn wsX7_turnedOf (va_wsS RX7 53 yX7_sixtyOf wsX7_sixtyOf) := goodIn_app (goodIn_of _ (by decide +kernel)) ggX7_turnedOf_X7_sixtyOf
set_option maxRecDepth 20000 in
theorem ggX7_turnedOf_X7_times : GoodIn wsX7_turnedOf wsX7_times := goodIn_r _ [10] (by decide +kernel) (by decide +kernel)
set_option maxRecDepth 20000 in
theorem gX7_turnedOf_X7_times : GoodIn wsX7_turnedOf (va_wsS RX7 91 yX7_times wsX7_times) := goodIn_app (goodIn_of _ (by decide +kernel)) ggX7_turnedOf_X7_times
theorem dX7_turnedOf_0 : decode cX7_turnedOf 0 = .ok (.lload_n 0, 1) := by decide +kernel
theorem dX7_turnedOf_1 : decode cX7_turnedOf 1 = .ok (.invokestatic 53, 3) := by decide +kernel
theorem dX7_turnedOf_4 : decode cX7_turnedOf 4 = .ok (.lstore_n 2, 1) := by decide +kernel
theorem dX7_turnedOf_5 : decode cX7_turnedOf 5 = .ok (.lload_n 2, 1) := by decide +kernel
theorem dX7_turnedOf_6 : decode cX7_turnedOf 6 = .ok (.iconst 2, 1) := by decide +kernel
theorem dX7_turnedOf_7 : decode cX7_turnedOf 7 = .ok (.invokestatic 91, 3) := by decide +kernel
theorem dX7_turnedOf_10 : decode cX7_turnedOf 10 = .ok (.istore 4, 2) := by decide +kernel
theorem dX7_turnedOf_12 : decode cX7_turnedOf 12 = .ok (.lload_n 2, 1) := by decide +kernel
theorem dX7_turnedOf_13 : decode cX7_turnedOf 13 = .ok (.iconst 3, 1) := by decide +kernel
theorem dX7_turnedOf_14 : decode cX7_turnedOf 14 = .ok (.invokestatic 91, 3) := by decide +kernel
theorem dX7_turnedOf_17 : decode cX7_turnedOf 17 = .ok (.istore 5, 2) := by decide +kernel
theorem dX7_turnedOf_19 : decode cX7_turnedOf 19 = .ok (.lload_n 2, 1) := by decide +kernel
theorem dX7_turnedOf_20 : decode cX7_turnedOf 20 = .ok (.iconst 5, 1) := by decide +kernel
theorem dX7_turnedOf_21 : decode cX7_turnedOf 21 = .ok (.invokestatic 91, 3) := by decide +kernel
theorem dX7_turnedOf_24 : decode cX7_turnedOf 24 = .ok (.istore 6, 2) := by decide +kernel
theorem dX7_turnedOf_26 : decode cX7_turnedOf 26 = .ok (.iload 4, 2) := by decide +kernel
theorem dX7_turnedOf_28 : decode cX7_turnedOf 28 = .ok (.iconst 1, 1) := by decide +kernel
theorem dX7_turnedOf_29 : decode cX7_turnedOf 29 = .ok (.iadd, 1) := by decide +kernel
theorem dX7_turnedOf_30 : decode cX7_turnedOf 30 = .ok (.iconst 2, 1) := by decide +kernel
theorem dX7_turnedOf_31 : decode cX7_turnedOf 31 = .ok (.idiv, 1) := by decide +kernel
theorem dX7_turnedOf_32 : decode cX7_turnedOf 32 = .ok (.istore 7, 2) := by decide +kernel
theorem dX7_turnedOf_34 : decode cX7_turnedOf 34 = .ok (.iload 5, 2) := by decide +kernel
theorem dX7_turnedOf_36 : decode cX7_turnedOf 36 = .ok (.iload 7, 2) := by decide +kernel
theorem dX7_turnedOf_38 : decode cX7_turnedOf 38 = .ok (.if_icmp .le 8, 3) := by decide +kernel
theorem dX7_turnedOf_41 : decode cX7_turnedOf 41 = .ok (.iload 5, 2) := by decide +kernel
theorem dX7_turnedOf_43 : decode cX7_turnedOf 43 = .ok (.goto 5, 3) := by decide +kernel
theorem dX7_turnedOf_46 : decode cX7_turnedOf 46 = .ok (.iload 7, 2) := by decide +kernel
theorem dX7_turnedOf_48 : decode cX7_turnedOf 48 = .ok (.istore 7, 2) := by decide +kernel
theorem dX7_turnedOf_50 : decode cX7_turnedOf 50 = .ok (.iload 6, 2) := by decide +kernel
theorem dX7_turnedOf_52 : decode cX7_turnedOf 52 = .ok (.iload 7, 2) := by decide +kernel
theorem dX7_turnedOf_54 : decode cX7_turnedOf 54 = .ok (.if_icmp .le 8, 3) := by decide +kernel
theorem dX7_turnedOf_57 : decode cX7_turnedOf 57 = .ok (.iload 6, 2) := by decide +kernel
theorem dX7_turnedOf_59 : decode cX7_turnedOf 59 = .ok (.goto 5, 3) := by decide +kernel
theorem dX7_turnedOf_62 : decode cX7_turnedOf 62 = .ok (.iload 7, 2) := by decide +kernel
theorem dX7_turnedOf_64 : decode cX7_turnedOf 64 = .ok (.istore 7, 2) := by decide +kernel
theorem dX7_turnedOf_66 : decode cX7_turnedOf 66 = .ok (.lconst 1, 1) := by decide +kernel
theorem dX7_turnedOf_67 : decode cX7_turnedOf 67 = .ok (.lstore 8, 2) := by decide +kernel
theorem dX7_turnedOf_69 : decode cX7_turnedOf 69 = .ok (.iconst 0, 1) := by decide +kernel
theorem dX7_turnedOf_70 : decode cX7_turnedOf 70 = .ok (.istore 10, 2) := by decide +kernel
theorem dX7_turnedOf_72 : decode cX7_turnedOf 72 = .ok (.iload 10, 2) := by decide +kernel
theorem dX7_turnedOf_74 : decode cX7_turnedOf 74 = .ok (.iconst 4, 1) := by decide +kernel
theorem dX7_turnedOf_75 : decode cX7_turnedOf 75 = .ok (.iload 7, 2) := by decide +kernel
theorem dX7_turnedOf_77 : decode cX7_turnedOf 77 = .ok (.imul, 1) := by decide +kernel
theorem dX7_turnedOf_78 : decode cX7_turnedOf 78 = .ok (.if_icmp .ge 153, 3) := by decide +kernel
theorem dX7_turnedOf_81 : decode cX7_turnedOf 81 = .ok (.iload 10, 2) := by decide +kernel
theorem dX7_turnedOf_83 : decode cX7_turnedOf 83 = .ok (.iconst 4, 1) := by decide +kernel
theorem dX7_turnedOf_84 : decode cX7_turnedOf 84 = .ok (.irem, 1) := by decide +kernel
theorem dX7_turnedOf_85 : decode cX7_turnedOf 85 = .ok (.iconst 2, 1) := by decide +kernel
theorem dX7_turnedOf_86 : decode cX7_turnedOf 86 = .ok (.if_icmp .ge 7, 3) := by decide +kernel
theorem dX7_turnedOf_89 : decode cX7_turnedOf 89 = .ok (.iconst 2, 1) := by decide +kernel
theorem dX7_turnedOf_90 : decode cX7_turnedOf 90 = .ok (.goto 16, 3) := by decide +kernel
theorem dX7_turnedOf_93 : decode cX7_turnedOf 93 = .ok (.iload 10, 2) := by decide +kernel
theorem dX7_turnedOf_95 : decode cX7_turnedOf 95 = .ok (.iconst 4, 1) := by decide +kernel
theorem dX7_turnedOf_96 : decode cX7_turnedOf 96 = .ok (.irem, 1) := by decide +kernel
theorem dX7_turnedOf_97 : decode cX7_turnedOf 97 = .ok (.iconst 2, 1) := by decide +kernel
theorem dX7_turnedOf_98 : decode cX7_turnedOf 98 = .ok (.if_icmp .ne 7, 3) := by decide +kernel
theorem dX7_turnedOf_101 : decode cX7_turnedOf 101 = .ok (.iconst 3, 1) := by decide +kernel
theorem dX7_turnedOf_102 : decode cX7_turnedOf 102 = .ok (.goto 4, 3) := by decide +kernel
theorem dX7_turnedOf_105 : decode cX7_turnedOf 105 = .ok (.iconst 5, 1) := by decide +kernel
theorem dX7_turnedOf_106 : decode cX7_turnedOf 106 = .ok (.istore 11, 2) := by decide +kernel
theorem dX7_turnedOf_108 : decode cX7_turnedOf 108 = .ok (.iload 10, 2) := by decide +kernel
theorem dX7_turnedOf_110 : decode cX7_turnedOf 110 = .ok (.iconst 4, 1) := by decide +kernel
theorem dX7_turnedOf_111 : decode cX7_turnedOf 111 = .ok (.irem, 1) := by decide +kernel
theorem dX7_turnedOf_112 : decode cX7_turnedOf 112 = .ok (.iconst 2, 1) := by decide +kernel
theorem dX7_turnedOf_113 : decode cX7_turnedOf 113 = .ok (.if_icmp .ge 27, 3) := by decide +kernel
theorem dX7_turnedOf_116 : decode cX7_turnedOf 116 = .ok (.iload 10, 2) := by decide +kernel
theorem dX7_turnedOf_118 : decode cX7_turnedOf 118 = .ok (.iconst 4, 1) := by decide +kernel
theorem dX7_turnedOf_119 : decode cX7_turnedOf 119 = .ok (.idiv, 1) := by decide +kernel
theorem dX7_turnedOf_120 : decode cX7_turnedOf 120 = .ok (.iconst 2, 1) := by decide +kernel
theorem dX7_turnedOf_121 : decode cX7_turnedOf 121 = .ok (.imul, 1) := by decide +kernel
theorem dX7_turnedOf_122 : decode cX7_turnedOf 122 = .ok (.iload 10, 2) := by decide +kernel
theorem dX7_turnedOf_124 : decode cX7_turnedOf 124 = .ok (.iconst 4, 1) := by decide +kernel
theorem dX7_turnedOf_125 : decode cX7_turnedOf 125 = .ok (.irem, 1) := by decide +kernel
theorem dX7_turnedOf_126 : decode cX7_turnedOf 126 = .ok (.iadd, 1) := by decide +kernel
theorem dX7_turnedOf_127 : decode cX7_turnedOf 127 = .ok (.iload 4, 2) := by decide +kernel
theorem dX7_turnedOf_129 : decode cX7_turnedOf 129 = .ok (.if_icmp .lt 7, 3) := by decide +kernel
theorem dX7_turnedOf_132 : decode cX7_turnedOf 132 = .ok (.iconst 1, 1) := by decide +kernel
theorem dX7_turnedOf_133 : decode cX7_turnedOf 133 = .ok (.goto 46, 3) := by decide +kernel
theorem dX7_turnedOf_136 : decode cX7_turnedOf 136 = .ok (.iconst 0, 1) := by decide +kernel
theorem dX7_turnedOf_137 : decode cX7_turnedOf 137 = .ok (.goto 42, 3) := by decide +kernel
theorem dX7_turnedOf_140 : decode cX7_turnedOf 140 = .ok (.iload 10, 2) := by decide +kernel
theorem dX7_turnedOf_142 : decode cX7_turnedOf 142 = .ok (.iconst 4, 1) := by decide +kernel
theorem dX7_turnedOf_143 : decode cX7_turnedOf 143 = .ok (.irem, 1) := by decide +kernel
theorem dX7_turnedOf_144 : decode cX7_turnedOf 144 = .ok (.iconst 2, 1) := by decide +kernel
theorem dX7_turnedOf_145 : decode cX7_turnedOf 145 = .ok (.if_icmp .ne 20, 3) := by decide +kernel
theorem dX7_turnedOf_148 : decode cX7_turnedOf 148 = .ok (.iload 10, 2) := by decide +kernel
theorem dX7_turnedOf_150 : decode cX7_turnedOf 150 = .ok (.iconst 4, 1) := by decide +kernel
theorem dX7_turnedOf_151 : decode cX7_turnedOf 151 = .ok (.idiv, 1) := by decide +kernel
theorem dX7_turnedOf_152 : decode cX7_turnedOf 152 = .ok (.iload 5, 2) := by decide +kernel
theorem dX7_turnedOf_154 : decode cX7_turnedOf 154 = .ok (.if_icmp .lt 7, 3) := by decide +kernel
theorem dX7_turnedOf_157 : decode cX7_turnedOf 157 = .ok (.iconst 1, 1) := by decide +kernel
theorem dX7_turnedOf_158 : decode cX7_turnedOf 158 = .ok (.goto 21, 3) := by decide +kernel
theorem dX7_turnedOf_161 : decode cX7_turnedOf 161 = .ok (.iconst 0, 1) := by decide +kernel
theorem dX7_turnedOf_162 : decode cX7_turnedOf 162 = .ok (.goto 17, 3) := by decide +kernel
theorem dX7_turnedOf_165 : decode cX7_turnedOf 165 = .ok (.iload 10, 2) := by decide +kernel
theorem dX7_turnedOf_167 : decode cX7_turnedOf 167 = .ok (.iconst 4, 1) := by decide +kernel
theorem dX7_turnedOf_168 : decode cX7_turnedOf 168 = .ok (.idiv, 1) := by decide +kernel
theorem dX7_turnedOf_169 : decode cX7_turnedOf 169 = .ok (.iload 6, 2) := by decide +kernel
theorem dX7_turnedOf_171 : decode cX7_turnedOf 171 = .ok (.if_icmp .lt 7, 3) := by decide +kernel
theorem dX7_turnedOf_174 : decode cX7_turnedOf 174 = .ok (.iconst 1, 1) := by decide +kernel
theorem dX7_turnedOf_175 : decode cX7_turnedOf 175 = .ok (.goto 4, 3) := by decide +kernel
theorem dX7_turnedOf_178 : decode cX7_turnedOf 178 = .ok (.iconst 0, 1) := by decide +kernel
theorem dX7_turnedOf_179 : decode cX7_turnedOf 179 = .ok (.istore 12, 2) := by decide +kernel
theorem dX7_turnedOf_181 : decode cX7_turnedOf 181 = .ok (.lload 8, 2) := by decide +kernel
theorem dX7_turnedOf_183 : decode cX7_turnedOf 183 = .ok (.lconst 0, 1) := by decide +kernel
theorem dX7_turnedOf_184 : decode cX7_turnedOf 184 = .ok (.lcmp, 1) := by decide +kernel
theorem dX7_turnedOf_185 : decode cX7_turnedOf 185 = .ok (.ifCond .lt 8, 3) := by decide +kernel
theorem dX7_turnedOf_188 : decode cX7_turnedOf 188 = .ok (.iload 12, 2) := by decide +kernel
theorem dX7_turnedOf_190 : decode cX7_turnedOf 190 = .ok (.ifCond .ne 8, 3) := by decide +kernel
theorem dX7_turnedOf_193 : decode cX7_turnedOf 193 = .ok (.lload 8, 2) := by decide +kernel
theorem dX7_turnedOf_195 : decode cX7_turnedOf 195 = .ok (.goto 28, 3) := by decide +kernel
theorem dX7_turnedOf_198 : decode cX7_turnedOf 198 = .ok (.lload 8, 2) := by decide +kernel
theorem dX7_turnedOf_200 : decode cX7_turnedOf 200 = .ok (.iload 11, 2) := by decide +kernel
theorem dX7_turnedOf_202 : decode cX7_turnedOf 202 = .ok (.i2l, 1) := by decide +kernel
theorem dX7_turnedOf_203 : decode cX7_turnedOf 203 = .ok (.lmul, 1) := by decide +kernel
theorem dX7_turnedOf_204 : decode cX7_turnedOf 204 = .ok (.ldc2_w 84, 3) := by decide +kernel
theorem dX7_turnedOf_207 : decode cX7_turnedOf 207 = .ok (.lcmp, 1) := by decide +kernel
theorem dX7_turnedOf_208 : decode cX7_turnedOf 208 = .ok (.ifCond .lt 9, 3) := by decide +kernel
theorem dX7_turnedOf_211 : decode cX7_turnedOf 211 = .ok (.ldc2_w 70, 3) := by decide +kernel
theorem dX7_turnedOf_214 : decode cX7_turnedOf 214 = .ok (.goto 9, 3) := by decide +kernel
theorem dX7_turnedOf_217 : decode cX7_turnedOf 217 = .ok (.lload 8, 2) := by decide +kernel
theorem dX7_turnedOf_219 : decode cX7_turnedOf 219 = .ok (.iload 11, 2) := by decide +kernel
theorem dX7_turnedOf_221 : decode cX7_turnedOf 221 = .ok (.i2l, 1) := by decide +kernel
theorem dX7_turnedOf_222 : decode cX7_turnedOf 222 = .ok (.lmul, 1) := by decide +kernel
theorem dX7_turnedOf_223 : decode cX7_turnedOf 223 = .ok (.lstore 8, 2) := by decide +kernel
theorem dX7_turnedOf_225 : decode cX7_turnedOf 225 = .ok (.iinc 10 1, 3) := by decide +kernel
theorem dX7_turnedOf_228 : decode cX7_turnedOf 228 = .ok (.goto (-156), 3) := by decide +kernel
theorem dX7_turnedOf_231 : decode cX7_turnedOf 231 = .ok (.lload 8, 2) := by decide +kernel
theorem dX7_turnedOf_233 : decode cX7_turnedOf 233 = .ok (.lreturn, 1) := by decide +kernel
set_option maxRecDepth 20000 in
theorem ggX7_turned_X7_isGiven : GoodIn wsX7_turned wsX7_isGiven := goodIn_r _ [7, 8, 9, 10, 6, 11] (by decide +kernel) (by decide +kernel)
set_option maxRecDepth 20000 in
theorem gX7_turned_X7_isGiven : GoodIn wsX7_turned (va_wsS RX7 49 yX7_isGiven wsX7_isGiven) := goodIn_app (goodIn_of _ (by decide +kernel)) ggX7_turned_X7_isGiven
set_option maxRecDepth 20000 in
theorem ggX7_turned_X7_isEven : GoodIn wsX7_turned wsX7_isEven := goodIn_r _ [14] (by decide +kernel) (by decide +kernel)
set_option maxRecDepth 20000 in
theorem gX7_turned_X7_isEven : GoodIn wsX7_turned (va_wsS RX7 88 yX7_isEven wsX7_isEven) := goodIn_app (goodIn_of _ (by decide +kernel)) ggX7_turned_X7_isEven
set_option maxRecDepth 20000 in
theorem ggX7_turned_X7_turnedOf : GoodIn wsX7_turned wsX7_turnedOf := goodIn_r _ [17, 18, 19, 20, 21, 6, 22, 23, 24, 25, 26] (by decide +kernel) (by decide +kernel)
set_option maxRecDepth 20000 in
theorem gX7_turned_X7_turnedOf : GoodIn wsX7_turned (va_wsS RX7 96 yX7_turnedOf wsX7_turnedOf) := goodIn_app (goodIn_of _ (by decide +kernel)) ggX7_turned_X7_turnedOf
theorem dX7_turned_0 : decode cX7_turned 0 = .ok (.lload_n 1, 1) := by decide +kernel
theorem dX7_turned_1 : decode cX7_turned 1 = .ok (.invokestatic 49, 3) := by decide +kernel
theorem dX7_turned_4 : decode cX7_turned 4 = .ok (.ifCond .ne 7, 3) := by decide +kernel
theorem dX7_turned_7 : decode cX7_turned 7 = .ok (.ldc2_w 57, 3) := by decide +kernel
theorem dX7_turned_10 : decode cX7_turned 10 = .ok (.lreturn, 1) := by decide +kernel
theorem dX7_turned_11 : decode cX7_turned 11 = .ok (.lload_n 1, 1) := by decide +kernel
theorem dX7_turned_12 : decode cX7_turned 12 = .ok (.invokestatic 88, 3) := by decide +kernel
theorem dX7_turned_15 : decode cX7_turned 15 = .ok (.ifCond .ne 7, 3) := by decide +kernel
theorem dX7_turned_18 : decode cX7_turned 18 = .ok (.ldc2_w 94, 3) := by decide +kernel
theorem dX7_turned_21 : decode cX7_turned 21 = .ok (.lreturn, 1) := by decide +kernel
theorem dX7_turned_22 : decode cX7_turned 22 = .ok (.lload_n 1, 1) := by decide +kernel
theorem dX7_turned_23 : decode cX7_turned 23 = .ok (.invokestatic 96, 3) := by decide +kernel
theorem dX7_turned_26 : decode cX7_turned 26 = .ok (.lstore_n 3, 1) := by decide +kernel
theorem dX7_turned_27 : decode cX7_turned 27 = .ok (.lload_n 3, 1) := by decide +kernel
theorem dX7_turned_28 : decode cX7_turned 28 = .ok (.lconst 0, 1) := by decide +kernel
theorem dX7_turned_29 : decode cX7_turned 29 = .ok (.lcmp, 1) := by decide +kernel
theorem dX7_turned_30 : decode cX7_turned 30 = .ok (.ifCond .ge 9, 3) := by decide +kernel
theorem dX7_turned_33 : decode cX7_turned 33 = .ok (.ldc2_w 86, 3) := by decide +kernel
theorem dX7_turned_36 : decode cX7_turned 36 = .ok (.goto 4, 3) := by decide +kernel
theorem dX7_turned_39 : decode cX7_turned 39 = .ok (.lload_n 3, 1) := by decide +kernel
theorem dX7_turned_40 : decode cX7_turned 40 = .ok (.lreturn, 1) := by decide +kernel
set_option maxRecDepth 20000 in
theorem ggX7_isListed_X7_in : GoodIn wsX7_isListed wsX7_in := goodIn_r _ [7] (by decide +kernel) (by decide +kernel)
set_option maxRecDepth 20000 in
theorem gX7_isListed_X7_in : GoodIn wsX7_isListed (va_wsS RX7 39 yX7_in wsX7_in) := goodIn_app (goodIn_of _ (by decide +kernel)) ggX7_isListed_X7_in
set_option maxRecDepth 20000 in
theorem ggX7_isListed_X7_isEven : GoodIn wsX7_isListed wsX7_isEven := goodIn_r _ [10] (by decide +kernel) (by decide +kernel)
set_option maxRecDepth 20000 in
theorem gX7_isListed_X7_isEven : GoodIn wsX7_isListed (va_wsS RX7 88 yX7_isEven wsX7_isEven) := goodIn_app (goodIn_of _ (by decide +kernel)) ggX7_isListed_X7_isEven
theorem dX7_isListed_0 : decode cX7_isListed 0 = .ok (.lload_n 0, 1) := by decide +kernel
theorem dX7_isListed_1 : decode cX7_isListed 1 = .ok (.ldc2_w 99, 3) := by decide +kernel
theorem dX7_isListed_4 : decode cX7_isListed 4 = .ok (.ldc2_w 101, 3) := by decide +kernel
theorem dX7_isListed_7 : decode cX7_isListed 7 = .ok (.invokestatic 39, 3) := by decide +kernel
theorem dX7_isListed_10 : decode cX7_isListed 10 = .ok (.ifCond .eq 22, 3) := by decide +kernel
theorem dX7_isListed_13 : decode cX7_isListed 13 = .ok (.lload_n 0, 1) := by decide +kernel
theorem dX7_isListed_14 : decode cX7_isListed 14 = .ok (.ldc2_w 43, 3) := by decide +kernel
theorem dX7_isListed_17 : decode cX7_isListed 17 = .ok (.lcmp, 1) := by decide +kernel
theorem dX7_isListed_18 : decode cX7_isListed 18 = .ok (.ifCond .eq 14, 3) := by decide +kernel
theorem dX7_isListed_21 : decode cX7_isListed 21 = .ok (.lload_n 0, 1) := by decide +kernel
theorem dX7_isListed_22 : decode cX7_isListed 22 = .ok (.invokestatic 88, 3) := by decide +kernel
theorem dX7_isListed_25 : decode cX7_isListed 25 = .ok (.ifCond .eq 7, 3) := by decide +kernel
theorem dX7_isListed_28 : decode cX7_isListed 28 = .ok (.iconst 1, 1) := by decide +kernel
theorem dX7_isListed_29 : decode cX7_isListed 29 = .ok (.goto 4, 3) := by decide +kernel
theorem dX7_isListed_32 : decode cX7_isListed 32 = .ok (.iconst 0, 1) := by decide +kernel
theorem dX7_isListed_33 : decode cX7_isListed 33 = .ok (.ireturn, 1) := by decide +kernel
set_option maxRecDepth 20000 in
theorem ggX7_listAt_X7_isListed : GoodIn wsX7_listAt wsX7_isListed := goodIn_r _ [4, 5, 6, 7, 8, 9, 3, 10, 11, 12, 13] (by decide +kernel) (by decide +kernel)
set_option maxRecDepth 20000 in
theorem gX7_listAt_X7_isListed : GoodIn wsX7_listAt (va_wsS RX7 103 yX7_isListed wsX7_isListed) := goodIn_app (goodIn_of _ (by decide +kernel)) ggX7_listAt_X7_isListed
theorem dX7_listAt_0 : decode cX7_listAt 0 = .ok (.iconst 0, 1) := by decide +kernel
theorem dX7_listAt_1 : decode cX7_listAt 1 = .ok (.istore_n 1, 1) := by decide +kernel
theorem dX7_listAt_2 : decode cX7_listAt 2 = .ok (.iconst 2, 1) := by decide +kernel
theorem dX7_listAt_3 : decode cX7_listAt 3 = .ok (.istore_n 2, 1) := by decide +kernel
theorem dX7_listAt_4 : decode cX7_listAt 4 = .ok (.iload_n 2, 1) := by decide +kernel
theorem dX7_listAt_5 : decode cX7_listAt 5 = .ok (.bipush 82, 2) := by decide +kernel
theorem dX7_listAt_7 : decode cX7_listAt 7 = .ok (.if_icmp .ge 27, 3) := by decide +kernel
theorem dX7_listAt_10 : decode cX7_listAt 10 = .ok (.iload_n 2, 1) := by decide +kernel
theorem dX7_listAt_11 : decode cX7_listAt 11 = .ok (.i2l, 1) := by decide +kernel
theorem dX7_listAt_12 : decode cX7_listAt 12 = .ok (.invokestatic 103, 3) := by decide +kernel
theorem dX7_listAt_15 : decode cX7_listAt 15 = .ok (.ifCond .eq 13, 3) := by decide +kernel
theorem dX7_listAt_18 : decode cX7_listAt 18 = .ok (.iload_n 1, 1) := by decide +kernel
theorem dX7_listAt_19 : decode cX7_listAt 19 = .ok (.iload_n 0, 1) := by decide +kernel
theorem dX7_listAt_20 : decode cX7_listAt 20 = .ok (.if_icmp .ne 5, 3) := by decide +kernel
theorem dX7_listAt_23 : decode cX7_listAt 23 = .ok (.iload_n 2, 1) := by decide +kernel
theorem dX7_listAt_24 : decode cX7_listAt 24 = .ok (.ireturn, 1) := by decide +kernel
theorem dX7_listAt_25 : decode cX7_listAt 25 = .ok (.iinc 1 1, 3) := by decide +kernel
theorem dX7_listAt_28 : decode cX7_listAt 28 = .ok (.iinc 2 1, 3) := by decide +kernel
theorem dX7_listAt_31 : decode cX7_listAt 31 = .ok (.goto (-27), 3) := by decide +kernel
theorem dX7_listAt_34 : decode cX7_listAt 34 = .ok (.iload_n 0, 1) := by decide +kernel
theorem dX7_listAt_35 : decode cX7_listAt 35 = .ok (.iconst (-1), 1) := by decide +kernel
theorem dX7_listAt_36 : decode cX7_listAt 36 = .ok (.if_icmp .ne 7, 3) := by decide +kernel
theorem dX7_listAt_39 : decode cX7_listAt 39 = .ok (.iload_n 1, 1) := by decide +kernel
theorem dX7_listAt_40 : decode cX7_listAt 40 = .ok (.goto 4, 3) := by decide +kernel
theorem dX7_listAt_43 : decode cX7_listAt 43 = .ok (.iconst (-1), 1) := by decide +kernel
theorem dX7_listAt_44 : decode cX7_listAt 44 = .ok (.ireturn, 1) := by decide +kernel
set_option maxRecDepth 20000 in
theorem ggX7_list_X7_listAt : GoodIn wsX7_list wsX7_listAt := goodIn_r _ [4, 5, 6, 3, 7, 8, 9, 10, 11, 12, 13, 14, 15, 16] (by decide +kernel) (by decide +kernel)
set_option maxRecDepth 20000 in
theorem gX7_list_X7_listAt : GoodIn wsX7_list (va_wsS RX7 106 yX7_listAt wsX7_listAt) := goodIn_app (goodIn_of _ (by decide +kernel)) ggX7_list_X7_listAt
theorem dX7_list_0 : decode cX7_list 0 = .ok (.iload_n 1, 1) := by decide +kernel
theorem dX7_list_1 : decode cX7_list 1 = .ok (.invokestatic 106, 3) := by decide +kernel
theorem dX7_list_4 : decode cX7_list 4 = .ok (.ireturn, 1) := by decide +kernel
set_option maxRecDepth 20000 in
theorem ggX7_factor_X7_isGiven : GoodIn wsX7_factor wsX7_isGiven := goodIn_r _ [4, 5, 6, 7, 3, 8] (by decide +kernel) (by decide +kernel)
set_option maxRecDepth 20000 in
theorem gX7_factor_X7_isGiven : GoodIn wsX7_factor (va_wsS RX7 49 yX7_isGiven wsX7_isGiven) := goodIn_app (goodIn_of _ (by decide +kernel)) ggX7_factor_X7_isGiven
set_option maxRecDepth 20000 in
theorem ggX7_factor_X7_isEven : GoodIn wsX7_factor wsX7_isEven := goodIn_r _ [11] (by decide +kernel) (by decide +kernel)
set_option maxRecDepth 20000 in
theorem gX7_factor_X7_isEven : GoodIn wsX7_factor (va_wsS RX7 88 yX7_isEven wsX7_isEven) := goodIn_app (goodIn_of _ (by decide +kernel)) ggX7_factor_X7_isEven
set_option maxRecDepth 20000 in
theorem ggX7_factor_X7_sixtyOf : GoodIn wsX7_factor wsX7_sixtyOf := goodIn_r _ [14, 15] (by decide +kernel) (by decide +kernel)
set_option maxRecDepth 20000 in
theorem gX7_factor_X7_sixtyOf : GoodIn wsX7_factor (va_wsS RX7 53 yX7_sixtyOf wsX7_sixtyOf) := goodIn_app (goodIn_of _ (by decide +kernel)) ggX7_factor_X7_sixtyOf
set_option maxRecDepth 20000 in
theorem ggX7_factor_X7_isListed : GoodIn wsX7_factor wsX7_isListed := goodIn_r _ [18, 19, 20, 15, 6, 7, 3, 8, 9, 10, 11] (by decide +kernel) (by decide +kernel)
set_option maxRecDepth 20000 in
theorem gX7_factor_X7_isListed : GoodIn wsX7_factor (va_wsS RX7 103 yX7_isListed wsX7_isListed) := goodIn_app (goodIn_of _ (by decide +kernel)) ggX7_factor_X7_isListed
theorem dX7_factor_0 : decode cX7_factor 0 = .ok (.lload_n 1, 1) := by decide +kernel
theorem dX7_factor_1 : decode cX7_factor 1 = .ok (.invokestatic 49, 3) := by decide +kernel
theorem dX7_factor_4 : decode cX7_factor 4 = .ok (.ifCond .ne 6, 3) := by decide +kernel
theorem dX7_factor_7 : decode cX7_factor 7 = .ok (.bipush (-2), 2) := by decide +kernel
theorem dX7_factor_9 : decode cX7_factor 9 = .ok (.ireturn, 1) := by decide +kernel
theorem dX7_factor_10 : decode cX7_factor 10 = .ok (.lload_n 1, 1) := by decide +kernel
theorem dX7_factor_11 : decode cX7_factor 11 = .ok (.invokestatic 88, 3) := by decide +kernel
theorem dX7_factor_14 : decode cX7_factor 14 = .ok (.ifCond .ne 6, 3) := by decide +kernel
theorem dX7_factor_17 : decode cX7_factor 17 = .ok (.bipush (-5), 2) := by decide +kernel
theorem dX7_factor_19 : decode cX7_factor 19 = .ok (.ireturn, 1) := by decide +kernel
theorem dX7_factor_20 : decode cX7_factor 20 = .ok (.lload_n 1, 1) := by decide +kernel
theorem dX7_factor_21 : decode cX7_factor 21 = .ok (.invokestatic 53, 3) := by decide +kernel
theorem dX7_factor_24 : decode cX7_factor 24 = .ok (.lstore 4, 2) := by decide +kernel
theorem dX7_factor_26 : decode cX7_factor 26 = .ok (.iconst 0, 1) := by decide +kernel
theorem dX7_factor_27 : decode cX7_factor 27 = .ok (.istore 6, 2) := by decide +kernel
theorem dX7_factor_29 : decode cX7_factor 29 = .ok (.lload 4, 2) := by decide +kernel
theorem dX7_factor_31 : decode cX7_factor 31 = .ok (.lconst 1, 1) := by decide +kernel
theorem dX7_factor_32 : decode cX7_factor 32 = .ok (.lcmp, 1) := by decide +kernel
theorem dX7_factor_33 : decode cX7_factor 33 = .ok (.ifCond .eq 77, 3) := by decide +kernel
theorem dX7_factor_36 : decode cX7_factor 36 = .ok (.bipush 81, 2) := by decide +kernel
theorem dX7_factor_38 : decode cX7_factor 38 = .ok (.istore 7, 2) := by decide +kernel
theorem dX7_factor_40 : decode cX7_factor 40 = .ok (.iload 7, 2) := by decide +kernel
theorem dX7_factor_42 : decode cX7_factor 42 = .ok (.i2l, 1) := by decide +kernel
theorem dX7_factor_43 : decode cX7_factor 43 = .ok (.invokestatic 103, 3) := by decide +kernel
theorem dX7_factor_46 : decode cX7_factor 46 = .ok (.ifCond .eq 14, 3) := by decide +kernel
theorem dX7_factor_49 : decode cX7_factor 49 = .ok (.lload 4, 2) := by decide +kernel
theorem dX7_factor_51 : decode cX7_factor 51 = .ok (.iload 7, 2) := by decide +kernel
theorem dX7_factor_53 : decode cX7_factor 53 = .ok (.i2l, 1) := by decide +kernel
theorem dX7_factor_54 : decode cX7_factor 54 = .ok (.lrem, 1) := by decide +kernel
theorem dX7_factor_55 : decode cX7_factor 55 = .ok (.lconst 0, 1) := by decide +kernel
theorem dX7_factor_56 : decode cX7_factor 56 = .ok (.lcmp, 1) := by decide +kernel
theorem dX7_factor_57 : decode cX7_factor 57 = .ok (.ifCond .eq 9, 3) := by decide +kernel
theorem dX7_factor_60 : decode cX7_factor 60 = .ok (.iinc 7 (-1), 3) := by decide +kernel
theorem dX7_factor_63 : decode cX7_factor 63 = .ok (.goto (-23), 3) := by decide +kernel
theorem dX7_factor_66 : decode cX7_factor 66 = .ok (.lload 4, 2) := by decide +kernel
theorem dX7_factor_68 : decode cX7_factor 68 = .ok (.invokestatic 103, 3) := by decide +kernel
theorem dX7_factor_71 : decode cX7_factor 71 = .ok (.ifCond .eq 9, 3) := by decide +kernel
theorem dX7_factor_74 : decode cX7_factor 74 = .ok (.lload 4, 2) := by decide +kernel
theorem dX7_factor_76 : decode cX7_factor 76 = .ok (.l2i, 1) := by decide +kernel
theorem dX7_factor_77 : decode cX7_factor 77 = .ok (.goto 5, 3) := by decide +kernel
theorem dX7_factor_80 : decode cX7_factor 80 = .ok (.iload 7, 2) := by decide +kernel
theorem dX7_factor_82 : decode cX7_factor 82 = .ok (.istore 7, 2) := by decide +kernel
theorem dX7_factor_84 : decode cX7_factor 84 = .ok (.iload 6, 2) := by decide +kernel
theorem dX7_factor_86 : decode cX7_factor 86 = .ok (.iload_n 3, 1) := by decide +kernel
theorem dX7_factor_87 : decode cX7_factor 87 = .ok (.if_icmp .ne 6, 3) := by decide +kernel
theorem dX7_factor_90 : decode cX7_factor 90 = .ok (.iload 7, 2) := by decide +kernel
theorem dX7_factor_92 : decode cX7_factor 92 = .ok (.ireturn, 1) := by decide +kernel
theorem dX7_factor_93 : decode cX7_factor 93 = .ok (.iinc 6 1, 3) := by decide +kernel
theorem dX7_factor_96 : decode cX7_factor 96 = .ok (.lload 4, 2) := by decide +kernel
theorem dX7_factor_98 : decode cX7_factor 98 = .ok (.iload 7, 2) := by decide +kernel
theorem dX7_factor_100 : decode cX7_factor 100 = .ok (.i2l, 1) := by decide +kernel
theorem dX7_factor_101 : decode cX7_factor 101 = .ok (.ldiv, 1) := by decide +kernel
theorem dX7_factor_102 : decode cX7_factor 102 = .ok (.invokestatic 53, 3) := by decide +kernel
theorem dX7_factor_105 : decode cX7_factor 105 = .ok (.lstore 4, 2) := by decide +kernel
theorem dX7_factor_107 : decode cX7_factor 107 = .ok (.goto (-78), 3) := by decide +kernel
theorem dX7_factor_110 : decode cX7_factor 110 = .ok (.iload_n 3, 1) := by decide +kernel
theorem dX7_factor_111 : decode cX7_factor 111 = .ok (.iconst (-1), 1) := by decide +kernel
theorem dX7_factor_112 : decode cX7_factor 112 = .ok (.if_icmp .ne 8, 3) := by decide +kernel
theorem dX7_factor_115 : decode cX7_factor 115 = .ok (.iload 6, 2) := by decide +kernel
theorem dX7_factor_117 : decode cX7_factor 117 = .ok (.goto 5, 3) := by decide +kernel
theorem dX7_factor_120 : decode cX7_factor 120 = .ok (.bipush (-6), 2) := by decide +kernel
theorem dX7_factor_122 : decode cX7_factor 122 = .ok (.ireturn, 1) := by decide +kernel
set_option maxRecDepth 20000 in
theorem ggX7_root_X7_isGiven : GoodIn wsX7_root wsX7_isGiven := goodIn_r _ [7, 8, 9, 10, 6, 11] (by decide +kernel) (by decide +kernel)
set_option maxRecDepth 20000 in
theorem gX7_root_X7_isGiven : GoodIn wsX7_root (va_wsS RX7 49 yX7_isGiven wsX7_isGiven) := goodIn_app (goodIn_of _ (by decide +kernel)) ggX7_root_X7_isGiven
set_option maxRecDepth 20000 in
theorem ggX7_root_X7_in : GoodIn wsX7_root wsX7_in := goodIn_r _ [11] (by decide +kernel) (by decide +kernel)
set_option maxRecDepth 20000 in
theorem gX7_root_X7_in : GoodIn wsX7_root (va_wsS RX7 39 yX7_in wsX7_in) := goodIn_app (goodIn_of _ (by decide +kernel)) ggX7_root_X7_in
set_option maxRecDepth 20000 in
theorem ggX7_root_X7_power : GoodIn wsX7_root wsX7_power := goodIn_r _ [14, 15] (by decide +kernel) (by decide +kernel)
set_option maxRecDepth 20000 in
theorem gX7_root_X7_power : GoodIn wsX7_root (va_wsS RX7 45 yX7_power wsX7_power) := goodIn_app (goodIn_of _ (by decide +kernel)) ggX7_root_X7_power
set_option maxRecDepth 20000 in
theorem ggX7_root_X7_whole : GoodIn wsX7_root wsX7_whole := goodIn_r _ [18, 19, 20] (by decide +kernel) (by decide +kernel)
set_option maxRecDepth 20000 in
theorem gX7_root_X7_whole : GoodIn wsX7_root (va_wsS RX7 112 yX7_whole wsX7_whole) := goodIn_app (goodIn_of _ (by decide +kernel)) ggX7_root_X7_whole
theorem dX7_root_0 : decode cX7_root 0 = .ok (.lload_n 1, 1) := by decide +kernel
theorem dX7_root_1 : decode cX7_root 1 = .ok (.invokestatic 49, 3) := by decide +kernel
theorem dX7_root_4 : decode cX7_root 4 = .ok (.ifCond .eq 15, 3) := by decide +kernel
theorem dX7_root_7 : decode cX7_root 7 = .ok (.iload_n 3, 1) := by decide +kernel
theorem dX7_root_8 : decode cX7_root 8 = .ok (.i2l, 1) := by decide +kernel
theorem dX7_root_9 : decode cX7_root 9 = .ok (.lconst 0, 1) := by decide +kernel
theorem dX7_root_10 : decode cX7_root 10 = .ok (.ldc2_w 110, 3) := by decide +kernel
theorem dX7_root_13 : decode cX7_root 13 = .ok (.invokestatic 39, 3) := by decide +kernel
theorem dX7_root_16 : decode cX7_root 16 = .ok (.ifCond .ne 7, 3) := by decide +kernel
theorem dX7_root_19 : decode cX7_root 19 = .ok (.ldc2_w 57, 3) := by decide +kernel
theorem dX7_root_22 : decode cX7_root 22 = .ok (.lreturn, 1) := by decide +kernel
theorem dX7_root_23 : decode cX7_root 23 = .ok (.bipush 10, 2) := by decide +kernel
theorem dX7_root_25 : decode cX7_root 25 = .ok (.invokestatic 45, 3) := by decide +kernel
theorem dX7_root_28 : decode cX7_root 28 = .ok (.lstore 4, 2) := by decide +kernel
theorem dX7_root_30 : decode cX7_root 30 = .ok (.iconst 2, 1) := by decide +kernel
theorem dX7_root_31 : decode cX7_root 31 = .ok (.iload_n 3, 1) := by decide +kernel
theorem dX7_root_32 : decode cX7_root 32 = .ok (.imul, 1) := by decide +kernel
theorem dX7_root_33 : decode cX7_root 33 = .ok (.invokestatic 45, 3) := by decide +kernel
theorem dX7_root_36 : decode cX7_root 36 = .ok (.lstore 6, 2) := by decide +kernel
theorem dX7_root_38 : decode cX7_root 38 = .ok (.lload_n 1, 1) := by decide +kernel
theorem dX7_root_39 : decode cX7_root 39 = .ok (.lload 4, 2) := by decide +kernel
theorem dX7_root_41 : decode cX7_root 41 = .ok (.lconst 1, 1) := by decide +kernel
theorem dX7_root_42 : decode cX7_root 42 = .ok (.lsub, 1) := by decide +kernel
theorem dX7_root_43 : decode cX7_root 43 = .ok (.lload 6, 2) := by decide +kernel
theorem dX7_root_45 : decode cX7_root 45 = .ok (.ldiv, 1) := by decide +kernel
theorem dX7_root_46 : decode cX7_root 46 = .ok (.lcmp, 1) := by decide +kernel
theorem dX7_root_47 : decode cX7_root 47 = .ok (.ifCond .le 7, 3) := by decide +kernel
theorem dX7_root_50 : decode cX7_root 50 = .ok (.ldc2_w 86, 3) := by decide +kernel
theorem dX7_root_53 : decode cX7_root 53 = .ok (.lreturn, 1) := by decide +kernel
theorem dX7_root_54 : decode cX7_root 54 = .ok (.lload_n 1, 1) := by decide +kernel
theorem dX7_root_55 : decode cX7_root 55 = .ok (.lload 6, 2) := by decide +kernel
theorem dX7_root_57 : decode cX7_root 57 = .ok (.lmul, 1) := by decide +kernel
theorem dX7_root_58 : decode cX7_root 58 = .ok (.invokestatic 112, 3) := by decide +kernel
theorem dX7_root_61 : decode cX7_root 61 = .ok (.lreturn, 1) := by decide +kernel
theorem dX7_whole_0 : decode cX7_whole 0 = .ok (.lconst 0, 1) := by decide +kernel
theorem dX7_whole_1 : decode cX7_whole 1 = .ok (.lstore_n 2, 1) := by decide +kernel
theorem dX7_whole_2 : decode cX7_whole 2 = .ok (.ldc2_w 115, 3) := by decide +kernel
theorem dX7_whole_5 : decode cX7_whole 5 = .ok (.lstore 4, 2) := by decide +kernel
theorem dX7_whole_7 : decode cX7_whole 7 = .ok (.lload 4, 2) := by decide +kernel
theorem dX7_whole_9 : decode cX7_whole 9 = .ok (.lload_n 2, 1) := by decide +kernel
theorem dX7_whole_10 : decode cX7_whole 10 = .ok (.lsub, 1) := by decide +kernel
theorem dX7_whole_11 : decode cX7_whole 11 = .ok (.lconst 1, 1) := by decide +kernel
theorem dX7_whole_12 : decode cX7_whole 12 = .ok (.lcmp, 1) := by decide +kernel
theorem dX7_whole_13 : decode cX7_whole 13 = .ok (.ifCond .le 36, 3) := by decide +kernel
theorem dX7_whole_16 : decode cX7_whole 16 = .ok (.lload_n 2, 1) := by decide +kernel
theorem dX7_whole_17 : decode cX7_whole 17 = .ok (.lload 4, 2) := by decide +kernel
theorem dX7_whole_19 : decode cX7_whole 19 = .ok (.ladd, 1) := by decide +kernel
theorem dX7_whole_20 : decode cX7_whole 20 = .ok (.ldc2_w 99, 3) := by decide +kernel
theorem dX7_whole_23 : decode cX7_whole 23 = .ok (.ldiv, 1) := by decide +kernel
theorem dX7_whole_24 : decode cX7_whole 24 = .ok (.lstore 6, 2) := by decide +kernel
theorem dX7_whole_26 : decode cX7_whole 26 = .ok (.lload 6, 2) := by decide +kernel
theorem dX7_whole_28 : decode cX7_whole 28 = .ok (.lload 6, 2) := by decide +kernel
theorem dX7_whole_30 : decode cX7_whole 30 = .ok (.lmul, 1) := by decide +kernel
theorem dX7_whole_31 : decode cX7_whole 31 = .ok (.lload_n 0, 1) := by decide +kernel
theorem dX7_whole_32 : decode cX7_whole 32 = .ok (.lcmp, 1) := by decide +kernel
theorem dX7_whole_33 : decode cX7_whole 33 = .ok (.ifCond .gt 9, 3) := by decide +kernel
theorem dX7_whole_36 : decode cX7_whole 36 = .ok (.lload 6, 2) := by decide +kernel
theorem dX7_whole_38 : decode cX7_whole 38 = .ok (.lstore_n 2, 1) := by decide +kernel
theorem dX7_whole_39 : decode cX7_whole 39 = .ok (.goto 7, 3) := by decide +kernel
theorem dX7_whole_42 : decode cX7_whole 42 = .ok (.lload 6, 2) := by decide +kernel
theorem dX7_whole_44 : decode cX7_whole 44 = .ok (.lstore 4, 2) := by decide +kernel
theorem dX7_whole_46 : decode cX7_whole 46 = .ok (.goto (-39), 3) := by decide +kernel
theorem dX7_whole_49 : decode cX7_whole 49 = .ok (.lload_n 2, 1) := by decide +kernel
theorem dX7_whole_50 : decode cX7_whole 50 = .ok (.lreturn, 1) := by decide +kernel
set_option maxRecDepth 20000 in
theorem ggX7_isShort_X7_in : GoodIn wsX7_isShort wsX7_in := goodIn_r _ [5] (by decide +kernel) (by decide +kernel)
set_option maxRecDepth 20000 in
theorem gX7_isShort_X7_in : GoodIn wsX7_isShort (va_wsS RX7 39 yX7_in wsX7_in) := goodIn_app (goodIn_of _ (by decide +kernel)) ggX7_isShort_X7_in
theorem dX7_isShort_0 : decode cX7_isShort 0 = .ok (.lload_n 0, 1) := by decide +kernel
theorem dX7_isShort_1 : decode cX7_isShort 1 = .ok (.lconst 1, 1) := by decide +kernel
theorem dX7_isShort_2 : decode cX7_isShort 2 = .ok (.ldc2_w 117, 3) := by decide +kernel
theorem dX7_isShort_5 : decode cX7_isShort 5 = .ok (.invokestatic 39, 3) := by decide +kernel
theorem dX7_isShort_8 : decode cX7_isShort 8 = .ok (.ireturn, 1) := by decide +kernel
set_option maxRecDepth 20000 in
theorem ggX7_times__X7_isShort : GoodIn wsX7_times_ wsX7_isShort := goodIn_r _ [10, 11, 12, 13, 9, 14] (by decide +kernel) (by decide +kernel)
set_option maxRecDepth 20000 in
theorem gX7_times__X7_isShort : GoodIn wsX7_times_ (va_wsS RX7 119 yX7_isShort wsX7_isShort) := goodIn_app (goodIn_of _ (by decide +kernel)) ggX7_times__X7_isShort
set_option maxRecDepth 20000 in
theorem ggX7_times__X7_digitAt : GoodIn wsX7_times_ wsX7_digitAt := goodIn_r _ [17, 18, 19, 20, 9, 21] (by decide +kernel) (by decide +kernel)
set_option maxRecDepth 20000 in
theorem gX7_times__X7_digitAt : GoodIn wsX7_times_ (va_wsS RX7 63 yX7_digitAt wsX7_digitAt) := goodIn_app (goodIn_of _ (by decide +kernel)) ggX7_times__X7_digitAt
theorem dX7_times__0 : decode cX7_times_ 0 = .ok (.lload_n 1, 1) := by decide +kernel
theorem dX7_times__1 : decode cX7_times_ 1 = .ok (.invokestatic 119, 3) := by decide +kernel
theorem dX7_times__4 : decode cX7_times_ 4 = .ok (.ifCond .eq 10, 3) := by decide +kernel
theorem dX7_times__7 : decode cX7_times_ 7 = .ok (.lload_n 3, 1) := by decide +kernel
theorem dX7_times__8 : decode cX7_times_ 8 = .ok (.invokestatic 119, 3) := by decide +kernel
theorem dX7_times__11 : decode cX7_times_ 11 = .ok (.ifCond .ne 6, 3) := by decide +kernel
theorem dX7_times__14 : decode cX7_times_ 14 = .ok (.bipush (-2), 2) := by decide +kernel
theorem dX7_times__16 : decode cX7_times_ 16 = .ok (.ireturn, 1) := by decide +kernel
theorem dX7_times__17 : decode cX7_times_ 17 = .ok (.aload_n 0, 1) := by decide +kernel
theorem dX7_times__18 : decode cX7_times_ 18 = .ok (.iconst 1, 1) := by decide +kernel
theorem dX7_times__19 : decode cX7_times_ 19 = .ok (.putfield 122, 3) := by decide +kernel
theorem dX7_times__22 : decode cX7_times_ 22 = .ok (.aload_n 0, 1) := by decide +kernel
theorem dX7_times__23 : decode cX7_times_ 23 = .ok (.iconst 0, 1) := by decide +kernel
theorem dX7_times__24 : decode cX7_times_ 24 = .ok (.putfield 126, 3) := by decide +kernel
theorem dX7_times__27 : decode cX7_times_ 27 = .ok (.iconst 3, 1) := by decide +kernel
theorem dX7_times__28 : decode cX7_times_ 28 = .ok (.istore 5, 2) := by decide +kernel
theorem dX7_times__30 : decode cX7_times_ 30 = .ok (.iload 5, 2) := by decide +kernel
theorem dX7_times__32 : decode cX7_times_ 32 = .ok (.ifCond .lt 109, 3) := by decide +kernel
theorem dX7_times__35 : decode cX7_times_ 35 = .ok (.iconst 3, 1) := by decide +kernel
theorem dX7_times__36 : decode cX7_times_ 36 = .ok (.istore 6, 2) := by decide +kernel
theorem dX7_times__38 : decode cX7_times_ 38 = .ok (.iload 6, 2) := by decide +kernel
theorem dX7_times__40 : decode cX7_times_ 40 = .ok (.ifCond .lt 95, 3) := by decide +kernel
theorem dX7_times__43 : decode cX7_times_ 43 = .ok (.lload_n 1, 1) := by decide +kernel
theorem dX7_times__44 : decode cX7_times_ 44 = .ok (.iload 5, 2) := by decide +kernel
theorem dX7_times__46 : decode cX7_times_ 46 = .ok (.invokestatic 63, 3) := by decide +kernel
theorem dX7_times__49 : decode cX7_times_ 49 = .ok (.istore 7, 2) := by decide +kernel
theorem dX7_times__51 : decode cX7_times_ 51 = .ok (.lload_n 3, 1) := by decide +kernel
theorem dX7_times__52 : decode cX7_times_ 52 = .ok (.iload 6, 2) := by decide +kernel
theorem dX7_times__54 : decode cX7_times_ 54 = .ok (.invokestatic 63, 3) := by decide +kernel
theorem dX7_times__57 : decode cX7_times_ 57 = .ok (.istore 8, 2) := by decide +kernel
theorem dX7_times__59 : decode cX7_times_ 59 = .ok (.iload 7, 2) := by decide +kernel
theorem dX7_times__61 : decode cX7_times_ 61 = .ok (.ifCond .le 68, 3) := by decide +kernel
theorem dX7_times__64 : decode cX7_times_ 64 = .ok (.iload 8, 2) := by decide +kernel
theorem dX7_times__66 : decode cX7_times_ 66 = .ok (.ifCond .le 63, 3) := by decide +kernel
theorem dX7_times__69 : decode cX7_times_ 69 = .ok (.aload_n 0, 1) := by decide +kernel
theorem dX7_times__70 : decode cX7_times_ 70 = .ok (.getfield 16, 3) := by decide +kernel
theorem dX7_times__73 : decode cX7_times_ 73 = .ok (.aload_n 0, 1) := by decide +kernel
theorem dX7_times__74 : decode cX7_times_ 74 = .ok (.getfield 126, 3) := by decide +kernel
theorem dX7_times__77 : decode cX7_times_ 77 = .ok (.iload 7, 2) := by decide +kernel
theorem dX7_times__79 : decode cX7_times_ 79 = .ok (.iastore, 1) := by decide +kernel
theorem dX7_times__80 : decode cX7_times_ 80 = .ok (.aload_n 0, 1) := by decide +kernel
theorem dX7_times__81 : decode cX7_times_ 81 = .ok (.getfield 19, 3) := by decide +kernel
theorem dX7_times__84 : decode cX7_times_ 84 = .ok (.aload_n 0, 1) := by decide +kernel
theorem dX7_times__85 : decode cX7_times_ 85 = .ok (.getfield 126, 3) := by decide +kernel
theorem dX7_times__88 : decode cX7_times_ 88 = .ok (.iload 8, 2) := by decide +kernel
theorem dX7_times__90 : decode cX7_times_ 90 = .ok (.iastore, 1) := by decide +kernel
theorem dX7_times__91 : decode cX7_times_ 91 = .ok (.aload_n 0, 1) := by decide +kernel
theorem dX7_times__92 : decode cX7_times_ 92 = .ok (.getfield 7, 3) := by decide +kernel
theorem dX7_times__95 : decode cX7_times_ 95 = .ok (.aload_n 0, 1) := by decide +kernel
theorem dX7_times__96 : decode cX7_times_ 96 = .ok (.getfield 126, 3) := by decide +kernel
theorem dX7_times__99 : decode cX7_times_ 99 = .ok (.iload 7, 2) := by decide +kernel
theorem dX7_times__101 : decode cX7_times_ 101 = .ok (.iload 8, 2) := by decide +kernel
theorem dX7_times__103 : decode cX7_times_ 103 = .ok (.imul, 1) := by decide +kernel
theorem dX7_times__104 : decode cX7_times_ 104 = .ok (.iastore, 1) := by decide +kernel
theorem dX7_times__105 : decode cX7_times_ 105 = .ok (.aload_n 0, 1) := by decide +kernel
theorem dX7_times__106 : decode cX7_times_ 106 = .ok (.getfield 13, 3) := by decide +kernel
theorem dX7_times__109 : decode cX7_times_ 109 = .ok (.aload_n 0, 1) := by decide +kernel
theorem dX7_times__110 : decode cX7_times_ 110 = .ok (.getfield 126, 3) := by decide +kernel
theorem dX7_times__113 : decode cX7_times_ 113 = .ok (.iload 5, 2) := by decide +kernel
theorem dX7_times__115 : decode cX7_times_ 115 = .ok (.iload 6, 2) := by decide +kernel
theorem dX7_times__117 : decode cX7_times_ 117 = .ok (.iadd, 1) := by decide +kernel
theorem dX7_times__118 : decode cX7_times_ 118 = .ok (.iastore, 1) := by decide +kernel
theorem dX7_times__119 : decode cX7_times_ 119 = .ok (.aload_n 0, 1) := by decide +kernel
theorem dX7_times__120 : decode cX7_times_ 120 = .ok (.dup, 1) := by decide +kernel
theorem dX7_times__121 : decode cX7_times_ 121 = .ok (.getfield 126, 3) := by decide +kernel
theorem dX7_times__124 : decode cX7_times_ 124 = .ok (.iconst 1, 1) := by decide +kernel
theorem dX7_times__125 : decode cX7_times_ 125 = .ok (.iadd, 1) := by decide +kernel
theorem dX7_times__126 : decode cX7_times_ 126 = .ok (.putfield 126, 3) := by decide +kernel
theorem dX7_times__129 : decode cX7_times_ 129 = .ok (.iinc 6 (-1), 3) := by decide +kernel
theorem dX7_times__132 : decode cX7_times_ 132 = .ok (.goto (-94), 3) := by decide +kernel
theorem dX7_times__135 : decode cX7_times_ 135 = .ok (.iinc 5 (-1), 3) := by decide +kernel
theorem dX7_times__138 : decode cX7_times_ 138 = .ok (.goto (-108), 3) := by decide +kernel
theorem dX7_times__141 : decode cX7_times_ 141 = .ok (.aload_n 0, 1) := by decide +kernel
theorem dX7_times__142 : decode cX7_times_ 142 = .ok (.getfield 126, 3) := by decide +kernel
theorem dX7_times__145 : decode cX7_times_ 145 = .ok (.ireturn, 1) := by decide +kernel
set_option maxRecDepth 20000 in
theorem ggX7_isLine_X7_in : GoodIn wsX7_isLine wsX7_in := goodIn_r _ [5] (by decide +kernel) (by decide +kernel)
set_option maxRecDepth 20000 in
theorem gX7_isLine_X7_in : GoodIn wsX7_isLine (va_wsS RX7 39 yX7_in wsX7_in) := goodIn_app (goodIn_of _ (by decide +kernel)) ggX7_isLine_X7_in
theorem dX7_isLine_0 : decode cX7_isLine 0 = .ok (.iload_n 1, 1) := by decide +kernel
theorem dX7_isLine_1 : decode cX7_isLine 1 = .ok (.i2l, 1) := by decide +kernel
theorem dX7_isLine_2 : decode cX7_isLine 2 = .ok (.lconst 0, 1) := by decide +kernel
theorem dX7_isLine_3 : decode cX7_isLine 3 = .ok (.aload_n 0, 1) := by decide +kernel
theorem dX7_isLine_4 : decode cX7_isLine 4 = .ok (.getfield 126, 3) := by decide +kernel
theorem dX7_isLine_7 : decode cX7_isLine 7 = .ok (.iconst 1, 1) := by decide +kernel
theorem dX7_isLine_8 : decode cX7_isLine 8 = .ok (.isub, 1) := by decide +kernel
theorem dX7_isLine_9 : decode cX7_isLine 9 = .ok (.i2l, 1) := by decide +kernel
theorem dX7_isLine_10 : decode cX7_isLine 10 = .ok (.invokestatic 39, 3) := by decide +kernel
theorem dX7_isLine_13 : decode cX7_isLine 13 = .ok (.ireturn, 1) := by decide +kernel
set_option maxRecDepth 20000 in
theorem ggX7_line_X7_isLine : GoodIn wsX7_line wsX7_isLine := goodIn_r _ [9, 10, 11, 12, 8, 13, 14, 15, 16, 17, 18, 19, 20, 21, 22, 23, 24, 25] (by decide +kernel) (by decide +kernel)
set_option maxRecDepth 20000 in
theorem gX7_line_X7_isLine : GoodIn wsX7_line (wsV RX7 130 RX7 yX7_isLine wsX7_isLine) := goodIn_app (goodIn_of _ (by decide +kernel)) ggX7_line_X7_isLine
theorem dX7_line_0 : decode cX7_line 0 = .ok (.aload_n 0, 1) := by decide +kernel
theorem dX7_line_1 : decode cX7_line 1 = .ok (.iload_n 1, 1) := by decide +kernel
theorem dX7_line_2 : decode cX7_line 2 = .ok (.invokevirtual 130, 3) := by decide +kernel
theorem dX7_line_5 : decode cX7_line 5 = .ok (.ifCond .ne 5, 3) := by decide +kernel
theorem dX7_line_8 : decode cX7_line 8 = .ok (.iconst (-1), 1) := by decide +kernel
theorem dX7_line_9 : decode cX7_line 9 = .ok (.ireturn, 1) := by decide +kernel
theorem dX7_line_10 : decode cX7_line 10 = .ok (.iload_n 2, 1) := by decide +kernel
theorem dX7_line_11 : decode cX7_line 11 = .ok (.ifCond .ne 12, 3) := by decide +kernel
theorem dX7_line_14 : decode cX7_line 14 = .ok (.aload_n 0, 1) := by decide +kernel
theorem dX7_line_15 : decode cX7_line 15 = .ok (.getfield 7, 3) := by decide +kernel
theorem dX7_line_18 : decode cX7_line 18 = .ok (.iload_n 1, 1) := by decide +kernel
theorem dX7_line_19 : decode cX7_line 19 = .ok (.iaload, 1) := by decide +kernel
theorem dX7_line_20 : decode cX7_line 20 = .ok (.goto 47, 3) := by decide +kernel
theorem dX7_line_23 : decode cX7_line 23 = .ok (.iload_n 2, 1) := by decide +kernel
theorem dX7_line_24 : decode cX7_line 24 = .ok (.iconst 1, 1) := by decide +kernel
theorem dX7_line_25 : decode cX7_line 25 = .ok (.if_icmp .ne 12, 3) := by decide +kernel
theorem dX7_line_28 : decode cX7_line 28 = .ok (.aload_n 0, 1) := by decide +kernel
theorem dX7_line_29 : decode cX7_line 29 = .ok (.getfield 13, 3) := by decide +kernel
theorem dX7_line_32 : decode cX7_line 32 = .ok (.iload_n 1, 1) := by decide +kernel
theorem dX7_line_33 : decode cX7_line 33 = .ok (.iaload, 1) := by decide +kernel
theorem dX7_line_34 : decode cX7_line 34 = .ok (.goto 33, 3) := by decide +kernel
theorem dX7_line_37 : decode cX7_line 37 = .ok (.iload_n 2, 1) := by decide +kernel
theorem dX7_line_38 : decode cX7_line 38 = .ok (.iconst 2, 1) := by decide +kernel
theorem dX7_line_39 : decode cX7_line 39 = .ok (.if_icmp .ne 12, 3) := by decide +kernel
theorem dX7_line_42 : decode cX7_line 42 = .ok (.aload_n 0, 1) := by decide +kernel
theorem dX7_line_43 : decode cX7_line 43 = .ok (.getfield 16, 3) := by decide +kernel
theorem dX7_line_46 : decode cX7_line 46 = .ok (.iload_n 1, 1) := by decide +kernel
theorem dX7_line_47 : decode cX7_line 47 = .ok (.iaload, 1) := by decide +kernel
theorem dX7_line_48 : decode cX7_line 48 = .ok (.goto 19, 3) := by decide +kernel
theorem dX7_line_51 : decode cX7_line 51 = .ok (.iload_n 2, 1) := by decide +kernel
theorem dX7_line_52 : decode cX7_line 52 = .ok (.iconst 3, 1) := by decide +kernel
theorem dX7_line_53 : decode cX7_line 53 = .ok (.if_icmp .ne 12, 3) := by decide +kernel
theorem dX7_line_56 : decode cX7_line 56 = .ok (.aload_n 0, 1) := by decide +kernel
theorem dX7_line_57 : decode cX7_line 57 = .ok (.getfield 19, 3) := by decide +kernel
theorem dX7_line_60 : decode cX7_line 60 = .ok (.iload_n 1, 1) := by decide +kernel
theorem dX7_line_61 : decode cX7_line 61 = .ok (.iaload, 1) := by decide +kernel
theorem dX7_line_62 : decode cX7_line 62 = .ok (.goto 5, 3) := by decide +kernel
theorem dX7_line_65 : decode cX7_line 65 = .ok (.bipush (-2), 2) := by decide +kernel
theorem dX7_line_67 : decode cX7_line 67 = .ok (.ireturn, 1) := by decide +kernel
set_option maxRecDepth 20000 in
theorem ggX7_lineOf_X7_power : GoodIn wsX7_lineOf wsX7_power := goodIn_r _ [6, 7] (by decide +kernel) (by decide +kernel)
set_option maxRecDepth 20000 in
theorem gX7_lineOf_X7_power : GoodIn wsX7_lineOf (va_wsS RX7 45 yX7_power wsX7_power) := goodIn_app (goodIn_of _ (by decide +kernel)) ggX7_lineOf_X7_power
theorem dX7_lineOf_0 : decode cX7_lineOf 0 = .ok (.aload_n 0, 1) := by decide +kernel
theorem dX7_lineOf_1 : decode cX7_lineOf 1 = .ok (.getfield 7, 3) := by decide +kernel
theorem dX7_lineOf_4 : decode cX7_lineOf 4 = .ok (.iload_n 1, 1) := by decide +kernel
theorem dX7_lineOf_5 : decode cX7_lineOf 5 = .ok (.iaload, 1) := by decide +kernel
theorem dX7_lineOf_6 : decode cX7_lineOf 6 = .ok (.i2l, 1) := by decide +kernel
theorem dX7_lineOf_7 : decode cX7_lineOf 7 = .ok (.aload_n 0, 1) := by decide +kernel
theorem dX7_lineOf_8 : decode cX7_lineOf 8 = .ok (.getfield 13, 3) := by decide +kernel
theorem dX7_lineOf_11 : decode cX7_lineOf 11 = .ok (.iload_n 1, 1) := by decide +kernel
theorem dX7_lineOf_12 : decode cX7_lineOf 12 = .ok (.iaload, 1) := by decide +kernel
theorem dX7_lineOf_13 : decode cX7_lineOf 13 = .ok (.invokestatic 45, 3) := by decide +kernel
theorem dX7_lineOf_16 : decode cX7_lineOf 16 = .ok (.lmul, 1) := by decide +kernel
theorem dX7_lineOf_17 : decode cX7_lineOf 17 = .ok (.lreturn, 1) := by decide +kernel
set_option maxRecDepth 20000 in
theorem ggX7_sumOf_X7_lineOf : GoodIn wsX7_sumOf wsX7_lineOf := goodIn_r _ [5, 6, 7, 8, 9, 4, 10, 11, 12, 13, 14, 15, 16, 17, 18, 19, 20, 21, 22, 23] (by decide +kernel) (by decide +kernel)
set_option maxRecDepth 20000 in
theorem gX7_sumOf_X7_lineOf : GoodIn wsX7_sumOf (wsV RX7 134 RX7 yX7_lineOf wsX7_lineOf) := goodIn_app (goodIn_of _ (by decide +kernel)) ggX7_sumOf_X7_lineOf
theorem dX7_sumOf_0 : decode cX7_sumOf 0 = .ok (.lconst 0, 1) := by decide +kernel
theorem dX7_sumOf_1 : decode cX7_sumOf 1 = .ok (.lstore_n 2, 1) := by decide +kernel
theorem dX7_sumOf_2 : decode cX7_sumOf 2 = .ok (.iconst 0, 1) := by decide +kernel
theorem dX7_sumOf_3 : decode cX7_sumOf 3 = .ok (.istore 4, 2) := by decide +kernel
theorem dX7_sumOf_5 : decode cX7_sumOf 5 = .ok (.iload 4, 2) := by decide +kernel
theorem dX7_sumOf_7 : decode cX7_sumOf 7 = .ok (.iload_n 1, 1) := by decide +kernel
theorem dX7_sumOf_8 : decode cX7_sumOf 8 = .ok (.if_icmp .gt 18, 3) := by decide +kernel
theorem dX7_sumOf_11 : decode cX7_sumOf 11 = .ok (.lload_n 2, 1) := by decide +kernel
theorem dX7_sumOf_12 : decode cX7_sumOf 12 = .ok (.aload_n 0, 1) := by decide +kernel
theorem dX7_sumOf_13 : decode cX7_sumOf 13 = .ok (.iload 4, 2) := by decide +kernel
theorem dX7_sumOf_15 : decode cX7_sumOf 15 = .ok (.invokevirtual 134, 3) := by decide +kernel
theorem dX7_sumOf_18 : decode cX7_sumOf 18 = .ok (.ladd, 1) := by decide +kernel
theorem dX7_sumOf_19 : decode cX7_sumOf 19 = .ok (.lstore_n 2, 1) := by decide +kernel
theorem dX7_sumOf_20 : decode cX7_sumOf 20 = .ok (.iinc 4 1, 3) := by decide +kernel
theorem dX7_sumOf_23 : decode cX7_sumOf 23 = .ok (.goto (-18), 3) := by decide +kernel
theorem dX7_sumOf_26 : decode cX7_sumOf 26 = .ok (.lload_n 2, 1) := by decide +kernel
theorem dX7_sumOf_27 : decode cX7_sumOf 27 = .ok (.lreturn, 1) := by decide +kernel
set_option maxRecDepth 20000 in
theorem ggX7_sum_X7_isLine : GoodIn wsX7_sum wsX7_isLine := goodIn_r _ [6, 7, 8, 9, 5, 10, 25, 26, 27, 28, 29, 30, 31, 32, 33, 34, 35, 36] (by decide +kernel) (by decide +kernel)
set_option maxRecDepth 20000 in
theorem gX7_sum_X7_isLine : GoodIn wsX7_sum (wsV RX7 130 RX7 yX7_isLine wsX7_isLine) := goodIn_app (goodIn_of _ (by decide +kernel)) ggX7_sum_X7_isLine
set_option maxRecDepth 20000 in
theorem ggX7_sum_X7_sumOf : GoodIn wsX7_sum wsX7_sumOf := goodIn_r _ [14, 15, 16, 17, 5, 18, 19, 20, 21, 22, 23, 24, 25, 26, 27, 28, 29, 30, 31, 32, 33, 34, 35, 36] (by decide +kernel) (by decide +kernel)
set_option maxRecDepth 20000 in
theorem gX7_sum_X7_sumOf : GoodIn wsX7_sum (wsV RX7 137 RX7 yX7_sumOf wsX7_sumOf) := goodIn_app (goodIn_of _ (by decide +kernel)) ggX7_sum_X7_sumOf
theorem dX7_sum_0 : decode cX7_sum 0 = .ok (.aload_n 0, 1) := by decide +kernel
theorem dX7_sum_1 : decode cX7_sum 1 = .ok (.iload_n 1, 1) := by decide +kernel
theorem dX7_sum_2 : decode cX7_sum 2 = .ok (.invokevirtual 130, 3) := by decide +kernel
theorem dX7_sum_5 : decode cX7_sum 5 = .ok (.ifCond .eq 11, 3) := by decide +kernel
theorem dX7_sum_8 : decode cX7_sum 8 = .ok (.aload_n 0, 1) := by decide +kernel
theorem dX7_sum_9 : decode cX7_sum 9 = .ok (.iload_n 1, 1) := by decide +kernel
theorem dX7_sum_10 : decode cX7_sum 10 = .ok (.invokevirtual 137, 3) := by decide +kernel
theorem dX7_sum_13 : decode cX7_sum 13 = .ok (.goto 6, 3) := by decide +kernel
theorem dX7_sum_16 : decode cX7_sum 16 = .ok (.ldc2_w 140, 3) := by decide +kernel
theorem dX7_sum_19 : decode cX7_sum 19 = .ok (.lreturn, 1) := by decide +kernel
set_option maxRecDepth 20000 in
theorem ggX7_slipped_X7_power : GoodIn wsX7_slipped wsX7_power := goodIn_r _ [10, 11] (by decide +kernel) (by decide +kernel)
set_option maxRecDepth 20000 in
theorem gX7_slipped_X7_power : GoodIn wsX7_slipped (va_wsS RX7 45 yX7_power wsX7_power) := goodIn_app (goodIn_of _ (by decide +kernel)) ggX7_slipped_X7_power
set_option maxRecDepth 20000 in
theorem ggX7_slipped_X7_in : GoodIn wsX7_slipped wsX7_in := goodIn_r _ [14] (by decide +kernel) (by decide +kernel)
set_option maxRecDepth 20000 in
theorem gX7_slipped_X7_in : GoodIn wsX7_slipped (va_wsS RX7 39 yX7_in wsX7_in) := goodIn_app (goodIn_of _ (by decide +kernel)) ggX7_slipped_X7_in
theorem dX7_slipped_0 : decode cX7_slipped 0 = .ok (.aload_n 0, 1) := by decide +kernel
theorem dX7_slipped_1 : decode cX7_slipped 1 = .ok (.getfield 7, 3) := by decide +kernel
theorem dX7_slipped_4 : decode cX7_slipped 4 = .ok (.iload_n 1, 1) := by decide +kernel
theorem dX7_slipped_5 : decode cX7_slipped 5 = .ok (.iaload, 1) := by decide +kernel
theorem dX7_slipped_6 : decode cX7_slipped 6 = .ok (.bipush 60, 2) := by decide +kernel
theorem dX7_slipped_8 : decode cX7_slipped 8 = .ok (.idiv, 1) := by decide +kernel
theorem dX7_slipped_9 : decode cX7_slipped 9 = .ok (.istore 4, 2) := by decide +kernel
theorem dX7_slipped_11 : decode cX7_slipped 11 = .ok (.aload_n 0, 1) := by decide +kernel
theorem dX7_slipped_12 : decode cX7_slipped 12 = .ok (.getfield 7, 3) := by decide +kernel
theorem dX7_slipped_15 : decode cX7_slipped 15 = .ok (.iload_n 1, 1) := by decide +kernel
theorem dX7_slipped_16 : decode cX7_slipped 16 = .ok (.iaload, 1) := by decide +kernel
theorem dX7_slipped_17 : decode cX7_slipped 17 = .ok (.bipush 60, 2) := by decide +kernel
theorem dX7_slipped_19 : decode cX7_slipped 19 = .ok (.irem, 1) := by decide +kernel
theorem dX7_slipped_20 : decode cX7_slipped 20 = .ok (.istore 5, 2) := by decide +kernel
theorem dX7_slipped_22 : decode cX7_slipped 22 = .ok (.bipush (-6), 2) := by decide +kernel
theorem dX7_slipped_24 : decode cX7_slipped 24 = .ok (.istore 6, 2) := by decide +kernel
theorem dX7_slipped_26 : decode cX7_slipped 26 = .ok (.iload_n 2, 1) := by decide +kernel
theorem dX7_slipped_27 : decode cX7_slipped 27 = .ok (.ifCond .ne 44, 3) := by decide +kernel
theorem dX7_slipped_30 : decode cX7_slipped 30 = .ok (.iload_n 3, 1) := by decide +kernel
theorem dX7_slipped_31 : decode cX7_slipped 31 = .ok (.ifCond .ne 13, 3) := by decide +kernel
theorem dX7_slipped_34 : decode cX7_slipped 34 = .ok (.iload 4, 2) := by decide +kernel
theorem dX7_slipped_36 : decode cX7_slipped 36 = .ok (.ifCond .le 8, 3) := by decide +kernel
theorem dX7_slipped_39 : decode cX7_slipped 39 = .ok (.iload 5, 2) := by decide +kernel
theorem dX7_slipped_41 : decode cX7_slipped 41 = .ok (.goto 25, 3) := by decide +kernel
theorem dX7_slipped_44 : decode cX7_slipped 44 = .ok (.iload_n 3, 1) := by decide +kernel
theorem dX7_slipped_45 : decode cX7_slipped 45 = .ok (.iconst 1, 1) := by decide +kernel
theorem dX7_slipped_46 : decode cX7_slipped 46 = .ok (.if_icmp .ne 18, 3) := by decide +kernel
theorem dX7_slipped_49 : decode cX7_slipped 49 = .ok (.iload 4, 2) := by decide +kernel
theorem dX7_slipped_51 : decode cX7_slipped 51 = .ok (.ifCond .le 13, 3) := by decide +kernel
theorem dX7_slipped_54 : decode cX7_slipped 54 = .ok (.iload 5, 2) := by decide +kernel
theorem dX7_slipped_56 : decode cX7_slipped 56 = .ok (.ifCond .le 8, 3) := by decide +kernel
theorem dX7_slipped_59 : decode cX7_slipped 59 = .ok (.iload 4, 2) := by decide +kernel
theorem dX7_slipped_61 : decode cX7_slipped 61 = .ok (.goto 5, 3) := by decide +kernel
theorem dX7_slipped_64 : decode cX7_slipped 64 = .ok (.bipush (-6), 2) := by decide +kernel
theorem dX7_slipped_66 : decode cX7_slipped 66 = .ok (.istore 6, 2) := by decide +kernel
theorem dX7_slipped_68 : decode cX7_slipped 68 = .ok (.goto 159, 3) := by decide +kernel
theorem dX7_slipped_71 : decode cX7_slipped 71 = .ok (.iload_n 2, 1) := by decide +kernel
theorem dX7_slipped_72 : decode cX7_slipped 72 = .ok (.iconst 1, 1) := by decide +kernel
theorem dX7_slipped_73 : decode cX7_slipped 73 = .ok (.if_icmp .ne 42, 3) := by decide +kernel
theorem dX7_slipped_76 : decode cX7_slipped 76 = .ok (.iload_n 3, 1) := by decide +kernel
theorem dX7_slipped_77 : decode cX7_slipped 77 = .ok (.ifCond .ne 34, 3) := by decide +kernel
theorem dX7_slipped_80 : decode cX7_slipped 80 = .ok (.aload_n 0, 1) := by decide +kernel
theorem dX7_slipped_81 : decode cX7_slipped 81 = .ok (.getfield 13, 3) := by decide +kernel
theorem dX7_slipped_84 : decode cX7_slipped 84 = .ok (.iload_n 1, 1) := by decide +kernel
theorem dX7_slipped_85 : decode cX7_slipped 85 = .ok (.iaload, 1) := by decide +kernel
theorem dX7_slipped_86 : decode cX7_slipped 86 = .ok (.ifCond .le 25, 3) := by decide +kernel
theorem dX7_slipped_89 : decode cX7_slipped 89 = .ok (.aload_n 0, 1) := by decide +kernel
theorem dX7_slipped_90 : decode cX7_slipped 90 = .ok (.getfield 7, 3) := by decide +kernel
theorem dX7_slipped_93 : decode cX7_slipped 93 = .ok (.iload_n 1, 1) := by decide +kernel
theorem dX7_slipped_94 : decode cX7_slipped 94 = .ok (.iaload, 1) := by decide +kernel
theorem dX7_slipped_95 : decode cX7_slipped 95 = .ok (.i2l, 1) := by decide +kernel
theorem dX7_slipped_96 : decode cX7_slipped 96 = .ok (.aload_n 0, 1) := by decide +kernel
theorem dX7_slipped_97 : decode cX7_slipped 97 = .ok (.getfield 13, 3) := by decide +kernel
theorem dX7_slipped_100 : decode cX7_slipped 100 = .ok (.iload_n 1, 1) := by decide +kernel
theorem dX7_slipped_101 : decode cX7_slipped 101 = .ok (.iaload, 1) := by decide +kernel
theorem dX7_slipped_102 : decode cX7_slipped 102 = .ok (.iconst 1, 1) := by decide +kernel
theorem dX7_slipped_103 : decode cX7_slipped 103 = .ok (.isub, 1) := by decide +kernel
theorem dX7_slipped_104 : decode cX7_slipped 104 = .ok (.invokestatic 45, 3) := by decide +kernel
theorem dX7_slipped_107 : decode cX7_slipped 107 = .ok (.lmul, 1) := by decide +kernel
theorem dX7_slipped_108 : decode cX7_slipped 108 = .ok (.goto 6, 3) := by decide +kernel
theorem dX7_slipped_111 : decode cX7_slipped 111 = .ok (.ldc2_w 142, 3) := by decide +kernel
theorem dX7_slipped_114 : decode cX7_slipped 114 = .ok (.lreturn, 1) := by decide +kernel
theorem dX7_slipped_115 : decode cX7_slipped 115 = .ok (.iload_n 2, 1) := by decide +kernel
theorem dX7_slipped_116 : decode cX7_slipped 116 = .ok (.iconst 2, 1) := by decide +kernel
theorem dX7_slipped_117 : decode cX7_slipped 117 = .ok (.if_icmp .ne 60, 3) := by decide +kernel
theorem dX7_slipped_120 : decode cX7_slipped 120 = .ok (.iload_n 3, 1) := by decide +kernel
theorem dX7_slipped_121 : decode cX7_slipped 121 = .ok (.ifCond .ne 14, 3) := by decide +kernel
theorem dX7_slipped_124 : decode cX7_slipped 124 = .ok (.aload_n 0, 1) := by decide +kernel
theorem dX7_slipped_125 : decode cX7_slipped 125 = .ok (.getfield 19, 3) := by decide +kernel
theorem dX7_slipped_128 : decode cX7_slipped 128 = .ok (.iload_n 1, 1) := by decide +kernel
theorem dX7_slipped_129 : decode cX7_slipped 129 = .ok (.iaload, 1) := by decide +kernel
theorem dX7_slipped_130 : decode cX7_slipped 130 = .ok (.iconst 1, 1) := by decide +kernel
theorem dX7_slipped_131 : decode cX7_slipped 131 = .ok (.isub, 1) := by decide +kernel
theorem dX7_slipped_132 : decode cX7_slipped 132 = .ok (.goto 11, 3) := by decide +kernel
theorem dX7_slipped_135 : decode cX7_slipped 135 = .ok (.aload_n 0, 1) := by decide +kernel
theorem dX7_slipped_136 : decode cX7_slipped 136 = .ok (.getfield 19, 3) := by decide +kernel
theorem dX7_slipped_139 : decode cX7_slipped 139 = .ok (.iload_n 1, 1) := by decide +kernel
theorem dX7_slipped_140 : decode cX7_slipped 140 = .ok (.iaload, 1) := by decide +kernel
theorem dX7_slipped_141 : decode cX7_slipped 141 = .ok (.iconst 1, 1) := by decide +kernel
theorem dX7_slipped_142 : decode cX7_slipped 142 = .ok (.iadd, 1) := by decide +kernel
theorem dX7_slipped_143 : decode cX7_slipped 143 = .ok (.istore 7, 2) := by decide +kernel
theorem dX7_slipped_145 : decode cX7_slipped 145 = .ok (.iload 7, 2) := by decide +kernel
theorem dX7_slipped_147 : decode cX7_slipped 147 = .ok (.i2l, 1) := by decide +kernel
theorem dX7_slipped_148 : decode cX7_slipped 148 = .ok (.lconst 1, 1) := by decide +kernel
theorem dX7_slipped_149 : decode cX7_slipped 149 = .ok (.ldc2_w 144, 3) := by decide +kernel
theorem dX7_slipped_152 : decode cX7_slipped 152 = .ok (.invokestatic 39, 3) := by decide +kernel
theorem dX7_slipped_155 : decode cX7_slipped 155 = .ok (.ifCond .eq 15, 3) := by decide +kernel
theorem dX7_slipped_158 : decode cX7_slipped 158 = .ok (.aload_n 0, 1) := by decide +kernel
theorem dX7_slipped_159 : decode cX7_slipped 159 = .ok (.getfield 16, 3) := by decide +kernel
theorem dX7_slipped_162 : decode cX7_slipped 162 = .ok (.iload_n 1, 1) := by decide +kernel
theorem dX7_slipped_163 : decode cX7_slipped 163 = .ok (.iaload, 1) := by decide +kernel
theorem dX7_slipped_164 : decode cX7_slipped 164 = .ok (.iload 7, 2) := by decide +kernel
theorem dX7_slipped_166 : decode cX7_slipped 166 = .ok (.imul, 1) := by decide +kernel
theorem dX7_slipped_167 : decode cX7_slipped 167 = .ok (.goto 5, 3) := by decide +kernel
theorem dX7_slipped_170 : decode cX7_slipped 170 = .ok (.bipush (-6), 2) := by decide +kernel
theorem dX7_slipped_172 : decode cX7_slipped 172 = .ok (.istore 6, 2) := by decide +kernel
theorem dX7_slipped_174 : decode cX7_slipped 174 = .ok (.goto 53, 3) := by decide +kernel
theorem dX7_slipped_177 : decode cX7_slipped 177 = .ok (.iload_n 3, 1) := by decide +kernel
theorem dX7_slipped_178 : decode cX7_slipped 178 = .ok (.ifCond .ne 20, 3) := by decide +kernel
theorem dX7_slipped_181 : decode cX7_slipped 181 = .ok (.iload 4, 2) := by decide +kernel
theorem dX7_slipped_183 : decode cX7_slipped 183 = .ok (.ifCond .le 15, 3) := by decide +kernel
theorem dX7_slipped_186 : decode cX7_slipped 186 = .ok (.sipush 3660, 3) := by decide +kernel
theorem dX7_slipped_189 : decode cX7_slipped 189 = .ok (.iload 4, 2) := by decide +kernel
theorem dX7_slipped_191 : decode cX7_slipped 191 = .ok (.imul, 1) := by decide +kernel
theorem dX7_slipped_192 : decode cX7_slipped 192 = .ok (.iload 5, 2) := by decide +kernel
theorem dX7_slipped_194 : decode cX7_slipped 194 = .ok (.iadd, 1) := by decide +kernel
theorem dX7_slipped_195 : decode cX7_slipped 195 = .ok (.goto 30, 3) := by decide +kernel
theorem dX7_slipped_198 : decode cX7_slipped 198 = .ok (.iload_n 3, 1) := by decide +kernel
theorem dX7_slipped_199 : decode cX7_slipped 199 = .ok (.iconst 1, 1) := by decide +kernel
theorem dX7_slipped_200 : decode cX7_slipped 200 = .ok (.if_icmp .ne 23, 3) := by decide +kernel
theorem dX7_slipped_203 : decode cX7_slipped 203 = .ok (.iload 5, 2) := by decide +kernel
theorem dX7_slipped_205 : decode cX7_slipped 205 = .ok (.ifCond .le 18, 3) := by decide +kernel
theorem dX7_slipped_208 : decode cX7_slipped 208 = .ok (.sipush 3600, 3) := by decide +kernel
theorem dX7_slipped_211 : decode cX7_slipped 211 = .ok (.iload 4, 2) := by decide +kernel
theorem dX7_slipped_213 : decode cX7_slipped 213 = .ok (.imul, 1) := by decide +kernel
theorem dX7_slipped_214 : decode cX7_slipped 214 = .ok (.bipush 61, 2) := by decide +kernel
theorem dX7_slipped_216 : decode cX7_slipped 216 = .ok (.iload 5, 2) := by decide +kernel
theorem dX7_slipped_218 : decode cX7_slipped 218 = .ok (.imul, 1) := by decide +kernel
theorem dX7_slipped_219 : decode cX7_slipped 219 = .ok (.iadd, 1) := by decide +kernel
theorem dX7_slipped_220 : decode cX7_slipped 220 = .ok (.goto 5, 3) := by decide +kernel
theorem dX7_slipped_223 : decode cX7_slipped 223 = .ok (.bipush (-6), 2) := by decide +kernel
theorem dX7_slipped_225 : decode cX7_slipped 225 = .ok (.istore 6, 2) := by decide +kernel
theorem dX7_slipped_227 : decode cX7_slipped 227 = .ok (.iload 6, 2) := by decide +kernel
theorem dX7_slipped_229 : decode cX7_slipped 229 = .ok (.ifCond .ge 9, 3) := by decide +kernel
theorem dX7_slipped_232 : decode cX7_slipped 232 = .ok (.ldc2_w 142, 3) := by decide +kernel
theorem dX7_slipped_235 : decode cX7_slipped 235 = .ok (.goto 16, 3) := by decide +kernel
theorem dX7_slipped_238 : decode cX7_slipped 238 = .ok (.iload 6, 2) := by decide +kernel
theorem dX7_slipped_240 : decode cX7_slipped 240 = .ok (.i2l, 1) := by decide +kernel
theorem dX7_slipped_241 : decode cX7_slipped 241 = .ok (.aload_n 0, 1) := by decide +kernel
theorem dX7_slipped_242 : decode cX7_slipped 242 = .ok (.getfield 13, 3) := by decide +kernel
theorem dX7_slipped_245 : decode cX7_slipped 245 = .ok (.iload_n 1, 1) := by decide +kernel
theorem dX7_slipped_246 : decode cX7_slipped 246 = .ok (.iaload, 1) := by decide +kernel
theorem dX7_slipped_247 : decode cX7_slipped 247 = .ok (.invokestatic 45, 3) := by decide +kernel
theorem dX7_slipped_250 : decode cX7_slipped 250 = .ok (.lmul, 1) := by decide +kernel
theorem dX7_slipped_251 : decode cX7_slipped 251 = .ok (.lreturn, 1) := by decide +kernel
set_option maxRecDepth 20000 in
theorem ggX7_slip_X7_isLine : GoodIn wsX7_slip wsX7_isLine := goodIn_r _ [9, 10, 11, 12, 8, 13, 36, 37, 38, 39, 40, 41, 42, 43, 44, 45, 46, 47] (by decide +kernel) (by decide +kernel)
set_option maxRecDepth 20000 in
theorem gX7_slip_X7_isLine : GoodIn wsX7_slip (wsV RX7 130 RX7 yX7_isLine wsX7_isLine) := goodIn_app (goodIn_of _ (by decide +kernel)) ggX7_slip_X7_isLine
set_option maxRecDepth 20000 in
theorem ggX7_slip_X7_in : GoodIn wsX7_slip wsX7_in := goodIn_r _ [13] (by decide +kernel) (by decide +kernel)
set_option maxRecDepth 20000 in
theorem gX7_slip_X7_in : GoodIn wsX7_slip (va_wsS RX7 39 yX7_in wsX7_in) := goodIn_app (goodIn_of _ (by decide +kernel)) ggX7_slip_X7_in
set_option maxRecDepth 20000 in
theorem ggX7_slip_X7_slipped : GoodIn wsX7_slip wsX7_slipped := goodIn_r _ [17, 18, 19, 20, 21, 22, 23, 24, 25, 8, 26, 27, 11, 12, 13, 36, 37, 38, 39, 40, 41, 42, 43, 44, 45, 46, 47] (by decide +kernel) (by decide +kernel)
set_option maxRecDepth 20000 in
theorem gX7_slip_X7_slipped : GoodIn wsX7_slip (wsV RX7 146 RX7 yX7_slipped wsX7_slipped) := goodIn_app (goodIn_of _ (by decide +kernel)) ggX7_slip_X7_slipped
set_option maxRecDepth 20000 in
theorem ggX7_slip_X7_sumOf : GoodIn wsX7_slip wsX7_sumOf := goodIn_r _ [31, 32, 33, 34, 8, 35, 18, 19, 24, 25, 26, 27, 36, 37, 38, 39, 40, 41, 42, 43, 44, 45, 46, 47] (by decide +kernel) (by decide +kernel)
set_option maxRecDepth 20000 in
theorem gX7_slip_X7_sumOf : GoodIn wsX7_slip (wsV RX7 137 RX7 yX7_sumOf wsX7_sumOf) := goodIn_app (goodIn_of _ (by decide +kernel)) ggX7_slip_X7_sumOf
set_option maxRecDepth 20000 in
theorem ggX7_slip_X7_lineOf : GoodIn wsX7_slip wsX7_lineOf := goodIn_r _ [35, 18, 19, 24, 25, 8, 26, 27, 36, 37, 38, 39, 40, 41, 42, 43, 44, 45, 46, 47] (by decide +kernel) (by decide +kernel)
set_option maxRecDepth 20000 in
theorem gX7_slip_X7_lineOf : GoodIn wsX7_slip (wsV RX7 134 RX7 yX7_lineOf wsX7_lineOf) := goodIn_app (goodIn_of _ (by decide +kernel)) ggX7_slip_X7_lineOf
theorem dX7_slip_0 : decode cX7_slip 0 = .ok (.aload_n 0, 1) := by decide +kernel
theorem dX7_slip_1 : decode cX7_slip 1 = .ok (.iload_n 1, 1) := by decide +kernel
theorem dX7_slip_2 : decode cX7_slip 2 = .ok (.invokevirtual 130, 3) := by decide +kernel
theorem dX7_slip_5 : decode cX7_slip 5 = .ok (.ifCond .eq 12, 3) := by decide +kernel
theorem dX7_slip_8 : decode cX7_slip 8 = .ok (.aload_n 0, 1) := by decide +kernel
theorem dX7_slip_9 : decode cX7_slip 9 = .ok (.iload 4, 2) := by decide +kernel
theorem dX7_slip_11 : decode cX7_slip 11 = .ok (.invokevirtual 130, 3) := by decide +kernel
theorem dX7_slip_14 : decode cX7_slip 14 = .ok (.ifCond .ne 7, 3) := by decide +kernel
theorem dX7_slip_17 : decode cX7_slip 17 = .ok (.ldc2_w 140, 3) := by decide +kernel
theorem dX7_slip_20 : decode cX7_slip 20 = .ok (.lreturn, 1) := by decide +kernel
theorem dX7_slip_21 : decode cX7_slip 21 = .ok (.iload_n 2, 1) := by decide +kernel
theorem dX7_slip_22 : decode cX7_slip 22 = .ok (.i2l, 1) := by decide +kernel
theorem dX7_slip_23 : decode cX7_slip 23 = .ok (.lconst 0, 1) := by decide +kernel
theorem dX7_slip_24 : decode cX7_slip 24 = .ok (.ldc2_w 110, 3) := by decide +kernel
theorem dX7_slip_27 : decode cX7_slip 27 = .ok (.invokestatic 39, 3) := by decide +kernel
theorem dX7_slip_30 : decode cX7_slip 30 = .ok (.ifCond .eq 13, 3) := by decide +kernel
theorem dX7_slip_33 : decode cX7_slip 33 = .ok (.iload_n 3, 1) := by decide +kernel
theorem dX7_slip_34 : decode cX7_slip 34 = .ok (.i2l, 1) := by decide +kernel
theorem dX7_slip_35 : decode cX7_slip 35 = .ok (.lconst 0, 1) := by decide +kernel
theorem dX7_slip_36 : decode cX7_slip 36 = .ok (.lconst 1, 1) := by decide +kernel
theorem dX7_slip_37 : decode cX7_slip 37 = .ok (.invokestatic 39, 3) := by decide +kernel
theorem dX7_slip_40 : decode cX7_slip 40 = .ok (.ifCond .ne 7, 3) := by decide +kernel
theorem dX7_slip_43 : decode cX7_slip 43 = .ok (.ldc2_w 57, 3) := by decide +kernel
theorem dX7_slip_46 : decode cX7_slip 46 = .ok (.lreturn, 1) := by decide +kernel
theorem dX7_slip_47 : decode cX7_slip 47 = .ok (.aload_n 0, 1) := by decide +kernel
theorem dX7_slip_48 : decode cX7_slip 48 = .ok (.iload_n 1, 1) := by decide +kernel
theorem dX7_slip_49 : decode cX7_slip 49 = .ok (.iload_n 2, 1) := by decide +kernel
theorem dX7_slip_50 : decode cX7_slip 50 = .ok (.iload_n 3, 1) := by decide +kernel
theorem dX7_slip_51 : decode cX7_slip 51 = .ok (.invokevirtual 146, 3) := by decide +kernel
theorem dX7_slip_54 : decode cX7_slip 54 = .ok (.lstore 5, 2) := by decide +kernel
theorem dX7_slip_56 : decode cX7_slip 56 = .ok (.lload 5, 2) := by decide +kernel
theorem dX7_slip_58 : decode cX7_slip 58 = .ok (.lconst 0, 1) := by decide +kernel
theorem dX7_slip_59 : decode cX7_slip 59 = .ok (.lcmp, 1) := by decide +kernel
theorem dX7_slip_60 : decode cX7_slip 60 = .ok (.ifCond .ge 7, 3) := by decide +kernel
theorem dX7_slip_63 : decode cX7_slip 63 = .ok (.ldc2_w 94, 3) := by decide +kernel
theorem dX7_slip_66 : decode cX7_slip 66 = .ok (.lreturn, 1) := by decide +kernel
theorem dX7_slip_67 : decode cX7_slip 67 = .ok (.iload 4, 2) := by decide +kernel
theorem dX7_slip_69 : decode cX7_slip 69 = .ok (.iload_n 1, 1) := by decide +kernel
theorem dX7_slip_70 : decode cX7_slip 70 = .ok (.if_icmp .ge 12, 3) := by decide +kernel
theorem dX7_slip_73 : decode cX7_slip 73 = .ok (.aload_n 0, 1) := by decide +kernel
theorem dX7_slip_74 : decode cX7_slip 74 = .ok (.iload 4, 2) := by decide +kernel
theorem dX7_slip_76 : decode cX7_slip 76 = .ok (.invokevirtual 137, 3) := by decide +kernel
theorem dX7_slip_79 : decode cX7_slip 79 = .ok (.goto 18, 3) := by decide +kernel
theorem dX7_slip_82 : decode cX7_slip 82 = .ok (.aload_n 0, 1) := by decide +kernel
theorem dX7_slip_83 : decode cX7_slip 83 = .ok (.iload 4, 2) := by decide +kernel
theorem dX7_slip_85 : decode cX7_slip 85 = .ok (.invokevirtual 137, 3) := by decide +kernel
theorem dX7_slip_88 : decode cX7_slip 88 = .ok (.aload_n 0, 1) := by decide +kernel
theorem dX7_slip_89 : decode cX7_slip 89 = .ok (.iload_n 1, 1) := by decide +kernel
theorem dX7_slip_90 : decode cX7_slip 90 = .ok (.invokevirtual 134, 3) := by decide +kernel
theorem dX7_slip_93 : decode cX7_slip 93 = .ok (.lsub, 1) := by decide +kernel
theorem dX7_slip_94 : decode cX7_slip 94 = .ok (.lload 5, 2) := by decide +kernel
theorem dX7_slip_96 : decode cX7_slip 96 = .ok (.ladd, 1) := by decide +kernel
theorem dX7_slip_97 : decode cX7_slip 97 = .ok (.lreturn, 1) := by decide +kernel
set_option maxRecDepth 20000 in
theorem ggX7_blame_X7_sumOf : GoodIn wsX7_blame wsX7_sumOf := goodIn_r _ [7, 8, 9, 10, 6, 11, 12, 13, 14, 15, 16, 17, 29, 30, 31, 32, 33, 34, 35, 36, 37, 38, 39, 40] (by decide +kernel) (by decide +kernel)
set_option maxRecDepth 20000 in
theorem gX7_blame_X7_sumOf : GoodIn wsX7_blame (wsV RX7 137 RX7 yX7_sumOf wsX7_sumOf) := goodIn_app (goodIn_of _ (by decide +kernel)) ggX7_blame_X7_sumOf
set_option maxRecDepth 20000 in
theorem ggX7_blame_X7_slipped : GoodIn wsX7_blame wsX7_slipped := goodIn_r _ [21, 12, 13, 22, 23, 24, 25, 14, 15, 6, 16, 17, 26, 27, 28, 29, 30, 31, 32, 33, 34, 35, 36, 37, 38, 39, 40] (by decide +kernel) (by decide +kernel)
set_option maxRecDepth 20000 in
theorem gX7_blame_X7_slipped : GoodIn wsX7_blame (wsV RX7 146 RX7 yX7_slipped wsX7_slipped) := goodIn_app (goodIn_of _ (by decide +kernel)) ggX7_blame_X7_slipped
set_option maxRecDepth 20000 in
theorem ggX7_blame_X7_lineOf : GoodIn wsX7_blame wsX7_lineOf := goodIn_r _ [11, 12, 13, 14, 15, 6, 16, 17, 29, 30, 31, 32, 33, 34, 35, 36, 37, 38, 39, 40] (by decide +kernel) (by decide +kernel)
set_option maxRecDepth 20000 in
theorem gX7_blame_X7_lineOf : GoodIn wsX7_blame (wsV RX7 134 RX7 yX7_lineOf wsX7_lineOf) := goodIn_app (goodIn_of _ (by decide +kernel)) ggX7_blame_X7_lineOf
theorem dX7_blame_0 : decode cX7_blame 0 = .ok (.aload_n 0, 1) := by decide +kernel
theorem dX7_blame_1 : decode cX7_blame 1 = .ok (.getfield 122, 3) := by decide +kernel
theorem dX7_blame_4 : decode cX7_blame 4 = .ok (.ifCond .ne 6, 3) := by decide +kernel
theorem dX7_blame_7 : decode cX7_blame 7 = .ok (.bipush (-3), 2) := by decide +kernel
theorem dX7_blame_9 : decode cX7_blame 9 = .ok (.ireturn, 1) := by decide +kernel
theorem dX7_blame_10 : decode cX7_blame 10 = .ok (.iconst 0, 1) := by decide +kernel
theorem dX7_blame_11 : decode cX7_blame 11 = .ok (.istore 4, 2) := by decide +kernel
theorem dX7_blame_13 : decode cX7_blame 13 = .ok (.aload_n 0, 1) := by decide +kernel
theorem dX7_blame_14 : decode cX7_blame 14 = .ok (.aload_n 0, 1) := by decide +kernel
theorem dX7_blame_15 : decode cX7_blame 15 = .ok (.getfield 126, 3) := by decide +kernel
theorem dX7_blame_18 : decode cX7_blame 18 = .ok (.iconst 1, 1) := by decide +kernel
theorem dX7_blame_19 : decode cX7_blame 19 = .ok (.isub, 1) := by decide +kernel
theorem dX7_blame_20 : decode cX7_blame 20 = .ok (.invokevirtual 137, 3) := by decide +kernel
theorem dX7_blame_23 : decode cX7_blame 23 = .ok (.lstore 5, 2) := by decide +kernel
theorem dX7_blame_25 : decode cX7_blame 25 = .ok (.iconst 0, 1) := by decide +kernel
theorem dX7_blame_26 : decode cX7_blame 26 = .ok (.istore 7, 2) := by decide +kernel
theorem dX7_blame_28 : decode cX7_blame 28 = .ok (.iload 7, 2) := by decide +kernel
theorem dX7_blame_30 : decode cX7_blame 30 = .ok (.bipush 8, 2) := by decide +kernel
theorem dX7_blame_32 : decode cX7_blame 32 = .ok (.aload_n 0, 1) := by decide +kernel
theorem dX7_blame_33 : decode cX7_blame 33 = .ok (.getfield 126, 3) := by decide +kernel
theorem dX7_blame_36 : decode cX7_blame 36 = .ok (.imul, 1) := by decide +kernel
theorem dX7_blame_37 : decode cX7_blame 37 = .ok (.if_icmp .ge 102, 3) := by decide +kernel
theorem dX7_blame_40 : decode cX7_blame 40 = .ok (.aload_n 0, 1) := by decide +kernel
theorem dX7_blame_41 : decode cX7_blame 41 = .ok (.iload 7, 2) := by decide +kernel
theorem dX7_blame_43 : decode cX7_blame 43 = .ok (.bipush 8, 2) := by decide +kernel
theorem dX7_blame_45 : decode cX7_blame 45 = .ok (.idiv, 1) := by decide +kernel
theorem dX7_blame_46 : decode cX7_blame 46 = .ok (.iload 7, 2) := by decide +kernel
theorem dX7_blame_48 : decode cX7_blame 48 = .ok (.iconst 2, 1) := by decide +kernel
theorem dX7_blame_49 : decode cX7_blame 49 = .ok (.idiv, 1) := by decide +kernel
theorem dX7_blame_50 : decode cX7_blame 50 = .ok (.iconst 4, 1) := by decide +kernel
theorem dX7_blame_51 : decode cX7_blame 51 = .ok (.irem, 1) := by decide +kernel
theorem dX7_blame_52 : decode cX7_blame 52 = .ok (.iload 7, 2) := by decide +kernel
theorem dX7_blame_54 : decode cX7_blame 54 = .ok (.iconst 2, 1) := by decide +kernel
theorem dX7_blame_55 : decode cX7_blame 55 = .ok (.irem, 1) := by decide +kernel
theorem dX7_blame_56 : decode cX7_blame 56 = .ok (.invokevirtual 146, 3) := by decide +kernel
theorem dX7_blame_59 : decode cX7_blame 59 = .ok (.lstore 8, 2) := by decide +kernel
theorem dX7_blame_61 : decode cX7_blame 61 = .ok (.lload 5, 2) := by decide +kernel
theorem dX7_blame_63 : decode cX7_blame 63 = .ok (.aload_n 0, 1) := by decide +kernel
theorem dX7_blame_64 : decode cX7_blame 64 = .ok (.iload 7, 2) := by decide +kernel
theorem dX7_blame_66 : decode cX7_blame 66 = .ok (.bipush 8, 2) := by decide +kernel
theorem dX7_blame_68 : decode cX7_blame 68 = .ok (.idiv, 1) := by decide +kernel
theorem dX7_blame_69 : decode cX7_blame 69 = .ok (.invokevirtual 134, 3) := by decide +kernel
theorem dX7_blame_72 : decode cX7_blame 72 = .ok (.lsub, 1) := by decide +kernel
theorem dX7_blame_73 : decode cX7_blame 73 = .ok (.lload 8, 2) := by decide +kernel
theorem dX7_blame_75 : decode cX7_blame 75 = .ok (.ladd, 1) := by decide +kernel
theorem dX7_blame_76 : decode cX7_blame 76 = .ok (.lstore 10, 2) := by decide +kernel
theorem dX7_blame_78 : decode cX7_blame 78 = .ok (.lload 8, 2) := by decide +kernel
theorem dX7_blame_80 : decode cX7_blame 80 = .ok (.lconst 0, 1) := by decide +kernel
theorem dX7_blame_81 : decode cX7_blame 81 = .ok (.lcmp, 1) := by decide +kernel
theorem dX7_blame_82 : decode cX7_blame 82 = .ok (.ifCond .lt 51, 3) := by decide +kernel
theorem dX7_blame_85 : decode cX7_blame 85 = .ok (.lload 10, 2) := by decide +kernel
theorem dX7_blame_87 : decode cX7_blame 87 = .ok (.lload_n 1, 1) := by decide +kernel
theorem dX7_blame_88 : decode cX7_blame 88 = .ok (.lcmp, 1) := by decide +kernel
theorem dX7_blame_89 : decode cX7_blame 89 = .ok (.ifCond .ne 44, 3) := by decide +kernel
theorem dX7_blame_92 : decode cX7_blame 92 = .ok (.lload 10, 2) := by decide +kernel
theorem dX7_blame_94 : decode cX7_blame 94 = .ok (.lload 5, 2) := by decide +kernel
theorem dX7_blame_96 : decode cX7_blame 96 = .ok (.lcmp, 1) := by decide +kernel
theorem dX7_blame_97 : decode cX7_blame 97 = .ok (.ifCond .eq 36, 3) := by decide +kernel
theorem dX7_blame_100 : decode cX7_blame 100 = .ok (.iload 4, 2) := by decide +kernel
theorem dX7_blame_102 : decode cX7_blame 102 = .ok (.iload_n 3, 1) := by decide +kernel
theorem dX7_blame_103 : decode cX7_blame 103 = .ok (.if_icmp .ne 27, 3) := by decide +kernel
theorem dX7_blame_106 : decode cX7_blame 106 = .ok (.bipush 100, 2) := by decide +kernel
theorem dX7_blame_108 : decode cX7_blame 108 = .ok (.iload 7, 2) := by decide +kernel
theorem dX7_blame_110 : decode cX7_blame 110 = .ok (.bipush 8, 2) := by decide +kernel
theorem dX7_blame_112 : decode cX7_blame 112 = .ok (.idiv, 1) := by decide +kernel
theorem dX7_blame_113 : decode cX7_blame 113 = .ok (.imul, 1) := by decide +kernel
theorem dX7_blame_114 : decode cX7_blame 114 = .ok (.bipush 10, 2) := by decide +kernel
theorem dX7_blame_116 : decode cX7_blame 116 = .ok (.iload 7, 2) := by decide +kernel
theorem dX7_blame_118 : decode cX7_blame 118 = .ok (.iconst 2, 1) := by decide +kernel
theorem dX7_blame_119 : decode cX7_blame 119 = .ok (.idiv, 1) := by decide +kernel
theorem dX7_blame_120 : decode cX7_blame 120 = .ok (.iconst 4, 1) := by decide +kernel
theorem dX7_blame_121 : decode cX7_blame 121 = .ok (.irem, 1) := by decide +kernel
theorem dX7_blame_122 : decode cX7_blame 122 = .ok (.imul, 1) := by decide +kernel
theorem dX7_blame_123 : decode cX7_blame 123 = .ok (.iadd, 1) := by decide +kernel
theorem dX7_blame_124 : decode cX7_blame 124 = .ok (.iload 7, 2) := by decide +kernel
theorem dX7_blame_126 : decode cX7_blame 126 = .ok (.iconst 2, 1) := by decide +kernel
theorem dX7_blame_127 : decode cX7_blame 127 = .ok (.irem, 1) := by decide +kernel
theorem dX7_blame_128 : decode cX7_blame 128 = .ok (.iadd, 1) := by decide +kernel
theorem dX7_blame_129 : decode cX7_blame 129 = .ok (.ireturn, 1) := by decide +kernel
theorem dX7_blame_130 : decode cX7_blame 130 = .ok (.iinc 4 1, 3) := by decide +kernel
theorem dX7_blame_133 : decode cX7_blame 133 = .ok (.iinc 7 1, 3) := by decide +kernel
theorem dX7_blame_136 : decode cX7_blame 136 = .ok (.goto (-108), 3) := by decide +kernel
theorem dX7_blame_139 : decode cX7_blame 139 = .ok (.iload_n 3, 1) := by decide +kernel
theorem dX7_blame_140 : decode cX7_blame 140 = .ok (.iconst (-1), 1) := by decide +kernel
theorem dX7_blame_141 : decode cX7_blame 141 = .ok (.if_icmp .ne 8, 3) := by decide +kernel
theorem dX7_blame_144 : decode cX7_blame 144 = .ok (.iload 4, 2) := by decide +kernel
theorem dX7_blame_146 : decode cX7_blame 146 = .ok (.goto 5, 3) := by decide +kernel
theorem dX7_blame_149 : decode cX7_blame 149 = .ok (.bipush (-6), 2) := by decide +kernel
theorem dX7_blame_151 : decode cX7_blame 151 = .ok (.ireturn, 1) := by decide +kernel
set_option maxRecDepth 20000 in
theorem ggX7_isTablet_X7_in : GoodIn wsX7_isTablet wsX7_in := goodIn_r _ [5] (by decide +kernel) (by decide +kernel)
set_option maxRecDepth 20000 in
theorem gX7_isTablet_X7_in : GoodIn wsX7_isTablet (va_wsS RX7 39 yX7_in wsX7_in) := goodIn_app (goodIn_of _ (by decide +kernel)) ggX7_isTablet_X7_in
theorem dX7_isTablet_0 : decode cX7_isTablet 0 = .ok (.iload_n 0, 1) := by decide +kernel
theorem dX7_isTablet_1 : decode cX7_isTablet 1 = .ok (.i2l, 1) := by decide +kernel
theorem dX7_isTablet_2 : decode cX7_isTablet 2 = .ok (.lconst 0, 1) := by decide +kernel
theorem dX7_isTablet_3 : decode cX7_isTablet 3 = .ok (.ldc2_w 110, 3) := by decide +kernel
theorem dX7_isTablet_6 : decode cX7_isTablet 6 = .ok (.invokestatic 39, 3) := by decide +kernel
theorem dX7_isTablet_9 : decode cX7_isTablet 9 = .ok (.ireturn, 1) := by decide +kernel
set_option maxRecDepth 20000 in
theorem ggX7_isRow_X7_isTablet : GoodIn wsX7_isRow wsX7_isTablet := goodIn_r _ [5, 6, 7, 8, 4, 9] (by decide +kernel) (by decide +kernel)
set_option maxRecDepth 20000 in
theorem gX7_isRow_X7_isTablet : GoodIn wsX7_isRow (va_wsS RX7 150 yX7_isTablet wsX7_isTablet) := goodIn_app (goodIn_of _ (by decide +kernel)) ggX7_isRow_X7_isTablet
set_option maxRecDepth 20000 in
theorem ggX7_isRow_X7_in : GoodIn wsX7_isRow wsX7_in := goodIn_r _ [9] (by decide +kernel) (by decide +kernel)
set_option maxRecDepth 20000 in
theorem gX7_isRow_X7_in : GoodIn wsX7_isRow (va_wsS RX7 39 yX7_in wsX7_in) := goodIn_app (goodIn_of _ (by decide +kernel)) ggX7_isRow_X7_in
theorem dX7_isRow_0 : decode cX7_isRow 0 = .ok (.iload_n 1, 1) := by decide +kernel
theorem dX7_isRow_1 : decode cX7_isRow 1 = .ok (.invokestatic 150, 3) := by decide +kernel
theorem dX7_isRow_4 : decode cX7_isRow 4 = .ok (.ifCond .eq 25, 3) := by decide +kernel
theorem dX7_isRow_7 : decode cX7_isRow 7 = .ok (.iload_n 2, 1) := by decide +kernel
theorem dX7_isRow_8 : decode cX7_isRow 8 = .ok (.i2l, 1) := by decide +kernel
theorem dX7_isRow_9 : decode cX7_isRow 9 = .ok (.lconst 0, 1) := by decide +kernel
theorem dX7_isRow_10 : decode cX7_isRow 10 = .ok (.aload_n 0, 1) := by decide +kernel
theorem dX7_isRow_11 : decode cX7_isRow 11 = .ok (.getfield 25, 3) := by decide +kernel
theorem dX7_isRow_14 : decode cX7_isRow 14 = .ok (.iload_n 1, 1) := by decide +kernel
theorem dX7_isRow_15 : decode cX7_isRow 15 = .ok (.iaload, 1) := by decide +kernel
theorem dX7_isRow_16 : decode cX7_isRow 16 = .ok (.iconst 1, 1) := by decide +kernel
theorem dX7_isRow_17 : decode cX7_isRow 17 = .ok (.isub, 1) := by decide +kernel
theorem dX7_isRow_18 : decode cX7_isRow 18 = .ok (.i2l, 1) := by decide +kernel
theorem dX7_isRow_19 : decode cX7_isRow 19 = .ok (.invokestatic 39, 3) := by decide +kernel
theorem dX7_isRow_22 : decode cX7_isRow 22 = .ok (.ifCond .eq 7, 3) := by decide +kernel
theorem dX7_isRow_25 : decode cX7_isRow 25 = .ok (.iconst 1, 1) := by decide +kernel
theorem dX7_isRow_26 : decode cX7_isRow 26 = .ok (.goto 4, 3) := by decide +kernel
theorem dX7_isRow_29 : decode cX7_isRow 29 = .ok (.iconst 0, 1) := by decide +kernel
theorem dX7_isRow_30 : decode cX7_isRow 30 = .ok (.ireturn, 1) := by decide +kernel
set_option maxRecDepth 20000 in
theorem ggX7_isCell_X7_isRow : GoodIn wsX7_isCell wsX7_isRow := goodIn_r _ [6, 7, 8, 9, 5, 10, 11, 12, 13, 14, 15, 16, 17, 18, 19, 20, 21, 22, 23, 24, 25, 26] (by decide +kernel) (by decide +kernel)
set_option maxRecDepth 20000 in
theorem gX7_isCell_X7_isRow : GoodIn wsX7_isCell (wsV RX7 153 RX7 yX7_isRow wsX7_isRow) := goodIn_app (goodIn_of _ (by decide +kernel)) ggX7_isCell_X7_isRow
set_option maxRecDepth 20000 in
theorem ggX7_isCell_X7_in : GoodIn wsX7_isCell wsX7_in := goodIn_r _ [14] (by decide +kernel) (by decide +kernel)
set_option maxRecDepth 20000 in
theorem gX7_isCell_X7_in : GoodIn wsX7_isCell (va_wsS RX7 39 yX7_in wsX7_in) := goodIn_app (goodIn_of _ (by decide +kernel)) ggX7_isCell_X7_in
theorem dX7_isCell_0 : decode cX7_isCell 0 = .ok (.aload_n 0, 1) := by decide +kernel
theorem dX7_isCell_1 : decode cX7_isCell 1 = .ok (.iload_n 1, 1) := by decide +kernel
theorem dX7_isCell_2 : decode cX7_isCell 2 = .ok (.iload_n 2, 1) := by decide +kernel
theorem dX7_isCell_3 : decode cX7_isCell 3 = .ok (.invokevirtual 153, 3) := by decide +kernel
theorem dX7_isCell_6 : decode cX7_isCell 6 = .ok (.ifCond .eq 19, 3) := by decide +kernel
theorem dX7_isCell_9 : decode cX7_isCell 9 = .ok (.iload_n 3, 1) := by decide +kernel
theorem dX7_isCell_10 : decode cX7_isCell 10 = .ok (.i2l, 1) := by decide +kernel
theorem dX7_isCell_11 : decode cX7_isCell 11 = .ok (.lconst 0, 1) := by decide +kernel
theorem dX7_isCell_12 : decode cX7_isCell 12 = .ok (.ldc2_w 99, 3) := by decide +kernel
theorem dX7_isCell_15 : decode cX7_isCell 15 = .ok (.invokestatic 39, 3) := by decide +kernel
theorem dX7_isCell_18 : decode cX7_isCell 18 = .ok (.ifCond .eq 7, 3) := by decide +kernel
theorem dX7_isCell_21 : decode cX7_isCell 21 = .ok (.iconst 1, 1) := by decide +kernel
theorem dX7_isCell_22 : decode cX7_isCell 22 = .ok (.goto 4, 3) := by decide +kernel
theorem dX7_isCell_25 : decode cX7_isCell 25 = .ok (.iconst 0, 1) := by decide +kernel
theorem dX7_isCell_26 : decode cX7_isCell 26 = .ok (.ireturn, 1) := by decide +kernel
theorem dX7_at_0 : decode cX7_at 0 = .ok (.bipush 24, 2) := by decide +kernel
theorem dX7_at_2 : decode cX7_at 2 = .ok (.iload_n 0, 1) := by decide +kernel
theorem dX7_at_3 : decode cX7_at 3 = .ok (.imul, 1) := by decide +kernel
theorem dX7_at_4 : decode cX7_at 4 = .ok (.iconst 3, 1) := by decide +kernel
theorem dX7_at_5 : decode cX7_at 5 = .ok (.iload_n 1, 1) := by decide +kernel
theorem dX7_at_6 : decode cX7_at 6 = .ok (.imul, 1) := by decide +kernel
theorem dX7_at_7 : decode cX7_at 7 = .ok (.iadd, 1) := by decide +kernel
theorem dX7_at_8 : decode cX7_at 8 = .ok (.iload_n 2, 1) := by decide +kernel
theorem dX7_at_9 : decode cX7_at 9 = .ok (.iadd, 1) := by decide +kernel
theorem dX7_at_10 : decode cX7_at 10 = .ok (.ireturn, 1) := by decide +kernel
set_option maxRecDepth 20000 in
theorem ggX7_tablet_X7_isTablet : GoodIn wsX7_tablet wsX7_isTablet := goodIn_r _ [7, 8, 9, 10, 6, 11] (by decide +kernel) (by decide +kernel)
set_option maxRecDepth 20000 in
theorem gX7_tablet_X7_isTablet : GoodIn wsX7_tablet (va_wsS RX7 150 yX7_isTablet wsX7_isTablet) := goodIn_app (goodIn_of _ (by decide +kernel)) ggX7_tablet_X7_isTablet
set_option maxRecDepth 20000 in
theorem ggX7_tablet_X7_in : GoodIn wsX7_tablet wsX7_in := goodIn_r _ [11] (by decide +kernel) (by decide +kernel)
set_option maxRecDepth 20000 in
theorem gX7_tablet_X7_in : GoodIn wsX7_tablet (va_wsS RX7 39 yX7_in wsX7_in) := goodIn_app (goodIn_of _ (by decide +kernel)) ggX7_tablet_X7_in
theorem dX7_tablet_0 : decode cX7_tablet 0 = .ok (.iload_n 1, 1) := by decide +kernel
theorem dX7_tablet_1 : decode cX7_tablet 1 = .ok (.invokestatic 150, 3) := by decide +kernel
theorem dX7_tablet_4 : decode cX7_tablet 4 = .ok (.ifCond .ne 5, 3) := by decide +kernel
theorem dX7_tablet_7 : decode cX7_tablet 7 = .ok (.iconst (-1), 1) := by decide +kernel
theorem dX7_tablet_8 : decode cX7_tablet 8 = .ok (.ireturn, 1) := by decide +kernel
theorem dX7_tablet_9 : decode cX7_tablet 9 = .ok (.iload_n 2, 1) := by decide +kernel
theorem dX7_tablet_10 : decode cX7_tablet 10 = .ok (.i2l, 1) := by decide +kernel
theorem dX7_tablet_11 : decode cX7_tablet 11 = .ok (.lconst 1, 1) := by decide +kernel
theorem dX7_tablet_12 : decode cX7_tablet 12 = .ok (.ldc2_w 72, 3) := by decide +kernel
theorem dX7_tablet_15 : decode cX7_tablet 15 = .ok (.invokestatic 39, 3) := by decide +kernel
theorem dX7_tablet_18 : decode cX7_tablet 18 = .ok (.ifCond .ne 6, 3) := by decide +kernel
theorem dX7_tablet_21 : decode cX7_tablet 21 = .ok (.bipush (-2), 2) := by decide +kernel
theorem dX7_tablet_23 : decode cX7_tablet 23 = .ok (.ireturn, 1) := by decide +kernel
theorem dX7_tablet_24 : decode cX7_tablet 24 = .ok (.aload_n 0, 1) := by decide +kernel
theorem dX7_tablet_25 : decode cX7_tablet 25 = .ok (.getfield 25, 3) := by decide +kernel
theorem dX7_tablet_28 : decode cX7_tablet 28 = .ok (.iload_n 1, 1) := by decide +kernel
theorem dX7_tablet_29 : decode cX7_tablet 29 = .ok (.iload_n 2, 1) := by decide +kernel
theorem dX7_tablet_30 : decode cX7_tablet 30 = .ok (.iastore, 1) := by decide +kernel
theorem dX7_tablet_31 : decode cX7_tablet 31 = .ok (.iconst 0, 1) := by decide +kernel
theorem dX7_tablet_32 : decode cX7_tablet 32 = .ok (.istore_n 3, 1) := by decide +kernel
theorem dX7_tablet_33 : decode cX7_tablet 33 = .ok (.iload_n 3, 1) := by decide +kernel
theorem dX7_tablet_34 : decode cX7_tablet 34 = .ok (.bipush 24, 2) := by decide +kernel
theorem dX7_tablet_36 : decode cX7_tablet 36 = .ok (.if_icmp .ge 21, 3) := by decide +kernel
theorem dX7_tablet_39 : decode cX7_tablet 39 = .ok (.aload_n 0, 1) := by decide +kernel
theorem dX7_tablet_40 : decode cX7_tablet 40 = .ok (.getfield 28, 3) := by decide +kernel
theorem dX7_tablet_43 : decode cX7_tablet 43 = .ok (.bipush 24, 2) := by decide +kernel
theorem dX7_tablet_45 : decode cX7_tablet 45 = .ok (.iload_n 1, 1) := by decide +kernel
theorem dX7_tablet_46 : decode cX7_tablet 46 = .ok (.imul, 1) := by decide +kernel
theorem dX7_tablet_47 : decode cX7_tablet 47 = .ok (.iload_n 3, 1) := by decide +kernel
theorem dX7_tablet_48 : decode cX7_tablet 48 = .ok (.iadd, 1) := by decide +kernel
theorem dX7_tablet_49 : decode cX7_tablet 49 = .ok (.iconst 0, 1) := by decide +kernel
theorem dX7_tablet_50 : decode cX7_tablet 50 = .ok (.iastore, 1) := by decide +kernel
theorem dX7_tablet_51 : decode cX7_tablet 51 = .ok (.iinc 3 1, 3) := by decide +kernel
theorem dX7_tablet_54 : decode cX7_tablet 54 = .ok (.goto (-21), 3) := by decide +kernel
theorem dX7_tablet_57 : decode cX7_tablet 57 = .ok (.iconst 1, 1) := by decide +kernel
theorem dX7_tablet_58 : decode cX7_tablet 58 = .ok (.ireturn, 1) := by decide +kernel
set_option maxRecDepth 20000 in
theorem ggX7_press_X7_isCell : GoodIn wsX7_press wsX7_isCell := goodIn_r _ [7, 8, 9, 10, 11, 6, 12, 13, 14, 15, 16, 17, 18, 19, 20, 24, 25, 26, 27, 28, 29, 30, 31, 32, 33, 34, 35] (by decide +kernel) (by decide +kernel)
set_option maxRecDepth 20000 in
theorem gX7_press_X7_isCell : GoodIn wsX7_press (wsV RX7 157 RX7 yX7_isCell wsX7_isCell) := goodIn_app (goodIn_of _ (by decide +kernel)) ggX7_press_X7_isCell
set_option maxRecDepth 20000 in
theorem ggX7_press_X7_in : GoodIn wsX7_press wsX7_in := goodIn_r _ [20] (by decide +kernel) (by decide +kernel)
set_option maxRecDepth 20000 in
theorem gX7_press_X7_in : GoodIn wsX7_press (va_wsS RX7 39 yX7_in wsX7_in) := goodIn_app (goodIn_of _ (by decide +kernel)) ggX7_press_X7_in
set_option maxRecDepth 20000 in
theorem ggX7_press_X7_at : GoodIn wsX7_press wsX7_at := goodIn_r _ [23] (by decide +kernel) (by decide +kernel)
set_option maxRecDepth 20000 in
theorem gX7_press_X7_at : GoodIn wsX7_press (va_wsS RX7 161 yX7_at wsX7_at) := goodIn_app (goodIn_of _ (by decide +kernel)) ggX7_press_X7_at
theorem dX7_press_0 : decode cX7_press 0 = .ok (.aload_n 0, 1) := by decide +kernel
theorem dX7_press_1 : decode cX7_press 1 = .ok (.iload_n 1, 1) := by decide +kernel
theorem dX7_press_2 : decode cX7_press 2 = .ok (.iload_n 2, 1) := by decide +kernel
theorem dX7_press_3 : decode cX7_press 3 = .ok (.iload_n 3, 1) := by decide +kernel
theorem dX7_press_4 : decode cX7_press 4 = .ok (.invokevirtual 157, 3) := by decide +kernel
theorem dX7_press_7 : decode cX7_press 7 = .ok (.ifCond .ne 5, 3) := by decide +kernel
theorem dX7_press_10 : decode cX7_press 10 = .ok (.iconst (-1), 1) := by decide +kernel
theorem dX7_press_11 : decode cX7_press 11 = .ok (.ireturn, 1) := by decide +kernel
theorem dX7_press_12 : decode cX7_press 12 = .ok (.iload 4, 2) := by decide +kernel
theorem dX7_press_14 : decode cX7_press 14 = .ok (.i2l, 1) := by decide +kernel
theorem dX7_press_15 : decode cX7_press 15 = .ok (.lconst 0, 1) := by decide +kernel
theorem dX7_press_16 : decode cX7_press 16 = .ok (.ldc2_w 117, 3) := by decide +kernel
theorem dX7_press_19 : decode cX7_press 19 = .ok (.invokestatic 39, 3) := by decide +kernel
theorem dX7_press_22 : decode cX7_press 22 = .ok (.ifCond .ne 6, 3) := by decide +kernel
theorem dX7_press_25 : decode cX7_press 25 = .ok (.bipush (-2), 2) := by decide +kernel
theorem dX7_press_27 : decode cX7_press 27 = .ok (.ireturn, 1) := by decide +kernel
theorem dX7_press_28 : decode cX7_press 28 = .ok (.aload_n 0, 1) := by decide +kernel
theorem dX7_press_29 : decode cX7_press 29 = .ok (.getfield 28, 3) := by decide +kernel
theorem dX7_press_32 : decode cX7_press 32 = .ok (.iload_n 1, 1) := by decide +kernel
theorem dX7_press_33 : decode cX7_press 33 = .ok (.iload_n 2, 1) := by decide +kernel
theorem dX7_press_34 : decode cX7_press 34 = .ok (.iload_n 3, 1) := by decide +kernel
theorem dX7_press_35 : decode cX7_press 35 = .ok (.invokestatic 161, 3) := by decide +kernel
theorem dX7_press_38 : decode cX7_press 38 = .ok (.iaload, 1) := by decide +kernel
theorem dX7_press_39 : decode cX7_press 39 = .ok (.istore 5, 2) := by decide +kernel
theorem dX7_press_41 : decode cX7_press 41 = .ok (.aload_n 0, 1) := by decide +kernel
theorem dX7_press_42 : decode cX7_press 42 = .ok (.getfield 28, 3) := by decide +kernel
theorem dX7_press_45 : decode cX7_press 45 = .ok (.iload_n 1, 1) := by decide +kernel
theorem dX7_press_46 : decode cX7_press 46 = .ok (.iload_n 2, 1) := by decide +kernel
theorem dX7_press_47 : decode cX7_press 47 = .ok (.iload_n 3, 1) := by decide +kernel
theorem dX7_press_48 : decode cX7_press 48 = .ok (.invokestatic 161, 3) := by decide +kernel
theorem dX7_press_51 : decode cX7_press 51 = .ok (.iload 4, 2) := by decide +kernel
theorem dX7_press_53 : decode cX7_press 53 = .ok (.iastore, 1) := by decide +kernel
theorem dX7_press_54 : decode cX7_press 54 = .ok (.iload 5, 2) := by decide +kernel
theorem dX7_press_56 : decode cX7_press 56 = .ok (.ireturn, 1) := by decide +kernel
set_option maxRecDepth 20000 in
theorem ggX7_cell_X7_isCell : GoodIn wsX7_cell wsX7_isCell := goodIn_r _ [6, 7, 8, 9, 10, 5, 11, 12, 13, 14, 15, 16, 17, 18, 19, 23, 24, 25, 26, 27, 28, 29, 30, 31, 32, 33, 34] (by decide +kernel) (by decide +kernel)
set_option maxRecDepth 20000 in
theorem gX7_cell_X7_isCell : GoodIn wsX7_cell (wsV RX7 157 RX7 yX7_isCell wsX7_isCell) := goodIn_app (goodIn_of _ (by decide +kernel)) ggX7_cell_X7_isCell
set_option maxRecDepth 20000 in
theorem ggX7_cell_X7_at : GoodIn wsX7_cell wsX7_at := goodIn_r _ [22] (by decide +kernel) (by decide +kernel)
set_option maxRecDepth 20000 in
theorem gX7_cell_X7_at : GoodIn wsX7_cell (va_wsS RX7 161 yX7_at wsX7_at) := goodIn_app (goodIn_of _ (by decide +kernel)) ggX7_cell_X7_at
theorem dX7_cell_0 : decode cX7_cell 0 = .ok (.aload_n 0, 1) := by decide +kernel
theorem dX7_cell_1 : decode cX7_cell 1 = .ok (.iload_n 1, 1) := by decide +kernel
theorem dX7_cell_2 : decode cX7_cell 2 = .ok (.iload_n 2, 1) := by decide +kernel
theorem dX7_cell_3 : decode cX7_cell 3 = .ok (.iload_n 3, 1) := by decide +kernel
theorem dX7_cell_4 : decode cX7_cell 4 = .ok (.invokevirtual 157, 3) := by decide +kernel
theorem dX7_cell_7 : decode cX7_cell 7 = .ok (.ifCond .eq 17, 3) := by decide +kernel
theorem dX7_cell_10 : decode cX7_cell 10 = .ok (.aload_n 0, 1) := by decide +kernel
theorem dX7_cell_11 : decode cX7_cell 11 = .ok (.getfield 28, 3) := by decide +kernel
theorem dX7_cell_14 : decode cX7_cell 14 = .ok (.iload_n 1, 1) := by decide +kernel
theorem dX7_cell_15 : decode cX7_cell 15 = .ok (.iload_n 2, 1) := by decide +kernel
theorem dX7_cell_16 : decode cX7_cell 16 = .ok (.iload_n 3, 1) := by decide +kernel
theorem dX7_cell_17 : decode cX7_cell 17 = .ok (.invokestatic 161, 3) := by decide +kernel
theorem dX7_cell_20 : decode cX7_cell 20 = .ok (.iaload, 1) := by decide +kernel
theorem dX7_cell_21 : decode cX7_cell 21 = .ok (.goto 4, 3) := by decide +kernel
theorem dX7_cell_24 : decode cX7_cell 24 = .ok (.iconst (-1), 1) := by decide +kernel
theorem dX7_cell_25 : decode cX7_cell 25 = .ok (.ireturn, 1) := by decide +kernel
theorem dX7_rowsOf_0 : decode cX7_rowsOf 0 = .ok (.iload_n 0, 1) := by decide +kernel
theorem dX7_rowsOf_1 : decode cX7_rowsOf 1 = .ok (.iconst 1, 1) := by decide +kernel
theorem dX7_rowsOf_2 : decode cX7_rowsOf 2 = .ok (.if_icmp .ne 8, 3) := by decide +kernel
theorem dX7_rowsOf_5 : decode cX7_rowsOf 5 = .ok (.bipush 29, 2) := by decide +kernel
theorem dX7_rowsOf_7 : decode cX7_rowsOf 7 = .ok (.goto 15, 3) := by decide +kernel
theorem dX7_rowsOf_10 : decode cX7_rowsOf 10 = .ok (.iload_n 0, 1) := by decide +kernel
theorem dX7_rowsOf_11 : decode cX7_rowsOf 11 = .ok (.iconst 3, 1) := by decide +kernel
theorem dX7_rowsOf_12 : decode cX7_rowsOf 12 = .ok (.if_icmp .ne 8, 3) := by decide +kernel
theorem dX7_rowsOf_15 : decode cX7_rowsOf 15 = .ok (.bipush 40, 2) := by decide +kernel
theorem dX7_rowsOf_17 : decode cX7_rowsOf 17 = .ok (.goto 5, 3) := by decide +kernel
theorem dX7_rowsOf_20 : decode cX7_rowsOf 20 = .ok (.bipush 59, 2) := by decide +kernel
theorem dX7_rowsOf_22 : decode cX7_rowsOf 22 = .ok (.ireturn, 1) := by decide +kernel
set_option maxRecDepth 20000 in
theorem ggX7_inTable_X7_listAt : GoodIn wsX7_inTable wsX7_listAt := goodIn_r _ [4, 5, 6, 3, 7, 8, 9, 10, 11, 12, 13, 14, 15, 16] (by decide +kernel) (by decide +kernel)
set_option maxRecDepth 20000 in
theorem gX7_inTable_X7_listAt : GoodIn wsX7_inTable (va_wsS RX7 106 yX7_listAt wsX7_listAt) := goodIn_app (goodIn_of _ (by decide +kernel)) ggX7_inTable_X7_listAt
set_option maxRecDepth 20000 in
theorem ggX7_inTable_X7_turnedOf : GoodIn wsX7_inTable wsX7_turnedOf := goodIn_r _ [19, 20, 21, 22, 23, 3, 24, 10, 25, 26, 27] (by decide +kernel) (by decide +kernel)
set_option maxRecDepth 20000 in
theorem gX7_inTable_X7_turnedOf : GoodIn wsX7_inTable (va_wsS RX7 96 yX7_turnedOf wsX7_turnedOf) := goodIn_app (goodIn_of _ (by decide +kernel)) ggX7_inTable_X7_turnedOf
theorem dX7_inTable_0 : decode cX7_inTable 0 = .ok (.iload_n 2, 1) := by decide +kernel
theorem dX7_inTable_1 : decode cX7_inTable 1 = .ok (.iconst 1, 1) := by decide +kernel
theorem dX7_inTable_2 : decode cX7_inTable 2 = .ok (.iadd, 1) := by decide +kernel
theorem dX7_inTable_3 : decode cX7_inTable 3 = .ok (.istore 4, 2) := by decide +kernel
theorem dX7_inTable_5 : decode cX7_inTable 5 = .ok (.iload_n 0, 1) := by decide +kernel
theorem dX7_inTable_6 : decode cX7_inTable 6 = .ok (.iconst 1, 1) := by decide +kernel
theorem dX7_inTable_7 : decode cX7_inTable 7 = .ok (.if_icmp .ne 33, 3) := by decide +kernel
theorem dX7_inTable_10 : decode cX7_inTable 10 = .ok (.iload_n 3, 1) := by decide +kernel
theorem dX7_inTable_11 : decode cX7_inTable 11 = .ok (.ifCond .ne 10, 3) := by decide +kernel
theorem dX7_inTable_14 : decode cX7_inTable 14 = .ok (.iload_n 2, 1) := by decide +kernel
theorem dX7_inTable_15 : decode cX7_inTable 15 = .ok (.invokestatic 106, 3) := by decide +kernel
theorem dX7_inTable_18 : decode cX7_inTable 18 = .ok (.goto 21, 3) := by decide +kernel
theorem dX7_inTable_21 : decode cX7_inTable 21 = .ok (.iload_n 3, 1) := by decide +kernel
theorem dX7_inTable_22 : decode cX7_inTable 22 = .ok (.iconst 1, 1) := by decide +kernel
theorem dX7_inTable_23 : decode cX7_inTable 23 = .ok (.if_icmp .ne 15, 3) := by decide +kernel
theorem dX7_inTable_26 : decode cX7_inTable 26 = .ok (.iload_n 2, 1) := by decide +kernel
theorem dX7_inTable_27 : decode cX7_inTable 27 = .ok (.invokestatic 106, 3) := by decide +kernel
theorem dX7_inTable_30 : decode cX7_inTable 30 = .ok (.i2l, 1) := by decide +kernel
theorem dX7_inTable_31 : decode cX7_inTable 31 = .ok (.invokestatic 96, 3) := by decide +kernel
theorem dX7_inTable_34 : decode cX7_inTable 34 = .ok (.l2i, 1) := by decide +kernel
theorem dX7_inTable_35 : decode cX7_inTable 35 = .ok (.goto 4, 3) := by decide +kernel
theorem dX7_inTable_38 : decode cX7_inTable 38 = .ok (.iconst 1, 1) := by decide +kernel
theorem dX7_inTable_39 : decode cX7_inTable 39 = .ok (.ireturn, 1) := by decide +kernel
theorem dX7_inTable_40 : decode cX7_inTable 40 = .ok (.iload_n 3, 1) := by decide +kernel
theorem dX7_inTable_41 : decode cX7_inTable 41 = .ok (.ifCond .ne 14, 3) := by decide +kernel
theorem dX7_inTable_44 : decode cX7_inTable 44 = .ok (.iload_n 0, 1) := by decide +kernel
theorem dX7_inTable_45 : decode cX7_inTable 45 = .ok (.ifCond .ne 7, 3) := by decide +kernel
theorem dX7_inTable_48 : decode cX7_inTable 48 = .ok (.iload_n 1, 1) := by decide +kernel
theorem dX7_inTable_49 : decode cX7_inTable 49 = .ok (.goto 5, 3) := by decide +kernel
theorem dX7_inTable_52 : decode cX7_inTable 52 = .ok (.iload 4, 2) := by decide +kernel
theorem dX7_inTable_54 : decode cX7_inTable 54 = .ok (.ireturn, 1) := by decide +kernel
theorem dX7_inTable_55 : decode cX7_inTable 55 = .ok (.iload_n 0, 1) := by decide +kernel
theorem dX7_inTable_56 : decode cX7_inTable 56 = .ok (.iconst 3, 1) := by decide +kernel
theorem dX7_inTable_57 : decode cX7_inTable 57 = .ok (.if_icmp .ne 25, 3) := by decide +kernel
theorem dX7_inTable_60 : decode cX7_inTable 60 = .ok (.iload_n 3, 1) := by decide +kernel
theorem dX7_inTable_61 : decode cX7_inTable 61 = .ok (.iconst 1, 1) := by decide +kernel
theorem dX7_inTable_62 : decode cX7_inTable 62 = .ok (.if_icmp .ne 11, 3) := by decide +kernel
theorem dX7_inTable_65 : decode cX7_inTable 65 = .ok (.iload 4, 2) := by decide +kernel
theorem dX7_inTable_67 : decode cX7_inTable 67 = .ok (.iload 4, 2) := by decide +kernel
theorem dX7_inTable_69 : decode cX7_inTable 69 = .ok (.imul, 1) := by decide +kernel
theorem dX7_inTable_70 : decode cX7_inTable 70 = .ok (.goto 11, 3) := by decide +kernel
theorem dX7_inTable_73 : decode cX7_inTable 73 = .ok (.iload 4, 2) := by decide +kernel
theorem dX7_inTable_75 : decode cX7_inTable 75 = .ok (.iload 4, 2) := by decide +kernel
theorem dX7_inTable_77 : decode cX7_inTable 77 = .ok (.imul, 1) := by decide +kernel
theorem dX7_inTable_78 : decode cX7_inTable 78 = .ok (.iload 4, 2) := by decide +kernel
theorem dX7_inTable_80 : decode cX7_inTable 80 = .ok (.imul, 1) := by decide +kernel
theorem dX7_inTable_81 : decode cX7_inTable 81 = .ok (.ireturn, 1) := by decide +kernel
theorem dX7_inTable_82 : decode cX7_inTable 82 = .ok (.iload_n 3, 1) := by decide +kernel
theorem dX7_inTable_83 : decode cX7_inTable 83 = .ok (.iconst 1, 1) := by decide +kernel
theorem dX7_inTable_84 : decode cX7_inTable 84 = .ok (.if_icmp .ne 8, 3) := by decide +kernel
theorem dX7_inTable_87 : decode cX7_inTable 87 = .ok (.iload 4, 2) := by decide +kernel
theorem dX7_inTable_89 : decode cX7_inTable 89 = .ok (.goto 19, 3) := by decide +kernel
theorem dX7_inTable_92 : decode cX7_inTable 92 = .ok (.iload_n 0, 1) := by decide +kernel
theorem dX7_inTable_93 : decode cX7_inTable 93 = .ok (.ifCond .ne 10, 3) := by decide +kernel
theorem dX7_inTable_96 : decode cX7_inTable 96 = .ok (.iload_n 1, 1) := by decide +kernel
theorem dX7_inTable_97 : decode cX7_inTable 97 = .ok (.iload 4, 2) := by decide +kernel
theorem dX7_inTable_99 : decode cX7_inTable 99 = .ok (.imul, 1) := by decide +kernel
theorem dX7_inTable_100 : decode cX7_inTable 100 = .ok (.goto 8, 3) := by decide +kernel
theorem dX7_inTable_103 : decode cX7_inTable 103 = .ok (.iload 4, 2) := by decide +kernel
theorem dX7_inTable_105 : decode cX7_inTable 105 = .ok (.iload 4, 2) := by decide +kernel
theorem dX7_inTable_107 : decode cX7_inTable 107 = .ok (.imul, 1) := by decide +kernel
theorem dX7_inTable_108 : decode cX7_inTable 108 = .ok (.ireturn, 1) := by decide +kernel
set_option maxRecDepth 20000 in
theorem ggX7_copy_X7_isTablet : GoodIn wsX7_copy wsX7_isTablet := goodIn_r _ [9, 1, 10, 11, 8, 12] (by decide +kernel) (by decide +kernel)
set_option maxRecDepth 20000 in
theorem gX7_copy_X7_isTablet : GoodIn wsX7_copy (va_wsS RX7 150 yX7_isTablet wsX7_isTablet) := goodIn_app (goodIn_of _ (by decide +kernel)) ggX7_copy_X7_isTablet
set_option maxRecDepth 20000 in
theorem ggX7_copy_X7_in : GoodIn wsX7_copy wsX7_in := goodIn_r _ [12] (by decide +kernel) (by decide +kernel)
set_option maxRecDepth 20000 in
theorem gX7_copy_X7_in : GoodIn wsX7_copy (va_wsS RX7 39 yX7_in wsX7_in) := goodIn_app (goodIn_of _ (by decide +kernel)) ggX7_copy_X7_in
set_option maxRecDepth 20000 in
theorem ggX7_copy_X7_rowsOf : GoodIn wsX7_copy wsX7_rowsOf := goodIn_r _ [15] (by decide +kernel) (by decide +kernel)
set_option maxRecDepth 20000 in
theorem gX7_copy_X7_rowsOf : GoodIn wsX7_copy (va_wsS RX7 165 yX7_rowsOf wsX7_rowsOf) := goodIn_app (goodIn_of _ (by decide +kernel)) ggX7_copy_X7_rowsOf
set_option maxRecDepth 20000 in
theorem ggX7_copy_X7_inTable : GoodIn wsX7_copy wsX7_inTable := goodIn_r _ [18, 19, 20, 8, 21, 22, 23, 24, 25, 26, 27, 10, 11, 12, 28, 29, 30, 31, 32, 33, 34, 35, 36, 37, 38, 39, 40, 41] (by decide +kernel) (by decide +kernel)
set_option maxRecDepth 20000 in
theorem gX7_copy_X7_inTable : GoodIn wsX7_copy (va_wsS RX7 168 yX7_inTable wsX7_inTable) := goodIn_app (goodIn_of _ (by decide +kernel)) ggX7_copy_X7_inTable
theorem dX7_copy_0 : decode cX7_copy 0 = .ok (.iload_n 1, 1) := by decide +kernel
theorem dX7_copy_1 : decode cX7_copy 1 = .ok (.invokestatic 150, 3) := by decide +kernel
theorem dX7_copy_4 : decode cX7_copy 4 = .ok (.ifCond .ne 5, 3) := by decide +kernel
theorem dX7_copy_7 : decode cX7_copy 7 = .ok (.iconst (-1), 1) := by decide +kernel
theorem dX7_copy_8 : decode cX7_copy 8 = .ok (.ireturn, 1) := by decide +kernel
theorem dX7_copy_9 : decode cX7_copy 9 = .ok (.iload_n 2, 1) := by decide +kernel
theorem dX7_copy_10 : decode cX7_copy 10 = .ok (.i2l, 1) := by decide +kernel
theorem dX7_copy_11 : decode cX7_copy 11 = .ok (.lconst 0, 1) := by decide +kernel
theorem dX7_copy_12 : decode cX7_copy 12 = .ok (.ldc2_w 110, 3) := by decide +kernel
theorem dX7_copy_15 : decode cX7_copy 15 = .ok (.invokestatic 39, 3) := by decide +kernel
theorem dX7_copy_18 : decode cX7_copy 18 = .ok (.ifCond .eq 44, 3) := by decide +kernel
theorem dX7_copy_21 : decode cX7_copy 21 = .ok (.iload_n 3, 1) := by decide +kernel
theorem dX7_copy_22 : decode cX7_copy 22 = .ok (.i2l, 1) := by decide +kernel
theorem dX7_copy_23 : decode cX7_copy 23 = .ok (.iload_n 2, 1) := by decide +kernel
theorem dX7_copy_24 : decode cX7_copy 24 = .ok (.ifCond .ne 7, 3) := by decide +kernel
theorem dX7_copy_27 : decode cX7_copy 27 = .ok (.lconst 1, 1) := by decide +kernel
theorem dX7_copy_28 : decode cX7_copy 28 = .ok (.goto 4, 3) := by decide +kernel
theorem dX7_copy_31 : decode cX7_copy 31 = .ok (.lconst 0, 1) := by decide +kernel
theorem dX7_copy_32 : decode cX7_copy 32 = .ok (.iload_n 2, 1) := by decide +kernel
theorem dX7_copy_33 : decode cX7_copy 33 = .ok (.ifCond .ne 9, 3) := by decide +kernel
theorem dX7_copy_36 : decode cX7_copy 36 = .ok (.ldc2_w 144, 3) := by decide +kernel
theorem dX7_copy_39 : decode cX7_copy 39 = .ok (.goto 4, 3) := by decide +kernel
theorem dX7_copy_42 : decode cX7_copy 42 = .ok (.lconst 0, 1) := by decide +kernel
theorem dX7_copy_43 : decode cX7_copy 43 = .ok (.invokestatic 39, 3) := by decide +kernel
theorem dX7_copy_46 : decode cX7_copy 46 = .ok (.ifCond .eq 16, 3) := by decide +kernel
theorem dX7_copy_49 : decode cX7_copy 49 = .ok (.iload 5, 2) := by decide +kernel
theorem dX7_copy_51 : decode cX7_copy 51 = .ok (.i2l, 1) := by decide +kernel
theorem dX7_copy_52 : decode cX7_copy 52 = .ok (.lconst 1, 1) := by decide +kernel
theorem dX7_copy_53 : decode cX7_copy 53 = .ok (.ldc2_w 72, 3) := by decide +kernel
theorem dX7_copy_56 : decode cX7_copy 56 = .ok (.invokestatic 39, 3) := by decide +kernel
theorem dX7_copy_59 : decode cX7_copy 59 = .ok (.ifCond .ne 6, 3) := by decide +kernel
theorem dX7_copy_62 : decode cX7_copy 62 = .ok (.bipush (-2), 2) := by decide +kernel
theorem dX7_copy_64 : decode cX7_copy 64 = .ok (.ireturn, 1) := by decide +kernel
theorem dX7_copy_65 : decode cX7_copy 65 = .ok (.iload 4, 2) := by decide +kernel
theorem dX7_copy_67 : decode cX7_copy 67 = .ok (.ifCond .lt 15, 3) := by decide +kernel
theorem dX7_copy_70 : decode cX7_copy 70 = .ok (.iload 4, 2) := by decide +kernel
theorem dX7_copy_72 : decode cX7_copy 72 = .ok (.iload_n 2, 1) := by decide +kernel
theorem dX7_copy_73 : decode cX7_copy 73 = .ok (.invokestatic 165, 3) := by decide +kernel
theorem dX7_copy_76 : decode cX7_copy 76 = .ok (.iload 5, 2) := by decide +kernel
theorem dX7_copy_78 : decode cX7_copy 78 = .ok (.isub, 1) := by decide +kernel
theorem dX7_copy_79 : decode cX7_copy 79 = .ok (.if_icmp .le 6, 3) := by decide +kernel
theorem dX7_copy_82 : decode cX7_copy 82 = .ok (.bipush (-5), 2) := by decide +kernel
theorem dX7_copy_84 : decode cX7_copy 84 = .ok (.ireturn, 1) := by decide +kernel
theorem dX7_copy_85 : decode cX7_copy 85 = .ok (.aload_n 0, 1) := by decide +kernel
theorem dX7_copy_86 : decode cX7_copy 86 = .ok (.getfield 25, 3) := by decide +kernel
theorem dX7_copy_89 : decode cX7_copy 89 = .ok (.iload_n 1, 1) := by decide +kernel
theorem dX7_copy_90 : decode cX7_copy 90 = .ok (.iload 5, 2) := by decide +kernel
theorem dX7_copy_92 : decode cX7_copy 92 = .ok (.iastore, 1) := by decide +kernel
theorem dX7_copy_93 : decode cX7_copy 93 = .ok (.iconst 0, 1) := by decide +kernel
theorem dX7_copy_94 : decode cX7_copy 94 = .ok (.istore 6, 2) := by decide +kernel
theorem dX7_copy_96 : decode cX7_copy 96 = .ok (.iload 6, 2) := by decide +kernel
theorem dX7_copy_98 : decode cX7_copy 98 = .ok (.bipush 24, 2) := by decide +kernel
theorem dX7_copy_100 : decode cX7_copy 100 = .ok (.if_icmp .ge 50, 3) := by decide +kernel
theorem dX7_copy_103 : decode cX7_copy 103 = .ok (.aload_n 0, 1) := by decide +kernel
theorem dX7_copy_104 : decode cX7_copy 104 = .ok (.getfield 28, 3) := by decide +kernel
theorem dX7_copy_107 : decode cX7_copy 107 = .ok (.bipush 24, 2) := by decide +kernel
theorem dX7_copy_109 : decode cX7_copy 109 = .ok (.iload_n 1, 1) := by decide +kernel
theorem dX7_copy_110 : decode cX7_copy 110 = .ok (.imul, 1) := by decide +kernel
theorem dX7_copy_111 : decode cX7_copy 111 = .ok (.iload 6, 2) := by decide +kernel
theorem dX7_copy_113 : decode cX7_copy 113 = .ok (.iadd, 1) := by decide +kernel
theorem dX7_copy_114 : decode cX7_copy 114 = .ok (.iload 6, 2) := by decide +kernel
theorem dX7_copy_116 : decode cX7_copy 116 = .ok (.iconst 3, 1) := by decide +kernel
theorem dX7_copy_117 : decode cX7_copy 117 = .ok (.iload 5, 2) := by decide +kernel
theorem dX7_copy_119 : decode cX7_copy 119 = .ok (.imul, 1) := by decide +kernel
theorem dX7_copy_120 : decode cX7_copy 120 = .ok (.if_icmp .ge 22, 3) := by decide +kernel
theorem dX7_copy_123 : decode cX7_copy 123 = .ok (.iload_n 2, 1) := by decide +kernel
theorem dX7_copy_124 : decode cX7_copy 124 = .ok (.iload_n 3, 1) := by decide +kernel
theorem dX7_copy_125 : decode cX7_copy 125 = .ok (.iload 4, 2) := by decide +kernel
theorem dX7_copy_127 : decode cX7_copy 127 = .ok (.iload 6, 2) := by decide +kernel
theorem dX7_copy_129 : decode cX7_copy 129 = .ok (.iconst 3, 1) := by decide +kernel
theorem dX7_copy_130 : decode cX7_copy 130 = .ok (.idiv, 1) := by decide +kernel
theorem dX7_copy_131 : decode cX7_copy 131 = .ok (.iadd, 1) := by decide +kernel
theorem dX7_copy_132 : decode cX7_copy 132 = .ok (.iload 6, 2) := by decide +kernel
theorem dX7_copy_134 : decode cX7_copy 134 = .ok (.iconst 3, 1) := by decide +kernel
theorem dX7_copy_135 : decode cX7_copy 135 = .ok (.irem, 1) := by decide +kernel
theorem dX7_copy_136 : decode cX7_copy 136 = .ok (.invokestatic 168, 3) := by decide +kernel
theorem dX7_copy_139 : decode cX7_copy 139 = .ok (.goto 4, 3) := by decide +kernel
theorem dX7_copy_142 : decode cX7_copy 142 = .ok (.iconst 0, 1) := by decide +kernel
theorem dX7_copy_143 : decode cX7_copy 143 = .ok (.iastore, 1) := by decide +kernel
theorem dX7_copy_144 : decode cX7_copy 144 = .ok (.iinc 6 1, 3) := by decide +kernel
theorem dX7_copy_147 : decode cX7_copy 147 = .ok (.goto (-51), 3) := by decide +kernel
theorem dX7_copy_150 : decode cX7_copy 150 = .ok (.iload 5, 2) := by decide +kernel
theorem dX7_copy_152 : decode cX7_copy 152 = .ok (.ireturn, 1) := by decide +kernel
set_option maxRecDepth 20000 in
theorem ggX7_agree_X7_sixtyOf : GoodIn wsX7_agree wsX7_sixtyOf := goodIn_r _ [4, 5] (by decide +kernel) (by decide +kernel)
set_option maxRecDepth 20000 in
theorem gX7_agree_X7_sixtyOf : GoodIn wsX7_agree (va_wsS RX7 53 yX7_sixtyOf wsX7_sixtyOf) := goodIn_app (goodIn_of _ (by decide +kernel)) ggX7_agree_X7_sixtyOf
theorem dX7_agree_0 : decode cX7_agree 0 = .ok (.iload_n 0, 1) := by decide +kernel
theorem dX7_agree_1 : decode cX7_agree 1 = .ok (.ifCond .eq 21, 3) := by decide +kernel
theorem dX7_agree_4 : decode cX7_agree 4 = .ok (.iload_n 1, 1) := by decide +kernel
theorem dX7_agree_5 : decode cX7_agree 5 = .ok (.ifCond .eq 17, 3) := by decide +kernel
theorem dX7_agree_8 : decode cX7_agree 8 = .ok (.iload_n 0, 1) := by decide +kernel
theorem dX7_agree_9 : decode cX7_agree 9 = .ok (.i2l, 1) := by decide +kernel
theorem dX7_agree_10 : decode cX7_agree 10 = .ok (.invokestatic 53, 3) := by decide +kernel
theorem dX7_agree_13 : decode cX7_agree 13 = .ok (.iload_n 1, 1) := by decide +kernel
theorem dX7_agree_14 : decode cX7_agree 14 = .ok (.i2l, 1) := by decide +kernel
theorem dX7_agree_15 : decode cX7_agree 15 = .ok (.invokestatic 53, 3) := by decide +kernel
theorem dX7_agree_18 : decode cX7_agree 18 = .ok (.lcmp, 1) := by decide +kernel
theorem dX7_agree_19 : decode cX7_agree 19 = .ok (.ifCond .ne 7, 3) := by decide +kernel
theorem dX7_agree_22 : decode cX7_agree 22 = .ok (.iconst 1, 1) := by decide +kernel
theorem dX7_agree_23 : decode cX7_agree 23 = .ok (.goto 4, 3) := by decide +kernel
theorem dX7_agree_26 : decode cX7_agree 26 = .ok (.iconst 0, 1) := by decide +kernel
theorem dX7_agree_27 : decode cX7_agree 27 = .ok (.ireturn, 1) := by decide +kernel
set_option maxRecDepth 20000 in
theorem ggX7_tableAt_X7_listAt : GoodIn wsX7_tableAt wsX7_listAt := goodIn_r _ [5, 6, 7, 4, 8, 9, 10, 11, 12, 13, 14, 15, 16, 17] (by decide +kernel) (by decide +kernel)
set_option maxRecDepth 20000 in
theorem gX7_tableAt_X7_listAt : GoodIn wsX7_tableAt (va_wsS RX7 106 yX7_listAt wsX7_listAt) := goodIn_app (goodIn_of _ (by decide +kernel)) ggX7_tableAt_X7_listAt
set_option maxRecDepth 20000 in
theorem ggX7_tableAt_X7_turnedOf : GoodIn wsX7_tableAt wsX7_turnedOf := goodIn_r _ [20, 21, 22, 23, 24, 4, 25, 11, 26, 27, 28] (by decide +kernel) (by decide +kernel)
set_option maxRecDepth 20000 in
theorem gX7_tableAt_X7_turnedOf : GoodIn wsX7_tableAt (va_wsS RX7 96 yX7_turnedOf wsX7_turnedOf) := goodIn_app (goodIn_of _ (by decide +kernel)) ggX7_tableAt_X7_turnedOf
set_option maxRecDepth 20000 in
theorem ggX7_tableAt_X7_inTable : GoodIn wsX7_tableAt wsX7_inTable := goodIn_r _ [31, 2, 3, 4, 5, 6, 7, 8, 9, 10, 11, 12, 13, 14, 15, 16, 17, 18, 19, 20, 21, 22, 23, 24, 25, 26, 27, 28] (by decide +kernel) (by decide +kernel)
set_option maxRecDepth 20000 in
theorem gX7_tableAt_X7_inTable : GoodIn wsX7_tableAt (va_wsS RX7 168 yX7_inTable wsX7_inTable) := goodIn_app (goodIn_of _ (by decide +kernel)) ggX7_tableAt_X7_inTable
theorem dX7_tableAt_0 : decode cX7_tableAt 0 = .ok (.iload_n 1, 1) := by decide +kernel
theorem dX7_tableAt_1 : decode cX7_tableAt 1 = .ok (.iconst 1, 1) := by decide +kernel
theorem dX7_tableAt_2 : decode cX7_tableAt 2 = .ok (.if_icmp .ne 40, 3) := by decide +kernel
theorem dX7_tableAt_5 : decode cX7_tableAt 5 = .ok (.iload 4, 2) := by decide +kernel
theorem dX7_tableAt_7 : decode cX7_tableAt 7 = .ok (.iconst 1, 1) := by decide +kernel
theorem dX7_tableAt_8 : decode cX7_tableAt 8 = .ok (.if_icmp .ne 34, 3) := by decide +kernel
theorem dX7_tableAt_11 : decode cX7_tableAt 11 = .ok (.aload_n 0, 1) := by decide +kernel
theorem dX7_tableAt_12 : decode cX7_tableAt 12 = .ok (.getfield 31, 3) := by decide +kernel
theorem dX7_tableAt_15 : decode cX7_tableAt 15 = .ok (.iload_n 3, 1) := by decide +kernel
theorem dX7_tableAt_16 : decode cX7_tableAt 16 = .ok (.iaload, 1) := by decide +kernel
theorem dX7_tableAt_17 : decode cX7_tableAt 17 = .ok (.ifCond .ne 18, 3) := by decide +kernel
theorem dX7_tableAt_20 : decode cX7_tableAt 20 = .ok (.aload_n 0, 1) := by decide +kernel
theorem dX7_tableAt_21 : decode cX7_tableAt 21 = .ok (.getfield 31, 3) := by decide +kernel
theorem dX7_tableAt_24 : decode cX7_tableAt 24 = .ok (.iload_n 3, 1) := by decide +kernel
theorem dX7_tableAt_25 : decode cX7_tableAt 25 = .ok (.iload_n 3, 1) := by decide +kernel
theorem dX7_tableAt_26 : decode cX7_tableAt 26 = .ok (.invokestatic 106, 3) := by decide +kernel
theorem dX7_tableAt_29 : decode cX7_tableAt 29 = .ok (.i2l, 1) := by decide +kernel
theorem dX7_tableAt_30 : decode cX7_tableAt 30 = .ok (.invokestatic 96, 3) := by decide +kernel
theorem dX7_tableAt_33 : decode cX7_tableAt 33 = .ok (.l2i, 1) := by decide +kernel
theorem dX7_tableAt_34 : decode cX7_tableAt 34 = .ok (.iastore, 1) := by decide +kernel
theorem dX7_tableAt_35 : decode cX7_tableAt 35 = .ok (.aload_n 0, 1) := by decide +kernel
theorem dX7_tableAt_36 : decode cX7_tableAt 36 = .ok (.getfield 31, 3) := by decide +kernel
theorem dX7_tableAt_39 : decode cX7_tableAt 39 = .ok (.iload_n 3, 1) := by decide +kernel
theorem dX7_tableAt_40 : decode cX7_tableAt 40 = .ok (.iaload, 1) := by decide +kernel
theorem dX7_tableAt_41 : decode cX7_tableAt 41 = .ok (.ireturn, 1) := by decide +kernel
theorem dX7_tableAt_42 : decode cX7_tableAt 42 = .ok (.iload_n 1, 1) := by decide +kernel
theorem dX7_tableAt_43 : decode cX7_tableAt 43 = .ok (.iload_n 2, 1) := by decide +kernel
theorem dX7_tableAt_44 : decode cX7_tableAt 44 = .ok (.iload_n 3, 1) := by decide +kernel
theorem dX7_tableAt_45 : decode cX7_tableAt 45 = .ok (.iload 4, 2) := by decide +kernel
theorem dX7_tableAt_47 : decode cX7_tableAt 47 = .ok (.invokestatic 168, 3) := by decide +kernel
theorem dX7_tableAt_50 : decode cX7_tableAt 50 = .ok (.ireturn, 1) := by decide +kernel
set_option maxRecDepth 20000 in
theorem ggX7_unlike_X7_at : GoodIn wsX7_unlike wsX7_at := goodIn_r _ [6] (by decide +kernel) (by decide +kernel)
set_option maxRecDepth 20000 in
theorem gX7_unlike_X7_at : GoodIn wsX7_unlike (va_wsS RX7 161 yX7_at wsX7_at) := goodIn_app (goodIn_of _ (by decide +kernel)) ggX7_unlike_X7_at
set_option maxRecDepth 20000 in
theorem ggX7_unlike_X7_tableAt : GoodIn wsX7_unlike wsX7_tableAt := goodIn_r _ [10, 11, 12, 13, 5, 14, 15, 16, 17, 18, 19, 20, 21, 22, 23, 24, 25, 26, 27, 28, 29, 30, 31, 32, 33, 34, 35, 36, 37, 38, 39, 40, 44, 45, 46, 47, 48, 49, 50, 51, 52, 53, 54, 55] (by decide +kernel) (by decide +kernel)
set_option maxRecDepth 20000 in
theorem gX7_unlike_X7_tableAt : GoodIn wsX7_unlike (wsV RX7 172 RX7 yX7_tableAt wsX7_tableAt) := goodIn_app (goodIn_of _ (by decide +kernel)) ggX7_unlike_X7_tableAt
set_option maxRecDepth 20000 in
theorem ggX7_unlike_X7_agree : GoodIn wsX7_unlike wsX7_agree := goodIn_r _ [43, 32, 33, 5, 34, 20] (by decide +kernel) (by decide +kernel)
set_option maxRecDepth 20000 in
theorem gX7_unlike_X7_agree : GoodIn wsX7_unlike (va_wsS RX7 175 yX7_agree wsX7_agree) := goodIn_app (goodIn_of _ (by decide +kernel)) ggX7_unlike_X7_agree
theorem dX7_unlike_0 : decode cX7_unlike 0 = .ok (.iconst 0, 1) := by decide +kernel
theorem dX7_unlike_1 : decode cX7_unlike 1 = .ok (.istore 5, 2) := by decide +kernel
theorem dX7_unlike_3 : decode cX7_unlike 3 = .ok (.iconst 0, 1) := by decide +kernel
theorem dX7_unlike_4 : decode cX7_unlike 4 = .ok (.istore 6, 2) := by decide +kernel
theorem dX7_unlike_6 : decode cX7_unlike 6 = .ok (.iconst 0, 1) := by decide +kernel
theorem dX7_unlike_7 : decode cX7_unlike 7 = .ok (.istore 7, 2) := by decide +kernel
theorem dX7_unlike_9 : decode cX7_unlike 9 = .ok (.iload 7, 2) := by decide +kernel
theorem dX7_unlike_11 : decode cX7_unlike 11 = .ok (.aload_n 0, 1) := by decide +kernel
theorem dX7_unlike_12 : decode cX7_unlike 12 = .ok (.getfield 25, 3) := by decide +kernel
theorem dX7_unlike_15 : decode cX7_unlike 15 = .ok (.iload_n 1, 1) := by decide +kernel
theorem dX7_unlike_16 : decode cX7_unlike 16 = .ok (.iaload, 1) := by decide +kernel
theorem dX7_unlike_17 : decode cX7_unlike 17 = .ok (.if_icmp .ge 109, 3) := by decide +kernel
theorem dX7_unlike_20 : decode cX7_unlike 20 = .ok (.iconst 1, 1) := by decide +kernel
theorem dX7_unlike_21 : decode cX7_unlike 21 = .ok (.istore 8, 2) := by decide +kernel
theorem dX7_unlike_23 : decode cX7_unlike 23 = .ok (.iconst 0, 1) := by decide +kernel
theorem dX7_unlike_24 : decode cX7_unlike 24 = .ok (.istore 9, 2) := by decide +kernel
theorem dX7_unlike_26 : decode cX7_unlike 26 = .ok (.iload 9, 2) := by decide +kernel
theorem dX7_unlike_28 : decode cX7_unlike 28 = .ok (.iconst 3, 1) := by decide +kernel
theorem dX7_unlike_29 : decode cX7_unlike 29 = .ok (.if_icmp .ge 62, 3) := by decide +kernel
theorem dX7_unlike_32 : decode cX7_unlike 32 = .ok (.iload 8, 2) := by decide +kernel
theorem dX7_unlike_34 : decode cX7_unlike 34 = .ok (.ifCond .eq 57, 3) := by decide +kernel
theorem dX7_unlike_37 : decode cX7_unlike 37 = .ok (.aload_n 0, 1) := by decide +kernel
theorem dX7_unlike_38 : decode cX7_unlike 38 = .ok (.getfield 28, 3) := by decide +kernel
theorem dX7_unlike_41 : decode cX7_unlike 41 = .ok (.iload_n 1, 1) := by decide +kernel
theorem dX7_unlike_42 : decode cX7_unlike 42 = .ok (.iload 7, 2) := by decide +kernel
theorem dX7_unlike_44 : decode cX7_unlike 44 = .ok (.iload 9, 2) := by decide +kernel
theorem dX7_unlike_46 : decode cX7_unlike 46 = .ok (.invokestatic 161, 3) := by decide +kernel
theorem dX7_unlike_49 : decode cX7_unlike 49 = .ok (.iaload, 1) := by decide +kernel
theorem dX7_unlike_50 : decode cX7_unlike 50 = .ok (.istore 10, 2) := by decide +kernel
theorem dX7_unlike_52 : decode cX7_unlike 52 = .ok (.iload 10, 2) := by decide +kernel
theorem dX7_unlike_54 : decode cX7_unlike 54 = .ok (.ifCond .eq 24, 3) := by decide +kernel
theorem dX7_unlike_57 : decode cX7_unlike 57 = .ok (.iload 10, 2) := by decide +kernel
theorem dX7_unlike_59 : decode cX7_unlike 59 = .ok (.aload_n 0, 1) := by decide +kernel
theorem dX7_unlike_60 : decode cX7_unlike 60 = .ok (.iload_n 2, 1) := by decide +kernel
theorem dX7_unlike_61 : decode cX7_unlike 61 = .ok (.iload_n 3, 1) := by decide +kernel
theorem dX7_unlike_62 : decode cX7_unlike 62 = .ok (.iload 4, 2) := by decide +kernel
theorem dX7_unlike_64 : decode cX7_unlike 64 = .ok (.iload 7, 2) := by decide +kernel
theorem dX7_unlike_66 : decode cX7_unlike 66 = .ok (.iadd, 1) := by decide +kernel
theorem dX7_unlike_67 : decode cX7_unlike 67 = .ok (.iload 9, 2) := by decide +kernel
theorem dX7_unlike_69 : decode cX7_unlike 69 = .ok (.invokevirtual 172, 3) := by decide +kernel
theorem dX7_unlike_72 : decode cX7_unlike 72 = .ok (.invokestatic 175, 3) := by decide +kernel
theorem dX7_unlike_75 : decode cX7_unlike 75 = .ok (.ifCond .eq 7, 3) := by decide +kernel
theorem dX7_unlike_78 : decode cX7_unlike 78 = .ok (.iconst 1, 1) := by decide +kernel
theorem dX7_unlike_79 : decode cX7_unlike 79 = .ok (.goto 4, 3) := by decide +kernel
theorem dX7_unlike_82 : decode cX7_unlike 82 = .ok (.iconst 0, 1) := by decide +kernel
theorem dX7_unlike_83 : decode cX7_unlike 83 = .ok (.istore 8, 2) := by decide +kernel
theorem dX7_unlike_85 : decode cX7_unlike 85 = .ok (.iinc 9 1, 3) := by decide +kernel
theorem dX7_unlike_88 : decode cX7_unlike 88 = .ok (.goto (-62), 3) := by decide +kernel
theorem dX7_unlike_91 : decode cX7_unlike 91 = .ok (.iload 5, 2) := by decide +kernel
theorem dX7_unlike_93 : decode cX7_unlike 93 = .ok (.iload 8, 2) := by decide +kernel
theorem dX7_unlike_95 : decode cX7_unlike 95 = .ok (.ifCond .eq 7, 3) := by decide +kernel
theorem dX7_unlike_98 : decode cX7_unlike 98 = .ok (.iconst 0, 1) := by decide +kernel
theorem dX7_unlike_99 : decode cX7_unlike 99 = .ok (.goto 4, 3) := by decide +kernel
theorem dX7_unlike_102 : decode cX7_unlike 102 = .ok (.iconst 1, 1) := by decide +kernel
theorem dX7_unlike_103 : decode cX7_unlike 103 = .ok (.iadd, 1) := by decide +kernel
theorem dX7_unlike_104 : decode cX7_unlike 104 = .ok (.istore 5, 2) := by decide +kernel
theorem dX7_unlike_106 : decode cX7_unlike 106 = .ok (.iload 8, 2) := by decide +kernel
theorem dX7_unlike_108 : decode cX7_unlike 108 = .ok (.ifCond .eq 8, 3) := by decide +kernel
theorem dX7_unlike_111 : decode cX7_unlike 111 = .ok (.iload 6, 2) := by decide +kernel
theorem dX7_unlike_113 : decode cX7_unlike 113 = .ok (.goto 5, 3) := by decide +kernel
theorem dX7_unlike_116 : decode cX7_unlike 116 = .ok (.iload 7, 2) := by decide +kernel
theorem dX7_unlike_118 : decode cX7_unlike 118 = .ok (.istore 6, 2) := by decide +kernel
theorem dX7_unlike_120 : decode cX7_unlike 120 = .ok (.iinc 7 1, 3) := by decide +kernel
theorem dX7_unlike_123 : decode cX7_unlike 123 = .ok (.goto (-114), 3) := by decide +kernel
theorem dX7_unlike_126 : decode cX7_unlike 126 = .ok (.bipush 100, 2) := by decide +kernel
theorem dX7_unlike_128 : decode cX7_unlike 128 = .ok (.iload 5, 2) := by decide +kernel
theorem dX7_unlike_130 : decode cX7_unlike 130 = .ok (.imul, 1) := by decide +kernel
theorem dX7_unlike_131 : decode cX7_unlike 131 = .ok (.iload 6, 2) := by decide +kernel
theorem dX7_unlike_133 : decode cX7_unlike 133 = .ok (.iadd, 1) := by decide +kernel
theorem dX7_unlike_134 : decode cX7_unlike 134 = .ok (.ireturn, 1) := by decide +kernel
theorem dX7_kindOf_0 : decode cX7_kindOf 0 = .ok (.iload_n 0, 1) := by decide +kernel
theorem dX7_kindOf_1 : decode cX7_kindOf 1 = .ok (.sipush 3481, 3) := by decide +kernel
theorem dX7_kindOf_4 : decode cX7_kindOf 4 = .ok (.if_icmp .ge 7, 3) := by decide +kernel
theorem dX7_kindOf_7 : decode cX7_kindOf 7 = .ok (.iconst 0, 1) := by decide +kernel
theorem dX7_kindOf_8 : decode cX7_kindOf 8 = .ok (.goto 26, 3) := by decide +kernel
theorem dX7_kindOf_11 : decode cX7_kindOf 11 = .ok (.iload_n 0, 1) := by decide +kernel
theorem dX7_kindOf_12 : decode cX7_kindOf 12 = .ok (.sipush 3510, 3) := by decide +kernel
theorem dX7_kindOf_15 : decode cX7_kindOf 15 = .ok (.if_icmp .ge 7, 3) := by decide +kernel
theorem dX7_kindOf_18 : decode cX7_kindOf 18 = .ok (.iconst 1, 1) := by decide +kernel
theorem dX7_kindOf_19 : decode cX7_kindOf 19 = .ok (.goto 15, 3) := by decide +kernel
theorem dX7_kindOf_22 : decode cX7_kindOf 22 = .ok (.iload_n 0, 1) := by decide +kernel
theorem dX7_kindOf_23 : decode cX7_kindOf 23 = .ok (.sipush 3569, 3) := by decide +kernel
theorem dX7_kindOf_26 : decode cX7_kindOf 26 = .ok (.if_icmp .ge 7, 3) := by decide +kernel
theorem dX7_kindOf_29 : decode cX7_kindOf 29 = .ok (.iconst 2, 1) := by decide +kernel
theorem dX7_kindOf_30 : decode cX7_kindOf 30 = .ok (.goto 4, 3) := by decide +kernel
theorem dX7_kindOf_33 : decode cX7_kindOf 33 = .ok (.iconst 3, 1) := by decide +kernel
theorem dX7_kindOf_34 : decode cX7_kindOf 34 = .ok (.ireturn, 1) := by decide +kernel
theorem dX7_nOf_0 : decode cX7_nOf 0 = .ok (.iload_n 0, 1) := by decide +kernel
theorem dX7_nOf_1 : decode cX7_nOf 1 = .ok (.sipush 3481, 3) := by decide +kernel
theorem dX7_nOf_4 : decode cX7_nOf 4 = .ok (.if_icmp .ge 12, 3) := by decide +kernel
theorem dX7_nOf_7 : decode cX7_nOf 7 = .ok (.iload_n 0, 1) := by decide +kernel
theorem dX7_nOf_8 : decode cX7_nOf 8 = .ok (.bipush 59, 2) := by decide +kernel
theorem dX7_nOf_10 : decode cX7_nOf 10 = .ok (.idiv, 1) := by decide +kernel
theorem dX7_nOf_11 : decode cX7_nOf 11 = .ok (.iconst 1, 1) := by decide +kernel
theorem dX7_nOf_12 : decode cX7_nOf 12 = .ok (.iadd, 1) := by decide +kernel
theorem dX7_nOf_13 : decode cX7_nOf 13 = .ok (.goto 4, 3) := by decide +kernel
theorem dX7_nOf_16 : decode cX7_nOf 16 = .ok (.iconst 0, 1) := by decide +kernel
theorem dX7_nOf_17 : decode cX7_nOf 17 = .ok (.ireturn, 1) := by decide +kernel
theorem dX7_firstOf_0 : decode cX7_firstOf 0 = .ok (.iload_n 0, 1) := by decide +kernel
theorem dX7_firstOf_1 : decode cX7_firstOf 1 = .ok (.sipush 3481, 3) := by decide +kernel
theorem dX7_firstOf_4 : decode cX7_firstOf 4 = .ok (.if_icmp .ge 10, 3) := by decide +kernel
theorem dX7_firstOf_7 : decode cX7_firstOf 7 = .ok (.iload_n 0, 1) := by decide +kernel
theorem dX7_firstOf_8 : decode cX7_firstOf 8 = .ok (.bipush 59, 2) := by decide +kernel
theorem dX7_firstOf_10 : decode cX7_firstOf 10 = .ok (.irem, 1) := by decide +kernel
theorem dX7_firstOf_11 : decode cX7_firstOf 11 = .ok (.goto 38, 3) := by decide +kernel
theorem dX7_firstOf_14 : decode cX7_firstOf 14 = .ok (.iload_n 0, 1) := by decide +kernel
theorem dX7_firstOf_15 : decode cX7_firstOf 15 = .ok (.sipush 3510, 3) := by decide +kernel
theorem dX7_firstOf_18 : decode cX7_firstOf 18 = .ok (.if_icmp .ge 11, 3) := by decide +kernel
theorem dX7_firstOf_21 : decode cX7_firstOf 21 = .ok (.iload_n 0, 1) := by decide +kernel
theorem dX7_firstOf_22 : decode cX7_firstOf 22 = .ok (.sipush 3481, 3) := by decide +kernel
theorem dX7_firstOf_25 : decode cX7_firstOf 25 = .ok (.isub, 1) := by decide +kernel
theorem dX7_firstOf_26 : decode cX7_firstOf 26 = .ok (.goto 23, 3) := by decide +kernel
theorem dX7_firstOf_29 : decode cX7_firstOf 29 = .ok (.iload_n 0, 1) := by decide +kernel
theorem dX7_firstOf_30 : decode cX7_firstOf 30 = .ok (.sipush 3569, 3) := by decide +kernel
theorem dX7_firstOf_33 : decode cX7_firstOf 33 = .ok (.if_icmp .ge 11, 3) := by decide +kernel
theorem dX7_firstOf_36 : decode cX7_firstOf 36 = .ok (.iload_n 0, 1) := by decide +kernel
theorem dX7_firstOf_37 : decode cX7_firstOf 37 = .ok (.sipush 3510, 3) := by decide +kernel
theorem dX7_firstOf_40 : decode cX7_firstOf 40 = .ok (.isub, 1) := by decide +kernel
theorem dX7_firstOf_41 : decode cX7_firstOf 41 = .ok (.goto 8, 3) := by decide +kernel
theorem dX7_firstOf_44 : decode cX7_firstOf 44 = .ok (.iload_n 0, 1) := by decide +kernel
theorem dX7_firstOf_45 : decode cX7_firstOf 45 = .ok (.sipush 3569, 3) := by decide +kernel
theorem dX7_firstOf_48 : decode cX7_firstOf 48 = .ok (.isub, 1) := by decide +kernel
theorem dX7_firstOf_49 : decode cX7_firstOf 49 = .ok (.ireturn, 1) := by decide +kernel
set_option maxRecDepth 20000 in
theorem ggX7_fits_X7_firstOf : GoodIn wsX7_fits wsX7_firstOf := goodIn_r _ [5] (by decide +kernel) (by decide +kernel)
set_option maxRecDepth 20000 in
theorem gX7_fits_X7_firstOf : GoodIn wsX7_fits (va_wsS RX7 178 yX7_firstOf wsX7_firstOf) := goodIn_app (goodIn_of _ (by decide +kernel)) ggX7_fits_X7_firstOf
set_option maxRecDepth 20000 in
theorem ggX7_fits_X7_kindOf : GoodIn wsX7_fits wsX7_kindOf := goodIn_r _ [8] (by decide +kernel) (by decide +kernel)
set_option maxRecDepth 20000 in
theorem gX7_fits_X7_kindOf : GoodIn wsX7_fits (va_wsS RX7 181 yX7_kindOf wsX7_kindOf) := goodIn_app (goodIn_of _ (by decide +kernel)) ggX7_fits_X7_kindOf
set_option maxRecDepth 20000 in
theorem ggX7_fits_X7_rowsOf : GoodIn wsX7_fits wsX7_rowsOf := goodIn_r _ [11] (by decide +kernel) (by decide +kernel)
set_option maxRecDepth 20000 in
theorem gX7_fits_X7_rowsOf : GoodIn wsX7_fits (va_wsS RX7 165 yX7_rowsOf wsX7_rowsOf) := goodIn_app (goodIn_of _ (by decide +kernel)) ggX7_fits_X7_rowsOf
theorem dX7_fits_0 : decode cX7_fits 0 = .ok (.iload_n 2, 1) := by decide +kernel
theorem dX7_fits_1 : decode cX7_fits 1 = .ok (.invokestatic 178, 3) := by decide +kernel
theorem dX7_fits_4 : decode cX7_fits 4 = .ok (.aload_n 0, 1) := by decide +kernel
theorem dX7_fits_5 : decode cX7_fits 5 = .ok (.getfield 25, 3) := by decide +kernel
theorem dX7_fits_8 : decode cX7_fits 8 = .ok (.iload_n 1, 1) := by decide +kernel
theorem dX7_fits_9 : decode cX7_fits 9 = .ok (.iaload, 1) := by decide +kernel
theorem dX7_fits_10 : decode cX7_fits 10 = .ok (.iadd, 1) := by decide +kernel
theorem dX7_fits_11 : decode cX7_fits 11 = .ok (.iload_n 2, 1) := by decide +kernel
theorem dX7_fits_12 : decode cX7_fits 12 = .ok (.invokestatic 181, 3) := by decide +kernel
theorem dX7_fits_15 : decode cX7_fits 15 = .ok (.invokestatic 165, 3) := by decide +kernel
theorem dX7_fits_18 : decode cX7_fits 18 = .ok (.if_icmp .gt 7, 3) := by decide +kernel
theorem dX7_fits_21 : decode cX7_fits 21 = .ok (.iconst 1, 1) := by decide +kernel
theorem dX7_fits_22 : decode cX7_fits 22 = .ok (.goto 4, 3) := by decide +kernel
theorem dX7_fits_25 : decode cX7_fits 25 = .ok (.iconst 0, 1) := by decide +kernel
theorem dX7_fits_26 : decode cX7_fits 26 = .ok (.ireturn, 1) := by decide +kernel
set_option maxRecDepth 20000 in
theorem ggX7_reads_X7_fits : GoodIn wsX7_reads wsX7_fits := goodIn_r _ [5, 6, 7, 8, 4, 9, 10, 11, 12, 13, 14, 15, 64, 65, 66, 67, 68, 69, 70, 71, 72, 73, 74, 75] (by decide +kernel) (by decide +kernel)
set_option maxRecDepth 20000 in
theorem gX7_reads_X7_fits : GoodIn wsX7_reads (wsV RX7 184 RX7 yX7_fits wsX7_fits) := goodIn_app (goodIn_of _ (by decide +kernel)) ggX7_reads_X7_fits
set_option maxRecDepth 20000 in
theorem ggX7_reads_X7_kindOf : GoodIn wsX7_reads wsX7_kindOf := goodIn_r _ [12] (by decide +kernel) (by decide +kernel)
set_option maxRecDepth 20000 in
theorem gX7_reads_X7_kindOf : GoodIn wsX7_reads (va_wsS RX7 181 yX7_kindOf wsX7_kindOf) := goodIn_app (goodIn_of _ (by decide +kernel)) ggX7_reads_X7_kindOf
set_option maxRecDepth 20000 in
theorem ggX7_reads_X7_nOf : GoodIn wsX7_reads wsX7_nOf := goodIn_r _ [18] (by decide +kernel) (by decide +kernel)
set_option maxRecDepth 20000 in
theorem gX7_reads_X7_nOf : GoodIn wsX7_reads (va_wsS RX7 187 yX7_nOf wsX7_nOf) := goodIn_app (goodIn_of _ (by decide +kernel)) ggX7_reads_X7_nOf
set_option maxRecDepth 20000 in
theorem ggX7_reads_X7_firstOf : GoodIn wsX7_reads wsX7_firstOf := goodIn_r _ [9] (by decide +kernel) (by decide +kernel)
set_option maxRecDepth 20000 in
theorem gX7_reads_X7_firstOf : GoodIn wsX7_reads (va_wsS RX7 178 yX7_firstOf wsX7_firstOf) := goodIn_app (goodIn_of _ (by decide +kernel)) ggX7_reads_X7_firstOf
set_option maxRecDepth 20000 in
theorem ggX7_reads_X7_unlike : GoodIn wsX7_reads wsX7_unlike := goodIn_r _ [22, 6, 23, 24, 25, 4, 26, 27, 28, 29, 30, 31, 32, 33, 34, 35, 36, 37, 38, 39, 40, 41, 42, 43, 44, 45, 46, 47, 48, 49, 50, 51, 52, 53, 54, 55, 56, 57, 58, 59, 60, 61, 62, 63, 64, 65, 66, 67, 68, 69, 70, 71, 72, 73, 74, 75] (by decide +kernel) (by decide +kernel)
set_option maxRecDepth 20000 in
theorem gX7_reads_X7_unlike : GoodIn wsX7_reads (wsV RX7 190 RX7 yX7_unlike wsX7_unlike) := goodIn_app (goodIn_of _ (by decide +kernel)) ggX7_reads_X7_unlike
theorem dX7_reads_0 : decode cX7_reads 0 = .ok (.aload_n 0, 1) := by decide +kernel
theorem dX7_reads_1 : decode cX7_reads 1 = .ok (.iload_n 1, 1) := by decide +kernel
theorem dX7_reads_2 : decode cX7_reads 2 = .ok (.iload_n 2, 1) := by decide +kernel
theorem dX7_reads_3 : decode cX7_reads 3 = .ok (.invokevirtual 184, 3) := by decide +kernel
theorem dX7_reads_6 : decode cX7_reads 6 = .ok (.ifCond .eq 29, 3) := by decide +kernel
theorem dX7_reads_9 : decode cX7_reads 9 = .ok (.aload_n 0, 1) := by decide +kernel
theorem dX7_reads_10 : decode cX7_reads 10 = .ok (.iload_n 1, 1) := by decide +kernel
theorem dX7_reads_11 : decode cX7_reads 11 = .ok (.iload_n 2, 1) := by decide +kernel
theorem dX7_reads_12 : decode cX7_reads 12 = .ok (.invokestatic 181, 3) := by decide +kernel
theorem dX7_reads_15 : decode cX7_reads 15 = .ok (.iload_n 2, 1) := by decide +kernel
theorem dX7_reads_16 : decode cX7_reads 16 = .ok (.invokestatic 187, 3) := by decide +kernel
theorem dX7_reads_19 : decode cX7_reads 19 = .ok (.iload_n 2, 1) := by decide +kernel
theorem dX7_reads_20 : decode cX7_reads 20 = .ok (.invokestatic 178, 3) := by decide +kernel
theorem dX7_reads_23 : decode cX7_reads 23 = .ok (.invokevirtual 190, 3) := by decide +kernel
theorem dX7_reads_26 : decode cX7_reads 26 = .ok (.bipush 100, 2) := by decide +kernel
theorem dX7_reads_28 : decode cX7_reads 28 = .ok (.if_icmp .ge 7, 3) := by decide +kernel
theorem dX7_reads_31 : decode cX7_reads 31 = .ok (.iconst 1, 1) := by decide +kernel
theorem dX7_reads_32 : decode cX7_reads 32 = .ok (.goto 4, 3) := by decide +kernel
theorem dX7_reads_35 : decode cX7_reads 35 = .ok (.iconst 0, 1) := by decide +kernel
theorem dX7_reads_36 : decode cX7_reads 36 = .ok (.ireturn, 1) := by decide +kernel
set_option maxRecDepth 20000 in
theorem ggX7_reading_X7_isTablet : GoodIn wsX7_reading wsX7_isTablet := goodIn_r _ [4, 5, 6, 7, 3, 8] (by decide +kernel) (by decide +kernel)
set_option maxRecDepth 20000 in
theorem gX7_reading_X7_isTablet : GoodIn wsX7_reading (va_wsS RX7 150 yX7_isTablet wsX7_isTablet) := goodIn_app (goodIn_of _ (by decide +kernel)) ggX7_reading_X7_isTablet
set_option maxRecDepth 20000 in
theorem ggX7_reading_X7_reads : GoodIn wsX7_reading wsX7_reads := goodIn_r _ [12, 13, 14, 15, 3, 16, 17, 18, 19, 20, 21, 22, 23, 24, 25, 26, 27, 28, 29, 30, 31, 32, 33, 34, 35, 36, 37, 38, 39, 40, 41, 42, 43, 44, 45, 46, 47, 48, 49, 50, 51, 6, 7, 8, 52, 53, 54, 55, 56, 57, 58, 59, 60, 61, 62, 63, 64, 65, 66, 67, 68, 69, 70, 71, 72, 73, 74, 75, 76, 77, 78, 79, 80, 81, 82, 83] (by decide +kernel) (by decide +kernel)
set_option maxRecDepth 20000 in
theorem gX7_reading_X7_reads : GoodIn wsX7_reading (wsV RX7 193 RX7 yX7_reads wsX7_reads) := goodIn_app (goodIn_of _ (by decide +kernel)) ggX7_reading_X7_reads
set_option maxRecDepth 20000 in
theorem ggX7_reading_X7_kindOf : GoodIn wsX7_reading wsX7_kindOf := goodIn_r _ [23] (by decide +kernel) (by decide +kernel)
set_option maxRecDepth 20000 in
theorem gX7_reading_X7_kindOf : GoodIn wsX7_reading (va_wsS RX7 181 yX7_kindOf wsX7_kindOf) := goodIn_app (goodIn_of _ (by decide +kernel)) ggX7_reading_X7_kindOf
set_option maxRecDepth 20000 in
theorem ggX7_reading_X7_nOf : GoodIn wsX7_reading wsX7_nOf := goodIn_r _ [29] (by decide +kernel) (by decide +kernel)
set_option maxRecDepth 20000 in
theorem gX7_reading_X7_nOf : GoodIn wsX7_reading (va_wsS RX7 187 yX7_nOf wsX7_nOf) := goodIn_app (goodIn_of _ (by decide +kernel)) ggX7_reading_X7_nOf
set_option maxRecDepth 20000 in
theorem ggX7_reading_X7_firstOf : GoodIn wsX7_reading wsX7_firstOf := goodIn_r _ [20] (by decide +kernel) (by decide +kernel)
set_option maxRecDepth 20000 in
theorem gX7_reading_X7_firstOf : GoodIn wsX7_reading (va_wsS RX7 178 yX7_firstOf wsX7_firstOf) := goodIn_app (goodIn_of _ (by decide +kernel)) ggX7_reading_X7_firstOf
theorem dX7_reading_0 : decode cX7_reading 0 = .ok (.iload_n 1, 1) := by decide +kernel
theorem dX7_reading_1 : decode cX7_reading 1 = .ok (.invokestatic 150, 3) := by decide +kernel
theorem dX7_reading_4 : decode cX7_reading 4 = .ok (.ifCond .ne 5, 3) := by decide +kernel
theorem dX7_reading_7 : decode cX7_reading 7 = .ok (.iconst (-1), 1) := by decide +kernel
theorem dX7_reading_8 : decode cX7_reading 8 = .ok (.ireturn, 1) := by decide +kernel
theorem dX7_reading_9 : decode cX7_reading 9 = .ok (.iconst 0, 1) := by decide +kernel
theorem dX7_reading_10 : decode cX7_reading 10 = .ok (.istore_n 3, 1) := by decide +kernel
theorem dX7_reading_11 : decode cX7_reading 11 = .ok (.iconst 0, 1) := by decide +kernel
theorem dX7_reading_12 : decode cX7_reading 12 = .ok (.istore 4, 2) := by decide +kernel
theorem dX7_reading_14 : decode cX7_reading 14 = .ok (.iload 4, 2) := by decide +kernel
theorem dX7_reading_16 : decode cX7_reading 16 = .ok (.sipush 3609, 3) := by decide +kernel
theorem dX7_reading_19 : decode cX7_reading 19 = .ok (.if_icmp .ge 52, 3) := by decide +kernel
theorem dX7_reading_22 : decode cX7_reading 22 = .ok (.aload_n 0, 1) := by decide +kernel
theorem dX7_reading_23 : decode cX7_reading 23 = .ok (.iload_n 1, 1) := by decide +kernel
theorem dX7_reading_24 : decode cX7_reading 24 = .ok (.iload 4, 2) := by decide +kernel
theorem dX7_reading_26 : decode cX7_reading 26 = .ok (.invokevirtual 193, 3) := by decide +kernel
theorem dX7_reading_29 : decode cX7_reading 29 = .ok (.ifCond .eq 36, 3) := by decide +kernel
theorem dX7_reading_32 : decode cX7_reading 32 = .ok (.iload_n 3, 1) := by decide +kernel
theorem dX7_reading_33 : decode cX7_reading 33 = .ok (.iload_n 2, 1) := by decide +kernel
theorem dX7_reading_34 : decode cX7_reading 34 = .ok (.if_icmp .ne 28, 3) := by decide +kernel
theorem dX7_reading_37 : decode cX7_reading 37 = .ok (.sipush 10000, 3) := by decide +kernel
theorem dX7_reading_40 : decode cX7_reading 40 = .ok (.iload 4, 2) := by decide +kernel
theorem dX7_reading_42 : decode cX7_reading 42 = .ok (.invokestatic 181, 3) := by decide +kernel
theorem dX7_reading_45 : decode cX7_reading 45 = .ok (.imul, 1) := by decide +kernel
theorem dX7_reading_46 : decode cX7_reading 46 = .ok (.bipush 100, 2) := by decide +kernel
theorem dX7_reading_48 : decode cX7_reading 48 = .ok (.iload 4, 2) := by decide +kernel
theorem dX7_reading_50 : decode cX7_reading 50 = .ok (.invokestatic 187, 3) := by decide +kernel
theorem dX7_reading_53 : decode cX7_reading 53 = .ok (.imul, 1) := by decide +kernel
theorem dX7_reading_54 : decode cX7_reading 54 = .ok (.iadd, 1) := by decide +kernel
theorem dX7_reading_55 : decode cX7_reading 55 = .ok (.iload 4, 2) := by decide +kernel
theorem dX7_reading_57 : decode cX7_reading 57 = .ok (.invokestatic 178, 3) := by decide +kernel
theorem dX7_reading_60 : decode cX7_reading 60 = .ok (.iadd, 1) := by decide +kernel
theorem dX7_reading_61 : decode cX7_reading 61 = .ok (.ireturn, 1) := by decide +kernel
theorem dX7_reading_62 : decode cX7_reading 62 = .ok (.iinc 3 1, 3) := by decide +kernel
theorem dX7_reading_65 : decode cX7_reading 65 = .ok (.iinc 4 1, 3) := by decide +kernel
theorem dX7_reading_68 : decode cX7_reading 68 = .ok (.goto (-54), 3) := by decide +kernel
theorem dX7_reading_71 : decode cX7_reading 71 = .ok (.iload_n 2, 1) := by decide +kernel
theorem dX7_reading_72 : decode cX7_reading 72 = .ok (.iconst (-1), 1) := by decide +kernel
theorem dX7_reading_73 : decode cX7_reading 73 = .ok (.if_icmp .ne 7, 3) := by decide +kernel
theorem dX7_reading_76 : decode cX7_reading 76 = .ok (.iload_n 3, 1) := by decide +kernel
theorem dX7_reading_77 : decode cX7_reading 77 = .ok (.goto 5, 3) := by decide +kernel
theorem dX7_reading_80 : decode cX7_reading 80 = .ok (.bipush (-6), 2) := by decide +kernel
theorem dX7_reading_82 : decode cX7_reading 82 = .ok (.ireturn, 1) := by decide +kernel
set_option maxRecDepth 20000 in
theorem ggX7_laySure_X7_reads : GoodIn wsX7_laySure wsX7_reads := goodIn_r _ [7, 8, 9, 10, 6, 11, 2, 12, 13, 14, 15, 16, 17, 18, 19, 20, 21, 22, 23, 24, 25, 26, 27, 28, 29, 30, 31, 32, 33, 34, 35, 36, 37, 38, 39, 40, 41, 42, 43, 44, 45, 46, 47, 48, 49, 50, 51, 52, 53, 54, 55, 56, 57, 58, 59, 60, 61, 62, 63, 64, 65, 66, 67, 68, 69, 70, 71, 72, 73, 74, 75, 76, 77, 78, 79, 80] (by decide +kernel) (by decide +kernel)
set_option maxRecDepth 20000 in
theorem gX7_laySure_X7_reads : GoodIn wsX7_laySure (wsV RX7 193 RX7 yX7_reads wsX7_reads) := goodIn_app (goodIn_of _ (by decide +kernel)) ggX7_laySure_X7_reads
set_option maxRecDepth 20000 in
theorem ggX7_laySure_X7_kindOf : GoodIn wsX7_laySure wsX7_kindOf := goodIn_r _ [17] (by decide +kernel) (by decide +kernel)
set_option maxRecDepth 20000 in
theorem gX7_laySure_X7_kindOf : GoodIn wsX7_laySure (va_wsS RX7 181 yX7_kindOf wsX7_kindOf) := goodIn_app (goodIn_of _ (by decide +kernel)) ggX7_laySure_X7_kindOf
set_option maxRecDepth 20000 in
theorem ggX7_laySure_X7_nOf : GoodIn wsX7_laySure wsX7_nOf := goodIn_r _ [23] (by decide +kernel) (by decide +kernel)
set_option maxRecDepth 20000 in
theorem gX7_laySure_X7_nOf : GoodIn wsX7_laySure (va_wsS RX7 187 yX7_nOf wsX7_nOf) := goodIn_app (goodIn_of _ (by decide +kernel)) ggX7_laySure_X7_nOf
set_option maxRecDepth 20000 in
theorem ggX7_laySure_X7_firstOf : GoodIn wsX7_laySure wsX7_firstOf := goodIn_r _ [14] (by decide +kernel) (by decide +kernel)
set_option maxRecDepth 20000 in
theorem gX7_laySure_X7_firstOf : GoodIn wsX7_laySure (va_wsS RX7 178 yX7_firstOf wsX7_firstOf) := goodIn_app (goodIn_of _ (by decide +kernel)) ggX7_laySure_X7_firstOf
set_option maxRecDepth 20000 in
theorem ggX7_laySure_X7_tableAt : GoodIn wsX7_laySure wsX7_tableAt := goodIn_r _ [35, 36, 37, 38, 6, 39, 40, 41, 42, 43, 44, 45, 46, 47, 48, 49, 50, 51, 52, 53, 54, 55, 56, 57, 58, 59, 60, 61, 62, 63, 64, 65, 69, 70, 71, 72, 73, 74, 75, 76, 77, 78, 79, 80] (by decide +kernel) (by decide +kernel)
set_option maxRecDepth 20000 in
theorem gX7_laySure_X7_tableAt : GoodIn wsX7_laySure (wsV RX7 172 RX7 yX7_tableAt wsX7_tableAt) := goodIn_app (goodIn_of _ (by decide +kernel)) ggX7_laySure_X7_tableAt
set_option maxRecDepth 20000 in
theorem ggX7_laySure_X7_sixtyOf : GoodIn wsX7_laySure wsX7_sixtyOf := goodIn_r _ [59, 45] (by decide +kernel) (by decide +kernel)
set_option maxRecDepth 20000 in
theorem gX7_laySure_X7_sixtyOf : GoodIn wsX7_laySure (va_wsS RX7 53 yX7_sixtyOf wsX7_sixtyOf) := goodIn_app (goodIn_of _ (by decide +kernel)) ggX7_laySure_X7_sixtyOf
theorem dX7_laySure_0 : decode cX7_laySure 0 = .ok (.iconst 0, 1) := by decide +kernel
theorem dX7_laySure_1 : decode cX7_laySure 1 = .ok (.istore_n 2, 1) := by decide +kernel
theorem dX7_laySure_2 : decode cX7_laySure 2 = .ok (.iload_n 2, 1) := by decide +kernel
theorem dX7_laySure_3 : decode cX7_laySure 3 = .ok (.bipush 24, 2) := by decide +kernel
theorem dX7_laySure_5 : decode cX7_laySure 5 = .ok (.if_icmp .ge 16, 3) := by decide +kernel
theorem dX7_laySure_8 : decode cX7_laySure 8 = .ok (.aload_n 0, 1) := by decide +kernel
theorem dX7_laySure_9 : decode cX7_laySure 9 = .ok (.getfield 34, 3) := by decide +kernel
theorem dX7_laySure_12 : decode cX7_laySure 12 = .ok (.iload_n 2, 1) := by decide +kernel
theorem dX7_laySure_13 : decode cX7_laySure 13 = .ok (.iconst 0, 1) := by decide +kernel
theorem dX7_laySure_14 : decode cX7_laySure 14 = .ok (.iastore, 1) := by decide +kernel
theorem dX7_laySure_15 : decode cX7_laySure 15 = .ok (.iinc 2 1, 3) := by decide +kernel
theorem dX7_laySure_18 : decode cX7_laySure 18 = .ok (.goto (-16), 3) := by decide +kernel
theorem dX7_laySure_21 : decode cX7_laySure 21 = .ok (.iconst 0, 1) := by decide +kernel
theorem dX7_laySure_22 : decode cX7_laySure 22 = .ok (.istore_n 2, 1) := by decide +kernel
theorem dX7_laySure_23 : decode cX7_laySure 23 = .ok (.iload_n 2, 1) := by decide +kernel
theorem dX7_laySure_24 : decode cX7_laySure 24 = .ok (.sipush 3609, 3) := by decide +kernel
theorem dX7_laySure_27 : decode cX7_laySure 27 = .ok (.if_icmp .ge 100, 3) := by decide +kernel
theorem dX7_laySure_30 : decode cX7_laySure 30 = .ok (.aload_n 0, 1) := by decide +kernel
theorem dX7_laySure_31 : decode cX7_laySure 31 = .ok (.iload_n 1, 1) := by decide +kernel
theorem dX7_laySure_32 : decode cX7_laySure 32 = .ok (.iload_n 2, 1) := by decide +kernel
theorem dX7_laySure_33 : decode cX7_laySure 33 = .ok (.invokevirtual 193, 3) := by decide +kernel
theorem dX7_laySure_36 : decode cX7_laySure 36 = .ok (.ifCond .eq 85, 3) := by decide +kernel
theorem dX7_laySure_39 : decode cX7_laySure 39 = .ok (.iconst 0, 1) := by decide +kernel
theorem dX7_laySure_40 : decode cX7_laySure 40 = .ok (.istore_n 3, 1) := by decide +kernel
theorem dX7_laySure_41 : decode cX7_laySure 41 = .ok (.iload_n 3, 1) := by decide +kernel
theorem dX7_laySure_42 : decode cX7_laySure 42 = .ok (.iconst 3, 1) := by decide +kernel
theorem dX7_laySure_43 : decode cX7_laySure 43 = .ok (.aload_n 0, 1) := by decide +kernel
theorem dX7_laySure_44 : decode cX7_laySure 44 = .ok (.getfield 25, 3) := by decide +kernel
theorem dX7_laySure_47 : decode cX7_laySure 47 = .ok (.iload_n 1, 1) := by decide +kernel
theorem dX7_laySure_48 : decode cX7_laySure 48 = .ok (.iaload, 1) := by decide +kernel
theorem dX7_laySure_49 : decode cX7_laySure 49 = .ok (.imul, 1) := by decide +kernel
theorem dX7_laySure_50 : decode cX7_laySure 50 = .ok (.if_icmp .ge 71, 3) := by decide +kernel
theorem dX7_laySure_53 : decode cX7_laySure 53 = .ok (.aload_n 0, 1) := by decide +kernel
theorem dX7_laySure_54 : decode cX7_laySure 54 = .ok (.iload_n 2, 1) := by decide +kernel
theorem dX7_laySure_55 : decode cX7_laySure 55 = .ok (.invokestatic 181, 3) := by decide +kernel
theorem dX7_laySure_58 : decode cX7_laySure 58 = .ok (.iload_n 2, 1) := by decide +kernel
theorem dX7_laySure_59 : decode cX7_laySure 59 = .ok (.invokestatic 187, 3) := by decide +kernel
theorem dX7_laySure_62 : decode cX7_laySure 62 = .ok (.iload_n 2, 1) := by decide +kernel
theorem dX7_laySure_63 : decode cX7_laySure 63 = .ok (.invokestatic 178, 3) := by decide +kernel
theorem dX7_laySure_66 : decode cX7_laySure 66 = .ok (.iload_n 3, 1) := by decide +kernel
theorem dX7_laySure_67 : decode cX7_laySure 67 = .ok (.iconst 3, 1) := by decide +kernel
theorem dX7_laySure_68 : decode cX7_laySure 68 = .ok (.idiv, 1) := by decide +kernel
theorem dX7_laySure_69 : decode cX7_laySure 69 = .ok (.iadd, 1) := by decide +kernel
theorem dX7_laySure_70 : decode cX7_laySure 70 = .ok (.iload_n 3, 1) := by decide +kernel
theorem dX7_laySure_71 : decode cX7_laySure 71 = .ok (.iconst 3, 1) := by decide +kernel
theorem dX7_laySure_72 : decode cX7_laySure 72 = .ok (.irem, 1) := by decide +kernel
theorem dX7_laySure_73 : decode cX7_laySure 73 = .ok (.invokevirtual 172, 3) := by decide +kernel
theorem dX7_laySure_76 : decode cX7_laySure 76 = .ok (.i2l, 1) := by decide +kernel
theorem dX7_laySure_77 : decode cX7_laySure 77 = .ok (.invokestatic 53, 3) := by decide +kernel
theorem dX7_laySure_80 : decode cX7_laySure 80 = .ok (.l2i, 1) := by decide +kernel
theorem dX7_laySure_81 : decode cX7_laySure 81 = .ok (.istore 4, 2) := by decide +kernel
theorem dX7_laySure_83 : decode cX7_laySure 83 = .ok (.aload_n 0, 1) := by decide +kernel
theorem dX7_laySure_84 : decode cX7_laySure 84 = .ok (.getfield 34, 3) := by decide +kernel
theorem dX7_laySure_87 : decode cX7_laySure 87 = .ok (.iload_n 3, 1) := by decide +kernel
theorem dX7_laySure_88 : decode cX7_laySure 88 = .ok (.aload_n 0, 1) := by decide +kernel
theorem dX7_laySure_89 : decode cX7_laySure 89 = .ok (.getfield 34, 3) := by decide +kernel
theorem dX7_laySure_92 : decode cX7_laySure 92 = .ok (.iload_n 3, 1) := by decide +kernel
theorem dX7_laySure_93 : decode cX7_laySure 93 = .ok (.iaload, 1) := by decide +kernel
theorem dX7_laySure_94 : decode cX7_laySure 94 = .ok (.ifCond .eq 14, 3) := by decide +kernel
theorem dX7_laySure_97 : decode cX7_laySure 97 = .ok (.aload_n 0, 1) := by decide +kernel
theorem dX7_laySure_98 : decode cX7_laySure 98 = .ok (.getfield 34, 3) := by decide +kernel
theorem dX7_laySure_101 : decode cX7_laySure 101 = .ok (.iload_n 3, 1) := by decide +kernel
theorem dX7_laySure_102 : decode cX7_laySure 102 = .ok (.iaload, 1) := by decide +kernel
theorem dX7_laySure_103 : decode cX7_laySure 103 = .ok (.iload 4, 2) := by decide +kernel
theorem dX7_laySure_105 : decode cX7_laySure 105 = .ok (.if_icmp .ne 8, 3) := by decide +kernel
theorem dX7_laySure_108 : decode cX7_laySure 108 = .ok (.iload 4, 2) := by decide +kernel
theorem dX7_laySure_110 : decode cX7_laySure 110 = .ok (.goto 4, 3) := by decide +kernel
theorem dX7_laySure_113 : decode cX7_laySure 113 = .ok (.iconst (-1), 1) := by decide +kernel
theorem dX7_laySure_114 : decode cX7_laySure 114 = .ok (.iastore, 1) := by decide +kernel
theorem dX7_laySure_115 : decode cX7_laySure 115 = .ok (.iinc 3 1, 3) := by decide +kernel
theorem dX7_laySure_118 : decode cX7_laySure 118 = .ok (.goto (-77), 3) := by decide +kernel
theorem dX7_laySure_121 : decode cX7_laySure 121 = .ok (.iinc 2 1, 3) := by decide +kernel
theorem dX7_laySure_124 : decode cX7_laySure 124 = .ok (.goto (-101), 3) := by decide +kernel
theorem dX7_laySure_127 : decode cX7_laySure 127 = .ok (.return_, 1) := by decide +kernel
set_option maxRecDepth 20000 in
theorem ggX7_sure_X7_isCell : GoodIn wsX7_sure wsX7_isCell := goodIn_r _ [6, 7, 8, 9, 10, 5, 11, 12, 13, 14, 15, 16, 17, 18, 19, 85, 86, 87, 88, 89, 90, 91, 92, 93, 94, 95, 96] (by decide +kernel) (by decide +kernel)
set_option maxRecDepth 20000 in
theorem gX7_sure_X7_isCell : GoodIn wsX7_sure (wsV RX7 157 RX7 yX7_isCell wsX7_isCell) := goodIn_app (goodIn_of _ (by decide +kernel)) ggX7_sure_X7_isCell
set_option maxRecDepth 20000 in
theorem ggX7_sure_X7_laySure : GoodIn wsX7_sure wsX7_laySure := goodIn_r _ [23, 1, 12, 24, 25, 26, 5, 27, 28, 29, 30, 31, 32, 33, 34, 35, 36, 37, 38, 39, 40, 41, 42, 43, 44, 45, 46, 47, 48, 49, 50, 51, 52, 53, 54, 55, 56, 57, 58, 59, 60, 61, 62, 7, 63, 64, 17, 18, 19, 65, 66, 67, 68, 69, 70, 71, 72, 73, 74, 75, 76, 77, 78, 79, 80, 81, 82, 83, 84, 85, 86, 87, 88, 89, 90, 91, 92, 93, 94, 95, 96] (by decide +kernel) (by decide +kernel)
set_option maxRecDepth 20000 in
theorem gX7_sure_X7_laySure : GoodIn wsX7_sure (wsV RX7 196 RX7 yX7_laySure wsX7_laySure) := goodIn_app (goodIn_of _ (by decide +kernel)) ggX7_sure_X7_laySure
theorem dX7_sure_0 : decode cX7_sure 0 = .ok (.aload_n 0, 1) := by decide +kernel
theorem dX7_sure_1 : decode cX7_sure 1 = .ok (.iload_n 1, 1) := by decide +kernel
theorem dX7_sure_2 : decode cX7_sure 2 = .ok (.iload_n 2, 1) := by decide +kernel
theorem dX7_sure_3 : decode cX7_sure 3 = .ok (.iload_n 3, 1) := by decide +kernel
theorem dX7_sure_4 : decode cX7_sure 4 = .ok (.invokevirtual 157, 3) := by decide +kernel
theorem dX7_sure_7 : decode cX7_sure 7 = .ok (.ifCond .ne 5, 3) := by decide +kernel
theorem dX7_sure_10 : decode cX7_sure 10 = .ok (.iconst (-1), 1) := by decide +kernel
theorem dX7_sure_11 : decode cX7_sure 11 = .ok (.ireturn, 1) := by decide +kernel
theorem dX7_sure_12 : decode cX7_sure 12 = .ok (.aload_n 0, 1) := by decide +kernel
theorem dX7_sure_13 : decode cX7_sure 13 = .ok (.iload_n 1, 1) := by decide +kernel
theorem dX7_sure_14 : decode cX7_sure 14 = .ok (.invokevirtual 196, 3) := by decide +kernel
theorem dX7_sure_17 : decode cX7_sure 17 = .ok (.aload_n 0, 1) := by decide +kernel
theorem dX7_sure_18 : decode cX7_sure 18 = .ok (.getfield 34, 3) := by decide +kernel
theorem dX7_sure_21 : decode cX7_sure 21 = .ok (.iconst 3, 1) := by decide +kernel
theorem dX7_sure_22 : decode cX7_sure 22 = .ok (.iload_n 2, 1) := by decide +kernel
theorem dX7_sure_23 : decode cX7_sure 23 = .ok (.imul, 1) := by decide +kernel
theorem dX7_sure_24 : decode cX7_sure 24 = .ok (.iload_n 3, 1) := by decide +kernel
theorem dX7_sure_25 : decode cX7_sure 25 = .ok (.iadd, 1) := by decide +kernel
theorem dX7_sure_26 : decode cX7_sure 26 = .ok (.iaload, 1) := by decide +kernel
theorem dX7_sure_27 : decode cX7_sure 27 = .ok (.istore 4, 2) := by decide +kernel
theorem dX7_sure_29 : decode cX7_sure 29 = .ok (.iload 4, 2) := by decide +kernel
theorem dX7_sure_31 : decode cX7_sure 31 = .ok (.ifCond .ge 7, 3) := by decide +kernel
theorem dX7_sure_34 : decode cX7_sure 34 = .ok (.iconst 0, 1) := by decide +kernel
theorem dX7_sure_35 : decode cX7_sure 35 = .ok (.goto 5, 3) := by decide +kernel
theorem dX7_sure_38 : decode cX7_sure 38 = .ok (.iload 4, 2) := by decide +kernel
theorem dX7_sure_40 : decode cX7_sure 40 = .ok (.ireturn, 1) := by decide +kernel
set_option maxRecDepth 20000 in
theorem ggX7_fill_X7_isTablet : GoodIn wsX7_fill wsX7_isTablet := goodIn_r _ [7, 8, 9, 10, 6, 11] (by decide +kernel) (by decide +kernel)
set_option maxRecDepth 20000 in
theorem gX7_fill_X7_isTablet : GoodIn wsX7_fill (va_wsS RX7 150 yX7_isTablet wsX7_isTablet) := goodIn_app (goodIn_of _ (by decide +kernel)) ggX7_fill_X7_isTablet
set_option maxRecDepth 20000 in
theorem ggX7_fill_X7_laySure : GoodIn wsX7_fill wsX7_laySure := goodIn_r _ [15, 3, 1, 16, 17, 18, 6, 19, 20, 21, 22, 23, 24, 25, 26, 27, 28, 29, 30, 31, 32, 33, 34, 35, 36, 37, 38, 39, 2, 40, 41, 42, 43, 44, 45, 46, 47, 48, 49, 50, 51, 52, 53, 54, 55, 56, 9, 10, 11, 57, 58, 59, 60, 61, 62, 63, 64, 65, 66, 67, 68, 69, 70, 71, 72, 73, 74, 75, 76, 77, 78, 79, 80, 81, 82, 83, 84, 85, 86, 87, 88] (by decide +kernel) (by decide +kernel)
set_option maxRecDepth 20000 in
theorem gX7_fill_X7_laySure : GoodIn wsX7_fill (wsV RX7 196 RX7 yX7_laySure wsX7_laySure) := goodIn_app (goodIn_of _ (by decide +kernel)) ggX7_fill_X7_laySure
theorem dX7_fill_0 : decode cX7_fill 0 = .ok (.iload_n 1, 1) := by decide +kernel
theorem dX7_fill_1 : decode cX7_fill 1 = .ok (.invokestatic 150, 3) := by decide +kernel
theorem dX7_fill_4 : decode cX7_fill 4 = .ok (.ifCond .ne 5, 3) := by decide +kernel
theorem dX7_fill_7 : decode cX7_fill 7 = .ok (.iconst (-1), 1) := by decide +kernel
theorem dX7_fill_8 : decode cX7_fill 8 = .ok (.ireturn, 1) := by decide +kernel
theorem dX7_fill_9 : decode cX7_fill 9 = .ok (.aload_n 0, 1) := by decide +kernel
theorem dX7_fill_10 : decode cX7_fill 10 = .ok (.iload_n 1, 1) := by decide +kernel
theorem dX7_fill_11 : decode cX7_fill 11 = .ok (.invokevirtual 196, 3) := by decide +kernel
theorem dX7_fill_14 : decode cX7_fill 14 = .ok (.iconst 0, 1) := by decide +kernel
theorem dX7_fill_15 : decode cX7_fill 15 = .ok (.istore_n 2, 1) := by decide +kernel
theorem dX7_fill_16 : decode cX7_fill 16 = .ok (.iconst 0, 1) := by decide +kernel
theorem dX7_fill_17 : decode cX7_fill 17 = .ok (.istore_n 3, 1) := by decide +kernel
theorem dX7_fill_18 : decode cX7_fill 18 = .ok (.iload_n 3, 1) := by decide +kernel
theorem dX7_fill_19 : decode cX7_fill 19 = .ok (.iconst 3, 1) := by decide +kernel
theorem dX7_fill_20 : decode cX7_fill 20 = .ok (.aload_n 0, 1) := by decide +kernel
theorem dX7_fill_21 : decode cX7_fill 21 = .ok (.getfield 25, 3) := by decide +kernel
theorem dX7_fill_24 : decode cX7_fill 24 = .ok (.iload_n 1, 1) := by decide +kernel
theorem dX7_fill_25 : decode cX7_fill 25 = .ok (.iaload, 1) := by decide +kernel
theorem dX7_fill_26 : decode cX7_fill 26 = .ok (.imul, 1) := by decide +kernel
theorem dX7_fill_27 : decode cX7_fill 27 = .ok (.if_icmp .ge 52, 3) := by decide +kernel
theorem dX7_fill_30 : decode cX7_fill 30 = .ok (.aload_n 0, 1) := by decide +kernel
theorem dX7_fill_31 : decode cX7_fill 31 = .ok (.getfield 28, 3) := by decide +kernel
theorem dX7_fill_34 : decode cX7_fill 34 = .ok (.bipush 24, 2) := by decide +kernel
theorem dX7_fill_36 : decode cX7_fill 36 = .ok (.iload_n 1, 1) := by decide +kernel
theorem dX7_fill_37 : decode cX7_fill 37 = .ok (.imul, 1) := by decide +kernel
theorem dX7_fill_38 : decode cX7_fill 38 = .ok (.iload_n 3, 1) := by decide +kernel
theorem dX7_fill_39 : decode cX7_fill 39 = .ok (.iadd, 1) := by decide +kernel
theorem dX7_fill_40 : decode cX7_fill 40 = .ok (.iaload, 1) := by decide +kernel
theorem dX7_fill_41 : decode cX7_fill 41 = .ok (.ifCond .ne 32, 3) := by decide +kernel
theorem dX7_fill_44 : decode cX7_fill 44 = .ok (.aload_n 0, 1) := by decide +kernel
theorem dX7_fill_45 : decode cX7_fill 45 = .ok (.getfield 34, 3) := by decide +kernel
theorem dX7_fill_48 : decode cX7_fill 48 = .ok (.iload_n 3, 1) := by decide +kernel
theorem dX7_fill_49 : decode cX7_fill 49 = .ok (.iaload, 1) := by decide +kernel
theorem dX7_fill_50 : decode cX7_fill 50 = .ok (.ifCond .le 23, 3) := by decide +kernel
theorem dX7_fill_53 : decode cX7_fill 53 = .ok (.aload_n 0, 1) := by decide +kernel
theorem dX7_fill_54 : decode cX7_fill 54 = .ok (.getfield 28, 3) := by decide +kernel
theorem dX7_fill_57 : decode cX7_fill 57 = .ok (.bipush 24, 2) := by decide +kernel
theorem dX7_fill_59 : decode cX7_fill 59 = .ok (.iload_n 1, 1) := by decide +kernel
theorem dX7_fill_60 : decode cX7_fill 60 = .ok (.imul, 1) := by decide +kernel
theorem dX7_fill_61 : decode cX7_fill 61 = .ok (.iload_n 3, 1) := by decide +kernel
theorem dX7_fill_62 : decode cX7_fill 62 = .ok (.iadd, 1) := by decide +kernel
theorem dX7_fill_63 : decode cX7_fill 63 = .ok (.aload_n 0, 1) := by decide +kernel
theorem dX7_fill_64 : decode cX7_fill 64 = .ok (.getfield 34, 3) := by decide +kernel
theorem dX7_fill_67 : decode cX7_fill 67 = .ok (.iload_n 3, 1) := by decide +kernel
theorem dX7_fill_68 : decode cX7_fill 68 = .ok (.iaload, 1) := by decide +kernel
theorem dX7_fill_69 : decode cX7_fill 69 = .ok (.iastore, 1) := by decide +kernel
theorem dX7_fill_70 : decode cX7_fill 70 = .ok (.iinc 2 1, 3) := by decide +kernel
theorem dX7_fill_73 : decode cX7_fill 73 = .ok (.iinc 3 1, 3) := by decide +kernel
theorem dX7_fill_76 : decode cX7_fill 76 = .ok (.goto (-58), 3) := by decide +kernel
theorem dX7_fill_79 : decode cX7_fill 79 = .ok (.iload_n 2, 1) := by decide +kernel
theorem dX7_fill_80 : decode cX7_fill 80 = .ok (.ireturn, 1) := by decide +kernel
set_option maxRecDepth 20000 in
theorem ggX7_odd_X7_isTablet : GoodIn wsX7_odd wsX7_isTablet := goodIn_r _ [4, 5, 6, 7, 3, 8] (by decide +kernel) (by decide +kernel)
set_option maxRecDepth 20000 in
theorem gX7_odd_X7_isTablet : GoodIn wsX7_odd (va_wsS RX7 150 yX7_isTablet wsX7_isTablet) := goodIn_app (goodIn_of _ (by decide +kernel)) ggX7_odd_X7_isTablet
set_option maxRecDepth 20000 in
theorem ggX7_odd_X7_fits : GoodIn wsX7_odd wsX7_fits := goodIn_r _ [12, 13, 14, 15, 3, 16, 17, 18, 19, 20, 21, 22, 68, 69, 70, 71, 72, 73, 74, 75, 76, 77, 78, 79] (by decide +kernel) (by decide +kernel)
set_option maxRecDepth 20000 in
theorem gX7_odd_X7_fits : GoodIn wsX7_odd (wsV RX7 184 RX7 yX7_fits wsX7_fits) := goodIn_app (goodIn_of _ (by decide +kernel)) ggX7_odd_X7_fits
set_option maxRecDepth 20000 in
theorem ggX7_odd_X7_kindOf : GoodIn wsX7_odd wsX7_kindOf := goodIn_r _ [19] (by decide +kernel) (by decide +kernel)
set_option maxRecDepth 20000 in
theorem gX7_odd_X7_kindOf : GoodIn wsX7_odd (va_wsS RX7 181 yX7_kindOf wsX7_kindOf) := goodIn_app (goodIn_of _ (by decide +kernel)) ggX7_odd_X7_kindOf
set_option maxRecDepth 20000 in
theorem ggX7_odd_X7_nOf : GoodIn wsX7_odd wsX7_nOf := goodIn_r _ [25] (by decide +kernel) (by decide +kernel)
set_option maxRecDepth 20000 in
theorem gX7_odd_X7_nOf : GoodIn wsX7_odd (va_wsS RX7 187 yX7_nOf wsX7_nOf) := goodIn_app (goodIn_of _ (by decide +kernel)) ggX7_odd_X7_nOf
set_option maxRecDepth 20000 in
theorem ggX7_odd_X7_firstOf : GoodIn wsX7_odd wsX7_firstOf := goodIn_r _ [16] (by decide +kernel) (by decide +kernel)
set_option maxRecDepth 20000 in
theorem gX7_odd_X7_firstOf : GoodIn wsX7_odd (va_wsS RX7 178 yX7_firstOf wsX7_firstOf) := goodIn_app (goodIn_of _ (by decide +kernel)) ggX7_odd_X7_firstOf
set_option maxRecDepth 20000 in
theorem ggX7_odd_X7_unlike : GoodIn wsX7_odd wsX7_unlike := goodIn_r _ [29, 13, 30, 31, 32, 3, 33, 34, 35, 36, 37, 38, 39, 40, 41, 42, 43, 44, 45, 46, 47, 6, 7, 8, 48, 49, 50, 51, 52, 53, 54, 55, 56, 57, 58, 59, 60, 61, 62, 63, 64, 65, 66, 67, 68, 69, 70, 71, 72, 73, 74, 75, 76, 77, 78, 79] (by decide +kernel) (by decide +kernel)
set_option maxRecDepth 20000 in
theorem gX7_odd_X7_unlike : GoodIn wsX7_odd (wsV RX7 190 RX7 yX7_unlike wsX7_unlike) := goodIn_app (goodIn_of _ (by decide +kernel)) ggX7_odd_X7_unlike
theorem dX7_odd_0 : decode cX7_odd 0 = .ok (.iload_n 1, 1) := by decide +kernel
theorem dX7_odd_1 : decode cX7_odd 1 = .ok (.invokestatic 150, 3) := by decide +kernel
theorem dX7_odd_4 : decode cX7_odd 4 = .ok (.ifCond .ne 5, 3) := by decide +kernel
theorem dX7_odd_7 : decode cX7_odd 7 = .ok (.iconst (-1), 1) := by decide +kernel
theorem dX7_odd_8 : decode cX7_odd 8 = .ok (.ireturn, 1) := by decide +kernel
theorem dX7_odd_9 : decode cX7_odd 9 = .ok (.bipush (-6), 2) := by decide +kernel
theorem dX7_odd_11 : decode cX7_odd 11 = .ok (.istore_n 2, 1) := by decide +kernel
theorem dX7_odd_12 : decode cX7_odd 12 = .ok (.iconst 0, 1) := by decide +kernel
theorem dX7_odd_13 : decode cX7_odd 13 = .ok (.istore_n 3, 1) := by decide +kernel
theorem dX7_odd_14 : decode cX7_odd 14 = .ok (.iload_n 3, 1) := by decide +kernel
theorem dX7_odd_15 : decode cX7_odd 15 = .ok (.sipush 3609, 3) := by decide +kernel
theorem dX7_odd_18 : decode cX7_odd 18 = .ok (.if_icmp .ge 70, 3) := by decide +kernel
theorem dX7_odd_21 : decode cX7_odd 21 = .ok (.aload_n 0, 1) := by decide +kernel
theorem dX7_odd_22 : decode cX7_odd 22 = .ok (.iload_n 1, 1) := by decide +kernel
theorem dX7_odd_23 : decode cX7_odd 23 = .ok (.iload_n 3, 1) := by decide +kernel
theorem dX7_odd_24 : decode cX7_odd 24 = .ok (.invokevirtual 184, 3) := by decide +kernel
theorem dX7_odd_27 : decode cX7_odd 27 = .ok (.ifCond .eq 55, 3) := by decide +kernel
theorem dX7_odd_30 : decode cX7_odd 30 = .ok (.aload_n 0, 1) := by decide +kernel
theorem dX7_odd_31 : decode cX7_odd 31 = .ok (.iload_n 1, 1) := by decide +kernel
theorem dX7_odd_32 : decode cX7_odd 32 = .ok (.iload_n 3, 1) := by decide +kernel
theorem dX7_odd_33 : decode cX7_odd 33 = .ok (.invokestatic 181, 3) := by decide +kernel
theorem dX7_odd_36 : decode cX7_odd 36 = .ok (.iload_n 3, 1) := by decide +kernel
theorem dX7_odd_37 : decode cX7_odd 37 = .ok (.invokestatic 187, 3) := by decide +kernel
theorem dX7_odd_40 : decode cX7_odd 40 = .ok (.iload_n 3, 1) := by decide +kernel
theorem dX7_odd_41 : decode cX7_odd 41 = .ok (.invokestatic 178, 3) := by decide +kernel
theorem dX7_odd_44 : decode cX7_odd 44 = .ok (.invokevirtual 190, 3) := by decide +kernel
theorem dX7_odd_47 : decode cX7_odd 47 = .ok (.istore 4, 2) := by decide +kernel
theorem dX7_odd_49 : decode cX7_odd 49 = .ok (.iload 4, 2) := by decide +kernel
theorem dX7_odd_51 : decode cX7_odd 51 = .ok (.bipush 100, 2) := by decide +kernel
theorem dX7_odd_53 : decode cX7_odd 53 = .ok (.if_icmp .ge 6, 3) := by decide +kernel
theorem dX7_odd_56 : decode cX7_odd 56 = .ok (.bipush (-6), 2) := by decide +kernel
theorem dX7_odd_58 : decode cX7_odd 58 = .ok (.ireturn, 1) := by decide +kernel
theorem dX7_odd_59 : decode cX7_odd 59 = .ok (.iload_n 2, 1) := by decide +kernel
theorem dX7_odd_60 : decode cX7_odd 60 = .ok (.ifCond .ge 20, 3) := by decide +kernel
theorem dX7_odd_63 : decode cX7_odd 63 = .ok (.iload 4, 2) := by decide +kernel
theorem dX7_odd_65 : decode cX7_odd 65 = .ok (.bipush 100, 2) := by decide +kernel
theorem dX7_odd_67 : decode cX7_odd 67 = .ok (.idiv, 1) := by decide +kernel
theorem dX7_odd_68 : decode cX7_odd 68 = .ok (.iconst 1, 1) := by decide +kernel
theorem dX7_odd_69 : decode cX7_odd 69 = .ok (.if_icmp .ne 11, 3) := by decide +kernel
theorem dX7_odd_72 : decode cX7_odd 72 = .ok (.iload 4, 2) := by decide +kernel
theorem dX7_odd_74 : decode cX7_odd 74 = .ok (.bipush 100, 2) := by decide +kernel
theorem dX7_odd_76 : decode cX7_odd 76 = .ok (.irem, 1) := by decide +kernel
theorem dX7_odd_77 : decode cX7_odd 77 = .ok (.goto 4, 3) := by decide +kernel
theorem dX7_odd_80 : decode cX7_odd 80 = .ok (.iload_n 2, 1) := by decide +kernel
theorem dX7_odd_81 : decode cX7_odd 81 = .ok (.istore_n 2, 1) := by decide +kernel
theorem dX7_odd_82 : decode cX7_odd 82 = .ok (.iinc 3 1, 3) := by decide +kernel
theorem dX7_odd_85 : decode cX7_odd 85 = .ok (.goto (-71), 3) := by decide +kernel
theorem dX7_odd_88 : decode cX7_odd 88 = .ok (.iload_n 2, 1) := by decide +kernel
theorem dX7_odd_89 : decode cX7_odd 89 = .ok (.ireturn, 1) := by decide +kernel
theorem dX7_common_0 : decode cX7_common 0 = .ok (.iload_n 0, 1) := by decide +kernel
theorem dX7_common_1 : decode cX7_common 1 = .ok (.istore_n 2, 1) := by decide +kernel
theorem dX7_common_2 : decode cX7_common 2 = .ok (.iload_n 1, 1) := by decide +kernel
theorem dX7_common_3 : decode cX7_common 3 = .ok (.istore_n 3, 1) := by decide +kernel
theorem dX7_common_4 : decode cX7_common 4 = .ok (.iload_n 3, 1) := by decide +kernel
theorem dX7_common_5 : decode cX7_common 5 = .ok (.ifCond .eq 16, 3) := by decide +kernel
theorem dX7_common_8 : decode cX7_common 8 = .ok (.iload_n 2, 1) := by decide +kernel
theorem dX7_common_9 : decode cX7_common 9 = .ok (.iload_n 3, 1) := by decide +kernel
theorem dX7_common_10 : decode cX7_common 10 = .ok (.irem, 1) := by decide +kernel
theorem dX7_common_11 : decode cX7_common 11 = .ok (.istore 4, 2) := by decide +kernel
theorem dX7_common_13 : decode cX7_common 13 = .ok (.iload_n 3, 1) := by decide +kernel
theorem dX7_common_14 : decode cX7_common 14 = .ok (.istore_n 2, 1) := by decide +kernel
theorem dX7_common_15 : decode cX7_common 15 = .ok (.iload 4, 2) := by decide +kernel
theorem dX7_common_17 : decode cX7_common 17 = .ok (.istore_n 3, 1) := by decide +kernel
theorem dX7_common_18 : decode cX7_common 18 = .ok (.goto (-14), 3) := by decide +kernel
theorem dX7_common_21 : decode cX7_common 21 = .ok (.iload_n 2, 1) := by decide +kernel
theorem dX7_common_22 : decode cX7_common 22 = .ok (.ireturn, 1) := by decide +kernel
set_option maxRecDepth 20000 in
theorem ggX7_triple_X7_isRow : GoodIn wsX7_triple wsX7_isRow := goodIn_r _ [6, 7, 8, 9, 5, 10, 11, 12, 13, 14, 28, 29, 30, 31, 32, 33, 34, 35, 36, 37, 38, 39] (by decide +kernel) (by decide +kernel)
set_option maxRecDepth 20000 in
theorem gX7_triple_X7_isRow : GoodIn wsX7_triple (wsV RX7 153 RX7 yX7_isRow wsX7_isRow) := goodIn_app (goodIn_of _ (by decide +kernel)) ggX7_triple_X7_isRow
set_option maxRecDepth 20000 in
theorem ggX7_triple_X7_common : GoodIn wsX7_triple wsX7_common := goodIn_r _ [17] (by decide +kernel) (by decide +kernel)
set_option maxRecDepth 20000 in
theorem gX7_triple_X7_common : GoodIn wsX7_triple (va_wsS RX7 200 yX7_common wsX7_common) := goodIn_app (goodIn_of _ (by decide +kernel)) ggX7_triple_X7_common
set_option maxRecDepth 20000 in
theorem ggX7_triple_X7_at : GoodIn wsX7_triple wsX7_at := goodIn_r _ [20] (by decide +kernel) (by decide +kernel)
set_option maxRecDepth 20000 in
theorem gX7_triple_X7_at : GoodIn wsX7_triple (va_wsS RX7 161 yX7_at wsX7_at) := goodIn_app (goodIn_of _ (by decide +kernel)) ggX7_triple_X7_at
set_option maxRecDepth 20000 in
theorem ggX7_triple_X7_agree : GoodIn wsX7_triple wsX7_agree := goodIn_r _ [23, 24, 25, 5, 26, 27] (by decide +kernel) (by decide +kernel)
set_option maxRecDepth 20000 in
theorem gX7_triple_X7_agree : GoodIn wsX7_triple (va_wsS RX7 175 yX7_agree wsX7_agree) := goodIn_app (goodIn_of _ (by decide +kernel)) ggX7_triple_X7_agree
theorem dX7_triple_0 : decode cX7_triple 0 = .ok (.aload_n 0, 1) := by decide +kernel
theorem dX7_triple_1 : decode cX7_triple 1 = .ok (.iload_n 1, 1) := by decide +kernel
theorem dX7_triple_2 : decode cX7_triple 2 = .ok (.iload_n 2, 1) := by decide +kernel
theorem dX7_triple_3 : decode cX7_triple 3 = .ok (.invokevirtual 153, 3) := by decide +kernel
theorem dX7_triple_6 : decode cX7_triple 6 = .ok (.ifCond .ne 5, 3) := by decide +kernel
theorem dX7_triple_9 : decode cX7_triple 9 = .ok (.iconst (-1), 1) := by decide +kernel
theorem dX7_triple_10 : decode cX7_triple 10 = .ok (.ireturn, 1) := by decide +kernel
theorem dX7_triple_11 : decode cX7_triple 11 = .ok (.iconst 0, 1) := by decide +kernel
theorem dX7_triple_12 : decode cX7_triple 12 = .ok (.istore 4, 2) := by decide +kernel
theorem dX7_triple_14 : decode cX7_triple 14 = .ok (.iconst 2, 1) := by decide +kernel
theorem dX7_triple_15 : decode cX7_triple 15 = .ok (.istore 5, 2) := by decide +kernel
theorem dX7_triple_17 : decode cX7_triple 17 = .ok (.iload 5, 2) := by decide +kernel
theorem dX7_triple_19 : decode cX7_triple 19 = .ok (.bipush 13, 2) := by decide +kernel
theorem dX7_triple_21 : decode cX7_triple 21 = .ok (.if_icmp .ge 199, 3) := by decide +kernel
theorem dX7_triple_24 : decode cX7_triple 24 = .ok (.iconst 1, 1) := by decide +kernel
theorem dX7_triple_25 : decode cX7_triple 25 = .ok (.istore 6, 2) := by decide +kernel
theorem dX7_triple_27 : decode cX7_triple 27 = .ok (.iload 6, 2) := by decide +kernel
theorem dX7_triple_29 : decode cX7_triple 29 = .ok (.iload 5, 2) := by decide +kernel
theorem dX7_triple_31 : decode cX7_triple 31 = .ok (.if_icmp .ge 183, 3) := by decide +kernel
theorem dX7_triple_34 : decode cX7_triple 34 = .ok (.iload 5, 2) := by decide +kernel
theorem dX7_triple_36 : decode cX7_triple 36 = .ok (.iload 5, 2) := by decide +kernel
theorem dX7_triple_38 : decode cX7_triple 38 = .ok (.imul, 1) := by decide +kernel
theorem dX7_triple_39 : decode cX7_triple 39 = .ok (.iload 6, 2) := by decide +kernel
theorem dX7_triple_41 : decode cX7_triple 41 = .ok (.iload 6, 2) := by decide +kernel
theorem dX7_triple_43 : decode cX7_triple 43 = .ok (.imul, 1) := by decide +kernel
theorem dX7_triple_44 : decode cX7_triple 44 = .ok (.isub, 1) := by decide +kernel
theorem dX7_triple_45 : decode cX7_triple 45 = .ok (.istore 7, 2) := by decide +kernel
theorem dX7_triple_47 : decode cX7_triple 47 = .ok (.iconst 2, 1) := by decide +kernel
theorem dX7_triple_48 : decode cX7_triple 48 = .ok (.iload 5, 2) := by decide +kernel
theorem dX7_triple_50 : decode cX7_triple 50 = .ok (.imul, 1) := by decide +kernel
theorem dX7_triple_51 : decode cX7_triple 51 = .ok (.iload 6, 2) := by decide +kernel
theorem dX7_triple_53 : decode cX7_triple 53 = .ok (.imul, 1) := by decide +kernel
theorem dX7_triple_54 : decode cX7_triple 54 = .ok (.istore 8, 2) := by decide +kernel
theorem dX7_triple_56 : decode cX7_triple 56 = .ok (.iload 7, 2) := by decide +kernel
theorem dX7_triple_58 : decode cX7_triple 58 = .ok (.iload 8, 2) := by decide +kernel
theorem dX7_triple_60 : decode cX7_triple 60 = .ok (.if_icmp .ge 8, 3) := by decide +kernel
theorem dX7_triple_63 : decode cX7_triple 63 = .ok (.iload 7, 2) := by decide +kernel
theorem dX7_triple_65 : decode cX7_triple 65 = .ok (.goto 5, 3) := by decide +kernel
theorem dX7_triple_68 : decode cX7_triple 68 = .ok (.iload 8, 2) := by decide +kernel
theorem dX7_triple_70 : decode cX7_triple 70 = .ok (.istore 9, 2) := by decide +kernel
theorem dX7_triple_72 : decode cX7_triple 72 = .ok (.iload 5, 2) := by decide +kernel
theorem dX7_triple_74 : decode cX7_triple 74 = .ok (.iload 6, 2) := by decide +kernel
theorem dX7_triple_76 : decode cX7_triple 76 = .ok (.iadd, 1) := by decide +kernel
theorem dX7_triple_77 : decode cX7_triple 77 = .ok (.iconst 2, 1) := by decide +kernel
theorem dX7_triple_78 : decode cX7_triple 78 = .ok (.irem, 1) := by decide +kernel
theorem dX7_triple_79 : decode cX7_triple 79 = .ok (.iconst 1, 1) := by decide +kernel
theorem dX7_triple_80 : decode cX7_triple 80 = .ok (.if_icmp .ne 18, 3) := by decide +kernel
theorem dX7_triple_83 : decode cX7_triple 83 = .ok (.iload 5, 2) := by decide +kernel
theorem dX7_triple_85 : decode cX7_triple 85 = .ok (.iload 6, 2) := by decide +kernel
theorem dX7_triple_87 : decode cX7_triple 87 = .ok (.invokestatic 200, 3) := by decide +kernel
theorem dX7_triple_90 : decode cX7_triple 90 = .ok (.iconst 1, 1) := by decide +kernel
theorem dX7_triple_91 : decode cX7_triple 91 = .ok (.if_icmp .ne 7, 3) := by decide +kernel
theorem dX7_triple_94 : decode cX7_triple 94 = .ok (.iconst 1, 1) := by decide +kernel
theorem dX7_triple_95 : decode cX7_triple 95 = .ok (.goto 4, 3) := by decide +kernel
theorem dX7_triple_98 : decode cX7_triple 98 = .ok (.iconst 0, 1) := by decide +kernel
theorem dX7_triple_99 : decode cX7_triple 99 = .ok (.istore 10, 2) := by decide +kernel
theorem dX7_triple_101 : decode cX7_triple 101 = .ok (.iload 10, 2) := by decide +kernel
theorem dX7_triple_103 : decode cX7_triple 103 = .ok (.ifCond .eq 51, 3) := by decide +kernel
theorem dX7_triple_106 : decode cX7_triple 106 = .ok (.aload_n 0, 1) := by decide +kernel
theorem dX7_triple_107 : decode cX7_triple 107 = .ok (.getfield 28, 3) := by decide +kernel
theorem dX7_triple_110 : decode cX7_triple 110 = .ok (.iload_n 1, 1) := by decide +kernel
theorem dX7_triple_111 : decode cX7_triple 111 = .ok (.iload_n 2, 1) := by decide +kernel
theorem dX7_triple_112 : decode cX7_triple 112 = .ok (.iconst 0, 1) := by decide +kernel
theorem dX7_triple_113 : decode cX7_triple 113 = .ok (.invokestatic 161, 3) := by decide +kernel
theorem dX7_triple_116 : decode cX7_triple 116 = .ok (.iaload, 1) := by decide +kernel
theorem dX7_triple_117 : decode cX7_triple 117 = .ok (.iload 9, 2) := by decide +kernel
theorem dX7_triple_119 : decode cX7_triple 119 = .ok (.invokestatic 175, 3) := by decide +kernel
theorem dX7_triple_122 : decode cX7_triple 122 = .ok (.ifCond .eq 32, 3) := by decide +kernel
theorem dX7_triple_125 : decode cX7_triple 125 = .ok (.aload_n 0, 1) := by decide +kernel
theorem dX7_triple_126 : decode cX7_triple 126 = .ok (.getfield 28, 3) := by decide +kernel
theorem dX7_triple_129 : decode cX7_triple 129 = .ok (.iload_n 1, 1) := by decide +kernel
theorem dX7_triple_130 : decode cX7_triple 130 = .ok (.iload_n 2, 1) := by decide +kernel
theorem dX7_triple_131 : decode cX7_triple 131 = .ok (.iconst 1, 1) := by decide +kernel
theorem dX7_triple_132 : decode cX7_triple 132 = .ok (.invokestatic 161, 3) := by decide +kernel
theorem dX7_triple_135 : decode cX7_triple 135 = .ok (.iaload, 1) := by decide +kernel
theorem dX7_triple_136 : decode cX7_triple 136 = .ok (.iload 7, 2) := by decide +kernel
theorem dX7_triple_138 : decode cX7_triple 138 = .ok (.iload 8, 2) := by decide +kernel
theorem dX7_triple_140 : decode cX7_triple 140 = .ok (.iadd, 1) := by decide +kernel
theorem dX7_triple_141 : decode cX7_triple 141 = .ok (.iload 9, 2) := by decide +kernel
theorem dX7_triple_143 : decode cX7_triple 143 = .ok (.isub, 1) := by decide +kernel
theorem dX7_triple_144 : decode cX7_triple 144 = .ok (.invokestatic 175, 3) := by decide +kernel
theorem dX7_triple_147 : decode cX7_triple 147 = .ok (.ifCond .eq 7, 3) := by decide +kernel
theorem dX7_triple_150 : decode cX7_triple 150 = .ok (.iconst 1, 1) := by decide +kernel
theorem dX7_triple_151 : decode cX7_triple 151 = .ok (.goto 4, 3) := by decide +kernel
theorem dX7_triple_154 : decode cX7_triple 154 = .ok (.iconst 0, 1) := by decide +kernel
theorem dX7_triple_155 : decode cX7_triple 155 = .ok (.istore 10, 2) := by decide +kernel
theorem dX7_triple_157 : decode cX7_triple 157 = .ok (.iload 10, 2) := by decide +kernel
theorem dX7_triple_159 : decode cX7_triple 159 = .ok (.ifCond .eq 49, 3) := by decide +kernel
theorem dX7_triple_162 : decode cX7_triple 162 = .ok (.aload_n 0, 1) := by decide +kernel
theorem dX7_triple_163 : decode cX7_triple 163 = .ok (.getfield 28, 3) := by decide +kernel
theorem dX7_triple_166 : decode cX7_triple 166 = .ok (.iload_n 1, 1) := by decide +kernel
theorem dX7_triple_167 : decode cX7_triple 167 = .ok (.iload_n 2, 1) := by decide +kernel
theorem dX7_triple_168 : decode cX7_triple 168 = .ok (.iconst 2, 1) := by decide +kernel
theorem dX7_triple_169 : decode cX7_triple 169 = .ok (.invokestatic 161, 3) := by decide +kernel
theorem dX7_triple_172 : decode cX7_triple 172 = .ok (.iaload, 1) := by decide +kernel
theorem dX7_triple_173 : decode cX7_triple 173 = .ok (.iload 5, 2) := by decide +kernel
theorem dX7_triple_175 : decode cX7_triple 175 = .ok (.iload 5, 2) := by decide +kernel
theorem dX7_triple_177 : decode cX7_triple 177 = .ok (.imul, 1) := by decide +kernel
theorem dX7_triple_178 : decode cX7_triple 178 = .ok (.iload 6, 2) := by decide +kernel
theorem dX7_triple_180 : decode cX7_triple 180 = .ok (.iload 6, 2) := by decide +kernel
theorem dX7_triple_182 : decode cX7_triple 182 = .ok (.imul, 1) := by decide +kernel
theorem dX7_triple_183 : decode cX7_triple 183 = .ok (.iadd, 1) := by decide +kernel
theorem dX7_triple_184 : decode cX7_triple 184 = .ok (.invokestatic 175, 3) := by decide +kernel
theorem dX7_triple_187 : decode cX7_triple 187 = .ok (.ifCond .eq 21, 3) := by decide +kernel
theorem dX7_triple_190 : decode cX7_triple 190 = .ok (.iload 4, 2) := by decide +kernel
theorem dX7_triple_192 : decode cX7_triple 192 = .ok (.iload_n 3, 1) := by decide +kernel
theorem dX7_triple_193 : decode cX7_triple 193 = .ok (.if_icmp .ne 12, 3) := by decide +kernel
theorem dX7_triple_196 : decode cX7_triple 196 = .ok (.bipush 100, 2) := by decide +kernel
theorem dX7_triple_198 : decode cX7_triple 198 = .ok (.iload 5, 2) := by decide +kernel
theorem dX7_triple_200 : decode cX7_triple 200 = .ok (.imul, 1) := by decide +kernel
theorem dX7_triple_201 : decode cX7_triple 201 = .ok (.iload 6, 2) := by decide +kernel
theorem dX7_triple_203 : decode cX7_triple 203 = .ok (.iadd, 1) := by decide +kernel
theorem dX7_triple_204 : decode cX7_triple 204 = .ok (.ireturn, 1) := by decide +kernel
theorem dX7_triple_205 : decode cX7_triple 205 = .ok (.iinc 4 1, 3) := by decide +kernel
theorem dX7_triple_208 : decode cX7_triple 208 = .ok (.iinc 6 1, 3) := by decide +kernel
theorem dX7_triple_211 : decode cX7_triple 211 = .ok (.goto (-184), 3) := by decide +kernel
theorem dX7_triple_214 : decode cX7_triple 214 = .ok (.iinc 5 1, 3) := by decide +kernel
theorem dX7_triple_217 : decode cX7_triple 217 = .ok (.goto (-200), 3) := by decide +kernel
theorem dX7_triple_220 : decode cX7_triple 220 = .ok (.iload_n 3, 1) := by decide +kernel
theorem dX7_triple_221 : decode cX7_triple 221 = .ok (.iconst (-1), 1) := by decide +kernel
theorem dX7_triple_222 : decode cX7_triple 222 = .ok (.if_icmp .ne 8, 3) := by decide +kernel
theorem dX7_triple_225 : decode cX7_triple 225 = .ok (.iload 4, 2) := by decide +kernel
theorem dX7_triple_227 : decode cX7_triple 227 = .ok (.goto 5, 3) := by decide +kernel
theorem dX7_triple_230 : decode cX7_triple 230 = .ok (.bipush (-6), 2) := by decide +kernel
theorem dX7_triple_232 : decode cX7_triple 232 = .ok (.ireturn, 1) := by decide +kernel
set_option maxRecDepth 20000 in
theorem ggX7_join_X7_isTablet : GoodIn wsX7_join wsX7_isTablet := goodIn_r _ [7, 8, 9, 10, 6, 11] (by decide +kernel) (by decide +kernel)
set_option maxRecDepth 20000 in
theorem gX7_join_X7_isTablet : GoodIn wsX7_join (va_wsS RX7 150 yX7_isTablet wsX7_isTablet) := goodIn_app (goodIn_of _ (by decide +kernel)) ggX7_join_X7_isTablet
set_option maxRecDepth 20000 in
theorem ggX7_join_X7_in : GoodIn wsX7_join wsX7_in := goodIn_r _ [11] (by decide +kernel) (by decide +kernel)
set_option maxRecDepth 20000 in
theorem gX7_join_X7_in : GoodIn wsX7_join (va_wsS RX7 39 yX7_in wsX7_in) := goodIn_app (goodIn_of _ (by decide +kernel)) ggX7_join_X7_in
set_option maxRecDepth 20000 in
theorem ggX7_join_X7_agree : GoodIn wsX7_join wsX7_agree := goodIn_r _ [14, 15, 16, 6, 17, 18] (by decide +kernel) (by decide +kernel)
set_option maxRecDepth 20000 in
theorem gX7_join_X7_agree : GoodIn wsX7_join (va_wsS RX7 175 yX7_agree wsX7_agree) := goodIn_app (goodIn_of _ (by decide +kernel)) ggX7_join_X7_agree
theorem dX7_join_0 : decode cX7_join 0 = .ok (.iload_n 1, 1) := by decide +kernel
theorem dX7_join_1 : decode cX7_join 1 = .ok (.invokestatic 150, 3) := by decide +kernel
theorem dX7_join_4 : decode cX7_join 4 = .ok (.ifCond .eq 15, 3) := by decide +kernel
theorem dX7_join_7 : decode cX7_join 7 = .ok (.iload_n 2, 1) := by decide +kernel
theorem dX7_join_8 : decode cX7_join 8 = .ok (.invokestatic 150, 3) := by decide +kernel
theorem dX7_join_11 : decode cX7_join 11 = .ok (.ifCond .eq 8, 3) := by decide +kernel
theorem dX7_join_14 : decode cX7_join 14 = .ok (.iload_n 1, 1) := by decide +kernel
theorem dX7_join_15 : decode cX7_join 15 = .ok (.iload_n 2, 1) := by decide +kernel
theorem dX7_join_16 : decode cX7_join 16 = .ok (.if_icmp .ne 5, 3) := by decide +kernel
theorem dX7_join_19 : decode cX7_join 19 = .ok (.iconst (-1), 1) := by decide +kernel
theorem dX7_join_20 : decode cX7_join 20 = .ok (.ireturn, 1) := by decide +kernel
theorem dX7_join_21 : decode cX7_join 21 = .ok (.iload_n 3, 1) := by decide +kernel
theorem dX7_join_22 : decode cX7_join 22 = .ok (.i2l, 1) := by decide +kernel
theorem dX7_join_23 : decode cX7_join 23 = .ok (.lconst 0, 1) := by decide +kernel
theorem dX7_join_24 : decode cX7_join 24 = .ok (.ldc2_w 82, 3) := by decide +kernel
theorem dX7_join_27 : decode cX7_join 27 = .ok (.invokestatic 39, 3) := by decide +kernel
theorem dX7_join_30 : decode cX7_join 30 = .ok (.ifCond .ne 6, 3) := by decide +kernel
theorem dX7_join_33 : decode cX7_join 33 = .ok (.bipush (-2), 2) := by decide +kernel
theorem dX7_join_35 : decode cX7_join 35 = .ok (.ireturn, 1) := by decide +kernel
theorem dX7_join_36 : decode cX7_join 36 = .ok (.iload_n 3, 1) := by decide +kernel
theorem dX7_join_37 : decode cX7_join 37 = .ok (.aload_n 0, 1) := by decide +kernel
theorem dX7_join_38 : decode cX7_join 38 = .ok (.getfield 25, 3) := by decide +kernel
theorem dX7_join_41 : decode cX7_join 41 = .ok (.iload_n 1, 1) := by decide +kernel
theorem dX7_join_42 : decode cX7_join 42 = .ok (.iaload, 1) := by decide +kernel
theorem dX7_join_43 : decode cX7_join 43 = .ok (.if_icmp .le 6, 3) := by decide +kernel
theorem dX7_join_46 : decode cX7_join 46 = .ok (.bipush (-3), 2) := by decide +kernel
theorem dX7_join_48 : decode cX7_join 48 = .ok (.ireturn, 1) := by decide +kernel
theorem dX7_join_49 : decode cX7_join 49 = .ok (.iload_n 3, 1) := by decide +kernel
theorem dX7_join_50 : decode cX7_join 50 = .ok (.aload_n 0, 1) := by decide +kernel
theorem dX7_join_51 : decode cX7_join 51 = .ok (.getfield 25, 3) := by decide +kernel
theorem dX7_join_54 : decode cX7_join 54 = .ok (.iload_n 2, 1) := by decide +kernel
theorem dX7_join_55 : decode cX7_join 55 = .ok (.iaload, 1) := by decide +kernel
theorem dX7_join_56 : decode cX7_join 56 = .ok (.iadd, 1) := by decide +kernel
theorem dX7_join_57 : decode cX7_join 57 = .ok (.bipush 8, 2) := by decide +kernel
theorem dX7_join_59 : decode cX7_join 59 = .ok (.if_icmp .le 6, 3) := by decide +kernel
theorem dX7_join_62 : decode cX7_join 62 = .ok (.bipush (-4), 2) := by decide +kernel
theorem dX7_join_64 : decode cX7_join 64 = .ok (.ireturn, 1) := by decide +kernel
theorem dX7_join_65 : decode cX7_join 65 = .ok (.iconst 0, 1) := by decide +kernel
theorem dX7_join_66 : decode cX7_join 66 = .ok (.istore 4, 2) := by decide +kernel
theorem dX7_join_68 : decode cX7_join 68 = .ok (.iload 4, 2) := by decide +kernel
theorem dX7_join_70 : decode cX7_join 70 = .ok (.iconst 3, 1) := by decide +kernel
theorem dX7_join_71 : decode cX7_join 71 = .ok (.aload_n 0, 1) := by decide +kernel
theorem dX7_join_72 : decode cX7_join 72 = .ok (.getfield 25, 3) := by decide +kernel
theorem dX7_join_75 : decode cX7_join 75 = .ok (.iload_n 2, 1) := by decide +kernel
theorem dX7_join_76 : decode cX7_join 76 = .ok (.iaload, 1) := by decide +kernel
theorem dX7_join_77 : decode cX7_join 77 = .ok (.imul, 1) := by decide +kernel
theorem dX7_join_78 : decode cX7_join 78 = .ok (.if_icmp .ge 63, 3) := by decide +kernel
theorem dX7_join_81 : decode cX7_join 81 = .ok (.iconst 3, 1) := by decide +kernel
theorem dX7_join_82 : decode cX7_join 82 = .ok (.iload_n 3, 1) := by decide +kernel
theorem dX7_join_83 : decode cX7_join 83 = .ok (.imul, 1) := by decide +kernel
theorem dX7_join_84 : decode cX7_join 84 = .ok (.iload 4, 2) := by decide +kernel
theorem dX7_join_86 : decode cX7_join 86 = .ok (.iadd, 1) := by decide +kernel
theorem dX7_join_87 : decode cX7_join 87 = .ok (.iconst 3, 1) := by decide +kernel
theorem dX7_join_88 : decode cX7_join 88 = .ok (.aload_n 0, 1) := by decide +kernel
theorem dX7_join_89 : decode cX7_join 89 = .ok (.getfield 25, 3) := by decide +kernel
theorem dX7_join_92 : decode cX7_join 92 = .ok (.iload_n 1, 1) := by decide +kernel
theorem dX7_join_93 : decode cX7_join 93 = .ok (.iaload, 1) := by decide +kernel
theorem dX7_join_94 : decode cX7_join 94 = .ok (.imul, 1) := by decide +kernel
theorem dX7_join_95 : decode cX7_join 95 = .ok (.if_icmp .ge 40, 3) := by decide +kernel
theorem dX7_join_98 : decode cX7_join 98 = .ok (.aload_n 0, 1) := by decide +kernel
theorem dX7_join_99 : decode cX7_join 99 = .ok (.getfield 28, 3) := by decide +kernel
theorem dX7_join_102 : decode cX7_join 102 = .ok (.bipush 24, 2) := by decide +kernel
theorem dX7_join_104 : decode cX7_join 104 = .ok (.iload_n 1, 1) := by decide +kernel
theorem dX7_join_105 : decode cX7_join 105 = .ok (.imul, 1) := by decide +kernel
theorem dX7_join_106 : decode cX7_join 106 = .ok (.iconst 3, 1) := by decide +kernel
theorem dX7_join_107 : decode cX7_join 107 = .ok (.iload_n 3, 1) := by decide +kernel
theorem dX7_join_108 : decode cX7_join 108 = .ok (.imul, 1) := by decide +kernel
theorem dX7_join_109 : decode cX7_join 109 = .ok (.iadd, 1) := by decide +kernel
theorem dX7_join_110 : decode cX7_join 110 = .ok (.iload 4, 2) := by decide +kernel
theorem dX7_join_112 : decode cX7_join 112 = .ok (.iadd, 1) := by decide +kernel
theorem dX7_join_113 : decode cX7_join 113 = .ok (.iaload, 1) := by decide +kernel
theorem dX7_join_114 : decode cX7_join 114 = .ok (.aload_n 0, 1) := by decide +kernel
theorem dX7_join_115 : decode cX7_join 115 = .ok (.getfield 28, 3) := by decide +kernel
theorem dX7_join_118 : decode cX7_join 118 = .ok (.bipush 24, 2) := by decide +kernel
theorem dX7_join_120 : decode cX7_join 120 = .ok (.iload_n 2, 1) := by decide +kernel
theorem dX7_join_121 : decode cX7_join 121 = .ok (.imul, 1) := by decide +kernel
theorem dX7_join_122 : decode cX7_join 122 = .ok (.iload 4, 2) := by decide +kernel
theorem dX7_join_124 : decode cX7_join 124 = .ok (.iadd, 1) := by decide +kernel
theorem dX7_join_125 : decode cX7_join 125 = .ok (.iaload, 1) := by decide +kernel
theorem dX7_join_126 : decode cX7_join 126 = .ok (.invokestatic 175, 3) := by decide +kernel
theorem dX7_join_129 : decode cX7_join 129 = .ok (.ifCond .ne 6, 3) := by decide +kernel
theorem dX7_join_132 : decode cX7_join 132 = .ok (.bipush (-5), 2) := by decide +kernel
theorem dX7_join_134 : decode cX7_join 134 = .ok (.ireturn, 1) := by decide +kernel
theorem dX7_join_135 : decode cX7_join 135 = .ok (.iinc 4 1, 3) := by decide +kernel
theorem dX7_join_138 : decode cX7_join 138 = .ok (.goto (-70), 3) := by decide +kernel
theorem dX7_join_141 : decode cX7_join 141 = .ok (.iconst 0, 1) := by decide +kernel
theorem dX7_join_142 : decode cX7_join 142 = .ok (.istore 4, 2) := by decide +kernel
theorem dX7_join_144 : decode cX7_join 144 = .ok (.iload 4, 2) := by decide +kernel
theorem dX7_join_146 : decode cX7_join 146 = .ok (.iconst 3, 1) := by decide +kernel
theorem dX7_join_147 : decode cX7_join 147 = .ok (.aload_n 0, 1) := by decide +kernel
theorem dX7_join_148 : decode cX7_join 148 = .ok (.getfield 25, 3) := by decide +kernel
theorem dX7_join_151 : decode cX7_join 151 = .ok (.iload_n 2, 1) := by decide +kernel
theorem dX7_join_152 : decode cX7_join 152 = .ok (.iaload, 1) := by decide +kernel
theorem dX7_join_153 : decode cX7_join 153 = .ok (.imul, 1) := by decide +kernel
theorem dX7_join_154 : decode cX7_join 154 = .ok (.if_icmp .ge 90, 3) := by decide +kernel
theorem dX7_join_157 : decode cX7_join 157 = .ok (.bipush 24, 2) := by decide +kernel
theorem dX7_join_159 : decode cX7_join 159 = .ok (.iload_n 1, 1) := by decide +kernel
theorem dX7_join_160 : decode cX7_join 160 = .ok (.imul, 1) := by decide +kernel
theorem dX7_join_161 : decode cX7_join 161 = .ok (.iconst 3, 1) := by decide +kernel
theorem dX7_join_162 : decode cX7_join 162 = .ok (.iload_n 3, 1) := by decide +kernel
theorem dX7_join_163 : decode cX7_join 163 = .ok (.imul, 1) := by decide +kernel
theorem dX7_join_164 : decode cX7_join 164 = .ok (.iadd, 1) := by decide +kernel
theorem dX7_join_165 : decode cX7_join 165 = .ok (.iload 4, 2) := by decide +kernel
theorem dX7_join_167 : decode cX7_join 167 = .ok (.iadd, 1) := by decide +kernel
theorem dX7_join_168 : decode cX7_join 168 = .ok (.istore 5, 2) := by decide +kernel
theorem dX7_join_170 : decode cX7_join 170 = .ok (.iconst 3, 1) := by decide +kernel
theorem dX7_join_171 : decode cX7_join 171 = .ok (.iload_n 3, 1) := by decide +kernel
theorem dX7_join_172 : decode cX7_join 172 = .ok (.imul, 1) := by decide +kernel
theorem dX7_join_173 : decode cX7_join 173 = .ok (.iload 4, 2) := by decide +kernel
theorem dX7_join_175 : decode cX7_join 175 = .ok (.iadd, 1) := by decide +kernel
theorem dX7_join_176 : decode cX7_join 176 = .ok (.iconst 3, 1) := by decide +kernel
theorem dX7_join_177 : decode cX7_join 177 = .ok (.aload_n 0, 1) := by decide +kernel
theorem dX7_join_178 : decode cX7_join 178 = .ok (.getfield 25, 3) := by decide +kernel
theorem dX7_join_181 : decode cX7_join 181 = .ok (.iload_n 1, 1) := by decide +kernel
theorem dX7_join_182 : decode cX7_join 182 = .ok (.iaload, 1) := by decide +kernel
theorem dX7_join_183 : decode cX7_join 183 = .ok (.imul, 1) := by decide +kernel
theorem dX7_join_184 : decode cX7_join 184 = .ok (.if_icmp .ge 17, 3) := by decide +kernel
theorem dX7_join_187 : decode cX7_join 187 = .ok (.aload_n 0, 1) := by decide +kernel
theorem dX7_join_188 : decode cX7_join 188 = .ok (.getfield 28, 3) := by decide +kernel
theorem dX7_join_191 : decode cX7_join 191 = .ok (.iload 5, 2) := by decide +kernel
theorem dX7_join_193 : decode cX7_join 193 = .ok (.iaload, 1) := by decide +kernel
theorem dX7_join_194 : decode cX7_join 194 = .ok (.ifCond .le 7, 3) := by decide +kernel
theorem dX7_join_197 : decode cX7_join 197 = .ok (.iconst 1, 1) := by decide +kernel
theorem dX7_join_198 : decode cX7_join 198 = .ok (.goto 4, 3) := by decide +kernel
theorem dX7_join_201 : decode cX7_join 201 = .ok (.iconst 0, 1) := by decide +kernel
theorem dX7_join_202 : decode cX7_join 202 = .ok (.istore 6, 2) := by decide +kernel
theorem dX7_join_204 : decode cX7_join 204 = .ok (.aload_n 0, 1) := by decide +kernel
theorem dX7_join_205 : decode cX7_join 205 = .ok (.getfield 28, 3) := by decide +kernel
theorem dX7_join_208 : decode cX7_join 208 = .ok (.iload 5, 2) := by decide +kernel
theorem dX7_join_210 : decode cX7_join 210 = .ok (.iload 6, 2) := by decide +kernel
theorem dX7_join_212 : decode cX7_join 212 = .ok (.ifCond .eq 13, 3) := by decide +kernel
theorem dX7_join_215 : decode cX7_join 215 = .ok (.aload_n 0, 1) := by decide +kernel
theorem dX7_join_216 : decode cX7_join 216 = .ok (.getfield 28, 3) := by decide +kernel
theorem dX7_join_219 : decode cX7_join 219 = .ok (.iload 5, 2) := by decide +kernel
theorem dX7_join_221 : decode cX7_join 221 = .ok (.iaload, 1) := by decide +kernel
theorem dX7_join_222 : decode cX7_join 222 = .ok (.goto 15, 3) := by decide +kernel
theorem dX7_join_225 : decode cX7_join 225 = .ok (.aload_n 0, 1) := by decide +kernel
theorem dX7_join_226 : decode cX7_join 226 = .ok (.getfield 28, 3) := by decide +kernel
theorem dX7_join_229 : decode cX7_join 229 = .ok (.bipush 24, 2) := by decide +kernel
theorem dX7_join_231 : decode cX7_join 231 = .ok (.iload_n 2, 1) := by decide +kernel
theorem dX7_join_232 : decode cX7_join 232 = .ok (.imul, 1) := by decide +kernel
theorem dX7_join_233 : decode cX7_join 233 = .ok (.iload 4, 2) := by decide +kernel
theorem dX7_join_235 : decode cX7_join 235 = .ok (.iadd, 1) := by decide +kernel
theorem dX7_join_236 : decode cX7_join 236 = .ok (.iaload, 1) := by decide +kernel
theorem dX7_join_237 : decode cX7_join 237 = .ok (.iastore, 1) := by decide +kernel
theorem dX7_join_238 : decode cX7_join 238 = .ok (.iinc 4 1, 3) := by decide +kernel
theorem dX7_join_241 : decode cX7_join 241 = .ok (.goto (-97), 3) := by decide +kernel
theorem dX7_join_244 : decode cX7_join 244 = .ok (.aload_n 0, 1) := by decide +kernel
theorem dX7_join_245 : decode cX7_join 245 = .ok (.getfield 25, 3) := by decide +kernel
theorem dX7_join_248 : decode cX7_join 248 = .ok (.iload_n 1, 1) := by decide +kernel
theorem dX7_join_249 : decode cX7_join 249 = .ok (.iload_n 3, 1) := by decide +kernel
theorem dX7_join_250 : decode cX7_join 250 = .ok (.aload_n 0, 1) := by decide +kernel
theorem dX7_join_251 : decode cX7_join 251 = .ok (.getfield 25, 3) := by decide +kernel
theorem dX7_join_254 : decode cX7_join 254 = .ok (.iload_n 2, 1) := by decide +kernel
theorem dX7_join_255 : decode cX7_join 255 = .ok (.iaload, 1) := by decide +kernel
theorem dX7_join_256 : decode cX7_join 256 = .ok (.iadd, 1) := by decide +kernel
theorem dX7_join_257 : decode cX7_join 257 = .ok (.aload_n 0, 1) := by decide +kernel
theorem dX7_join_258 : decode cX7_join 258 = .ok (.getfield 25, 3) := by decide +kernel
theorem dX7_join_261 : decode cX7_join 261 = .ok (.iload_n 1, 1) := by decide +kernel
theorem dX7_join_262 : decode cX7_join 262 = .ok (.iaload, 1) := by decide +kernel
theorem dX7_join_263 : decode cX7_join 263 = .ok (.if_icmp .le 14, 3) := by decide +kernel
theorem dX7_join_266 : decode cX7_join 266 = .ok (.iload_n 3, 1) := by decide +kernel
theorem dX7_join_267 : decode cX7_join 267 = .ok (.aload_n 0, 1) := by decide +kernel
theorem dX7_join_268 : decode cX7_join 268 = .ok (.getfield 25, 3) := by decide +kernel
theorem dX7_join_271 : decode cX7_join 271 = .ok (.iload_n 2, 1) := by decide +kernel
theorem dX7_join_272 : decode cX7_join 272 = .ok (.iaload, 1) := by decide +kernel
theorem dX7_join_273 : decode cX7_join 273 = .ok (.iadd, 1) := by decide +kernel
theorem dX7_join_274 : decode cX7_join 274 = .ok (.goto 9, 3) := by decide +kernel
theorem dX7_join_277 : decode cX7_join 277 = .ok (.aload_n 0, 1) := by decide +kernel
theorem dX7_join_278 : decode cX7_join 278 = .ok (.getfield 25, 3) := by decide +kernel
theorem dX7_join_281 : decode cX7_join 281 = .ok (.iload_n 1, 1) := by decide +kernel
theorem dX7_join_282 : decode cX7_join 282 = .ok (.iaload, 1) := by decide +kernel
theorem dX7_join_283 : decode cX7_join 283 = .ok (.iastore, 1) := by decide +kernel
theorem dX7_join_284 : decode cX7_join 284 = .ok (.aload_n 0, 1) := by decide +kernel
theorem dX7_join_285 : decode cX7_join 285 = .ok (.getfield 25, 3) := by decide +kernel
theorem dX7_join_288 : decode cX7_join 288 = .ok (.iload_n 1, 1) := by decide +kernel
theorem dX7_join_289 : decode cX7_join 289 = .ok (.iaload, 1) := by decide +kernel
theorem dX7_join_290 : decode cX7_join 290 = .ok (.ireturn, 1) := by decide +kernel
set_option maxRecDepth 20000 in
theorem ggX7_isCount_X7_in : GoodIn wsX7_isCount wsX7_in := goodIn_r _ [5] (by decide +kernel) (by decide +kernel)
set_option maxRecDepth 20000 in
theorem gX7_isCount_X7_in : GoodIn wsX7_isCount (va_wsS RX7 39 yX7_in wsX7_in) := goodIn_app (goodIn_of _ (by decide +kernel)) ggX7_isCount_X7_in
theorem dX7_isCount_0 : decode cX7_isCount 0 = .ok (.iload_n 0, 1) := by decide +kernel
theorem dX7_isCount_1 : decode cX7_isCount 1 = .ok (.i2l, 1) := by decide +kernel
theorem dX7_isCount_2 : decode cX7_isCount 2 = .ok (.lconst 1, 1) := by decide +kernel
theorem dX7_isCount_3 : decode cX7_isCount 3 = .ok (.ldc2_w 204, 3) := by decide +kernel
theorem dX7_isCount_6 : decode cX7_isCount 6 = .ok (.invokestatic 39, 3) := by decide +kernel
theorem dX7_isCount_9 : decode cX7_isCount 9 = .ok (.ireturn, 1) := by decide +kernel
set_option maxRecDepth 20000 in
theorem ggX7_problem_X7_in : GoodIn wsX7_problem wsX7_in := goodIn_r _ [11] (by decide +kernel) (by decide +kernel)
set_option maxRecDepth 20000 in
theorem gX7_problem_X7_in : GoodIn wsX7_problem (va_wsS RX7 39 yX7_in wsX7_in) := goodIn_app (goodIn_of _ (by decide +kernel)) ggX7_problem_X7_in
set_option maxRecDepth 20000 in
theorem ggX7_problem_X7_isCount : GoodIn wsX7_problem wsX7_isCount := goodIn_r _ [14, 15, 8, 9, 10, 11] (by decide +kernel) (by decide +kernel)
set_option maxRecDepth 20000 in
theorem gX7_problem_X7_isCount : GoodIn wsX7_problem (va_wsS RX7 208 yX7_isCount wsX7_isCount) := goodIn_app (goodIn_of _ (by decide +kernel)) ggX7_problem_X7_isCount
set_option maxRecDepth 20000 in
theorem ggX7_problem_X7_isEven : GoodIn wsX7_problem wsX7_isEven := goodIn_r _ [18] (by decide +kernel) (by decide +kernel)
set_option maxRecDepth 20000 in
theorem gX7_problem_X7_isEven : GoodIn wsX7_problem (va_wsS RX7 88 yX7_isEven wsX7_isEven) := goodIn_app (goodIn_of _ (by decide +kernel)) ggX7_problem_X7_isEven
set_option maxRecDepth 20000 in
theorem ggX7_problem_X7_turnedOf : GoodIn wsX7_problem wsX7_turnedOf := goodIn_r _ [21, 22, 3, 23, 24, 10, 25, 26, 27, 28, 29] (by decide +kernel) (by decide +kernel)
set_option maxRecDepth 20000 in
theorem gX7_problem_X7_turnedOf : GoodIn wsX7_problem (va_wsS RX7 96 yX7_turnedOf wsX7_turnedOf) := goodIn_app (goodIn_of _ (by decide +kernel)) ggX7_problem_X7_turnedOf
set_option maxRecDepth 20000 in
theorem ggX7_problem_X7_sixtyOf : GoodIn wsX7_problem wsX7_sixtyOf := goodIn_r _ [25, 26] (by decide +kernel) (by decide +kernel)
set_option maxRecDepth 20000 in
theorem gX7_problem_X7_sixtyOf : GoodIn wsX7_problem (va_wsS RX7 53 yX7_sixtyOf wsX7_sixtyOf) := goodIn_app (goodIn_of _ (by decide +kernel)) ggX7_problem_X7_sixtyOf
set_option maxRecDepth 20000 in
theorem ggX7_problem_X7_whole : GoodIn wsX7_problem wsX7_whole := goodIn_r _ [32, 33, 6] (by decide +kernel) (by decide +kernel)
set_option maxRecDepth 20000 in
theorem gX7_problem_X7_whole : GoodIn wsX7_problem (va_wsS RX7 112 yX7_whole wsX7_whole) := goodIn_app (goodIn_of _ (by decide +kernel)) ggX7_problem_X7_whole
theorem dX7_problem_0 : decode cX7_problem 0 = .ok (.iload_n 1, 1) := by decide +kernel
theorem dX7_problem_1 : decode cX7_problem 1 = .ok (.i2l, 1) := by decide +kernel
theorem dX7_problem_2 : decode cX7_problem 2 = .ok (.lconst 0, 1) := by decide +kernel
theorem dX7_problem_3 : decode cX7_problem 3 = .ok (.ldc2_w 206, 3) := by decide +kernel
theorem dX7_problem_6 : decode cX7_problem 6 = .ok (.invokestatic 39, 3) := by decide +kernel
theorem dX7_problem_9 : decode cX7_problem 9 = .ok (.ifCond .eq 28, 3) := by decide +kernel
theorem dX7_problem_12 : decode cX7_problem 12 = .ok (.iload_n 2, 1) := by decide +kernel
theorem dX7_problem_13 : decode cX7_problem 13 = .ok (.invokestatic 208, 3) := by decide +kernel
theorem dX7_problem_16 : decode cX7_problem 16 = .ok (.ifCond .eq 21, 3) := by decide +kernel
theorem dX7_problem_19 : decode cX7_problem 19 = .ok (.iload_n 3, 1) := by decide +kernel
theorem dX7_problem_20 : decode cX7_problem 20 = .ok (.invokestatic 208, 3) := by decide +kernel
theorem dX7_problem_23 : decode cX7_problem 23 = .ok (.ifCond .eq 14, 3) := by decide +kernel
theorem dX7_problem_26 : decode cX7_problem 26 = .ok (.iload 4, 2) := by decide +kernel
theorem dX7_problem_28 : decode cX7_problem 28 = .ok (.i2l, 1) := by decide +kernel
theorem dX7_problem_29 : decode cX7_problem 29 = .ok (.lconst 0, 1) := by decide +kernel
theorem dX7_problem_30 : decode cX7_problem 30 = .ok (.lconst 1, 1) := by decide +kernel
theorem dX7_problem_31 : decode cX7_problem 31 = .ok (.invokestatic 39, 3) := by decide +kernel
theorem dX7_problem_34 : decode cX7_problem 34 = .ok (.ifCond .ne 7, 3) := by decide +kernel
theorem dX7_problem_37 : decode cX7_problem 37 = .ok (.ldc2_w 57, 3) := by decide +kernel
theorem dX7_problem_40 : decode cX7_problem 40 = .ok (.lreturn, 1) := by decide +kernel
theorem dX7_problem_41 : decode cX7_problem 41 = .ok (.lconst 0, 1) := by decide +kernel
theorem dX7_problem_42 : decode cX7_problem 42 = .ok (.lstore 5, 2) := by decide +kernel
theorem dX7_problem_44 : decode cX7_problem 44 = .ok (.lconst 0, 1) := by decide +kernel
theorem dX7_problem_45 : decode cX7_problem 45 = .ok (.lstore 7, 2) := by decide +kernel
theorem dX7_problem_47 : decode cX7_problem 47 = .ok (.iload_n 1, 1) := by decide +kernel
theorem dX7_problem_48 : decode cX7_problem 48 = .ok (.ifCond .eq 8, 3) := by decide +kernel
theorem dX7_problem_51 : decode cX7_problem 51 = .ok (.iload_n 1, 1) := by decide +kernel
theorem dX7_problem_52 : decode cX7_problem 52 = .ok (.iconst 5, 1) := by decide +kernel
theorem dX7_problem_53 : decode cX7_problem 53 = .ok (.if_icmp .ne 13, 3) := by decide +kernel
theorem dX7_problem_56 : decode cX7_problem 56 = .ok (.iload_n 2, 1) := by decide +kernel
theorem dX7_problem_57 : decode cX7_problem 57 = .ok (.i2l, 1) := by decide +kernel
theorem dX7_problem_58 : decode cX7_problem 58 = .ok (.iload_n 3, 1) := by decide +kernel
theorem dX7_problem_59 : decode cX7_problem 59 = .ok (.i2l, 1) := by decide +kernel
theorem dX7_problem_60 : decode cX7_problem 60 = .ok (.lmul, 1) := by decide +kernel
theorem dX7_problem_61 : decode cX7_problem 61 = .ok (.lstore 5, 2) := by decide +kernel
theorem dX7_problem_63 : decode cX7_problem 63 = .ok (.goto 242, 3) := by decide +kernel
theorem dX7_problem_66 : decode cX7_problem 66 = .ok (.iload_n 1, 1) := by decide +kernel
theorem dX7_problem_67 : decode cX7_problem 67 = .ok (.iconst 1, 1) := by decide +kernel
theorem dX7_problem_68 : decode cX7_problem 68 = .ok (.if_icmp .ne 67, 3) := by decide +kernel
theorem dX7_problem_71 : decode cX7_problem 71 = .ok (.iload_n 3, 1) := by decide +kernel
theorem dX7_problem_72 : decode cX7_problem 72 = .ok (.i2l, 1) := by decide +kernel
theorem dX7_problem_73 : decode cX7_problem 73 = .ok (.invokestatic 88, 3) := by decide +kernel
theorem dX7_problem_76 : decode cX7_problem 76 = .ok (.ifCond .eq 11, 3) := by decide +kernel
theorem dX7_problem_79 : decode cX7_problem 79 = .ok (.iload_n 3, 1) := by decide +kernel
theorem dX7_problem_80 : decode cX7_problem 80 = .ok (.i2l, 1) := by decide +kernel
theorem dX7_problem_81 : decode cX7_problem 81 = .ok (.invokestatic 96, 3) := by decide +kernel
theorem dX7_problem_84 : decode cX7_problem 84 = .ok (.goto 6, 3) := by decide +kernel
theorem dX7_problem_87 : decode cX7_problem 87 = .ok (.ldc2_w 70, 3) := by decide +kernel
theorem dX7_problem_90 : decode cX7_problem 90 = .ok (.lstore 9, 2) := by decide +kernel
theorem dX7_problem_92 : decode cX7_problem 92 = .ok (.iload_n 2, 1) := by decide +kernel
theorem dX7_problem_93 : decode cX7_problem 93 = .ok (.i2l, 1) := by decide +kernel
theorem dX7_problem_94 : decode cX7_problem 94 = .ok (.invokestatic 53, 3) := by decide +kernel
theorem dX7_problem_97 : decode cX7_problem 97 = .ok (.lstore 11, 2) := by decide +kernel
theorem dX7_problem_99 : decode cX7_problem 99 = .ok (.lload 9, 2) := by decide +kernel
theorem dX7_problem_101 : decode cX7_problem 101 = .ok (.lconst 0, 1) := by decide +kernel
theorem dX7_problem_102 : decode cX7_problem 102 = .ok (.lcmp, 1) := by decide +kernel
theorem dX7_problem_103 : decode cX7_problem 103 = .ok (.ifCond .lt 15, 3) := by decide +kernel
theorem dX7_problem_106 : decode cX7_problem 106 = .ok (.lload 9, 2) := by decide +kernel
theorem dX7_problem_108 : decode cX7_problem 108 = .ok (.ldc2_w 37, 3) := by decide +kernel
theorem dX7_problem_111 : decode cX7_problem 111 = .ok (.lload 11, 2) := by decide +kernel
theorem dX7_problem_113 : decode cX7_problem 113 = .ok (.ldiv, 1) := by decide +kernel
theorem dX7_problem_114 : decode cX7_problem 114 = .ok (.lcmp, 1) := by decide +kernel
theorem dX7_problem_115 : decode cX7_problem 115 = .ok (.ifCond .le 7, 3) := by decide +kernel
theorem dX7_problem_118 : decode cX7_problem 118 = .ok (.lconst 0, 1) := by decide +kernel
theorem dX7_problem_119 : decode cX7_problem 119 = .ok (.goto 11, 3) := by decide +kernel
theorem dX7_problem_122 : decode cX7_problem 122 = .ok (.lload 11, 2) := by decide +kernel
theorem dX7_problem_124 : decode cX7_problem 124 = .ok (.lload 9, 2) := by decide +kernel
theorem dX7_problem_126 : decode cX7_problem 126 = .ok (.lmul, 1) := by decide +kernel
theorem dX7_problem_127 : decode cX7_problem 127 = .ok (.invokestatic 53, 3) := by decide +kernel
theorem dX7_problem_130 : decode cX7_problem 130 = .ok (.lstore 5, 2) := by decide +kernel
theorem dX7_problem_132 : decode cX7_problem 132 = .ok (.goto 173, 3) := by decide +kernel
theorem dX7_problem_135 : decode cX7_problem 135 = .ok (.iload_n 1, 1) := by decide +kernel
theorem dX7_problem_136 : decode cX7_problem 136 = .ok (.iconst 2, 1) := by decide +kernel
theorem dX7_problem_137 : decode cX7_problem 137 = .ok (.if_icmp .ne 32, 3) := by decide +kernel
theorem dX7_problem_140 : decode cX7_problem 140 = .ok (.iload_n 2, 1) := by decide +kernel
theorem dX7_problem_141 : decode cX7_problem 141 = .ok (.i2l, 1) := by decide +kernel
theorem dX7_problem_142 : decode cX7_problem 142 = .ok (.invokestatic 112, 3) := by decide +kernel
theorem dX7_problem_145 : decode cX7_problem 145 = .ok (.lstore 9, 2) := by decide +kernel
theorem dX7_problem_147 : decode cX7_problem 147 = .ok (.lload 9, 2) := by decide +kernel
theorem dX7_problem_149 : decode cX7_problem 149 = .ok (.lload 9, 2) := by decide +kernel
theorem dX7_problem_151 : decode cX7_problem 151 = .ok (.lmul, 1) := by decide +kernel
theorem dX7_problem_152 : decode cX7_problem 152 = .ok (.iload_n 2, 1) := by decide +kernel
theorem dX7_problem_153 : decode cX7_problem 153 = .ok (.i2l, 1) := by decide +kernel
theorem dX7_problem_154 : decode cX7_problem 154 = .ok (.lcmp, 1) := by decide +kernel
theorem dX7_problem_155 : decode cX7_problem 155 = .ok (.ifCond .ne 8, 3) := by decide +kernel
theorem dX7_problem_158 : decode cX7_problem 158 = .ok (.lload 9, 2) := by decide +kernel
theorem dX7_problem_160 : decode cX7_problem 160 = .ok (.goto 4, 3) := by decide +kernel
theorem dX7_problem_163 : decode cX7_problem 163 = .ok (.lconst 0, 1) := by decide +kernel
theorem dX7_problem_164 : decode cX7_problem 164 = .ok (.lstore 5, 2) := by decide +kernel
theorem dX7_problem_166 : decode cX7_problem 166 = .ok (.goto 139, 3) := by decide +kernel
theorem dX7_problem_169 : decode cX7_problem 169 = .ok (.iload_n 1, 1) := by decide +kernel
theorem dX7_problem_170 : decode cX7_problem 170 = .ok (.iconst 3, 1) := by decide +kernel
theorem dX7_problem_171 : decode cX7_problem 171 = .ok (.if_icmp .ne 18, 3) := by decide +kernel
theorem dX7_problem_174 : decode cX7_problem 174 = .ok (.iload_n 2, 1) := by decide +kernel
theorem dX7_problem_175 : decode cX7_problem 175 = .ok (.i2l, 1) := by decide +kernel
theorem dX7_problem_176 : decode cX7_problem 176 = .ok (.iload_n 2, 1) := by decide +kernel
theorem dX7_problem_177 : decode cX7_problem 177 = .ok (.i2l, 1) := by decide +kernel
theorem dX7_problem_178 : decode cX7_problem 178 = .ok (.lmul, 1) := by decide +kernel
theorem dX7_problem_179 : decode cX7_problem 179 = .ok (.ldc2_w 211, 3) := by decide +kernel
theorem dX7_problem_182 : decode cX7_problem 182 = .ok (.iload_n 3, 1) := by decide +kernel
theorem dX7_problem_183 : decode cX7_problem 183 = .ok (.i2l, 1) := by decide +kernel
theorem dX7_problem_184 : decode cX7_problem 184 = .ok (.lmul, 1) := by decide +kernel
theorem dX7_problem_185 : decode cX7_problem 185 = .ok (.lsub, 1) := by decide +kernel
theorem dX7_problem_186 : decode cX7_problem 186 = .ok (.goto 15, 3) := by decide +kernel
theorem dX7_problem_189 : decode cX7_problem 189 = .ok (.iload_n 2, 1) := by decide +kernel
theorem dX7_problem_190 : decode cX7_problem 190 = .ok (.i2l, 1) := by decide +kernel
theorem dX7_problem_191 : decode cX7_problem 191 = .ok (.iload_n 2, 1) := by decide +kernel
theorem dX7_problem_192 : decode cX7_problem 192 = .ok (.i2l, 1) := by decide +kernel
theorem dX7_problem_193 : decode cX7_problem 193 = .ok (.lmul, 1) := by decide +kernel
theorem dX7_problem_194 : decode cX7_problem 194 = .ok (.ldc2_w 211, 3) := by decide +kernel
theorem dX7_problem_197 : decode cX7_problem 197 = .ok (.iload_n 3, 1) := by decide +kernel
theorem dX7_problem_198 : decode cX7_problem 198 = .ok (.i2l, 1) := by decide +kernel
theorem dX7_problem_199 : decode cX7_problem 199 = .ok (.lmul, 1) := by decide +kernel
theorem dX7_problem_200 : decode cX7_problem 200 = .ok (.ladd, 1) := by decide +kernel
theorem dX7_problem_201 : decode cX7_problem 201 = .ok (.lstore 9, 2) := by decide +kernel
theorem dX7_problem_203 : decode cX7_problem 203 = .ok (.lload 9, 2) := by decide +kernel
theorem dX7_problem_205 : decode cX7_problem 205 = .ok (.lconst 0, 1) := by decide +kernel
theorem dX7_problem_206 : decode cX7_problem 206 = .ok (.lcmp, 1) := by decide +kernel
theorem dX7_problem_207 : decode cX7_problem 207 = .ok (.ifCond .ge 7, 3) := by decide +kernel
theorem dX7_problem_210 : decode cX7_problem 210 = .ok (.lconst 0, 1) := by decide +kernel
theorem dX7_problem_211 : decode cX7_problem 211 = .ok (.goto 8, 3) := by decide +kernel
theorem dX7_problem_214 : decode cX7_problem 214 = .ok (.lload 9, 2) := by decide +kernel
theorem dX7_problem_216 : decode cX7_problem 216 = .ok (.invokestatic 112, 3) := by decide +kernel
theorem dX7_problem_219 : decode cX7_problem 219 = .ok (.lstore 11, 2) := by decide +kernel
theorem dX7_problem_221 : decode cX7_problem 221 = .ok (.iload_n 1, 1) := by decide +kernel
theorem dX7_problem_222 : decode cX7_problem 222 = .ok (.iconst 3, 1) := by decide +kernel
theorem dX7_problem_223 : decode cX7_problem 223 = .ok (.if_icmp .ne 11, 3) := by decide +kernel
theorem dX7_problem_226 : decode cX7_problem 226 = .ok (.iload_n 2, 1) := by decide +kernel
theorem dX7_problem_227 : decode cX7_problem 227 = .ok (.i2l, 1) := by decide +kernel
theorem dX7_problem_228 : decode cX7_problem 228 = .ok (.lload 11, 2) := by decide +kernel
theorem dX7_problem_230 : decode cX7_problem 230 = .ok (.lsub, 1) := by decide +kernel
theorem dX7_problem_231 : decode cX7_problem 231 = .ok (.goto 8, 3) := by decide +kernel
theorem dX7_problem_234 : decode cX7_problem 234 = .ok (.lload 11, 2) := by decide +kernel
theorem dX7_problem_236 : decode cX7_problem 236 = .ok (.iload_n 2, 1) := by decide +kernel
theorem dX7_problem_237 : decode cX7_problem 237 = .ok (.i2l, 1) := by decide +kernel
theorem dX7_problem_238 : decode cX7_problem 238 = .ok (.lsub, 1) := by decide +kernel
theorem dX7_problem_239 : decode cX7_problem 239 = .ok (.lstore 13, 2) := by decide +kernel
theorem dX7_problem_241 : decode cX7_problem 241 = .ok (.lload 9, 2) := by decide +kernel
theorem dX7_problem_243 : decode cX7_problem 243 = .ok (.lconst 0, 1) := by decide +kernel
theorem dX7_problem_244 : decode cX7_problem 244 = .ok (.lcmp, 1) := by decide +kernel
theorem dX7_problem_245 : decode cX7_problem 245 = .ok (.ifCond .lt 60, 3) := by decide +kernel
theorem dX7_problem_248 : decode cX7_problem 248 = .ok (.lload 11, 2) := by decide +kernel
theorem dX7_problem_250 : decode cX7_problem 250 = .ok (.lload 11, 2) := by decide +kernel
theorem dX7_problem_252 : decode cX7_problem 252 = .ok (.lmul, 1) := by decide +kernel
theorem dX7_problem_253 : decode cX7_problem 253 = .ok (.lload 9, 2) := by decide +kernel
theorem dX7_problem_255 : decode cX7_problem 255 = .ok (.lcmp, 1) := by decide +kernel
theorem dX7_problem_256 : decode cX7_problem 256 = .ok (.ifCond .ne 49, 3) := by decide +kernel
theorem dX7_problem_259 : decode cX7_problem 259 = .ok (.lload 13, 2) := by decide +kernel
theorem dX7_problem_261 : decode cX7_problem 261 = .ok (.lconst 0, 1) := by decide +kernel
theorem dX7_problem_262 : decode cX7_problem 262 = .ok (.lcmp, 1) := by decide +kernel
theorem dX7_problem_263 : decode cX7_problem 263 = .ok (.ifCond .le 42, 3) := by decide +kernel
theorem dX7_problem_266 : decode cX7_problem 266 = .ok (.lload 13, 2) := by decide +kernel
theorem dX7_problem_268 : decode cX7_problem 268 = .ok (.ldc2_w 99, 3) := by decide +kernel
theorem dX7_problem_271 : decode cX7_problem 271 = .ok (.lrem, 1) := by decide +kernel
theorem dX7_problem_272 : decode cX7_problem 272 = .ok (.lconst 0, 1) := by decide +kernel
theorem dX7_problem_273 : decode cX7_problem 273 = .ok (.lcmp, 1) := by decide +kernel
theorem dX7_problem_274 : decode cX7_problem 274 = .ok (.ifCond .ne 31, 3) := by decide +kernel
theorem dX7_problem_277 : decode cX7_problem 277 = .ok (.lload 13, 2) := by decide +kernel
theorem dX7_problem_279 : decode cX7_problem 279 = .ok (.ldc2_w 99, 3) := by decide +kernel
theorem dX7_problem_282 : decode cX7_problem 282 = .ok (.ldiv, 1) := by decide +kernel
theorem dX7_problem_283 : decode cX7_problem 283 = .ok (.lstore 7, 2) := by decide +kernel
theorem dX7_problem_285 : decode cX7_problem 285 = .ok (.iload_n 1, 1) := by decide +kernel
theorem dX7_problem_286 : decode cX7_problem 286 = .ok (.iconst 3, 1) := by decide +kernel
theorem dX7_problem_287 : decode cX7_problem 287 = .ok (.if_icmp .ne 11, 3) := by decide +kernel
theorem dX7_problem_290 : decode cX7_problem 290 = .ok (.iload_n 2, 1) := by decide +kernel
theorem dX7_problem_291 : decode cX7_problem 291 = .ok (.i2l, 1) := by decide +kernel
theorem dX7_problem_292 : decode cX7_problem 292 = .ok (.lload 7, 2) := by decide +kernel
theorem dX7_problem_294 : decode cX7_problem 294 = .ok (.lsub, 1) := by decide +kernel
theorem dX7_problem_295 : decode cX7_problem 295 = .ok (.goto 8, 3) := by decide +kernel
theorem dX7_problem_298 : decode cX7_problem 298 = .ok (.iload_n 2, 1) := by decide +kernel
theorem dX7_problem_299 : decode cX7_problem 299 = .ok (.i2l, 1) := by decide +kernel
theorem dX7_problem_300 : decode cX7_problem 300 = .ok (.lload 7, 2) := by decide +kernel
theorem dX7_problem_302 : decode cX7_problem 302 = .ok (.ladd, 1) := by decide +kernel
theorem dX7_problem_303 : decode cX7_problem 303 = .ok (.lstore 5, 2) := by decide +kernel
theorem dX7_problem_305 : decode cX7_problem 305 = .ok (.lload 5, 2) := by decide +kernel
theorem dX7_problem_307 : decode cX7_problem 307 = .ok (.lconst 0, 1) := by decide +kernel
theorem dX7_problem_308 : decode cX7_problem 308 = .ok (.lcmp, 1) := by decide +kernel
theorem dX7_problem_309 : decode cX7_problem 309 = .ok (.ifCond .gt 9, 3) := by decide +kernel
theorem dX7_problem_312 : decode cX7_problem 312 = .ok (.ldc2_w 94, 3) := by decide +kernel
theorem dX7_problem_315 : decode cX7_problem 315 = .ok (.goto 15, 3) := by decide +kernel
theorem dX7_problem_318 : decode cX7_problem 318 = .ok (.iload 4, 2) := by decide +kernel
theorem dX7_problem_320 : decode cX7_problem 320 = .ok (.ifCond .ne 8, 3) := by decide +kernel
theorem dX7_problem_323 : decode cX7_problem 323 = .ok (.lload 5, 2) := by decide +kernel
theorem dX7_problem_325 : decode cX7_problem 325 = .ok (.goto 5, 3) := by decide +kernel
theorem dX7_problem_328 : decode cX7_problem 328 = .ok (.lload 7, 2) := by decide +kernel
theorem dX7_problem_330 : decode cX7_problem 330 = .ok (.lreturn, 1) := by decide +kernel
set_option maxRecDepth 20000 in
theorem ggX7_unit_X7_in : GoodIn wsX7_unit wsX7_in := goodIn_r _ [8] (by decide +kernel) (by decide +kernel)
set_option maxRecDepth 20000 in
theorem gX7_unit_X7_in : GoodIn wsX7_unit (va_wsS RX7 39 yX7_in wsX7_in) := goodIn_app (goodIn_of _ (by decide +kernel)) ggX7_unit_X7_in
theorem dX7_unit_0 : decode cX7_unit 0 = .ok (.iload_n 1, 1) := by decide +kernel
theorem dX7_unit_1 : decode cX7_unit 1 = .ok (.i2l, 1) := by decide +kernel
theorem dX7_unit_2 : decode cX7_unit 2 = .ok (.ldc2_w 99, 3) := by decide +kernel
theorem dX7_unit_5 : decode cX7_unit 5 = .ok (.ldc2_w 213, 3) := by decide +kernel
theorem dX7_unit_8 : decode cX7_unit 8 = .ok (.invokestatic 39, 3) := by decide +kernel
theorem dX7_unit_11 : decode cX7_unit 11 = .ok (.ifCond .ne 6, 3) := by decide +kernel
theorem dX7_unit_14 : decode cX7_unit 14 = .ok (.bipush (-2), 2) := by decide +kernel
theorem dX7_unit_16 : decode cX7_unit 16 = .ok (.ireturn, 1) := by decide +kernel
theorem dX7_unit_17 : decode cX7_unit 17 = .ok (.aload_n 0, 1) := by decide +kernel
theorem dX7_unit_18 : decode cX7_unit 18 = .ok (.getfield 215, 3) := by decide +kernel
theorem dX7_unit_21 : decode cX7_unit 21 = .ok (.iconst 5, 1) := by decide +kernel
theorem dX7_unit_22 : decode cX7_unit 22 = .ok (.if_icmp .ne 6, 3) := by decide +kernel
theorem dX7_unit_25 : decode cX7_unit 25 = .ok (.bipush (-4), 2) := by decide +kernel
theorem dX7_unit_27 : decode cX7_unit 27 = .ok (.ireturn, 1) := by decide +kernel
theorem dX7_unit_28 : decode cX7_unit 28 = .ok (.aload_n 0, 1) := by decide +kernel
theorem dX7_unit_29 : decode cX7_unit 29 = .ok (.getfield 22, 3) := by decide +kernel
theorem dX7_unit_32 : decode cX7_unit 32 = .ok (.aload_n 0, 1) := by decide +kernel
theorem dX7_unit_33 : decode cX7_unit 33 = .ok (.getfield 215, 3) := by decide +kernel
theorem dX7_unit_36 : decode cX7_unit 36 = .ok (.iload_n 1, 1) := by decide +kernel
theorem dX7_unit_37 : decode cX7_unit 37 = .ok (.iastore, 1) := by decide +kernel
theorem dX7_unit_38 : decode cX7_unit 38 = .ok (.aload_n 0, 1) := by decide +kernel
theorem dX7_unit_39 : decode cX7_unit 39 = .ok (.dup, 1) := by decide +kernel
theorem dX7_unit_40 : decode cX7_unit 40 = .ok (.getfield 215, 3) := by decide +kernel
theorem dX7_unit_43 : decode cX7_unit 43 = .ok (.iconst 1, 1) := by decide +kernel
theorem dX7_unit_44 : decode cX7_unit 44 = .ok (.iadd, 1) := by decide +kernel
theorem dX7_unit_45 : decode cX7_unit 45 = .ok (.putfield 215, 3) := by decide +kernel
theorem dX7_unit_48 : decode cX7_unit 48 = .ok (.aload_n 0, 1) := by decide +kernel
theorem dX7_unit_49 : decode cX7_unit 49 = .ok (.getfield 215, 3) := by decide +kernel
theorem dX7_unit_52 : decode cX7_unit 52 = .ok (.ireturn, 1) := by decide +kernel
theorem dX7_wipe_0 : decode cX7_wipe 0 = .ok (.aload_n 0, 1) := by decide +kernel
theorem dX7_wipe_1 : decode cX7_wipe 1 = .ok (.getfield 215, 3) := by decide +kernel
theorem dX7_wipe_4 : decode cX7_wipe 4 = .ok (.istore_n 1, 1) := by decide +kernel
theorem dX7_wipe_5 : decode cX7_wipe 5 = .ok (.aload_n 0, 1) := by decide +kernel
theorem dX7_wipe_6 : decode cX7_wipe 6 = .ok (.iconst 0, 1) := by decide +kernel
theorem dX7_wipe_7 : decode cX7_wipe 7 = .ok (.putfield 215, 3) := by decide +kernel
theorem dX7_wipe_10 : decode cX7_wipe 10 = .ok (.iload_n 1, 1) := by decide +kernel
theorem dX7_wipe_11 : decode cX7_wipe 11 = .ok (.ireturn, 1) := by decide +kernel
set_option maxRecDepth 20000 in
theorem ggX7_units_X7_in : GoodIn wsX7_units wsX7_in := goodIn_r _ [9] (by decide +kernel) (by decide +kernel)
set_option maxRecDepth 20000 in
theorem gX7_units_X7_in : GoodIn wsX7_units (va_wsS RX7 39 yX7_in wsX7_in) := goodIn_app (goodIn_of _ (by decide +kernel)) ggX7_units_X7_in
theorem dX7_units_0 : decode cX7_units 0 = .ok (.iload_n 3, 1) := by decide +kernel
theorem dX7_units_1 : decode cX7_units 1 = .ok (.i2l, 1) := by decide +kernel
theorem dX7_units_2 : decode cX7_units 2 = .ok (.lconst 0, 1) := by decide +kernel
theorem dX7_units_3 : decode cX7_units 3 = .ok (.aload_n 0, 1) := by decide +kernel
theorem dX7_units_4 : decode cX7_units 4 = .ok (.getfield 215, 3) := by decide +kernel
theorem dX7_units_7 : decode cX7_units 7 = .ok (.i2l, 1) := by decide +kernel
theorem dX7_units_8 : decode cX7_units 8 = .ok (.invokestatic 39, 3) := by decide +kernel
theorem dX7_units_11 : decode cX7_units 11 = .ok (.ifCond .ne 7, 3) := by decide +kernel
theorem dX7_units_14 : decode cX7_units 14 = .ok (.ldc2_w 140, 3) := by decide +kernel
theorem dX7_units_17 : decode cX7_units 17 = .ok (.lreturn, 1) := by decide +kernel
theorem dX7_units_18 : decode cX7_units 18 = .ok (.lload_n 1, 1) := by decide +kernel
theorem dX7_units_19 : decode cX7_units 19 = .ok (.lconst 0, 1) := by decide +kernel
theorem dX7_units_20 : decode cX7_units 20 = .ok (.ldc2_w 37, 3) := by decide +kernel
theorem dX7_units_23 : decode cX7_units 23 = .ok (.invokestatic 39, 3) := by decide +kernel
theorem dX7_units_26 : decode cX7_units 26 = .ok (.ifCond .ne 7, 3) := by decide +kernel
theorem dX7_units_29 : decode cX7_units 29 = .ok (.ldc2_w 57, 3) := by decide +kernel
theorem dX7_units_32 : decode cX7_units 32 = .ok (.lreturn, 1) := by decide +kernel
theorem dX7_units_33 : decode cX7_units 33 = .ok (.lload_n 1, 1) := by decide +kernel
theorem dX7_units_34 : decode cX7_units 34 = .ok (.lstore 4, 2) := by decide +kernel
theorem dX7_units_36 : decode cX7_units 36 = .ok (.iconst 0, 1) := by decide +kernel
theorem dX7_units_37 : decode cX7_units 37 = .ok (.istore 6, 2) := by decide +kernel
theorem dX7_units_39 : decode cX7_units 39 = .ok (.iload 6, 2) := by decide +kernel
theorem dX7_units_41 : decode cX7_units 41 = .ok (.iload_n 3, 1) := by decide +kernel
theorem dX7_units_42 : decode cX7_units 42 = .ok (.if_icmp .ge 22, 3) := by decide +kernel
theorem dX7_units_45 : decode cX7_units 45 = .ok (.lload 4, 2) := by decide +kernel
theorem dX7_units_47 : decode cX7_units 47 = .ok (.aload_n 0, 1) := by decide +kernel
theorem dX7_units_48 : decode cX7_units 48 = .ok (.getfield 22, 3) := by decide +kernel
theorem dX7_units_51 : decode cX7_units 51 = .ok (.iload 6, 2) := by decide +kernel
theorem dX7_units_53 : decode cX7_units 53 = .ok (.iaload, 1) := by decide +kernel
theorem dX7_units_54 : decode cX7_units 54 = .ok (.i2l, 1) := by decide +kernel
theorem dX7_units_55 : decode cX7_units 55 = .ok (.ldiv, 1) := by decide +kernel
theorem dX7_units_56 : decode cX7_units 56 = .ok (.lstore 4, 2) := by decide +kernel
theorem dX7_units_58 : decode cX7_units 58 = .ok (.iinc 6 1, 3) := by decide +kernel
theorem dX7_units_61 : decode cX7_units 61 = .ok (.goto (-22), 3) := by decide +kernel
theorem dX7_units_64 : decode cX7_units 64 = .ok (.iload_n 3, 1) := by decide +kernel
theorem dX7_units_65 : decode cX7_units 65 = .ok (.aload_n 0, 1) := by decide +kernel
theorem dX7_units_66 : decode cX7_units 66 = .ok (.getfield 215, 3) := by decide +kernel
theorem dX7_units_69 : decode cX7_units 69 = .ok (.if_icmp .ne 8, 3) := by decide +kernel
theorem dX7_units_72 : decode cX7_units 72 = .ok (.lload 4, 2) := by decide +kernel
theorem dX7_units_74 : decode cX7_units 74 = .ok (.goto 13, 3) := by decide +kernel
theorem dX7_units_77 : decode cX7_units 77 = .ok (.lload 4, 2) := by decide +kernel
theorem dX7_units_79 : decode cX7_units 79 = .ok (.aload_n 0, 1) := by decide +kernel
theorem dX7_units_80 : decode cX7_units 80 = .ok (.getfield 22, 3) := by decide +kernel
theorem dX7_units_83 : decode cX7_units 83 = .ok (.iload_n 3, 1) := by decide +kernel
theorem dX7_units_84 : decode cX7_units 84 = .ok (.iaload, 1) := by decide +kernel
theorem dX7_units_85 : decode cX7_units 85 = .ok (.i2l, 1) := by decide +kernel
theorem dX7_units_86 : decode cX7_units 86 = .ok (.lrem, 1) := by decide +kernel
theorem dX7_units_87 : decode cX7_units 87 = .ok (.lreturn, 1) := by decide +kernel
set_option maxRecDepth 20000 in
theorem ggX7_told_X7_in : GoodIn wsX7_told wsX7_in := goodIn_r _ [12] (by decide +kernel) (by decide +kernel)
set_option maxRecDepth 20000 in
theorem gX7_told_X7_in : GoodIn wsX7_told (va_wsS RX7 39 yX7_in wsX7_in) := goodIn_app (goodIn_of _ (by decide +kernel)) ggX7_told_X7_in
theorem dX7_told_0 : decode cX7_told 0 = .ok (.iload_n 1, 1) := by decide +kernel
theorem dX7_told_1 : decode cX7_told 1 = .ok (.i2l, 1) := by decide +kernel
theorem dX7_told_2 : decode cX7_told 2 = .ok (.ldc2_w 99, 3) := by decide +kernel
theorem dX7_told_5 : decode cX7_told 5 = .ok (.ldc2_w 206, 3) := by decide +kernel
theorem dX7_told_8 : decode cX7_told 8 = .ok (.invokestatic 39, 3) := by decide +kernel
theorem dX7_told_11 : decode cX7_told 11 = .ok (.ifCond .eq 12, 3) := by decide +kernel
theorem dX7_told_14 : decode cX7_told 14 = .ok (.aload_n 0, 1) := by decide +kernel
theorem dX7_told_15 : decode cX7_told 15 = .ok (.getfield 25, 3) := by decide +kernel
theorem dX7_told_18 : decode cX7_told 18 = .ok (.iload_n 1, 1) := by decide +kernel
theorem dX7_told_19 : decode cX7_told 19 = .ok (.iconst 2, 1) := by decide +kernel
theorem dX7_told_20 : decode cX7_told 20 = .ok (.isub, 1) := by decide +kernel
theorem dX7_told_21 : decode cX7_told 21 = .ok (.iaload, 1) := by decide +kernel
theorem dX7_told_22 : decode cX7_told 22 = .ok (.ireturn, 1) := by decide +kernel
theorem dX7_told_23 : decode cX7_told 23 = .ok (.iload_n 1, 1) := by decide +kernel
theorem dX7_told_24 : decode cX7_told 24 = .ok (.i2l, 1) := by decide +kernel
theorem dX7_told_25 : decode cX7_told 25 = .ok (.ldc2_w 218, 3) := by decide +kernel
theorem dX7_told_28 : decode cX7_told 28 = .ok (.ldc2_w 220, 3) := by decide +kernel
theorem dX7_told_31 : decode cX7_told 31 = .ok (.invokestatic 39, 3) := by decide +kernel
theorem dX7_told_34 : decode cX7_told 34 = .ok (.ifCond .eq 55, 3) := by decide +kernel
theorem dX7_told_37 : decode cX7_told 37 = .ok (.iconst 0, 1) := by decide +kernel
theorem dX7_told_38 : decode cX7_told 38 = .ok (.istore_n 2, 1) := by decide +kernel
theorem dX7_told_39 : decode cX7_told 39 = .ok (.iconst 0, 1) := by decide +kernel
theorem dX7_told_40 : decode cX7_told 40 = .ok (.istore_n 3, 1) := by decide +kernel
theorem dX7_told_41 : decode cX7_told 41 = .ok (.iload_n 3, 1) := by decide +kernel
theorem dX7_told_42 : decode cX7_told 42 = .ok (.iconst 3, 1) := by decide +kernel
theorem dX7_told_43 : decode cX7_told 43 = .ok (.aload_n 0, 1) := by decide +kernel
theorem dX7_told_44 : decode cX7_told 44 = .ok (.getfield 25, 3) := by decide +kernel
theorem dX7_told_47 : decode cX7_told 47 = .ok (.iload_n 1, 1) := by decide +kernel
theorem dX7_told_48 : decode cX7_told 48 = .ok (.bipush 6, 2) := by decide +kernel
theorem dX7_told_50 : decode cX7_told 50 = .ok (.isub, 1) := by decide +kernel
theorem dX7_told_51 : decode cX7_told 51 = .ok (.iaload, 1) := by decide +kernel
theorem dX7_told_52 : decode cX7_told 52 = .ok (.imul, 1) := by decide +kernel
theorem dX7_told_53 : decode cX7_told 53 = .ok (.if_icmp .ge 34, 3) := by decide +kernel
theorem dX7_told_56 : decode cX7_told 56 = .ok (.iload_n 2, 1) := by decide +kernel
theorem dX7_told_57 : decode cX7_told 57 = .ok (.aload_n 0, 1) := by decide +kernel
theorem dX7_told_58 : decode cX7_told 58 = .ok (.getfield 28, 3) := by decide +kernel
theorem dX7_told_61 : decode cX7_told 61 = .ok (.bipush 24, 2) := by decide +kernel
theorem dX7_told_63 : decode cX7_told 63 = .ok (.iload_n 1, 1) := by decide +kernel
theorem dX7_told_64 : decode cX7_told 64 = .ok (.bipush 6, 2) := by decide +kernel
theorem dX7_told_66 : decode cX7_told 66 = .ok (.isub, 1) := by decide +kernel
theorem dX7_told_67 : decode cX7_told 67 = .ok (.imul, 1) := by decide +kernel
theorem dX7_told_68 : decode cX7_told 68 = .ok (.iload_n 3, 1) := by decide +kernel
theorem dX7_told_69 : decode cX7_told 69 = .ok (.iadd, 1) := by decide +kernel
theorem dX7_told_70 : decode cX7_told 70 = .ok (.iaload, 1) := by decide +kernel
theorem dX7_told_71 : decode cX7_told 71 = .ok (.ifCond .ne 7, 3) := by decide +kernel
theorem dX7_told_74 : decode cX7_told 74 = .ok (.iconst 1, 1) := by decide +kernel
theorem dX7_told_75 : decode cX7_told 75 = .ok (.goto 4, 3) := by decide +kernel
theorem dX7_told_78 : decode cX7_told 78 = .ok (.iconst 0, 1) := by decide +kernel
theorem dX7_told_79 : decode cX7_told 79 = .ok (.iadd, 1) := by decide +kernel
theorem dX7_told_80 : decode cX7_told 80 = .ok (.istore_n 2, 1) := by decide +kernel
theorem dX7_told_81 : decode cX7_told 81 = .ok (.iinc 3 1, 3) := by decide +kernel
theorem dX7_told_84 : decode cX7_told 84 = .ok (.goto (-43), 3) := by decide +kernel
theorem dX7_told_87 : decode cX7_told 87 = .ok (.iload_n 2, 1) := by decide +kernel
theorem dX7_told_88 : decode cX7_told 88 = .ok (.ireturn, 1) := by decide +kernel
theorem dX7_told_89 : decode cX7_told 89 = .ok (.iload_n 1, 1) := by decide +kernel
theorem dX7_told_90 : decode cX7_told 90 = .ok (.ifCond .ne 10, 3) := by decide +kernel
theorem dX7_told_93 : decode cX7_told 93 = .ok (.aload_n 0, 1) := by decide +kernel
theorem dX7_told_94 : decode cX7_told 94 = .ok (.getfield 126, 3) := by decide +kernel
theorem dX7_told_97 : decode cX7_told 97 = .ok (.goto 17, 3) := by decide +kernel
theorem dX7_told_100 : decode cX7_told 100 = .ok (.iload_n 1, 1) := by decide +kernel
theorem dX7_told_101 : decode cX7_told 101 = .ok (.iconst 1, 1) := by decide +kernel
theorem dX7_told_102 : decode cX7_told 102 = .ok (.if_icmp .ne 10, 3) := by decide +kernel
theorem dX7_told_105 : decode cX7_told 105 = .ok (.aload_n 0, 1) := by decide +kernel
theorem dX7_told_106 : decode cX7_told 106 = .ok (.getfield 215, 3) := by decide +kernel
theorem dX7_told_109 : decode cX7_told 109 = .ok (.goto 5, 3) := by decide +kernel
theorem dX7_told_112 : decode cX7_told 112 = .ok (.bipush (-2), 2) := by decide +kernel
theorem dX7_told_114 : decode cX7_told 114 = .ok (.ireturn, 1) := by decide +kernel
