theorem dX0_init_0 : decode cX0_init 0 = .ok (.aload_n 0, 1) := by decide +kernel
theorem dX0_init_1 : decode cX0_init 1 = .ok (.invokespecial 3, 3) := by decide +kernel
theorem dX0_init_4 : decode cX0_init 4 = .ok (.aload_n 0, 1) := by decide +kernel
theorem dX0_init_5 : decode cX0_init 5 = .ok (.aload_n 1, 1) := by decide +kernel
theorem dX0_init_6 : decode cX0_init 6 = .ok (.putfield 9, 3) := by decide +kernel
theorem dX0_init_9 : decode cX0_init 9 = .ok (.aload_n 0, 1) := by decide +kernel
theorem dX0_init_10 : decode cX0_init 10 = .ok (.iload_n 2, 1) := by decide +kernel
theorem dX0_init_11 : decode cX0_init 11 = .ok (.putfield 15, 3) := by decide +kernel
theorem dX0_init_14 : decode cX0_init 14 = .ok (.aload_n 0, 1) := by decide +kernel
theorem dX0_init_15 : decode cX0_init 15 = .ok (.iload_n 3, 1) := by decide +kernel
theorem dX0_init_16 : decode cX0_init 16 = .ok (.putfield 19, 3) := by decide +kernel
theorem dX0_init_19 : decode cX0_init 19 = .ok (.aload_n 0, 1) := by decide +kernel
theorem dX0_init_20 : decode cX0_init 20 = .ok (.iload 4, 2) := by decide +kernel
theorem dX0_init_22 : decode cX0_init 22 = .ok (.putfield 22, 3) := by decide +kernel
theorem dX0_init_25 : decode cX0_init 25 = .ok (.return_, 1) := by decide +kernel
set_option maxRecDepth 20000 in
theorem ggX0_isProvedBy_X0_hasFitNumbers : GoodIn wsX0_isProvedBy wsX0_hasFitNumbers := goodIn_r _ [6, 7, 8, 9, 10, 11, 12, 13, 14, 15, 16, 40, 41, 42, 43] (by decide +kernel) (by decide +kernel)
set_option maxRecDepth 20000 in
theorem gX0_isProvedBy_X0_hasFitNumbers : GoodIn wsX0_isProvedBy (wsV RX0 33 RX0 yX0_hasFitNumbers wsX0_hasFitNumbers) := goodIn_app (goodIn_of _ (by decide +kernel)) ggX0_isProvedBy_X0_hasFitNumbers
set_option maxRecDepth 20000 in
theorem ggX0_isProvedBy_X0_stem : GoodIn wsX0_isProvedBy wsX0_stem := goodIn_r _ [20, 1, 21, 22, 23, 24, 9, 25, 26, 44, 45, 46, 47, 48, 49] (by decide +kernel) (by decide +kernel)
set_option maxRecDepth 20000 in
theorem gX0_isProvedBy_X0_stem : GoodIn wsX0_isProvedBy (wsV RX0 41 RX0 yX0_stem wsX0_stem) := goodIn_app (goodIn_of _ (by decide +kernel)) ggX0_isProvedBy_X0_stem
set_option maxRecDepth 20000 in
theorem ggX0_isProvedBy_X0_step : GoodIn wsX0_isProvedBy wsX0_step := goodIn_r _ [30, 31, 32, 15, 9, 16, 33, 34, 35, 5, 36, 23, 24, 25, 26, 37, 38, 39, 44, 45, 46, 47] (by decide +kernel) (by decide +kernel)
set_option maxRecDepth 20000 in
theorem gX0_isProvedBy_X0_step : GoodIn wsX0_isProvedBy (wsV RX0 48 RX0 yX0_step wsX0_step) := goodIn_app (goodIn_of _ (by decide +kernel)) ggX0_isProvedBy_X0_step
theorem dX0_isProvedBy_0 : decode cX0_isProvedBy 0 = .ok (.aload_n 1, 1) := by decide +kernel
theorem dX0_isProvedBy_1 : decode cX0_isProvedBy 1 = .ok (.getfield 25, 3) := by decide +kernel
theorem dX0_isProvedBy_4 : decode cX0_isProvedBy 4 = .ok (.iconst 2, 1) := by decide +kernel
theorem dX0_isProvedBy_5 : decode cX0_isProvedBy 5 = .ok (.aload_n 0, 1) := by decide +kernel
theorem dX0_isProvedBy_6 : decode cX0_isProvedBy 6 = .ok (.getfield 9, 3) := by decide +kernel
theorem dX0_isProvedBy_9 : decode cX0_isProvedBy 9 = .ok (.getfield 30, 3) := by decide +kernel
theorem dX0_isProvedBy_12 : decode cX0_isProvedBy 12 = .ok (.iadd, 1) := by decide +kernel
theorem dX0_isProvedBy_13 : decode cX0_isProvedBy 13 = .ok (.if_icmp .ne 11, 3) := by decide +kernel
theorem dX0_isProvedBy_16 : decode cX0_isProvedBy 16 = .ok (.aload_n 0, 1) := by decide +kernel
theorem dX0_isProvedBy_17 : decode cX0_isProvedBy 17 = .ok (.aload_n 1, 1) := by decide +kernel
theorem dX0_isProvedBy_18 : decode cX0_isProvedBy 18 = .ok (.invokevirtual 33, 3) := by decide +kernel
theorem dX0_isProvedBy_21 : decode cX0_isProvedBy 21 = .ok (.ifCond .ne 5, 3) := by decide +kernel
theorem dX0_isProvedBy_24 : decode cX0_isProvedBy 24 = .ok (.iconst 0, 1) := by decide +kernel
theorem dX0_isProvedBy_25 : decode cX0_isProvedBy 25 = .ok (.ireturn, 1) := by decide +kernel
theorem dX0_isProvedBy_26 : decode cX0_isProvedBy 26 = .ok (.aload_n 1, 1) := by decide +kernel
theorem dX0_isProvedBy_27 : decode cX0_isProvedBy 27 = .ok (.getfield 37, 3) := by decide +kernel
theorem dX0_isProvedBy_30 : decode cX0_isProvedBy 30 = .ok (.iconst 1, 1) := by decide +kernel
theorem dX0_isProvedBy_31 : decode cX0_isProvedBy 31 = .ok (.iaload, 1) := by decide +kernel
theorem dX0_isProvedBy_32 : decode cX0_isProvedBy 32 = .ok (.istore_n 2, 1) := by decide +kernel
theorem dX0_isProvedBy_33 : decode cX0_isProvedBy 33 = .ok (.aload_n 0, 1) := by decide +kernel
theorem dX0_isProvedBy_34 : decode cX0_isProvedBy 34 = .ok (.iload_n 2, 1) := by decide +kernel
theorem dX0_isProvedBy_35 : decode cX0_isProvedBy 35 = .ok (.invokevirtual 41, 3) := by decide +kernel
theorem dX0_isProvedBy_38 : decode cX0_isProvedBy 38 = .ok (.istore_n 3, 1) := by decide +kernel
theorem dX0_isProvedBy_39 : decode cX0_isProvedBy 39 = .ok (.aload_n 1, 1) := by decide +kernel
theorem dX0_isProvedBy_40 : decode cX0_isProvedBy 40 = .ok (.getfield 37, 3) := by decide +kernel
theorem dX0_isProvedBy_43 : decode cX0_isProvedBy 43 = .ok (.iconst 0, 1) := by decide +kernel
theorem dX0_isProvedBy_44 : decode cX0_isProvedBy 44 = .ok (.iaload, 1) := by decide +kernel
theorem dX0_isProvedBy_45 : decode cX0_isProvedBy 45 = .ok (.istore 4, 2) := by decide +kernel
theorem dX0_isProvedBy_47 : decode cX0_isProvedBy 47 = .ok (.iconst 0, 1) := by decide +kernel
theorem dX0_isProvedBy_48 : decode cX0_isProvedBy 48 = .ok (.istore 5, 2) := by decide +kernel
theorem dX0_isProvedBy_50 : decode cX0_isProvedBy 50 = .ok (.iload 5, 2) := by decide +kernel
theorem dX0_isProvedBy_52 : decode cX0_isProvedBy 52 = .ok (.aload_n 0, 1) := by decide +kernel
theorem dX0_isProvedBy_53 : decode cX0_isProvedBy 53 = .ok (.getfield 9, 3) := by decide +kernel
theorem dX0_isProvedBy_56 : decode cX0_isProvedBy 56 = .ok (.getfield 30, 3) := by decide +kernel
theorem dX0_isProvedBy_59 : decode cX0_isProvedBy 59 = .ok (.if_icmp .ge 38, 3) := by decide +kernel
theorem dX0_isProvedBy_62 : decode cX0_isProvedBy 62 = .ok (.aload_n 0, 1) := by decide +kernel
theorem dX0_isProvedBy_63 : decode cX0_isProvedBy 63 = .ok (.iload_n 3, 1) := by decide +kernel
theorem dX0_isProvedBy_64 : decode cX0_isProvedBy 64 = .ok (.iload_n 2, 1) := by decide +kernel
theorem dX0_isProvedBy_65 : decode cX0_isProvedBy 65 = .ok (.iload 4, 2) := by decide +kernel
theorem dX0_isProvedBy_67 : decode cX0_isProvedBy 67 = .ok (.aload_n 0, 1) := by decide +kernel
theorem dX0_isProvedBy_68 : decode cX0_isProvedBy 68 = .ok (.getfield 9, 3) := by decide +kernel
theorem dX0_isProvedBy_71 : decode cX0_isProvedBy 71 = .ok (.getfield 45, 3) := by decide +kernel
theorem dX0_isProvedBy_74 : decode cX0_isProvedBy 74 = .ok (.iload 5, 2) := by decide +kernel
theorem dX0_isProvedBy_76 : decode cX0_isProvedBy 76 = .ok (.iaload, 1) := by decide +kernel
theorem dX0_isProvedBy_77 : decode cX0_isProvedBy 77 = .ok (.aload_n 1, 1) := by decide +kernel
theorem dX0_isProvedBy_78 : decode cX0_isProvedBy 78 = .ok (.getfield 37, 3) := by decide +kernel
theorem dX0_isProvedBy_81 : decode cX0_isProvedBy 81 = .ok (.iconst 2, 1) := by decide +kernel
theorem dX0_isProvedBy_82 : decode cX0_isProvedBy 82 = .ok (.iload 5, 2) := by decide +kernel
theorem dX0_isProvedBy_84 : decode cX0_isProvedBy 84 = .ok (.iadd, 1) := by decide +kernel
theorem dX0_isProvedBy_85 : decode cX0_isProvedBy 85 = .ok (.iaload, 1) := by decide +kernel
theorem dX0_isProvedBy_86 : decode cX0_isProvedBy 86 = .ok (.invokevirtual 48, 3) := by decide +kernel
theorem dX0_isProvedBy_89 : decode cX0_isProvedBy 89 = .ok (.istore 4, 2) := by decide +kernel
theorem dX0_isProvedBy_91 : decode cX0_isProvedBy 91 = .ok (.iinc 5 1, 3) := by decide +kernel
theorem dX0_isProvedBy_94 : decode cX0_isProvedBy 94 = .ok (.goto (-44), 3) := by decide +kernel
theorem dX0_isProvedBy_97 : decode cX0_isProvedBy 97 = .ok (.iload 4, 2) := by decide +kernel
theorem dX0_isProvedBy_99 : decode cX0_isProvedBy 99 = .ok (.aload_n 1, 1) := by decide +kernel
theorem dX0_isProvedBy_100 : decode cX0_isProvedBy 100 = .ok (.getfield 37, 3) := by decide +kernel
theorem dX0_isProvedBy_103 : decode cX0_isProvedBy 103 = .ok (.iconst 0, 1) := by decide +kernel
theorem dX0_isProvedBy_104 : decode cX0_isProvedBy 104 = .ok (.iaload, 1) := by decide +kernel
theorem dX0_isProvedBy_105 : decode cX0_isProvedBy 105 = .ok (.if_icmp .ne 7, 3) := by decide +kernel
theorem dX0_isProvedBy_108 : decode cX0_isProvedBy 108 = .ok (.iconst 1, 1) := by decide +kernel
theorem dX0_isProvedBy_109 : decode cX0_isProvedBy 109 = .ok (.goto 4, 3) := by decide +kernel
theorem dX0_isProvedBy_112 : decode cX0_isProvedBy 112 = .ok (.iconst 0, 1) := by decide +kernel
theorem dX0_isProvedBy_113 : decode cX0_isProvedBy 113 = .ok (.ireturn, 1) := by decide +kernel
set_option maxRecDepth 20000 in
theorem ggX0_prove_X2_power : GoodIn wsX0_prove wsX2_power := goodIn_r _ [6] (by decide +kernel) (by decide +kernel)
set_option maxRecDepth 20000 in
theorem gX0_prove_X2_power : GoodIn wsX0_prove (va_wsS RX0 52 yX2_power wsX2_power) := goodIn_app (goodIn_of _ (by decide +kernel)) ggX0_prove_X2_power
set_option maxRecDepth 20000 in
theorem ggX0_prove_X0_stem : GoodIn wsX0_prove wsX0_stem := goodIn_r _ [11, 2, 12, 13, 14, 15, 5, 16, 17, 47, 48, 49, 50, 51, 52] (by decide +kernel) (by decide +kernel)
set_option maxRecDepth 20000 in
theorem gX0_prove_X0_stem : GoodIn wsX0_prove (wsV RX0 41 RX0 yX0_stem wsX0_stem) := goodIn_app (goodIn_of _ (by decide +kernel)) ggX0_prove_X0_stem
set_option maxRecDepth 20000 in
theorem ggX0_prove_X0_nonce : GoodIn wsX0_prove wsX0_nonce := goodIn_r _ [21, 12, 13, 14, 15, 5, 16, 17, 22, 23, 24, 47, 48, 49, 50] (by decide +kernel) (by decide +kernel)
set_option maxRecDepth 20000 in
theorem gX0_prove_X0_nonce : GoodIn wsX0_prove (wsV RX0 58 RX0 yX0_nonce wsX0_nonce) := goodIn_app (goodIn_of _ (by decide +kernel)) ggX0_prove_X0_nonce
set_option maxRecDepth 20000 in
theorem ggX0_prove_X3_resize : GoodIn wsX0_prove wsX3_resize := goodIn_r _ [29, 30, 53, 54, 55, 56] (by decide +kernel) (by decide +kernel)
set_option maxRecDepth 20000 in
theorem gX0_prove_X3_resize : GoodIn wsX0_prove (wsV RX0 61 RX3 yX3_resize wsX3_resize) := goodIn_app (goodIn_of _ (by decide +kernel)) ggX0_prove_X3_resize
set_option maxRecDepth 20000 in
theorem ggX0_prove_X0_challengeBehind : GoodIn wsX0_prove wsX0_challengeBehind := goodIn_r _ [34, 14, 15, 5, 16, 17, 22, 23, 24] (by decide +kernel) (by decide +kernel)
set_option maxRecDepth 20000 in
theorem gX0_prove_X0_challengeBehind : GoodIn wsX0_prove (wsV RX0 65 RX0 yX0_challengeBehind wsX0_challengeBehind) := goodIn_app (goodIn_of _ (by decide +kernel)) ggX0_prove_X0_challengeBehind
set_option maxRecDepth 20000 in
theorem ggX0_prove_X0_placeBehind : GoodIn wsX0_prove wsX0_placeBehind := goodIn_r _ [38, 2, 47, 48, 49, 50, 51, 52] (by decide +kernel) (by decide +kernel)
set_option maxRecDepth 20000 in
theorem gX0_prove_X0_placeBehind : GoodIn wsX0_prove (wsV RX0 69 RX0 yX0_placeBehind wsX0_placeBehind) := goodIn_app (goodIn_of _ (by decide +kernel)) ggX0_prove_X0_placeBehind
set_option maxRecDepth 20000 in
theorem ggX0_prove_X0_step : GoodIn wsX0_prove wsX0_step := goodIn_r _ [42, 1, 3, 4, 5, 6, 31, 32, 33, 10, 34, 14, 15, 16, 17, 22, 23, 24, 47, 48, 49, 50] (by decide +kernel) (by decide +kernel)
set_option maxRecDepth 20000 in
theorem gX0_prove_X0_step : GoodIn wsX0_prove (wsV RX0 48 RX0 yX0_step wsX0_step) := goodIn_app (goodIn_of _ (by decide +kernel)) ggX0_prove_X0_step
set_option maxRecDepth 20000 in
theorem ggX0_prove_J9_floorMod_7cf53 : GoodIn wsX0_prove wsJ9_floorMod_7cf53 := goodIn_r _ [46] (by decide +kernel) (by decide +kernel)
set_option maxRecDepth 20000 in
theorem gX0_prove_J9_floorMod_7cf53 : GoodIn wsX0_prove (va_wsS RX0 72 yJ9_floorMod_7cf53 wsJ9_floorMod_7cf53) := goodIn_app (goodIn_of _ (by decide +kernel)) ggX0_prove_J9_floorMod_7cf53
theorem dX0_prove_0 : decode cX0_prove 0 = .ok (.aload_n 0, 1) := by decide +kernel
theorem dX0_prove_1 : decode cX0_prove 1 = .ok (.getfield 19, 3) := by decide +kernel
theorem dX0_prove_4 : decode cX0_prove 4 = .ok (.iload_n 2, 1) := by decide +kernel
theorem dX0_prove_5 : decode cX0_prove 5 = .ok (.invokestatic 52, 3) := by decide +kernel
theorem dX0_prove_8 : decode cX0_prove 8 = .ok (.istore 4, 2) := by decide +kernel
theorem dX0_prove_10 : decode cX0_prove 10 = .ok (.aload_n 0, 1) := by decide +kernel
theorem dX0_prove_11 : decode cX0_prove 11 = .ok (.iload 4, 2) := by decide +kernel
theorem dX0_prove_13 : decode cX0_prove 13 = .ok (.invokevirtual 41, 3) := by decide +kernel
theorem dX0_prove_16 : decode cX0_prove 16 = .ok (.istore 5, 2) := by decide +kernel
theorem dX0_prove_18 : decode cX0_prove 18 = .ok (.aload_n 0, 1) := by decide +kernel
theorem dX0_prove_19 : decode cX0_prove 19 = .ok (.iload_n 2, 1) := by decide +kernel
theorem dX0_prove_20 : decode cX0_prove 20 = .ok (.iload_n 1, 1) := by decide +kernel
theorem dX0_prove_21 : decode cX0_prove 21 = .ok (.invokevirtual 58, 3) := by decide +kernel
theorem dX0_prove_24 : decode cX0_prove 24 = .ok (.istore 6, 2) := by decide +kernel
theorem dX0_prove_26 : decode cX0_prove 26 = .ok (.aload_n 3, 1) := by decide +kernel
theorem dX0_prove_27 : decode cX0_prove 27 = .ok (.aload_n 0, 1) := by decide +kernel
theorem dX0_prove_28 : decode cX0_prove 28 = .ok (.getfield 9, 3) := by decide +kernel
theorem dX0_prove_31 : decode cX0_prove 31 = .ok (.getfield 30, 3) := by decide +kernel
theorem dX0_prove_34 : decode cX0_prove 34 = .ok (.invokevirtual 61, 3) := by decide +kernel
theorem dX0_prove_37 : decode cX0_prove 37 = .ok (.aload_n 3, 1) := by decide +kernel
theorem dX0_prove_38 : decode cX0_prove 38 = .ok (.getfield 37, 3) := by decide +kernel
theorem dX0_prove_41 : decode cX0_prove 41 = .ok (.iconst 1, 1) := by decide +kernel
theorem dX0_prove_42 : decode cX0_prove 42 = .ok (.iload 4, 2) := by decide +kernel
theorem dX0_prove_44 : decode cX0_prove 44 = .ok (.iastore, 1) := by decide +kernel
theorem dX0_prove_45 : decode cX0_prove 45 = .ok (.aload_n 0, 1) := by decide +kernel
theorem dX0_prove_46 : decode cX0_prove 46 = .ok (.iload 5, 2) := by decide +kernel
theorem dX0_prove_48 : decode cX0_prove 48 = .ok (.iconst 4, 1) := by decide +kernel
theorem dX0_prove_49 : decode cX0_prove 49 = .ok (.iload 6, 2) := by decide +kernel
theorem dX0_prove_51 : decode cX0_prove 51 = .ok (.invokestatic 52, 3) := by decide +kernel
theorem dX0_prove_54 : decode cX0_prove 54 = .ok (.aload_n 0, 1) := by decide +kernel
theorem dX0_prove_55 : decode cX0_prove 55 = .ok (.getfield 19, 3) := by decide +kernel
theorem dX0_prove_58 : decode cX0_prove 58 = .ok (.iload 6, 2) := by decide +kernel
theorem dX0_prove_60 : decode cX0_prove 60 = .ok (.invokestatic 52, 3) := by decide +kernel
theorem dX0_prove_63 : decode cX0_prove 63 = .ok (.invokevirtual 65, 3) := by decide +kernel
theorem dX0_prove_66 : decode cX0_prove 66 = .ok (.istore 7, 2) := by decide +kernel
theorem dX0_prove_68 : decode cX0_prove 68 = .ok (.aload_n 0, 1) := by decide +kernel
theorem dX0_prove_69 : decode cX0_prove 69 = .ok (.iload_n 1, 1) := by decide +kernel
theorem dX0_prove_70 : decode cX0_prove 70 = .ok (.invokevirtual 69, 3) := by decide +kernel
theorem dX0_prove_73 : decode cX0_prove 73 = .ok (.istore 8, 2) := by decide +kernel
theorem dX0_prove_75 : decode cX0_prove 75 = .ok (.iconst 1, 1) := by decide +kernel
theorem dX0_prove_76 : decode cX0_prove 76 = .ok (.istore 9, 2) := by decide +kernel
theorem dX0_prove_78 : decode cX0_prove 78 = .ok (.iload 9, 2) := by decide +kernel
theorem dX0_prove_80 : decode cX0_prove 80 = .ok (.aload_n 0, 1) := by decide +kernel
theorem dX0_prove_81 : decode cX0_prove 81 = .ok (.getfield 9, 3) := by decide +kernel
theorem dX0_prove_84 : decode cX0_prove 84 = .ok (.getfield 30, 3) := by decide +kernel
theorem dX0_prove_87 : decode cX0_prove 87 = .ok (.if_icmp .ge 74, 3) := by decide +kernel
theorem dX0_prove_90 : decode cX0_prove 90 = .ok (.iload 8, 2) := by decide +kernel
theorem dX0_prove_92 : decode cX0_prove 92 = .ok (.ifCond .ne 11, 3) := by decide +kernel
theorem dX0_prove_95 : decode cX0_prove 95 = .ok (.aload_n 3, 1) := by decide +kernel
theorem dX0_prove_96 : decode cX0_prove 96 = .ok (.getfield 37, 3) := by decide +kernel
theorem dX0_prove_99 : decode cX0_prove 99 = .ok (.iconst 0, 1) := by decide +kernel
theorem dX0_prove_100 : decode cX0_prove 100 = .ok (.iload 7, 2) := by decide +kernel
theorem dX0_prove_102 : decode cX0_prove 102 = .ok (.iastore, 1) := by decide +kernel
theorem dX0_prove_103 : decode cX0_prove 103 = .ok (.aload_n 0, 1) := by decide +kernel
theorem dX0_prove_104 : decode cX0_prove 104 = .ok (.iload_n 2, 1) := by decide +kernel
theorem dX0_prove_105 : decode cX0_prove 105 = .ok (.iload 8, 2) := by decide +kernel
theorem dX0_prove_107 : decode cX0_prove 107 = .ok (.invokevirtual 58, 3) := by decide +kernel
theorem dX0_prove_110 : decode cX0_prove 110 = .ok (.istore 10, 2) := by decide +kernel
theorem dX0_prove_112 : decode cX0_prove 112 = .ok (.aload_n 3, 1) := by decide +kernel
theorem dX0_prove_113 : decode cX0_prove 113 = .ok (.getfield 37, 3) := by decide +kernel
theorem dX0_prove_116 : decode cX0_prove 116 = .ok (.iconst 2, 1) := by decide +kernel
theorem dX0_prove_117 : decode cX0_prove 117 = .ok (.iload 8, 2) := by decide +kernel
theorem dX0_prove_119 : decode cX0_prove 119 = .ok (.iadd, 1) := by decide +kernel
theorem dX0_prove_120 : decode cX0_prove 120 = .ok (.iload 10, 2) := by decide +kernel
theorem dX0_prove_122 : decode cX0_prove 122 = .ok (.iastore, 1) := by decide +kernel
theorem dX0_prove_123 : decode cX0_prove 123 = .ok (.aload_n 0, 1) := by decide +kernel
theorem dX0_prove_124 : decode cX0_prove 124 = .ok (.iload 5, 2) := by decide +kernel
theorem dX0_prove_126 : decode cX0_prove 126 = .ok (.iload 4, 2) := by decide +kernel
theorem dX0_prove_128 : decode cX0_prove 128 = .ok (.iload 7, 2) := by decide +kernel
theorem dX0_prove_130 : decode cX0_prove 130 = .ok (.aload_n 0, 1) := by decide +kernel
theorem dX0_prove_131 : decode cX0_prove 131 = .ok (.getfield 9, 3) := by decide +kernel
theorem dX0_prove_134 : decode cX0_prove 134 = .ok (.getfield 45, 3) := by decide +kernel
theorem dX0_prove_137 : decode cX0_prove 137 = .ok (.iload 8, 2) := by decide +kernel
theorem dX0_prove_139 : decode cX0_prove 139 = .ok (.iaload, 1) := by decide +kernel
theorem dX0_prove_140 : decode cX0_prove 140 = .ok (.iload 10, 2) := by decide +kernel
theorem dX0_prove_142 : decode cX0_prove 142 = .ok (.invokevirtual 48, 3) := by decide +kernel
theorem dX0_prove_145 : decode cX0_prove 145 = .ok (.istore 7, 2) := by decide +kernel
theorem dX0_prove_147 : decode cX0_prove 147 = .ok (.aload_n 0, 1) := by decide +kernel
theorem dX0_prove_148 : decode cX0_prove 148 = .ok (.iload 8, 2) := by decide +kernel
theorem dX0_prove_150 : decode cX0_prove 150 = .ok (.invokevirtual 69, 3) := by decide +kernel
theorem dX0_prove_153 : decode cX0_prove 153 = .ok (.istore 8, 2) := by decide +kernel
theorem dX0_prove_155 : decode cX0_prove 155 = .ok (.iinc 9 1, 3) := by decide +kernel
theorem dX0_prove_158 : decode cX0_prove 158 = .ok (.goto (-80), 3) := by decide +kernel
theorem dX0_prove_161 : decode cX0_prove 161 = .ok (.iload_n 1, 1) := by decide +kernel
theorem dX0_prove_162 : decode cX0_prove 162 = .ok (.ifCond .ne 11, 3) := by decide +kernel
theorem dX0_prove_165 : decode cX0_prove 165 = .ok (.aload_n 3, 1) := by decide +kernel
theorem dX0_prove_166 : decode cX0_prove 166 = .ok (.getfield 37, 3) := by decide +kernel
theorem dX0_prove_169 : decode cX0_prove 169 = .ok (.iconst 0, 1) := by decide +kernel
theorem dX0_prove_170 : decode cX0_prove 170 = .ok (.iload 7, 2) := by decide +kernel
theorem dX0_prove_172 : decode cX0_prove 172 = .ok (.iastore, 1) := by decide +kernel
theorem dX0_prove_173 : decode cX0_prove 173 = .ok (.aload_n 3, 1) := by decide +kernel
theorem dX0_prove_174 : decode cX0_prove 174 = .ok (.getfield 37, 3) := by decide +kernel
theorem dX0_prove_177 : decode cX0_prove 177 = .ok (.iconst 2, 1) := by decide +kernel
theorem dX0_prove_178 : decode cX0_prove 178 = .ok (.iload_n 1, 1) := by decide +kernel
theorem dX0_prove_179 : decode cX0_prove 179 = .ok (.iadd, 1) := by decide +kernel
theorem dX0_prove_180 : decode cX0_prove 180 = .ok (.iload 6, 2) := by decide +kernel
theorem dX0_prove_182 : decode cX0_prove 182 = .ok (.iload_n 2, 1) := by decide +kernel
theorem dX0_prove_183 : decode cX0_prove 183 = .ok (.iload 7, 2) := by decide +kernel
theorem dX0_prove_185 : decode cX0_prove 185 = .ok (.imul, 1) := by decide +kernel
theorem dX0_prove_186 : decode cX0_prove 186 = .ok (.isub, 1) := by decide +kernel
theorem dX0_prove_187 : decode cX0_prove 187 = .ok (.sipush 1013, 3) := by decide +kernel
theorem dX0_prove_190 : decode cX0_prove 190 = .ok (.invokestatic 72, 3) := by decide +kernel
theorem dX0_prove_193 : decode cX0_prove 193 = .ok (.iastore, 1) := by decide +kernel
theorem dX0_prove_194 : decode cX0_prove 194 = .ok (.return_, 1) := by decide +kernel
set_option maxRecDepth 20000 in
theorem ggX0_hasFitNumbers_X2_isExponent : GoodIn wsX0_hasFitNumbers wsX2_isExponent := goodIn_r _ [4] (by decide +kernel) (by decide +kernel)
set_option maxRecDepth 20000 in
theorem gX0_hasFitNumbers_X2_isExponent : GoodIn wsX0_hasFitNumbers (va_wsS RX0 77 yX2_isExponent wsX2_isExponent) := goodIn_app (goodIn_of _ (by decide +kernel)) ggX0_hasFitNumbers_X2_isExponent
set_option maxRecDepth 20000 in
theorem ggX0_hasFitNumbers_X2_isElementButOne : GoodIn wsX0_hasFitNumbers wsX2_isElementButOne := goodIn_r _ [7, 8, 9, 3, 10] (by decide +kernel) (by decide +kernel)
set_option maxRecDepth 20000 in
theorem gX0_hasFitNumbers_X2_isElementButOne : GoodIn wsX0_hasFitNumbers (va_wsS RX0 81 yX2_isElementButOne wsX2_isElementButOne) := goodIn_app (goodIn_of _ (by decide +kernel)) ggX0_hasFitNumbers_X2_isElementButOne
theorem dX0_hasFitNumbers_0 : decode cX0_hasFitNumbers 0 = .ok (.iconst 2, 1) := by decide +kernel
theorem dX0_hasFitNumbers_1 : decode cX0_hasFitNumbers 1 = .ok (.istore_n 2, 1) := by decide +kernel
theorem dX0_hasFitNumbers_2 : decode cX0_hasFitNumbers 2 = .ok (.iload_n 2, 1) := by decide +kernel
theorem dX0_hasFitNumbers_3 : decode cX0_hasFitNumbers 3 = .ok (.aload_n 1, 1) := by decide +kernel
theorem dX0_hasFitNumbers_4 : decode cX0_hasFitNumbers 4 = .ok (.getfield 25, 3) := by decide +kernel
theorem dX0_hasFitNumbers_7 : decode cX0_hasFitNumbers 7 = .ok (.if_icmp .ge 23, 3) := by decide +kernel
theorem dX0_hasFitNumbers_10 : decode cX0_hasFitNumbers 10 = .ok (.aload_n 1, 1) := by decide +kernel
theorem dX0_hasFitNumbers_11 : decode cX0_hasFitNumbers 11 = .ok (.getfield 37, 3) := by decide +kernel
theorem dX0_hasFitNumbers_14 : decode cX0_hasFitNumbers 14 = .ok (.iload_n 2, 1) := by decide +kernel
theorem dX0_hasFitNumbers_15 : decode cX0_hasFitNumbers 15 = .ok (.iaload, 1) := by decide +kernel
theorem dX0_hasFitNumbers_16 : decode cX0_hasFitNumbers 16 = .ok (.invokestatic 77, 3) := by decide +kernel
theorem dX0_hasFitNumbers_19 : decode cX0_hasFitNumbers 19 = .ok (.ifCond .ne 5, 3) := by decide +kernel
theorem dX0_hasFitNumbers_22 : decode cX0_hasFitNumbers 22 = .ok (.iconst 0, 1) := by decide +kernel
theorem dX0_hasFitNumbers_23 : decode cX0_hasFitNumbers 23 = .ok (.ireturn, 1) := by decide +kernel
theorem dX0_hasFitNumbers_24 : decode cX0_hasFitNumbers 24 = .ok (.iinc 2 1, 3) := by decide +kernel
theorem dX0_hasFitNumbers_27 : decode cX0_hasFitNumbers 27 = .ok (.goto (-25), 3) := by decide +kernel
theorem dX0_hasFitNumbers_30 : decode cX0_hasFitNumbers 30 = .ok (.aload_n 1, 1) := by decide +kernel
theorem dX0_hasFitNumbers_31 : decode cX0_hasFitNumbers 31 = .ok (.getfield 37, 3) := by decide +kernel
theorem dX0_hasFitNumbers_34 : decode cX0_hasFitNumbers 34 = .ok (.iconst 0, 1) := by decide +kernel
theorem dX0_hasFitNumbers_35 : decode cX0_hasFitNumbers 35 = .ok (.iaload, 1) := by decide +kernel
theorem dX0_hasFitNumbers_36 : decode cX0_hasFitNumbers 36 = .ok (.invokestatic 77, 3) := by decide +kernel
theorem dX0_hasFitNumbers_39 : decode cX0_hasFitNumbers 39 = .ok (.ifCond .eq 19, 3) := by decide +kernel
theorem dX0_hasFitNumbers_42 : decode cX0_hasFitNumbers 42 = .ok (.aload_n 1, 1) := by decide +kernel
theorem dX0_hasFitNumbers_43 : decode cX0_hasFitNumbers 43 = .ok (.getfield 37, 3) := by decide +kernel
theorem dX0_hasFitNumbers_46 : decode cX0_hasFitNumbers 46 = .ok (.iconst 1, 1) := by decide +kernel
theorem dX0_hasFitNumbers_47 : decode cX0_hasFitNumbers 47 = .ok (.iaload, 1) := by decide +kernel
theorem dX0_hasFitNumbers_48 : decode cX0_hasFitNumbers 48 = .ok (.invokestatic 81, 3) := by decide +kernel
theorem dX0_hasFitNumbers_51 : decode cX0_hasFitNumbers 51 = .ok (.ifCond .eq 7, 3) := by decide +kernel
theorem dX0_hasFitNumbers_54 : decode cX0_hasFitNumbers 54 = .ok (.iconst 1, 1) := by decide +kernel
theorem dX0_hasFitNumbers_55 : decode cX0_hasFitNumbers 55 = .ok (.goto 4, 3) := by decide +kernel
theorem dX0_hasFitNumbers_58 : decode cX0_hasFitNumbers 58 = .ok (.iconst 0, 1) := by decide +kernel
theorem dX0_hasFitNumbers_59 : decode cX0_hasFitNumbers 59 = .ok (.ireturn, 1) := by decide +kernel
set_option maxRecDepth 20000 in
theorem ggX0_stem_X2_mixed : GoodIn wsX0_stem wsX2_mixed := goodIn_r _ [7, 8] (by decide +kernel) (by decide +kernel)
set_option maxRecDepth 20000 in
theorem gX0_stem_X2_mixed : GoodIn wsX0_stem (va_wsS RX0 84 yX2_mixed wsX2_mixed) := goodIn_app (goodIn_of _ (by decide +kernel)) ggX0_stem_X2_mixed
theorem dX0_stem_0 : decode cX0_stem 0 = .ok (.bipush 17, 2) := by decide +kernel
theorem dX0_stem_2 : decode cX0_stem 2 = .ok (.aload_n 0, 1) := by decide +kernel
theorem dX0_stem_3 : decode cX0_stem 3 = .ok (.getfield 9, 3) := by decide +kernel
theorem dX0_stem_6 : decode cX0_stem 6 = .ok (.getfield 30, 3) := by decide +kernel
theorem dX0_stem_9 : decode cX0_stem 9 = .ok (.invokestatic 84, 3) := by decide +kernel
theorem dX0_stem_12 : decode cX0_stem 12 = .ok (.istore_n 2, 1) := by decide +kernel
theorem dX0_stem_13 : decode cX0_stem 13 = .ok (.iconst 0, 1) := by decide +kernel
theorem dX0_stem_14 : decode cX0_stem 14 = .ok (.istore_n 3, 1) := by decide +kernel
theorem dX0_stem_15 : decode cX0_stem 15 = .ok (.iload_n 3, 1) := by decide +kernel
theorem dX0_stem_16 : decode cX0_stem 16 = .ok (.aload_n 0, 1) := by decide +kernel
theorem dX0_stem_17 : decode cX0_stem 17 = .ok (.getfield 9, 3) := by decide +kernel
theorem dX0_stem_20 : decode cX0_stem 20 = .ok (.getfield 30, 3) := by decide +kernel
theorem dX0_stem_23 : decode cX0_stem 23 = .ok (.if_icmp .ge 23, 3) := by decide +kernel
theorem dX0_stem_26 : decode cX0_stem 26 = .ok (.iload_n 2, 1) := by decide +kernel
theorem dX0_stem_27 : decode cX0_stem 27 = .ok (.aload_n 0, 1) := by decide +kernel
theorem dX0_stem_28 : decode cX0_stem 28 = .ok (.getfield 9, 3) := by decide +kernel
theorem dX0_stem_31 : decode cX0_stem 31 = .ok (.getfield 45, 3) := by decide +kernel
theorem dX0_stem_34 : decode cX0_stem 34 = .ok (.iload_n 3, 1) := by decide +kernel
theorem dX0_stem_35 : decode cX0_stem 35 = .ok (.iaload, 1) := by decide +kernel
theorem dX0_stem_36 : decode cX0_stem 36 = .ok (.invokestatic 84, 3) := by decide +kernel
theorem dX0_stem_39 : decode cX0_stem 39 = .ok (.istore_n 2, 1) := by decide +kernel
theorem dX0_stem_40 : decode cX0_stem 40 = .ok (.iinc 3 1, 3) := by decide +kernel
theorem dX0_stem_43 : decode cX0_stem 43 = .ok (.goto (-28), 3) := by decide +kernel
theorem dX0_stem_46 : decode cX0_stem 46 = .ok (.iload_n 2, 1) := by decide +kernel
theorem dX0_stem_47 : decode cX0_stem 47 = .ok (.aload_n 0, 1) := by decide +kernel
theorem dX0_stem_48 : decode cX0_stem 48 = .ok (.getfield 15, 3) := by decide +kernel
theorem dX0_stem_51 : decode cX0_stem 51 = .ok (.invokestatic 84, 3) := by decide +kernel
theorem dX0_stem_54 : decode cX0_stem 54 = .ok (.istore_n 2, 1) := by decide +kernel
theorem dX0_stem_55 : decode cX0_stem 55 = .ok (.iload_n 2, 1) := by decide +kernel
theorem dX0_stem_56 : decode cX0_stem 56 = .ok (.aload_n 0, 1) := by decide +kernel
theorem dX0_stem_57 : decode cX0_stem 57 = .ok (.getfield 22, 3) := by decide +kernel
theorem dX0_stem_60 : decode cX0_stem 60 = .ok (.invokestatic 84, 3) := by decide +kernel
theorem dX0_stem_63 : decode cX0_stem 63 = .ok (.istore_n 2, 1) := by decide +kernel
theorem dX0_stem_64 : decode cX0_stem 64 = .ok (.iload_n 2, 1) := by decide +kernel
theorem dX0_stem_65 : decode cX0_stem 65 = .ok (.iload_n 1, 1) := by decide +kernel
theorem dX0_stem_66 : decode cX0_stem 66 = .ok (.invokestatic 84, 3) := by decide +kernel
theorem dX0_stem_69 : decode cX0_stem 69 = .ok (.ireturn, 1) := by decide +kernel
set_option maxRecDepth 20000 in
theorem ggX0_step_X2_power : GoodIn wsX0_step wsX2_power := goodIn_r _ [5] (by decide +kernel) (by decide +kernel)
set_option maxRecDepth 20000 in
theorem gX0_step_X2_power : GoodIn wsX0_step (va_wsS RX0 52 yX2_power wsX2_power) := goodIn_app (goodIn_of _ (by decide +kernel)) ggX0_step_X2_power
set_option maxRecDepth 20000 in
theorem ggX0_step_X0_challengeBehind : GoodIn wsX0_step wsX0_challengeBehind := goodIn_r _ [10, 11, 12, 4, 13, 14, 15, 16, 17] (by decide +kernel) (by decide +kernel)
set_option maxRecDepth 20000 in
theorem gX0_step_X0_challengeBehind : GoodIn wsX0_step (wsV RX0 65 RX0 yX0_challengeBehind wsX0_challengeBehind) := goodIn_app (goodIn_of _ (by decide +kernel)) ggX0_step_X0_challengeBehind
theorem dX0_step_0 : decode cX0_step 0 = .ok (.iconst 4, 1) := by decide +kernel
theorem dX0_step_1 : decode cX0_step 1 = .ok (.iload 5, 2) := by decide +kernel
theorem dX0_step_3 : decode cX0_step 3 = .ok (.invokestatic 52, 3) := by decide +kernel
theorem dX0_step_6 : decode cX0_step 6 = .ok (.iload 4, 2) := by decide +kernel
theorem dX0_step_8 : decode cX0_step 8 = .ok (.iload_n 3, 1) := by decide +kernel
theorem dX0_step_9 : decode cX0_step 9 = .ok (.invokestatic 52, 3) := by decide +kernel
theorem dX0_step_12 : decode cX0_step 12 = .ok (.imul, 1) := by decide +kernel
theorem dX0_step_13 : decode cX0_step 13 = .ok (.sipush 2027, 3) := by decide +kernel
theorem dX0_step_16 : decode cX0_step 16 = .ok (.irem, 1) := by decide +kernel
theorem dX0_step_17 : decode cX0_step 17 = .ok (.istore 6, 2) := by decide +kernel
theorem dX0_step_19 : decode cX0_step 19 = .ok (.aload_n 0, 1) := by decide +kernel
theorem dX0_step_20 : decode cX0_step 20 = .ok (.getfield 19, 3) := by decide +kernel
theorem dX0_step_23 : decode cX0_step 23 = .ok (.iload 5, 2) := by decide +kernel
theorem dX0_step_25 : decode cX0_step 25 = .ok (.invokestatic 52, 3) := by decide +kernel
theorem dX0_step_28 : decode cX0_step 28 = .ok (.iload_n 2, 1) := by decide +kernel
theorem dX0_step_29 : decode cX0_step 29 = .ok (.iload_n 3, 1) := by decide +kernel
theorem dX0_step_30 : decode cX0_step 30 = .ok (.invokestatic 52, 3) := by decide +kernel
theorem dX0_step_33 : decode cX0_step 33 = .ok (.imul, 1) := by decide +kernel
theorem dX0_step_34 : decode cX0_step 34 = .ok (.sipush 2027, 3) := by decide +kernel
theorem dX0_step_37 : decode cX0_step 37 = .ok (.irem, 1) := by decide +kernel
theorem dX0_step_38 : decode cX0_step 38 = .ok (.istore 7, 2) := by decide +kernel
theorem dX0_step_40 : decode cX0_step 40 = .ok (.aload_n 0, 1) := by decide +kernel
theorem dX0_step_41 : decode cX0_step 41 = .ok (.iload_n 1, 1) := by decide +kernel
theorem dX0_step_42 : decode cX0_step 42 = .ok (.iload 6, 2) := by decide +kernel
theorem dX0_step_44 : decode cX0_step 44 = .ok (.iload 7, 2) := by decide +kernel
theorem dX0_step_46 : decode cX0_step 46 = .ok (.invokevirtual 65, 3) := by decide +kernel
theorem dX0_step_49 : decode cX0_step 49 = .ok (.ireturn, 1) := by decide +kernel
set_option maxRecDepth 20000 in
theorem ggX0_challengeBehind_X2_mixed : GoodIn wsX0_challengeBehind wsX2_mixed := goodIn_r _ [4, 5] (by decide +kernel) (by decide +kernel)
set_option maxRecDepth 20000 in
theorem gX0_challengeBehind_X2_mixed : GoodIn wsX0_challengeBehind (va_wsS RX0 84 yX2_mixed wsX2_mixed) := goodIn_app (goodIn_of _ (by decide +kernel)) ggX0_challengeBehind_X2_mixed
set_option maxRecDepth 20000 in
theorem ggX0_challengeBehind_X2_rest : GoodIn wsX0_challengeBehind wsX2_rest := goodIn_r _ [8] (by decide +kernel) (by decide +kernel)
set_option maxRecDepth 20000 in
theorem gX0_challengeBehind_X2_rest : GoodIn wsX0_challengeBehind (va_wsS RX0 87 yX2_rest wsX2_rest) := goodIn_app (goodIn_of _ (by decide +kernel)) ggX0_challengeBehind_X2_rest
theorem dX0_challengeBehind_0 : decode cX0_challengeBehind 0 = .ok (.iload_n 1, 1) := by decide +kernel
theorem dX0_challengeBehind_1 : decode cX0_challengeBehind 1 = .ok (.iload_n 2, 1) := by decide +kernel
theorem dX0_challengeBehind_2 : decode cX0_challengeBehind 2 = .ok (.invokestatic 84, 3) := by decide +kernel
theorem dX0_challengeBehind_5 : decode cX0_challengeBehind 5 = .ok (.iload_n 3, 1) := by decide +kernel
theorem dX0_challengeBehind_6 : decode cX0_challengeBehind 6 = .ok (.invokestatic 84, 3) := by decide +kernel
theorem dX0_challengeBehind_9 : decode cX0_challengeBehind 9 = .ok (.invokestatic 87, 3) := by decide +kernel
theorem dX0_challengeBehind_12 : decode cX0_challengeBehind 12 = .ok (.ireturn, 1) := by decide +kernel
set_option maxRecDepth 20000 in
theorem ggX0_nonce_X2_mixed : GoodIn wsX0_nonce wsX2_mixed := goodIn_r _ [6, 7] (by decide +kernel) (by decide +kernel)
set_option maxRecDepth 20000 in
theorem gX0_nonce_X2_mixed : GoodIn wsX0_nonce (va_wsS RX0 84 yX2_mixed wsX2_mixed) := goodIn_app (goodIn_of _ (by decide +kernel)) ggX0_nonce_X2_mixed
set_option maxRecDepth 20000 in
theorem ggX0_nonce_X2_rest : GoodIn wsX0_nonce wsX2_rest := goodIn_r _ [10] (by decide +kernel) (by decide +kernel)
set_option maxRecDepth 20000 in
theorem gX0_nonce_X2_rest : GoodIn wsX0_nonce (va_wsS RX0 87 yX2_rest wsX2_rest) := goodIn_app (goodIn_of _ (by decide +kernel)) ggX0_nonce_X2_rest
theorem dX0_nonce_0 : decode cX0_nonce 0 = .ok (.bipush 17, 2) := by decide +kernel
theorem dX0_nonce_2 : decode cX0_nonce 2 = .ok (.iload_n 1, 1) := by decide +kernel
theorem dX0_nonce_3 : decode cX0_nonce 3 = .ok (.invokestatic 84, 3) := by decide +kernel
theorem dX0_nonce_6 : decode cX0_nonce 6 = .ok (.istore_n 3, 1) := by decide +kernel
theorem dX0_nonce_7 : decode cX0_nonce 7 = .ok (.iload_n 3, 1) := by decide +kernel
theorem dX0_nonce_8 : decode cX0_nonce 8 = .ok (.aload_n 0, 1) := by decide +kernel
theorem dX0_nonce_9 : decode cX0_nonce 9 = .ok (.getfield 15, 3) := by decide +kernel
theorem dX0_nonce_12 : decode cX0_nonce 12 = .ok (.invokestatic 84, 3) := by decide +kernel
theorem dX0_nonce_15 : decode cX0_nonce 15 = .ok (.istore_n 3, 1) := by decide +kernel
theorem dX0_nonce_16 : decode cX0_nonce 16 = .ok (.iload_n 3, 1) := by decide +kernel
theorem dX0_nonce_17 : decode cX0_nonce 17 = .ok (.aload_n 0, 1) := by decide +kernel
theorem dX0_nonce_18 : decode cX0_nonce 18 = .ok (.getfield 22, 3) := by decide +kernel
theorem dX0_nonce_21 : decode cX0_nonce 21 = .ok (.invokestatic 84, 3) := by decide +kernel
theorem dX0_nonce_24 : decode cX0_nonce 24 = .ok (.istore_n 3, 1) := by decide +kernel
theorem dX0_nonce_25 : decode cX0_nonce 25 = .ok (.iload_n 3, 1) := by decide +kernel
theorem dX0_nonce_26 : decode cX0_nonce 26 = .ok (.iload_n 2, 1) := by decide +kernel
theorem dX0_nonce_27 : decode cX0_nonce 27 = .ok (.invokestatic 84, 3) := by decide +kernel
theorem dX0_nonce_30 : decode cX0_nonce 30 = .ok (.invokestatic 87, 3) := by decide +kernel
theorem dX0_nonce_33 : decode cX0_nonce 33 = .ok (.ireturn, 1) := by decide +kernel
theorem dX0_placeBehind_0 : decode cX0_placeBehind 0 = .ok (.iload_n 1, 1) := by decide +kernel
theorem dX0_placeBehind_1 : decode cX0_placeBehind 1 = .ok (.iconst 1, 1) := by decide +kernel
theorem dX0_placeBehind_2 : decode cX0_placeBehind 2 = .ok (.iadd, 1) := by decide +kernel
theorem dX0_placeBehind_3 : decode cX0_placeBehind 3 = .ok (.aload_n 0, 1) := by decide +kernel
theorem dX0_placeBehind_4 : decode cX0_placeBehind 4 = .ok (.getfield 9, 3) := by decide +kernel
theorem dX0_placeBehind_7 : decode cX0_placeBehind 7 = .ok (.getfield 30, 3) := by decide +kernel
theorem dX0_placeBehind_10 : decode cX0_placeBehind 10 = .ok (.if_icmp .ge 9, 3) := by decide +kernel
theorem dX0_placeBehind_13 : decode cX0_placeBehind 13 = .ok (.iload_n 1, 1) := by decide +kernel
theorem dX0_placeBehind_14 : decode cX0_placeBehind 14 = .ok (.iconst 1, 1) := by decide +kernel
theorem dX0_placeBehind_15 : decode cX0_placeBehind 15 = .ok (.iadd, 1) := by decide +kernel
theorem dX0_placeBehind_16 : decode cX0_placeBehind 16 = .ok (.goto 4, 3) := by decide +kernel
theorem dX0_placeBehind_19 : decode cX0_placeBehind 19 = .ok (.iconst 0, 1) := by decide +kernel
theorem dX0_placeBehind_20 : decode cX0_placeBehind 20 = .ok (.ireturn, 1) := by decide +kernel
theorem dX1_init_0 : decode cX1_init 0 = .ok (.aload_n 0, 1) := by decide +kernel
theorem dX1_init_1 : decode cX1_init 1 = .ok (.invokespecial 1, 3) := by decide +kernel
theorem dX1_init_4 : decode cX1_init 4 = .ok (.aload_n 0, 1) := by decide +kernel
theorem dX1_init_5 : decode cX1_init 5 = .ok (.iconst 0, 1) := by decide +kernel
theorem dX1_init_6 : decode cX1_init 6 = .ok (.putfield 7, 3) := by decide +kernel
theorem dX1_init_9 : decode cX1_init 9 = .ok (.aload_n 0, 1) := by decide +kernel
theorem dX1_init_10 : decode cX1_init 10 = .ok (.iload_n 1, 1) := by decide +kernel
theorem dX1_init_11 : decode cX1_init 11 = .ok (.newarray .int, 2) := by decide +kernel
theorem dX1_init_13 : decode cX1_init 13 = .ok (.putfield 13, 3) := by decide +kernel
theorem dX1_init_16 : decode cX1_init 16 = .ok (.return_, 1) := by decide +kernel
set_option maxRecDepth 20000 in
theorem ggX1_has_X2_isAmongFirst : GoodIn wsX1_has wsX2_isAmongFirst := goodIn_r _ [6] (by decide +kernel) (by decide +kernel)
set_option maxRecDepth 20000 in
theorem gX1_has_X2_isAmongFirst : GoodIn wsX1_has (va_wsS RX1 17 yX2_isAmongFirst wsX2_isAmongFirst) := goodIn_app (goodIn_of _ (by decide +kernel)) ggX1_has_X2_isAmongFirst
theorem dX1_has_0 : decode cX1_has 0 = .ok (.aload_n 0, 1) := by decide +kernel
theorem dX1_has_1 : decode cX1_has 1 = .ok (.getfield 7, 3) := by decide +kernel
theorem dX1_has_4 : decode cX1_has 4 = .ok (.aload_n 0, 1) := by decide +kernel
theorem dX1_has_5 : decode cX1_has 5 = .ok (.getfield 13, 3) := by decide +kernel
theorem dX1_has_8 : decode cX1_has 8 = .ok (.iload_n 1, 1) := by decide +kernel
theorem dX1_has_9 : decode cX1_has 9 = .ok (.invokestatic 17, 3) := by decide +kernel
theorem dX1_has_12 : decode cX1_has 12 = .ok (.ireturn, 1) := by decide +kernel
theorem dX1_add_0 : decode cX1_add 0 = .ok (.aload_n 0, 1) := by decide +kernel
theorem dX1_add_1 : decode cX1_add 1 = .ok (.getfield 7, 3) := by decide +kernel
theorem dX1_add_4 : decode cX1_add 4 = .ok (.aload_n 0, 1) := by decide +kernel
theorem dX1_add_5 : decode cX1_add 5 = .ok (.getfield 13, 3) := by decide +kernel
theorem dX1_add_8 : decode cX1_add 8 = .ok (.arraylength, 1) := by decide +kernel
theorem dX1_add_9 : decode cX1_add 9 = .ok (.if_icmp .ge 23, 3) := by decide +kernel
theorem dX1_add_12 : decode cX1_add 12 = .ok (.aload_n 0, 1) := by decide +kernel
theorem dX1_add_13 : decode cX1_add 13 = .ok (.getfield 13, 3) := by decide +kernel
theorem dX1_add_16 : decode cX1_add 16 = .ok (.aload_n 0, 1) := by decide +kernel
theorem dX1_add_17 : decode cX1_add 17 = .ok (.getfield 7, 3) := by decide +kernel
theorem dX1_add_20 : decode cX1_add 20 = .ok (.iload_n 1, 1) := by decide +kernel
theorem dX1_add_21 : decode cX1_add 21 = .ok (.iastore, 1) := by decide +kernel
theorem dX1_add_22 : decode cX1_add 22 = .ok (.aload_n 0, 1) := by decide +kernel
theorem dX1_add_23 : decode cX1_add 23 = .ok (.dup, 1) := by decide +kernel
theorem dX1_add_24 : decode cX1_add 24 = .ok (.getfield 7, 3) := by decide +kernel
theorem dX1_add_27 : decode cX1_add 27 = .ok (.iconst 1, 1) := by decide +kernel
theorem dX1_add_28 : decode cX1_add 28 = .ok (.iadd, 1) := by decide +kernel
theorem dX1_add_29 : decode cX1_add 29 = .ok (.putfield 7, 3) := by decide +kernel
theorem dX1_add_32 : decode cX1_add 32 = .ok (.return_, 1) := by decide +kernel
theorem dX2_power_0 : decode cX2_power 0 = .ok (.iconst 1, 1) := by decide +kernel
theorem dX2_power_1 : decode cX2_power 1 = .ok (.istore_n 2, 1) := by decide +kernel
theorem dX2_power_2 : decode cX2_power 2 = .ok (.iload_n 0, 1) := by decide +kernel
theorem dX2_power_3 : decode cX2_power 3 = .ok (.istore_n 3, 1) := by decide +kernel
theorem dX2_power_4 : decode cX2_power 4 = .ok (.iconst 0, 1) := by decide +kernel
theorem dX2_power_5 : decode cX2_power 5 = .ok (.istore 4, 2) := by decide +kernel
theorem dX2_power_7 : decode cX2_power 7 = .ok (.iload 4, 2) := by decide +kernel
theorem dX2_power_9 : decode cX2_power 9 = .ok (.bipush 10, 2) := by decide +kernel
theorem dX2_power_11 : decode cX2_power 11 = .ok (.if_icmp .ge 35, 3) := by decide +kernel
theorem dX2_power_14 : decode cX2_power 14 = .ok (.iload_n 1, 1) := by decide +kernel
theorem dX2_power_15 : decode cX2_power 15 = .ok (.iload 4, 2) := by decide +kernel
theorem dX2_power_17 : decode cX2_power 17 = .ok (.iushr, 1) := by decide +kernel
theorem dX2_power_18 : decode cX2_power 18 = .ok (.iconst 1, 1) := by decide +kernel
theorem dX2_power_19 : decode cX2_power 19 = .ok (.iand, 1) := by decide +kernel
theorem dX2_power_20 : decode cX2_power 20 = .ok (.iconst 1, 1) := by decide +kernel
theorem dX2_power_21 : decode cX2_power 21 = .ok (.if_icmp .ne 11, 3) := by decide +kernel
theorem dX2_power_24 : decode cX2_power 24 = .ok (.iload_n 2, 1) := by decide +kernel
theorem dX2_power_25 : decode cX2_power 25 = .ok (.iload_n 3, 1) := by decide +kernel
theorem dX2_power_26 : decode cX2_power 26 = .ok (.imul, 1) := by decide +kernel
theorem dX2_power_27 : decode cX2_power 27 = .ok (.sipush 2027, 3) := by decide +kernel
theorem dX2_power_30 : decode cX2_power 30 = .ok (.irem, 1) := by decide +kernel
theorem dX2_power_31 : decode cX2_power 31 = .ok (.istore_n 2, 1) := by decide +kernel
theorem dX2_power_32 : decode cX2_power 32 = .ok (.iload_n 3, 1) := by decide +kernel
theorem dX2_power_33 : decode cX2_power 33 = .ok (.iload_n 3, 1) := by decide +kernel
theorem dX2_power_34 : decode cX2_power 34 = .ok (.imul, 1) := by decide +kernel
theorem dX2_power_35 : decode cX2_power 35 = .ok (.sipush 2027, 3) := by decide +kernel
theorem dX2_power_38 : decode cX2_power 38 = .ok (.irem, 1) := by decide +kernel
theorem dX2_power_39 : decode cX2_power 39 = .ok (.istore_n 3, 1) := by decide +kernel
theorem dX2_power_40 : decode cX2_power 40 = .ok (.iinc 4 1, 3) := by decide +kernel
theorem dX2_power_43 : decode cX2_power 43 = .ok (.goto (-36), 3) := by decide +kernel
theorem dX2_power_46 : decode cX2_power 46 = .ok (.iload_n 2, 1) := by decide +kernel
theorem dX2_power_47 : decode cX2_power 47 = .ok (.ireturn, 1) := by decide +kernel
set_option maxRecDepth 20000 in
theorem ggX2_isElementButOne_X2_power : GoodIn wsX2_isElementButOne wsX2_power := goodIn_r _ [4] (by decide +kernel) (by decide +kernel)
set_option maxRecDepth 20000 in
theorem gX2_isElementButOne_X2_power : GoodIn wsX2_isElementButOne (va_wsS RX2 11 yX2_power wsX2_power) := goodIn_app (goodIn_of _ (by decide +kernel)) ggX2_isElementButOne_X2_power
theorem dX2_isElementButOne_0 : decode cX2_isElementButOne 0 = .ok (.iload_n 0, 1) := by decide +kernel
theorem dX2_isElementButOne_1 : decode cX2_isElementButOne 1 = .ok (.iconst 1, 1) := by decide +kernel
theorem dX2_isElementButOne_2 : decode cX2_isElementButOne 2 = .ok (.if_icmp .le 25, 3) := by decide +kernel
theorem dX2_isElementButOne_5 : decode cX2_isElementButOne 5 = .ok (.iload_n 0, 1) := by decide +kernel
theorem dX2_isElementButOne_6 : decode cX2_isElementButOne 6 = .ok (.sipush 2027, 3) := by decide +kernel
theorem dX2_isElementButOne_9 : decode cX2_isElementButOne 9 = .ok (.if_icmp .ge 18, 3) := by decide +kernel
theorem dX2_isElementButOne_12 : decode cX2_isElementButOne 12 = .ok (.iload_n 0, 1) := by decide +kernel
theorem dX2_isElementButOne_13 : decode cX2_isElementButOne 13 = .ok (.sipush 1013, 3) := by decide +kernel
theorem dX2_isElementButOne_16 : decode cX2_isElementButOne 16 = .ok (.invokestatic 11, 3) := by decide +kernel
theorem dX2_isElementButOne_19 : decode cX2_isElementButOne 19 = .ok (.iconst 1, 1) := by decide +kernel
theorem dX2_isElementButOne_20 : decode cX2_isElementButOne 20 = .ok (.if_icmp .ne 7, 3) := by decide +kernel
theorem dX2_isElementButOne_23 : decode cX2_isElementButOne 23 = .ok (.iconst 1, 1) := by decide +kernel
theorem dX2_isElementButOne_24 : decode cX2_isElementButOne 24 = .ok (.goto 4, 3) := by decide +kernel
theorem dX2_isElementButOne_27 : decode cX2_isElementButOne 27 = .ok (.iconst 0, 1) := by decide +kernel
theorem dX2_isElementButOne_28 : decode cX2_isElementButOne 28 = .ok (.ireturn, 1) := by decide +kernel
theorem dX2_isExponent_0 : decode cX2_isExponent 0 = .ok (.iload_n 0, 1) := by decide +kernel
theorem dX2_isExponent_1 : decode cX2_isExponent 1 = .ok (.ifCond .lt 14, 3) := by decide +kernel
theorem dX2_isExponent_4 : decode cX2_isExponent 4 = .ok (.iload_n 0, 1) := by decide +kernel
theorem dX2_isExponent_5 : decode cX2_isExponent 5 = .ok (.sipush 1013, 3) := by decide +kernel
theorem dX2_isExponent_8 : decode cX2_isExponent 8 = .ok (.if_icmp .ge 7, 3) := by decide +kernel
theorem dX2_isExponent_11 : decode cX2_isExponent 11 = .ok (.iconst 1, 1) := by decide +kernel
theorem dX2_isExponent_12 : decode cX2_isExponent 12 = .ok (.goto 4, 3) := by decide +kernel
theorem dX2_isExponent_15 : decode cX2_isExponent 15 = .ok (.iconst 0, 1) := by decide +kernel
theorem dX2_isExponent_16 : decode cX2_isExponent 16 = .ok (.ireturn, 1) := by decide +kernel
theorem dX2_isSecret_0 : decode cX2_isSecret 0 = .ok (.iload_n 0, 1) := by decide +kernel
theorem dX2_isSecret_1 : decode cX2_isSecret 1 = .ok (.ifCond .le 14, 3) := by decide +kernel
theorem dX2_isSecret_4 : decode cX2_isSecret 4 = .ok (.iload_n 0, 1) := by decide +kernel
theorem dX2_isSecret_5 : decode cX2_isSecret 5 = .ok (.sipush 1013, 3) := by decide +kernel
theorem dX2_isSecret_8 : decode cX2_isSecret 8 = .ok (.if_icmp .ge 7, 3) := by decide +kernel
theorem dX2_isSecret_11 : decode cX2_isSecret 11 = .ok (.iconst 1, 1) := by decide +kernel
theorem dX2_isSecret_12 : decode cX2_isSecret 12 = .ok (.goto 4, 3) := by decide +kernel
theorem dX2_isSecret_15 : decode cX2_isSecret 15 = .ok (.iconst 0, 1) := by decide +kernel
theorem dX2_isSecret_16 : decode cX2_isSecret 16 = .ok (.ireturn, 1) := by decide +kernel
theorem dX2_mixed_0 : decode cX2_mixed 0 = .ok (.iload_n 0, 1) := by decide +kernel
theorem dX2_mixed_1 : decode cX2_mixed 1 = .ok (.iload_n 1, 1) := by decide +kernel
theorem dX2_mixed_2 : decode cX2_mixed 2 = .ok (.ixor, 1) := by decide +kernel
theorem dX2_mixed_3 : decode cX2_mixed 3 = .ok (.ldc 15, 2) := by decide +kernel
theorem dX2_mixed_5 : decode cX2_mixed 5 = .ok (.imul, 1) := by decide +kernel
theorem dX2_mixed_6 : decode cX2_mixed 6 = .ok (.istore_n 2, 1) := by decide +kernel
theorem dX2_mixed_7 : decode cX2_mixed 7 = .ok (.iload_n 2, 1) := by decide +kernel
theorem dX2_mixed_8 : decode cX2_mixed 8 = .ok (.iload_n 2, 1) := by decide +kernel
theorem dX2_mixed_9 : decode cX2_mixed 9 = .ok (.bipush 15, 2) := by decide +kernel
theorem dX2_mixed_11 : decode cX2_mixed 11 = .ok (.iushr, 1) := by decide +kernel
theorem dX2_mixed_12 : decode cX2_mixed 12 = .ok (.ixor, 1) := by decide +kernel
theorem dX2_mixed_13 : decode cX2_mixed 13 = .ok (.ireturn, 1) := by decide +kernel
theorem dX2_rest_0 : decode cX2_rest 0 = .ok (.iload_n 0, 1) := by decide +kernel
theorem dX2_rest_1 : decode cX2_rest 1 = .ok (.iconst 1, 1) := by decide +kernel
theorem dX2_rest_2 : decode cX2_rest 2 = .ok (.iushr, 1) := by decide +kernel
theorem dX2_rest_3 : decode cX2_rest 3 = .ok (.sipush 1013, 3) := by decide +kernel
theorem dX2_rest_6 : decode cX2_rest 6 = .ok (.irem, 1) := by decide +kernel
theorem dX2_rest_7 : decode cX2_rest 7 = .ok (.ireturn, 1) := by decide +kernel
set_option maxRecDepth 20000 in
theorem ggX2_topicBase_X2_mixed : GoodIn wsX2_topicBase wsX2_mixed := goodIn_r _ [4, 5] (by decide +kernel) (by decide +kernel)
set_option maxRecDepth 20000 in
theorem gX2_topicBase_X2_mixed : GoodIn wsX2_topicBase (va_wsS RX2 16 yX2_mixed wsX2_mixed) := goodIn_app (goodIn_of _ (by decide +kernel)) ggX2_topicBase_X2_mixed
set_option maxRecDepth 20000 in
theorem ggX2_topicBase_X2_isElementButOne : GoodIn wsX2_topicBase wsX2_isElementButOne := goodIn_r _ [8, 9, 10, 3, 11] (by decide +kernel) (by decide +kernel)
set_option maxRecDepth 20000 in
theorem gX2_topicBase_X2_isElementButOne : GoodIn wsX2_topicBase (va_wsS RX2 19 yX2_isElementButOne wsX2_isElementButOne) := goodIn_app (goodIn_of _ (by decide +kernel)) ggX2_topicBase_X2_isElementButOne
theorem dX2_topicBase_0 : decode cX2_topicBase 0 = .ok (.bipush 17, 2) := by decide +kernel
theorem dX2_topicBase_2 : decode cX2_topicBase 2 = .ok (.iload_n 0, 1) := by decide +kernel
theorem dX2_topicBase_3 : decode cX2_topicBase 3 = .ok (.invokestatic 16, 3) := by decide +kernel
theorem dX2_topicBase_6 : decode cX2_topicBase 6 = .ok (.istore_n 1, 1) := by decide +kernel
theorem dX2_topicBase_7 : decode cX2_topicBase 7 = .ok (.iconst 0, 1) := by decide +kernel
theorem dX2_topicBase_8 : decode cX2_topicBase 8 = .ok (.istore_n 2, 1) := by decide +kernel
theorem dX2_topicBase_9 : decode cX2_topicBase 9 = .ok (.iload_n 2, 1) := by decide +kernel
theorem dX2_topicBase_10 : decode cX2_topicBase 10 = .ok (.bipush 64, 2) := by decide +kernel
theorem dX2_topicBase_12 : decode cX2_topicBase 12 = .ok (.if_icmp .ge 30, 3) := by decide +kernel
theorem dX2_topicBase_15 : decode cX2_topicBase 15 = .ok (.iload_n 1, 1) := by decide +kernel
theorem dX2_topicBase_16 : decode cX2_topicBase 16 = .ok (.iload_n 2, 1) := by decide +kernel
theorem dX2_topicBase_17 : decode cX2_topicBase 17 = .ok (.invokestatic 16, 3) := by decide +kernel
theorem dX2_topicBase_20 : decode cX2_topicBase 20 = .ok (.iconst 1, 1) := by decide +kernel
theorem dX2_topicBase_21 : decode cX2_topicBase 21 = .ok (.iushr, 1) := by decide +kernel
theorem dX2_topicBase_22 : decode cX2_topicBase 22 = .ok (.sipush 2027, 3) := by decide +kernel
theorem dX2_topicBase_25 : decode cX2_topicBase 25 = .ok (.irem, 1) := by decide +kernel
theorem dX2_topicBase_26 : decode cX2_topicBase 26 = .ok (.istore_n 3, 1) := by decide +kernel
theorem dX2_topicBase_27 : decode cX2_topicBase 27 = .ok (.iload_n 3, 1) := by decide +kernel
theorem dX2_topicBase_28 : decode cX2_topicBase 28 = .ok (.invokestatic 19, 3) := by decide +kernel
theorem dX2_topicBase_31 : decode cX2_topicBase 31 = .ok (.ifCond .eq 5, 3) := by decide +kernel
theorem dX2_topicBase_34 : decode cX2_topicBase 34 = .ok (.iload_n 3, 1) := by decide +kernel
theorem dX2_topicBase_35 : decode cX2_topicBase 35 = .ok (.ireturn, 1) := by decide +kernel
theorem dX2_topicBase_36 : decode cX2_topicBase 36 = .ok (.iinc 2 1, 3) := by decide +kernel
theorem dX2_topicBase_39 : decode cX2_topicBase 39 = .ok (.goto (-30), 3) := by decide +kernel
theorem dX2_topicBase_42 : decode cX2_topicBase 42 = .ok (.iconst 4, 1) := by decide +kernel
theorem dX2_topicBase_43 : decode cX2_topicBase 43 = .ok (.ireturn, 1) := by decide +kernel
theorem dX2_isAmongFirst_0 : decode cX2_isAmongFirst 0 = .ok (.iconst 0, 1) := by decide +kernel
theorem dX2_isAmongFirst_1 : decode cX2_isAmongFirst 1 = .ok (.istore_n 3, 1) := by decide +kernel
theorem dX2_isAmongFirst_2 : decode cX2_isAmongFirst 2 = .ok (.iload_n 3, 1) := by decide +kernel
theorem dX2_isAmongFirst_3 : decode cX2_isAmongFirst 3 = .ok (.iload_n 0, 1) := by decide +kernel
theorem dX2_isAmongFirst_4 : decode cX2_isAmongFirst 4 = .ok (.if_icmp .ge 24, 3) := by decide +kernel
theorem dX2_isAmongFirst_7 : decode cX2_isAmongFirst 7 = .ok (.iload_n 3, 1) := by decide +kernel
theorem dX2_isAmongFirst_8 : decode cX2_isAmongFirst 8 = .ok (.aload_n 1, 1) := by decide +kernel
theorem dX2_isAmongFirst_9 : decode cX2_isAmongFirst 9 = .ok (.arraylength, 1) := by decide +kernel
theorem dX2_isAmongFirst_10 : decode cX2_isAmongFirst 10 = .ok (.if_icmp .ge 18, 3) := by decide +kernel
theorem dX2_isAmongFirst_13 : decode cX2_isAmongFirst 13 = .ok (.aload_n 1, 1) := by decide +kernel
theorem dX2_isAmongFirst_14 : decode cX2_isAmongFirst 14 = .ok (.iload_n 3, 1) := by decide +kernel
theorem dX2_isAmongFirst_15 : decode cX2_isAmongFirst 15 = .ok (.iaload, 1) := by decide +kernel
theorem dX2_isAmongFirst_16 : decode cX2_isAmongFirst 16 = .ok (.iload_n 2, 1) := by decide +kernel
theorem dX2_isAmongFirst_17 : decode cX2_isAmongFirst 17 = .ok (.if_icmp .ne 5, 3) := by decide +kernel
theorem dX2_isAmongFirst_20 : decode cX2_isAmongFirst 20 = .ok (.iconst 1, 1) := by decide +kernel
theorem dX2_isAmongFirst_21 : decode cX2_isAmongFirst 21 = .ok (.ireturn, 1) := by decide +kernel
theorem dX2_isAmongFirst_22 : decode cX2_isAmongFirst 22 = .ok (.iinc 3 1, 3) := by decide +kernel
theorem dX2_isAmongFirst_25 : decode cX2_isAmongFirst 25 = .ok (.goto (-23), 3) := by decide +kernel
theorem dX2_isAmongFirst_28 : decode cX2_isAmongFirst 28 = .ok (.iconst 0, 1) := by decide +kernel
theorem dX2_isAmongFirst_29 : decode cX2_isAmongFirst 29 = .ok (.ireturn, 1) := by decide +kernel
theorem dX3_init_0 : decode cX3_init 0 = .ok (.aload_n 0, 1) := by decide +kernel
theorem dX3_init_1 : decode cX3_init 1 = .ok (.invokespecial 3, 3) := by decide +kernel
theorem dX3_init_4 : decode cX3_init 4 = .ok (.aload_n 0, 1) := by decide +kernel
theorem dX3_init_5 : decode cX3_init 5 = .ok (.bipush 8, 2) := by decide +kernel
theorem dX3_init_7 : decode cX3_init 7 = .ok (.newarray .int, 2) := by decide +kernel
theorem dX3_init_9 : decode cX3_init 9 = .ok (.putfield 9, 3) := by decide +kernel
theorem dX3_init_12 : decode cX3_init 12 = .ok (.aload_n 0, 1) := by decide +kernel
theorem dX3_init_13 : decode cX3_init 13 = .ok (.iconst 2, 1) := by decide +kernel
theorem dX3_init_14 : decode cX3_init 14 = .ok (.putfield 15, 3) := by decide +kernel
theorem dX3_init_17 : decode cX3_init 17 = .ok (.aload_n 0, 1) := by decide +kernel
theorem dX3_init_18 : decode cX3_init 18 = .ok (.iconst 0, 1) := by decide +kernel
theorem dX3_init_19 : decode cX3_init 19 = .ok (.putfield 19, 3) := by decide +kernel
theorem dX3_init_22 : decode cX3_init 22 = .ok (.aload_n 0, 1) := by decide +kernel
theorem dX3_init_23 : decode cX3_init 23 = .ok (.iconst 0, 1) := by decide +kernel
theorem dX3_init_24 : decode cX3_init 24 = .ok (.putfield 22, 3) := by decide +kernel
theorem dX3_init_27 : decode cX3_init 27 = .ok (.return_, 1) := by decide +kernel
theorem dX3_resize_0 : decode cX3_resize 0 = .ok (.aload_n 0, 1) := by decide +kernel
theorem dX3_resize_1 : decode cX3_resize 1 = .ok (.iconst 2, 1) := by decide +kernel
theorem dX3_resize_2 : decode cX3_resize 2 = .ok (.iload_n 1, 1) := by decide +kernel
theorem dX3_resize_3 : decode cX3_resize 3 = .ok (.iadd, 1) := by decide +kernel
theorem dX3_resize_4 : decode cX3_resize 4 = .ok (.putfield 15, 3) := by decide +kernel
theorem dX3_resize_7 : decode cX3_resize 7 = .ok (.return_, 1) := by decide +kernel
theorem dX3_hasNumber_0 : decode cX3_hasNumber 0 = .ok (.iload_n 1, 1) := by decide +kernel
theorem dX3_hasNumber_1 : decode cX3_hasNumber 1 = .ok (.ifCond .lt 15, 3) := by decide +kernel
theorem dX3_hasNumber_4 : decode cX3_hasNumber 4 = .ok (.iload_n 1, 1) := by decide +kernel
theorem dX3_hasNumber_5 : decode cX3_hasNumber 5 = .ok (.aload_n 0, 1) := by decide +kernel
theorem dX3_hasNumber_6 : decode cX3_hasNumber 6 = .ok (.getfield 15, 3) := by decide +kernel
theorem dX3_hasNumber_9 : decode cX3_hasNumber 9 = .ok (.if_icmp .ge 7, 3) := by decide +kernel
theorem dX3_hasNumber_12 : decode cX3_hasNumber 12 = .ok (.iconst 1, 1) := by decide +kernel
theorem dX3_hasNumber_13 : decode cX3_hasNumber 13 = .ok (.goto 4, 3) := by decide +kernel
theorem dX3_hasNumber_16 : decode cX3_hasNumber 16 = .ok (.iconst 0, 1) := by decide +kernel
theorem dX3_hasNumber_17 : decode cX3_hasNumber 17 = .ok (.ireturn, 1) := by decide +kernel
theorem dX3_copyNumbers_0 : decode cX3_copyNumbers 0 = .ok (.aload_n 0, 1) := by decide +kernel
theorem dX3_copyNumbers_1 : decode cX3_copyNumbers 1 = .ok (.aload_n 1, 1) := by decide +kernel
theorem dX3_copyNumbers_2 : decode cX3_copyNumbers 2 = .ok (.getfield 15, 3) := by decide +kernel
theorem dX3_copyNumbers_5 : decode cX3_copyNumbers 5 = .ok (.putfield 15, 3) := by decide +kernel
theorem dX3_copyNumbers_8 : decode cX3_copyNumbers 8 = .ok (.aload_n 1, 1) := by decide +kernel
theorem dX3_copyNumbers_9 : decode cX3_copyNumbers 9 = .ok (.getfield 9, 3) := by decide +kernel
theorem dX3_copyNumbers_12 : decode cX3_copyNumbers 12 = .ok (.iconst 0, 1) := by decide +kernel
theorem dX3_copyNumbers_13 : decode cX3_copyNumbers 13 = .ok (.aload_n 0, 1) := by decide +kernel
theorem dX3_copyNumbers_14 : decode cX3_copyNumbers 14 = .ok (.getfield 9, 3) := by decide +kernel
theorem dX3_copyNumbers_17 : decode cX3_copyNumbers 17 = .ok (.iconst 0, 1) := by decide +kernel
theorem dX3_copyNumbers_18 : decode cX3_copyNumbers 18 = .ok (.aload_n 1, 1) := by decide +kernel
theorem dX3_copyNumbers_19 : decode cX3_copyNumbers 19 = .ok (.getfield 15, 3) := by decide +kernel
theorem dX3_copyNumbers_22 : decode cX3_copyNumbers 22 = .ok (.invokestatic 25, 3) := by decide +kernel
theorem dX3_copyNumbers_25 : decode cX3_copyNumbers 25 = .ok (.return_, 1) := by decide +kernel
set_option maxRecDepth 20000 in
theorem ggX4_init_X3_init : GoodIn wsX4_init wsX3_init := goodIn_r _ [13, 14, 2, 3, 15, 16, 17, 18, 19, 25, 26, 27, 28] (by decide +kernel) (by decide +kernel)
set_option maxRecDepth 20000 in
theorem gX4_init_X3_init_n31 : GoodIn wsX4_init (wsX3_init) := ggX4_init_X3_init
theorem dX4_init_0 : decode cX4_init 0 = .ok (.aload_n 0, 1) := by decide +kernel
theorem dX4_init_1 : decode cX4_init 1 = .ok (.invokespecial 3, 3) := by decide +kernel
theorem dX4_init_4 : decode cX4_init 4 = .ok (.aload_n 0, 1) := by decide +kernel
theorem dX4_init_5 : decode cX4_init 5 = .ok (.iconst 0, 1) := by decide +kernel
theorem dX4_init_6 : decode cX4_init 6 = .ok (.putfield 9, 3) := by decide +kernel
theorem dX4_init_9 : decode cX4_init 9 = .ok (.aload_n 0, 1) := by decide +kernel
theorem dX4_init_10 : decode cX4_init 10 = .ok (.iconst 4, 1) := by decide +kernel
theorem dX4_init_11 : decode cX4_init 11 = .ok (.putfield 15, 3) := by decide +kernel
theorem dX4_init_14 : decode cX4_init 14 = .ok (.aload_n 0, 1) := by decide +kernel
theorem dX4_init_15 : decode cX4_init 15 = .ok (.iconst 0, 1) := by decide +kernel
theorem dX4_init_16 : decode cX4_init 16 = .ok (.putfield 18, 3) := by decide +kernel
theorem dX4_init_19 : decode cX4_init 19 = .ok (.aload_n 0, 1) := by decide +kernel
theorem dX4_init_20 : decode cX4_init 20 = .ok (.bipush 8, 2) := by decide +kernel
theorem dX4_init_22 : decode cX4_init 22 = .ok (.anewarray 22, 3) := by decide +kernel
theorem dX4_init_25 : decode cX4_init 25 = .ok (.putfield 24, 3) := by decide +kernel
theorem dX4_init_28 : decode cX4_init 28 = .ok (.aload_n 0, 1) := by decide +kernel
theorem dX4_init_29 : decode cX4_init 29 = .ok (.iconst 0, 1) := by decide +kernel
theorem dX4_init_30 : decode cX4_init 30 = .ok (.putfield 28, 3) := by decide +kernel
theorem dX4_init_33 : decode cX4_init 33 = .ok (.iconst 0, 1) := by decide +kernel
theorem dX4_init_34 : decode cX4_init 34 = .ok (.istore_n 1, 1) := by decide +kernel
theorem dX4_init_35 : decode cX4_init 35 = .ok (.iload_n 1, 1) := by decide +kernel
theorem dX4_init_36 : decode cX4_init 36 = .ok (.bipush 8, 2) := by decide +kernel
theorem dX4_init_38 : decode cX4_init 38 = .ok (.if_icmp .ge 22, 3) := by decide +kernel
theorem dX4_init_41 : decode cX4_init 41 = .ok (.aload_n 0, 1) := by decide +kernel
theorem dX4_init_42 : decode cX4_init 42 = .ok (.getfield 24, 3) := by decide +kernel
theorem dX4_init_45 : decode cX4_init 45 = .ok (.iload_n 1, 1) := by decide +kernel
theorem dX4_init_46 : decode cX4_init 46 = .ok (.new 22, 3) := by decide +kernel
theorem dX4_init_49 : decode cX4_init 49 = .ok (.dup, 1) := by decide +kernel
theorem dX4_init_50 : decode cX4_init 50 = .ok (.invokespecial 31, 3) := by decide +kernel
theorem dX4_init_53 : decode cX4_init 53 = .ok (.aastore, 1) := by decide +kernel
theorem dX4_init_54 : decode cX4_init 54 = .ok (.iinc 1 1, 3) := by decide +kernel
theorem dX4_init_57 : decode cX4_init 57 = .ok (.goto (-22), 3) := by decide +kernel
theorem dX4_init_60 : decode cX4_init 60 = .ok (.return_, 1) := by decide +kernel
set_option maxRecDepth 20000 in
theorem ggX4_open_X2_topicBase : GoodIn wsX4_open wsX2_topicBase := goodIn_r _ [6, 7, 8, 5, 9, 10, 11, 12, 13, 14, 15, 16] (by decide +kernel) (by decide +kernel)
set_option maxRecDepth 20000 in
theorem gX4_open_X2_topicBase : GoodIn wsX4_open (va_wsS RX4 32 yX2_topicBase wsX2_topicBase) := goodIn_app (goodIn_of _ (by decide +kernel)) ggX4_open_X2_topicBase
theorem dX4_open_0 : decode cX4_open 0 = .ok (.aload_n 0, 1) := by decide +kernel
theorem dX4_open_1 : decode cX4_open 1 = .ok (.iload_n 1, 1) := by decide +kernel
theorem dX4_open_2 : decode cX4_open 2 = .ok (.putfield 9, 3) := by decide +kernel
theorem dX4_open_5 : decode cX4_open 5 = .ok (.aload_n 0, 1) := by decide +kernel
theorem dX4_open_6 : decode cX4_open 6 = .ok (.iload_n 1, 1) := by decide +kernel
theorem dX4_open_7 : decode cX4_open 7 = .ok (.invokestatic 32, 3) := by decide +kernel
theorem dX4_open_10 : decode cX4_open 10 = .ok (.putfield 15, 3) := by decide +kernel
theorem dX4_open_13 : decode cX4_open 13 = .ok (.return_, 1) := by decide +kernel
theorem dX4_hasAmongFirst_0 : decode cX4_hasAmongFirst 0 = .ok (.iconst 0, 1) := by decide +kernel
theorem dX4_hasAmongFirst_1 : decode cX4_hasAmongFirst 1 = .ok (.istore_n 3, 1) := by decide +kernel
theorem dX4_hasAmongFirst_2 : decode cX4_hasAmongFirst 2 = .ok (.iload_n 3, 1) := by decide +kernel
theorem dX4_hasAmongFirst_3 : decode cX4_hasAmongFirst 3 = .ok (.iload_n 1, 1) := by decide +kernel
theorem dX4_hasAmongFirst_4 : decode cX4_hasAmongFirst 4 = .ok (.if_icmp .ge 34, 3) := by decide +kernel
theorem dX4_hasAmongFirst_7 : decode cX4_hasAmongFirst 7 = .ok (.iload_n 3, 1) := by decide +kernel
theorem dX4_hasAmongFirst_8 : decode cX4_hasAmongFirst 8 = .ok (.aload_n 0, 1) := by decide +kernel
theorem dX4_hasAmongFirst_9 : decode cX4_hasAmongFirst 9 = .ok (.getfield 28, 3) := by decide +kernel
theorem dX4_hasAmongFirst_12 : decode cX4_hasAmongFirst 12 = .ok (.if_icmp .ge 26, 3) := by decide +kernel
theorem dX4_hasAmongFirst_15 : decode cX4_hasAmongFirst 15 = .ok (.aload_n 0, 1) := by decide +kernel
theorem dX4_hasAmongFirst_16 : decode cX4_hasAmongFirst 16 = .ok (.getfield 24, 3) := by decide +kernel
theorem dX4_hasAmongFirst_19 : decode cX4_hasAmongFirst 19 = .ok (.iload_n 3, 1) := by decide +kernel
theorem dX4_hasAmongFirst_20 : decode cX4_hasAmongFirst 20 = .ok (.aaload, 1) := by decide +kernel
theorem dX4_hasAmongFirst_21 : decode cX4_hasAmongFirst 21 = .ok (.getfield 37, 3) := by decide +kernel
theorem dX4_hasAmongFirst_24 : decode cX4_hasAmongFirst 24 = .ok (.iconst 1, 1) := by decide +kernel
theorem dX4_hasAmongFirst_25 : decode cX4_hasAmongFirst 25 = .ok (.iaload, 1) := by decide +kernel
theorem dX4_hasAmongFirst_26 : decode cX4_hasAmongFirst 26 = .ok (.iload_n 2, 1) := by decide +kernel
theorem dX4_hasAmongFirst_27 : decode cX4_hasAmongFirst 27 = .ok (.if_icmp .ne 5, 3) := by decide +kernel
theorem dX4_hasAmongFirst_30 : decode cX4_hasAmongFirst 30 = .ok (.iconst 1, 1) := by decide +kernel
theorem dX4_hasAmongFirst_31 : decode cX4_hasAmongFirst 31 = .ok (.ireturn, 1) := by decide +kernel
theorem dX4_hasAmongFirst_32 : decode cX4_hasAmongFirst 32 = .ok (.iinc 3 1, 3) := by decide +kernel
theorem dX4_hasAmongFirst_35 : decode cX4_hasAmongFirst 35 = .ok (.goto (-33), 3) := by decide +kernel
theorem dX4_hasAmongFirst_38 : decode cX4_hasAmongFirst 38 = .ok (.iconst 0, 1) := by decide +kernel
theorem dX4_hasAmongFirst_39 : decode cX4_hasAmongFirst 39 = .ok (.ireturn, 1) := by decide +kernel
set_option maxRecDepth 20000 in
theorem ggX4_store_X3_copyNumbers : GoodIn wsX4_store wsX3_copyNumbers := goodIn_r _ [7, 8, 9, 10, 11, 12, 13, 19, 20, 21, 22] (by decide +kernel) (by decide +kernel)
set_option maxRecDepth 20000 in
theorem gX4_store_X3_copyNumbers : GoodIn wsX4_store (wsV RX4 41 RX3 yX3_copyNumbers wsX3_copyNumbers) := goodIn_app (goodIn_of _ (by decide +kernel)) ggX4_store_X3_copyNumbers
theorem dX4_store_0 : decode cX4_store 0 = .ok (.aload_n 0, 1) := by decide +kernel
theorem dX4_store_1 : decode cX4_store 1 = .ok (.getfield 28, 3) := by decide +kernel
theorem dX4_store_4 : decode cX4_store 4 = .ok (.bipush 8, 2) := by decide +kernel
theorem dX4_store_6 : decode cX4_store 6 = .ok (.if_icmp .ge 42, 3) := by decide +kernel
theorem dX4_store_9 : decode cX4_store 9 = .ok (.aload_n 0, 1) := by decide +kernel
theorem dX4_store_10 : decode cX4_store 10 = .ok (.getfield 24, 3) := by decide +kernel
theorem dX4_store_13 : decode cX4_store 13 = .ok (.aload_n 0, 1) := by decide +kernel
theorem dX4_store_14 : decode cX4_store 14 = .ok (.getfield 28, 3) := by decide +kernel
theorem dX4_store_17 : decode cX4_store 17 = .ok (.aaload, 1) := by decide +kernel
theorem dX4_store_18 : decode cX4_store 18 = .ok (.astore 4, 2) := by decide +kernel
theorem dX4_store_20 : decode cX4_store 20 = .ok (.aload 4, 2) := by decide +kernel
theorem dX4_store_22 : decode cX4_store 22 = .ok (.aload_n 1, 1) := by decide +kernel
theorem dX4_store_23 : decode cX4_store 23 = .ok (.invokevirtual 41, 3) := by decide +kernel
theorem dX4_store_26 : decode cX4_store 26 = .ok (.aload 4, 2) := by decide +kernel
theorem dX4_store_28 : decode cX4_store 28 = .ok (.iload_n 2, 1) := by decide +kernel
theorem dX4_store_29 : decode cX4_store 29 = .ok (.putfield 45, 3) := by decide +kernel
theorem dX4_store_32 : decode cX4_store 32 = .ok (.aload 4, 2) := by decide +kernel
theorem dX4_store_34 : decode cX4_store 34 = .ok (.iload_n 3, 1) := by decide +kernel
theorem dX4_store_35 : decode cX4_store 35 = .ok (.putfield 48, 3) := by decide +kernel
theorem dX4_store_38 : decode cX4_store 38 = .ok (.aload_n 0, 1) := by decide +kernel
theorem dX4_store_39 : decode cX4_store 39 = .ok (.dup, 1) := by decide +kernel
theorem dX4_store_40 : decode cX4_store 40 = .ok (.getfield 28, 3) := by decide +kernel
theorem dX4_store_43 : decode cX4_store 43 = .ok (.iconst 1, 1) := by decide +kernel
theorem dX4_store_44 : decode cX4_store 44 = .ok (.iadd, 1) := by decide +kernel
theorem dX4_store_45 : decode cX4_store 45 = .ok (.putfield 28, 3) := by decide +kernel
theorem dX4_store_48 : decode cX4_store 48 = .ok (.return_, 1) := by decide +kernel
set_option maxRecDepth 20000 in
theorem ggX5_init_X1_init : GoodIn wsX5_init wsX1_init := goodIn_r _ [27, 28, 2, 3, 29, 17, 30, 48, 49] (by decide +kernel) (by decide +kernel)
set_option maxRecDepth 20000 in
theorem gX5_init_X1_init : GoodIn wsX5_init (wsX1_init) := ggX5_init_X1_init
set_option maxRecDepth 20000 in
theorem ggX5_init_X3_init : GoodIn wsX5_init wsX3_init := goodIn_r _ [32, 33, 2, 3, 17, 34, 35, 36, 37, 61, 62, 63, 64] (by decide +kernel) (by decide +kernel)
set_option maxRecDepth 20000 in
theorem gX5_init_X3_init_n37 : GoodIn wsX5_init (wsX3_init) := ggX5_init_X3_init
set_option maxRecDepth 20000 in
theorem ggX5_init_X4_init : GoodIn wsX5_init wsX4_init := goodIn_r _ [40, 41, 2, 3, 42, 43, 44, 45, 46, 47, 14, 15, 31, 32, 33, 17, 34, 35, 36, 37, 65, 66, 67, 68, 69, 61, 62, 63, 64] (by decide +kernel) (by decide +kernel)
set_option maxRecDepth 20000 in
theorem gX5_init_X4_init : GoodIn wsX5_init (wsX4_init) := ggX5_init_X4_init
