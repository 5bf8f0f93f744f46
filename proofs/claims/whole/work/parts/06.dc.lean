theorem dX6_init_0 : decode cX6_init 0 = .ok (.aload_n 0, 1) := by decide +kernel
theorem dX6_init_1 : decode cX6_init 1 = .ok (.invokespecial 1, 3) := by decide +kernel
theorem dX6_init_4 : decode cX6_init 4 = .ok (.aload_n 0, 1) := by decide +kernel
theorem dX6_init_5 : decode cX6_init 5 = .ok (.sipush 1013, 3) := by decide +kernel
theorem dX6_init_8 : decode cX6_init 8 = .ok (.newarray .int, 2) := by decide +kernel
theorem dX6_init_10 : decode cX6_init 10 = .ok (.putfield 7, 3) := by decide +kernel
theorem dX6_init_13 : decode cX6_init 13 = .ok (.aload_n 0, 1) := by decide +kernel
theorem dX6_init_14 : decode cX6_init 14 = .ok (.sipush 2027, 3) := by decide +kernel
theorem dX6_init_17 : decode cX6_init 17 = .ok (.newarray .int, 2) := by decide +kernel
theorem dX6_init_19 : decode cX6_init 19 = .ok (.putfield 13, 3) := by decide +kernel
theorem dX6_init_22 : decode cX6_init 22 = .ok (.aload_n 0, 1) := by decide +kernel
theorem dX6_init_23 : decode cX6_init 23 = .ok (.bipush 12, 2) := by decide +kernel
theorem dX6_init_25 : decode cX6_init 25 = .ok (.newarray .int, 2) := by decide +kernel
theorem dX6_init_27 : decode cX6_init 27 = .ok (.putfield 16, 3) := by decide +kernel
theorem dX6_init_30 : decode cX6_init 30 = .ok (.aload_n 0, 1) := by decide +kernel
theorem dX6_init_31 : decode cX6_init 31 = .ok (.bipush 8, 2) := by decide +kernel
theorem dX6_init_33 : decode cX6_init 33 = .ok (.newarray .int, 2) := by decide +kernel
theorem dX6_init_35 : decode cX6_init 35 = .ok (.putfield 19, 3) := by decide +kernel
theorem dX6_init_38 : decode cX6_init 38 = .ok (.aload_n 0, 1) := by decide +kernel
theorem dX6_init_39 : decode cX6_init 39 = .ok (.bipush 48, 2) := by decide +kernel
theorem dX6_init_41 : decode cX6_init 41 = .ok (.newarray .int, 2) := by decide +kernel
theorem dX6_init_43 : decode cX6_init 43 = .ok (.putfield 22, 3) := by decide +kernel
theorem dX6_init_46 : decode cX6_init 46 = .ok (.aload_n 0, 1) := by decide +kernel
theorem dX6_init_47 : decode cX6_init 47 = .ok (.bipush 6, 2) := by decide +kernel
theorem dX6_init_49 : decode cX6_init 49 = .ok (.newarray .int, 2) := by decide +kernel
theorem dX6_init_51 : decode cX6_init 51 = .ok (.putfield 25, 3) := by decide +kernel
theorem dX6_init_54 : decode cX6_init 54 = .ok (.aload_n 0, 1) := by decide +kernel
theorem dX6_init_55 : decode cX6_init 55 = .ok (.bipush 6, 2) := by decide +kernel
theorem dX6_init_57 : decode cX6_init 57 = .ok (.newarray .int, 2) := by decide +kernel
theorem dX6_init_59 : decode cX6_init 59 = .ok (.putfield 28, 3) := by decide +kernel
theorem dX6_init_62 : decode cX6_init 62 = .ok (.aload_n 0, 1) := by decide +kernel
theorem dX6_init_63 : decode cX6_init 63 = .ok (.bipush 6, 2) := by decide +kernel
theorem dX6_init_65 : decode cX6_init 65 = .ok (.newarray .boolean, 2) := by decide +kernel
theorem dX6_init_67 : decode cX6_init 67 = .ok (.putfield 31, 3) := by decide +kernel
theorem dX6_init_70 : decode cX6_init 70 = .ok (.aload_n 0, 1) := by decide +kernel
theorem dX6_init_71 : decode cX6_init 71 = .ok (.bipush 6, 2) := by decide +kernel
theorem dX6_init_73 : decode cX6_init 73 = .ok (.newarray .int, 2) := by decide +kernel
theorem dX6_init_75 : decode cX6_init 75 = .ok (.putfield 35, 3) := by decide +kernel
theorem dX6_init_78 : decode cX6_init 78 = .ok (.aload_n 0, 1) := by decide +kernel
theorem dX6_init_79 : decode cX6_init 79 = .ok (.bipush 48, 2) := by decide +kernel
theorem dX6_init_81 : decode cX6_init 81 = .ok (.newarray .int, 2) := by decide +kernel
theorem dX6_init_83 : decode cX6_init 83 = .ok (.putfield 38, 3) := by decide +kernel
theorem dX6_init_86 : decode cX6_init 86 = .ok (.aload_n 0, 1) := by decide +kernel
theorem dX6_init_87 : decode cX6_init 87 = .ok (.bipush 48, 2) := by decide +kernel
theorem dX6_init_89 : decode cX6_init 89 = .ok (.newarray .int, 2) := by decide +kernel
theorem dX6_init_91 : decode cX6_init 91 = .ok (.putfield 41, 3) := by decide +kernel
theorem dX6_init_94 : decode cX6_init 94 = .ok (.aload_n 0, 1) := by decide +kernel
theorem dX6_init_95 : decode cX6_init 95 = .ok (.sipush 384, 3) := by decide +kernel
theorem dX6_init_98 : decode cX6_init 98 = .ok (.newarray .int, 2) := by decide +kernel
theorem dX6_init_100 : decode cX6_init 100 = .ok (.putfield 44, 3) := by decide +kernel
theorem dX6_init_103 : decode cX6_init 103 = .ok (.aload_n 0, 1) := by decide +kernel
theorem dX6_init_104 : decode cX6_init 104 = .ok (.iconst 2, 1) := by decide +kernel
theorem dX6_init_105 : decode cX6_init 105 = .ok (.putfield 47, 3) := by decide +kernel
theorem dX6_init_108 : decode cX6_init 108 = .ok (.aload_n 0, 1) := by decide +kernel
theorem dX6_init_109 : decode cX6_init 109 = .ok (.bipush 8, 2) := by decide +kernel
theorem dX6_init_111 : decode cX6_init 111 = .ok (.newarray .int, 2) := by decide +kernel
theorem dX6_init_113 : decode cX6_init 113 = .ok (.putfield 51, 3) := by decide +kernel
theorem dX6_init_116 : decode cX6_init 116 = .ok (.aload_n 0, 1) := by decide +kernel
theorem dX6_init_117 : decode cX6_init 117 = .ok (.sipush 200, 3) := by decide +kernel
theorem dX6_init_120 : decode cX6_init 120 = .ok (.newarray .int, 2) := by decide +kernel
theorem dX6_init_122 : decode cX6_init 122 = .ok (.putfield 54, 3) := by decide +kernel
theorem dX6_init_125 : decode cX6_init 125 = .ok (.aload_n 0, 1) := by decide +kernel
theorem dX6_init_126 : decode cX6_init 126 = .ok (.bipush 6, 2) := by decide +kernel
theorem dX6_init_128 : decode cX6_init 128 = .ok (.newarray .int, 2) := by decide +kernel
theorem dX6_init_130 : decode cX6_init 130 = .ok (.putfield 57, 3) := by decide +kernel
theorem dX6_init_133 : decode cX6_init 133 = .ok (.aload_n 0, 1) := by decide +kernel
theorem dX6_init_134 : decode cX6_init 134 = .ok (.bipush 8, 2) := by decide +kernel
theorem dX6_init_136 : decode cX6_init 136 = .ok (.newarray .int, 2) := by decide +kernel
theorem dX6_init_138 : decode cX6_init 138 = .ok (.putfield 60, 3) := by decide +kernel
theorem dX6_init_141 : decode cX6_init 141 = .ok (.iconst 0, 1) := by decide +kernel
theorem dX6_init_142 : decode cX6_init 142 = .ok (.istore_n 1, 1) := by decide +kernel
theorem dX6_init_143 : decode cX6_init 143 = .ok (.iload_n 1, 1) := by decide +kernel
theorem dX6_init_144 : decode cX6_init 144 = .ok (.sipush 2027, 3) := by decide +kernel
theorem dX6_init_147 : decode cX6_init 147 = .ok (.if_icmp .ge 16, 3) := by decide +kernel
theorem dX6_init_150 : decode cX6_init 150 = .ok (.aload_n 0, 1) := by decide +kernel
theorem dX6_init_151 : decode cX6_init 151 = .ok (.getfield 13, 3) := by decide +kernel
theorem dX6_init_154 : decode cX6_init 154 = .ok (.iload_n 1, 1) := by decide +kernel
theorem dX6_init_155 : decode cX6_init 155 = .ok (.iconst (-1), 1) := by decide +kernel
theorem dX6_init_156 : decode cX6_init 156 = .ok (.iastore, 1) := by decide +kernel
theorem dX6_init_157 : decode cX6_init 157 = .ok (.iinc 1 1, 3) := by decide +kernel
theorem dX6_init_160 : decode cX6_init 160 = .ok (.goto (-17), 3) := by decide +kernel
theorem dX6_init_163 : decode cX6_init 163 = .ok (.iconst 1, 1) := by decide +kernel
theorem dX6_init_164 : decode cX6_init 164 = .ok (.istore_n 1, 1) := by decide +kernel
theorem dX6_init_165 : decode cX6_init 165 = .ok (.iconst 0, 1) := by decide +kernel
theorem dX6_init_166 : decode cX6_init 166 = .ok (.istore_n 2, 1) := by decide +kernel
theorem dX6_init_167 : decode cX6_init 167 = .ok (.iload_n 2, 1) := by decide +kernel
theorem dX6_init_168 : decode cX6_init 168 = .ok (.sipush 1013, 3) := by decide +kernel
theorem dX6_init_171 : decode cX6_init 171 = .ok (.if_icmp .ge 31, 3) := by decide +kernel
theorem dX6_init_174 : decode cX6_init 174 = .ok (.aload_n 0, 1) := by decide +kernel
theorem dX6_init_175 : decode cX6_init 175 = .ok (.getfield 7, 3) := by decide +kernel
theorem dX6_init_178 : decode cX6_init 178 = .ok (.iload_n 2, 1) := by decide +kernel
theorem dX6_init_179 : decode cX6_init 179 = .ok (.iload_n 1, 1) := by decide +kernel
theorem dX6_init_180 : decode cX6_init 180 = .ok (.iastore, 1) := by decide +kernel
theorem dX6_init_181 : decode cX6_init 181 = .ok (.aload_n 0, 1) := by decide +kernel
theorem dX6_init_182 : decode cX6_init 182 = .ok (.getfield 13, 3) := by decide +kernel
theorem dX6_init_185 : decode cX6_init 185 = .ok (.iload_n 1, 1) := by decide +kernel
theorem dX6_init_186 : decode cX6_init 186 = .ok (.iload_n 2, 1) := by decide +kernel
theorem dX6_init_187 : decode cX6_init 187 = .ok (.iastore, 1) := by decide +kernel
theorem dX6_init_188 : decode cX6_init 188 = .ok (.iload_n 1, 1) := by decide +kernel
theorem dX6_init_189 : decode cX6_init 189 = .ok (.iconst 4, 1) := by decide +kernel
theorem dX6_init_190 : decode cX6_init 190 = .ok (.imul, 1) := by decide +kernel
theorem dX6_init_191 : decode cX6_init 191 = .ok (.sipush 2027, 3) := by decide +kernel
theorem dX6_init_194 : decode cX6_init 194 = .ok (.irem, 1) := by decide +kernel
theorem dX6_init_195 : decode cX6_init 195 = .ok (.istore_n 1, 1) := by decide +kernel
theorem dX6_init_196 : decode cX6_init 196 = .ok (.iinc 2 1, 3) := by decide +kernel
theorem dX6_init_199 : decode cX6_init 199 = .ok (.goto (-32), 3) := by decide +kernel
theorem dX6_init_202 : decode cX6_init 202 = .ok (.return_, 1) := by decide +kernel
theorem dX6_thrown_0 : decode cX6_thrown 0 = .ok (.aload_n 0, 1) := by decide +kernel
theorem dX6_thrown_1 : decode cX6_thrown 1 = .ok (.getfield 63, 3) := by decide +kernel
theorem dX6_thrown_4 : decode cX6_thrown 4 = .ok (.ireturn, 1) := by decide +kernel
theorem dX6_isKey_0 : decode cX6_isKey 0 = .ok (.iload_n 1, 1) := by decide +kernel
theorem dX6_isKey_1 : decode cX6_isKey 1 = .ok (.iconst 1, 1) := by decide +kernel
theorem dX6_isKey_2 : decode cX6_isKey 2 = .ok (.if_icmp .le 23, 3) := by decide +kernel
theorem dX6_isKey_5 : decode cX6_isKey 5 = .ok (.iload_n 1, 1) := by decide +kernel
theorem dX6_isKey_6 : decode cX6_isKey 6 = .ok (.sipush 2027, 3) := by decide +kernel
theorem dX6_isKey_9 : decode cX6_isKey 9 = .ok (.if_icmp .ge 16, 3) := by decide +kernel
theorem dX6_isKey_12 : decode cX6_isKey 12 = .ok (.aload_n 0, 1) := by decide +kernel
theorem dX6_isKey_13 : decode cX6_isKey 13 = .ok (.getfield 13, 3) := by decide +kernel
theorem dX6_isKey_16 : decode cX6_isKey 16 = .ok (.iload_n 1, 1) := by decide +kernel
theorem dX6_isKey_17 : decode cX6_isKey 17 = .ok (.iaload, 1) := by decide +kernel
theorem dX6_isKey_18 : decode cX6_isKey 18 = .ok (.ifCond .le 7, 3) := by decide +kernel
theorem dX6_isKey_21 : decode cX6_isKey 21 = .ok (.iconst 1, 1) := by decide +kernel
theorem dX6_isKey_22 : decode cX6_isKey 22 = .ok (.goto 4, 3) := by decide +kernel
theorem dX6_isKey_25 : decode cX6_isKey 25 = .ok (.iconst 0, 1) := by decide +kernel
theorem dX6_isKey_26 : decode cX6_isKey 26 = .ok (.ireturn, 1) := by decide +kernel
theorem dX6_mix_0 : decode cX6_mix 0 = .ok (.aload_n 0, 1) := by decide +kernel
theorem dX6_mix_1 : decode cX6_mix 1 = .ok (.aload_n 0, 1) := by decide +kernel
theorem dX6_mix_2 : decode cX6_mix 2 = .ok (.getfield 66, 3) := by decide +kernel
theorem dX6_mix_5 : decode cX6_mix 5 = .ok (.iload_n 1, 1) := by decide +kernel
theorem dX6_mix_6 : decode cX6_mix 6 = .ok (.ixor, 1) := by decide +kernel
theorem dX6_mix_7 : decode cX6_mix 7 = .ok (.ldc 69, 2) := by decide +kernel
theorem dX6_mix_9 : decode cX6_mix 9 = .ok (.imul, 1) := by decide +kernel
theorem dX6_mix_10 : decode cX6_mix 10 = .ok (.putfield 66, 3) := by decide +kernel
theorem dX6_mix_13 : decode cX6_mix 13 = .ok (.aload_n 0, 1) := by decide +kernel
theorem dX6_mix_14 : decode cX6_mix 14 = .ok (.aload_n 0, 1) := by decide +kernel
theorem dX6_mix_15 : decode cX6_mix 15 = .ok (.getfield 66, 3) := by decide +kernel
theorem dX6_mix_18 : decode cX6_mix 18 = .ok (.aload_n 0, 1) := by decide +kernel
theorem dX6_mix_19 : decode cX6_mix 19 = .ok (.getfield 66, 3) := by decide +kernel
theorem dX6_mix_22 : decode cX6_mix 22 = .ok (.bipush 15, 2) := by decide +kernel
theorem dX6_mix_24 : decode cX6_mix 24 = .ok (.iushr, 1) := by decide +kernel
theorem dX6_mix_25 : decode cX6_mix 25 = .ok (.ixor, 1) := by decide +kernel
theorem dX6_mix_26 : decode cX6_mix 26 = .ok (.putfield 66, 3) := by decide +kernel
theorem dX6_mix_29 : decode cX6_mix 29 = .ok (.return_, 1) := by decide +kernel
theorem dX6_rest_0 : decode cX6_rest 0 = .ok (.aload_n 0, 1) := by decide +kernel
theorem dX6_rest_1 : decode cX6_rest 1 = .ok (.getfield 66, 3) := by decide +kernel
theorem dX6_rest_4 : decode cX6_rest 4 = .ok (.iconst 1, 1) := by decide +kernel
theorem dX6_rest_5 : decode cX6_rest 5 = .ok (.iushr, 1) := by decide +kernel
theorem dX6_rest_6 : decode cX6_rest 6 = .ok (.sipush 1013, 3) := by decide +kernel
theorem dX6_rest_9 : decode cX6_rest 9 = .ok (.irem, 1) := by decide +kernel
theorem dX6_rest_10 : decode cX6_rest 10 = .ok (.ireturn, 1) := by decide +kernel
theorem dX6_both_0 : decode cX6_both 0 = .ok (.aload_n 0, 1) := by decide +kernel
theorem dX6_both_1 : decode cX6_both 1 = .ok (.getfield 7, 3) := by decide +kernel
theorem dX6_both_4 : decode cX6_both 4 = .ok (.aload_n 0, 1) := by decide +kernel
theorem dX6_both_5 : decode cX6_both 5 = .ok (.getfield 13, 3) := by decide +kernel
theorem dX6_both_8 : decode cX6_both 8 = .ok (.iload_n 1, 1) := by decide +kernel
theorem dX6_both_9 : decode cX6_both 9 = .ok (.iaload, 1) := by decide +kernel
theorem dX6_both_10 : decode cX6_both 10 = .ok (.iload_n 2, 1) := by decide +kernel
theorem dX6_both_11 : decode cX6_both 11 = .ok (.imul, 1) := by decide +kernel
theorem dX6_both_12 : decode cX6_both 12 = .ok (.aload_n 0, 1) := by decide +kernel
theorem dX6_both_13 : decode cX6_both 13 = .ok (.getfield 13, 3) := by decide +kernel
theorem dX6_both_16 : decode cX6_both 16 = .ok (.iload_n 3, 1) := by decide +kernel
theorem dX6_both_17 : decode cX6_both 17 = .ok (.iaload, 1) := by decide +kernel
theorem dX6_both_18 : decode cX6_both 18 = .ok (.iload 4, 2) := by decide +kernel
theorem dX6_both_20 : decode cX6_both 20 = .ok (.imul, 1) := by decide +kernel
theorem dX6_both_21 : decode cX6_both 21 = .ok (.iadd, 1) := by decide +kernel
theorem dX6_both_22 : decode cX6_both 22 = .ok (.sipush 1013, 3) := by decide +kernel
theorem dX6_both_25 : decode cX6_both 25 = .ok (.irem, 1) := by decide +kernel
theorem dX6_both_26 : decode cX6_both 26 = .ok (.iaload, 1) := by decide +kernel
theorem dX6_both_27 : decode cX6_both 27 = .ok (.ireturn, 1) := by decide +kernel
set_option maxRecDepth 20000 in
theorem ggX6_baseOf_X6_mix : GoodIn wsX6_baseOf wsX6_mix := goodIn_r _ [6, 1, 7, 13, 14, 15, 16, 17, 18, 19, 20, 21, 22, 23, 24, 25, 26, 27, 28, 29, 30, 31, 32, 33, 34, 35, 36, 37, 38, 39] (by decide +kernel) (by decide +kernel)
set_option maxRecDepth 20000 in
theorem gX6_baseOf_X6_mix : GoodIn wsX6_baseOf (wsV RX6 70 RX6 yX6_mix wsX6_mix) := goodIn_app (goodIn_of _ (by decide +kernel)) ggX6_baseOf_X6_mix
set_option maxRecDepth 20000 in
theorem ggX6_baseOf_X6_isKey : GoodIn wsX6_baseOf wsX6_isKey := goodIn_r _ [11, 12, 13, 14, 15, 16, 17, 18, 19, 20, 21, 22, 23, 24, 25, 26, 27, 28, 29, 30, 31, 32, 33, 34, 35, 36, 37, 38, 39] (by decide +kernel) (by decide +kernel)
set_option maxRecDepth 20000 in
theorem gX6_baseOf_X6_isKey : GoodIn wsX6_baseOf (wsV RX6 74 RX6 yX6_isKey wsX6_isKey) := goodIn_app (goodIn_of _ (by decide +kernel)) ggX6_baseOf_X6_isKey
theorem dX6_baseOf_0 : decode cX6_baseOf 0 = .ok (.iconst 0, 1) := by decide +kernel
theorem dX6_baseOf_1 : decode cX6_baseOf 1 = .ok (.istore_n 2, 1) := by decide +kernel
theorem dX6_baseOf_2 : decode cX6_baseOf 2 = .ok (.iload_n 2, 1) := by decide +kernel
theorem dX6_baseOf_3 : decode cX6_baseOf 3 = .ok (.bipush 64, 2) := by decide +kernel
theorem dX6_baseOf_5 : decode cX6_baseOf 5 = .ok (.if_icmp .ge 46, 3) := by decide +kernel
theorem dX6_baseOf_8 : decode cX6_baseOf 8 = .ok (.aload_n 0, 1) := by decide +kernel
theorem dX6_baseOf_9 : decode cX6_baseOf 9 = .ok (.bipush 17, 2) := by decide +kernel
theorem dX6_baseOf_11 : decode cX6_baseOf 11 = .ok (.putfield 66, 3) := by decide +kernel
theorem dX6_baseOf_14 : decode cX6_baseOf 14 = .ok (.aload_n 0, 1) := by decide +kernel
theorem dX6_baseOf_15 : decode cX6_baseOf 15 = .ok (.iload_n 1, 1) := by decide +kernel
theorem dX6_baseOf_16 : decode cX6_baseOf 16 = .ok (.invokevirtual 70, 3) := by decide +kernel
theorem dX6_baseOf_19 : decode cX6_baseOf 19 = .ok (.aload_n 0, 1) := by decide +kernel
theorem dX6_baseOf_20 : decode cX6_baseOf 20 = .ok (.iload_n 2, 1) := by decide +kernel
theorem dX6_baseOf_21 : decode cX6_baseOf 21 = .ok (.invokevirtual 70, 3) := by decide +kernel
theorem dX6_baseOf_24 : decode cX6_baseOf 24 = .ok (.aload_n 0, 1) := by decide +kernel
theorem dX6_baseOf_25 : decode cX6_baseOf 25 = .ok (.getfield 66, 3) := by decide +kernel
theorem dX6_baseOf_28 : decode cX6_baseOf 28 = .ok (.iconst 1, 1) := by decide +kernel
theorem dX6_baseOf_29 : decode cX6_baseOf 29 = .ok (.iushr, 1) := by decide +kernel
theorem dX6_baseOf_30 : decode cX6_baseOf 30 = .ok (.sipush 2027, 3) := by decide +kernel
theorem dX6_baseOf_33 : decode cX6_baseOf 33 = .ok (.irem, 1) := by decide +kernel
theorem dX6_baseOf_34 : decode cX6_baseOf 34 = .ok (.istore_n 3, 1) := by decide +kernel
theorem dX6_baseOf_35 : decode cX6_baseOf 35 = .ok (.aload_n 0, 1) := by decide +kernel
theorem dX6_baseOf_36 : decode cX6_baseOf 36 = .ok (.iload_n 3, 1) := by decide +kernel
theorem dX6_baseOf_37 : decode cX6_baseOf 37 = .ok (.invokevirtual 74, 3) := by decide +kernel
theorem dX6_baseOf_40 : decode cX6_baseOf 40 = .ok (.ifCond .eq 5, 3) := by decide +kernel
theorem dX6_baseOf_43 : decode cX6_baseOf 43 = .ok (.iload_n 3, 1) := by decide +kernel
theorem dX6_baseOf_44 : decode cX6_baseOf 44 = .ok (.ireturn, 1) := by decide +kernel
theorem dX6_baseOf_45 : decode cX6_baseOf 45 = .ok (.iinc 2 1, 3) := by decide +kernel
theorem dX6_baseOf_48 : decode cX6_baseOf 48 = .ok (.goto (-46), 3) := by decide +kernel
theorem dX6_baseOf_51 : decode cX6_baseOf 51 = .ok (.iconst 4, 1) := by decide +kernel
theorem dX6_baseOf_52 : decode cX6_baseOf 52 = .ok (.ireturn, 1) := by decide +kernel
set_option maxRecDepth 20000 in
theorem ggX6_challenge_X6_mix : GoodIn wsX6_challenge wsX6_mix := goodIn_r _ [11, 1, 12, 17, 18, 19, 20, 21, 22, 23, 24, 25, 26, 27, 28, 29, 30, 31, 32, 33, 34, 35, 36, 37, 38, 39, 40, 41, 42, 43] (by decide +kernel) (by decide +kernel)
set_option maxRecDepth 20000 in
theorem gX6_challenge_X6_mix : GoodIn wsX6_challenge (wsV RX6 70 RX6 yX6_mix wsX6_mix) := goodIn_app (goodIn_of _ (by decide +kernel)) ggX6_challenge_X6_mix
set_option maxRecDepth 20000 in
theorem ggX6_challenge_X6_rest : GoodIn wsX6_challenge wsX6_rest := goodIn_r _ [16, 1, 17, 18, 19, 20, 21, 22, 23, 24, 25, 26, 27, 28, 29, 30, 31, 32, 33, 34, 35, 36, 37, 38, 39, 40, 41, 42, 43] (by decide +kernel) (by decide +kernel)
set_option maxRecDepth 20000 in
theorem gX6_challenge_X6_rest : GoodIn wsX6_challenge (wsV RX6 87 RX6 yX6_rest wsX6_rest) := goodIn_app (goodIn_of _ (by decide +kernel)) ggX6_challenge_X6_rest
theorem dX6_challenge_0 : decode cX6_challenge 0 = .ok (.aload_n 0, 1) := by decide +kernel
theorem dX6_challenge_1 : decode cX6_challenge 1 = .ok (.bipush 17, 2) := by decide +kernel
theorem dX6_challenge_3 : decode cX6_challenge 3 = .ok (.putfield 66, 3) := by decide +kernel
theorem dX6_challenge_6 : decode cX6_challenge 6 = .ok (.aload_n 0, 1) := by decide +kernel
theorem dX6_challenge_7 : decode cX6_challenge 7 = .ok (.aload_n 0, 1) := by decide +kernel
theorem dX6_challenge_8 : decode cX6_challenge 8 = .ok (.getfield 78, 3) := by decide +kernel
theorem dX6_challenge_11 : decode cX6_challenge 11 = .ok (.invokevirtual 70, 3) := by decide +kernel
theorem dX6_challenge_14 : decode cX6_challenge 14 = .ok (.iconst 0, 1) := by decide +kernel
theorem dX6_challenge_15 : decode cX6_challenge 15 = .ok (.istore_n 3, 1) := by decide +kernel
theorem dX6_challenge_16 : decode cX6_challenge 16 = .ok (.iload_n 3, 1) := by decide +kernel
theorem dX6_challenge_17 : decode cX6_challenge 17 = .ok (.aload_n 0, 1) := by decide +kernel
theorem dX6_challenge_18 : decode cX6_challenge 18 = .ok (.getfield 78, 3) := by decide +kernel
theorem dX6_challenge_21 : decode cX6_challenge 21 = .ok (.if_icmp .ge 19, 3) := by decide +kernel
theorem dX6_challenge_24 : decode cX6_challenge 24 = .ok (.aload_n 0, 1) := by decide +kernel
theorem dX6_challenge_25 : decode cX6_challenge 25 = .ok (.aload_n 0, 1) := by decide +kernel
theorem dX6_challenge_26 : decode cX6_challenge 26 = .ok (.getfield 57, 3) := by decide +kernel
theorem dX6_challenge_29 : decode cX6_challenge 29 = .ok (.iload_n 3, 1) := by decide +kernel
theorem dX6_challenge_30 : decode cX6_challenge 30 = .ok (.iaload, 1) := by decide +kernel
theorem dX6_challenge_31 : decode cX6_challenge 31 = .ok (.invokevirtual 70, 3) := by decide +kernel
theorem dX6_challenge_34 : decode cX6_challenge 34 = .ok (.iinc 3 1, 3) := by decide +kernel
theorem dX6_challenge_37 : decode cX6_challenge 37 = .ok (.goto (-21), 3) := by decide +kernel
theorem dX6_challenge_40 : decode cX6_challenge 40 = .ok (.aload_n 0, 1) := by decide +kernel
theorem dX6_challenge_41 : decode cX6_challenge 41 = .ok (.aload_n 0, 1) := by decide +kernel
theorem dX6_challenge_42 : decode cX6_challenge 42 = .ok (.getfield 81, 3) := by decide +kernel
theorem dX6_challenge_45 : decode cX6_challenge 45 = .ok (.invokevirtual 70, 3) := by decide +kernel
theorem dX6_challenge_48 : decode cX6_challenge 48 = .ok (.aload_n 0, 1) := by decide +kernel
theorem dX6_challenge_49 : decode cX6_challenge 49 = .ok (.aload_n 0, 1) := by decide +kernel
theorem dX6_challenge_50 : decode cX6_challenge 50 = .ok (.getfield 84, 3) := by decide +kernel
theorem dX6_challenge_53 : decode cX6_challenge 53 = .ok (.invokevirtual 70, 3) := by decide +kernel
theorem dX6_challenge_56 : decode cX6_challenge 56 = .ok (.aload_n 0, 1) := by decide +kernel
theorem dX6_challenge_57 : decode cX6_challenge 57 = .ok (.aload_n 0, 1) := by decide +kernel
theorem dX6_challenge_58 : decode cX6_challenge 58 = .ok (.getfield 60, 3) := by decide +kernel
theorem dX6_challenge_61 : decode cX6_challenge 61 = .ok (.iconst 1, 1) := by decide +kernel
theorem dX6_challenge_62 : decode cX6_challenge 62 = .ok (.iaload, 1) := by decide +kernel
theorem dX6_challenge_63 : decode cX6_challenge 63 = .ok (.invokevirtual 70, 3) := by decide +kernel
theorem dX6_challenge_66 : decode cX6_challenge 66 = .ok (.aload_n 0, 1) := by decide +kernel
theorem dX6_challenge_67 : decode cX6_challenge 67 = .ok (.iload_n 1, 1) := by decide +kernel
theorem dX6_challenge_68 : decode cX6_challenge 68 = .ok (.invokevirtual 70, 3) := by decide +kernel
theorem dX6_challenge_71 : decode cX6_challenge 71 = .ok (.aload_n 0, 1) := by decide +kernel
theorem dX6_challenge_72 : decode cX6_challenge 72 = .ok (.iload_n 2, 1) := by decide +kernel
theorem dX6_challenge_73 : decode cX6_challenge 73 = .ok (.invokevirtual 70, 3) := by decide +kernel
theorem dX6_challenge_76 : decode cX6_challenge 76 = .ok (.aload_n 0, 1) := by decide +kernel
theorem dX6_challenge_77 : decode cX6_challenge 77 = .ok (.invokevirtual 87, 3) := by decide +kernel
theorem dX6_challenge_80 : decode cX6_challenge 80 = .ok (.ireturn, 1) := by decide +kernel
set_option maxRecDepth 20000 in
theorem ggX6_step_X6_both : GoodIn wsX6_step wsX6_both := goodIn_r _ [8, 9, 10, 28, 29, 30, 31, 32, 33, 34, 35, 36, 37, 38, 39, 40, 41, 42, 43, 44, 45, 46, 47, 48, 49, 50, 51, 52, 53, 54] (by decide +kernel) (by decide +kernel)
set_option maxRecDepth 20000 in
theorem gX6_step_X6_both : GoodIn wsX6_step (wsV RX6 91 RX6 yX6_both wsX6_both) := goodIn_app (goodIn_of _ (by decide +kernel)) ggX6_step_X6_both
set_option maxRecDepth 20000 in
theorem ggX6_step_X6_challenge : GoodIn wsX6_step wsX6_challenge := goodIn_r _ [14, 15, 16, 1, 17, 18, 3, 19, 20, 21, 7, 22, 23, 24, 25, 26, 27, 28, 29, 30, 31, 32, 33, 34, 35, 36, 37, 38, 39, 40, 41, 42, 43, 44, 45, 46, 47, 48, 49, 50, 51, 52, 53, 54] (by decide +kernel) (by decide +kernel)
set_option maxRecDepth 20000 in
theorem gX6_step_X6_challenge : GoodIn wsX6_step (wsV RX6 98 RX6 yX6_challenge wsX6_challenge) := goodIn_app (goodIn_of _ (by decide +kernel)) ggX6_step_X6_challenge
theorem dX6_step_0 : decode cX6_step 0 = .ok (.aload_n 0, 1) := by decide +kernel
theorem dX6_step_1 : decode cX6_step 1 = .ok (.aload_n 0, 1) := by decide +kernel
theorem dX6_step_2 : decode cX6_step 2 = .ok (.iconst 4, 1) := by decide +kernel
theorem dX6_step_3 : decode cX6_step 3 = .ok (.iload_n 3, 1) := by decide +kernel
theorem dX6_step_4 : decode cX6_step 4 = .ok (.aload_n 0, 1) := by decide +kernel
theorem dX6_step_5 : decode cX6_step 5 = .ok (.getfield 57, 3) := by decide +kernel
theorem dX6_step_8 : decode cX6_step 8 = .ok (.iload_n 2, 1) := by decide +kernel
theorem dX6_step_9 : decode cX6_step 9 = .ok (.iaload, 1) := by decide +kernel
theorem dX6_step_10 : decode cX6_step 10 = .ok (.iload_n 1, 1) := by decide +kernel
theorem dX6_step_11 : decode cX6_step 11 = .ok (.invokevirtual 91, 3) := by decide +kernel
theorem dX6_step_14 : decode cX6_step 14 = .ok (.aload_n 0, 1) := by decide +kernel
theorem dX6_step_15 : decode cX6_step 15 = .ok (.aload_n 0, 1) := by decide +kernel
theorem dX6_step_16 : decode cX6_step 16 = .ok (.getfield 95, 3) := by decide +kernel
theorem dX6_step_19 : decode cX6_step 19 = .ok (.iload_n 3, 1) := by decide +kernel
theorem dX6_step_20 : decode cX6_step 20 = .ok (.aload_n 0, 1) := by decide +kernel
theorem dX6_step_21 : decode cX6_step 21 = .ok (.getfield 60, 3) := by decide +kernel
theorem dX6_step_24 : decode cX6_step 24 = .ok (.iconst 1, 1) := by decide +kernel
theorem dX6_step_25 : decode cX6_step 25 = .ok (.iaload, 1) := by decide +kernel
theorem dX6_step_26 : decode cX6_step 26 = .ok (.iload_n 1, 1) := by decide +kernel
theorem dX6_step_27 : decode cX6_step 27 = .ok (.invokevirtual 91, 3) := by decide +kernel
theorem dX6_step_30 : decode cX6_step 30 = .ok (.invokevirtual 98, 3) := by decide +kernel
theorem dX6_step_33 : decode cX6_step 33 = .ok (.ireturn, 1) := by decide +kernel
theorem dX6_isRest_0 : decode cX6_isRest 0 = .ok (.iload_n 1, 1) := by decide +kernel
theorem dX6_isRest_1 : decode cX6_isRest 1 = .ok (.ifCond .lt 14, 3) := by decide +kernel
theorem dX6_isRest_4 : decode cX6_isRest 4 = .ok (.iload_n 1, 1) := by decide +kernel
theorem dX6_isRest_5 : decode cX6_isRest 5 = .ok (.sipush 1013, 3) := by decide +kernel
theorem dX6_isRest_8 : decode cX6_isRest 8 = .ok (.if_icmp .ge 7, 3) := by decide +kernel
theorem dX6_isRest_11 : decode cX6_isRest 11 = .ok (.iconst 1, 1) := by decide +kernel
theorem dX6_isRest_12 : decode cX6_isRest 12 = .ok (.goto 4, 3) := by decide +kernel
theorem dX6_isRest_15 : decode cX6_isRest 15 = .ok (.iconst 0, 1) := by decide +kernel
theorem dX6_isRest_16 : decode cX6_isRest 16 = .ok (.ireturn, 1) := by decide +kernel
set_option maxRecDepth 20000 in
theorem ggX6_isGood_X6_isRest : GoodIn wsX6_isGood wsX6_isRest := goodIn_r _ [7] (by decide +kernel) (by decide +kernel)
set_option maxRecDepth 20000 in
theorem gX6_isGood_X6_isRest : GoodIn wsX6_isGood (wsV RX6 102 RX6 yX6_isRest wsX6_isRest) := goodIn_app (goodIn_of _ (by decide +kernel)) ggX6_isGood_X6_isRest
set_option maxRecDepth 20000 in
theorem ggX6_isGood_X6_isKey : GoodIn wsX6_isGood wsX6_isKey := goodIn_r _ [11, 12, 40, 41, 42, 43, 44, 45, 46, 47, 48, 49, 50, 51, 52, 53, 54, 55, 56, 57, 58, 59, 60, 61, 62, 63, 64, 65, 66] (by decide +kernel) (by decide +kernel)
set_option maxRecDepth 20000 in
theorem gX6_isGood_X6_isKey : GoodIn wsX6_isGood (wsV RX6 74 RX6 yX6_isKey wsX6_isKey) := goodIn_app (goodIn_of _ (by decide +kernel)) ggX6_isGood_X6_isKey
set_option maxRecDepth 20000 in
theorem ggX6_isGood_X6_step : GoodIn wsX6_isGood wsX6_step := goodIn_r _ [16, 17, 18, 1, 19, 20, 21, 6, 22, 23, 12, 24, 25, 26, 27, 28, 2, 29, 30, 31, 32, 33, 34, 35, 36, 37, 38, 39, 40, 41, 42, 43, 44, 45, 46, 47, 48, 49, 50, 51, 52, 53, 54, 55, 56, 57, 58, 59, 60, 61, 62, 63, 64, 65, 66] (by decide +kernel) (by decide +kernel)
set_option maxRecDepth 20000 in
theorem gX6_isGood_X6_step : GoodIn wsX6_isGood (wsV RX6 105 RX6 yX6_step wsX6_step) := goodIn_app (goodIn_of _ (by decide +kernel)) ggX6_isGood_X6_step
theorem dX6_isGood_0 : decode cX6_isGood 0 = .ok (.aload_n 0, 1) := by decide +kernel
theorem dX6_isGood_1 : decode cX6_isGood 1 = .ok (.aload_n 0, 1) := by decide +kernel
theorem dX6_isGood_2 : decode cX6_isGood 2 = .ok (.getfield 60, 3) := by decide +kernel
theorem dX6_isGood_5 : decode cX6_isGood 5 = .ok (.iconst 0, 1) := by decide +kernel
theorem dX6_isGood_6 : decode cX6_isGood 6 = .ok (.iaload, 1) := by decide +kernel
theorem dX6_isGood_7 : decode cX6_isGood 7 = .ok (.invokevirtual 102, 3) := by decide +kernel
theorem dX6_isGood_10 : decode cX6_isGood 10 = .ok (.ifCond .eq 20, 3) := by decide +kernel
theorem dX6_isGood_13 : decode cX6_isGood 13 = .ok (.aload_n 0, 1) := by decide +kernel
theorem dX6_isGood_14 : decode cX6_isGood 14 = .ok (.aload_n 0, 1) := by decide +kernel
theorem dX6_isGood_15 : decode cX6_isGood 15 = .ok (.getfield 60, 3) := by decide +kernel
theorem dX6_isGood_18 : decode cX6_isGood 18 = .ok (.iconst 1, 1) := by decide +kernel
theorem dX6_isGood_19 : decode cX6_isGood 19 = .ok (.iaload, 1) := by decide +kernel
theorem dX6_isGood_20 : decode cX6_isGood 20 = .ok (.invokevirtual 74, 3) := by decide +kernel
theorem dX6_isGood_23 : decode cX6_isGood 23 = .ok (.ifCond .eq 7, 3) := by decide +kernel
theorem dX6_isGood_26 : decode cX6_isGood 26 = .ok (.iconst 1, 1) := by decide +kernel
theorem dX6_isGood_27 : decode cX6_isGood 27 = .ok (.goto 4, 3) := by decide +kernel
theorem dX6_isGood_30 : decode cX6_isGood 30 = .ok (.iconst 0, 1) := by decide +kernel
theorem dX6_isGood_31 : decode cX6_isGood 31 = .ok (.istore_n 1, 1) := by decide +kernel
theorem dX6_isGood_32 : decode cX6_isGood 32 = .ok (.iconst 0, 1) := by decide +kernel
theorem dX6_isGood_33 : decode cX6_isGood 33 = .ok (.istore_n 2, 1) := by decide +kernel
theorem dX6_isGood_34 : decode cX6_isGood 34 = .ok (.iload_n 2, 1) := by decide +kernel
theorem dX6_isGood_35 : decode cX6_isGood 35 = .ok (.aload_n 0, 1) := by decide +kernel
theorem dX6_isGood_36 : decode cX6_isGood 36 = .ok (.getfield 78, 3) := by decide +kernel
theorem dX6_isGood_39 : decode cX6_isGood 39 = .ok (.if_icmp .ge 34, 3) := by decide +kernel
theorem dX6_isGood_42 : decode cX6_isGood 42 = .ok (.iload_n 1, 1) := by decide +kernel
theorem dX6_isGood_43 : decode cX6_isGood 43 = .ok (.ifCond .eq 22, 3) := by decide +kernel
theorem dX6_isGood_46 : decode cX6_isGood 46 = .ok (.aload_n 0, 1) := by decide +kernel
theorem dX6_isGood_47 : decode cX6_isGood 47 = .ok (.aload_n 0, 1) := by decide +kernel
theorem dX6_isGood_48 : decode cX6_isGood 48 = .ok (.getfield 60, 3) := by decide +kernel
theorem dX6_isGood_51 : decode cX6_isGood 51 = .ok (.iconst 2, 1) := by decide +kernel
theorem dX6_isGood_52 : decode cX6_isGood 52 = .ok (.iload_n 2, 1) := by decide +kernel
theorem dX6_isGood_53 : decode cX6_isGood 53 = .ok (.iadd, 1) := by decide +kernel
theorem dX6_isGood_54 : decode cX6_isGood 54 = .ok (.iaload, 1) := by decide +kernel
theorem dX6_isGood_55 : decode cX6_isGood 55 = .ok (.invokevirtual 102, 3) := by decide +kernel
theorem dX6_isGood_58 : decode cX6_isGood 58 = .ok (.ifCond .eq 7, 3) := by decide +kernel
theorem dX6_isGood_61 : decode cX6_isGood 61 = .ok (.iconst 1, 1) := by decide +kernel
theorem dX6_isGood_62 : decode cX6_isGood 62 = .ok (.goto 4, 3) := by decide +kernel
theorem dX6_isGood_65 : decode cX6_isGood 65 = .ok (.iconst 0, 1) := by decide +kernel
theorem dX6_isGood_66 : decode cX6_isGood 66 = .ok (.istore_n 1, 1) := by decide +kernel
theorem dX6_isGood_67 : decode cX6_isGood 67 = .ok (.iinc 2 1, 3) := by decide +kernel
theorem dX6_isGood_70 : decode cX6_isGood 70 = .ok (.goto (-36), 3) := by decide +kernel
theorem dX6_isGood_73 : decode cX6_isGood 73 = .ok (.iload_n 1, 1) := by decide +kernel
theorem dX6_isGood_74 : decode cX6_isGood 74 = .ok (.ifCond .ne 5, 3) := by decide +kernel
theorem dX6_isGood_77 : decode cX6_isGood 77 = .ok (.iconst 0, 1) := by decide +kernel
theorem dX6_isGood_78 : decode cX6_isGood 78 = .ok (.ireturn, 1) := by decide +kernel
theorem dX6_isGood_79 : decode cX6_isGood 79 = .ok (.aload_n 0, 1) := by decide +kernel
theorem dX6_isGood_80 : decode cX6_isGood 80 = .ok (.getfield 60, 3) := by decide +kernel
theorem dX6_isGood_83 : decode cX6_isGood 83 = .ok (.iconst 0, 1) := by decide +kernel
theorem dX6_isGood_84 : decode cX6_isGood 84 = .ok (.iaload, 1) := by decide +kernel
theorem dX6_isGood_85 : decode cX6_isGood 85 = .ok (.istore_n 2, 1) := by decide +kernel
theorem dX6_isGood_86 : decode cX6_isGood 86 = .ok (.iconst 0, 1) := by decide +kernel
theorem dX6_isGood_87 : decode cX6_isGood 87 = .ok (.istore_n 3, 1) := by decide +kernel
theorem dX6_isGood_88 : decode cX6_isGood 88 = .ok (.iload_n 3, 1) := by decide +kernel
theorem dX6_isGood_89 : decode cX6_isGood 89 = .ok (.aload_n 0, 1) := by decide +kernel
theorem dX6_isGood_90 : decode cX6_isGood 90 = .ok (.getfield 78, 3) := by decide +kernel
theorem dX6_isGood_93 : decode cX6_isGood 93 = .ok (.if_icmp .ge 24, 3) := by decide +kernel
theorem dX6_isGood_96 : decode cX6_isGood 96 = .ok (.aload_n 0, 1) := by decide +kernel
theorem dX6_isGood_97 : decode cX6_isGood 97 = .ok (.iload_n 2, 1) := by decide +kernel
theorem dX6_isGood_98 : decode cX6_isGood 98 = .ok (.iload_n 3, 1) := by decide +kernel
theorem dX6_isGood_99 : decode cX6_isGood 99 = .ok (.aload_n 0, 1) := by decide +kernel
theorem dX6_isGood_100 : decode cX6_isGood 100 = .ok (.getfield 60, 3) := by decide +kernel
theorem dX6_isGood_103 : decode cX6_isGood 103 = .ok (.iconst 2, 1) := by decide +kernel
theorem dX6_isGood_104 : decode cX6_isGood 104 = .ok (.iload_n 3, 1) := by decide +kernel
theorem dX6_isGood_105 : decode cX6_isGood 105 = .ok (.iadd, 1) := by decide +kernel
theorem dX6_isGood_106 : decode cX6_isGood 106 = .ok (.iaload, 1) := by decide +kernel
theorem dX6_isGood_107 : decode cX6_isGood 107 = .ok (.invokevirtual 105, 3) := by decide +kernel
theorem dX6_isGood_110 : decode cX6_isGood 110 = .ok (.istore_n 2, 1) := by decide +kernel
theorem dX6_isGood_111 : decode cX6_isGood 111 = .ok (.iinc 3 1, 3) := by decide +kernel
theorem dX6_isGood_114 : decode cX6_isGood 114 = .ok (.goto (-26), 3) := by decide +kernel
theorem dX6_isGood_117 : decode cX6_isGood 117 = .ok (.iload_n 2, 1) := by decide +kernel
theorem dX6_isGood_118 : decode cX6_isGood 118 = .ok (.aload_n 0, 1) := by decide +kernel
theorem dX6_isGood_119 : decode cX6_isGood 119 = .ok (.getfield 60, 3) := by decide +kernel
theorem dX6_isGood_122 : decode cX6_isGood 122 = .ok (.iconst 0, 1) := by decide +kernel
theorem dX6_isGood_123 : decode cX6_isGood 123 = .ok (.iaload, 1) := by decide +kernel
theorem dX6_isGood_124 : decode cX6_isGood 124 = .ok (.if_icmp .ne 7, 3) := by decide +kernel
theorem dX6_isGood_127 : decode cX6_isGood 127 = .ok (.iconst 1, 1) := by decide +kernel
theorem dX6_isGood_128 : decode cX6_isGood 128 = .ok (.goto 4, 3) := by decide +kernel
theorem dX6_isGood_131 : decode cX6_isGood 131 = .ok (.iconst 0, 1) := by decide +kernel
theorem dX6_isGood_132 : decode cX6_isGood 132 = .ok (.ireturn, 1) := by decide +kernel
theorem dX6_look_0 : decode cX6_look 0 = .ok (.aload_n 0, 1) := by decide +kernel
theorem dX6_look_1 : decode cX6_look 1 = .ok (.aload_n 0, 1) := by decide +kernel
theorem dX6_look_2 : decode cX6_look 2 = .ok (.getfield 19, 3) := by decide +kernel
theorem dX6_look_5 : decode cX6_look 5 = .ok (.iload_n 1, 1) := by decide +kernel
theorem dX6_look_6 : decode cX6_look 6 = .ok (.iaload, 1) := by decide +kernel
theorem dX6_look_7 : decode cX6_look 7 = .ok (.putfield 78, 3) := by decide +kernel
theorem dX6_look_10 : decode cX6_look 10 = .ok (.iconst 0, 1) := by decide +kernel
theorem dX6_look_11 : decode cX6_look 11 = .ok (.istore 4, 2) := by decide +kernel
theorem dX6_look_13 : decode cX6_look 13 = .ok (.iload 4, 2) := by decide +kernel
theorem dX6_look_15 : decode cX6_look 15 = .ok (.aload_n 0, 1) := by decide +kernel
theorem dX6_look_16 : decode cX6_look 16 = .ok (.getfield 78, 3) := by decide +kernel
theorem dX6_look_19 : decode cX6_look 19 = .ok (.if_icmp .ge 28, 3) := by decide +kernel
theorem dX6_look_22 : decode cX6_look 22 = .ok (.aload_n 0, 1) := by decide +kernel
theorem dX6_look_23 : decode cX6_look 23 = .ok (.getfield 57, 3) := by decide +kernel
theorem dX6_look_26 : decode cX6_look 26 = .ok (.iload 4, 2) := by decide +kernel
theorem dX6_look_28 : decode cX6_look 28 = .ok (.aload_n 0, 1) := by decide +kernel
theorem dX6_look_29 : decode cX6_look 29 = .ok (.getfield 22, 3) := by decide +kernel
theorem dX6_look_32 : decode cX6_look 32 = .ok (.bipush 6, 2) := by decide +kernel
theorem dX6_look_34 : decode cX6_look 34 = .ok (.iload_n 1, 1) := by decide +kernel
theorem dX6_look_35 : decode cX6_look 35 = .ok (.imul, 1) := by decide +kernel
theorem dX6_look_36 : decode cX6_look 36 = .ok (.iload 4, 2) := by decide +kernel
theorem dX6_look_38 : decode cX6_look 38 = .ok (.iadd, 1) := by decide +kernel
theorem dX6_look_39 : decode cX6_look 39 = .ok (.iaload, 1) := by decide +kernel
theorem dX6_look_40 : decode cX6_look 40 = .ok (.iastore, 1) := by decide +kernel
theorem dX6_look_41 : decode cX6_look 41 = .ok (.iinc 4 1, 3) := by decide +kernel
theorem dX6_look_44 : decode cX6_look 44 = .ok (.goto (-31), 3) := by decide +kernel
theorem dX6_look_47 : decode cX6_look 47 = .ok (.aload_n 0, 1) := by decide +kernel
theorem dX6_look_48 : decode cX6_look 48 = .ok (.aload_n 0, 1) := by decide +kernel
theorem dX6_look_49 : decode cX6_look 49 = .ok (.getfield 28, 3) := by decide +kernel
theorem dX6_look_52 : decode cX6_look 52 = .ok (.iload_n 2, 1) := by decide +kernel
theorem dX6_look_53 : decode cX6_look 53 = .ok (.iaload, 1) := by decide +kernel
theorem dX6_look_54 : decode cX6_look 54 = .ok (.putfield 95, 3) := by decide +kernel
theorem dX6_look_57 : decode cX6_look 57 = .ok (.aload_n 0, 1) := by decide +kernel
theorem dX6_look_58 : decode cX6_look 58 = .ok (.aload_n 0, 1) := by decide +kernel
theorem dX6_look_59 : decode cX6_look 59 = .ok (.getfield 25, 3) := by decide +kernel
theorem dX6_look_62 : decode cX6_look 62 = .ok (.iload_n 2, 1) := by decide +kernel
theorem dX6_look_63 : decode cX6_look 63 = .ok (.iaload, 1) := by decide +kernel
theorem dX6_look_64 : decode cX6_look 64 = .ok (.putfield 81, 3) := by decide +kernel
theorem dX6_look_67 : decode cX6_look 67 = .ok (.aload_n 0, 1) := by decide +kernel
theorem dX6_look_68 : decode cX6_look 68 = .ok (.iload_n 3, 1) := by decide +kernel
theorem dX6_look_69 : decode cX6_look 69 = .ok (.putfield 84, 3) := by decide +kernel
theorem dX6_look_72 : decode cX6_look 72 = .ok (.return_, 1) := by decide +kernel
set_option maxRecDepth 20000 in
theorem ggX6_member_X6_isKey : GoodIn wsX6_member wsX6_isKey := goodIn_r _ [8, 9, 10, 11, 12, 13, 14, 15, 16, 17, 18, 19, 20, 21, 22, 23, 24, 25, 26, 27, 28, 29, 30, 31, 32, 33, 34, 35, 36] (by decide +kernel) (by decide +kernel)
set_option maxRecDepth 20000 in
theorem gX6_member_X6_isKey : GoodIn wsX6_member (wsV RX6 74 RX6 yX6_isKey wsX6_isKey) := goodIn_app (goodIn_of _ (by decide +kernel)) ggX6_member_X6_isKey
theorem dX6_member_0 : decode cX6_member 0 = .ok (.aload_n 0, 1) := by decide +kernel
theorem dX6_member_1 : decode cX6_member 1 = .ok (.iload_n 1, 1) := by decide +kernel
theorem dX6_member_2 : decode cX6_member 2 = .ok (.invokevirtual 74, 3) := by decide +kernel
theorem dX6_member_5 : decode cX6_member 5 = .ok (.ifCond .ne 7, 3) := by decide +kernel
theorem dX6_member_8 : decode cX6_member 8 = .ok (.iconst 1, 1) := by decide +kernel
theorem dX6_member_9 : decode cX6_member 9 = .ok (.goto 4, 3) := by decide +kernel
theorem dX6_member_12 : decode cX6_member 12 = .ok (.iconst 0, 1) := by decide +kernel
theorem dX6_member_13 : decode cX6_member 13 = .ok (.istore_n 2, 1) := by decide +kernel
theorem dX6_member_14 : decode cX6_member 14 = .ok (.iconst 0, 1) := by decide +kernel
theorem dX6_member_15 : decode cX6_member 15 = .ok (.istore_n 3, 1) := by decide +kernel
theorem dX6_member_16 : decode cX6_member 16 = .ok (.iload_n 3, 1) := by decide +kernel
theorem dX6_member_17 : decode cX6_member 17 = .ok (.aload_n 0, 1) := by decide +kernel
theorem dX6_member_18 : decode cX6_member 18 = .ok (.getfield 109, 3) := by decide +kernel
theorem dX6_member_21 : decode cX6_member 21 = .ok (.if_icmp .ge 29, 3) := by decide +kernel
theorem dX6_member_24 : decode cX6_member 24 = .ok (.iload_n 2, 1) := by decide +kernel
theorem dX6_member_25 : decode cX6_member 25 = .ok (.ifCond .ne 13, 3) := by decide +kernel
theorem dX6_member_28 : decode cX6_member 28 = .ok (.aload_n 0, 1) := by decide +kernel
theorem dX6_member_29 : decode cX6_member 29 = .ok (.getfield 16, 3) := by decide +kernel
theorem dX6_member_32 : decode cX6_member 32 = .ok (.iload_n 3, 1) := by decide +kernel
theorem dX6_member_33 : decode cX6_member 33 = .ok (.iaload, 1) := by decide +kernel
theorem dX6_member_34 : decode cX6_member 34 = .ok (.iload_n 1, 1) := by decide +kernel
theorem dX6_member_35 : decode cX6_member 35 = .ok (.if_icmp .ne 7, 3) := by decide +kernel
theorem dX6_member_38 : decode cX6_member 38 = .ok (.iconst 1, 1) := by decide +kernel
theorem dX6_member_39 : decode cX6_member 39 = .ok (.goto 4, 3) := by decide +kernel
theorem dX6_member_42 : decode cX6_member 42 = .ok (.iconst 0, 1) := by decide +kernel
theorem dX6_member_43 : decode cX6_member 43 = .ok (.istore_n 2, 1) := by decide +kernel
theorem dX6_member_44 : decode cX6_member 44 = .ok (.iinc 3 1, 3) := by decide +kernel
theorem dX6_member_47 : decode cX6_member 47 = .ok (.goto (-31), 3) := by decide +kernel
theorem dX6_member_50 : decode cX6_member 50 = .ok (.aload_n 0, 1) := by decide +kernel
theorem dX6_member_51 : decode cX6_member 51 = .ok (.iload_n 2, 1) := by decide +kernel
theorem dX6_member_52 : decode cX6_member 52 = .ok (.ifCond .eq 7, 3) := by decide +kernel
theorem dX6_member_55 : decode cX6_member 55 = .ok (.iconst 1, 1) := by decide +kernel
theorem dX6_member_56 : decode cX6_member 56 = .ok (.goto 17, 3) := by decide +kernel
theorem dX6_member_59 : decode cX6_member 59 = .ok (.aload_n 0, 1) := by decide +kernel
theorem dX6_member_60 : decode cX6_member 60 = .ok (.getfield 109, 3) := by decide +kernel
theorem dX6_member_63 : decode cX6_member 63 = .ok (.bipush 12, 2) := by decide +kernel
theorem dX6_member_65 : decode cX6_member 65 = .ok (.if_icmp .ne 7, 3) := by decide +kernel
theorem dX6_member_68 : decode cX6_member 68 = .ok (.iconst 2, 1) := by decide +kernel
theorem dX6_member_69 : decode cX6_member 69 = .ok (.goto 4, 3) := by decide +kernel
theorem dX6_member_72 : decode cX6_member 72 = .ok (.iconst 0, 1) := by decide +kernel
theorem dX6_member_73 : decode cX6_member 73 = .ok (.putfield 63, 3) := by decide +kernel
theorem dX6_member_76 : decode cX6_member 76 = .ok (.aload_n 0, 1) := by decide +kernel
theorem dX6_member_77 : decode cX6_member 77 = .ok (.getfield 63, 3) := by decide +kernel
theorem dX6_member_80 : decode cX6_member 80 = .ok (.ifCond .eq 5, 3) := by decide +kernel
theorem dX6_member_83 : decode cX6_member 83 = .ok (.iconst 0, 1) := by decide +kernel
theorem dX6_member_84 : decode cX6_member 84 = .ok (.ireturn, 1) := by decide +kernel
theorem dX6_member_85 : decode cX6_member 85 = .ok (.aload_n 0, 1) := by decide +kernel
theorem dX6_member_86 : decode cX6_member 86 = .ok (.getfield 16, 3) := by decide +kernel
theorem dX6_member_89 : decode cX6_member 89 = .ok (.aload_n 0, 1) := by decide +kernel
theorem dX6_member_90 : decode cX6_member 90 = .ok (.getfield 109, 3) := by decide +kernel
theorem dX6_member_93 : decode cX6_member 93 = .ok (.iload_n 1, 1) := by decide +kernel
theorem dX6_member_94 : decode cX6_member 94 = .ok (.iastore, 1) := by decide +kernel
theorem dX6_member_95 : decode cX6_member 95 = .ok (.aload_n 0, 1) := by decide +kernel
theorem dX6_member_96 : decode cX6_member 96 = .ok (.dup, 1) := by decide +kernel
theorem dX6_member_97 : decode cX6_member 97 = .ok (.getfield 109, 3) := by decide +kernel
theorem dX6_member_100 : decode cX6_member 100 = .ok (.iconst 1, 1) := by decide +kernel
theorem dX6_member_101 : decode cX6_member 101 = .ok (.iadd, 1) := by decide +kernel
theorem dX6_member_102 : decode cX6_member 102 = .ok (.putfield 109, 3) := by decide +kernel
theorem dX6_member_105 : decode cX6_member 105 = .ok (.aload_n 0, 1) := by decide +kernel
theorem dX6_member_106 : decode cX6_member 106 = .ok (.getfield 109, 3) := by decide +kernel
theorem dX6_member_109 : decode cX6_member 109 = .ok (.iconst 1, 1) := by decide +kernel
theorem dX6_member_110 : decode cX6_member 110 = .ok (.isub, 1) := by decide +kernel
theorem dX6_member_111 : decode cX6_member 111 = .ok (.ireturn, 1) := by decide +kernel
theorem dX6_key_0 : decode cX6_key 0 = .ok (.aload_n 0, 1) := by decide +kernel
theorem dX6_key_1 : decode cX6_key 1 = .ok (.iload_n 1, 1) := by decide +kernel
theorem dX6_key_2 : decode cX6_key 2 = .ok (.iconst 1, 1) := by decide +kernel
theorem dX6_key_3 : decode cX6_key 3 = .ok (.if_icmp .lt 10, 3) := by decide +kernel
theorem dX6_key_6 : decode cX6_key 6 = .ok (.iload_n 1, 1) := by decide +kernel
theorem dX6_key_7 : decode cX6_key 7 = .ok (.sipush 1013, 3) := by decide +kernel
theorem dX6_key_10 : decode cX6_key 10 = .ok (.if_icmp .lt 7, 3) := by decide +kernel
theorem dX6_key_13 : decode cX6_key 13 = .ok (.iconst 1, 1) := by decide +kernel
theorem dX6_key_14 : decode cX6_key 14 = .ok (.goto 4, 3) := by decide +kernel
theorem dX6_key_17 : decode cX6_key 17 = .ok (.iconst 0, 1) := by decide +kernel
theorem dX6_key_18 : decode cX6_key 18 = .ok (.putfield 63, 3) := by decide +kernel
theorem dX6_key_21 : decode cX6_key 21 = .ok (.aload_n 0, 1) := by decide +kernel
theorem dX6_key_22 : decode cX6_key 22 = .ok (.getfield 63, 3) := by decide +kernel
theorem dX6_key_25 : decode cX6_key 25 = .ok (.ifCond .ne 12, 3) := by decide +kernel
theorem dX6_key_28 : decode cX6_key 28 = .ok (.aload_n 0, 1) := by decide +kernel
theorem dX6_key_29 : decode cX6_key 29 = .ok (.getfield 7, 3) := by decide +kernel
theorem dX6_key_32 : decode cX6_key 32 = .ok (.iload_n 1, 1) := by decide +kernel
theorem dX6_key_33 : decode cX6_key 33 = .ok (.iaload, 1) := by decide +kernel
theorem dX6_key_34 : decode cX6_key 34 = .ok (.goto 4, 3) := by decide +kernel
theorem dX6_key_37 : decode cX6_key 37 = .ok (.iconst 0, 1) := by decide +kernel
theorem dX6_key_38 : decode cX6_key 38 = .ok (.ireturn, 1) := by decide +kernel
theorem dX6_ring_0 : decode cX6_ring 0 = .ok (.iconst 0, 1) := by decide +kernel
theorem dX6_ring_1 : decode cX6_ring 1 = .ok (.istore_n 2, 1) := by decide +kernel
theorem dX6_ring_2 : decode cX6_ring 2 = .ok (.iconst 0, 1) := by decide +kernel
theorem dX6_ring_3 : decode cX6_ring 3 = .ok (.istore_n 3, 1) := by decide +kernel
theorem dX6_ring_4 : decode cX6_ring 4 = .ok (.iload_n 3, 1) := by decide +kernel
theorem dX6_ring_5 : decode cX6_ring 5 = .ok (.aload_n 0, 1) := by decide +kernel
theorem dX6_ring_6 : decode cX6_ring 6 = .ok (.getfield 109, 3) := by decide +kernel
theorem dX6_ring_9 : decode cX6_ring 9 = .ok (.if_icmp .ge 17, 3) := by decide +kernel
theorem dX6_ring_12 : decode cX6_ring 12 = .ok (.iload_n 2, 1) := by decide +kernel
theorem dX6_ring_13 : decode cX6_ring 13 = .ok (.iload_n 1, 1) := by decide +kernel
theorem dX6_ring_14 : decode cX6_ring 14 = .ok (.iload_n 3, 1) := by decide +kernel
theorem dX6_ring_15 : decode cX6_ring 15 = .ok (.ishr, 1) := by decide +kernel
theorem dX6_ring_16 : decode cX6_ring 16 = .ok (.iconst 1, 1) := by decide +kernel
theorem dX6_ring_17 : decode cX6_ring 17 = .ok (.iand, 1) := by decide +kernel
theorem dX6_ring_18 : decode cX6_ring 18 = .ok (.iadd, 1) := by decide +kernel
theorem dX6_ring_19 : decode cX6_ring 19 = .ok (.istore_n 2, 1) := by decide +kernel
theorem dX6_ring_20 : decode cX6_ring 20 = .ok (.iinc 3 1, 3) := by decide +kernel
theorem dX6_ring_23 : decode cX6_ring 23 = .ok (.goto (-19), 3) := by decide +kernel
theorem dX6_ring_26 : decode cX6_ring 26 = .ok (.iload_n 1, 1) := by decide +kernel
theorem dX6_ring_27 : decode cX6_ring 27 = .ok (.aload_n 0, 1) := by decide +kernel
theorem dX6_ring_28 : decode cX6_ring 28 = .ok (.getfield 109, 3) := by decide +kernel
theorem dX6_ring_31 : decode cX6_ring 31 = .ok (.ishr, 1) := by decide +kernel
theorem dX6_ring_32 : decode cX6_ring 32 = .ok (.ifCond .eq 7, 3) := by decide +kernel
theorem dX6_ring_35 : decode cX6_ring 35 = .ok (.iconst 1, 1) := by decide +kernel
theorem dX6_ring_36 : decode cX6_ring 36 = .ok (.goto 4, 3) := by decide +kernel
theorem dX6_ring_39 : decode cX6_ring 39 = .ok (.iconst 0, 1) := by decide +kernel
theorem dX6_ring_40 : decode cX6_ring 40 = .ok (.istore_n 3, 1) := by decide +kernel
theorem dX6_ring_41 : decode cX6_ring 41 = .ok (.aload_n 0, 1) := by decide +kernel
theorem dX6_ring_42 : decode cX6_ring 42 = .ok (.iload_n 3, 1) := by decide +kernel
theorem dX6_ring_43 : decode cX6_ring 43 = .ok (.ifCond .ne 14, 3) := by decide +kernel
theorem dX6_ring_46 : decode cX6_ring 46 = .ok (.iload_n 2, 1) := by decide +kernel
theorem dX6_ring_47 : decode cX6_ring 47 = .ok (.iconst 2, 1) := by decide +kernel
theorem dX6_ring_48 : decode cX6_ring 48 = .ok (.if_icmp .lt 9, 3) := by decide +kernel
theorem dX6_ring_51 : decode cX6_ring 51 = .ok (.iload_n 2, 1) := by decide +kernel
theorem dX6_ring_52 : decode cX6_ring 52 = .ok (.bipush 6, 2) := by decide +kernel
theorem dX6_ring_54 : decode cX6_ring 54 = .ok (.if_icmp .le 7, 3) := by decide +kernel
theorem dX6_ring_57 : decode cX6_ring 57 = .ok (.iconst 1, 1) := by decide +kernel
theorem dX6_ring_58 : decode cX6_ring 58 = .ok (.goto 17, 3) := by decide +kernel
theorem dX6_ring_61 : decode cX6_ring 61 = .ok (.aload_n 0, 1) := by decide +kernel
theorem dX6_ring_62 : decode cX6_ring 62 = .ok (.getfield 112, 3) := by decide +kernel
theorem dX6_ring_65 : decode cX6_ring 65 = .ok (.bipush 8, 2) := by decide +kernel
theorem dX6_ring_67 : decode cX6_ring 67 = .ok (.if_icmp .ne 7, 3) := by decide +kernel
theorem dX6_ring_70 : decode cX6_ring 70 = .ok (.iconst 2, 1) := by decide +kernel
theorem dX6_ring_71 : decode cX6_ring 71 = .ok (.goto 4, 3) := by decide +kernel
theorem dX6_ring_74 : decode cX6_ring 74 = .ok (.iconst 0, 1) := by decide +kernel
theorem dX6_ring_75 : decode cX6_ring 75 = .ok (.putfield 63, 3) := by decide +kernel
theorem dX6_ring_78 : decode cX6_ring 78 = .ok (.aload_n 0, 1) := by decide +kernel
theorem dX6_ring_79 : decode cX6_ring 79 = .ok (.getfield 63, 3) := by decide +kernel
theorem dX6_ring_82 : decode cX6_ring 82 = .ok (.ifCond .eq 5, 3) := by decide +kernel
theorem dX6_ring_85 : decode cX6_ring 85 = .ok (.iconst 0, 1) := by decide +kernel
theorem dX6_ring_86 : decode cX6_ring 86 = .ok (.ireturn, 1) := by decide +kernel
theorem dX6_ring_87 : decode cX6_ring 87 = .ok (.aload_n 0, 1) := by decide +kernel
theorem dX6_ring_88 : decode cX6_ring 88 = .ok (.getfield 19, 3) := by decide +kernel
theorem dX6_ring_91 : decode cX6_ring 91 = .ok (.aload_n 0, 1) := by decide +kernel
theorem dX6_ring_92 : decode cX6_ring 92 = .ok (.getfield 112, 3) := by decide +kernel
theorem dX6_ring_95 : decode cX6_ring 95 = .ok (.iconst 0, 1) := by decide +kernel
theorem dX6_ring_96 : decode cX6_ring 96 = .ok (.iastore, 1) := by decide +kernel
theorem dX6_ring_97 : decode cX6_ring 97 = .ok (.iconst 0, 1) := by decide +kernel
theorem dX6_ring_98 : decode cX6_ring 98 = .ok (.istore 4, 2) := by decide +kernel
theorem dX6_ring_100 : decode cX6_ring 100 = .ok (.iload 4, 2) := by decide +kernel
theorem dX6_ring_102 : decode cX6_ring 102 = .ok (.aload_n 0, 1) := by decide +kernel
theorem dX6_ring_103 : decode cX6_ring 103 = .ok (.getfield 109, 3) := by decide +kernel
theorem dX6_ring_106 : decode cX6_ring 106 = .ok (.if_icmp .ge 61, 3) := by decide +kernel
theorem dX6_ring_109 : decode cX6_ring 109 = .ok (.iload_n 1, 1) := by decide +kernel
theorem dX6_ring_110 : decode cX6_ring 110 = .ok (.iload 4, 2) := by decide +kernel
theorem dX6_ring_112 : decode cX6_ring 112 = .ok (.ishr, 1) := by decide +kernel
theorem dX6_ring_113 : decode cX6_ring 113 = .ok (.iconst 1, 1) := by decide +kernel
theorem dX6_ring_114 : decode cX6_ring 114 = .ok (.iand, 1) := by decide +kernel
theorem dX6_ring_115 : decode cX6_ring 115 = .ok (.iconst 1, 1) := by decide +kernel
theorem dX6_ring_116 : decode cX6_ring 116 = .ok (.if_icmp .ne 45, 3) := by decide +kernel
theorem dX6_ring_119 : decode cX6_ring 119 = .ok (.aload_n 0, 1) := by decide +kernel
theorem dX6_ring_120 : decode cX6_ring 120 = .ok (.getfield 22, 3) := by decide +kernel
theorem dX6_ring_123 : decode cX6_ring 123 = .ok (.bipush 6, 2) := by decide +kernel
theorem dX6_ring_125 : decode cX6_ring 125 = .ok (.aload_n 0, 1) := by decide +kernel
theorem dX6_ring_126 : decode cX6_ring 126 = .ok (.getfield 112, 3) := by decide +kernel
theorem dX6_ring_129 : decode cX6_ring 129 = .ok (.imul, 1) := by decide +kernel
theorem dX6_ring_130 : decode cX6_ring 130 = .ok (.aload_n 0, 1) := by decide +kernel
theorem dX6_ring_131 : decode cX6_ring 131 = .ok (.getfield 19, 3) := by decide +kernel
theorem dX6_ring_134 : decode cX6_ring 134 = .ok (.aload_n 0, 1) := by decide +kernel
theorem dX6_ring_135 : decode cX6_ring 135 = .ok (.getfield 112, 3) := by decide +kernel
theorem dX6_ring_138 : decode cX6_ring 138 = .ok (.iaload, 1) := by decide +kernel
theorem dX6_ring_139 : decode cX6_ring 139 = .ok (.iadd, 1) := by decide +kernel
theorem dX6_ring_140 : decode cX6_ring 140 = .ok (.aload_n 0, 1) := by decide +kernel
theorem dX6_ring_141 : decode cX6_ring 141 = .ok (.getfield 16, 3) := by decide +kernel
theorem dX6_ring_144 : decode cX6_ring 144 = .ok (.iload 4, 2) := by decide +kernel
theorem dX6_ring_146 : decode cX6_ring 146 = .ok (.iaload, 1) := by decide +kernel
theorem dX6_ring_147 : decode cX6_ring 147 = .ok (.iastore, 1) := by decide +kernel
theorem dX6_ring_148 : decode cX6_ring 148 = .ok (.aload_n 0, 1) := by decide +kernel
theorem dX6_ring_149 : decode cX6_ring 149 = .ok (.getfield 19, 3) := by decide +kernel
theorem dX6_ring_152 : decode cX6_ring 152 = .ok (.aload_n 0, 1) := by decide +kernel
theorem dX6_ring_153 : decode cX6_ring 153 = .ok (.getfield 112, 3) := by decide +kernel
theorem dX6_ring_156 : decode cX6_ring 156 = .ok (.dup2, 1) := by decide +kernel
theorem dX6_ring_157 : decode cX6_ring 157 = .ok (.iaload, 1) := by decide +kernel
theorem dX6_ring_158 : decode cX6_ring 158 = .ok (.iconst 1, 1) := by decide +kernel
theorem dX6_ring_159 : decode cX6_ring 159 = .ok (.iadd, 1) := by decide +kernel
theorem dX6_ring_160 : decode cX6_ring 160 = .ok (.iastore, 1) := by decide +kernel
theorem dX6_ring_161 : decode cX6_ring 161 = .ok (.iinc 4 1, 3) := by decide +kernel
theorem dX6_ring_164 : decode cX6_ring 164 = .ok (.goto (-64), 3) := by decide +kernel
theorem dX6_ring_167 : decode cX6_ring 167 = .ok (.aload_n 0, 1) := by decide +kernel
theorem dX6_ring_168 : decode cX6_ring 168 = .ok (.dup, 1) := by decide +kernel
theorem dX6_ring_169 : decode cX6_ring 169 = .ok (.getfield 112, 3) := by decide +kernel
theorem dX6_ring_172 : decode cX6_ring 172 = .ok (.iconst 1, 1) := by decide +kernel
theorem dX6_ring_173 : decode cX6_ring 173 = .ok (.iadd, 1) := by decide +kernel
theorem dX6_ring_174 : decode cX6_ring 174 = .ok (.putfield 112, 3) := by decide +kernel
theorem dX6_ring_177 : decode cX6_ring 177 = .ok (.aload_n 0, 1) := by decide +kernel
theorem dX6_ring_178 : decode cX6_ring 178 = .ok (.getfield 112, 3) := by decide +kernel
theorem dX6_ring_181 : decode cX6_ring 181 = .ok (.iconst 1, 1) := by decide +kernel
theorem dX6_ring_182 : decode cX6_ring 182 = .ok (.isub, 1) := by decide +kernel
theorem dX6_ring_183 : decode cX6_ring 183 = .ok (.ireturn, 1) := by decide +kernel
set_option maxRecDepth 20000 in
theorem ggX6_topic_X6_baseOf : GoodIn wsX6_topic wsX6_baseOf := goodIn_r _ [9, 10, 11, 12, 13, 8, 14, 15, 16, 17, 18, 19, 20, 21, 22, 23, 24, 25, 26, 27, 28, 29, 30, 31, 32, 33, 34, 35, 36, 37, 38, 39, 40, 41, 42, 43, 44, 45, 46, 47] (by decide +kernel) (by decide +kernel)
set_option maxRecDepth 20000 in
theorem gX6_topic_X6_baseOf : GoodIn wsX6_topic (wsV RX6 118 RX6 yX6_baseOf wsX6_baseOf) := goodIn_app (goodIn_of _ (by decide +kernel)) ggX6_topic_X6_baseOf
theorem dX6_topic_0 : decode cX6_topic 0 = .ok (.aload_n 0, 1) := by decide +kernel
theorem dX6_topic_1 : decode cX6_topic 1 = .ok (.aload_n 0, 1) := by decide +kernel
theorem dX6_topic_2 : decode cX6_topic 2 = .ok (.getfield 115, 3) := by decide +kernel
theorem dX6_topic_5 : decode cX6_topic 5 = .ok (.bipush 6, 2) := by decide +kernel
theorem dX6_topic_7 : decode cX6_topic 7 = .ok (.if_icmp .ne 7, 3) := by decide +kernel
theorem dX6_topic_10 : decode cX6_topic 10 = .ok (.iconst 1, 1) := by decide +kernel
theorem dX6_topic_11 : decode cX6_topic 11 = .ok (.goto 4, 3) := by decide +kernel
theorem dX6_topic_14 : decode cX6_topic 14 = .ok (.iconst 0, 1) := by decide +kernel
theorem dX6_topic_15 : decode cX6_topic 15 = .ok (.putfield 63, 3) := by decide +kernel
theorem dX6_topic_18 : decode cX6_topic 18 = .ok (.aload_n 0, 1) := by decide +kernel
theorem dX6_topic_19 : decode cX6_topic 19 = .ok (.getfield 63, 3) := by decide +kernel
theorem dX6_topic_22 : decode cX6_topic 22 = .ok (.ifCond .eq 5, 3) := by decide +kernel
theorem dX6_topic_25 : decode cX6_topic 25 = .ok (.iconst 0, 1) := by decide +kernel
theorem dX6_topic_26 : decode cX6_topic 26 = .ok (.ireturn, 1) := by decide +kernel
theorem dX6_topic_27 : decode cX6_topic 27 = .ok (.aload_n 0, 1) := by decide +kernel
theorem dX6_topic_28 : decode cX6_topic 28 = .ok (.getfield 25, 3) := by decide +kernel
theorem dX6_topic_31 : decode cX6_topic 31 = .ok (.aload_n 0, 1) := by decide +kernel
theorem dX6_topic_32 : decode cX6_topic 32 = .ok (.getfield 115, 3) := by decide +kernel
theorem dX6_topic_35 : decode cX6_topic 35 = .ok (.iload_n 1, 1) := by decide +kernel
theorem dX6_topic_36 : decode cX6_topic 36 = .ok (.iastore, 1) := by decide +kernel
theorem dX6_topic_37 : decode cX6_topic 37 = .ok (.aload_n 0, 1) := by decide +kernel
theorem dX6_topic_38 : decode cX6_topic 38 = .ok (.getfield 28, 3) := by decide +kernel
theorem dX6_topic_41 : decode cX6_topic 41 = .ok (.aload_n 0, 1) := by decide +kernel
theorem dX6_topic_42 : decode cX6_topic 42 = .ok (.getfield 115, 3) := by decide +kernel
theorem dX6_topic_45 : decode cX6_topic 45 = .ok (.aload_n 0, 1) := by decide +kernel
theorem dX6_topic_46 : decode cX6_topic 46 = .ok (.iload_n 1, 1) := by decide +kernel
theorem dX6_topic_47 : decode cX6_topic 47 = .ok (.invokevirtual 118, 3) := by decide +kernel
theorem dX6_topic_50 : decode cX6_topic 50 = .ok (.iastore, 1) := by decide +kernel
theorem dX6_topic_51 : decode cX6_topic 51 = .ok (.aload_n 0, 1) := by decide +kernel
theorem dX6_topic_52 : decode cX6_topic 52 = .ok (.dup, 1) := by decide +kernel
theorem dX6_topic_53 : decode cX6_topic 53 = .ok (.getfield 115, 3) := by decide +kernel
theorem dX6_topic_56 : decode cX6_topic 56 = .ok (.iconst 1, 1) := by decide +kernel
theorem dX6_topic_57 : decode cX6_topic 57 = .ok (.iadd, 1) := by decide +kernel
theorem dX6_topic_58 : decode cX6_topic 58 = .ok (.putfield 115, 3) := by decide +kernel
theorem dX6_topic_61 : decode cX6_topic 61 = .ok (.aload_n 0, 1) := by decide +kernel
theorem dX6_topic_62 : decode cX6_topic 62 = .ok (.getfield 115, 3) := by decide +kernel
theorem dX6_topic_65 : decode cX6_topic 65 = .ok (.iconst 1, 1) := by decide +kernel
theorem dX6_topic_66 : decode cX6_topic 66 = .ok (.isub, 1) := by decide +kernel
theorem dX6_topic_67 : decode cX6_topic 67 = .ok (.ireturn, 1) := by decide +kernel
theorem dX6_noRing_0 : decode cX6_noRing 0 = .ok (.iload_n 1, 1) := by decide +kernel
theorem dX6_noRing_1 : decode cX6_noRing 1 = .ok (.ifCond .lt 11, 3) := by decide +kernel
theorem dX6_noRing_4 : decode cX6_noRing 4 = .ok (.iload_n 1, 1) := by decide +kernel
theorem dX6_noRing_5 : decode cX6_noRing 5 = .ok (.aload_n 0, 1) := by decide +kernel
theorem dX6_noRing_6 : decode cX6_noRing 6 = .ok (.getfield 112, 3) := by decide +kernel
theorem dX6_noRing_9 : decode cX6_noRing 9 = .ok (.if_icmp .lt 7, 3) := by decide +kernel
theorem dX6_noRing_12 : decode cX6_noRing 12 = .ok (.iconst 1, 1) := by decide +kernel
theorem dX6_noRing_13 : decode cX6_noRing 13 = .ok (.goto 4, 3) := by decide +kernel
theorem dX6_noRing_16 : decode cX6_noRing 16 = .ok (.iconst 0, 1) := by decide +kernel
theorem dX6_noRing_17 : decode cX6_noRing 17 = .ok (.ireturn, 1) := by decide +kernel
theorem dX6_noTopic_0 : decode cX6_noTopic 0 = .ok (.iload_n 1, 1) := by decide +kernel
theorem dX6_noTopic_1 : decode cX6_noTopic 1 = .ok (.ifCond .lt 11, 3) := by decide +kernel
theorem dX6_noTopic_4 : decode cX6_noTopic 4 = .ok (.iload_n 1, 1) := by decide +kernel
theorem dX6_noTopic_5 : decode cX6_noTopic 5 = .ok (.aload_n 0, 1) := by decide +kernel
theorem dX6_noTopic_6 : decode cX6_noTopic 6 = .ok (.getfield 115, 3) := by decide +kernel
theorem dX6_noTopic_9 : decode cX6_noTopic 9 = .ok (.if_icmp .lt 7, 3) := by decide +kernel
theorem dX6_noTopic_12 : decode cX6_noTopic 12 = .ok (.iconst 1, 1) := by decide +kernel
theorem dX6_noTopic_13 : decode cX6_noTopic 13 = .ok (.goto 4, 3) := by decide +kernel
theorem dX6_noTopic_16 : decode cX6_noTopic 16 = .ok (.iconst 0, 1) := by decide +kernel
theorem dX6_noTopic_17 : decode cX6_noTopic 17 = .ok (.ireturn, 1) := by decide +kernel
set_option maxRecDepth 20000 in
theorem ggX6_base_X6_noTopic : GoodIn wsX6_base wsX6_noTopic := goodIn_r _ [7, 8, 9, 10, 11, 12, 13, 14, 15, 16, 17, 18, 19, 20, 21, 22, 23, 24, 25, 26, 27, 28, 29, 30, 31, 32, 33, 34, 35] (by decide +kernel) (by decide +kernel)
set_option maxRecDepth 20000 in
theorem gX6_base_X6_noTopic : GoodIn wsX6_base (wsV RX6 122 RX6 yX6_noTopic wsX6_noTopic) := goodIn_app (goodIn_of _ (by decide +kernel)) ggX6_base_X6_noTopic
theorem dX6_base_0 : decode cX6_base 0 = .ok (.aload_n 0, 1) := by decide +kernel
theorem dX6_base_1 : decode cX6_base 1 = .ok (.aload_n 0, 1) := by decide +kernel
theorem dX6_base_2 : decode cX6_base 2 = .ok (.iload_n 1, 1) := by decide +kernel
theorem dX6_base_3 : decode cX6_base 3 = .ok (.invokevirtual 122, 3) := by decide +kernel
theorem dX6_base_6 : decode cX6_base 6 = .ok (.ifCond .eq 7, 3) := by decide +kernel
theorem dX6_base_9 : decode cX6_base 9 = .ok (.iconst 1, 1) := by decide +kernel
theorem dX6_base_10 : decode cX6_base 10 = .ok (.goto 4, 3) := by decide +kernel
theorem dX6_base_13 : decode cX6_base 13 = .ok (.iconst 0, 1) := by decide +kernel
theorem dX6_base_14 : decode cX6_base 14 = .ok (.putfield 63, 3) := by decide +kernel
theorem dX6_base_17 : decode cX6_base 17 = .ok (.aload_n 0, 1) := by decide +kernel
theorem dX6_base_18 : decode cX6_base 18 = .ok (.getfield 63, 3) := by decide +kernel
theorem dX6_base_21 : decode cX6_base 21 = .ok (.ifCond .ne 12, 3) := by decide +kernel
theorem dX6_base_24 : decode cX6_base 24 = .ok (.aload_n 0, 1) := by decide +kernel
theorem dX6_base_25 : decode cX6_base 25 = .ok (.getfield 28, 3) := by decide +kernel
theorem dX6_base_28 : decode cX6_base 28 = .ok (.iload_n 1, 1) := by decide +kernel
theorem dX6_base_29 : decode cX6_base 29 = .ok (.iaload, 1) := by decide +kernel
theorem dX6_base_30 : decode cX6_base 30 = .ok (.goto 4, 3) := by decide +kernel
theorem dX6_base_33 : decode cX6_base 33 = .ok (.iconst 0, 1) := by decide +kernel
theorem dX6_base_34 : decode cX6_base 34 = .ok (.ireturn, 1) := by decide +kernel
set_option maxRecDepth 20000 in
theorem ggX6_nonce_X6_mix : GoodIn wsX6_nonce wsX6_mix := goodIn_r _ [8, 1, 9, 14, 15, 16, 17, 18, 19, 20, 21, 22, 23, 24, 25, 26, 27, 28, 29, 30, 31, 32, 33, 34, 35, 36, 37, 38, 39, 40] (by decide +kernel) (by decide +kernel)
set_option maxRecDepth 20000 in
theorem gX6_nonce_X6_mix : GoodIn wsX6_nonce (wsV RX6 70 RX6 yX6_mix wsX6_mix) := goodIn_app (goodIn_of _ (by decide +kernel)) ggX6_nonce_X6_mix
set_option maxRecDepth 20000 in
theorem ggX6_nonce_X6_rest : GoodIn wsX6_nonce wsX6_rest := goodIn_r _ [13, 1, 14, 15, 16, 17, 18, 19, 20, 21, 22, 23, 24, 25, 26, 27, 28, 29, 30, 31, 32, 33, 34, 35, 36, 37, 38, 39, 40] (by decide +kernel) (by decide +kernel)
set_option maxRecDepth 20000 in
theorem gX6_nonce_X6_rest : GoodIn wsX6_nonce (wsV RX6 87 RX6 yX6_rest wsX6_rest) := goodIn_app (goodIn_of _ (by decide +kernel)) ggX6_nonce_X6_rest
theorem dX6_nonce_0 : decode cX6_nonce 0 = .ok (.aload_n 0, 1) := by decide +kernel
theorem dX6_nonce_1 : decode cX6_nonce 1 = .ok (.bipush 17, 2) := by decide +kernel
theorem dX6_nonce_3 : decode cX6_nonce 3 = .ok (.putfield 66, 3) := by decide +kernel
theorem dX6_nonce_6 : decode cX6_nonce 6 = .ok (.aload_n 0, 1) := by decide +kernel
theorem dX6_nonce_7 : decode cX6_nonce 7 = .ok (.iload_n 1, 1) := by decide +kernel
theorem dX6_nonce_8 : decode cX6_nonce 8 = .ok (.invokevirtual 70, 3) := by decide +kernel
theorem dX6_nonce_11 : decode cX6_nonce 11 = .ok (.aload_n 0, 1) := by decide +kernel
theorem dX6_nonce_12 : decode cX6_nonce 12 = .ok (.aload_n 0, 1) := by decide +kernel
theorem dX6_nonce_13 : decode cX6_nonce 13 = .ok (.getfield 81, 3) := by decide +kernel
theorem dX6_nonce_16 : decode cX6_nonce 16 = .ok (.invokevirtual 70, 3) := by decide +kernel
theorem dX6_nonce_19 : decode cX6_nonce 19 = .ok (.aload_n 0, 1) := by decide +kernel
theorem dX6_nonce_20 : decode cX6_nonce 20 = .ok (.aload_n 0, 1) := by decide +kernel
theorem dX6_nonce_21 : decode cX6_nonce 21 = .ok (.getfield 84, 3) := by decide +kernel
theorem dX6_nonce_24 : decode cX6_nonce 24 = .ok (.invokevirtual 70, 3) := by decide +kernel
theorem dX6_nonce_27 : decode cX6_nonce 27 = .ok (.aload_n 0, 1) := by decide +kernel
theorem dX6_nonce_28 : decode cX6_nonce 28 = .ok (.iload_n 2, 1) := by decide +kernel
theorem dX6_nonce_29 : decode cX6_nonce 29 = .ok (.invokevirtual 70, 3) := by decide +kernel
theorem dX6_nonce_32 : decode cX6_nonce 32 = .ok (.aload_n 0, 1) := by decide +kernel
theorem dX6_nonce_33 : decode cX6_nonce 33 = .ok (.invokevirtual 87, 3) := by decide +kernel
theorem dX6_nonce_36 : decode cX6_nonce 36 = .ok (.ireturn, 1) := by decide +kernel
set_option maxRecDepth 20000 in
theorem ggX6_sign_X6_noRing : GoodIn wsX6_sign wsX6_noRing := goodIn_r _ [15, 16, 57, 58, 59, 60, 61, 62, 63, 64, 65, 66, 67, 68, 69, 70, 71, 72, 73, 74, 75, 76, 77, 78, 79, 80, 81, 82, 83] (by decide +kernel) (by decide +kernel)
set_option maxRecDepth 20000 in
theorem gX6_sign_X6_noRing : GoodIn wsX6_sign (wsV RX6 125 RX6 yX6_noRing wsX6_noRing) := goodIn_app (goodIn_of _ (by decide +kernel)) ggX6_sign_X6_noRing
set_option maxRecDepth 20000 in
theorem ggX6_sign_X6_noTopic : GoodIn wsX6_sign wsX6_noTopic := goodIn_r _ [20, 21, 57, 58, 59, 60, 61, 62, 63, 64, 65, 66, 67, 68, 69, 70, 71, 72, 73, 74, 75, 76, 77, 78, 79, 80, 81, 82, 83] (by decide +kernel) (by decide +kernel)
set_option maxRecDepth 20000 in
theorem gX6_sign_X6_noTopic : GoodIn wsX6_sign (wsV RX6 122 RX6 yX6_noTopic wsX6_noTopic) := goodIn_app (goodIn_of _ (by decide +kernel)) ggX6_sign_X6_noTopic
set_option maxRecDepth 20000 in
theorem ggX6_sign_X6_look : GoodIn wsX6_sign wsX6_look := goodIn_r _ [25, 1, 8, 26, 3, 27, 7, 28, 29, 30, 57, 58, 59, 60, 61, 62, 63, 64, 65, 66, 67, 68, 69, 70, 71, 72, 73, 74, 75, 76, 77, 78, 79, 80, 81, 82, 83] (by decide +kernel) (by decide +kernel)
set_option maxRecDepth 20000 in
theorem gX6_sign_X6_look : GoodIn wsX6_sign (wsV RX6 128 RX6 yX6_look wsX6_look) := goodIn_app (goodIn_of _ (by decide +kernel)) ggX6_sign_X6_look
set_option maxRecDepth 20000 in
theorem ggX6_sign_X6_nonce : GoodIn wsX6_sign wsX6_nonce := goodIn_r _ [34, 35, 29, 30, 36, 37, 38, 14, 39, 40, 41, 42, 43, 44, 57, 58, 59, 60, 61, 62, 63, 64, 65, 66, 67, 68, 69, 70, 71, 72, 73, 74, 75, 76, 77, 78, 79, 80, 81, 82, 83] (by decide +kernel) (by decide +kernel)
set_option maxRecDepth 20000 in
theorem gX6_sign_X6_nonce : GoodIn wsX6_sign (wsV RX6 132 RX6 yX6_nonce wsX6_nonce) := goodIn_app (goodIn_of _ (by decide +kernel)) ggX6_sign_X6_nonce
set_option maxRecDepth 20000 in
theorem ggX6_sign_X6_challenge : GoodIn wsX6_sign wsX6_challenge := goodIn_r _ [48, 35, 8, 26, 29, 30, 5, 36, 37, 38, 14, 39, 40, 41, 42, 43, 44, 57, 58, 59, 60, 61, 62, 63, 64, 65, 66, 67, 68, 69, 70, 71, 72, 73, 74, 75, 76, 77, 78, 79, 80, 81, 82, 83] (by decide +kernel) (by decide +kernel)
set_option maxRecDepth 20000 in
theorem gX6_sign_X6_challenge : GoodIn wsX6_sign (wsV RX6 98 RX6 yX6_challenge wsX6_challenge) := goodIn_app (goodIn_of _ (by decide +kernel)) ggX6_sign_X6_challenge
set_option maxRecDepth 20000 in
theorem ggX6_sign_X6_step : GoodIn wsX6_sign wsX6_step := goodIn_r _ [52, 26, 7, 5, 53, 54, 55, 14, 56, 2, 6, 45, 46, 47, 48, 35, 8, 29, 30, 36, 37, 38, 39, 40, 41, 42, 43, 44, 57, 58, 59, 60, 61, 62, 63, 64, 65, 66, 67, 68, 69, 70, 71, 72, 73, 74, 75, 76, 77, 78, 79, 80, 81, 82, 83] (by decide +kernel) (by decide +kernel)
set_option maxRecDepth 20000 in
theorem gX6_sign_X6_step : GoodIn wsX6_sign (wsV RX6 105 RX6 yX6_step wsX6_step) := goodIn_app (goodIn_of _ (by decide +kernel)) ggX6_sign_X6_step
theorem dX6_sign_0 : decode cX6_sign 0 = .ok (.aload_n 0, 1) := by decide +kernel
theorem dX6_sign_1 : decode cX6_sign 1 = .ok (.iload_n 1, 1) := by decide +kernel
theorem dX6_sign_2 : decode cX6_sign 2 = .ok (.invokevirtual 125, 3) := by decide +kernel
theorem dX6_sign_5 : decode cX6_sign 5 = .ok (.ifCond .ne 51, 3) := by decide +kernel
theorem dX6_sign_8 : decode cX6_sign 8 = .ok (.aload_n 0, 1) := by decide +kernel
theorem dX6_sign_9 : decode cX6_sign 9 = .ok (.iload_n 2, 1) := by decide +kernel
theorem dX6_sign_10 : decode cX6_sign 10 = .ok (.invokevirtual 122, 3) := by decide +kernel
theorem dX6_sign_13 : decode cX6_sign 13 = .ok (.ifCond .ne 43, 3) := by decide +kernel
theorem dX6_sign_16 : decode cX6_sign 16 = .ok (.iload_n 3, 1) := by decide +kernel
theorem dX6_sign_17 : decode cX6_sign 17 = .ok (.ifCond .lt 39, 3) := by decide +kernel
theorem dX6_sign_20 : decode cX6_sign 20 = .ok (.iload_n 3, 1) := by decide +kernel
theorem dX6_sign_21 : decode cX6_sign 21 = .ok (.aload_n 0, 1) := by decide +kernel
theorem dX6_sign_22 : decode cX6_sign 22 = .ok (.iload_n 1, 1) := by decide +kernel
theorem dX6_sign_23 : decode cX6_sign 23 = .ok (.invokevirtual 125, 3) := by decide +kernel
theorem dX6_sign_26 : decode cX6_sign 26 = .ok (.ifCond .eq 7, 3) := by decide +kernel
theorem dX6_sign_29 : decode cX6_sign 29 = .ok (.iconst 0, 1) := by decide +kernel
theorem dX6_sign_30 : decode cX6_sign 30 = .ok (.goto 9, 3) := by decide +kernel
theorem dX6_sign_33 : decode cX6_sign 33 = .ok (.aload_n 0, 1) := by decide +kernel
theorem dX6_sign_34 : decode cX6_sign 34 = .ok (.getfield 19, 3) := by decide +kernel
theorem dX6_sign_37 : decode cX6_sign 37 = .ok (.iload_n 1, 1) := by decide +kernel
theorem dX6_sign_38 : decode cX6_sign 38 = .ok (.iaload, 1) := by decide +kernel
theorem dX6_sign_39 : decode cX6_sign 39 = .ok (.if_icmp .ge 17, 3) := by decide +kernel
theorem dX6_sign_42 : decode cX6_sign 42 = .ok (.iload 4, 2) := by decide +kernel
theorem dX6_sign_44 : decode cX6_sign 44 = .ok (.iconst 1, 1) := by decide +kernel
theorem dX6_sign_45 : decode cX6_sign 45 = .ok (.if_icmp .lt 11, 3) := by decide +kernel
theorem dX6_sign_48 : decode cX6_sign 48 = .ok (.iload 4, 2) := by decide +kernel
theorem dX6_sign_50 : decode cX6_sign 50 = .ok (.sipush 1013, 3) := by decide +kernel
theorem dX6_sign_53 : decode cX6_sign 53 = .ok (.if_icmp .lt 7, 3) := by decide +kernel
theorem dX6_sign_56 : decode cX6_sign 56 = .ok (.iconst 1, 1) := by decide +kernel
theorem dX6_sign_57 : decode cX6_sign 57 = .ok (.goto 4, 3) := by decide +kernel
theorem dX6_sign_60 : decode cX6_sign 60 = .ok (.iconst 0, 1) := by decide +kernel
theorem dX6_sign_61 : decode cX6_sign 61 = .ok (.istore 6, 2) := by decide +kernel
theorem dX6_sign_63 : decode cX6_sign 63 = .ok (.iload 6, 2) := by decide +kernel
theorem dX6_sign_65 : decode cX6_sign 65 = .ok (.ifCond .ne 24, 3) := by decide +kernel
theorem dX6_sign_68 : decode cX6_sign 68 = .ok (.aload_n 0, 1) := by decide +kernel
theorem dX6_sign_69 : decode cX6_sign 69 = .ok (.getfield 7, 3) := by decide +kernel
theorem dX6_sign_72 : decode cX6_sign 72 = .ok (.iload 4, 2) := by decide +kernel
theorem dX6_sign_74 : decode cX6_sign 74 = .ok (.iaload, 1) := by decide +kernel
theorem dX6_sign_75 : decode cX6_sign 75 = .ok (.aload_n 0, 1) := by decide +kernel
theorem dX6_sign_76 : decode cX6_sign 76 = .ok (.getfield 22, 3) := by decide +kernel
theorem dX6_sign_79 : decode cX6_sign 79 = .ok (.bipush 6, 2) := by decide +kernel
theorem dX6_sign_81 : decode cX6_sign 81 = .ok (.iload_n 1, 1) := by decide +kernel
theorem dX6_sign_82 : decode cX6_sign 82 = .ok (.imul, 1) := by decide +kernel
theorem dX6_sign_83 : decode cX6_sign 83 = .ok (.iload_n 3, 1) := by decide +kernel
theorem dX6_sign_84 : decode cX6_sign 84 = .ok (.iadd, 1) := by decide +kernel
theorem dX6_sign_85 : decode cX6_sign 85 = .ok (.iaload, 1) := by decide +kernel
theorem dX6_sign_86 : decode cX6_sign 86 = .ok (.if_icmp .eq 7, 3) := by decide +kernel
theorem dX6_sign_89 : decode cX6_sign 89 = .ok (.iconst 1, 1) := by decide +kernel
theorem dX6_sign_90 : decode cX6_sign 90 = .ok (.goto 4, 3) := by decide +kernel
theorem dX6_sign_93 : decode cX6_sign 93 = .ok (.iconst 0, 1) := by decide +kernel
theorem dX6_sign_94 : decode cX6_sign 94 = .ok (.istore 6, 2) := by decide +kernel
theorem dX6_sign_96 : decode cX6_sign 96 = .ok (.aload_n 0, 1) := by decide +kernel
theorem dX6_sign_97 : decode cX6_sign 97 = .ok (.iload 6, 2) := by decide +kernel
theorem dX6_sign_99 : decode cX6_sign 99 = .ok (.ifCond .eq 7, 3) := by decide +kernel
theorem dX6_sign_102 : decode cX6_sign 102 = .ok (.iconst 1, 1) := by decide +kernel
theorem dX6_sign_103 : decode cX6_sign 103 = .ok (.goto 4, 3) := by decide +kernel
theorem dX6_sign_106 : decode cX6_sign 106 = .ok (.iconst 0, 1) := by decide +kernel
theorem dX6_sign_107 : decode cX6_sign 107 = .ok (.putfield 63, 3) := by decide +kernel
theorem dX6_sign_110 : decode cX6_sign 110 = .ok (.aload_n 0, 1) := by decide +kernel
theorem dX6_sign_111 : decode cX6_sign 111 = .ok (.getfield 63, 3) := by decide +kernel
theorem dX6_sign_114 : decode cX6_sign 114 = .ok (.ifCond .eq 5, 3) := by decide +kernel
theorem dX6_sign_117 : decode cX6_sign 117 = .ok (.iconst 0, 1) := by decide +kernel
theorem dX6_sign_118 : decode cX6_sign 118 = .ok (.ireturn, 1) := by decide +kernel
theorem dX6_sign_119 : decode cX6_sign 119 = .ok (.aload_n 0, 1) := by decide +kernel
theorem dX6_sign_120 : decode cX6_sign 120 = .ok (.iload_n 1, 1) := by decide +kernel
theorem dX6_sign_121 : decode cX6_sign 121 = .ok (.iload_n 2, 1) := by decide +kernel
theorem dX6_sign_122 : decode cX6_sign 122 = .ok (.iload 5, 2) := by decide +kernel
theorem dX6_sign_124 : decode cX6_sign 124 = .ok (.invokevirtual 128, 3) := by decide +kernel
theorem dX6_sign_127 : decode cX6_sign 127 = .ok (.aload_n 0, 1) := by decide +kernel
theorem dX6_sign_128 : decode cX6_sign 128 = .ok (.getfield 60, 3) := by decide +kernel
theorem dX6_sign_131 : decode cX6_sign 131 = .ok (.iconst 1, 1) := by decide +kernel
theorem dX6_sign_132 : decode cX6_sign 132 = .ok (.aload_n 0, 1) := by decide +kernel
theorem dX6_sign_133 : decode cX6_sign 133 = .ok (.getfield 7, 3) := by decide +kernel
theorem dX6_sign_136 : decode cX6_sign 136 = .ok (.aload_n 0, 1) := by decide +kernel
theorem dX6_sign_137 : decode cX6_sign 137 = .ok (.getfield 13, 3) := by decide +kernel
theorem dX6_sign_140 : decode cX6_sign 140 = .ok (.aload_n 0, 1) := by decide +kernel
theorem dX6_sign_141 : decode cX6_sign 141 = .ok (.getfield 95, 3) := by decide +kernel
theorem dX6_sign_144 : decode cX6_sign 144 = .ok (.iaload, 1) := by decide +kernel
theorem dX6_sign_145 : decode cX6_sign 145 = .ok (.iload 4, 2) := by decide +kernel
theorem dX6_sign_147 : decode cX6_sign 147 = .ok (.imul, 1) := by decide +kernel
theorem dX6_sign_148 : decode cX6_sign 148 = .ok (.sipush 1013, 3) := by decide +kernel
theorem dX6_sign_151 : decode cX6_sign 151 = .ok (.irem, 1) := by decide +kernel
theorem dX6_sign_152 : decode cX6_sign 152 = .ok (.iaload, 1) := by decide +kernel
theorem dX6_sign_153 : decode cX6_sign 153 = .ok (.iastore, 1) := by decide +kernel
theorem dX6_sign_154 : decode cX6_sign 154 = .ok (.aload_n 0, 1) := by decide +kernel
theorem dX6_sign_155 : decode cX6_sign 155 = .ok (.iload 4, 2) := by decide +kernel
theorem dX6_sign_157 : decode cX6_sign 157 = .ok (.iload_n 3, 1) := by decide +kernel
theorem dX6_sign_158 : decode cX6_sign 158 = .ok (.invokevirtual 132, 3) := by decide +kernel
theorem dX6_sign_161 : decode cX6_sign 161 = .ok (.istore 7, 2) := by decide +kernel
theorem dX6_sign_163 : decode cX6_sign 163 = .ok (.iload_n 3, 1) := by decide +kernel
theorem dX6_sign_164 : decode cX6_sign 164 = .ok (.iconst 1, 1) := by decide +kernel
theorem dX6_sign_165 : decode cX6_sign 165 = .ok (.iadd, 1) := by decide +kernel
theorem dX6_sign_166 : decode cX6_sign 166 = .ok (.aload_n 0, 1) := by decide +kernel
theorem dX6_sign_167 : decode cX6_sign 167 = .ok (.getfield 78, 3) := by decide +kernel
theorem dX6_sign_170 : decode cX6_sign 170 = .ok (.irem, 1) := by decide +kernel
theorem dX6_sign_171 : decode cX6_sign 171 = .ok (.istore 8, 2) := by decide +kernel
theorem dX6_sign_173 : decode cX6_sign 173 = .ok (.aload_n 0, 1) := by decide +kernel
theorem dX6_sign_174 : decode cX6_sign 174 = .ok (.aload_n 0, 1) := by decide +kernel
theorem dX6_sign_175 : decode cX6_sign 175 = .ok (.getfield 7, 3) := by decide +kernel
theorem dX6_sign_178 : decode cX6_sign 178 = .ok (.iload 7, 2) := by decide +kernel
theorem dX6_sign_180 : decode cX6_sign 180 = .ok (.iaload, 1) := by decide +kernel
theorem dX6_sign_181 : decode cX6_sign 181 = .ok (.aload_n 0, 1) := by decide +kernel
theorem dX6_sign_182 : decode cX6_sign 182 = .ok (.getfield 7, 3) := by decide +kernel
theorem dX6_sign_185 : decode cX6_sign 185 = .ok (.aload_n 0, 1) := by decide +kernel
theorem dX6_sign_186 : decode cX6_sign 186 = .ok (.getfield 13, 3) := by decide +kernel
theorem dX6_sign_189 : decode cX6_sign 189 = .ok (.aload_n 0, 1) := by decide +kernel
theorem dX6_sign_190 : decode cX6_sign 190 = .ok (.getfield 95, 3) := by decide +kernel
theorem dX6_sign_193 : decode cX6_sign 193 = .ok (.iaload, 1) := by decide +kernel
theorem dX6_sign_194 : decode cX6_sign 194 = .ok (.iload 7, 2) := by decide +kernel
theorem dX6_sign_196 : decode cX6_sign 196 = .ok (.imul, 1) := by decide +kernel
theorem dX6_sign_197 : decode cX6_sign 197 = .ok (.sipush 1013, 3) := by decide +kernel
theorem dX6_sign_200 : decode cX6_sign 200 = .ok (.irem, 1) := by decide +kernel
theorem dX6_sign_201 : decode cX6_sign 201 = .ok (.iaload, 1) := by decide +kernel
theorem dX6_sign_202 : decode cX6_sign 202 = .ok (.invokevirtual 98, 3) := by decide +kernel
theorem dX6_sign_205 : decode cX6_sign 205 = .ok (.istore 9, 2) := by decide +kernel
theorem dX6_sign_207 : decode cX6_sign 207 = .ok (.aload_n 0, 1) := by decide +kernel
theorem dX6_sign_208 : decode cX6_sign 208 = .ok (.getfield 60, 3) := by decide +kernel
theorem dX6_sign_211 : decode cX6_sign 211 = .ok (.iconst 0, 1) := by decide +kernel
theorem dX6_sign_212 : decode cX6_sign 212 = .ok (.iload 8, 2) := by decide +kernel
theorem dX6_sign_214 : decode cX6_sign 214 = .ok (.ifCond .ne 8, 3) := by decide +kernel
theorem dX6_sign_217 : decode cX6_sign 217 = .ok (.iload 9, 2) := by decide +kernel
theorem dX6_sign_219 : decode cX6_sign 219 = .ok (.goto 9, 3) := by decide +kernel
theorem dX6_sign_222 : decode cX6_sign 222 = .ok (.aload_n 0, 1) := by decide +kernel
theorem dX6_sign_223 : decode cX6_sign 223 = .ok (.getfield 60, 3) := by decide +kernel
theorem dX6_sign_226 : decode cX6_sign 226 = .ok (.iconst 0, 1) := by decide +kernel
theorem dX6_sign_227 : decode cX6_sign 227 = .ok (.iaload, 1) := by decide +kernel
theorem dX6_sign_228 : decode cX6_sign 228 = .ok (.iastore, 1) := by decide +kernel
theorem dX6_sign_229 : decode cX6_sign 229 = .ok (.iload 8, 2) := by decide +kernel
theorem dX6_sign_231 : decode cX6_sign 231 = .ok (.iload_n 3, 1) := by decide +kernel
theorem dX6_sign_232 : decode cX6_sign 232 = .ok (.if_icmp .eq 72, 3) := by decide +kernel
theorem dX6_sign_235 : decode cX6_sign 235 = .ok (.aload_n 0, 1) := by decide +kernel
theorem dX6_sign_236 : decode cX6_sign 236 = .ok (.iload 4, 2) := by decide +kernel
theorem dX6_sign_238 : decode cX6_sign 238 = .ok (.iload 8, 2) := by decide +kernel
theorem dX6_sign_240 : decode cX6_sign 240 = .ok (.invokevirtual 132, 3) := by decide +kernel
theorem dX6_sign_243 : decode cX6_sign 243 = .ok (.istore 10, 2) := by decide +kernel
theorem dX6_sign_245 : decode cX6_sign 245 = .ok (.aload_n 0, 1) := by decide +kernel
theorem dX6_sign_246 : decode cX6_sign 246 = .ok (.getfield 60, 3) := by decide +kernel
theorem dX6_sign_249 : decode cX6_sign 249 = .ok (.iconst 2, 1) := by decide +kernel
theorem dX6_sign_250 : decode cX6_sign 250 = .ok (.iload 8, 2) := by decide +kernel
theorem dX6_sign_252 : decode cX6_sign 252 = .ok (.iadd, 1) := by decide +kernel
theorem dX6_sign_253 : decode cX6_sign 253 = .ok (.iload 10, 2) := by decide +kernel
theorem dX6_sign_255 : decode cX6_sign 255 = .ok (.iastore, 1) := by decide +kernel
theorem dX6_sign_256 : decode cX6_sign 256 = .ok (.aload_n 0, 1) := by decide +kernel
theorem dX6_sign_257 : decode cX6_sign 257 = .ok (.iload 9, 2) := by decide +kernel
theorem dX6_sign_259 : decode cX6_sign 259 = .ok (.iload 8, 2) := by decide +kernel
theorem dX6_sign_261 : decode cX6_sign 261 = .ok (.iload 10, 2) := by decide +kernel
theorem dX6_sign_263 : decode cX6_sign 263 = .ok (.invokevirtual 105, 3) := by decide +kernel
theorem dX6_sign_266 : decode cX6_sign 266 = .ok (.istore 9, 2) := by decide +kernel
theorem dX6_sign_268 : decode cX6_sign 268 = .ok (.iload 8, 2) := by decide +kernel
theorem dX6_sign_270 : decode cX6_sign 270 = .ok (.iconst 1, 1) := by decide +kernel
theorem dX6_sign_271 : decode cX6_sign 271 = .ok (.iadd, 1) := by decide +kernel
theorem dX6_sign_272 : decode cX6_sign 272 = .ok (.aload_n 0, 1) := by decide +kernel
theorem dX6_sign_273 : decode cX6_sign 273 = .ok (.getfield 78, 3) := by decide +kernel
theorem dX6_sign_276 : decode cX6_sign 276 = .ok (.irem, 1) := by decide +kernel
theorem dX6_sign_277 : decode cX6_sign 277 = .ok (.istore 8, 2) := by decide +kernel
theorem dX6_sign_279 : decode cX6_sign 279 = .ok (.aload_n 0, 1) := by decide +kernel
theorem dX6_sign_280 : decode cX6_sign 280 = .ok (.getfield 60, 3) := by decide +kernel
theorem dX6_sign_283 : decode cX6_sign 283 = .ok (.iconst 0, 1) := by decide +kernel
theorem dX6_sign_284 : decode cX6_sign 284 = .ok (.iload 8, 2) := by decide +kernel
theorem dX6_sign_286 : decode cX6_sign 286 = .ok (.ifCond .ne 8, 3) := by decide +kernel
theorem dX6_sign_289 : decode cX6_sign 289 = .ok (.iload 9, 2) := by decide +kernel
theorem dX6_sign_291 : decode cX6_sign 291 = .ok (.goto 9, 3) := by decide +kernel
theorem dX6_sign_294 : decode cX6_sign 294 = .ok (.aload_n 0, 1) := by decide +kernel
theorem dX6_sign_295 : decode cX6_sign 295 = .ok (.getfield 60, 3) := by decide +kernel
theorem dX6_sign_298 : decode cX6_sign 298 = .ok (.iconst 0, 1) := by decide +kernel
theorem dX6_sign_299 : decode cX6_sign 299 = .ok (.iaload, 1) := by decide +kernel
theorem dX6_sign_300 : decode cX6_sign 300 = .ok (.iastore, 1) := by decide +kernel
theorem dX6_sign_301 : decode cX6_sign 301 = .ok (.goto (-72), 3) := by decide +kernel
theorem dX6_sign_304 : decode cX6_sign 304 = .ok (.iload 7, 2) := by decide +kernel
theorem dX6_sign_306 : decode cX6_sign 306 = .ok (.iload 4, 2) := by decide +kernel
theorem dX6_sign_308 : decode cX6_sign 308 = .ok (.iload 9, 2) := by decide +kernel
theorem dX6_sign_310 : decode cX6_sign 310 = .ok (.imul, 1) := by decide +kernel
theorem dX6_sign_311 : decode cX6_sign 311 = .ok (.sipush 1013, 3) := by decide +kernel
theorem dX6_sign_314 : decode cX6_sign 314 = .ok (.irem, 1) := by decide +kernel
theorem dX6_sign_315 : decode cX6_sign 315 = .ok (.isub, 1) := by decide +kernel
theorem dX6_sign_316 : decode cX6_sign 316 = .ok (.sipush 1013, 3) := by decide +kernel
theorem dX6_sign_319 : decode cX6_sign 319 = .ok (.iadd, 1) := by decide +kernel
theorem dX6_sign_320 : decode cX6_sign 320 = .ok (.sipush 1013, 3) := by decide +kernel
theorem dX6_sign_323 : decode cX6_sign 323 = .ok (.irem, 1) := by decide +kernel
theorem dX6_sign_324 : decode cX6_sign 324 = .ok (.istore 10, 2) := by decide +kernel
theorem dX6_sign_326 : decode cX6_sign 326 = .ok (.aload_n 0, 1) := by decide +kernel
theorem dX6_sign_327 : decode cX6_sign 327 = .ok (.getfield 60, 3) := by decide +kernel
theorem dX6_sign_330 : decode cX6_sign 330 = .ok (.iconst 2, 1) := by decide +kernel
theorem dX6_sign_331 : decode cX6_sign 331 = .ok (.iload_n 3, 1) := by decide +kernel
theorem dX6_sign_332 : decode cX6_sign 332 = .ok (.iadd, 1) := by decide +kernel
theorem dX6_sign_333 : decode cX6_sign 333 = .ok (.iload 10, 2) := by decide +kernel
theorem dX6_sign_335 : decode cX6_sign 335 = .ok (.iastore, 1) := by decide +kernel
theorem dX6_sign_336 : decode cX6_sign 336 = .ok (.aload_n 0, 1) := by decide +kernel
theorem dX6_sign_337 : decode cX6_sign 337 = .ok (.iconst 2, 1) := by decide +kernel
theorem dX6_sign_338 : decode cX6_sign 338 = .ok (.aload_n 0, 1) := by decide +kernel
theorem dX6_sign_339 : decode cX6_sign 339 = .ok (.getfield 78, 3) := by decide +kernel
theorem dX6_sign_342 : decode cX6_sign 342 = .ok (.iadd, 1) := by decide +kernel
theorem dX6_sign_343 : decode cX6_sign 343 = .ok (.putfield 47, 3) := by decide +kernel
theorem dX6_sign_346 : decode cX6_sign 346 = .ok (.iconst 0, 1) := by decide +kernel
theorem dX6_sign_347 : decode cX6_sign 347 = .ok (.istore 11, 2) := by decide +kernel
theorem dX6_sign_349 : decode cX6_sign 349 = .ok (.iload 11, 2) := by decide +kernel
theorem dX6_sign_351 : decode cX6_sign 351 = .ok (.aload_n 0, 1) := by decide +kernel
theorem dX6_sign_352 : decode cX6_sign 352 = .ok (.getfield 47, 3) := by decide +kernel
theorem dX6_sign_355 : decode cX6_sign 355 = .ok (.if_icmp .ge 23, 3) := by decide +kernel
theorem dX6_sign_358 : decode cX6_sign 358 = .ok (.aload_n 0, 1) := by decide +kernel
theorem dX6_sign_359 : decode cX6_sign 359 = .ok (.getfield 51, 3) := by decide +kernel
theorem dX6_sign_362 : decode cX6_sign 362 = .ok (.iload 11, 2) := by decide +kernel
theorem dX6_sign_364 : decode cX6_sign 364 = .ok (.aload_n 0, 1) := by decide +kernel
theorem dX6_sign_365 : decode cX6_sign 365 = .ok (.getfield 60, 3) := by decide +kernel
theorem dX6_sign_368 : decode cX6_sign 368 = .ok (.iload 11, 2) := by decide +kernel
theorem dX6_sign_370 : decode cX6_sign 370 = .ok (.iaload, 1) := by decide +kernel
theorem dX6_sign_371 : decode cX6_sign 371 = .ok (.iastore, 1) := by decide +kernel
theorem dX6_sign_372 : decode cX6_sign 372 = .ok (.iinc 11 1, 3) := by decide +kernel
theorem dX6_sign_375 : decode cX6_sign 375 = .ok (.goto (-26), 3) := by decide +kernel
theorem dX6_sign_378 : decode cX6_sign 378 = .ok (.aload_n 0, 1) := by decide +kernel
theorem dX6_sign_379 : decode cX6_sign 379 = .ok (.getfield 60, 3) := by decide +kernel
theorem dX6_sign_382 : decode cX6_sign 382 = .ok (.iconst 1, 1) := by decide +kernel
theorem dX6_sign_383 : decode cX6_sign 383 = .ok (.iaload, 1) := by decide +kernel
theorem dX6_sign_384 : decode cX6_sign 384 = .ok (.ireturn, 1) := by decide +kernel
theorem dX6_draft_0 : decode cX6_draft 0 = .ok (.aload_n 0, 1) := by decide +kernel
theorem dX6_draft_1 : decode cX6_draft 1 = .ok (.iload_n 1, 1) := by decide +kernel
theorem dX6_draft_2 : decode cX6_draft 2 = .ok (.ifCond .lt 11, 3) := by decide +kernel
theorem dX6_draft_5 : decode cX6_draft 5 = .ok (.iload_n 1, 1) := by decide +kernel
theorem dX6_draft_6 : decode cX6_draft 6 = .ok (.aload_n 0, 1) := by decide +kernel
theorem dX6_draft_7 : decode cX6_draft 7 = .ok (.getfield 47, 3) := by decide +kernel
theorem dX6_draft_10 : decode cX6_draft 10 = .ok (.if_icmp .lt 7, 3) := by decide +kernel
theorem dX6_draft_13 : decode cX6_draft 13 = .ok (.iconst 1, 1) := by decide +kernel
theorem dX6_draft_14 : decode cX6_draft 14 = .ok (.goto 4, 3) := by decide +kernel
theorem dX6_draft_17 : decode cX6_draft 17 = .ok (.iconst 0, 1) := by decide +kernel
theorem dX6_draft_18 : decode cX6_draft 18 = .ok (.putfield 63, 3) := by decide +kernel
theorem dX6_draft_21 : decode cX6_draft 21 = .ok (.aload_n 0, 1) := by decide +kernel
theorem dX6_draft_22 : decode cX6_draft 22 = .ok (.getfield 63, 3) := by decide +kernel
theorem dX6_draft_25 : decode cX6_draft 25 = .ok (.ifCond .ne 12, 3) := by decide +kernel
theorem dX6_draft_28 : decode cX6_draft 28 = .ok (.aload_n 0, 1) := by decide +kernel
theorem dX6_draft_29 : decode cX6_draft 29 = .ok (.getfield 51, 3) := by decide +kernel
theorem dX6_draft_32 : decode cX6_draft 32 = .ok (.iload_n 1, 1) := by decide +kernel
theorem dX6_draft_33 : decode cX6_draft 33 = .ok (.iaload, 1) := by decide +kernel
theorem dX6_draft_34 : decode cX6_draft 34 = .ok (.goto 4, 3) := by decide +kernel
theorem dX6_draft_37 : decode cX6_draft 37 = .ok (.iconst 0, 1) := by decide +kernel
theorem dX6_draft_38 : decode cX6_draft 38 = .ok (.ireturn, 1) := by decide +kernel
theorem dX6_edit_0 : decode cX6_edit 0 = .ok (.aload_n 0, 1) := by decide +kernel
theorem dX6_edit_1 : decode cX6_edit 1 = .ok (.iload_n 1, 1) := by decide +kernel
theorem dX6_edit_2 : decode cX6_edit 2 = .ok (.ifCond .lt 11, 3) := by decide +kernel
theorem dX6_edit_5 : decode cX6_edit 5 = .ok (.iload_n 1, 1) := by decide +kernel
theorem dX6_edit_6 : decode cX6_edit 6 = .ok (.aload_n 0, 1) := by decide +kernel
theorem dX6_edit_7 : decode cX6_edit 7 = .ok (.getfield 47, 3) := by decide +kernel
theorem dX6_edit_10 : decode cX6_edit 10 = .ok (.if_icmp .lt 7, 3) := by decide +kernel
theorem dX6_edit_13 : decode cX6_edit 13 = .ok (.iconst 1, 1) := by decide +kernel
theorem dX6_edit_14 : decode cX6_edit 14 = .ok (.goto 4, 3) := by decide +kernel
theorem dX6_edit_17 : decode cX6_edit 17 = .ok (.iconst 0, 1) := by decide +kernel
theorem dX6_edit_18 : decode cX6_edit 18 = .ok (.putfield 63, 3) := by decide +kernel
theorem dX6_edit_21 : decode cX6_edit 21 = .ok (.aload_n 0, 1) := by decide +kernel
theorem dX6_edit_22 : decode cX6_edit 22 = .ok (.getfield 63, 3) := by decide +kernel
theorem dX6_edit_25 : decode cX6_edit 25 = .ok (.ifCond .ne 10, 3) := by decide +kernel
theorem dX6_edit_28 : decode cX6_edit 28 = .ok (.aload_n 0, 1) := by decide +kernel
theorem dX6_edit_29 : decode cX6_edit 29 = .ok (.getfield 51, 3) := by decide +kernel
theorem dX6_edit_32 : decode cX6_edit 32 = .ok (.iload_n 1, 1) := by decide +kernel
theorem dX6_edit_33 : decode cX6_edit 33 = .ok (.iload_n 2, 1) := by decide +kernel
theorem dX6_edit_34 : decode cX6_edit 34 = .ok (.iastore, 1) := by decide +kernel
theorem dX6_edit_35 : decode cX6_edit 35 = .ok (.return_, 1) := by decide +kernel
theorem dX6_hasTag_0 : decode cX6_hasTag 0 = .ok (.iconst 0, 1) := by decide +kernel
theorem dX6_hasTag_1 : decode cX6_hasTag 1 = .ok (.istore 4, 2) := by decide +kernel
theorem dX6_hasTag_3 : decode cX6_hasTag 3 = .ok (.iconst 0, 1) := by decide +kernel
theorem dX6_hasTag_4 : decode cX6_hasTag 4 = .ok (.istore 5, 2) := by decide +kernel
theorem dX6_hasTag_6 : decode cX6_hasTag 6 = .ok (.iload 5, 2) := by decide +kernel
theorem dX6_hasTag_8 : decode cX6_hasTag 8 = .ok (.iload_n 3, 1) := by decide +kernel
theorem dX6_hasTag_9 : decode cX6_hasTag 9 = .ok (.if_icmp .ge 42, 3) := by decide +kernel
theorem dX6_hasTag_12 : decode cX6_hasTag 12 = .ok (.iload 4, 2) := by decide +kernel
theorem dX6_hasTag_14 : decode cX6_hasTag 14 = .ok (.ifCond .ne 24, 3) := by decide +kernel
theorem dX6_hasTag_17 : decode cX6_hasTag 17 = .ok (.aload_n 0, 1) := by decide +kernel
theorem dX6_hasTag_18 : decode cX6_hasTag 18 = .ok (.getfield 44, 3) := by decide +kernel
theorem dX6_hasTag_21 : decode cX6_hasTag 21 = .ok (.bipush 8, 2) := by decide +kernel
theorem dX6_hasTag_23 : decode cX6_hasTag 23 = .ok (.bipush 8, 2) := by decide +kernel
theorem dX6_hasTag_25 : decode cX6_hasTag 25 = .ok (.iload_n 1, 1) := by decide +kernel
theorem dX6_hasTag_26 : decode cX6_hasTag 26 = .ok (.imul, 1) := by decide +kernel
theorem dX6_hasTag_27 : decode cX6_hasTag 27 = .ok (.iload 5, 2) := by decide +kernel
theorem dX6_hasTag_29 : decode cX6_hasTag 29 = .ok (.iadd, 1) := by decide +kernel
theorem dX6_hasTag_30 : decode cX6_hasTag 30 = .ok (.imul, 1) := by decide +kernel
theorem dX6_hasTag_31 : decode cX6_hasTag 31 = .ok (.iconst 1, 1) := by decide +kernel
theorem dX6_hasTag_32 : decode cX6_hasTag 32 = .ok (.iadd, 1) := by decide +kernel
theorem dX6_hasTag_33 : decode cX6_hasTag 33 = .ok (.iaload, 1) := by decide +kernel
theorem dX6_hasTag_34 : decode cX6_hasTag 34 = .ok (.iload_n 2, 1) := by decide +kernel
theorem dX6_hasTag_35 : decode cX6_hasTag 35 = .ok (.if_icmp .ne 7, 3) := by decide +kernel
theorem dX6_hasTag_38 : decode cX6_hasTag 38 = .ok (.iconst 1, 1) := by decide +kernel
theorem dX6_hasTag_39 : decode cX6_hasTag 39 = .ok (.goto 4, 3) := by decide +kernel
theorem dX6_hasTag_42 : decode cX6_hasTag 42 = .ok (.iconst 0, 1) := by decide +kernel
theorem dX6_hasTag_43 : decode cX6_hasTag 43 = .ok (.istore 4, 2) := by decide +kernel
theorem dX6_hasTag_45 : decode cX6_hasTag 45 = .ok (.iinc 5 1, 3) := by decide +kernel
theorem dX6_hasTag_48 : decode cX6_hasTag 48 = .ok (.goto (-42), 3) := by decide +kernel
theorem dX6_hasTag_51 : decode cX6_hasTag 51 = .ok (.iload 4, 2) := by decide +kernel
theorem dX6_hasTag_53 : decode cX6_hasTag 53 = .ok (.ireturn, 1) := by decide +kernel
set_option maxRecDepth 20000 in
theorem ggX6_submit_X6_noRing : GoodIn wsX6_submit wsX6_noRing := goodIn_r _ [15, 16, 74, 75, 76, 77, 78, 79, 80, 81, 82, 83, 84, 85, 86, 87, 88, 89, 90, 91, 92, 93, 94, 95, 96, 97, 98, 99, 100] (by decide +kernel) (by decide +kernel)
set_option maxRecDepth 20000 in
theorem gX6_submit_X6_noRing : GoodIn wsX6_submit (wsV RX6 125 RX6 yX6_noRing wsX6_noRing) := goodIn_app (goodIn_of _ (by decide +kernel)) ggX6_submit_X6_noRing
set_option maxRecDepth 20000 in
theorem ggX6_submit_X6_noTopic : GoodIn wsX6_submit wsX6_noTopic := goodIn_r _ [20, 21, 74, 75, 76, 77, 78, 79, 80, 81, 82, 83, 84, 85, 86, 87, 88, 89, 90, 91, 92, 93, 94, 95, 96, 97, 98, 99, 100] (by decide +kernel) (by decide +kernel)
set_option maxRecDepth 20000 in
theorem gX6_submit_X6_noTopic : GoodIn wsX6_submit (wsV RX6 122 RX6 yX6_noTopic wsX6_noTopic) := goodIn_app (goodIn_of _ (by decide +kernel)) ggX6_submit_X6_noTopic
set_option maxRecDepth 20000 in
theorem ggX6_submit_X6_look : GoodIn wsX6_submit wsX6_look := goodIn_r _ [25, 26, 6, 27, 28, 29, 30, 31, 32, 33, 74, 75, 76, 77, 78, 79, 80, 81, 82, 83, 84, 85, 86, 87, 88, 89, 90, 91, 92, 93, 94, 95, 96, 97, 98, 99, 100] (by decide +kernel) (by decide +kernel)
set_option maxRecDepth 20000 in
theorem gX6_submit_X6_look : GoodIn wsX6_submit (wsV RX6 128 RX6 yX6_look wsX6_look) := goodIn_app (goodIn_of _ (by decide +kernel)) ggX6_submit_X6_look
set_option maxRecDepth 20000 in
theorem ggX6_submit_X6_isGood : GoodIn wsX6_submit wsX6_isGood := goodIn_r _ [37, 4, 6, 38, 39, 40, 14, 41, 42, 43, 44, 45, 46, 47, 48, 49, 50, 27, 30, 51, 52, 53, 54, 55, 56, 57, 58, 59, 60, 32, 33, 61, 62, 63, 64, 65, 66, 67, 68, 69, 74, 75, 76, 77, 78, 79, 80, 81, 82, 83, 84, 85, 86, 87, 88, 89, 90, 91, 92, 93, 94, 95, 96, 97, 98, 99, 100] (by decide +kernel) (by decide +kernel)
set_option maxRecDepth 20000 in
theorem gX6_submit_X6_isGood : GoodIn wsX6_submit (wsV RX6 135 RX6 yX6_isGood wsX6_isGood) := goodIn_app (goodIn_of _ (by decide +kernel)) ggX6_submit_X6_isGood
set_option maxRecDepth 20000 in
theorem ggX6_submit_X6_hasTag : GoodIn wsX6_submit wsX6_hasTag := goodIn_r _ [73, 10, 74, 75, 76, 77, 78, 79, 80, 81, 82, 83, 84, 85, 86, 87, 88, 89, 90, 91, 92, 93, 94, 95, 96, 97, 98, 99, 100] (by decide +kernel) (by decide +kernel)
set_option maxRecDepth 20000 in
theorem gX6_submit_X6_hasTag : GoodIn wsX6_submit (wsV RX6 139 RX6 yX6_hasTag wsX6_hasTag) := goodIn_app (goodIn_of _ (by decide +kernel)) ggX6_submit_X6_hasTag
theorem dX6_submit_0 : decode cX6_submit 0 = .ok (.aload_n 0, 1) := by decide +kernel
theorem dX6_submit_1 : decode cX6_submit 1 = .ok (.aload_n 0, 1) := by decide +kernel
theorem dX6_submit_2 : decode cX6_submit 2 = .ok (.iload_n 1, 1) := by decide +kernel
theorem dX6_submit_3 : decode cX6_submit 3 = .ok (.invokevirtual 125, 3) := by decide +kernel
theorem dX6_submit_6 : decode cX6_submit 6 = .ok (.ifCond .ne 11, 3) := by decide +kernel
theorem dX6_submit_9 : decode cX6_submit 9 = .ok (.aload_n 0, 1) := by decide +kernel
theorem dX6_submit_10 : decode cX6_submit 10 = .ok (.iload_n 2, 1) := by decide +kernel
theorem dX6_submit_11 : decode cX6_submit 11 = .ok (.invokevirtual 122, 3) := by decide +kernel
theorem dX6_submit_14 : decode cX6_submit 14 = .ok (.ifCond .eq 7, 3) := by decide +kernel
theorem dX6_submit_17 : decode cX6_submit 17 = .ok (.iconst 1, 1) := by decide +kernel
theorem dX6_submit_18 : decode cX6_submit 18 = .ok (.goto 4, 3) := by decide +kernel
theorem dX6_submit_21 : decode cX6_submit 21 = .ok (.iconst 0, 1) := by decide +kernel
theorem dX6_submit_22 : decode cX6_submit 22 = .ok (.putfield 63, 3) := by decide +kernel
theorem dX6_submit_25 : decode cX6_submit 25 = .ok (.aload_n 0, 1) := by decide +kernel
theorem dX6_submit_26 : decode cX6_submit 26 = .ok (.getfield 63, 3) := by decide +kernel
theorem dX6_submit_29 : decode cX6_submit 29 = .ok (.ifCond .eq 5, 3) := by decide +kernel
theorem dX6_submit_32 : decode cX6_submit 32 = .ok (.iconst 0, 1) := by decide +kernel
theorem dX6_submit_33 : decode cX6_submit 33 = .ok (.ireturn, 1) := by decide +kernel
theorem dX6_submit_34 : decode cX6_submit 34 = .ok (.aload_n 0, 1) := by decide +kernel
theorem dX6_submit_35 : decode cX6_submit 35 = .ok (.getfield 31, 3) := by decide +kernel
theorem dX6_submit_38 : decode cX6_submit 38 = .ok (.iload_n 2, 1) := by decide +kernel
theorem dX6_submit_39 : decode cX6_submit 39 = .ok (.baload, 1) := by decide +kernel
theorem dX6_submit_40 : decode cX6_submit 40 = .ok (.ifCond .eq 10, 3) := by decide +kernel
theorem dX6_submit_43 : decode cX6_submit 43 = .ok (.aload_n 0, 1) := by decide +kernel
theorem dX6_submit_44 : decode cX6_submit 44 = .ok (.iconst 2, 1) := by decide +kernel
theorem dX6_submit_45 : decode cX6_submit 45 = .ok (.putfield 63, 3) := by decide +kernel
theorem dX6_submit_48 : decode cX6_submit 48 = .ok (.iconst 0, 1) := by decide +kernel
theorem dX6_submit_49 : decode cX6_submit 49 = .ok (.ireturn, 1) := by decide +kernel
theorem dX6_submit_50 : decode cX6_submit 50 = .ok (.aload_n 0, 1) := by decide +kernel
theorem dX6_submit_51 : decode cX6_submit 51 = .ok (.iload_n 1, 1) := by decide +kernel
theorem dX6_submit_52 : decode cX6_submit 52 = .ok (.iload_n 2, 1) := by decide +kernel
theorem dX6_submit_53 : decode cX6_submit 53 = .ok (.iload_n 3, 1) := by decide +kernel
theorem dX6_submit_54 : decode cX6_submit 54 = .ok (.invokevirtual 128, 3) := by decide +kernel
theorem dX6_submit_57 : decode cX6_submit 57 = .ok (.iconst 0, 1) := by decide +kernel
theorem dX6_submit_58 : decode cX6_submit 58 = .ok (.istore 4, 2) := by decide +kernel
theorem dX6_submit_60 : decode cX6_submit 60 = .ok (.iload 4, 2) := by decide +kernel
theorem dX6_submit_62 : decode cX6_submit 62 = .ok (.aload_n 0, 1) := by decide +kernel
theorem dX6_submit_63 : decode cX6_submit 63 = .ok (.getfield 47, 3) := by decide +kernel
theorem dX6_submit_66 : decode cX6_submit 66 = .ok (.if_icmp .ge 23, 3) := by decide +kernel
theorem dX6_submit_69 : decode cX6_submit 69 = .ok (.aload_n 0, 1) := by decide +kernel
theorem dX6_submit_70 : decode cX6_submit 70 = .ok (.getfield 60, 3) := by decide +kernel
theorem dX6_submit_73 : decode cX6_submit 73 = .ok (.iload 4, 2) := by decide +kernel
theorem dX6_submit_75 : decode cX6_submit 75 = .ok (.aload_n 0, 1) := by decide +kernel
theorem dX6_submit_76 : decode cX6_submit 76 = .ok (.getfield 51, 3) := by decide +kernel
theorem dX6_submit_79 : decode cX6_submit 79 = .ok (.iload 4, 2) := by decide +kernel
theorem dX6_submit_81 : decode cX6_submit 81 = .ok (.iaload, 1) := by decide +kernel
theorem dX6_submit_82 : decode cX6_submit 82 = .ok (.iastore, 1) := by decide +kernel
theorem dX6_submit_83 : decode cX6_submit 83 = .ok (.iinc 4 1, 3) := by decide +kernel
theorem dX6_submit_86 : decode cX6_submit 86 = .ok (.goto (-26), 3) := by decide +kernel
theorem dX6_submit_89 : decode cX6_submit 89 = .ok (.aload_n 0, 1) := by decide +kernel
theorem dX6_submit_90 : decode cX6_submit 90 = .ok (.getfield 47, 3) := by decide +kernel
theorem dX6_submit_93 : decode cX6_submit 93 = .ok (.iconst 2, 1) := by decide +kernel
theorem dX6_submit_94 : decode cX6_submit 94 = .ok (.aload_n 0, 1) := by decide +kernel
theorem dX6_submit_95 : decode cX6_submit 95 = .ok (.getfield 78, 3) := by decide +kernel
theorem dX6_submit_98 : decode cX6_submit 98 = .ok (.iadd, 1) := by decide +kernel
theorem dX6_submit_99 : decode cX6_submit 99 = .ok (.if_icmp .ne 14, 3) := by decide +kernel
theorem dX6_submit_102 : decode cX6_submit 102 = .ok (.aload_n 0, 1) := by decide +kernel
theorem dX6_submit_103 : decode cX6_submit 103 = .ok (.invokevirtual 135, 3) := by decide +kernel
theorem dX6_submit_106 : decode cX6_submit 106 = .ok (.ifCond .eq 7, 3) := by decide +kernel
theorem dX6_submit_109 : decode cX6_submit 109 = .ok (.iconst 1, 1) := by decide +kernel
theorem dX6_submit_110 : decode cX6_submit 110 = .ok (.goto 4, 3) := by decide +kernel
theorem dX6_submit_113 : decode cX6_submit 113 = .ok (.iconst 0, 1) := by decide +kernel
theorem dX6_submit_114 : decode cX6_submit 114 = .ok (.istore 4, 2) := by decide +kernel
theorem dX6_submit_116 : decode cX6_submit 116 = .ok (.aload_n 0, 1) := by decide +kernel
theorem dX6_submit_117 : decode cX6_submit 117 = .ok (.iload 4, 2) := by decide +kernel
theorem dX6_submit_119 : decode cX6_submit 119 = .ok (.ifCond .ne 7, 3) := by decide +kernel
theorem dX6_submit_122 : decode cX6_submit 122 = .ok (.iconst 1, 1) := by decide +kernel
theorem dX6_submit_123 : decode cX6_submit 123 = .ok (.goto 39, 3) := by decide +kernel
theorem dX6_submit_126 : decode cX6_submit 126 = .ok (.aload_n 0, 1) := by decide +kernel
theorem dX6_submit_127 : decode cX6_submit 127 = .ok (.iload_n 2, 1) := by decide +kernel
theorem dX6_submit_128 : decode cX6_submit 128 = .ok (.aload_n 0, 1) := by decide +kernel
theorem dX6_submit_129 : decode cX6_submit 129 = .ok (.getfield 51, 3) := by decide +kernel
theorem dX6_submit_132 : decode cX6_submit 132 = .ok (.iconst 1, 1) := by decide +kernel
theorem dX6_submit_133 : decode cX6_submit 133 = .ok (.iaload, 1) := by decide +kernel
theorem dX6_submit_134 : decode cX6_submit 134 = .ok (.aload_n 0, 1) := by decide +kernel
theorem dX6_submit_135 : decode cX6_submit 135 = .ok (.getfield 35, 3) := by decide +kernel
theorem dX6_submit_138 : decode cX6_submit 138 = .ok (.iload_n 2, 1) := by decide +kernel
theorem dX6_submit_139 : decode cX6_submit 139 = .ok (.iaload, 1) := by decide +kernel
theorem dX6_submit_140 : decode cX6_submit 140 = .ok (.invokevirtual 139, 3) := by decide +kernel
theorem dX6_submit_143 : decode cX6_submit 143 = .ok (.ifCond .ne 14, 3) := by decide +kernel
theorem dX6_submit_146 : decode cX6_submit 146 = .ok (.aload_n 0, 1) := by decide +kernel
theorem dX6_submit_147 : decode cX6_submit 147 = .ok (.getfield 35, 3) := by decide +kernel
theorem dX6_submit_150 : decode cX6_submit 150 = .ok (.iload_n 2, 1) := by decide +kernel
theorem dX6_submit_151 : decode cX6_submit 151 = .ok (.iaload, 1) := by decide +kernel
theorem dX6_submit_152 : decode cX6_submit 152 = .ok (.bipush 8, 2) := by decide +kernel
theorem dX6_submit_154 : decode cX6_submit 154 = .ok (.if_icmp .ne 7, 3) := by decide +kernel
theorem dX6_submit_157 : decode cX6_submit 157 = .ok (.iconst 3, 1) := by decide +kernel
theorem dX6_submit_158 : decode cX6_submit 158 = .ok (.goto 4, 3) := by decide +kernel
theorem dX6_submit_161 : decode cX6_submit 161 = .ok (.iconst 0, 1) := by decide +kernel
theorem dX6_submit_162 : decode cX6_submit 162 = .ok (.putfield 63, 3) := by decide +kernel
theorem dX6_submit_165 : decode cX6_submit 165 = .ok (.aload_n 0, 1) := by decide +kernel
theorem dX6_submit_166 : decode cX6_submit 166 = .ok (.getfield 63, 3) := by decide +kernel
theorem dX6_submit_169 : decode cX6_submit 169 = .ok (.ifCond .eq 5, 3) := by decide +kernel
theorem dX6_submit_172 : decode cX6_submit 172 = .ok (.iconst 0, 1) := by decide +kernel
theorem dX6_submit_173 : decode cX6_submit 173 = .ok (.ireturn, 1) := by decide +kernel
theorem dX6_submit_174 : decode cX6_submit 174 = .ok (.bipush 8, 2) := by decide +kernel
theorem dX6_submit_176 : decode cX6_submit 176 = .ok (.iload_n 2, 1) := by decide +kernel
theorem dX6_submit_177 : decode cX6_submit 177 = .ok (.imul, 1) := by decide +kernel
theorem dX6_submit_178 : decode cX6_submit 178 = .ok (.aload_n 0, 1) := by decide +kernel
theorem dX6_submit_179 : decode cX6_submit 179 = .ok (.getfield 35, 3) := by decide +kernel
theorem dX6_submit_182 : decode cX6_submit 182 = .ok (.iload_n 2, 1) := by decide +kernel
theorem dX6_submit_183 : decode cX6_submit 183 = .ok (.iaload, 1) := by decide +kernel
theorem dX6_submit_184 : decode cX6_submit 184 = .ok (.iadd, 1) := by decide +kernel
theorem dX6_submit_185 : decode cX6_submit 185 = .ok (.istore 5, 2) := by decide +kernel
theorem dX6_submit_187 : decode cX6_submit 187 = .ok (.aload_n 0, 1) := by decide +kernel
theorem dX6_submit_188 : decode cX6_submit 188 = .ok (.getfield 38, 3) := by decide +kernel
theorem dX6_submit_191 : decode cX6_submit 191 = .ok (.iload 5, 2) := by decide +kernel
theorem dX6_submit_193 : decode cX6_submit 193 = .ok (.iload_n 1, 1) := by decide +kernel
theorem dX6_submit_194 : decode cX6_submit 194 = .ok (.iastore, 1) := by decide +kernel
theorem dX6_submit_195 : decode cX6_submit 195 = .ok (.aload_n 0, 1) := by decide +kernel
theorem dX6_submit_196 : decode cX6_submit 196 = .ok (.getfield 41, 3) := by decide +kernel
theorem dX6_submit_199 : decode cX6_submit 199 = .ok (.iload 5, 2) := by decide +kernel
theorem dX6_submit_201 : decode cX6_submit 201 = .ok (.iload_n 3, 1) := by decide +kernel
theorem dX6_submit_202 : decode cX6_submit 202 = .ok (.iastore, 1) := by decide +kernel
theorem dX6_submit_203 : decode cX6_submit 203 = .ok (.iconst 0, 1) := by decide +kernel
theorem dX6_submit_204 : decode cX6_submit 204 = .ok (.istore 6, 2) := by decide +kernel
theorem dX6_submit_206 : decode cX6_submit 206 = .ok (.iload 6, 2) := by decide +kernel
theorem dX6_submit_208 : decode cX6_submit 208 = .ok (.aload_n 0, 1) := by decide +kernel
theorem dX6_submit_209 : decode cX6_submit 209 = .ok (.getfield 47, 3) := by decide +kernel
theorem dX6_submit_212 : decode cX6_submit 212 = .ok (.if_icmp .ge 29, 3) := by decide +kernel
theorem dX6_submit_215 : decode cX6_submit 215 = .ok (.aload_n 0, 1) := by decide +kernel
theorem dX6_submit_216 : decode cX6_submit 216 = .ok (.getfield 44, 3) := by decide +kernel
theorem dX6_submit_219 : decode cX6_submit 219 = .ok (.bipush 8, 2) := by decide +kernel
theorem dX6_submit_221 : decode cX6_submit 221 = .ok (.iload 5, 2) := by decide +kernel
theorem dX6_submit_223 : decode cX6_submit 223 = .ok (.imul, 1) := by decide +kernel
theorem dX6_submit_224 : decode cX6_submit 224 = .ok (.iload 6, 2) := by decide +kernel
theorem dX6_submit_226 : decode cX6_submit 226 = .ok (.iadd, 1) := by decide +kernel
theorem dX6_submit_227 : decode cX6_submit 227 = .ok (.aload_n 0, 1) := by decide +kernel
theorem dX6_submit_228 : decode cX6_submit 228 = .ok (.getfield 51, 3) := by decide +kernel
theorem dX6_submit_231 : decode cX6_submit 231 = .ok (.iload 6, 2) := by decide +kernel
theorem dX6_submit_233 : decode cX6_submit 233 = .ok (.iaload, 1) := by decide +kernel
theorem dX6_submit_234 : decode cX6_submit 234 = .ok (.iastore, 1) := by decide +kernel
theorem dX6_submit_235 : decode cX6_submit 235 = .ok (.iinc 6 1, 3) := by decide +kernel
theorem dX6_submit_238 : decode cX6_submit 238 = .ok (.goto (-32), 3) := by decide +kernel
theorem dX6_submit_241 : decode cX6_submit 241 = .ok (.aload_n 0, 1) := by decide +kernel
theorem dX6_submit_242 : decode cX6_submit 242 = .ok (.getfield 35, 3) := by decide +kernel
theorem dX6_submit_245 : decode cX6_submit 245 = .ok (.iload_n 2, 1) := by decide +kernel
theorem dX6_submit_246 : decode cX6_submit 246 = .ok (.dup2, 1) := by decide +kernel
theorem dX6_submit_247 : decode cX6_submit 247 = .ok (.iaload, 1) := by decide +kernel
theorem dX6_submit_248 : decode cX6_submit 248 = .ok (.iconst 1, 1) := by decide +kernel
theorem dX6_submit_249 : decode cX6_submit 249 = .ok (.iadd, 1) := by decide +kernel
theorem dX6_submit_250 : decode cX6_submit 250 = .ok (.iastore, 1) := by decide +kernel
theorem dX6_submit_251 : decode cX6_submit 251 = .ok (.aload_n 0, 1) := by decide +kernel
theorem dX6_submit_252 : decode cX6_submit 252 = .ok (.getfield 35, 3) := by decide +kernel
theorem dX6_submit_255 : decode cX6_submit 255 = .ok (.iload_n 2, 1) := by decide +kernel
theorem dX6_submit_256 : decode cX6_submit 256 = .ok (.iaload, 1) := by decide +kernel
theorem dX6_submit_257 : decode cX6_submit 257 = .ok (.ireturn, 1) := by decide +kernel
set_option maxRecDepth 20000 in
theorem ggX6_count_X6_noTopic : GoodIn wsX6_count wsX6_noTopic := goodIn_r _ [7, 8, 9, 10, 11, 12, 13, 14, 15, 16, 17, 18, 19, 20, 21, 22, 23, 24, 25, 26, 27, 28, 29, 30, 31, 32, 33, 34, 35] (by decide +kernel) (by decide +kernel)
set_option maxRecDepth 20000 in
theorem gX6_count_X6_noTopic : GoodIn wsX6_count (wsV RX6 122 RX6 yX6_noTopic wsX6_noTopic) := goodIn_app (goodIn_of _ (by decide +kernel)) ggX6_count_X6_noTopic
theorem dX6_count_0 : decode cX6_count 0 = .ok (.aload_n 0, 1) := by decide +kernel
theorem dX6_count_1 : decode cX6_count 1 = .ok (.aload_n 0, 1) := by decide +kernel
theorem dX6_count_2 : decode cX6_count 2 = .ok (.iload_n 1, 1) := by decide +kernel
theorem dX6_count_3 : decode cX6_count 3 = .ok (.invokevirtual 122, 3) := by decide +kernel
theorem dX6_count_6 : decode cX6_count 6 = .ok (.ifCond .eq 7, 3) := by decide +kernel
theorem dX6_count_9 : decode cX6_count 9 = .ok (.iconst 1, 1) := by decide +kernel
theorem dX6_count_10 : decode cX6_count 10 = .ok (.goto 4, 3) := by decide +kernel
theorem dX6_count_13 : decode cX6_count 13 = .ok (.iconst 0, 1) := by decide +kernel
theorem dX6_count_14 : decode cX6_count 14 = .ok (.putfield 63, 3) := by decide +kernel
theorem dX6_count_17 : decode cX6_count 17 = .ok (.aload_n 0, 1) := by decide +kernel
theorem dX6_count_18 : decode cX6_count 18 = .ok (.getfield 63, 3) := by decide +kernel
theorem dX6_count_21 : decode cX6_count 21 = .ok (.ifCond .ne 12, 3) := by decide +kernel
theorem dX6_count_24 : decode cX6_count 24 = .ok (.aload_n 0, 1) := by decide +kernel
theorem dX6_count_25 : decode cX6_count 25 = .ok (.getfield 35, 3) := by decide +kernel
theorem dX6_count_28 : decode cX6_count 28 = .ok (.iload_n 1, 1) := by decide +kernel
theorem dX6_count_29 : decode cX6_count 29 = .ok (.iaload, 1) := by decide +kernel
theorem dX6_count_30 : decode cX6_count 30 = .ok (.goto 4, 3) := by decide +kernel
theorem dX6_count_33 : decode cX6_count 33 = .ok (.iconst 0, 1) := by decide +kernel
theorem dX6_count_34 : decode cX6_count 34 = .ok (.ireturn, 1) := by decide +kernel
set_option maxRecDepth 20000 in
theorem ggX6_seen_X6_noTopic : GoodIn wsX6_seen wsX6_noTopic := goodIn_r _ [8, 9, 15, 16, 17, 18, 19, 20, 21, 22, 23, 24, 25, 26, 27, 28, 29, 30, 31, 32, 33, 34, 35, 36, 37, 38, 39, 40, 41] (by decide +kernel) (by decide +kernel)
set_option maxRecDepth 20000 in
theorem gX6_seen_X6_noTopic : GoodIn wsX6_seen (wsV RX6 122 RX6 yX6_noTopic wsX6_noTopic) := goodIn_app (goodIn_of _ (by decide +kernel)) ggX6_seen_X6_noTopic
set_option maxRecDepth 20000 in
theorem ggX6_seen_X6_hasTag : GoodIn wsX6_seen wsX6_hasTag := goodIn_r _ [13, 14, 15, 16, 17, 18, 19, 20, 21, 22, 23, 24, 25, 26, 27, 28, 29, 30, 31, 32, 33, 34, 35, 36, 37, 38, 39, 40, 41] (by decide +kernel) (by decide +kernel)
set_option maxRecDepth 20000 in
theorem gX6_seen_X6_hasTag : GoodIn wsX6_seen (wsV RX6 139 RX6 yX6_hasTag wsX6_hasTag) := goodIn_app (goodIn_of _ (by decide +kernel)) ggX6_seen_X6_hasTag
theorem dX6_seen_0 : decode cX6_seen 0 = .ok (.aload_n 0, 1) := by decide +kernel
theorem dX6_seen_1 : decode cX6_seen 1 = .ok (.aload_n 0, 1) := by decide +kernel
theorem dX6_seen_2 : decode cX6_seen 2 = .ok (.iload_n 1, 1) := by decide +kernel
theorem dX6_seen_3 : decode cX6_seen 3 = .ok (.invokevirtual 122, 3) := by decide +kernel
theorem dX6_seen_6 : decode cX6_seen 6 = .ok (.ifCond .eq 7, 3) := by decide +kernel
theorem dX6_seen_9 : decode cX6_seen 9 = .ok (.iconst 1, 1) := by decide +kernel
theorem dX6_seen_10 : decode cX6_seen 10 = .ok (.goto 4, 3) := by decide +kernel
theorem dX6_seen_13 : decode cX6_seen 13 = .ok (.iconst 0, 1) := by decide +kernel
theorem dX6_seen_14 : decode cX6_seen 14 = .ok (.putfield 63, 3) := by decide +kernel
theorem dX6_seen_17 : decode cX6_seen 17 = .ok (.aload_n 0, 1) := by decide +kernel
theorem dX6_seen_18 : decode cX6_seen 18 = .ok (.getfield 63, 3) := by decide +kernel
theorem dX6_seen_21 : decode cX6_seen 21 = .ok (.ifCond .ne 27, 3) := by decide +kernel
theorem dX6_seen_24 : decode cX6_seen 24 = .ok (.aload_n 0, 1) := by decide +kernel
theorem dX6_seen_25 : decode cX6_seen 25 = .ok (.iload_n 1, 1) := by decide +kernel
theorem dX6_seen_26 : decode cX6_seen 26 = .ok (.aload_n 0, 1) := by decide +kernel
theorem dX6_seen_27 : decode cX6_seen 27 = .ok (.getfield 51, 3) := by decide +kernel
theorem dX6_seen_30 : decode cX6_seen 30 = .ok (.iconst 1, 1) := by decide +kernel
theorem dX6_seen_31 : decode cX6_seen 31 = .ok (.iaload, 1) := by decide +kernel
theorem dX6_seen_32 : decode cX6_seen 32 = .ok (.aload_n 0, 1) := by decide +kernel
theorem dX6_seen_33 : decode cX6_seen 33 = .ok (.getfield 35, 3) := by decide +kernel
theorem dX6_seen_36 : decode cX6_seen 36 = .ok (.iload_n 1, 1) := by decide +kernel
theorem dX6_seen_37 : decode cX6_seen 37 = .ok (.iaload, 1) := by decide +kernel
theorem dX6_seen_38 : decode cX6_seen 38 = .ok (.invokevirtual 139, 3) := by decide +kernel
theorem dX6_seen_41 : decode cX6_seen 41 = .ok (.ifCond .eq 7, 3) := by decide +kernel
theorem dX6_seen_44 : decode cX6_seen 44 = .ok (.iconst 1, 1) := by decide +kernel
theorem dX6_seen_45 : decode cX6_seen 45 = .ok (.goto 4, 3) := by decide +kernel
theorem dX6_seen_48 : decode cX6_seen 48 = .ok (.iconst 0, 1) := by decide +kernel
theorem dX6_seen_49 : decode cX6_seen 49 = .ok (.ireturn, 1) := by decide +kernel
set_option maxRecDepth 20000 in
theorem ggX6_isStoredGood_X6_look : GoodIn wsX6_isStoredGood wsX6_look := goodIn_r _ [9, 10, 11, 12, 13, 14, 15, 16, 17, 18, 59, 60, 61, 62, 63, 64, 65, 66, 67, 68, 69, 70, 71, 72, 73, 74, 75, 76, 77, 78, 79, 80, 81, 82, 83, 84, 85] (by decide +kernel) (by decide +kernel)
set_option maxRecDepth 20000 in
theorem gX6_isStoredGood_X6_look : GoodIn wsX6_isStoredGood (wsV RX6 128 RX6 yX6_look wsX6_look) := goodIn_app (goodIn_of _ (by decide +kernel)) ggX6_isStoredGood_X6_look
set_option maxRecDepth 20000 in
theorem ggX6_isStoredGood_X6_isGood : GoodIn wsX6_isStoredGood wsX6_isGood := goodIn_r _ [22, 3, 11, 23, 24, 25, 8, 26, 27, 28, 29, 30, 31, 32, 33, 34, 35, 12, 15, 36, 37, 38, 39, 40, 41, 42, 43, 44, 45, 17, 18, 46, 47, 48, 49, 50, 51, 52, 53, 54, 59, 60, 61, 62, 63, 64, 65, 66, 67, 68, 69, 70, 71, 72, 73, 74, 75, 76, 77, 78, 79, 80, 81, 82, 83, 84, 85] (by decide +kernel) (by decide +kernel)
set_option maxRecDepth 20000 in
theorem gX6_isStoredGood_X6_isGood : GoodIn wsX6_isStoredGood (wsV RX6 135 RX6 yX6_isGood wsX6_isGood) := goodIn_app (goodIn_of _ (by decide +kernel)) ggX6_isStoredGood_X6_isGood
set_option maxRecDepth 20000 in
theorem ggX6_isStoredGood_X6_hasTag : GoodIn wsX6_isStoredGood wsX6_hasTag := goodIn_r _ [58, 4, 59, 60, 61, 62, 63, 64, 65, 66, 67, 68, 69, 70, 71, 72, 73, 74, 75, 76, 77, 78, 79, 80, 81, 82, 83, 84, 85] (by decide +kernel) (by decide +kernel)
set_option maxRecDepth 20000 in
theorem gX6_isStoredGood_X6_hasTag : GoodIn wsX6_isStoredGood (wsV RX6 139 RX6 yX6_hasTag wsX6_hasTag) := goodIn_app (goodIn_of _ (by decide +kernel)) ggX6_isStoredGood_X6_hasTag
theorem dX6_isStoredGood_0 : decode cX6_isStoredGood 0 = .ok (.bipush 8, 2) := by decide +kernel
theorem dX6_isStoredGood_2 : decode cX6_isStoredGood 2 = .ok (.iload_n 1, 1) := by decide +kernel
theorem dX6_isStoredGood_3 : decode cX6_isStoredGood 3 = .ok (.imul, 1) := by decide +kernel
theorem dX6_isStoredGood_4 : decode cX6_isStoredGood 4 = .ok (.iload_n 2, 1) := by decide +kernel
theorem dX6_isStoredGood_5 : decode cX6_isStoredGood 5 = .ok (.iadd, 1) := by decide +kernel
theorem dX6_isStoredGood_6 : decode cX6_isStoredGood 6 = .ok (.istore_n 3, 1) := by decide +kernel
theorem dX6_isStoredGood_7 : decode cX6_isStoredGood 7 = .ok (.aload_n 0, 1) := by decide +kernel
theorem dX6_isStoredGood_8 : decode cX6_isStoredGood 8 = .ok (.aload_n 0, 1) := by decide +kernel
theorem dX6_isStoredGood_9 : decode cX6_isStoredGood 9 = .ok (.getfield 38, 3) := by decide +kernel
theorem dX6_isStoredGood_12 : decode cX6_isStoredGood 12 = .ok (.iload_n 3, 1) := by decide +kernel
theorem dX6_isStoredGood_13 : decode cX6_isStoredGood 13 = .ok (.iaload, 1) := by decide +kernel
theorem dX6_isStoredGood_14 : decode cX6_isStoredGood 14 = .ok (.iload_n 1, 1) := by decide +kernel
theorem dX6_isStoredGood_15 : decode cX6_isStoredGood 15 = .ok (.aload_n 0, 1) := by decide +kernel
theorem dX6_isStoredGood_16 : decode cX6_isStoredGood 16 = .ok (.getfield 41, 3) := by decide +kernel
theorem dX6_isStoredGood_19 : decode cX6_isStoredGood 19 = .ok (.iload_n 3, 1) := by decide +kernel
theorem dX6_isStoredGood_20 : decode cX6_isStoredGood 20 = .ok (.iaload, 1) := by decide +kernel
theorem dX6_isStoredGood_21 : decode cX6_isStoredGood 21 = .ok (.invokevirtual 128, 3) := by decide +kernel
theorem dX6_isStoredGood_24 : decode cX6_isStoredGood 24 = .ok (.iconst 0, 1) := by decide +kernel
theorem dX6_isStoredGood_25 : decode cX6_isStoredGood 25 = .ok (.istore 4, 2) := by decide +kernel
theorem dX6_isStoredGood_27 : decode cX6_isStoredGood 27 = .ok (.iload 4, 2) := by decide +kernel
theorem dX6_isStoredGood_29 : decode cX6_isStoredGood 29 = .ok (.bipush 8, 2) := by decide +kernel
theorem dX6_isStoredGood_31 : decode cX6_isStoredGood 31 = .ok (.if_icmp .ge 28, 3) := by decide +kernel
theorem dX6_isStoredGood_34 : decode cX6_isStoredGood 34 = .ok (.aload_n 0, 1) := by decide +kernel
theorem dX6_isStoredGood_35 : decode cX6_isStoredGood 35 = .ok (.getfield 60, 3) := by decide +kernel
theorem dX6_isStoredGood_38 : decode cX6_isStoredGood 38 = .ok (.iload 4, 2) := by decide +kernel
theorem dX6_isStoredGood_40 : decode cX6_isStoredGood 40 = .ok (.aload_n 0, 1) := by decide +kernel
theorem dX6_isStoredGood_41 : decode cX6_isStoredGood 41 = .ok (.getfield 44, 3) := by decide +kernel
theorem dX6_isStoredGood_44 : decode cX6_isStoredGood 44 = .ok (.bipush 8, 2) := by decide +kernel
theorem dX6_isStoredGood_46 : decode cX6_isStoredGood 46 = .ok (.iload_n 3, 1) := by decide +kernel
theorem dX6_isStoredGood_47 : decode cX6_isStoredGood 47 = .ok (.imul, 1) := by decide +kernel
theorem dX6_isStoredGood_48 : decode cX6_isStoredGood 48 = .ok (.iload 4, 2) := by decide +kernel
theorem dX6_isStoredGood_50 : decode cX6_isStoredGood 50 = .ok (.iadd, 1) := by decide +kernel
theorem dX6_isStoredGood_51 : decode cX6_isStoredGood 51 = .ok (.iaload, 1) := by decide +kernel
theorem dX6_isStoredGood_52 : decode cX6_isStoredGood 52 = .ok (.iastore, 1) := by decide +kernel
theorem dX6_isStoredGood_53 : decode cX6_isStoredGood 53 = .ok (.iinc 4 1, 3) := by decide +kernel
theorem dX6_isStoredGood_56 : decode cX6_isStoredGood 56 = .ok (.goto (-29), 3) := by decide +kernel
theorem dX6_isStoredGood_59 : decode cX6_isStoredGood 59 = .ok (.aload_n 0, 1) := by decide +kernel
theorem dX6_isStoredGood_60 : decode cX6_isStoredGood 60 = .ok (.invokevirtual 135, 3) := by decide +kernel
theorem dX6_isStoredGood_63 : decode cX6_isStoredGood 63 = .ok (.ifCond .eq 22, 3) := by decide +kernel
theorem dX6_isStoredGood_66 : decode cX6_isStoredGood 66 = .ok (.aload_n 0, 1) := by decide +kernel
theorem dX6_isStoredGood_67 : decode cX6_isStoredGood 67 = .ok (.iload_n 1, 1) := by decide +kernel
theorem dX6_isStoredGood_68 : decode cX6_isStoredGood 68 = .ok (.aload_n 0, 1) := by decide +kernel
theorem dX6_isStoredGood_69 : decode cX6_isStoredGood 69 = .ok (.getfield 60, 3) := by decide +kernel
theorem dX6_isStoredGood_72 : decode cX6_isStoredGood 72 = .ok (.iconst 1, 1) := by decide +kernel
theorem dX6_isStoredGood_73 : decode cX6_isStoredGood 73 = .ok (.iaload, 1) := by decide +kernel
theorem dX6_isStoredGood_74 : decode cX6_isStoredGood 74 = .ok (.iload_n 2, 1) := by decide +kernel
theorem dX6_isStoredGood_75 : decode cX6_isStoredGood 75 = .ok (.invokevirtual 139, 3) := by decide +kernel
theorem dX6_isStoredGood_78 : decode cX6_isStoredGood 78 = .ok (.ifCond .ne 7, 3) := by decide +kernel
theorem dX6_isStoredGood_81 : decode cX6_isStoredGood 81 = .ok (.iconst 1, 1) := by decide +kernel
theorem dX6_isStoredGood_82 : decode cX6_isStoredGood 82 = .ok (.goto 4, 3) := by decide +kernel
theorem dX6_isStoredGood_85 : decode cX6_isStoredGood 85 = .ok (.iconst 0, 1) := by decide +kernel
theorem dX6_isStoredGood_86 : decode cX6_isStoredGood 86 = .ok (.ireturn, 1) := by decide +kernel
set_option maxRecDepth 20000 in
theorem ggX6_recount_X6_noTopic : GoodIn wsX6_recount wsX6_noTopic := goodIn_r _ [7, 8, 70, 71, 72, 73, 74, 75, 76, 77, 78, 79, 80, 81, 82, 83, 84, 85, 86, 87, 88, 89, 90, 91, 92, 93, 94, 95, 96] (by decide +kernel) (by decide +kernel)
set_option maxRecDepth 20000 in
theorem gX6_recount_X6_noTopic : GoodIn wsX6_recount (wsV RX6 122 RX6 yX6_noTopic wsX6_noTopic) := goodIn_app (goodIn_of _ (by decide +kernel)) ggX6_recount_X6_noTopic
set_option maxRecDepth 20000 in
theorem ggX6_recount_X6_isStoredGood : GoodIn wsX6_recount wsX6_isStoredGood := goodIn_r _ [12, 13, 14, 15, 16, 17, 18, 19, 6, 20, 21, 22, 23, 24, 25, 26, 27, 28, 29, 30, 31, 32, 33, 34, 35, 36, 37, 38, 39, 40, 41, 42, 43, 44, 45, 46, 47, 48, 49, 50, 51, 52, 53, 54, 55, 56, 57, 58, 59, 60, 61, 62, 63, 64, 65, 66, 67, 68, 69, 70, 71, 72, 73, 74, 75, 76, 77, 78, 79, 80, 81, 82, 83, 84, 85, 86, 87, 88, 89, 90, 91, 92, 93, 94, 95, 96] (by decide +kernel) (by decide +kernel)
set_option maxRecDepth 20000 in
theorem gX6_recount_X6_isStoredGood : GoodIn wsX6_recount (wsV RX6 143 RX6 yX6_isStoredGood wsX6_isStoredGood) := goodIn_app (goodIn_of _ (by decide +kernel)) ggX6_recount_X6_isStoredGood
theorem dX6_recount_0 : decode cX6_recount 0 = .ok (.aload_n 0, 1) := by decide +kernel
theorem dX6_recount_1 : decode cX6_recount 1 = .ok (.aload_n 0, 1) := by decide +kernel
theorem dX6_recount_2 : decode cX6_recount 2 = .ok (.iload_n 1, 1) := by decide +kernel
theorem dX6_recount_3 : decode cX6_recount 3 = .ok (.invokevirtual 122, 3) := by decide +kernel
theorem dX6_recount_6 : decode cX6_recount 6 = .ok (.ifCond .eq 7, 3) := by decide +kernel
theorem dX6_recount_9 : decode cX6_recount 9 = .ok (.iconst 1, 1) := by decide +kernel
theorem dX6_recount_10 : decode cX6_recount 10 = .ok (.goto 4, 3) := by decide +kernel
theorem dX6_recount_13 : decode cX6_recount 13 = .ok (.iconst 0, 1) := by decide +kernel
theorem dX6_recount_14 : decode cX6_recount 14 = .ok (.putfield 63, 3) := by decide +kernel
theorem dX6_recount_17 : decode cX6_recount 17 = .ok (.aload_n 0, 1) := by decide +kernel
theorem dX6_recount_18 : decode cX6_recount 18 = .ok (.getfield 63, 3) := by decide +kernel
theorem dX6_recount_21 : decode cX6_recount 21 = .ok (.ifCond .eq 5, 3) := by decide +kernel
theorem dX6_recount_24 : decode cX6_recount 24 = .ok (.iconst 0, 1) := by decide +kernel
theorem dX6_recount_25 : decode cX6_recount 25 = .ok (.ireturn, 1) := by decide +kernel
theorem dX6_recount_26 : decode cX6_recount 26 = .ok (.iconst 0, 1) := by decide +kernel
theorem dX6_recount_27 : decode cX6_recount 27 = .ok (.istore_n 2, 1) := by decide +kernel
theorem dX6_recount_28 : decode cX6_recount 28 = .ok (.iload_n 2, 1) := by decide +kernel
theorem dX6_recount_29 : decode cX6_recount 29 = .ok (.aload_n 0, 1) := by decide +kernel
theorem dX6_recount_30 : decode cX6_recount 30 = .ok (.getfield 35, 3) := by decide +kernel
theorem dX6_recount_33 : decode cX6_recount 33 = .ok (.iload_n 1, 1) := by decide +kernel
theorem dX6_recount_34 : decode cX6_recount 34 = .ok (.iaload, 1) := by decide +kernel
theorem dX6_recount_35 : decode cX6_recount 35 = .ok (.if_icmp .ge 22, 3) := by decide +kernel
theorem dX6_recount_38 : decode cX6_recount 38 = .ok (.aload_n 0, 1) := by decide +kernel
theorem dX6_recount_39 : decode cX6_recount 39 = .ok (.iload_n 1, 1) := by decide +kernel
theorem dX6_recount_40 : decode cX6_recount 40 = .ok (.iload_n 2, 1) := by decide +kernel
theorem dX6_recount_41 : decode cX6_recount 41 = .ok (.invokevirtual 143, 3) := by decide +kernel
theorem dX6_recount_44 : decode cX6_recount 44 = .ok (.ifCond .ne 7, 3) := by decide +kernel
theorem dX6_recount_47 : decode cX6_recount 47 = .ok (.iconst (-1), 1) := by decide +kernel
theorem dX6_recount_48 : decode cX6_recount 48 = .ok (.iload_n 2, 1) := by decide +kernel
theorem dX6_recount_49 : decode cX6_recount 49 = .ok (.isub, 1) := by decide +kernel
theorem dX6_recount_50 : decode cX6_recount 50 = .ok (.ireturn, 1) := by decide +kernel
theorem dX6_recount_51 : decode cX6_recount 51 = .ok (.iinc 2 1, 3) := by decide +kernel
theorem dX6_recount_54 : decode cX6_recount 54 = .ok (.goto (-26), 3) := by decide +kernel
theorem dX6_recount_57 : decode cX6_recount 57 = .ok (.aload_n 0, 1) := by decide +kernel
theorem dX6_recount_58 : decode cX6_recount 58 = .ok (.getfield 35, 3) := by decide +kernel
theorem dX6_recount_61 : decode cX6_recount 61 = .ok (.iload_n 1, 1) := by decide +kernel
theorem dX6_recount_62 : decode cX6_recount 62 = .ok (.iaload, 1) := by decide +kernel
theorem dX6_recount_63 : decode cX6_recount 63 = .ok (.ireturn, 1) := by decide +kernel
set_option maxRecDepth 20000 in
theorem ggX6_spoil_X6_noTopic : GoodIn wsX6_spoil wsX6_noTopic := goodIn_r _ [10, 11, 12, 13, 14, 15, 16, 17, 18, 19, 20, 21, 22, 23, 24, 25, 26, 27, 28, 29, 30, 31, 32, 33, 34, 35, 36, 37, 38] (by decide +kernel) (by decide +kernel)
set_option maxRecDepth 20000 in
theorem gX6_spoil_X6_noTopic : GoodIn wsX6_spoil (wsV RX6 122 RX6 yX6_noTopic wsX6_noTopic) := goodIn_app (goodIn_of _ (by decide +kernel)) ggX6_spoil_X6_noTopic
theorem dX6_spoil_0 : decode cX6_spoil 0 = .ok (.aload_n 0, 1) := by decide +kernel
theorem dX6_spoil_1 : decode cX6_spoil 1 = .ok (.aload_n 0, 1) := by decide +kernel
theorem dX6_spoil_2 : decode cX6_spoil 2 = .ok (.iload_n 1, 1) := by decide +kernel
theorem dX6_spoil_3 : decode cX6_spoil 3 = .ok (.invokevirtual 122, 3) := by decide +kernel
theorem dX6_spoil_6 : decode cX6_spoil 6 = .ok (.ifCond .eq 7, 3) := by decide +kernel
theorem dX6_spoil_9 : decode cX6_spoil 9 = .ok (.iconst 1, 1) := by decide +kernel
theorem dX6_spoil_10 : decode cX6_spoil 10 = .ok (.goto 52, 3) := by decide +kernel
theorem dX6_spoil_13 : decode cX6_spoil 13 = .ok (.iload_n 2, 1) := by decide +kernel
theorem dX6_spoil_14 : decode cX6_spoil 14 = .ok (.ifCond .lt 13, 3) := by decide +kernel
theorem dX6_spoil_17 : decode cX6_spoil 17 = .ok (.iload_n 2, 1) := by decide +kernel
theorem dX6_spoil_18 : decode cX6_spoil 18 = .ok (.aload_n 0, 1) := by decide +kernel
theorem dX6_spoil_19 : decode cX6_spoil 19 = .ok (.getfield 35, 3) := by decide +kernel
theorem dX6_spoil_22 : decode cX6_spoil 22 = .ok (.iload_n 1, 1) := by decide +kernel
theorem dX6_spoil_23 : decode cX6_spoil 23 = .ok (.iaload, 1) := by decide +kernel
theorem dX6_spoil_24 : decode cX6_spoil 24 = .ok (.if_icmp .lt 7, 3) := by decide +kernel
theorem dX6_spoil_27 : decode cX6_spoil 27 = .ok (.iconst 2, 1) := by decide +kernel
theorem dX6_spoil_28 : decode cX6_spoil 28 = .ok (.goto 34, 3) := by decide +kernel
theorem dX6_spoil_31 : decode cX6_spoil 31 = .ok (.iload_n 3, 1) := by decide +kernel
theorem dX6_spoil_32 : decode cX6_spoil 32 = .ok (.ifCond .lt 25, 3) := by decide +kernel
theorem dX6_spoil_35 : decode cX6_spoil 35 = .ok (.iload_n 3, 1) := by decide +kernel
theorem dX6_spoil_36 : decode cX6_spoil 36 = .ok (.iconst 2, 1) := by decide +kernel
theorem dX6_spoil_37 : decode cX6_spoil 37 = .ok (.aload_n 0, 1) := by decide +kernel
theorem dX6_spoil_38 : decode cX6_spoil 38 = .ok (.getfield 19, 3) := by decide +kernel
theorem dX6_spoil_41 : decode cX6_spoil 41 = .ok (.aload_n 0, 1) := by decide +kernel
theorem dX6_spoil_42 : decode cX6_spoil 42 = .ok (.getfield 38, 3) := by decide +kernel
theorem dX6_spoil_45 : decode cX6_spoil 45 = .ok (.bipush 8, 2) := by decide +kernel
theorem dX6_spoil_47 : decode cX6_spoil 47 = .ok (.iload_n 1, 1) := by decide +kernel
theorem dX6_spoil_48 : decode cX6_spoil 48 = .ok (.imul, 1) := by decide +kernel
theorem dX6_spoil_49 : decode cX6_spoil 49 = .ok (.iload_n 2, 1) := by decide +kernel
theorem dX6_spoil_50 : decode cX6_spoil 50 = .ok (.iadd, 1) := by decide +kernel
theorem dX6_spoil_51 : decode cX6_spoil 51 = .ok (.iaload, 1) := by decide +kernel
theorem dX6_spoil_52 : decode cX6_spoil 52 = .ok (.iaload, 1) := by decide +kernel
theorem dX6_spoil_53 : decode cX6_spoil 53 = .ok (.iadd, 1) := by decide +kernel
theorem dX6_spoil_54 : decode cX6_spoil 54 = .ok (.if_icmp .lt 7, 3) := by decide +kernel
theorem dX6_spoil_57 : decode cX6_spoil 57 = .ok (.iconst 2, 1) := by decide +kernel
theorem dX6_spoil_58 : decode cX6_spoil 58 = .ok (.goto 4, 3) := by decide +kernel
theorem dX6_spoil_61 : decode cX6_spoil 61 = .ok (.iconst 0, 1) := by decide +kernel
theorem dX6_spoil_62 : decode cX6_spoil 62 = .ok (.putfield 63, 3) := by decide +kernel
theorem dX6_spoil_65 : decode cX6_spoil 65 = .ok (.aload_n 0, 1) := by decide +kernel
theorem dX6_spoil_66 : decode cX6_spoil 66 = .ok (.getfield 63, 3) := by decide +kernel
theorem dX6_spoil_69 : decode cX6_spoil 69 = .ok (.ifCond .ne 21, 3) := by decide +kernel
theorem dX6_spoil_72 : decode cX6_spoil 72 = .ok (.aload_n 0, 1) := by decide +kernel
theorem dX6_spoil_73 : decode cX6_spoil 73 = .ok (.getfield 44, 3) := by decide +kernel
theorem dX6_spoil_76 : decode cX6_spoil 76 = .ok (.bipush 8, 2) := by decide +kernel
theorem dX6_spoil_78 : decode cX6_spoil 78 = .ok (.bipush 8, 2) := by decide +kernel
theorem dX6_spoil_80 : decode cX6_spoil 80 = .ok (.iload_n 1, 1) := by decide +kernel
theorem dX6_spoil_81 : decode cX6_spoil 81 = .ok (.imul, 1) := by decide +kernel
theorem dX6_spoil_82 : decode cX6_spoil 82 = .ok (.iload_n 2, 1) := by decide +kernel
theorem dX6_spoil_83 : decode cX6_spoil 83 = .ok (.iadd, 1) := by decide +kernel
theorem dX6_spoil_84 : decode cX6_spoil 84 = .ok (.imul, 1) := by decide +kernel
theorem dX6_spoil_85 : decode cX6_spoil 85 = .ok (.iload_n 3, 1) := by decide +kernel
theorem dX6_spoil_86 : decode cX6_spoil 86 = .ok (.iadd, 1) := by decide +kernel
theorem dX6_spoil_87 : decode cX6_spoil 87 = .ok (.iload 4, 2) := by decide +kernel
theorem dX6_spoil_89 : decode cX6_spoil 89 = .ok (.iastore, 1) := by decide +kernel
theorem dX6_spoil_90 : decode cX6_spoil 90 = .ok (.return_, 1) := by decide +kernel
set_option maxRecDepth 20000 in
theorem ggX6_close_X6_noTopic : GoodIn wsX6_close wsX6_noTopic := goodIn_r _ [8, 9, 10, 11, 12, 13, 14, 15, 16, 17, 18, 19, 20, 21, 22, 23, 24, 25, 26, 27, 28, 29, 30, 31, 32, 33, 34, 35, 36] (by decide +kernel) (by decide +kernel)
set_option maxRecDepth 20000 in
theorem gX6_close_X6_noTopic : GoodIn wsX6_close (wsV RX6 122 RX6 yX6_noTopic wsX6_noTopic) := goodIn_app (goodIn_of _ (by decide +kernel)) ggX6_close_X6_noTopic
theorem dX6_close_0 : decode cX6_close 0 = .ok (.aload_n 0, 1) := by decide +kernel
theorem dX6_close_1 : decode cX6_close 1 = .ok (.aload_n 0, 1) := by decide +kernel
theorem dX6_close_2 : decode cX6_close 2 = .ok (.iload_n 1, 1) := by decide +kernel
theorem dX6_close_3 : decode cX6_close 3 = .ok (.invokevirtual 122, 3) := by decide +kernel
theorem dX6_close_6 : decode cX6_close 6 = .ok (.ifCond .eq 7, 3) := by decide +kernel
theorem dX6_close_9 : decode cX6_close 9 = .ok (.iconst 1, 1) := by decide +kernel
theorem dX6_close_10 : decode cX6_close 10 = .ok (.goto 17, 3) := by decide +kernel
theorem dX6_close_13 : decode cX6_close 13 = .ok (.aload_n 0, 1) := by decide +kernel
theorem dX6_close_14 : decode cX6_close 14 = .ok (.getfield 31, 3) := by decide +kernel
theorem dX6_close_17 : decode cX6_close 17 = .ok (.iload_n 1, 1) := by decide +kernel
theorem dX6_close_18 : decode cX6_close 18 = .ok (.baload, 1) := by decide +kernel
theorem dX6_close_19 : decode cX6_close 19 = .ok (.ifCond .eq 7, 3) := by decide +kernel
theorem dX6_close_22 : decode cX6_close 22 = .ok (.iconst 2, 1) := by decide +kernel
theorem dX6_close_23 : decode cX6_close 23 = .ok (.goto 4, 3) := by decide +kernel
theorem dX6_close_26 : decode cX6_close 26 = .ok (.iconst 0, 1) := by decide +kernel
theorem dX6_close_27 : decode cX6_close 27 = .ok (.putfield 63, 3) := by decide +kernel
theorem dX6_close_30 : decode cX6_close 30 = .ok (.aload_n 0, 1) := by decide +kernel
theorem dX6_close_31 : decode cX6_close 31 = .ok (.getfield 63, 3) := by decide +kernel
theorem dX6_close_34 : decode cX6_close 34 = .ok (.ifCond .eq 5, 3) := by decide +kernel
theorem dX6_close_37 : decode cX6_close 37 = .ok (.iconst 0, 1) := by decide +kernel
theorem dX6_close_38 : decode cX6_close 38 = .ok (.ireturn, 1) := by decide +kernel
theorem dX6_close_39 : decode cX6_close 39 = .ok (.aload_n 0, 1) := by decide +kernel
theorem dX6_close_40 : decode cX6_close 40 = .ok (.getfield 31, 3) := by decide +kernel
theorem dX6_close_43 : decode cX6_close 43 = .ok (.iload_n 1, 1) := by decide +kernel
theorem dX6_close_44 : decode cX6_close 44 = .ok (.iconst 1, 1) := by decide +kernel
theorem dX6_close_45 : decode cX6_close 45 = .ok (.bastore, 1) := by decide +kernel
theorem dX6_close_46 : decode cX6_close 46 = .ok (.aload_n 0, 1) := by decide +kernel
theorem dX6_close_47 : decode cX6_close 47 = .ok (.getfield 35, 3) := by decide +kernel
theorem dX6_close_50 : decode cX6_close 50 = .ok (.iload_n 1, 1) := by decide +kernel
theorem dX6_close_51 : decode cX6_close 51 = .ok (.iaload, 1) := by decide +kernel
theorem dX6_close_52 : decode cX6_close 52 = .ok (.ireturn, 1) := by decide +kernel
theorem dX6_put_0 : decode cX6_put 0 = .ok (.aload_n 0, 1) := by decide +kernel
theorem dX6_put_1 : decode cX6_put 1 = .ok (.getfield 54, 3) := by decide +kernel
theorem dX6_put_4 : decode cX6_put 4 = .ok (.aload_n 0, 1) := by decide +kernel
theorem dX6_put_5 : decode cX6_put 5 = .ok (.getfield 147, 3) := by decide +kernel
theorem dX6_put_8 : decode cX6_put 8 = .ok (.iload_n 1, 1) := by decide +kernel
theorem dX6_put_9 : decode cX6_put 9 = .ok (.iastore, 1) := by decide +kernel
theorem dX6_put_10 : decode cX6_put 10 = .ok (.aload_n 0, 1) := by decide +kernel
theorem dX6_put_11 : decode cX6_put 11 = .ok (.dup, 1) := by decide +kernel
theorem dX6_put_12 : decode cX6_put 12 = .ok (.getfield 147, 3) := by decide +kernel
theorem dX6_put_15 : decode cX6_put 15 = .ok (.iconst 1, 1) := by decide +kernel
theorem dX6_put_16 : decode cX6_put 16 = .ok (.iadd, 1) := by decide +kernel
theorem dX6_put_17 : decode cX6_put 17 = .ok (.putfield 147, 3) := by decide +kernel
theorem dX6_put_20 : decode cX6_put 20 = .ok (.return_, 1) := by decide +kernel
set_option maxRecDepth 20000 in
theorem ggX6_export_X6_noTopic : GoodIn wsX6_export wsX6_noTopic := goodIn_r _ [14, 15, 21, 22, 23, 24, 25, 26, 27, 28, 29, 30, 31, 32, 33, 34, 35, 36, 37, 38, 39, 40, 41, 42, 43, 44, 45, 46, 47] (by decide +kernel) (by decide +kernel)
set_option maxRecDepth 20000 in
theorem gX6_export_X6_noTopic : GoodIn wsX6_export (wsV RX6 122 RX6 yX6_noTopic wsX6_noTopic) := goodIn_app (goodIn_of _ (by decide +kernel)) ggX6_export_X6_noTopic
set_option maxRecDepth 20000 in
theorem ggX6_export_X6_put : GoodIn wsX6_export wsX6_put := goodIn_r _ [19, 20, 2, 21, 22, 23, 24, 25, 26, 27, 28, 29, 30, 31, 32, 33, 34, 35, 36, 37, 38, 39, 40, 41, 42, 43, 44, 45, 46, 47] (by decide +kernel) (by decide +kernel)
set_option maxRecDepth 20000 in
theorem gX6_export_X6_put : GoodIn wsX6_export (wsV RX6 150 RX6 yX6_put wsX6_put) := goodIn_app (goodIn_of _ (by decide +kernel)) ggX6_export_X6_put
theorem dX6_export_0 : decode cX6_export 0 = .ok (.aload_n 0, 1) := by decide +kernel
theorem dX6_export_1 : decode cX6_export 1 = .ok (.aload_n 0, 1) := by decide +kernel
theorem dX6_export_2 : decode cX6_export 2 = .ok (.iload_n 1, 1) := by decide +kernel
theorem dX6_export_3 : decode cX6_export 3 = .ok (.invokevirtual 122, 3) := by decide +kernel
theorem dX6_export_6 : decode cX6_export 6 = .ok (.ifCond .eq 7, 3) := by decide +kernel
theorem dX6_export_9 : decode cX6_export 9 = .ok (.iconst 1, 1) := by decide +kernel
theorem dX6_export_10 : decode cX6_export 10 = .ok (.goto 4, 3) := by decide +kernel
theorem dX6_export_13 : decode cX6_export 13 = .ok (.iconst 0, 1) := by decide +kernel
theorem dX6_export_14 : decode cX6_export 14 = .ok (.putfield 63, 3) := by decide +kernel
theorem dX6_export_17 : decode cX6_export 17 = .ok (.aload_n 0, 1) := by decide +kernel
theorem dX6_export_18 : decode cX6_export 18 = .ok (.getfield 63, 3) := by decide +kernel
theorem dX6_export_21 : decode cX6_export 21 = .ok (.ifCond .eq 5, 3) := by decide +kernel
theorem dX6_export_24 : decode cX6_export 24 = .ok (.iconst 0, 1) := by decide +kernel
theorem dX6_export_25 : decode cX6_export 25 = .ok (.ireturn, 1) := by decide +kernel
theorem dX6_export_26 : decode cX6_export 26 = .ok (.aload_n 0, 1) := by decide +kernel
theorem dX6_export_27 : decode cX6_export 27 = .ok (.iconst 0, 1) := by decide +kernel
theorem dX6_export_28 : decode cX6_export 28 = .ok (.putfield 147, 3) := by decide +kernel
theorem dX6_export_31 : decode cX6_export 31 = .ok (.aload_n 0, 1) := by decide +kernel
theorem dX6_export_32 : decode cX6_export 32 = .ok (.aload_n 0, 1) := by decide +kernel
theorem dX6_export_33 : decode cX6_export 33 = .ok (.getfield 25, 3) := by decide +kernel
theorem dX6_export_36 : decode cX6_export 36 = .ok (.iload_n 1, 1) := by decide +kernel
theorem dX6_export_37 : decode cX6_export 37 = .ok (.iaload, 1) := by decide +kernel
theorem dX6_export_38 : decode cX6_export 38 = .ok (.invokevirtual 150, 3) := by decide +kernel
theorem dX6_export_41 : decode cX6_export 41 = .ok (.aload_n 0, 1) := by decide +kernel
theorem dX6_export_42 : decode cX6_export 42 = .ok (.aload_n 0, 1) := by decide +kernel
theorem dX6_export_43 : decode cX6_export 43 = .ok (.getfield 35, 3) := by decide +kernel
theorem dX6_export_46 : decode cX6_export 46 = .ok (.iload_n 1, 1) := by decide +kernel
theorem dX6_export_47 : decode cX6_export 47 = .ok (.iaload, 1) := by decide +kernel
theorem dX6_export_48 : decode cX6_export 48 = .ok (.invokevirtual 150, 3) := by decide +kernel
theorem dX6_export_51 : decode cX6_export 51 = .ok (.iconst 0, 1) := by decide +kernel
theorem dX6_export_52 : decode cX6_export 52 = .ok (.istore_n 2, 1) := by decide +kernel
theorem dX6_export_53 : decode cX6_export 53 = .ok (.iload_n 2, 1) := by decide +kernel
theorem dX6_export_54 : decode cX6_export 54 = .ok (.aload_n 0, 1) := by decide +kernel
theorem dX6_export_55 : decode cX6_export 55 = .ok (.getfield 35, 3) := by decide +kernel
theorem dX6_export_58 : decode cX6_export 58 = .ok (.iload_n 1, 1) := by decide +kernel
theorem dX6_export_59 : decode cX6_export 59 = .ok (.iaload, 1) := by decide +kernel
theorem dX6_export_60 : decode cX6_export 60 = .ok (.if_icmp .ge 122, 3) := by decide +kernel
theorem dX6_export_63 : decode cX6_export 63 = .ok (.bipush 8, 2) := by decide +kernel
theorem dX6_export_65 : decode cX6_export 65 = .ok (.iload_n 1, 1) := by decide +kernel
theorem dX6_export_66 : decode cX6_export 66 = .ok (.imul, 1) := by decide +kernel
theorem dX6_export_67 : decode cX6_export 67 = .ok (.iload_n 2, 1) := by decide +kernel
theorem dX6_export_68 : decode cX6_export 68 = .ok (.iadd, 1) := by decide +kernel
theorem dX6_export_69 : decode cX6_export 69 = .ok (.istore_n 3, 1) := by decide +kernel
theorem dX6_export_70 : decode cX6_export 70 = .ok (.aload_n 0, 1) := by decide +kernel
theorem dX6_export_71 : decode cX6_export 71 = .ok (.getfield 38, 3) := by decide +kernel
theorem dX6_export_74 : decode cX6_export 74 = .ok (.iload_n 3, 1) := by decide +kernel
theorem dX6_export_75 : decode cX6_export 75 = .ok (.iaload, 1) := by decide +kernel
theorem dX6_export_76 : decode cX6_export 76 = .ok (.istore 4, 2) := by decide +kernel
theorem dX6_export_78 : decode cX6_export 78 = .ok (.aload_n 0, 1) := by decide +kernel
theorem dX6_export_79 : decode cX6_export 79 = .ok (.aload_n 0, 1) := by decide +kernel
theorem dX6_export_80 : decode cX6_export 80 = .ok (.getfield 19, 3) := by decide +kernel
theorem dX6_export_83 : decode cX6_export 83 = .ok (.iload 4, 2) := by decide +kernel
theorem dX6_export_85 : decode cX6_export 85 = .ok (.iaload, 1) := by decide +kernel
theorem dX6_export_86 : decode cX6_export 86 = .ok (.invokevirtual 150, 3) := by decide +kernel
theorem dX6_export_89 : decode cX6_export 89 = .ok (.iconst 0, 1) := by decide +kernel
theorem dX6_export_90 : decode cX6_export 90 = .ok (.istore 5, 2) := by decide +kernel
theorem dX6_export_92 : decode cX6_export 92 = .ok (.iload 5, 2) := by decide +kernel
theorem dX6_export_94 : decode cX6_export 94 = .ok (.aload_n 0, 1) := by decide +kernel
theorem dX6_export_95 : decode cX6_export 95 = .ok (.getfield 19, 3) := by decide +kernel
theorem dX6_export_98 : decode cX6_export 98 = .ok (.iload 4, 2) := by decide +kernel
theorem dX6_export_100 : decode cX6_export 100 = .ok (.iaload, 1) := by decide +kernel
theorem dX6_export_101 : decode cX6_export 101 = .ok (.if_icmp .ge 26, 3) := by decide +kernel
theorem dX6_export_104 : decode cX6_export 104 = .ok (.aload_n 0, 1) := by decide +kernel
theorem dX6_export_105 : decode cX6_export 105 = .ok (.aload_n 0, 1) := by decide +kernel
theorem dX6_export_106 : decode cX6_export 106 = .ok (.getfield 22, 3) := by decide +kernel
theorem dX6_export_109 : decode cX6_export 109 = .ok (.bipush 6, 2) := by decide +kernel
theorem dX6_export_111 : decode cX6_export 111 = .ok (.iload 4, 2) := by decide +kernel
theorem dX6_export_113 : decode cX6_export 113 = .ok (.imul, 1) := by decide +kernel
theorem dX6_export_114 : decode cX6_export 114 = .ok (.iload 5, 2) := by decide +kernel
theorem dX6_export_116 : decode cX6_export 116 = .ok (.iadd, 1) := by decide +kernel
theorem dX6_export_117 : decode cX6_export 117 = .ok (.iaload, 1) := by decide +kernel
theorem dX6_export_118 : decode cX6_export 118 = .ok (.invokevirtual 150, 3) := by decide +kernel
theorem dX6_export_121 : decode cX6_export 121 = .ok (.iinc 5 1, 3) := by decide +kernel
theorem dX6_export_124 : decode cX6_export 124 = .ok (.goto (-32), 3) := by decide +kernel
theorem dX6_export_127 : decode cX6_export 127 = .ok (.aload_n 0, 1) := by decide +kernel
theorem dX6_export_128 : decode cX6_export 128 = .ok (.aload_n 0, 1) := by decide +kernel
theorem dX6_export_129 : decode cX6_export 129 = .ok (.getfield 41, 3) := by decide +kernel
theorem dX6_export_132 : decode cX6_export 132 = .ok (.iload_n 3, 1) := by decide +kernel
theorem dX6_export_133 : decode cX6_export 133 = .ok (.iaload, 1) := by decide +kernel
theorem dX6_export_134 : decode cX6_export 134 = .ok (.invokevirtual 150, 3) := by decide +kernel
theorem dX6_export_137 : decode cX6_export 137 = .ok (.iconst 0, 1) := by decide +kernel
theorem dX6_export_138 : decode cX6_export 138 = .ok (.istore 5, 2) := by decide +kernel
theorem dX6_export_140 : decode cX6_export 140 = .ok (.iload 5, 2) := by decide +kernel
theorem dX6_export_142 : decode cX6_export 142 = .ok (.iconst 2, 1) := by decide +kernel
theorem dX6_export_143 : decode cX6_export 143 = .ok (.aload_n 0, 1) := by decide +kernel
theorem dX6_export_144 : decode cX6_export 144 = .ok (.getfield 19, 3) := by decide +kernel
theorem dX6_export_147 : decode cX6_export 147 = .ok (.iload 4, 2) := by decide +kernel
theorem dX6_export_149 : decode cX6_export 149 = .ok (.iaload, 1) := by decide +kernel
theorem dX6_export_150 : decode cX6_export 150 = .ok (.iadd, 1) := by decide +kernel
theorem dX6_export_151 : decode cX6_export 151 = .ok (.if_icmp .ge 25, 3) := by decide +kernel
theorem dX6_export_154 : decode cX6_export 154 = .ok (.aload_n 0, 1) := by decide +kernel
theorem dX6_export_155 : decode cX6_export 155 = .ok (.aload_n 0, 1) := by decide +kernel
theorem dX6_export_156 : decode cX6_export 156 = .ok (.getfield 44, 3) := by decide +kernel
theorem dX6_export_159 : decode cX6_export 159 = .ok (.bipush 8, 2) := by decide +kernel
theorem dX6_export_161 : decode cX6_export 161 = .ok (.iload_n 3, 1) := by decide +kernel
theorem dX6_export_162 : decode cX6_export 162 = .ok (.imul, 1) := by decide +kernel
theorem dX6_export_163 : decode cX6_export 163 = .ok (.iload 5, 2) := by decide +kernel
theorem dX6_export_165 : decode cX6_export 165 = .ok (.iadd, 1) := by decide +kernel
theorem dX6_export_166 : decode cX6_export 166 = .ok (.iaload, 1) := by decide +kernel
theorem dX6_export_167 : decode cX6_export 167 = .ok (.invokevirtual 150, 3) := by decide +kernel
theorem dX6_export_170 : decode cX6_export 170 = .ok (.iinc 5 1, 3) := by decide +kernel
theorem dX6_export_173 : decode cX6_export 173 = .ok (.goto (-33), 3) := by decide +kernel
theorem dX6_export_176 : decode cX6_export 176 = .ok (.iinc 2 1, 3) := by decide +kernel
theorem dX6_export_179 : decode cX6_export 179 = .ok (.goto (-126), 3) := by decide +kernel
theorem dX6_export_182 : decode cX6_export 182 = .ok (.aload_n 0, 1) := by decide +kernel
theorem dX6_export_183 : decode cX6_export 183 = .ok (.getfield 147, 3) := by decide +kernel
theorem dX6_export_186 : decode cX6_export 186 = .ok (.ireturn, 1) := by decide +kernel
theorem dX6_bundle_0 : decode cX6_bundle 0 = .ok (.aload_n 0, 1) := by decide +kernel
theorem dX6_bundle_1 : decode cX6_bundle 1 = .ok (.iload_n 1, 1) := by decide +kernel
theorem dX6_bundle_2 : decode cX6_bundle 2 = .ok (.ifCond .lt 11, 3) := by decide +kernel
theorem dX6_bundle_5 : decode cX6_bundle 5 = .ok (.iload_n 1, 1) := by decide +kernel
theorem dX6_bundle_6 : decode cX6_bundle 6 = .ok (.aload_n 0, 1) := by decide +kernel
theorem dX6_bundle_7 : decode cX6_bundle 7 = .ok (.getfield 147, 3) := by decide +kernel
theorem dX6_bundle_10 : decode cX6_bundle 10 = .ok (.if_icmp .lt 7, 3) := by decide +kernel
theorem dX6_bundle_13 : decode cX6_bundle 13 = .ok (.iconst 1, 1) := by decide +kernel
theorem dX6_bundle_14 : decode cX6_bundle 14 = .ok (.goto 4, 3) := by decide +kernel
theorem dX6_bundle_17 : decode cX6_bundle 17 = .ok (.iconst 0, 1) := by decide +kernel
theorem dX6_bundle_18 : decode cX6_bundle 18 = .ok (.putfield 63, 3) := by decide +kernel
theorem dX6_bundle_21 : decode cX6_bundle 21 = .ok (.aload_n 0, 1) := by decide +kernel
theorem dX6_bundle_22 : decode cX6_bundle 22 = .ok (.getfield 63, 3) := by decide +kernel
theorem dX6_bundle_25 : decode cX6_bundle 25 = .ok (.ifCond .ne 12, 3) := by decide +kernel
theorem dX6_bundle_28 : decode cX6_bundle 28 = .ok (.aload_n 0, 1) := by decide +kernel
theorem dX6_bundle_29 : decode cX6_bundle 29 = .ok (.getfield 54, 3) := by decide +kernel
theorem dX6_bundle_32 : decode cX6_bundle 32 = .ok (.iload_n 1, 1) := by decide +kernel
theorem dX6_bundle_33 : decode cX6_bundle 33 = .ok (.iaload, 1) := by decide +kernel
theorem dX6_bundle_34 : decode cX6_bundle 34 = .ok (.goto 4, 3) := by decide +kernel
theorem dX6_bundle_37 : decode cX6_bundle 37 = .ok (.iconst 0, 1) := by decide +kernel
theorem dX6_bundle_38 : decode cX6_bundle 38 = .ok (.ireturn, 1) := by decide +kernel
theorem dX6_poke_0 : decode cX6_poke 0 = .ok (.aload_n 0, 1) := by decide +kernel
theorem dX6_poke_1 : decode cX6_poke 1 = .ok (.iload_n 1, 1) := by decide +kernel
theorem dX6_poke_2 : decode cX6_poke 2 = .ok (.ifCond .lt 18, 3) := by decide +kernel
theorem dX6_poke_5 : decode cX6_poke 5 = .ok (.iload_n 1, 1) := by decide +kernel
theorem dX6_poke_6 : decode cX6_poke 6 = .ok (.aload_n 0, 1) := by decide +kernel
theorem dX6_poke_7 : decode cX6_poke 7 = .ok (.getfield 147, 3) := by decide +kernel
theorem dX6_poke_10 : decode cX6_poke 10 = .ok (.if_icmp .gt 10, 3) := by decide +kernel
theorem dX6_poke_13 : decode cX6_poke 13 = .ok (.iload_n 1, 1) := by decide +kernel
theorem dX6_poke_14 : decode cX6_poke 14 = .ok (.sipush 199, 3) := by decide +kernel
theorem dX6_poke_17 : decode cX6_poke 17 = .ok (.if_icmp .le 7, 3) := by decide +kernel
theorem dX6_poke_20 : decode cX6_poke 20 = .ok (.iconst 1, 1) := by decide +kernel
theorem dX6_poke_21 : decode cX6_poke 21 = .ok (.goto 4, 3) := by decide +kernel
theorem dX6_poke_24 : decode cX6_poke 24 = .ok (.iconst 0, 1) := by decide +kernel
theorem dX6_poke_25 : decode cX6_poke 25 = .ok (.putfield 63, 3) := by decide +kernel
theorem dX6_poke_28 : decode cX6_poke 28 = .ok (.aload_n 0, 1) := by decide +kernel
theorem dX6_poke_29 : decode cX6_poke 29 = .ok (.getfield 63, 3) := by decide +kernel
theorem dX6_poke_32 : decode cX6_poke 32 = .ok (.ifCond .ne 32, 3) := by decide +kernel
theorem dX6_poke_35 : decode cX6_poke 35 = .ok (.aload_n 0, 1) := by decide +kernel
theorem dX6_poke_36 : decode cX6_poke 36 = .ok (.getfield 54, 3) := by decide +kernel
theorem dX6_poke_39 : decode cX6_poke 39 = .ok (.iload_n 1, 1) := by decide +kernel
theorem dX6_poke_40 : decode cX6_poke 40 = .ok (.iload_n 2, 1) := by decide +kernel
theorem dX6_poke_41 : decode cX6_poke 41 = .ok (.iastore, 1) := by decide +kernel
theorem dX6_poke_42 : decode cX6_poke 42 = .ok (.aload_n 0, 1) := by decide +kernel
theorem dX6_poke_43 : decode cX6_poke 43 = .ok (.dup, 1) := by decide +kernel
theorem dX6_poke_44 : decode cX6_poke 44 = .ok (.getfield 147, 3) := by decide +kernel
theorem dX6_poke_47 : decode cX6_poke 47 = .ok (.iload_n 1, 1) := by decide +kernel
theorem dX6_poke_48 : decode cX6_poke 48 = .ok (.aload_n 0, 1) := by decide +kernel
theorem dX6_poke_49 : decode cX6_poke 49 = .ok (.getfield 147, 3) := by decide +kernel
theorem dX6_poke_52 : decode cX6_poke 52 = .ok (.if_icmp .ne 7, 3) := by decide +kernel
theorem dX6_poke_55 : decode cX6_poke 55 = .ok (.iconst 1, 1) := by decide +kernel
theorem dX6_poke_56 : decode cX6_poke 56 = .ok (.goto 4, 3) := by decide +kernel
theorem dX6_poke_59 : decode cX6_poke 59 = .ok (.iconst 0, 1) := by decide +kernel
theorem dX6_poke_60 : decode cX6_poke 60 = .ok (.iadd, 1) := by decide +kernel
theorem dX6_poke_61 : decode cX6_poke 61 = .ok (.putfield 147, 3) := by decide +kernel
theorem dX6_poke_64 : decode cX6_poke 64 = .ok (.return_, 1) := by decide +kernel
theorem dX6_cut_0 : decode cX6_cut 0 = .ok (.aload_n 0, 1) := by decide +kernel
theorem dX6_cut_1 : decode cX6_cut 1 = .ok (.iload_n 1, 1) := by decide +kernel
theorem dX6_cut_2 : decode cX6_cut 2 = .ok (.ifCond .lt 11, 3) := by decide +kernel
theorem dX6_cut_5 : decode cX6_cut 5 = .ok (.iload_n 1, 1) := by decide +kernel
theorem dX6_cut_6 : decode cX6_cut 6 = .ok (.aload_n 0, 1) := by decide +kernel
theorem dX6_cut_7 : decode cX6_cut 7 = .ok (.getfield 147, 3) := by decide +kernel
theorem dX6_cut_10 : decode cX6_cut 10 = .ok (.if_icmp .le 7, 3) := by decide +kernel
theorem dX6_cut_13 : decode cX6_cut 13 = .ok (.iconst 1, 1) := by decide +kernel
theorem dX6_cut_14 : decode cX6_cut 14 = .ok (.goto 4, 3) := by decide +kernel
theorem dX6_cut_17 : decode cX6_cut 17 = .ok (.iconst 0, 1) := by decide +kernel
theorem dX6_cut_18 : decode cX6_cut 18 = .ok (.putfield 63, 3) := by decide +kernel
theorem dX6_cut_21 : decode cX6_cut 21 = .ok (.aload_n 0, 1) := by decide +kernel
theorem dX6_cut_22 : decode cX6_cut 22 = .ok (.aload_n 0, 1) := by decide +kernel
theorem dX6_cut_23 : decode cX6_cut 23 = .ok (.getfield 63, 3) := by decide +kernel
theorem dX6_cut_26 : decode cX6_cut 26 = .ok (.ifCond .ne 7, 3) := by decide +kernel
theorem dX6_cut_29 : decode cX6_cut 29 = .ok (.iload_n 1, 1) := by decide +kernel
theorem dX6_cut_30 : decode cX6_cut 30 = .ok (.goto 7, 3) := by decide +kernel
theorem dX6_cut_33 : decode cX6_cut 33 = .ok (.aload_n 0, 1) := by decide +kernel
theorem dX6_cut_34 : decode cX6_cut 34 = .ok (.getfield 147, 3) := by decide +kernel
theorem dX6_cut_37 : decode cX6_cut 37 = .ok (.putfield 147, 3) := by decide +kernel
theorem dX6_cut_40 : decode cX6_cut 40 = .ok (.return_, 1) := by decide +kernel
set_option maxRecDepth 20000 in
theorem ggX6_readOne_X6_isKey : GoodIn wsX6_readOne wsX6_isKey := goodIn_r _ [11, 12, 46, 47, 48, 49, 50, 51, 52, 53, 54, 55, 56, 57, 58, 59, 60, 61, 62, 63, 64, 65, 66, 67, 68, 69, 70, 71, 72] (by decide +kernel) (by decide +kernel)
set_option maxRecDepth 20000 in
theorem gX6_readOne_X6_isKey : GoodIn wsX6_readOne (wsV RX6 74 RX6 yX6_isKey wsX6_isKey) := goodIn_app (goodIn_of _ (by decide +kernel)) ggX6_readOne_X6_isKey
set_option maxRecDepth 20000 in
theorem ggX6_readOne_X6_isGood : GoodIn wsX6_readOne wsX6_isGood := goodIn_r _ [16, 6, 3, 17, 18, 19, 10, 20, 7, 8, 9, 11, 12, 21, 22, 23, 24, 4, 25, 26, 27, 28, 29, 30, 31, 32, 33, 34, 35, 36, 5, 37, 38, 39, 40, 41, 42, 43, 44, 45, 46, 47, 48, 49, 50, 51, 52, 53, 54, 55, 56, 57, 58, 59, 60, 61, 62, 63, 64, 65, 66, 67, 68, 69, 70, 71, 72] (by decide +kernel) (by decide +kernel)
set_option maxRecDepth 20000 in
theorem gX6_readOne_X6_isGood : GoodIn wsX6_readOne (wsV RX6 135 RX6 yX6_isGood wsX6_isGood) := goodIn_app (goodIn_of _ (by decide +kernel)) ggX6_readOne_X6_isGood
theorem dX6_readOne_0 : decode cX6_readOne 0 = .ok (.iload_n 1, 1) := by decide +kernel
theorem dX6_readOne_1 : decode cX6_readOne 1 = .ok (.aload_n 0, 1) := by decide +kernel
theorem dX6_readOne_2 : decode cX6_readOne 2 = .ok (.getfield 147, 3) := by decide +kernel
theorem dX6_readOne_5 : decode cX6_readOne 5 = .ok (.if_icmp .ge 43, 3) := by decide +kernel
theorem dX6_readOne_8 : decode cX6_readOne 8 = .ok (.aload_n 0, 1) := by decide +kernel
theorem dX6_readOne_9 : decode cX6_readOne 9 = .ok (.getfield 54, 3) := by decide +kernel
theorem dX6_readOne_12 : decode cX6_readOne 12 = .ok (.iload_n 1, 1) := by decide +kernel
theorem dX6_readOne_13 : decode cX6_readOne 13 = .ok (.iaload, 1) := by decide +kernel
theorem dX6_readOne_14 : decode cX6_readOne 14 = .ok (.iconst 2, 1) := by decide +kernel
theorem dX6_readOne_15 : decode cX6_readOne 15 = .ok (.if_icmp .lt 33, 3) := by decide +kernel
theorem dX6_readOne_18 : decode cX6_readOne 18 = .ok (.aload_n 0, 1) := by decide +kernel
theorem dX6_readOne_19 : decode cX6_readOne 19 = .ok (.getfield 54, 3) := by decide +kernel
theorem dX6_readOne_22 : decode cX6_readOne 22 = .ok (.iload_n 1, 1) := by decide +kernel
theorem dX6_readOne_23 : decode cX6_readOne 23 = .ok (.iaload, 1) := by decide +kernel
theorem dX6_readOne_24 : decode cX6_readOne 24 = .ok (.bipush 6, 2) := by decide +kernel
theorem dX6_readOne_26 : decode cX6_readOne 26 = .ok (.if_icmp .gt 22, 3) := by decide +kernel
theorem dX6_readOne_29 : decode cX6_readOne 29 = .ok (.iload_n 1, 1) := by decide +kernel
theorem dX6_readOne_30 : decode cX6_readOne 30 = .ok (.iconst 4, 1) := by decide +kernel
theorem dX6_readOne_31 : decode cX6_readOne 31 = .ok (.iadd, 1) := by decide +kernel
theorem dX6_readOne_32 : decode cX6_readOne 32 = .ok (.iconst 2, 1) := by decide +kernel
theorem dX6_readOne_33 : decode cX6_readOne 33 = .ok (.aload_n 0, 1) := by decide +kernel
theorem dX6_readOne_34 : decode cX6_readOne 34 = .ok (.getfield 54, 3) := by decide +kernel
theorem dX6_readOne_37 : decode cX6_readOne 37 = .ok (.iload_n 1, 1) := by decide +kernel
theorem dX6_readOne_38 : decode cX6_readOne 38 = .ok (.iaload, 1) := by decide +kernel
theorem dX6_readOne_39 : decode cX6_readOne 39 = .ok (.imul, 1) := by decide +kernel
theorem dX6_readOne_40 : decode cX6_readOne 40 = .ok (.iadd, 1) := by decide +kernel
theorem dX6_readOne_41 : decode cX6_readOne 41 = .ok (.aload_n 0, 1) := by decide +kernel
theorem dX6_readOne_42 : decode cX6_readOne 42 = .ok (.getfield 147, 3) := by decide +kernel
theorem dX6_readOne_45 : decode cX6_readOne 45 = .ok (.if_icmp .le 5, 3) := by decide +kernel
theorem dX6_readOne_48 : decode cX6_readOne 48 = .ok (.iconst (-1), 1) := by decide +kernel
theorem dX6_readOne_49 : decode cX6_readOne 49 = .ok (.ireturn, 1) := by decide +kernel
theorem dX6_readOne_50 : decode cX6_readOne 50 = .ok (.aload_n 0, 1) := by decide +kernel
theorem dX6_readOne_51 : decode cX6_readOne 51 = .ok (.aload_n 0, 1) := by decide +kernel
theorem dX6_readOne_52 : decode cX6_readOne 52 = .ok (.getfield 54, 3) := by decide +kernel
theorem dX6_readOne_55 : decode cX6_readOne 55 = .ok (.iload_n 1, 1) := by decide +kernel
theorem dX6_readOne_56 : decode cX6_readOne 56 = .ok (.iaload, 1) := by decide +kernel
theorem dX6_readOne_57 : decode cX6_readOne 57 = .ok (.putfield 78, 3) := by decide +kernel
theorem dX6_readOne_60 : decode cX6_readOne 60 = .ok (.iconst 0, 1) := by decide +kernel
theorem dX6_readOne_61 : decode cX6_readOne 61 = .ok (.istore_n 2, 1) := by decide +kernel
theorem dX6_readOne_62 : decode cX6_readOne 62 = .ok (.iload_n 2, 1) := by decide +kernel
theorem dX6_readOne_63 : decode cX6_readOne 63 = .ok (.aload_n 0, 1) := by decide +kernel
theorem dX6_readOne_64 : decode cX6_readOne 64 = .ok (.getfield 78, 3) := by decide +kernel
theorem dX6_readOne_67 : decode cX6_readOne 67 = .ok (.if_icmp .ge 83, 3) := by decide +kernel
theorem dX6_readOne_70 : decode cX6_readOne 70 = .ok (.aload_n 0, 1) := by decide +kernel
theorem dX6_readOne_71 : decode cX6_readOne 71 = .ok (.getfield 57, 3) := by decide +kernel
theorem dX6_readOne_74 : decode cX6_readOne 74 = .ok (.iload_n 2, 1) := by decide +kernel
theorem dX6_readOne_75 : decode cX6_readOne 75 = .ok (.aload_n 0, 1) := by decide +kernel
theorem dX6_readOne_76 : decode cX6_readOne 76 = .ok (.getfield 54, 3) := by decide +kernel
theorem dX6_readOne_79 : decode cX6_readOne 79 = .ok (.iload_n 1, 1) := by decide +kernel
theorem dX6_readOne_80 : decode cX6_readOne 80 = .ok (.iconst 1, 1) := by decide +kernel
theorem dX6_readOne_81 : decode cX6_readOne 81 = .ok (.iadd, 1) := by decide +kernel
theorem dX6_readOne_82 : decode cX6_readOne 82 = .ok (.iload_n 2, 1) := by decide +kernel
theorem dX6_readOne_83 : decode cX6_readOne 83 = .ok (.iadd, 1) := by decide +kernel
theorem dX6_readOne_84 : decode cX6_readOne 84 = .ok (.iaload, 1) := by decide +kernel
theorem dX6_readOne_85 : decode cX6_readOne 85 = .ok (.iastore, 1) := by decide +kernel
theorem dX6_readOne_86 : decode cX6_readOne 86 = .ok (.aload_n 0, 1) := by decide +kernel
theorem dX6_readOne_87 : decode cX6_readOne 87 = .ok (.aload_n 0, 1) := by decide +kernel
theorem dX6_readOne_88 : decode cX6_readOne 88 = .ok (.getfield 57, 3) := by decide +kernel
theorem dX6_readOne_91 : decode cX6_readOne 91 = .ok (.iload_n 2, 1) := by decide +kernel
theorem dX6_readOne_92 : decode cX6_readOne 92 = .ok (.iaload, 1) := by decide +kernel
theorem dX6_readOne_93 : decode cX6_readOne 93 = .ok (.invokevirtual 74, 3) := by decide +kernel
theorem dX6_readOne_96 : decode cX6_readOne 96 = .ok (.istore_n 3, 1) := by decide +kernel
theorem dX6_readOne_97 : decode cX6_readOne 97 = .ok (.iconst 0, 1) := by decide +kernel
theorem dX6_readOne_98 : decode cX6_readOne 98 = .ok (.istore 4, 2) := by decide +kernel
theorem dX6_readOne_100 : decode cX6_readOne 100 = .ok (.iload 4, 2) := by decide +kernel
theorem dX6_readOne_102 : decode cX6_readOne 102 = .ok (.iload_n 2, 1) := by decide +kernel
theorem dX6_readOne_103 : decode cX6_readOne 103 = .ok (.if_icmp .ge 35, 3) := by decide +kernel
theorem dX6_readOne_106 : decode cX6_readOne 106 = .ok (.iload_n 3, 1) := by decide +kernel
theorem dX6_readOne_107 : decode cX6_readOne 107 = .ok (.ifCond .eq 23, 3) := by decide +kernel
theorem dX6_readOne_110 : decode cX6_readOne 110 = .ok (.aload_n 0, 1) := by decide +kernel
theorem dX6_readOne_111 : decode cX6_readOne 111 = .ok (.getfield 57, 3) := by decide +kernel
theorem dX6_readOne_114 : decode cX6_readOne 114 = .ok (.iload 4, 2) := by decide +kernel
theorem dX6_readOne_116 : decode cX6_readOne 116 = .ok (.iaload, 1) := by decide +kernel
theorem dX6_readOne_117 : decode cX6_readOne 117 = .ok (.aload_n 0, 1) := by decide +kernel
theorem dX6_readOne_118 : decode cX6_readOne 118 = .ok (.getfield 57, 3) := by decide +kernel
theorem dX6_readOne_121 : decode cX6_readOne 121 = .ok (.iload_n 2, 1) := by decide +kernel
theorem dX6_readOne_122 : decode cX6_readOne 122 = .ok (.iaload, 1) := by decide +kernel
theorem dX6_readOne_123 : decode cX6_readOne 123 = .ok (.if_icmp .eq 7, 3) := by decide +kernel
theorem dX6_readOne_126 : decode cX6_readOne 126 = .ok (.iconst 1, 1) := by decide +kernel
theorem dX6_readOne_127 : decode cX6_readOne 127 = .ok (.goto 4, 3) := by decide +kernel
theorem dX6_readOne_130 : decode cX6_readOne 130 = .ok (.iconst 0, 1) := by decide +kernel
theorem dX6_readOne_131 : decode cX6_readOne 131 = .ok (.istore_n 3, 1) := by decide +kernel
theorem dX6_readOne_132 : decode cX6_readOne 132 = .ok (.iinc 4 1, 3) := by decide +kernel
theorem dX6_readOne_135 : decode cX6_readOne 135 = .ok (.goto (-35), 3) := by decide +kernel
theorem dX6_readOne_138 : decode cX6_readOne 138 = .ok (.iload_n 3, 1) := by decide +kernel
theorem dX6_readOne_139 : decode cX6_readOne 139 = .ok (.ifCond .ne 5, 3) := by decide +kernel
theorem dX6_readOne_142 : decode cX6_readOne 142 = .ok (.iconst (-1), 1) := by decide +kernel
theorem dX6_readOne_143 : decode cX6_readOne 143 = .ok (.ireturn, 1) := by decide +kernel
theorem dX6_readOne_144 : decode cX6_readOne 144 = .ok (.iinc 2 1, 3) := by decide +kernel
theorem dX6_readOne_147 : decode cX6_readOne 147 = .ok (.goto (-85), 3) := by decide +kernel
theorem dX6_readOne_150 : decode cX6_readOne 150 = .ok (.aload_n 0, 1) := by decide +kernel
theorem dX6_readOne_151 : decode cX6_readOne 151 = .ok (.aload_n 0, 1) := by decide +kernel
theorem dX6_readOne_152 : decode cX6_readOne 152 = .ok (.getfield 54, 3) := by decide +kernel
theorem dX6_readOne_155 : decode cX6_readOne 155 = .ok (.iload_n 1, 1) := by decide +kernel
theorem dX6_readOne_156 : decode cX6_readOne 156 = .ok (.iconst 1, 1) := by decide +kernel
theorem dX6_readOne_157 : decode cX6_readOne 157 = .ok (.iadd, 1) := by decide +kernel
theorem dX6_readOne_158 : decode cX6_readOne 158 = .ok (.aload_n 0, 1) := by decide +kernel
theorem dX6_readOne_159 : decode cX6_readOne 159 = .ok (.getfield 78, 3) := by decide +kernel
theorem dX6_readOne_162 : decode cX6_readOne 162 = .ok (.iadd, 1) := by decide +kernel
theorem dX6_readOne_163 : decode cX6_readOne 163 = .ok (.iaload, 1) := by decide +kernel
theorem dX6_readOne_164 : decode cX6_readOne 164 = .ok (.putfield 84, 3) := by decide +kernel
theorem dX6_readOne_167 : decode cX6_readOne 167 = .ok (.iconst 0, 1) := by decide +kernel
theorem dX6_readOne_168 : decode cX6_readOne 168 = .ok (.istore_n 2, 1) := by decide +kernel
theorem dX6_readOne_169 : decode cX6_readOne 169 = .ok (.iload_n 2, 1) := by decide +kernel
theorem dX6_readOne_170 : decode cX6_readOne 170 = .ok (.iconst 2, 1) := by decide +kernel
theorem dX6_readOne_171 : decode cX6_readOne 171 = .ok (.aload_n 0, 1) := by decide +kernel
theorem dX6_readOne_172 : decode cX6_readOne 172 = .ok (.getfield 78, 3) := by decide +kernel
theorem dX6_readOne_175 : decode cX6_readOne 175 = .ok (.iadd, 1) := by decide +kernel
theorem dX6_readOne_176 : decode cX6_readOne 176 = .ok (.if_icmp .ge 30, 3) := by decide +kernel
theorem dX6_readOne_179 : decode cX6_readOne 179 = .ok (.aload_n 0, 1) := by decide +kernel
theorem dX6_readOne_180 : decode cX6_readOne 180 = .ok (.getfield 60, 3) := by decide +kernel
theorem dX6_readOne_183 : decode cX6_readOne 183 = .ok (.iload_n 2, 1) := by decide +kernel
theorem dX6_readOne_184 : decode cX6_readOne 184 = .ok (.aload_n 0, 1) := by decide +kernel
theorem dX6_readOne_185 : decode cX6_readOne 185 = .ok (.getfield 54, 3) := by decide +kernel
theorem dX6_readOne_188 : decode cX6_readOne 188 = .ok (.iload_n 1, 1) := by decide +kernel
theorem dX6_readOne_189 : decode cX6_readOne 189 = .ok (.iconst 2, 1) := by decide +kernel
theorem dX6_readOne_190 : decode cX6_readOne 190 = .ok (.iadd, 1) := by decide +kernel
theorem dX6_readOne_191 : decode cX6_readOne 191 = .ok (.aload_n 0, 1) := by decide +kernel
theorem dX6_readOne_192 : decode cX6_readOne 192 = .ok (.getfield 78, 3) := by decide +kernel
theorem dX6_readOne_195 : decode cX6_readOne 195 = .ok (.iadd, 1) := by decide +kernel
theorem dX6_readOne_196 : decode cX6_readOne 196 = .ok (.iload_n 2, 1) := by decide +kernel
theorem dX6_readOne_197 : decode cX6_readOne 197 = .ok (.iadd, 1) := by decide +kernel
theorem dX6_readOne_198 : decode cX6_readOne 198 = .ok (.iaload, 1) := by decide +kernel
theorem dX6_readOne_199 : decode cX6_readOne 199 = .ok (.iastore, 1) := by decide +kernel
theorem dX6_readOne_200 : decode cX6_readOne 200 = .ok (.iinc 2 1, 3) := by decide +kernel
theorem dX6_readOne_203 : decode cX6_readOne 203 = .ok (.goto (-34), 3) := by decide +kernel
theorem dX6_readOne_206 : decode cX6_readOne 206 = .ok (.aload_n 0, 1) := by decide +kernel
theorem dX6_readOne_207 : decode cX6_readOne 207 = .ok (.invokevirtual 135, 3) := by decide +kernel
theorem dX6_readOne_210 : decode cX6_readOne 210 = .ok (.ifCond .eq 16, 3) := by decide +kernel
theorem dX6_readOne_213 : decode cX6_readOne 213 = .ok (.iload_n 1, 1) := by decide +kernel
theorem dX6_readOne_214 : decode cX6_readOne 214 = .ok (.iconst 4, 1) := by decide +kernel
theorem dX6_readOne_215 : decode cX6_readOne 215 = .ok (.iadd, 1) := by decide +kernel
theorem dX6_readOne_216 : decode cX6_readOne 216 = .ok (.iconst 2, 1) := by decide +kernel
theorem dX6_readOne_217 : decode cX6_readOne 217 = .ok (.aload_n 0, 1) := by decide +kernel
theorem dX6_readOne_218 : decode cX6_readOne 218 = .ok (.getfield 78, 3) := by decide +kernel
theorem dX6_readOne_221 : decode cX6_readOne 221 = .ok (.imul, 1) := by decide +kernel
theorem dX6_readOne_222 : decode cX6_readOne 222 = .ok (.iadd, 1) := by decide +kernel
theorem dX6_readOne_223 : decode cX6_readOne 223 = .ok (.goto 4, 3) := by decide +kernel
theorem dX6_readOne_226 : decode cX6_readOne 226 = .ok (.iconst (-1), 1) := by decide +kernel
theorem dX6_readOne_227 : decode cX6_readOne 227 = .ok (.ireturn, 1) := by decide +kernel
set_option maxRecDepth 20000 in
theorem ggX6_check_X6_baseOf : GoodIn wsX6_check wsX6_baseOf := goodIn_r _ [11, 12, 13, 14, 15, 10, 16, 17, 18, 19, 20, 21, 22, 55, 56, 57, 58, 59, 60, 61, 62, 63, 64, 65, 66, 67, 68, 69, 70, 71, 72, 73, 74, 75, 76, 77, 78, 79, 80, 81] (by decide +kernel) (by decide +kernel)
set_option maxRecDepth 20000 in
theorem gX6_check_X6_baseOf : GoodIn wsX6_check (wsV RX6 118 RX6 yX6_baseOf wsX6_baseOf) := goodIn_app (goodIn_of _ (by decide +kernel)) ggX6_check_X6_baseOf
set_option maxRecDepth 20000 in
theorem ggX6_check_X6_readOne : GoodIn wsX6_check wsX6_readOne := goodIn_r _ [26, 1, 2, 27, 28, 29, 6, 18, 19, 20, 10, 21, 22, 30, 31, 32, 33, 34, 35, 36, 37, 38, 39, 40, 41, 5, 42, 43, 44, 45, 46, 47, 48, 49, 50, 12, 4, 13, 14, 15, 16, 17, 51, 52, 53, 54, 55, 56, 57, 58, 59, 60, 61, 62, 63, 64, 65, 66, 67, 68, 69, 70, 71, 72, 73, 74, 75, 76, 77, 78, 79, 80, 81] (by decide +kernel) (by decide +kernel)
set_option maxRecDepth 20000 in
theorem gX6_check_X6_readOne : GoodIn wsX6_check (wsV RX6 153 RX6 yX6_readOne wsX6_readOne) := goodIn_app (goodIn_of _ (by decide +kernel)) ggX6_check_X6_readOne
theorem dX6_check_0 : decode cX6_check 0 = .ok (.aload_n 0, 1) := by decide +kernel
theorem dX6_check_1 : decode cX6_check 1 = .ok (.aload_n 0, 1) := by decide +kernel
theorem dX6_check_2 : decode cX6_check 2 = .ok (.getfield 147, 3) := by decide +kernel
theorem dX6_check_5 : decode cX6_check 5 = .ok (.iconst 2, 1) := by decide +kernel
theorem dX6_check_6 : decode cX6_check 6 = .ok (.if_icmp .lt 23, 3) := by decide +kernel
theorem dX6_check_9 : decode cX6_check 9 = .ok (.aload_n 0, 1) := by decide +kernel
theorem dX6_check_10 : decode cX6_check 10 = .ok (.getfield 54, 3) := by decide +kernel
theorem dX6_check_13 : decode cX6_check 13 = .ok (.iconst 1, 1) := by decide +kernel
theorem dX6_check_14 : decode cX6_check 14 = .ok (.iaload, 1) := by decide +kernel
theorem dX6_check_15 : decode cX6_check 15 = .ok (.ifCond .lt 14, 3) := by decide +kernel
theorem dX6_check_18 : decode cX6_check 18 = .ok (.aload_n 0, 1) := by decide +kernel
theorem dX6_check_19 : decode cX6_check 19 = .ok (.getfield 54, 3) := by decide +kernel
theorem dX6_check_22 : decode cX6_check 22 = .ok (.iconst 1, 1) := by decide +kernel
theorem dX6_check_23 : decode cX6_check 23 = .ok (.iaload, 1) := by decide +kernel
theorem dX6_check_24 : decode cX6_check 24 = .ok (.bipush 8, 2) := by decide +kernel
theorem dX6_check_26 : decode cX6_check 26 = .ok (.if_icmp .le 7, 3) := by decide +kernel
theorem dX6_check_29 : decode cX6_check 29 = .ok (.iconst 1, 1) := by decide +kernel
theorem dX6_check_30 : decode cX6_check 30 = .ok (.goto 4, 3) := by decide +kernel
theorem dX6_check_33 : decode cX6_check 33 = .ok (.iconst 0, 1) := by decide +kernel
theorem dX6_check_34 : decode cX6_check 34 = .ok (.putfield 63, 3) := by decide +kernel
theorem dX6_check_37 : decode cX6_check 37 = .ok (.aload_n 0, 1) := by decide +kernel
theorem dX6_check_38 : decode cX6_check 38 = .ok (.getfield 63, 3) := by decide +kernel
theorem dX6_check_41 : decode cX6_check 41 = .ok (.ifCond .eq 5, 3) := by decide +kernel
theorem dX6_check_44 : decode cX6_check 44 = .ok (.iconst 0, 1) := by decide +kernel
theorem dX6_check_45 : decode cX6_check 45 = .ok (.ireturn, 1) := by decide +kernel
theorem dX6_check_46 : decode cX6_check 46 = .ok (.aload_n 0, 1) := by decide +kernel
theorem dX6_check_47 : decode cX6_check 47 = .ok (.aload_n 0, 1) := by decide +kernel
theorem dX6_check_48 : decode cX6_check 48 = .ok (.getfield 54, 3) := by decide +kernel
theorem dX6_check_51 : decode cX6_check 51 = .ok (.iconst 0, 1) := by decide +kernel
theorem dX6_check_52 : decode cX6_check 52 = .ok (.iaload, 1) := by decide +kernel
theorem dX6_check_53 : decode cX6_check 53 = .ok (.putfield 81, 3) := by decide +kernel
theorem dX6_check_56 : decode cX6_check 56 = .ok (.aload_n 0, 1) := by decide +kernel
theorem dX6_check_57 : decode cX6_check 57 = .ok (.aload_n 0, 1) := by decide +kernel
theorem dX6_check_58 : decode cX6_check 58 = .ok (.aload_n 0, 1) := by decide +kernel
theorem dX6_check_59 : decode cX6_check 59 = .ok (.getfield 81, 3) := by decide +kernel
theorem dX6_check_62 : decode cX6_check 62 = .ok (.invokevirtual 118, 3) := by decide +kernel
theorem dX6_check_65 : decode cX6_check 65 = .ok (.putfield 95, 3) := by decide +kernel
theorem dX6_check_68 : decode cX6_check 68 = .ok (.iconst 2, 1) := by decide +kernel
theorem dX6_check_69 : decode cX6_check 69 = .ok (.istore_n 1, 1) := by decide +kernel
theorem dX6_check_70 : decode cX6_check 70 = .ok (.iconst 0, 1) := by decide +kernel
theorem dX6_check_71 : decode cX6_check 71 = .ok (.istore_n 2, 1) := by decide +kernel
theorem dX6_check_72 : decode cX6_check 72 = .ok (.iload_n 2, 1) := by decide +kernel
theorem dX6_check_73 : decode cX6_check 73 = .ok (.aload_n 0, 1) := by decide +kernel
theorem dX6_check_74 : decode cX6_check 74 = .ok (.getfield 54, 3) := by decide +kernel
theorem dX6_check_77 : decode cX6_check 77 = .ok (.iconst 1, 1) := by decide +kernel
theorem dX6_check_78 : decode cX6_check 78 = .ok (.iaload, 1) := by decide +kernel
theorem dX6_check_79 : decode cX6_check 79 = .ok (.if_icmp .ge 112, 3) := by decide +kernel
theorem dX6_check_82 : decode cX6_check 82 = .ok (.aload_n 0, 1) := by decide +kernel
theorem dX6_check_83 : decode cX6_check 83 = .ok (.iload_n 1, 1) := by decide +kernel
theorem dX6_check_84 : decode cX6_check 84 = .ok (.invokevirtual 153, 3) := by decide +kernel
theorem dX6_check_87 : decode cX6_check 87 = .ok (.istore_n 3, 1) := by decide +kernel
theorem dX6_check_88 : decode cX6_check 88 = .ok (.iconst 2, 1) := by decide +kernel
theorem dX6_check_89 : decode cX6_check 89 = .ok (.istore 4, 2) := by decide +kernel
theorem dX6_check_91 : decode cX6_check 91 = .ok (.iconst 0, 1) := by decide +kernel
theorem dX6_check_92 : decode cX6_check 92 = .ok (.istore 5, 2) := by decide +kernel
theorem dX6_check_94 : decode cX6_check 94 = .ok (.iconst 0, 1) := by decide +kernel
theorem dX6_check_95 : decode cX6_check 95 = .ok (.istore 6, 2) := by decide +kernel
theorem dX6_check_97 : decode cX6_check 97 = .ok (.iload 6, 2) := by decide +kernel
theorem dX6_check_99 : decode cX6_check 99 = .ok (.iload_n 2, 1) := by decide +kernel
theorem dX6_check_100 : decode cX6_check 100 = .ok (.if_icmp .ge 67, 3) := by decide +kernel
theorem dX6_check_103 : decode cX6_check 103 = .ok (.iload_n 3, 1) := by decide +kernel
theorem dX6_check_104 : decode cX6_check 104 = .ok (.ifCond .le 63, 3) := by decide +kernel
theorem dX6_check_107 : decode cX6_check 107 = .ok (.iload 5, 2) := by decide +kernel
theorem dX6_check_109 : decode cX6_check 109 = .ok (.ifCond .ne 29, 3) := by decide +kernel
theorem dX6_check_112 : decode cX6_check 112 = .ok (.aload_n 0, 1) := by decide +kernel
theorem dX6_check_113 : decode cX6_check 113 = .ok (.getfield 54, 3) := by decide +kernel
theorem dX6_check_116 : decode cX6_check 116 = .ok (.iload 4, 2) := by decide +kernel
theorem dX6_check_118 : decode cX6_check 118 = .ok (.aload_n 0, 1) := by decide +kernel
theorem dX6_check_119 : decode cX6_check 119 = .ok (.getfield 54, 3) := by decide +kernel
theorem dX6_check_122 : decode cX6_check 122 = .ok (.iload 4, 2) := by decide +kernel
theorem dX6_check_124 : decode cX6_check 124 = .ok (.iaload, 1) := by decide +kernel
theorem dX6_check_125 : decode cX6_check 125 = .ok (.iadd, 1) := by decide +kernel
theorem dX6_check_126 : decode cX6_check 126 = .ok (.iconst 3, 1) := by decide +kernel
theorem dX6_check_127 : decode cX6_check 127 = .ok (.iadd, 1) := by decide +kernel
theorem dX6_check_128 : decode cX6_check 128 = .ok (.iaload, 1) := by decide +kernel
theorem dX6_check_129 : decode cX6_check 129 = .ok (.aload_n 0, 1) := by decide +kernel
theorem dX6_check_130 : decode cX6_check 130 = .ok (.getfield 60, 3) := by decide +kernel
theorem dX6_check_133 : decode cX6_check 133 = .ok (.iconst 1, 1) := by decide +kernel
theorem dX6_check_134 : decode cX6_check 134 = .ok (.iaload, 1) := by decide +kernel
theorem dX6_check_135 : decode cX6_check 135 = .ok (.if_icmp .ne 7, 3) := by decide +kernel
theorem dX6_check_138 : decode cX6_check 138 = .ok (.iconst 1, 1) := by decide +kernel
theorem dX6_check_139 : decode cX6_check 139 = .ok (.goto 4, 3) := by decide +kernel
theorem dX6_check_142 : decode cX6_check 142 = .ok (.iconst 0, 1) := by decide +kernel
theorem dX6_check_143 : decode cX6_check 143 = .ok (.istore 5, 2) := by decide +kernel
theorem dX6_check_145 : decode cX6_check 145 = .ok (.iload 4, 2) := by decide +kernel
theorem dX6_check_147 : decode cX6_check 147 = .ok (.iconst 4, 1) := by decide +kernel
theorem dX6_check_148 : decode cX6_check 148 = .ok (.iconst 2, 1) := by decide +kernel
theorem dX6_check_149 : decode cX6_check 149 = .ok (.aload_n 0, 1) := by decide +kernel
theorem dX6_check_150 : decode cX6_check 150 = .ok (.getfield 54, 3) := by decide +kernel
theorem dX6_check_153 : decode cX6_check 153 = .ok (.iload 4, 2) := by decide +kernel
theorem dX6_check_155 : decode cX6_check 155 = .ok (.iaload, 1) := by decide +kernel
theorem dX6_check_156 : decode cX6_check 156 = .ok (.imul, 1) := by decide +kernel
theorem dX6_check_157 : decode cX6_check 157 = .ok (.iadd, 1) := by decide +kernel
theorem dX6_check_158 : decode cX6_check 158 = .ok (.iadd, 1) := by decide +kernel
theorem dX6_check_159 : decode cX6_check 159 = .ok (.istore 4, 2) := by decide +kernel
theorem dX6_check_161 : decode cX6_check 161 = .ok (.iinc 6 1, 3) := by decide +kernel
theorem dX6_check_164 : decode cX6_check 164 = .ok (.goto (-67), 3) := by decide +kernel
theorem dX6_check_167 : decode cX6_check 167 = .ok (.iload_n 3, 1) := by decide +kernel
theorem dX6_check_168 : decode cX6_check 168 = .ok (.ifCond .lt 8, 3) := by decide +kernel
theorem dX6_check_171 : decode cX6_check 171 = .ok (.iload 5, 2) := by decide +kernel
theorem dX6_check_173 : decode cX6_check 173 = .ok (.ifCond .eq 10, 3) := by decide +kernel
theorem dX6_check_176 : decode cX6_check 176 = .ok (.aload_n 0, 1) := by decide +kernel
theorem dX6_check_177 : decode cX6_check 177 = .ok (.iconst 1, 1) := by decide +kernel
theorem dX6_check_178 : decode cX6_check 178 = .ok (.putfield 63, 3) := by decide +kernel
theorem dX6_check_181 : decode cX6_check 181 = .ok (.iconst 0, 1) := by decide +kernel
theorem dX6_check_182 : decode cX6_check 182 = .ok (.ireturn, 1) := by decide +kernel
theorem dX6_check_183 : decode cX6_check 183 = .ok (.iload_n 3, 1) := by decide +kernel
theorem dX6_check_184 : decode cX6_check 184 = .ok (.istore_n 1, 1) := by decide +kernel
theorem dX6_check_185 : decode cX6_check 185 = .ok (.iinc 2 1, 3) := by decide +kernel
theorem dX6_check_188 : decode cX6_check 188 = .ok (.goto (-116), 3) := by decide +kernel
theorem dX6_check_191 : decode cX6_check 191 = .ok (.aload_n 0, 1) := by decide +kernel
theorem dX6_check_192 : decode cX6_check 192 = .ok (.iload_n 1, 1) := by decide +kernel
theorem dX6_check_193 : decode cX6_check 193 = .ok (.aload_n 0, 1) := by decide +kernel
theorem dX6_check_194 : decode cX6_check 194 = .ok (.getfield 147, 3) := by decide +kernel
theorem dX6_check_197 : decode cX6_check 197 = .ok (.if_icmp .ne 7, 3) := by decide +kernel
theorem dX6_check_200 : decode cX6_check 200 = .ok (.iconst 0, 1) := by decide +kernel
theorem dX6_check_201 : decode cX6_check 201 = .ok (.goto 4, 3) := by decide +kernel
theorem dX6_check_204 : decode cX6_check 204 = .ok (.iconst 1, 1) := by decide +kernel
theorem dX6_check_205 : decode cX6_check 205 = .ok (.putfield 63, 3) := by decide +kernel
theorem dX6_check_208 : decode cX6_check 208 = .ok (.aload_n 0, 1) := by decide +kernel
theorem dX6_check_209 : decode cX6_check 209 = .ok (.getfield 63, 3) := by decide +kernel
theorem dX6_check_212 : decode cX6_check 212 = .ok (.ifCond .ne 12, 3) := by decide +kernel
theorem dX6_check_215 : decode cX6_check 215 = .ok (.aload_n 0, 1) := by decide +kernel
theorem dX6_check_216 : decode cX6_check 216 = .ok (.getfield 54, 3) := by decide +kernel
theorem dX6_check_219 : decode cX6_check 219 = .ok (.iconst 1, 1) := by decide +kernel
theorem dX6_check_220 : decode cX6_check 220 = .ok (.iaload, 1) := by decide +kernel
theorem dX6_check_221 : decode cX6_check 221 = .ok (.goto 4, 3) := by decide +kernel
theorem dX6_check_224 : decode cX6_check 224 = .ok (.iconst 0, 1) := by decide +kernel
theorem dX6_check_225 : decode cX6_check 225 = .ok (.ireturn, 1) := by decide +kernel
