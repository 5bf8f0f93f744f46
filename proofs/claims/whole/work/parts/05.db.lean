theorem dX5_init_0 : decode cX5_init 0 = .ok (.aload_n 0, 1) := by decide +kernel
theorem dX5_init_1 : decode cX5_init 1 = .ok (.invokespecial 1, 3) := by decide +kernel
theorem dX5_init_4 : decode cX5_init 4 = .ok (.aload_n 0, 1) := by decide +kernel
theorem dX5_init_5 : decode cX5_init 5 = .ok (.new 7, 3) := by decide +kernel
theorem dX5_init_8 : decode cX5_init 8 = .ok (.dup, 1) := by decide +kernel
theorem dX5_init_9 : decode cX5_init 9 = .ok (.bipush 12, 2) := by decide +kernel
theorem dX5_init_11 : decode cX5_init 11 = .ok (.invokespecial 11, 3) := by decide +kernel
theorem dX5_init_14 : decode cX5_init 14 = .ok (.putfield 14, 3) := by decide +kernel
theorem dX5_init_17 : decode cX5_init 17 = .ok (.aload_n 0, 1) := by decide +kernel
theorem dX5_init_18 : decode cX5_init 18 = .ok (.bipush 8, 2) := by decide +kernel
theorem dX5_init_20 : decode cX5_init 20 = .ok (.anewarray 7, 3) := by decide +kernel
theorem dX5_init_23 : decode cX5_init 23 = .ok (.putfield 18, 3) := by decide +kernel
theorem dX5_init_26 : decode cX5_init 26 = .ok (.aload_n 0, 1) := by decide +kernel
theorem dX5_init_27 : decode cX5_init 27 = .ok (.iconst 0, 1) := by decide +kernel
theorem dX5_init_28 : decode cX5_init 28 = .ok (.putfield 22, 3) := by decide +kernel
theorem dX5_init_31 : decode cX5_init 31 = .ok (.aload_n 0, 1) := by decide +kernel
theorem dX5_init_32 : decode cX5_init 32 = .ok (.bipush 6, 2) := by decide +kernel
theorem dX5_init_34 : decode cX5_init 34 = .ok (.anewarray 26, 3) := by decide +kernel
theorem dX5_init_37 : decode cX5_init 37 = .ok (.putfield 28, 3) := by decide +kernel
theorem dX5_init_40 : decode cX5_init 40 = .ok (.aload_n 0, 1) := by decide +kernel
theorem dX5_init_41 : decode cX5_init 41 = .ok (.iconst 0, 1) := by decide +kernel
theorem dX5_init_42 : decode cX5_init 42 = .ok (.putfield 32, 3) := by decide +kernel
theorem dX5_init_45 : decode cX5_init 45 = .ok (.aload_n 0, 1) := by decide +kernel
theorem dX5_init_46 : decode cX5_init 46 = .ok (.new 35, 3) := by decide +kernel
theorem dX5_init_49 : decode cX5_init 49 = .ok (.dup, 1) := by decide +kernel
theorem dX5_init_50 : decode cX5_init 50 = .ok (.invokespecial 37, 3) := by decide +kernel
theorem dX5_init_53 : decode cX5_init 53 = .ok (.putfield 38, 3) := by decide +kernel
theorem dX5_init_56 : decode cX5_init 56 = .ok (.aload_n 0, 1) := by decide +kernel
theorem dX5_init_57 : decode cX5_init 57 = .ok (.sipush 200, 3) := by decide +kernel
theorem dX5_init_60 : decode cX5_init 60 = .ok (.newarray .int, 2) := by decide +kernel
theorem dX5_init_62 : decode cX5_init 62 = .ok (.putfield 42, 3) := by decide +kernel
theorem dX5_init_65 : decode cX5_init 65 = .ok (.aload_n 0, 1) := by decide +kernel
theorem dX5_init_66 : decode cX5_init 66 = .ok (.iconst 0, 1) := by decide +kernel
theorem dX5_init_67 : decode cX5_init 67 = .ok (.putfield 46, 3) := by decide +kernel
theorem dX5_init_70 : decode cX5_init 70 = .ok (.aload_n 0, 1) := by decide +kernel
theorem dX5_init_71 : decode cX5_init 71 = .ok (.new 7, 3) := by decide +kernel
theorem dX5_init_74 : decode cX5_init 74 = .ok (.dup, 1) := by decide +kernel
theorem dX5_init_75 : decode cX5_init 75 = .ok (.bipush 6, 2) := by decide +kernel
theorem dX5_init_77 : decode cX5_init 77 = .ok (.invokespecial 11, 3) := by decide +kernel
theorem dX5_init_80 : decode cX5_init 80 = .ok (.putfield 49, 3) := by decide +kernel
theorem dX5_init_83 : decode cX5_init 83 = .ok (.aload_n 0, 1) := by decide +kernel
theorem dX5_init_84 : decode cX5_init 84 = .ok (.new 35, 3) := by decide +kernel
theorem dX5_init_87 : decode cX5_init 87 = .ok (.dup, 1) := by decide +kernel
theorem dX5_init_88 : decode cX5_init 88 = .ok (.invokespecial 37, 3) := by decide +kernel
theorem dX5_init_91 : decode cX5_init 91 = .ok (.putfield 52, 3) := by decide +kernel
theorem dX5_init_94 : decode cX5_init 94 = .ok (.aload_n 0, 1) := by decide +kernel
theorem dX5_init_95 : decode cX5_init 95 = .ok (.bipush 8, 2) := by decide +kernel
theorem dX5_init_97 : decode cX5_init 97 = .ok (.newarray .int, 2) := by decide +kernel
theorem dX5_init_99 : decode cX5_init 99 = .ok (.putfield 55, 3) := by decide +kernel
theorem dX5_init_102 : decode cX5_init 102 = .ok (.iconst 0, 1) := by decide +kernel
theorem dX5_init_103 : decode cX5_init 103 = .ok (.istore_n 1, 1) := by decide +kernel
theorem dX5_init_104 : decode cX5_init 104 = .ok (.iload_n 1, 1) := by decide +kernel
theorem dX5_init_105 : decode cX5_init 105 = .ok (.bipush 8, 2) := by decide +kernel
theorem dX5_init_107 : decode cX5_init 107 = .ok (.if_icmp .ge 24, 3) := by decide +kernel
theorem dX5_init_110 : decode cX5_init 110 = .ok (.aload_n 0, 1) := by decide +kernel
theorem dX5_init_111 : decode cX5_init 111 = .ok (.getfield 18, 3) := by decide +kernel
theorem dX5_init_114 : decode cX5_init 114 = .ok (.iload_n 1, 1) := by decide +kernel
theorem dX5_init_115 : decode cX5_init 115 = .ok (.new 7, 3) := by decide +kernel
theorem dX5_init_118 : decode cX5_init 118 = .ok (.dup, 1) := by decide +kernel
theorem dX5_init_119 : decode cX5_init 119 = .ok (.bipush 6, 2) := by decide +kernel
theorem dX5_init_121 : decode cX5_init 121 = .ok (.invokespecial 11, 3) := by decide +kernel
theorem dX5_init_124 : decode cX5_init 124 = .ok (.aastore, 1) := by decide +kernel
theorem dX5_init_125 : decode cX5_init 125 = .ok (.iinc 1 1, 3) := by decide +kernel
theorem dX5_init_128 : decode cX5_init 128 = .ok (.goto (-24), 3) := by decide +kernel
theorem dX5_init_131 : decode cX5_init 131 = .ok (.iconst 0, 1) := by decide +kernel
theorem dX5_init_132 : decode cX5_init 132 = .ok (.istore_n 1, 1) := by decide +kernel
theorem dX5_init_133 : decode cX5_init 133 = .ok (.iload_n 1, 1) := by decide +kernel
theorem dX5_init_134 : decode cX5_init 134 = .ok (.bipush 6, 2) := by decide +kernel
theorem dX5_init_136 : decode cX5_init 136 = .ok (.if_icmp .ge 22, 3) := by decide +kernel
theorem dX5_init_139 : decode cX5_init 139 = .ok (.aload_n 0, 1) := by decide +kernel
theorem dX5_init_140 : decode cX5_init 140 = .ok (.getfield 28, 3) := by decide +kernel
theorem dX5_init_143 : decode cX5_init 143 = .ok (.iload_n 1, 1) := by decide +kernel
theorem dX5_init_144 : decode cX5_init 144 = .ok (.new 26, 3) := by decide +kernel
theorem dX5_init_147 : decode cX5_init 147 = .ok (.dup, 1) := by decide +kernel
theorem dX5_init_148 : decode cX5_init 148 = .ok (.invokespecial 58, 3) := by decide +kernel
theorem dX5_init_151 : decode cX5_init 151 = .ok (.aastore, 1) := by decide +kernel
theorem dX5_init_152 : decode cX5_init 152 = .ok (.iinc 1 1, 3) := by decide +kernel
theorem dX5_init_155 : decode cX5_init 155 = .ok (.goto (-22), 3) := by decide +kernel
theorem dX5_init_158 : decode cX5_init 158 = .ok (.return_, 1) := by decide +kernel
set_option maxRecDepth 20000 in
theorem ggX5_member_X2_isElementButOne : GoodIn wsX5_member wsX2_isElementButOne := goodIn_r _ [9, 10, 11, 8, 12] (by decide +kernel) (by decide +kernel)
set_option maxRecDepth 20000 in
theorem gX5_member_X2_isElementButOne : GoodIn wsX5_member (va_wsS RX5 59 yX2_isElementButOne wsX2_isElementButOne) := goodIn_app (goodIn_of _ (by decide +kernel)) ggX5_member_X2_isElementButOne
set_option maxRecDepth 20000 in
theorem ggX5_member_X1_has : GoodIn wsX5_member wsX1_has := goodIn_r _ [17, 18, 19, 20, 21, 8, 22, 38, 39] (by decide +kernel) (by decide +kernel)
set_option maxRecDepth 20000 in
theorem gX5_member_X1_has : GoodIn wsX5_member (wsV RX5 65 RX1 yX1_has wsX1_has) := goodIn_app (goodIn_of _ (by decide +kernel)) ggX5_member_X1_has
set_option maxRecDepth 20000 in
theorem ggX5_member_X1_add : GoodIn wsX5_member wsX1_add := goodIn_r _ [26, 18, 19, 38, 39] (by decide +kernel) (by decide +kernel)
set_option maxRecDepth 20000 in
theorem gX5_member_X1_add : GoodIn wsX5_member (wsV RX5 83 RX1 yX1_add wsX1_add) := goodIn_app (goodIn_of _ (by decide +kernel)) ggX5_member_X1_add
theorem dX5_member_0 : decode cX5_member 0 = .ok (.iload_n 1, 1) := by decide +kernel
theorem dX5_member_1 : decode cX5_member 1 = .ok (.invokestatic 59, 3) := by decide +kernel
theorem dX5_member_4 : decode cX5_member 4 = .ok (.ifCond .eq 14, 3) := by decide +kernel
theorem dX5_member_7 : decode cX5_member 7 = .ok (.aload_n 0, 1) := by decide +kernel
theorem dX5_member_8 : decode cX5_member 8 = .ok (.getfield 14, 3) := by decide +kernel
theorem dX5_member_11 : decode cX5_member 11 = .ok (.iload_n 1, 1) := by decide +kernel
theorem dX5_member_12 : decode cX5_member 12 = .ok (.invokevirtual 65, 3) := by decide +kernel
theorem dX5_member_15 : decode cX5_member 15 = .ok (.ifCond .eq 13, 3) := by decide +kernel
theorem dX5_member_18 : decode cX5_member 18 = .ok (.new 68, 3) := by decide +kernel
theorem dX5_member_21 : decode cX5_member 21 = .ok (.dup, 1) := by decide +kernel
theorem dX5_member_22 : decode cX5_member 22 = .ok (.ldc 70, 2) := by decide +kernel
theorem dX5_member_24 : decode cX5_member 24 = .ok (.invokespecial 72, 3) := by decide +kernel
theorem dX5_member_27 : decode cX5_member 27 = .ok (.athrow, 1) := by decide +kernel
theorem dX5_member_28 : decode cX5_member 28 = .ok (.aload_n 0, 1) := by decide +kernel
theorem dX5_member_29 : decode cX5_member 29 = .ok (.getfield 14, 3) := by decide +kernel
theorem dX5_member_32 : decode cX5_member 32 = .ok (.getfield 75, 3) := by decide +kernel
theorem dX5_member_35 : decode cX5_member 35 = .ok (.bipush 12, 2) := by decide +kernel
theorem dX5_member_37 : decode cX5_member 37 = .ok (.if_icmp .lt 13, 3) := by decide +kernel
theorem dX5_member_40 : decode cX5_member 40 = .ok (.new 78, 3) := by decide +kernel
theorem dX5_member_43 : decode cX5_member 43 = .ok (.dup, 1) := by decide +kernel
theorem dX5_member_44 : decode cX5_member 44 = .ok (.ldc 80, 2) := by decide +kernel
theorem dX5_member_46 : decode cX5_member 46 = .ok (.invokespecial 82, 3) := by decide +kernel
theorem dX5_member_49 : decode cX5_member 49 = .ok (.athrow, 1) := by decide +kernel
theorem dX5_member_50 : decode cX5_member 50 = .ok (.aload_n 0, 1) := by decide +kernel
theorem dX5_member_51 : decode cX5_member 51 = .ok (.getfield 14, 3) := by decide +kernel
theorem dX5_member_54 : decode cX5_member 54 = .ok (.iload_n 1, 1) := by decide +kernel
theorem dX5_member_55 : decode cX5_member 55 = .ok (.invokevirtual 83, 3) := by decide +kernel
theorem dX5_member_58 : decode cX5_member 58 = .ok (.aload_n 0, 1) := by decide +kernel
theorem dX5_member_59 : decode cX5_member 59 = .ok (.getfield 14, 3) := by decide +kernel
theorem dX5_member_62 : decode cX5_member 62 = .ok (.getfield 75, 3) := by decide +kernel
theorem dX5_member_65 : decode cX5_member 65 = .ok (.iconst 1, 1) := by decide +kernel
theorem dX5_member_66 : decode cX5_member 66 = .ok (.isub, 1) := by decide +kernel
theorem dX5_member_67 : decode cX5_member 67 = .ok (.ireturn, 1) := by decide +kernel
set_option maxRecDepth 20000 in
theorem ggX5_key_X2_isSecret : GoodIn wsX5_key wsX2_isSecret := goodIn_r _ [6] (by decide +kernel) (by decide +kernel)
set_option maxRecDepth 20000 in
theorem gX5_key_X2_isSecret : GoodIn wsX5_key (va_wsS RX5 86 yX2_isSecret wsX2_isSecret) := goodIn_app (goodIn_of _ (by decide +kernel)) ggX5_key_X2_isSecret
set_option maxRecDepth 20000 in
theorem ggX5_key_X2_power : GoodIn wsX5_key wsX2_power := goodIn_r _ [9] (by decide +kernel) (by decide +kernel)
set_option maxRecDepth 20000 in
theorem gX5_key_X2_power : GoodIn wsX5_key (va_wsS RX5 91 yX2_power wsX2_power) := goodIn_app (goodIn_of _ (by decide +kernel)) ggX5_key_X2_power
theorem dX5_key_0 : decode cX5_key 0 = .ok (.iload_n 1, 1) := by decide +kernel
theorem dX5_key_1 : decode cX5_key 1 = .ok (.invokestatic 86, 3) := by decide +kernel
theorem dX5_key_4 : decode cX5_key 4 = .ok (.ifCond .ne 13, 3) := by decide +kernel
theorem dX5_key_7 : decode cX5_key 7 = .ok (.new 68, 3) := by decide +kernel
theorem dX5_key_10 : decode cX5_key 10 = .ok (.dup, 1) := by decide +kernel
theorem dX5_key_11 : decode cX5_key 11 = .ok (.ldc 89, 2) := by decide +kernel
theorem dX5_key_13 : decode cX5_key 13 = .ok (.invokespecial 72, 3) := by decide +kernel
theorem dX5_key_16 : decode cX5_key 16 = .ok (.athrow, 1) := by decide +kernel
theorem dX5_key_17 : decode cX5_key 17 = .ok (.iconst 4, 1) := by decide +kernel
theorem dX5_key_18 : decode cX5_key 18 = .ok (.iload_n 1, 1) := by decide +kernel
theorem dX5_key_19 : decode cX5_key 19 = .ok (.invokestatic 91, 3) := by decide +kernel
theorem dX5_key_22 : decode cX5_key 22 = .ok (.ireturn, 1) := by decide +kernel
set_option maxRecDepth 20000 in
theorem ggX5_ring_X5_isChoiceForRing : GoodIn wsX5_ring wsX5_isChoiceForRing := goodIn_r _ [11, 12, 13, 14, 15, 16, 17, 18, 19, 31, 32, 33, 34, 35, 36, 37, 38, 39, 40, 41, 42, 43] (by decide +kernel) (by decide +kernel)
set_option maxRecDepth 20000 in
theorem gX5_ring_X5_isChoiceForRing : GoodIn wsX5_ring (wsV RX5 95 RX5 yX5_isChoiceForRing wsX5_isChoiceForRing) := goodIn_app (goodIn_of _ (by decide +kernel)) ggX5_ring_X5_isChoiceForRing
set_option maxRecDepth 20000 in
theorem ggX5_ring_X5_fillRing : GoodIn wsX5_ring wsX5_fillRing := goodIn_r _ [23, 12, 24, 25, 26, 27, 28, 29, 30, 31, 32, 33, 34, 35, 36, 37, 38, 39, 40, 41, 42, 43] (by decide +kernel) (by decide +kernel)
set_option maxRecDepth 20000 in
theorem gX5_ring_X5_fillRing : GoodIn wsX5_ring (wsV RX5 102 RX5 yX5_fillRing wsX5_fillRing) := goodIn_app (goodIn_of _ (by decide +kernel)) ggX5_ring_X5_fillRing
theorem dX5_ring_0 : decode cX5_ring 0 = .ok (.aload_n 0, 1) := by decide +kernel
theorem dX5_ring_1 : decode cX5_ring 1 = .ok (.iload_n 1, 1) := by decide +kernel
theorem dX5_ring_2 : decode cX5_ring 2 = .ok (.invokevirtual 95, 3) := by decide +kernel
theorem dX5_ring_5 : decode cX5_ring 5 = .ok (.ifCond .ne 13, 3) := by decide +kernel
theorem dX5_ring_8 : decode cX5_ring 8 = .ok (.new 68, 3) := by decide +kernel
theorem dX5_ring_11 : decode cX5_ring 11 = .ok (.dup, 1) := by decide +kernel
theorem dX5_ring_12 : decode cX5_ring 12 = .ok (.ldc 98, 2) := by decide +kernel
theorem dX5_ring_14 : decode cX5_ring 14 = .ok (.invokespecial 72, 3) := by decide +kernel
theorem dX5_ring_17 : decode cX5_ring 17 = .ok (.athrow, 1) := by decide +kernel
theorem dX5_ring_18 : decode cX5_ring 18 = .ok (.aload_n 0, 1) := by decide +kernel
theorem dX5_ring_19 : decode cX5_ring 19 = .ok (.getfield 22, 3) := by decide +kernel
theorem dX5_ring_22 : decode cX5_ring 22 = .ok (.bipush 8, 2) := by decide +kernel
theorem dX5_ring_24 : decode cX5_ring 24 = .ok (.if_icmp .lt 13, 3) := by decide +kernel
theorem dX5_ring_27 : decode cX5_ring 27 = .ok (.new 78, 3) := by decide +kernel
theorem dX5_ring_30 : decode cX5_ring 30 = .ok (.dup, 1) := by decide +kernel
theorem dX5_ring_31 : decode cX5_ring 31 = .ok (.ldc 100, 2) := by decide +kernel
theorem dX5_ring_33 : decode cX5_ring 33 = .ok (.invokespecial 82, 3) := by decide +kernel
theorem dX5_ring_36 : decode cX5_ring 36 = .ok (.athrow, 1) := by decide +kernel
theorem dX5_ring_37 : decode cX5_ring 37 = .ok (.aload_n 0, 1) := by decide +kernel
theorem dX5_ring_38 : decode cX5_ring 38 = .ok (.aload_n 0, 1) := by decide +kernel
theorem dX5_ring_39 : decode cX5_ring 39 = .ok (.getfield 18, 3) := by decide +kernel
theorem dX5_ring_42 : decode cX5_ring 42 = .ok (.aload_n 0, 1) := by decide +kernel
theorem dX5_ring_43 : decode cX5_ring 43 = .ok (.getfield 22, 3) := by decide +kernel
theorem dX5_ring_46 : decode cX5_ring 46 = .ok (.aaload, 1) := by decide +kernel
theorem dX5_ring_47 : decode cX5_ring 47 = .ok (.iload_n 1, 1) := by decide +kernel
theorem dX5_ring_48 : decode cX5_ring 48 = .ok (.invokevirtual 102, 3) := by decide +kernel
theorem dX5_ring_51 : decode cX5_ring 51 = .ok (.aload_n 0, 1) := by decide +kernel
theorem dX5_ring_52 : decode cX5_ring 52 = .ok (.dup, 1) := by decide +kernel
theorem dX5_ring_53 : decode cX5_ring 53 = .ok (.getfield 22, 3) := by decide +kernel
theorem dX5_ring_56 : decode cX5_ring 56 = .ok (.iconst 1, 1) := by decide +kernel
theorem dX5_ring_57 : decode cX5_ring 57 = .ok (.iadd, 1) := by decide +kernel
theorem dX5_ring_58 : decode cX5_ring 58 = .ok (.putfield 22, 3) := by decide +kernel
theorem dX5_ring_61 : decode cX5_ring 61 = .ok (.aload_n 0, 1) := by decide +kernel
theorem dX5_ring_62 : decode cX5_ring 62 = .ok (.getfield 22, 3) := by decide +kernel
theorem dX5_ring_65 : decode cX5_ring 65 = .ok (.iconst 1, 1) := by decide +kernel
theorem dX5_ring_66 : decode cX5_ring 66 = .ok (.isub, 1) := by decide +kernel
theorem dX5_ring_67 : decode cX5_ring 67 = .ok (.ireturn, 1) := by decide +kernel
set_option maxRecDepth 20000 in
theorem ggX5_topic_X4_open : GoodIn wsX5_topic wsX4_open := goodIn_r _ [9, 10, 11, 12, 13, 14, 15, 16, 17, 18, 19, 20, 21, 22, 23, 24, 25, 37, 38, 39, 40, 41] (by decide +kernel) (by decide +kernel)
set_option maxRecDepth 20000 in
theorem gX5_topic_X4_open : GoodIn wsX5_topic (wsV RX5 108 RX4 yX4_open wsX4_open) := goodIn_app (goodIn_of _ (by decide +kernel)) ggX5_topic_X4_open
theorem dX5_topic_0 : decode cX5_topic 0 = .ok (.aload_n 0, 1) := by decide +kernel
theorem dX5_topic_1 : decode cX5_topic 1 = .ok (.getfield 32, 3) := by decide +kernel
theorem dX5_topic_4 : decode cX5_topic 4 = .ok (.bipush 6, 2) := by decide +kernel
theorem dX5_topic_6 : decode cX5_topic 6 = .ok (.if_icmp .lt 13, 3) := by decide +kernel
theorem dX5_topic_9 : decode cX5_topic 9 = .ok (.new 78, 3) := by decide +kernel
theorem dX5_topic_12 : decode cX5_topic 12 = .ok (.dup, 1) := by decide +kernel
theorem dX5_topic_13 : decode cX5_topic 13 = .ok (.ldc 106, 2) := by decide +kernel
theorem dX5_topic_15 : decode cX5_topic 15 = .ok (.invokespecial 82, 3) := by decide +kernel
theorem dX5_topic_18 : decode cX5_topic 18 = .ok (.athrow, 1) := by decide +kernel
theorem dX5_topic_19 : decode cX5_topic 19 = .ok (.aload_n 0, 1) := by decide +kernel
theorem dX5_topic_20 : decode cX5_topic 20 = .ok (.getfield 28, 3) := by decide +kernel
theorem dX5_topic_23 : decode cX5_topic 23 = .ok (.aload_n 0, 1) := by decide +kernel
theorem dX5_topic_24 : decode cX5_topic 24 = .ok (.getfield 32, 3) := by decide +kernel
theorem dX5_topic_27 : decode cX5_topic 27 = .ok (.aaload, 1) := by decide +kernel
theorem dX5_topic_28 : decode cX5_topic 28 = .ok (.iload_n 1, 1) := by decide +kernel
theorem dX5_topic_29 : decode cX5_topic 29 = .ok (.invokevirtual 108, 3) := by decide +kernel
theorem dX5_topic_32 : decode cX5_topic 32 = .ok (.aload_n 0, 1) := by decide +kernel
theorem dX5_topic_33 : decode cX5_topic 33 = .ok (.dup, 1) := by decide +kernel
theorem dX5_topic_34 : decode cX5_topic 34 = .ok (.getfield 32, 3) := by decide +kernel
theorem dX5_topic_37 : decode cX5_topic 37 = .ok (.iconst 1, 1) := by decide +kernel
theorem dX5_topic_38 : decode cX5_topic 38 = .ok (.iadd, 1) := by decide +kernel
theorem dX5_topic_39 : decode cX5_topic 39 = .ok (.putfield 32, 3) := by decide +kernel
theorem dX5_topic_42 : decode cX5_topic 42 = .ok (.aload_n 0, 1) := by decide +kernel
theorem dX5_topic_43 : decode cX5_topic 43 = .ok (.getfield 32, 3) := by decide +kernel
theorem dX5_topic_46 : decode cX5_topic 46 = .ok (.iconst 1, 1) := by decide +kernel
theorem dX5_topic_47 : decode cX5_topic 47 = .ok (.isub, 1) := by decide +kernel
theorem dX5_topic_48 : decode cX5_topic 48 = .ok (.ireturn, 1) := by decide +kernel
set_option maxRecDepth 20000 in
theorem ggX5_base_X5_knownTopic : GoodIn wsX5_base wsX5_knownTopic := goodIn_ca (goodIn_r _ [5, 6, 7, 8, 9, 15, 16, 17, 18, 19, 20, 21, 22, 23, 24, 25] (by decide +kernel) (by decide +kernel)) (goodIn_sub (fun _ h => List.mem_cons_of_mem _ (List.mem_append_right _ h)) (by decide +kernel))
set_option maxRecDepth 20000 in
theorem gX5_base_X5_knownTopic : GoodIn wsX5_base (wsV RX5 111 RX5 yX5_knownTopic wsX5_knownTopic) := goodIn_app (goodIn_of _ (by decide +kernel)) ggX5_base_X5_knownTopic
theorem dX5_base_0 : decode cX5_base 0 = .ok (.aload_n 0, 1) := by decide +kernel
theorem dX5_base_1 : decode cX5_base 1 = .ok (.iload_n 1, 1) := by decide +kernel
theorem dX5_base_2 : decode cX5_base 2 = .ok (.invokevirtual 111, 3) := by decide +kernel
theorem dX5_base_5 : decode cX5_base 5 = .ok (.getfield 115, 3) := by decide +kernel
theorem dX5_base_8 : decode cX5_base 8 = .ok (.ireturn, 1) := by decide +kernel
set_option maxRecDepth 20000 in
theorem ggX5_sign_X5_knownRing : GoodIn wsX5_sign wsX5_knownRing := goodIn_ca (goodIn_r _ [11, 1, 2, 12, 13, 90, 91, 92, 93, 94, 95, 96, 97, 98, 99, 100] (by decide +kernel) (by decide +kernel)) (goodIn_sub (fun _ h => List.mem_cons_of_mem _ (List.mem_append_right _ h)) (by decide +kernel))
set_option maxRecDepth 20000 in
theorem gX5_sign_X5_knownRing : GoodIn wsX5_sign (wsV RX5 118 RX5 yX5_knownRing wsX5_knownRing) := goodIn_app (goodIn_of _ (by decide +kernel)) ggX5_sign_X5_knownRing
set_option maxRecDepth 20000 in
theorem ggX5_sign_X5_knownTopic : GoodIn wsX5_sign wsX5_knownTopic := goodIn_ca (goodIn_r _ [17, 1, 2, 18, 19, 90, 91, 92, 93, 94, 95, 96, 97, 98, 99, 100] (by decide +kernel) (by decide +kernel)) (goodIn_sub (fun _ h => List.mem_cons_of_mem _ (List.mem_append_right _ h)) (by decide +kernel))
set_option maxRecDepth 20000 in
theorem gX5_sign_X5_knownTopic : GoodIn wsX5_sign (wsV RX5 111 RX5 yX5_knownTopic wsX5_knownTopic) := goodIn_app (goodIn_of _ (by decide +kernel)) ggX5_sign_X5_knownTopic
set_option maxRecDepth 20000 in
theorem ggX5_sign_X2_isSecret : GoodIn wsX5_sign wsX2_isSecret := goodIn_r _ [23] (by decide +kernel) (by decide +kernel)
set_option maxRecDepth 20000 in
theorem gX5_sign_X2_isSecret : GoodIn wsX5_sign (va_wsS RX5 86 yX2_isSecret wsX2_isSecret) := goodIn_app (goodIn_of _ (by decide +kernel)) ggX5_sign_X2_isSecret
set_option maxRecDepth 20000 in
theorem ggX5_sign_X2_power : GoodIn wsX5_sign wsX2_power := goodIn_r _ [26] (by decide +kernel) (by decide +kernel)
set_option maxRecDepth 20000 in
theorem gX5_sign_X2_power : GoodIn wsX5_sign (va_wsS RX5 91 yX2_power wsX2_power) := goodIn_app (goodIn_of _ (by decide +kernel)) ggX5_sign_X2_power
set_option maxRecDepth 20000 in
theorem ggX5_sign_X0_init : GoodIn wsX5_sign wsX0_init := goodIn_r _ [29, 30, 31, 32, 33, 34, 35, 36, 81, 82, 83, 84] (by decide +kernel) (by decide +kernel)
set_option maxRecDepth 20000 in
theorem gX5_sign_X0_init : GoodIn wsX5_sign (wsX0_init) := ggX5_sign_X0_init
set_option maxRecDepth 20000 in
theorem ggX5_sign_X0_prove : GoodIn wsX5_sign wsX0_prove := goodIn_r _ [40, 35, 33, 41, 25, 22, 26, 42, 43, 44, 5, 45, 34, 36, 46, 47, 48, 49, 50, 51, 52, 53, 54, 55, 56, 57, 58, 59, 60, 61, 62, 63, 64, 65, 66, 67, 68, 69, 70, 71, 72, 73, 74, 75, 76, 77, 78, 81, 82, 83, 84, 79, 80, 101, 102, 103, 104] (by decide +kernel) (by decide +kernel)
set_option maxRecDepth 20000 in
theorem gX5_sign_X0_prove : GoodIn wsX5_sign (wsV RX5 137 RX0 yX0_prove wsX0_prove) := goodIn_app (goodIn_of _ (by decide +kernel)) ggX5_sign_X0_prove
theorem dX5_sign_0 : decode cX5_sign 0 = .ok (.aload_n 0, 1) := by decide +kernel
theorem dX5_sign_1 : decode cX5_sign 1 = .ok (.iload_n 1, 1) := by decide +kernel
theorem dX5_sign_2 : decode cX5_sign 2 = .ok (.invokevirtual 118, 3) := by decide +kernel
theorem dX5_sign_5 : decode cX5_sign 5 = .ok (.astore 6, 2) := by decide +kernel
theorem dX5_sign_7 : decode cX5_sign 7 = .ok (.aload_n 0, 1) := by decide +kernel
theorem dX5_sign_8 : decode cX5_sign 8 = .ok (.iload_n 2, 1) := by decide +kernel
theorem dX5_sign_9 : decode cX5_sign 9 = .ok (.invokevirtual 111, 3) := by decide +kernel
theorem dX5_sign_12 : decode cX5_sign 12 = .ok (.astore 7, 2) := by decide +kernel
theorem dX5_sign_14 : decode cX5_sign 14 = .ok (.iload_n 3, 1) := by decide +kernel
theorem dX5_sign_15 : decode cX5_sign 15 = .ok (.ifCond .lt 12, 3) := by decide +kernel
theorem dX5_sign_18 : decode cX5_sign 18 = .ok (.iload_n 3, 1) := by decide +kernel
theorem dX5_sign_19 : decode cX5_sign 19 = .ok (.aload 6, 2) := by decide +kernel
theorem dX5_sign_21 : decode cX5_sign 21 = .ok (.getfield 75, 3) := by decide +kernel
theorem dX5_sign_24 : decode cX5_sign 24 = .ok (.if_icmp .lt 13, 3) := by decide +kernel
theorem dX5_sign_27 : decode cX5_sign 27 = .ok (.new 68, 3) := by decide +kernel
theorem dX5_sign_30 : decode cX5_sign 30 = .ok (.dup, 1) := by decide +kernel
theorem dX5_sign_31 : decode cX5_sign 31 = .ok (.ldc 122, 2) := by decide +kernel
theorem dX5_sign_33 : decode cX5_sign 33 = .ok (.invokespecial 72, 3) := by decide +kernel
theorem dX5_sign_36 : decode cX5_sign 36 = .ok (.athrow, 1) := by decide +kernel
theorem dX5_sign_37 : decode cX5_sign 37 = .ok (.iload 4, 2) := by decide +kernel
theorem dX5_sign_39 : decode cX5_sign 39 = .ok (.invokestatic 86, 3) := by decide +kernel
theorem dX5_sign_42 : decode cX5_sign 42 = .ok (.ifCond .eq 19, 3) := by decide +kernel
theorem dX5_sign_45 : decode cX5_sign 45 = .ok (.iconst 4, 1) := by decide +kernel
theorem dX5_sign_46 : decode cX5_sign 46 = .ok (.iload 4, 2) := by decide +kernel
theorem dX5_sign_48 : decode cX5_sign 48 = .ok (.invokestatic 91, 3) := by decide +kernel
theorem dX5_sign_51 : decode cX5_sign 51 = .ok (.aload 6, 2) := by decide +kernel
theorem dX5_sign_53 : decode cX5_sign 53 = .ok (.getfield 124, 3) := by decide +kernel
theorem dX5_sign_56 : decode cX5_sign 56 = .ok (.iload_n 3, 1) := by decide +kernel
theorem dX5_sign_57 : decode cX5_sign 57 = .ok (.iaload, 1) := by decide +kernel
theorem dX5_sign_58 : decode cX5_sign 58 = .ok (.if_icmp .eq 13, 3) := by decide +kernel
theorem dX5_sign_61 : decode cX5_sign 61 = .ok (.new 68, 3) := by decide +kernel
theorem dX5_sign_64 : decode cX5_sign 64 = .ok (.dup, 1) := by decide +kernel
theorem dX5_sign_65 : decode cX5_sign 65 = .ok (.ldc 127, 2) := by decide +kernel
theorem dX5_sign_67 : decode cX5_sign 67 = .ok (.invokespecial 72, 3) := by decide +kernel
theorem dX5_sign_70 : decode cX5_sign 70 = .ok (.athrow, 1) := by decide +kernel
theorem dX5_sign_71 : decode cX5_sign 71 = .ok (.new 129, 3) := by decide +kernel
theorem dX5_sign_74 : decode cX5_sign 74 = .ok (.dup, 1) := by decide +kernel
theorem dX5_sign_75 : decode cX5_sign 75 = .ok (.aload 6, 2) := by decide +kernel
theorem dX5_sign_77 : decode cX5_sign 77 = .ok (.aload 7, 2) := by decide +kernel
theorem dX5_sign_79 : decode cX5_sign 79 = .ok (.getfield 131, 3) := by decide +kernel
theorem dX5_sign_82 : decode cX5_sign 82 = .ok (.aload 7, 2) := by decide +kernel
theorem dX5_sign_84 : decode cX5_sign 84 = .ok (.getfield 115, 3) := by decide +kernel
theorem dX5_sign_87 : decode cX5_sign 87 = .ok (.iload 5, 2) := by decide +kernel
theorem dX5_sign_89 : decode cX5_sign 89 = .ok (.invokespecial 134, 3) := by decide +kernel
theorem dX5_sign_92 : decode cX5_sign 92 = .ok (.iload_n 3, 1) := by decide +kernel
theorem dX5_sign_93 : decode cX5_sign 93 = .ok (.iload 4, 2) := by decide +kernel
theorem dX5_sign_95 : decode cX5_sign 95 = .ok (.aload_n 0, 1) := by decide +kernel
theorem dX5_sign_96 : decode cX5_sign 96 = .ok (.getfield 38, 3) := by decide +kernel
theorem dX5_sign_99 : decode cX5_sign 99 = .ok (.invokevirtual 137, 3) := by decide +kernel
theorem dX5_sign_102 : decode cX5_sign 102 = .ok (.aload_n 0, 1) := by decide +kernel
theorem dX5_sign_103 : decode cX5_sign 103 = .ok (.getfield 38, 3) := by decide +kernel
theorem dX5_sign_106 : decode cX5_sign 106 = .ok (.getfield 141, 3) := by decide +kernel
theorem dX5_sign_109 : decode cX5_sign 109 = .ok (.iconst 1, 1) := by decide +kernel
theorem dX5_sign_110 : decode cX5_sign 110 = .ok (.iaload, 1) := by decide +kernel
theorem dX5_sign_111 : decode cX5_sign 111 = .ok (.ireturn, 1) := by decide +kernel
set_option maxRecDepth 20000 in
theorem ggX5_draft_X3_hasNumber : GoodIn wsX5_draft wsX3_hasNumber := goodIn_r _ [8, 9, 21, 22, 23, 24] (by decide +kernel) (by decide +kernel)
set_option maxRecDepth 20000 in
theorem gX5_draft_X3_hasNumber : GoodIn wsX5_draft (wsV RX5 144 RX3 yX3_hasNumber wsX3_hasNumber) := goodIn_app (goodIn_of _ (by decide +kernel)) ggX5_draft_X3_hasNumber
theorem dX5_draft_0 : decode cX5_draft 0 = .ok (.aload_n 0, 1) := by decide +kernel
theorem dX5_draft_1 : decode cX5_draft 1 = .ok (.getfield 38, 3) := by decide +kernel
theorem dX5_draft_4 : decode cX5_draft 4 = .ok (.iload_n 1, 1) := by decide +kernel
theorem dX5_draft_5 : decode cX5_draft 5 = .ok (.invokevirtual 144, 3) := by decide +kernel
theorem dX5_draft_8 : decode cX5_draft 8 = .ok (.ifCond .ne 13, 3) := by decide +kernel
theorem dX5_draft_11 : decode cX5_draft 11 = .ok (.new 147, 3) := by decide +kernel
theorem dX5_draft_14 : decode cX5_draft 14 = .ok (.dup, 1) := by decide +kernel
theorem dX5_draft_15 : decode cX5_draft 15 = .ok (.ldc 149, 2) := by decide +kernel
theorem dX5_draft_17 : decode cX5_draft 17 = .ok (.invokespecial 151, 3) := by decide +kernel
theorem dX5_draft_20 : decode cX5_draft 20 = .ok (.athrow, 1) := by decide +kernel
theorem dX5_draft_21 : decode cX5_draft 21 = .ok (.aload_n 0, 1) := by decide +kernel
theorem dX5_draft_22 : decode cX5_draft 22 = .ok (.getfield 38, 3) := by decide +kernel
theorem dX5_draft_25 : decode cX5_draft 25 = .ok (.getfield 141, 3) := by decide +kernel
theorem dX5_draft_28 : decode cX5_draft 28 = .ok (.iload_n 1, 1) := by decide +kernel
theorem dX5_draft_29 : decode cX5_draft 29 = .ok (.iaload, 1) := by decide +kernel
theorem dX5_draft_30 : decode cX5_draft 30 = .ok (.ireturn, 1) := by decide +kernel
set_option maxRecDepth 20000 in
theorem ggX5_edit_X3_hasNumber : GoodIn wsX5_edit wsX3_hasNumber := goodIn_r _ [8, 9, 21, 22, 23, 24] (by decide +kernel) (by decide +kernel)
set_option maxRecDepth 20000 in
theorem gX5_edit_X3_hasNumber : GoodIn wsX5_edit (wsV RX5 144 RX3 yX3_hasNumber wsX3_hasNumber) := goodIn_app (goodIn_of _ (by decide +kernel)) ggX5_edit_X3_hasNumber
theorem dX5_edit_0 : decode cX5_edit 0 = .ok (.aload_n 0, 1) := by decide +kernel
theorem dX5_edit_1 : decode cX5_edit 1 = .ok (.getfield 38, 3) := by decide +kernel
theorem dX5_edit_4 : decode cX5_edit 4 = .ok (.iload_n 1, 1) := by decide +kernel
theorem dX5_edit_5 : decode cX5_edit 5 = .ok (.invokevirtual 144, 3) := by decide +kernel
theorem dX5_edit_8 : decode cX5_edit 8 = .ok (.ifCond .ne 13, 3) := by decide +kernel
theorem dX5_edit_11 : decode cX5_edit 11 = .ok (.new 147, 3) := by decide +kernel
theorem dX5_edit_14 : decode cX5_edit 14 = .ok (.dup, 1) := by decide +kernel
theorem dX5_edit_15 : decode cX5_edit 15 = .ok (.ldc 149, 2) := by decide +kernel
theorem dX5_edit_17 : decode cX5_edit 17 = .ok (.invokespecial 151, 3) := by decide +kernel
theorem dX5_edit_20 : decode cX5_edit 20 = .ok (.athrow, 1) := by decide +kernel
theorem dX5_edit_21 : decode cX5_edit 21 = .ok (.aload_n 0, 1) := by decide +kernel
theorem dX5_edit_22 : decode cX5_edit 22 = .ok (.getfield 38, 3) := by decide +kernel
theorem dX5_edit_25 : decode cX5_edit 25 = .ok (.getfield 141, 3) := by decide +kernel
theorem dX5_edit_28 : decode cX5_edit 28 = .ok (.iload_n 1, 1) := by decide +kernel
theorem dX5_edit_29 : decode cX5_edit 29 = .ok (.iload_n 2, 1) := by decide +kernel
theorem dX5_edit_30 : decode cX5_edit 30 = .ok (.iastore, 1) := by decide +kernel
theorem dX5_edit_31 : decode cX5_edit 31 = .ok (.return_, 1) := by decide +kernel
set_option maxRecDepth 20000 in
theorem ggX5_submit_X5_knownRing : GoodIn wsX5_submit wsX5_knownRing := goodIn_ca (goodIn_r _ [15, 3, 4, 16, 17, 103, 104, 105, 106, 107, 108, 109, 110, 111, 112, 113] (by decide +kernel) (by decide +kernel)) (goodIn_sub (fun _ h => List.mem_cons_of_mem _ (List.mem_append_left _ (List.mem_append_right _ h))) (by decide +kernel))
set_option maxRecDepth 20000 in
theorem gX5_submit_X5_knownRing : GoodIn wsX5_submit (wsV RX5 118 RX5 yX5_knownRing wsX5_knownRing) := goodIn_app (goodIn_of _ (by decide +kernel)) ggX5_submit_X5_knownRing
set_option maxRecDepth 20000 in
theorem ggX5_submit_X5_knownTopic : GoodIn wsX5_submit wsX5_knownTopic := goodIn_ca (goodIn_r _ [21, 3, 4, 22, 23, 103, 104, 105, 106, 107, 108, 109, 110, 111, 112, 113] (by decide +kernel) (by decide +kernel)) (goodIn_sub (fun _ h => List.mem_cons_of_mem _ (List.mem_append_left _ (List.mem_append_right _ h))) (by decide +kernel))
set_option maxRecDepth 20000 in
theorem gX5_submit_X5_knownTopic : GoodIn wsX5_submit (wsV RX5 111 RX5 yX5_knownTopic wsX5_knownTopic) := goodIn_app (goodIn_of _ (by decide +kernel)) ggX5_submit_X5_knownTopic
set_option maxRecDepth 20000 in
theorem ggX5_submit_X0_init : GoodIn wsX5_submit wsX0_init := goodIn_r _ [26, 27, 28, 29, 30, 31, 32, 33, 99, 100, 101, 102] (by decide +kernel) (by decide +kernel)
set_option maxRecDepth 20000 in
theorem gX5_submit_X0_init : GoodIn wsX5_submit (wsX0_init) := ggX5_submit_X0_init
set_option maxRecDepth 20000 in
theorem ggX5_submit_X0_isProvedBy : GoodIn wsX5_submit wsX0_isProvedBy := goodIn_r _ [37, 30, 38, 39, 40, 9, 41, 42, 43, 44, 45, 46, 47, 48, 49, 50, 51, 52, 53, 54, 55, 31, 33, 56, 57, 58, 59, 60, 61, 62, 63, 32, 64, 65, 66, 67, 68, 69, 70, 71, 114, 115, 116, 117, 99, 100, 101, 102, 118, 119] (by decide +kernel) (by decide +kernel)
set_option maxRecDepth 20000 in
theorem gX5_submit_X0_isProvedBy : GoodIn wsX5_submit (wsV RX5 158 RX0 yX0_isProvedBy wsX0_isProvedBy) := goodIn_app (goodIn_of _ (by decide +kernel)) ggX5_submit_X0_isProvedBy
set_option maxRecDepth 20000 in
theorem ggX5_submit_X4_hasAmongFirst : GoodIn wsX5_submit wsX4_hasAmongFirst := goodIn_r _ [76, 77, 78, 94, 95, 96, 97, 98, 114, 115, 116, 117] (by decide +kernel) (by decide +kernel)
set_option maxRecDepth 20000 in
theorem gX5_submit_X4_hasAmongFirst : GoodIn wsX5_submit (wsV RX5 167 RX4 yX4_hasAmongFirst wsX4_hasAmongFirst) := goodIn_app (goodIn_of _ (by decide +kernel)) ggX5_submit_X4_hasAmongFirst
set_option maxRecDepth 20000 in
theorem ggX5_submit_X4_store : GoodIn wsX5_submit wsX4_store := goodIn_r _ [82, 77, 78, 83, 84, 85, 86, 87, 88, 89, 90, 91, 92, 93, 94, 95, 96, 97, 98, 114, 115, 116, 117] (by decide +kernel) (by decide +kernel)
set_option maxRecDepth 20000 in
theorem gX5_submit_X4_store : GoodIn wsX5_submit (wsV RX5 176 RX4 yX4_store wsX4_store) := goodIn_app (goodIn_of _ (by decide +kernel)) ggX5_submit_X4_store
theorem dX5_submit_0 : decode cX5_submit 0 = .ok (.aload_n 0, 1) := by decide +kernel
theorem dX5_submit_1 : decode cX5_submit 1 = .ok (.iload_n 1, 1) := by decide +kernel
theorem dX5_submit_2 : decode cX5_submit 2 = .ok (.invokevirtual 118, 3) := by decide +kernel
theorem dX5_submit_5 : decode cX5_submit 5 = .ok (.astore 4, 2) := by decide +kernel
theorem dX5_submit_7 : decode cX5_submit 7 = .ok (.aload_n 0, 1) := by decide +kernel
theorem dX5_submit_8 : decode cX5_submit 8 = .ok (.iload_n 2, 1) := by decide +kernel
theorem dX5_submit_9 : decode cX5_submit 9 = .ok (.invokevirtual 111, 3) := by decide +kernel
theorem dX5_submit_12 : decode cX5_submit 12 = .ok (.astore 5, 2) := by decide +kernel
theorem dX5_submit_14 : decode cX5_submit 14 = .ok (.aload 5, 2) := by decide +kernel
theorem dX5_submit_16 : decode cX5_submit 16 = .ok (.getfield 152, 3) := by decide +kernel
theorem dX5_submit_19 : decode cX5_submit 19 = .ok (.ifCond .eq 13, 3) := by decide +kernel
theorem dX5_submit_22 : decode cX5_submit 22 = .ok (.new 78, 3) := by decide +kernel
theorem dX5_submit_25 : decode cX5_submit 25 = .ok (.dup, 1) := by decide +kernel
theorem dX5_submit_26 : decode cX5_submit 26 = .ok (.ldc 156, 2) := by decide +kernel
theorem dX5_submit_28 : decode cX5_submit 28 = .ok (.invokespecial 82, 3) := by decide +kernel
theorem dX5_submit_31 : decode cX5_submit 31 = .ok (.athrow, 1) := by decide +kernel
theorem dX5_submit_32 : decode cX5_submit 32 = .ok (.new 129, 3) := by decide +kernel
theorem dX5_submit_35 : decode cX5_submit 35 = .ok (.dup, 1) := by decide +kernel
theorem dX5_submit_36 : decode cX5_submit 36 = .ok (.aload 4, 2) := by decide +kernel
theorem dX5_submit_38 : decode cX5_submit 38 = .ok (.aload 5, 2) := by decide +kernel
theorem dX5_submit_40 : decode cX5_submit 40 = .ok (.getfield 131, 3) := by decide +kernel
theorem dX5_submit_43 : decode cX5_submit 43 = .ok (.aload 5, 2) := by decide +kernel
theorem dX5_submit_45 : decode cX5_submit 45 = .ok (.getfield 115, 3) := by decide +kernel
theorem dX5_submit_48 : decode cX5_submit 48 = .ok (.iload_n 3, 1) := by decide +kernel
theorem dX5_submit_49 : decode cX5_submit 49 = .ok (.invokespecial 134, 3) := by decide +kernel
theorem dX5_submit_52 : decode cX5_submit 52 = .ok (.aload_n 0, 1) := by decide +kernel
theorem dX5_submit_53 : decode cX5_submit 53 = .ok (.getfield 38, 3) := by decide +kernel
theorem dX5_submit_56 : decode cX5_submit 56 = .ok (.invokevirtual 158, 3) := by decide +kernel
theorem dX5_submit_59 : decode cX5_submit 59 = .ok (.ifCond .ne 13, 3) := by decide +kernel
theorem dX5_submit_62 : decode cX5_submit 62 = .ok (.new 68, 3) := by decide +kernel
theorem dX5_submit_65 : decode cX5_submit 65 = .ok (.dup, 1) := by decide +kernel
theorem dX5_submit_66 : decode cX5_submit 66 = .ok (.ldc 162, 2) := by decide +kernel
theorem dX5_submit_68 : decode cX5_submit 68 = .ok (.invokespecial 72, 3) := by decide +kernel
theorem dX5_submit_71 : decode cX5_submit 71 = .ok (.athrow, 1) := by decide +kernel
theorem dX5_submit_72 : decode cX5_submit 72 = .ok (.aload 5, 2) := by decide +kernel
theorem dX5_submit_74 : decode cX5_submit 74 = .ok (.aload 5, 2) := by decide +kernel
theorem dX5_submit_76 : decode cX5_submit 76 = .ok (.getfield 164, 3) := by decide +kernel
theorem dX5_submit_79 : decode cX5_submit 79 = .ok (.aload_n 0, 1) := by decide +kernel
theorem dX5_submit_80 : decode cX5_submit 80 = .ok (.getfield 38, 3) := by decide +kernel
theorem dX5_submit_83 : decode cX5_submit 83 = .ok (.getfield 141, 3) := by decide +kernel
theorem dX5_submit_86 : decode cX5_submit 86 = .ok (.iconst 1, 1) := by decide +kernel
theorem dX5_submit_87 : decode cX5_submit 87 = .ok (.iaload, 1) := by decide +kernel
theorem dX5_submit_88 : decode cX5_submit 88 = .ok (.invokevirtual 167, 3) := by decide +kernel
theorem dX5_submit_91 : decode cX5_submit 91 = .ok (.ifCond .ne 13, 3) := by decide +kernel
theorem dX5_submit_94 : decode cX5_submit 94 = .ok (.aload 5, 2) := by decide +kernel
theorem dX5_submit_96 : decode cX5_submit 96 = .ok (.getfield 164, 3) := by decide +kernel
theorem dX5_submit_99 : decode cX5_submit 99 = .ok (.bipush 8, 2) := by decide +kernel
theorem dX5_submit_101 : decode cX5_submit 101 = .ok (.if_icmp .lt 13, 3) := by decide +kernel
theorem dX5_submit_104 : decode cX5_submit 104 = .ok (.new 171, 3) := by decide +kernel
theorem dX5_submit_107 : decode cX5_submit 107 = .ok (.dup, 1) := by decide +kernel
theorem dX5_submit_108 : decode cX5_submit 108 = .ok (.ldc 173, 2) := by decide +kernel
theorem dX5_submit_110 : decode cX5_submit 110 = .ok (.invokespecial 175, 3) := by decide +kernel
theorem dX5_submit_113 : decode cX5_submit 113 = .ok (.athrow, 1) := by decide +kernel
theorem dX5_submit_114 : decode cX5_submit 114 = .ok (.aload 5, 2) := by decide +kernel
theorem dX5_submit_116 : decode cX5_submit 116 = .ok (.aload_n 0, 1) := by decide +kernel
theorem dX5_submit_117 : decode cX5_submit 117 = .ok (.getfield 38, 3) := by decide +kernel
theorem dX5_submit_120 : decode cX5_submit 120 = .ok (.iload_n 1, 1) := by decide +kernel
theorem dX5_submit_121 : decode cX5_submit 121 = .ok (.iload_n 3, 1) := by decide +kernel
theorem dX5_submit_122 : decode cX5_submit 122 = .ok (.invokevirtual 176, 3) := by decide +kernel
theorem dX5_submit_125 : decode cX5_submit 125 = .ok (.aload 5, 2) := by decide +kernel
theorem dX5_submit_127 : decode cX5_submit 127 = .ok (.getfield 164, 3) := by decide +kernel
theorem dX5_submit_130 : decode cX5_submit 130 = .ok (.ireturn, 1) := by decide +kernel
set_option maxRecDepth 20000 in
theorem ggX5_count_X5_knownTopic : GoodIn wsX5_count wsX5_knownTopic := goodIn_ca (goodIn_r _ [5, 6, 7, 8, 9, 15, 16, 17, 18, 19, 20, 21, 22, 23, 24, 25] (by decide +kernel) (by decide +kernel)) (goodIn_sub (fun _ h => List.mem_cons_of_mem _ (List.mem_append_right _ h)) (by decide +kernel))
set_option maxRecDepth 20000 in
theorem gX5_count_X5_knownTopic : GoodIn wsX5_count (wsV RX5 111 RX5 yX5_knownTopic wsX5_knownTopic) := goodIn_app (goodIn_of _ (by decide +kernel)) ggX5_count_X5_knownTopic
theorem dX5_count_0 : decode cX5_count 0 = .ok (.aload_n 0, 1) := by decide +kernel
theorem dX5_count_1 : decode cX5_count 1 = .ok (.iload_n 1, 1) := by decide +kernel
theorem dX5_count_2 : decode cX5_count 2 = .ok (.invokevirtual 111, 3) := by decide +kernel
theorem dX5_count_5 : decode cX5_count 5 = .ok (.getfield 164, 3) := by decide +kernel
theorem dX5_count_8 : decode cX5_count 8 = .ok (.ireturn, 1) := by decide +kernel
set_option maxRecDepth 20000 in
theorem ggX5_seen_X5_knownTopic : GoodIn wsX5_seen wsX5_knownTopic := goodIn_ca (goodIn_r _ [6, 7, 8, 9, 10, 23, 24, 25, 26, 27, 28, 29, 30, 31, 32, 33] (by decide +kernel) (by decide +kernel)) (goodIn_sub (fun _ h => List.mem_cons_of_mem _ (List.mem_append_right _ h)) (by decide +kernel))
set_option maxRecDepth 20000 in
theorem gX5_seen_X5_knownTopic : GoodIn wsX5_seen (wsV RX5 111 RX5 yX5_knownTopic wsX5_knownTopic) := goodIn_app (goodIn_of _ (by decide +kernel)) ggX5_seen_X5_knownTopic
set_option maxRecDepth 20000 in
theorem ggX5_seen_X4_hasAmongFirst : GoodIn wsX5_seen wsX4_hasAmongFirst := goodIn_r _ [15, 16, 17, 18, 19, 20, 21, 22, 34, 35, 36, 37] (by decide +kernel) (by decide +kernel)
set_option maxRecDepth 20000 in
theorem gX5_seen_X4_hasAmongFirst : GoodIn wsX5_seen (wsV RX5 167 RX4 yX4_hasAmongFirst wsX4_hasAmongFirst) := goodIn_app (goodIn_of _ (by decide +kernel)) ggX5_seen_X4_hasAmongFirst
theorem dX5_seen_0 : decode cX5_seen 0 = .ok (.aload_n 0, 1) := by decide +kernel
theorem dX5_seen_1 : decode cX5_seen 1 = .ok (.iload_n 1, 1) := by decide +kernel
theorem dX5_seen_2 : decode cX5_seen 2 = .ok (.invokevirtual 111, 3) := by decide +kernel
theorem dX5_seen_5 : decode cX5_seen 5 = .ok (.astore_n 2, 1) := by decide +kernel
theorem dX5_seen_6 : decode cX5_seen 6 = .ok (.aload_n 2, 1) := by decide +kernel
theorem dX5_seen_7 : decode cX5_seen 7 = .ok (.aload_n 2, 1) := by decide +kernel
theorem dX5_seen_8 : decode cX5_seen 8 = .ok (.getfield 164, 3) := by decide +kernel
theorem dX5_seen_11 : decode cX5_seen 11 = .ok (.aload_n 0, 1) := by decide +kernel
theorem dX5_seen_12 : decode cX5_seen 12 = .ok (.getfield 38, 3) := by decide +kernel
theorem dX5_seen_15 : decode cX5_seen 15 = .ok (.getfield 141, 3) := by decide +kernel
theorem dX5_seen_18 : decode cX5_seen 18 = .ok (.iconst 1, 1) := by decide +kernel
theorem dX5_seen_19 : decode cX5_seen 19 = .ok (.iaload, 1) := by decide +kernel
theorem dX5_seen_20 : decode cX5_seen 20 = .ok (.invokevirtual 167, 3) := by decide +kernel
theorem dX5_seen_23 : decode cX5_seen 23 = .ok (.ireturn, 1) := by decide +kernel
set_option maxRecDepth 20000 in
theorem ggX5_recount_X5_knownTopic : GoodIn wsX5_recount wsX5_knownTopic := goodIn_ca (goodIn_r _ [5, 6, 7, 8, 9, 78, 79, 80, 81, 82, 83, 84, 85, 86, 87, 88] (by decide +kernel) (by decide +kernel)) (goodIn_sub (fun _ h => List.mem_cons_of_mem _ (List.mem_append_right _ h)) (by decide +kernel))
set_option maxRecDepth 20000 in
theorem gX5_recount_X5_knownTopic : GoodIn wsX5_recount (wsV RX5 111 RX5 yX5_knownTopic wsX5_knownTopic) := goodIn_app (goodIn_of _ (by decide +kernel)) ggX5_recount_X5_knownTopic
set_option maxRecDepth 20000 in
theorem ggX5_recount_X5_isStoredWell : GoodIn wsX5_recount wsX5_isStoredWell := goodIn_r _ [13, 14, 15, 16, 17, 18, 19, 20, 21, 22, 23, 24, 25, 26, 27, 28, 29, 30, 31, 32, 33, 34, 35, 36, 37, 38, 39, 40, 41, 42, 43, 44, 45, 46, 47, 48, 49, 50, 51, 52, 53, 54, 55, 56, 57, 58, 59, 60, 61, 62, 63, 64, 65, 66, 67, 68, 69, 70, 71, 72, 73, 74, 75, 76, 77, 89, 90, 91, 92, 78, 79, 80, 81, 82, 83, 84, 85, 86, 87, 88, 93, 94, 95, 96, 97, 98] (by decide +kernel) (by decide +kernel)
set_option maxRecDepth 20000 in
theorem gX5_recount_X5_isStoredWell : GoodIn wsX5_recount (wsV RX5 180 RX5 yX5_isStoredWell wsX5_isStoredWell) := goodIn_app (goodIn_of _ (by decide +kernel)) ggX5_recount_X5_isStoredWell
theorem dX5_recount_0 : decode cX5_recount 0 = .ok (.aload_n 0, 1) := by decide +kernel
theorem dX5_recount_1 : decode cX5_recount 1 = .ok (.iload_n 1, 1) := by decide +kernel
theorem dX5_recount_2 : decode cX5_recount 2 = .ok (.invokevirtual 111, 3) := by decide +kernel
theorem dX5_recount_5 : decode cX5_recount 5 = .ok (.astore_n 2, 1) := by decide +kernel
theorem dX5_recount_6 : decode cX5_recount 6 = .ok (.iconst 0, 1) := by decide +kernel
theorem dX5_recount_7 : decode cX5_recount 7 = .ok (.istore_n 3, 1) := by decide +kernel
theorem dX5_recount_8 : decode cX5_recount 8 = .ok (.iload_n 3, 1) := by decide +kernel
theorem dX5_recount_9 : decode cX5_recount 9 = .ok (.aload_n 2, 1) := by decide +kernel
theorem dX5_recount_10 : decode cX5_recount 10 = .ok (.getfield 164, 3) := by decide +kernel
theorem dX5_recount_13 : decode cX5_recount 13 = .ok (.if_icmp .ge 22, 3) := by decide +kernel
theorem dX5_recount_16 : decode cX5_recount 16 = .ok (.aload_n 0, 1) := by decide +kernel
theorem dX5_recount_17 : decode cX5_recount 17 = .ok (.aload_n 2, 1) := by decide +kernel
theorem dX5_recount_18 : decode cX5_recount 18 = .ok (.iload_n 3, 1) := by decide +kernel
theorem dX5_recount_19 : decode cX5_recount 19 = .ok (.invokevirtual 180, 3) := by decide +kernel
theorem dX5_recount_22 : decode cX5_recount 22 = .ok (.ifCond .ne 7, 3) := by decide +kernel
theorem dX5_recount_25 : decode cX5_recount 25 = .ok (.iconst (-1), 1) := by decide +kernel
theorem dX5_recount_26 : decode cX5_recount 26 = .ok (.iload_n 3, 1) := by decide +kernel
theorem dX5_recount_27 : decode cX5_recount 27 = .ok (.isub, 1) := by decide +kernel
theorem dX5_recount_28 : decode cX5_recount 28 = .ok (.ireturn, 1) := by decide +kernel
theorem dX5_recount_29 : decode cX5_recount 29 = .ok (.iinc 3 1, 3) := by decide +kernel
theorem dX5_recount_32 : decode cX5_recount 32 = .ok (.goto (-24), 3) := by decide +kernel
theorem dX5_recount_35 : decode cX5_recount 35 = .ok (.aload_n 2, 1) := by decide +kernel
theorem dX5_recount_36 : decode cX5_recount 36 = .ok (.getfield 164, 3) := by decide +kernel
theorem dX5_recount_39 : decode cX5_recount 39 = .ok (.ireturn, 1) := by decide +kernel
set_option maxRecDepth 20000 in
theorem ggX5_spoil_X5_knownTopic : GoodIn wsX5_spoil wsX5_knownTopic := goodIn_ca (goodIn_r _ [7, 8, 9, 10, 11, 27, 28, 29, 30, 31, 32, 33, 34, 35, 36, 37] (by decide +kernel) (by decide +kernel)) (goodIn_sub (fun _ h => List.mem_cons_of_mem _ (List.mem_append_right _ h)) (by decide +kernel))
set_option maxRecDepth 20000 in
theorem gX5_spoil_X5_knownTopic : GoodIn wsX5_spoil (wsV RX5 111 RX5 yX5_knownTopic wsX5_knownTopic) := goodIn_app (goodIn_of _ (by decide +kernel)) ggX5_spoil_X5_knownTopic
set_option maxRecDepth 20000 in
theorem ggX5_spoil_X3_hasNumber : GoodIn wsX5_spoil wsX3_hasNumber := goodIn_r _ [16, 17, 23, 24, 25, 26] (by decide +kernel) (by decide +kernel)
set_option maxRecDepth 20000 in
theorem gX5_spoil_X3_hasNumber : GoodIn wsX5_spoil (wsV RX5 144 RX3 yX3_hasNumber wsX3_hasNumber) := goodIn_app (goodIn_of _ (by decide +kernel)) ggX5_spoil_X3_hasNumber
theorem dX5_spoil_0 : decode cX5_spoil 0 = .ok (.aload_n 0, 1) := by decide +kernel
theorem dX5_spoil_1 : decode cX5_spoil 1 = .ok (.iload_n 1, 1) := by decide +kernel
theorem dX5_spoil_2 : decode cX5_spoil 2 = .ok (.invokevirtual 111, 3) := by decide +kernel
theorem dX5_spoil_5 : decode cX5_spoil 5 = .ok (.astore 5, 2) := by decide +kernel
theorem dX5_spoil_7 : decode cX5_spoil 7 = .ok (.iload_n 2, 1) := by decide +kernel
theorem dX5_spoil_8 : decode cX5_spoil 8 = .ok (.ifCond .lt 12, 3) := by decide +kernel
theorem dX5_spoil_11 : decode cX5_spoil 11 = .ok (.iload_n 2, 1) := by decide +kernel
theorem dX5_spoil_12 : decode cX5_spoil 12 = .ok (.aload 5, 2) := by decide +kernel
theorem dX5_spoil_14 : decode cX5_spoil 14 = .ok (.getfield 164, 3) := by decide +kernel
theorem dX5_spoil_17 : decode cX5_spoil 17 = .ok (.if_icmp .lt 13, 3) := by decide +kernel
theorem dX5_spoil_20 : decode cX5_spoil 20 = .ok (.new 147, 3) := by decide +kernel
theorem dX5_spoil_23 : decode cX5_spoil 23 = .ok (.dup, 1) := by decide +kernel
theorem dX5_spoil_24 : decode cX5_spoil 24 = .ok (.ldc 184, 2) := by decide +kernel
theorem dX5_spoil_26 : decode cX5_spoil 26 = .ok (.invokespecial 151, 3) := by decide +kernel
theorem dX5_spoil_29 : decode cX5_spoil 29 = .ok (.athrow, 1) := by decide +kernel
theorem dX5_spoil_30 : decode cX5_spoil 30 = .ok (.aload 5, 2) := by decide +kernel
theorem dX5_spoil_32 : decode cX5_spoil 32 = .ok (.getfield 186, 3) := by decide +kernel
theorem dX5_spoil_35 : decode cX5_spoil 35 = .ok (.iload_n 2, 1) := by decide +kernel
theorem dX5_spoil_36 : decode cX5_spoil 36 = .ok (.aaload, 1) := by decide +kernel
theorem dX5_spoil_37 : decode cX5_spoil 37 = .ok (.iload_n 3, 1) := by decide +kernel
theorem dX5_spoil_38 : decode cX5_spoil 38 = .ok (.invokevirtual 144, 3) := by decide +kernel
theorem dX5_spoil_41 : decode cX5_spoil 41 = .ok (.ifCond .ne 13, 3) := by decide +kernel
theorem dX5_spoil_44 : decode cX5_spoil 44 = .ok (.new 147, 3) := by decide +kernel
theorem dX5_spoil_47 : decode cX5_spoil 47 = .ok (.dup, 1) := by decide +kernel
theorem dX5_spoil_48 : decode cX5_spoil 48 = .ok (.ldc 190, 2) := by decide +kernel
theorem dX5_spoil_50 : decode cX5_spoil 50 = .ok (.invokespecial 151, 3) := by decide +kernel
theorem dX5_spoil_53 : decode cX5_spoil 53 = .ok (.athrow, 1) := by decide +kernel
theorem dX5_spoil_54 : decode cX5_spoil 54 = .ok (.aload 5, 2) := by decide +kernel
theorem dX5_spoil_56 : decode cX5_spoil 56 = .ok (.getfield 186, 3) := by decide +kernel
theorem dX5_spoil_59 : decode cX5_spoil 59 = .ok (.iload_n 2, 1) := by decide +kernel
theorem dX5_spoil_60 : decode cX5_spoil 60 = .ok (.aaload, 1) := by decide +kernel
theorem dX5_spoil_61 : decode cX5_spoil 61 = .ok (.getfield 141, 3) := by decide +kernel
theorem dX5_spoil_64 : decode cX5_spoil 64 = .ok (.iload_n 3, 1) := by decide +kernel
theorem dX5_spoil_65 : decode cX5_spoil 65 = .ok (.iload 4, 2) := by decide +kernel
theorem dX5_spoil_67 : decode cX5_spoil 67 = .ok (.iastore, 1) := by decide +kernel
theorem dX5_spoil_68 : decode cX5_spoil 68 = .ok (.return_, 1) := by decide +kernel
set_option maxRecDepth 20000 in
theorem ggX5_close_X5_knownTopic : GoodIn wsX5_close wsX5_knownTopic := goodIn_ca (goodIn_r _ [7, 8, 9, 10, 11, 17, 18, 19, 20, 21, 22, 23, 24, 25, 26, 27] (by decide +kernel) (by decide +kernel)) (goodIn_sub (fun _ h => List.mem_cons_of_mem _ (List.mem_append_right _ h)) (by decide +kernel))
set_option maxRecDepth 20000 in
theorem gX5_close_X5_knownTopic : GoodIn wsX5_close (wsV RX5 111 RX5 yX5_knownTopic wsX5_knownTopic) := goodIn_app (goodIn_of _ (by decide +kernel)) ggX5_close_X5_knownTopic
theorem dX5_close_0 : decode cX5_close 0 = .ok (.aload_n 0, 1) := by decide +kernel
theorem dX5_close_1 : decode cX5_close 1 = .ok (.iload_n 1, 1) := by decide +kernel
theorem dX5_close_2 : decode cX5_close 2 = .ok (.invokevirtual 111, 3) := by decide +kernel
theorem dX5_close_5 : decode cX5_close 5 = .ok (.astore_n 2, 1) := by decide +kernel
theorem dX5_close_6 : decode cX5_close 6 = .ok (.aload_n 2, 1) := by decide +kernel
theorem dX5_close_7 : decode cX5_close 7 = .ok (.getfield 152, 3) := by decide +kernel
theorem dX5_close_10 : decode cX5_close 10 = .ok (.ifCond .eq 13, 3) := by decide +kernel
theorem dX5_close_13 : decode cX5_close 13 = .ok (.new 78, 3) := by decide +kernel
theorem dX5_close_16 : decode cX5_close 16 = .ok (.dup, 1) := by decide +kernel
theorem dX5_close_17 : decode cX5_close 17 = .ok (.ldc 156, 2) := by decide +kernel
theorem dX5_close_19 : decode cX5_close 19 = .ok (.invokespecial 82, 3) := by decide +kernel
theorem dX5_close_22 : decode cX5_close 22 = .ok (.athrow, 1) := by decide +kernel
theorem dX5_close_23 : decode cX5_close 23 = .ok (.aload_n 2, 1) := by decide +kernel
theorem dX5_close_24 : decode cX5_close 24 = .ok (.iconst 1, 1) := by decide +kernel
theorem dX5_close_25 : decode cX5_close 25 = .ok (.putfield 152, 3) := by decide +kernel
theorem dX5_close_28 : decode cX5_close 28 = .ok (.aload_n 2, 1) := by decide +kernel
theorem dX5_close_29 : decode cX5_close 29 = .ok (.getfield 164, 3) := by decide +kernel
theorem dX5_close_32 : decode cX5_close 32 = .ok (.ireturn, 1) := by decide +kernel
set_option maxRecDepth 20000 in
theorem ggX5_export_X5_knownTopic : GoodIn wsX5_export wsX5_knownTopic := goodIn_ca (goodIn_r _ [6, 7, 8, 9, 10, 21, 22, 23, 24, 25, 26, 27, 28, 29, 30, 31] (by decide +kernel) (by decide +kernel)) (goodIn_sub (fun _ h => List.mem_cons_of_mem _ (List.mem_append_right _ h)) (by decide +kernel))
set_option maxRecDepth 20000 in
theorem gX5_export_X5_knownTopic : GoodIn wsX5_export (wsV RX5 111 RX5 yX5_knownTopic wsX5_knownTopic) := goodIn_app (goodIn_of _ (by decide +kernel)) ggX5_export_X5_knownTopic
set_option maxRecDepth 20000 in
theorem ggX5_export_X5_addToBundle : GoodIn wsX5_export wsX5_addToBundle := goodIn_r _ [14, 1, 15, 21, 22, 23, 24, 25, 26, 27, 28, 29, 30, 31] (by decide +kernel) (by decide +kernel)
set_option maxRecDepth 20000 in
theorem gX5_export_X5_addToBundle : GoodIn wsX5_export (wsV RX5 192 RX5 yX5_addToBundle wsX5_addToBundle) := goodIn_app (goodIn_of _ (by decide +kernel)) ggX5_export_X5_addToBundle
set_option maxRecDepth 20000 in
theorem ggX5_export_X5_addSignatureToBundle : GoodIn wsX5_export wsX5_addSignatureToBundle := goodIn_r _ [19, 20, 11, 12, 13, 5, 14, 1, 15, 32, 33, 34, 35, 36, 21, 22, 23, 24, 25, 26, 27, 28, 29, 30, 31, 37, 38, 39, 40, 41, 42] (by decide +kernel) (by decide +kernel)
set_option maxRecDepth 20000 in
theorem gX5_export_X5_addSignatureToBundle : GoodIn wsX5_export (wsV RX5 195 RX5 yX5_addSignatureToBundle wsX5_addSignatureToBundle) := goodIn_app (goodIn_of _ (by decide +kernel)) ggX5_export_X5_addSignatureToBundle
theorem dX5_export_0 : decode cX5_export 0 = .ok (.aload_n 0, 1) := by decide +kernel
theorem dX5_export_1 : decode cX5_export 1 = .ok (.iload_n 1, 1) := by decide +kernel
theorem dX5_export_2 : decode cX5_export 2 = .ok (.invokevirtual 111, 3) := by decide +kernel
theorem dX5_export_5 : decode cX5_export 5 = .ok (.astore_n 2, 1) := by decide +kernel
theorem dX5_export_6 : decode cX5_export 6 = .ok (.aload_n 0, 1) := by decide +kernel
theorem dX5_export_7 : decode cX5_export 7 = .ok (.iconst 0, 1) := by decide +kernel
theorem dX5_export_8 : decode cX5_export 8 = .ok (.putfield 46, 3) := by decide +kernel
theorem dX5_export_11 : decode cX5_export 11 = .ok (.aload_n 0, 1) := by decide +kernel
theorem dX5_export_12 : decode cX5_export 12 = .ok (.aload_n 2, 1) := by decide +kernel
theorem dX5_export_13 : decode cX5_export 13 = .ok (.getfield 131, 3) := by decide +kernel
theorem dX5_export_16 : decode cX5_export 16 = .ok (.invokevirtual 192, 3) := by decide +kernel
theorem dX5_export_19 : decode cX5_export 19 = .ok (.aload_n 0, 1) := by decide +kernel
theorem dX5_export_20 : decode cX5_export 20 = .ok (.aload_n 2, 1) := by decide +kernel
theorem dX5_export_21 : decode cX5_export 21 = .ok (.getfield 164, 3) := by decide +kernel
theorem dX5_export_24 : decode cX5_export 24 = .ok (.invokevirtual 192, 3) := by decide +kernel
theorem dX5_export_27 : decode cX5_export 27 = .ok (.iconst 0, 1) := by decide +kernel
theorem dX5_export_28 : decode cX5_export 28 = .ok (.istore_n 3, 1) := by decide +kernel
theorem dX5_export_29 : decode cX5_export 29 = .ok (.iload_n 3, 1) := by decide +kernel
theorem dX5_export_30 : decode cX5_export 30 = .ok (.aload_n 2, 1) := by decide +kernel
theorem dX5_export_31 : decode cX5_export 31 = .ok (.getfield 164, 3) := by decide +kernel
theorem dX5_export_34 : decode cX5_export 34 = .ok (.if_icmp .ge 15, 3) := by decide +kernel
theorem dX5_export_37 : decode cX5_export 37 = .ok (.aload_n 0, 1) := by decide +kernel
theorem dX5_export_38 : decode cX5_export 38 = .ok (.aload_n 2, 1) := by decide +kernel
theorem dX5_export_39 : decode cX5_export 39 = .ok (.iload_n 3, 1) := by decide +kernel
theorem dX5_export_40 : decode cX5_export 40 = .ok (.invokevirtual 195, 3) := by decide +kernel
theorem dX5_export_43 : decode cX5_export 43 = .ok (.iinc 3 1, 3) := by decide +kernel
theorem dX5_export_46 : decode cX5_export 46 = .ok (.goto (-17), 3) := by decide +kernel
theorem dX5_export_49 : decode cX5_export 49 = .ok (.aload_n 0, 1) := by decide +kernel
theorem dX5_export_50 : decode cX5_export 50 = .ok (.getfield 46, 3) := by decide +kernel
theorem dX5_export_53 : decode cX5_export 53 = .ok (.ireturn, 1) := by decide +kernel
theorem dX5_bundle_0 : decode cX5_bundle 0 = .ok (.iload_n 1, 1) := by decide +kernel
theorem dX5_bundle_1 : decode cX5_bundle 1 = .ok (.ifCond .lt 11, 3) := by decide +kernel
theorem dX5_bundle_4 : decode cX5_bundle 4 = .ok (.iload_n 1, 1) := by decide +kernel
theorem dX5_bundle_5 : decode cX5_bundle 5 = .ok (.aload_n 0, 1) := by decide +kernel
theorem dX5_bundle_6 : decode cX5_bundle 6 = .ok (.getfield 46, 3) := by decide +kernel
theorem dX5_bundle_9 : decode cX5_bundle 9 = .ok (.if_icmp .lt 13, 3) := by decide +kernel
theorem dX5_bundle_12 : decode cX5_bundle 12 = .ok (.new 147, 3) := by decide +kernel
theorem dX5_bundle_15 : decode cX5_bundle 15 = .ok (.dup, 1) := by decide +kernel
theorem dX5_bundle_16 : decode cX5_bundle 16 = .ok (.ldc 199, 2) := by decide +kernel
theorem dX5_bundle_18 : decode cX5_bundle 18 = .ok (.invokespecial 151, 3) := by decide +kernel
theorem dX5_bundle_21 : decode cX5_bundle 21 = .ok (.athrow, 1) := by decide +kernel
theorem dX5_bundle_22 : decode cX5_bundle 22 = .ok (.aload_n 0, 1) := by decide +kernel
theorem dX5_bundle_23 : decode cX5_bundle 23 = .ok (.getfield 42, 3) := by decide +kernel
theorem dX5_bundle_26 : decode cX5_bundle 26 = .ok (.iload_n 1, 1) := by decide +kernel
theorem dX5_bundle_27 : decode cX5_bundle 27 = .ok (.iaload, 1) := by decide +kernel
theorem dX5_bundle_28 : decode cX5_bundle 28 = .ok (.ireturn, 1) := by decide +kernel
set_option maxRecDepth 20000 in
theorem ggX5_poke_X5_addToBundle : GoodIn wsX5_poke wsX5_addToBundle := goodIn_r _ [9, 3, 4, 10, 11, 12, 13, 14, 15, 16, 17, 18, 19, 20] (by decide +kernel) (by decide +kernel)
set_option maxRecDepth 20000 in
theorem gX5_poke_X5_addToBundle : GoodIn wsX5_poke (wsV RX5 192 RX5 yX5_addToBundle wsX5_addToBundle) := goodIn_app (goodIn_of _ (by decide +kernel)) ggX5_poke_X5_addToBundle
theorem dX5_poke_0 : decode cX5_poke 0 = .ok (.iload_n 1, 1) := by decide +kernel
theorem dX5_poke_1 : decode cX5_poke 1 = .ok (.ifCond .lt 18, 3) := by decide +kernel
theorem dX5_poke_4 : decode cX5_poke 4 = .ok (.iload_n 1, 1) := by decide +kernel
theorem dX5_poke_5 : decode cX5_poke 5 = .ok (.aload_n 0, 1) := by decide +kernel
theorem dX5_poke_6 : decode cX5_poke 6 = .ok (.getfield 46, 3) := by decide +kernel
theorem dX5_poke_9 : decode cX5_poke 9 = .ok (.if_icmp .gt 10, 3) := by decide +kernel
theorem dX5_poke_12 : decode cX5_poke 12 = .ok (.iload_n 1, 1) := by decide +kernel
theorem dX5_poke_13 : decode cX5_poke 13 = .ok (.sipush 200, 3) := by decide +kernel
theorem dX5_poke_16 : decode cX5_poke 16 = .ok (.if_icmp .lt 13, 3) := by decide +kernel
theorem dX5_poke_19 : decode cX5_poke 19 = .ok (.new 147, 3) := by decide +kernel
theorem dX5_poke_22 : decode cX5_poke 22 = .ok (.dup, 1) := by decide +kernel
theorem dX5_poke_23 : decode cX5_poke 23 = .ok (.ldc 201, 2) := by decide +kernel
theorem dX5_poke_25 : decode cX5_poke 25 = .ok (.invokespecial 151, 3) := by decide +kernel
theorem dX5_poke_28 : decode cX5_poke 28 = .ok (.athrow, 1) := by decide +kernel
theorem dX5_poke_29 : decode cX5_poke 29 = .ok (.iload_n 1, 1) := by decide +kernel
theorem dX5_poke_30 : decode cX5_poke 30 = .ok (.aload_n 0, 1) := by decide +kernel
theorem dX5_poke_31 : decode cX5_poke 31 = .ok (.getfield 46, 3) := by decide +kernel
theorem dX5_poke_34 : decode cX5_poke 34 = .ok (.if_icmp .ne 11, 3) := by decide +kernel
theorem dX5_poke_37 : decode cX5_poke 37 = .ok (.aload_n 0, 1) := by decide +kernel
theorem dX5_poke_38 : decode cX5_poke 38 = .ok (.iload_n 2, 1) := by decide +kernel
theorem dX5_poke_39 : decode cX5_poke 39 = .ok (.invokevirtual 192, 3) := by decide +kernel
theorem dX5_poke_42 : decode cX5_poke 42 = .ok (.goto 10, 3) := by decide +kernel
theorem dX5_poke_45 : decode cX5_poke 45 = .ok (.aload_n 0, 1) := by decide +kernel
theorem dX5_poke_46 : decode cX5_poke 46 = .ok (.getfield 42, 3) := by decide +kernel
theorem dX5_poke_49 : decode cX5_poke 49 = .ok (.iload_n 1, 1) := by decide +kernel
theorem dX5_poke_50 : decode cX5_poke 50 = .ok (.iload_n 2, 1) := by decide +kernel
theorem dX5_poke_51 : decode cX5_poke 51 = .ok (.iastore, 1) := by decide +kernel
theorem dX5_poke_52 : decode cX5_poke 52 = .ok (.return_, 1) := by decide +kernel
theorem dX5_cut_0 : decode cX5_cut 0 = .ok (.iload_n 1, 1) := by decide +kernel
theorem dX5_cut_1 : decode cX5_cut 1 = .ok (.ifCond .lt 11, 3) := by decide +kernel
theorem dX5_cut_4 : decode cX5_cut 4 = .ok (.iload_n 1, 1) := by decide +kernel
theorem dX5_cut_5 : decode cX5_cut 5 = .ok (.aload_n 0, 1) := by decide +kernel
theorem dX5_cut_6 : decode cX5_cut 6 = .ok (.getfield 46, 3) := by decide +kernel
theorem dX5_cut_9 : decode cX5_cut 9 = .ok (.if_icmp .le 13, 3) := by decide +kernel
theorem dX5_cut_12 : decode cX5_cut 12 = .ok (.new 68, 3) := by decide +kernel
theorem dX5_cut_15 : decode cX5_cut 15 = .ok (.dup, 1) := by decide +kernel
theorem dX5_cut_16 : decode cX5_cut 16 = .ok (.ldc 203, 2) := by decide +kernel
theorem dX5_cut_18 : decode cX5_cut 18 = .ok (.invokespecial 72, 3) := by decide +kernel
theorem dX5_cut_21 : decode cX5_cut 21 = .ok (.athrow, 1) := by decide +kernel
theorem dX5_cut_22 : decode cX5_cut 22 = .ok (.aload_n 0, 1) := by decide +kernel
theorem dX5_cut_23 : decode cX5_cut 23 = .ok (.iload_n 1, 1) := by decide +kernel
theorem dX5_cut_24 : decode cX5_cut 24 = .ok (.putfield 46, 3) := by decide +kernel
theorem dX5_cut_27 : decode cX5_cut 27 = .ok (.return_, 1) := by decide +kernel
set_option maxRecDepth 20000 in
theorem ggX5_check_X5_endOfGoodSignatures : GoodIn wsX5_check wsX5_endOfGoodSignatures := goodIn_r _ [9, 4, 10, 11, 12, 13, 14, 15, 16, 17, 18, 19, 20, 21, 22, 23, 24, 25, 26, 27, 28, 8, 29, 3, 30, 31, 32, 33, 34, 35, 36, 37, 38, 39, 40, 41, 42, 43, 44, 45, 46, 47, 48, 49, 50, 51, 52, 53, 54, 55, 56, 57, 58, 59, 60, 61, 62, 63, 64, 65, 66, 67, 68, 69, 70, 71, 72, 73, 74, 75, 76, 77, 78, 79, 80, 81, 82, 83, 84, 85, 86, 87, 88, 89, 90, 91, 92, 93, 94, 95, 96, 97, 98, 99, 100, 101, 102, 103, 104, 105, 106, 107, 108, 109, 110, 111, 112, 113, 114, 115, 116, 117, 118, 119] (by decide +kernel) (by decide +kernel)
set_option maxRecDepth 20000 in
theorem gX5_check_X5_endOfGoodSignatures : GoodIn wsX5_check (wsV RX5 209 RX5 yX5_endOfGoodSignatures wsX5_endOfGoodSignatures) := goodIn_app (goodIn_of _ (by decide +kernel)) ggX5_check_X5_endOfGoodSignatures
theorem dX5_check_0 : decode cX5_check 0 = .ok (.aload_n 0, 1) := by decide +kernel
theorem dX5_check_1 : decode cX5_check 1 = .ok (.getfield 46, 3) := by decide +kernel
theorem dX5_check_4 : decode cX5_check 4 = .ok (.iconst 2, 1) := by decide +kernel
theorem dX5_check_5 : decode cX5_check 5 = .ok (.if_icmp .ge 13, 3) := by decide +kernel
theorem dX5_check_8 : decode cX5_check 8 = .ok (.new 68, 3) := by decide +kernel
theorem dX5_check_11 : decode cX5_check 11 = .ok (.dup, 1) := by decide +kernel
theorem dX5_check_12 : decode cX5_check 12 = .ok (.ldc 205, 2) := by decide +kernel
theorem dX5_check_14 : decode cX5_check 14 = .ok (.invokespecial 72, 3) := by decide +kernel
theorem dX5_check_17 : decode cX5_check 17 = .ok (.athrow, 1) := by decide +kernel
theorem dX5_check_18 : decode cX5_check 18 = .ok (.aload_n 0, 1) := by decide +kernel
theorem dX5_check_19 : decode cX5_check 19 = .ok (.getfield 42, 3) := by decide +kernel
theorem dX5_check_22 : decode cX5_check 22 = .ok (.iconst 1, 1) := by decide +kernel
theorem dX5_check_23 : decode cX5_check 23 = .ok (.iaload, 1) := by decide +kernel
theorem dX5_check_24 : decode cX5_check 24 = .ok (.istore_n 1, 1) := by decide +kernel
theorem dX5_check_25 : decode cX5_check 25 = .ok (.iload_n 1, 1) := by decide +kernel
theorem dX5_check_26 : decode cX5_check 26 = .ok (.ifCond .lt 9, 3) := by decide +kernel
theorem dX5_check_29 : decode cX5_check 29 = .ok (.iload_n 1, 1) := by decide +kernel
theorem dX5_check_30 : decode cX5_check 30 = .ok (.bipush 8, 2) := by decide +kernel
theorem dX5_check_32 : decode cX5_check 32 = .ok (.if_icmp .le 13, 3) := by decide +kernel
theorem dX5_check_35 : decode cX5_check 35 = .ok (.new 68, 3) := by decide +kernel
theorem dX5_check_38 : decode cX5_check 38 = .ok (.dup, 1) := by decide +kernel
theorem dX5_check_39 : decode cX5_check 39 = .ok (.ldc 207, 2) := by decide +kernel
theorem dX5_check_41 : decode cX5_check 41 = .ok (.invokespecial 72, 3) := by decide +kernel
theorem dX5_check_44 : decode cX5_check 44 = .ok (.athrow, 1) := by decide +kernel
theorem dX5_check_45 : decode cX5_check 45 = .ok (.aload_n 0, 1) := by decide +kernel
theorem dX5_check_46 : decode cX5_check 46 = .ok (.iload_n 1, 1) := by decide +kernel
theorem dX5_check_47 : decode cX5_check 47 = .ok (.invokevirtual 209, 3) := by decide +kernel
theorem dX5_check_50 : decode cX5_check 50 = .ok (.aload_n 0, 1) := by decide +kernel
theorem dX5_check_51 : decode cX5_check 51 = .ok (.getfield 46, 3) := by decide +kernel
theorem dX5_check_54 : decode cX5_check 54 = .ok (.if_icmp .eq 13, 3) := by decide +kernel
theorem dX5_check_57 : decode cX5_check 57 = .ok (.new 68, 3) := by decide +kernel
theorem dX5_check_60 : decode cX5_check 60 = .ok (.dup, 1) := by decide +kernel
theorem dX5_check_61 : decode cX5_check 61 = .ok (.ldc 213, 2) := by decide +kernel
theorem dX5_check_63 : decode cX5_check 63 = .ok (.invokespecial 72, 3) := by decide +kernel
theorem dX5_check_66 : decode cX5_check 66 = .ok (.athrow, 1) := by decide +kernel
theorem dX5_check_67 : decode cX5_check 67 = .ok (.iload_n 1, 1) := by decide +kernel
theorem dX5_check_68 : decode cX5_check 68 = .ok (.ireturn, 1) := by decide +kernel
theorem dX5_knownRing_0 : decode cX5_knownRing 0 = .ok (.iload_n 1, 1) := by decide +kernel
theorem dX5_knownRing_1 : decode cX5_knownRing 1 = .ok (.ifCond .lt 11, 3) := by decide +kernel
theorem dX5_knownRing_4 : decode cX5_knownRing 4 = .ok (.iload_n 1, 1) := by decide +kernel
theorem dX5_knownRing_5 : decode cX5_knownRing 5 = .ok (.aload_n 0, 1) := by decide +kernel
theorem dX5_knownRing_6 : decode cX5_knownRing 6 = .ok (.getfield 22, 3) := by decide +kernel
theorem dX5_knownRing_9 : decode cX5_knownRing 9 = .ok (.if_icmp .lt 13, 3) := by decide +kernel
theorem dX5_knownRing_12 : decode cX5_knownRing 12 = .ok (.new 68, 3) := by decide +kernel
theorem dX5_knownRing_15 : decode cX5_knownRing 15 = .ok (.dup, 1) := by decide +kernel
theorem dX5_knownRing_16 : decode cX5_knownRing 16 = .ok (.ldc 215, 2) := by decide +kernel
theorem dX5_knownRing_18 : decode cX5_knownRing 18 = .ok (.invokespecial 72, 3) := by decide +kernel
theorem dX5_knownRing_21 : decode cX5_knownRing 21 = .ok (.athrow, 1) := by decide +kernel
theorem dX5_knownRing_22 : decode cX5_knownRing 22 = .ok (.aload_n 0, 1) := by decide +kernel
theorem dX5_knownRing_23 : decode cX5_knownRing 23 = .ok (.getfield 18, 3) := by decide +kernel
theorem dX5_knownRing_26 : decode cX5_knownRing 26 = .ok (.iload_n 1, 1) := by decide +kernel
theorem dX5_knownRing_27 : decode cX5_knownRing 27 = .ok (.aaload, 1) := by decide +kernel
theorem dX5_knownRing_28 : decode cX5_knownRing 28 = .ok (.areturn, 1) := by decide +kernel
theorem dX5_knownTopic_0 : decode cX5_knownTopic 0 = .ok (.iload_n 1, 1) := by decide +kernel
theorem dX5_knownTopic_1 : decode cX5_knownTopic 1 = .ok (.ifCond .lt 11, 3) := by decide +kernel
theorem dX5_knownTopic_4 : decode cX5_knownTopic 4 = .ok (.iload_n 1, 1) := by decide +kernel
theorem dX5_knownTopic_5 : decode cX5_knownTopic 5 = .ok (.aload_n 0, 1) := by decide +kernel
theorem dX5_knownTopic_6 : decode cX5_knownTopic 6 = .ok (.getfield 32, 3) := by decide +kernel
theorem dX5_knownTopic_9 : decode cX5_knownTopic 9 = .ok (.if_icmp .lt 13, 3) := by decide +kernel
theorem dX5_knownTopic_12 : decode cX5_knownTopic 12 = .ok (.new 68, 3) := by decide +kernel
theorem dX5_knownTopic_15 : decode cX5_knownTopic 15 = .ok (.dup, 1) := by decide +kernel
theorem dX5_knownTopic_16 : decode cX5_knownTopic 16 = .ok (.ldc 217, 2) := by decide +kernel
theorem dX5_knownTopic_18 : decode cX5_knownTopic 18 = .ok (.invokespecial 72, 3) := by decide +kernel
theorem dX5_knownTopic_21 : decode cX5_knownTopic 21 = .ok (.athrow, 1) := by decide +kernel
theorem dX5_knownTopic_22 : decode cX5_knownTopic 22 = .ok (.aload_n 0, 1) := by decide +kernel
theorem dX5_knownTopic_23 : decode cX5_knownTopic 23 = .ok (.getfield 28, 3) := by decide +kernel
theorem dX5_knownTopic_26 : decode cX5_knownTopic 26 = .ok (.iload_n 1, 1) := by decide +kernel
theorem dX5_knownTopic_27 : decode cX5_knownTopic 27 = .ok (.aaload, 1) := by decide +kernel
theorem dX5_knownTopic_28 : decode cX5_knownTopic 28 = .ok (.areturn, 1) := by decide +kernel
set_option maxRecDepth 20000 in
theorem ggX5_isChoiceForRing_J6_bitCount_0f7a4 : GoodIn wsX5_isChoiceForRing wsJ6_bitCount_0f7a4 := goodIn_r _ [5, 6, 7, 8] (by decide +kernel) (by decide +kernel)
set_option maxRecDepth 20000 in
theorem gX5_isChoiceForRing_J6_bitCount_0f7a4 : GoodIn wsX5_isChoiceForRing (va_wsS RX5 219 yJ6_bitCount_0f7a4 wsJ6_bitCount_0f7a4) := goodIn_app (goodIn_of _ (by decide +kernel)) ggX5_isChoiceForRing_J6_bitCount_0f7a4
theorem dX5_isChoiceForRing_0 : decode cX5_isChoiceForRing 0 = .ok (.iload_n 1, 1) := by decide +kernel
theorem dX5_isChoiceForRing_1 : decode cX5_isChoiceForRing 1 = .ok (.invokestatic 219, 3) := by decide +kernel
theorem dX5_isChoiceForRing_4 : decode cX5_isChoiceForRing 4 = .ok (.istore_n 2, 1) := by decide +kernel
theorem dX5_isChoiceForRing_5 : decode cX5_isChoiceForRing 5 = .ok (.iload_n 2, 1) := by decide +kernel
theorem dX5_isChoiceForRing_6 : decode cX5_isChoiceForRing 6 = .ok (.iconst 2, 1) := by decide +kernel
theorem dX5_isChoiceForRing_7 : decode cX5_isChoiceForRing 7 = .ok (.if_icmp .lt 25, 3) := by decide +kernel
theorem dX5_isChoiceForRing_10 : decode cX5_isChoiceForRing 10 = .ok (.iload_n 2, 1) := by decide +kernel
theorem dX5_isChoiceForRing_11 : decode cX5_isChoiceForRing 11 = .ok (.bipush 6, 2) := by decide +kernel
theorem dX5_isChoiceForRing_13 : decode cX5_isChoiceForRing 13 = .ok (.if_icmp .gt 19, 3) := by decide +kernel
theorem dX5_isChoiceForRing_16 : decode cX5_isChoiceForRing 16 = .ok (.iload_n 1, 1) := by decide +kernel
theorem dX5_isChoiceForRing_17 : decode cX5_isChoiceForRing 17 = .ok (.aload_n 0, 1) := by decide +kernel
theorem dX5_isChoiceForRing_18 : decode cX5_isChoiceForRing 18 = .ok (.getfield 14, 3) := by decide +kernel
theorem dX5_isChoiceForRing_21 : decode cX5_isChoiceForRing 21 = .ok (.getfield 75, 3) := by decide +kernel
theorem dX5_isChoiceForRing_24 : decode cX5_isChoiceForRing 24 = .ok (.iushr, 1) := by decide +kernel
theorem dX5_isChoiceForRing_25 : decode cX5_isChoiceForRing 25 = .ok (.ifCond .ne 7, 3) := by decide +kernel
theorem dX5_isChoiceForRing_28 : decode cX5_isChoiceForRing 28 = .ok (.iconst 1, 1) := by decide +kernel
theorem dX5_isChoiceForRing_29 : decode cX5_isChoiceForRing 29 = .ok (.goto 4, 3) := by decide +kernel
theorem dX5_isChoiceForRing_32 : decode cX5_isChoiceForRing 32 = .ok (.iconst 0, 1) := by decide +kernel
theorem dX5_isChoiceForRing_33 : decode cX5_isChoiceForRing 33 = .ok (.ireturn, 1) := by decide +kernel
set_option maxRecDepth 20000 in
theorem ggX5_fillRing_X1_add : GoodIn wsX5_fillRing wsX1_add := goodIn_r _ [6, 7, 8, 20, 21] (by decide +kernel) (by decide +kernel)
set_option maxRecDepth 20000 in
theorem gX5_fillRing_X1_add : GoodIn wsX5_fillRing (wsV RX5 83 RX1 yX1_add wsX1_add) := goodIn_app (goodIn_of _ (by decide +kernel)) ggX5_fillRing_X1_add
theorem dX5_fillRing_0 : decode cX5_fillRing 0 = .ok (.iconst 0, 1) := by decide +kernel
theorem dX5_fillRing_1 : decode cX5_fillRing 1 = .ok (.istore_n 3, 1) := by decide +kernel
theorem dX5_fillRing_2 : decode cX5_fillRing 2 = .ok (.iload_n 3, 1) := by decide +kernel
theorem dX5_fillRing_3 : decode cX5_fillRing 3 = .ok (.aload_n 0, 1) := by decide +kernel
theorem dX5_fillRing_4 : decode cX5_fillRing 4 = .ok (.getfield 14, 3) := by decide +kernel
theorem dX5_fillRing_7 : decode cX5_fillRing 7 = .ok (.getfield 75, 3) := by decide +kernel
theorem dX5_fillRing_10 : decode cX5_fillRing 10 = .ok (.if_icmp .ge 31, 3) := by decide +kernel
theorem dX5_fillRing_13 : decode cX5_fillRing 13 = .ok (.iload_n 2, 1) := by decide +kernel
theorem dX5_fillRing_14 : decode cX5_fillRing 14 = .ok (.iload_n 3, 1) := by decide +kernel
theorem dX5_fillRing_15 : decode cX5_fillRing 15 = .ok (.iushr, 1) := by decide +kernel
theorem dX5_fillRing_16 : decode cX5_fillRing 16 = .ok (.iconst 1, 1) := by decide +kernel
theorem dX5_fillRing_17 : decode cX5_fillRing 17 = .ok (.iand, 1) := by decide +kernel
theorem dX5_fillRing_18 : decode cX5_fillRing 18 = .ok (.iconst 1, 1) := by decide +kernel
theorem dX5_fillRing_19 : decode cX5_fillRing 19 = .ok (.if_icmp .ne 16, 3) := by decide +kernel
theorem dX5_fillRing_22 : decode cX5_fillRing 22 = .ok (.aload_n 1, 1) := by decide +kernel
theorem dX5_fillRing_23 : decode cX5_fillRing 23 = .ok (.aload_n 0, 1) := by decide +kernel
theorem dX5_fillRing_24 : decode cX5_fillRing 24 = .ok (.getfield 14, 3) := by decide +kernel
theorem dX5_fillRing_27 : decode cX5_fillRing 27 = .ok (.getfield 124, 3) := by decide +kernel
theorem dX5_fillRing_30 : decode cX5_fillRing 30 = .ok (.iload_n 3, 1) := by decide +kernel
theorem dX5_fillRing_31 : decode cX5_fillRing 31 = .ok (.iaload, 1) := by decide +kernel
theorem dX5_fillRing_32 : decode cX5_fillRing 32 = .ok (.invokevirtual 83, 3) := by decide +kernel
theorem dX5_fillRing_35 : decode cX5_fillRing 35 = .ok (.iinc 3 1, 3) := by decide +kernel
theorem dX5_fillRing_38 : decode cX5_fillRing 38 = .ok (.goto (-36), 3) := by decide +kernel
theorem dX5_fillRing_41 : decode cX5_fillRing 41 = .ok (.return_, 1) := by decide +kernel
set_option maxRecDepth 20000 in
theorem ggX5_isStoredWell_X0_init : GoodIn wsX5_isStoredWell wsX0_init := goodIn_r _ [7, 8, 9, 10, 11, 12, 13, 14, 65, 66, 67, 68] (by decide +kernel) (by decide +kernel)
set_option maxRecDepth 20000 in
theorem gX5_isStoredWell_X0_init : GoodIn wsX5_isStoredWell (wsX0_init) := ggX5_isStoredWell_X0_init
set_option maxRecDepth 20000 in
theorem ggX5_isStoredWell_X0_isProvedBy : GoodIn wsX5_isStoredWell wsX0_isProvedBy := goodIn_r _ [18, 11, 19, 20, 21, 3, 22, 23, 24, 25, 26, 27, 28, 29, 30, 31, 32, 33, 34, 35, 36, 12, 14, 37, 38, 39, 40, 41, 42, 43, 44, 13, 45, 46, 47, 48, 49, 50, 51, 52, 80, 81, 82, 83, 65, 66, 67, 68, 84, 85] (by decide +kernel) (by decide +kernel)
set_option maxRecDepth 20000 in
theorem gX5_isStoredWell_X0_isProvedBy : GoodIn wsX5_isStoredWell (wsV RX5 158 RX0 yX0_isProvedBy wsX0_isProvedBy) := goodIn_app (goodIn_of _ (by decide +kernel)) ggX5_isStoredWell_X0_isProvedBy
set_option maxRecDepth 20000 in
theorem ggX5_isStoredWell_X4_hasAmongFirst : GoodIn wsX5_isStoredWell wsX4_hasAmongFirst := goodIn_r _ [57, 58, 59, 60, 61, 62, 63, 64, 80, 81, 82, 83] (by decide +kernel) (by decide +kernel)
set_option maxRecDepth 20000 in
theorem gX5_isStoredWell_X4_hasAmongFirst : GoodIn wsX5_isStoredWell (wsV RX5 167 RX4 yX4_hasAmongFirst wsX4_hasAmongFirst) := goodIn_app (goodIn_of _ (by decide +kernel)) ggX5_isStoredWell_X4_hasAmongFirst
theorem dX5_isStoredWell_0 : decode cX5_isStoredWell 0 = .ok (.aload_n 1, 1) := by decide +kernel
theorem dX5_isStoredWell_1 : decode cX5_isStoredWell 1 = .ok (.getfield 186, 3) := by decide +kernel
theorem dX5_isStoredWell_4 : decode cX5_isStoredWell 4 = .ok (.iload_n 2, 1) := by decide +kernel
theorem dX5_isStoredWell_5 : decode cX5_isStoredWell 5 = .ok (.aaload, 1) := by decide +kernel
theorem dX5_isStoredWell_6 : decode cX5_isStoredWell 6 = .ok (.astore_n 3, 1) := by decide +kernel
theorem dX5_isStoredWell_7 : decode cX5_isStoredWell 7 = .ok (.new 129, 3) := by decide +kernel
theorem dX5_isStoredWell_10 : decode cX5_isStoredWell 10 = .ok (.dup, 1) := by decide +kernel
theorem dX5_isStoredWell_11 : decode cX5_isStoredWell 11 = .ok (.aload_n 0, 1) := by decide +kernel
theorem dX5_isStoredWell_12 : decode cX5_isStoredWell 12 = .ok (.getfield 18, 3) := by decide +kernel
theorem dX5_isStoredWell_15 : decode cX5_isStoredWell 15 = .ok (.aload_n 3, 1) := by decide +kernel
theorem dX5_isStoredWell_16 : decode cX5_isStoredWell 16 = .ok (.getfield 224, 3) := by decide +kernel
theorem dX5_isStoredWell_19 : decode cX5_isStoredWell 19 = .ok (.aaload, 1) := by decide +kernel
theorem dX5_isStoredWell_20 : decode cX5_isStoredWell 20 = .ok (.aload_n 1, 1) := by decide +kernel
theorem dX5_isStoredWell_21 : decode cX5_isStoredWell 21 = .ok (.getfield 131, 3) := by decide +kernel
theorem dX5_isStoredWell_24 : decode cX5_isStoredWell 24 = .ok (.aload_n 1, 1) := by decide +kernel
theorem dX5_isStoredWell_25 : decode cX5_isStoredWell 25 = .ok (.getfield 115, 3) := by decide +kernel
theorem dX5_isStoredWell_28 : decode cX5_isStoredWell 28 = .ok (.aload_n 3, 1) := by decide +kernel
theorem dX5_isStoredWell_29 : decode cX5_isStoredWell 29 = .ok (.getfield 227, 3) := by decide +kernel
theorem dX5_isStoredWell_32 : decode cX5_isStoredWell 32 = .ok (.invokespecial 134, 3) := by decide +kernel
theorem dX5_isStoredWell_35 : decode cX5_isStoredWell 35 = .ok (.astore 4, 2) := by decide +kernel
theorem dX5_isStoredWell_37 : decode cX5_isStoredWell 37 = .ok (.aload 4, 2) := by decide +kernel
theorem dX5_isStoredWell_39 : decode cX5_isStoredWell 39 = .ok (.aload_n 3, 1) := by decide +kernel
theorem dX5_isStoredWell_40 : decode cX5_isStoredWell 40 = .ok (.invokevirtual 158, 3) := by decide +kernel
theorem dX5_isStoredWell_43 : decode cX5_isStoredWell 43 = .ok (.ifCond .eq 21, 3) := by decide +kernel
theorem dX5_isStoredWell_46 : decode cX5_isStoredWell 46 = .ok (.aload_n 1, 1) := by decide +kernel
theorem dX5_isStoredWell_47 : decode cX5_isStoredWell 47 = .ok (.iload_n 2, 1) := by decide +kernel
theorem dX5_isStoredWell_48 : decode cX5_isStoredWell 48 = .ok (.aload_n 3, 1) := by decide +kernel
theorem dX5_isStoredWell_49 : decode cX5_isStoredWell 49 = .ok (.getfield 141, 3) := by decide +kernel
theorem dX5_isStoredWell_52 : decode cX5_isStoredWell 52 = .ok (.iconst 1, 1) := by decide +kernel
theorem dX5_isStoredWell_53 : decode cX5_isStoredWell 53 = .ok (.iaload, 1) := by decide +kernel
theorem dX5_isStoredWell_54 : decode cX5_isStoredWell 54 = .ok (.invokevirtual 167, 3) := by decide +kernel
theorem dX5_isStoredWell_57 : decode cX5_isStoredWell 57 = .ok (.ifCond .ne 7, 3) := by decide +kernel
theorem dX5_isStoredWell_60 : decode cX5_isStoredWell 60 = .ok (.iconst 1, 1) := by decide +kernel
theorem dX5_isStoredWell_61 : decode cX5_isStoredWell 61 = .ok (.goto 4, 3) := by decide +kernel
theorem dX5_isStoredWell_64 : decode cX5_isStoredWell 64 = .ok (.iconst 0, 1) := by decide +kernel
theorem dX5_isStoredWell_65 : decode cX5_isStoredWell 65 = .ok (.ireturn, 1) := by decide +kernel
theorem dX5_addToBundle_0 : decode cX5_addToBundle 0 = .ok (.aload_n 0, 1) := by decide +kernel
theorem dX5_addToBundle_1 : decode cX5_addToBundle 1 = .ok (.getfield 46, 3) := by decide +kernel
theorem dX5_addToBundle_4 : decode cX5_addToBundle 4 = .ok (.sipush 200, 3) := by decide +kernel
theorem dX5_addToBundle_7 : decode cX5_addToBundle 7 = .ok (.if_icmp .ge 23, 3) := by decide +kernel
theorem dX5_addToBundle_10 : decode cX5_addToBundle 10 = .ok (.aload_n 0, 1) := by decide +kernel
theorem dX5_addToBundle_11 : decode cX5_addToBundle 11 = .ok (.getfield 42, 3) := by decide +kernel
theorem dX5_addToBundle_14 : decode cX5_addToBundle 14 = .ok (.aload_n 0, 1) := by decide +kernel
theorem dX5_addToBundle_15 : decode cX5_addToBundle 15 = .ok (.getfield 46, 3) := by decide +kernel
theorem dX5_addToBundle_18 : decode cX5_addToBundle 18 = .ok (.iload_n 1, 1) := by decide +kernel
theorem dX5_addToBundle_19 : decode cX5_addToBundle 19 = .ok (.iastore, 1) := by decide +kernel
theorem dX5_addToBundle_20 : decode cX5_addToBundle 20 = .ok (.aload_n 0, 1) := by decide +kernel
theorem dX5_addToBundle_21 : decode cX5_addToBundle 21 = .ok (.dup, 1) := by decide +kernel
theorem dX5_addToBundle_22 : decode cX5_addToBundle 22 = .ok (.getfield 46, 3) := by decide +kernel
theorem dX5_addToBundle_25 : decode cX5_addToBundle 25 = .ok (.iconst 1, 1) := by decide +kernel
theorem dX5_addToBundle_26 : decode cX5_addToBundle 26 = .ok (.iadd, 1) := by decide +kernel
theorem dX5_addToBundle_27 : decode cX5_addToBundle 27 = .ok (.putfield 46, 3) := by decide +kernel
theorem dX5_addToBundle_30 : decode cX5_addToBundle 30 = .ok (.return_, 1) := by decide +kernel
set_option maxRecDepth 20000 in
theorem ggX5_addSignatureToBundle_X5_addToBundle : GoodIn wsX5_addSignatureToBundle wsX5_addToBundle := goodIn_r _ [6, 7, 8, 14, 15, 16, 17, 18, 19, 20, 21, 22, 23, 24] (by decide +kernel) (by decide +kernel)
set_option maxRecDepth 20000 in
theorem gX5_addSignatureToBundle_X5_addToBundle : GoodIn wsX5_addSignatureToBundle (wsV RX5 192 RX5 yX5_addToBundle wsX5_addToBundle) := goodIn_app (goodIn_of _ (by decide +kernel)) ggX5_addSignatureToBundle_X5_addToBundle
theorem dX5_addSignatureToBundle_0 : decode cX5_addSignatureToBundle 0 = .ok (.aload_n 1, 1) := by decide +kernel
theorem dX5_addSignatureToBundle_1 : decode cX5_addSignatureToBundle 1 = .ok (.getfield 186, 3) := by decide +kernel
theorem dX5_addSignatureToBundle_4 : decode cX5_addSignatureToBundle 4 = .ok (.iload_n 2, 1) := by decide +kernel
theorem dX5_addSignatureToBundle_5 : decode cX5_addSignatureToBundle 5 = .ok (.aaload, 1) := by decide +kernel
theorem dX5_addSignatureToBundle_6 : decode cX5_addSignatureToBundle 6 = .ok (.astore_n 3, 1) := by decide +kernel
theorem dX5_addSignatureToBundle_7 : decode cX5_addSignatureToBundle 7 = .ok (.aload_n 0, 1) := by decide +kernel
theorem dX5_addSignatureToBundle_8 : decode cX5_addSignatureToBundle 8 = .ok (.getfield 18, 3) := by decide +kernel
theorem dX5_addSignatureToBundle_11 : decode cX5_addSignatureToBundle 11 = .ok (.aload_n 3, 1) := by decide +kernel
theorem dX5_addSignatureToBundle_12 : decode cX5_addSignatureToBundle 12 = .ok (.getfield 224, 3) := by decide +kernel
theorem dX5_addSignatureToBundle_15 : decode cX5_addSignatureToBundle 15 = .ok (.aaload, 1) := by decide +kernel
theorem dX5_addSignatureToBundle_16 : decode cX5_addSignatureToBundle 16 = .ok (.astore 4, 2) := by decide +kernel
theorem dX5_addSignatureToBundle_18 : decode cX5_addSignatureToBundle 18 = .ok (.aload_n 0, 1) := by decide +kernel
theorem dX5_addSignatureToBundle_19 : decode cX5_addSignatureToBundle 19 = .ok (.aload 4, 2) := by decide +kernel
theorem dX5_addSignatureToBundle_21 : decode cX5_addSignatureToBundle 21 = .ok (.getfield 75, 3) := by decide +kernel
theorem dX5_addSignatureToBundle_24 : decode cX5_addSignatureToBundle 24 = .ok (.invokevirtual 192, 3) := by decide +kernel
theorem dX5_addSignatureToBundle_27 : decode cX5_addSignatureToBundle 27 = .ok (.iconst 0, 1) := by decide +kernel
theorem dX5_addSignatureToBundle_28 : decode cX5_addSignatureToBundle 28 = .ok (.istore 5, 2) := by decide +kernel
theorem dX5_addSignatureToBundle_30 : decode cX5_addSignatureToBundle 30 = .ok (.iload 5, 2) := by decide +kernel
theorem dX5_addSignatureToBundle_32 : decode cX5_addSignatureToBundle 32 = .ok (.aload 4, 2) := by decide +kernel
theorem dX5_addSignatureToBundle_34 : decode cX5_addSignatureToBundle 34 = .ok (.getfield 75, 3) := by decide +kernel
theorem dX5_addSignatureToBundle_37 : decode cX5_addSignatureToBundle 37 = .ok (.if_icmp .ge 21, 3) := by decide +kernel
theorem dX5_addSignatureToBundle_40 : decode cX5_addSignatureToBundle 40 = .ok (.aload_n 0, 1) := by decide +kernel
theorem dX5_addSignatureToBundle_41 : decode cX5_addSignatureToBundle 41 = .ok (.aload 4, 2) := by decide +kernel
theorem dX5_addSignatureToBundle_43 : decode cX5_addSignatureToBundle 43 = .ok (.getfield 124, 3) := by decide +kernel
theorem dX5_addSignatureToBundle_46 : decode cX5_addSignatureToBundle 46 = .ok (.iload 5, 2) := by decide +kernel
theorem dX5_addSignatureToBundle_48 : decode cX5_addSignatureToBundle 48 = .ok (.iaload, 1) := by decide +kernel
theorem dX5_addSignatureToBundle_49 : decode cX5_addSignatureToBundle 49 = .ok (.invokevirtual 192, 3) := by decide +kernel
theorem dX5_addSignatureToBundle_52 : decode cX5_addSignatureToBundle 52 = .ok (.iinc 5 1, 3) := by decide +kernel
theorem dX5_addSignatureToBundle_55 : decode cX5_addSignatureToBundle 55 = .ok (.goto (-25), 3) := by decide +kernel
theorem dX5_addSignatureToBundle_58 : decode cX5_addSignatureToBundle 58 = .ok (.aload_n 0, 1) := by decide +kernel
theorem dX5_addSignatureToBundle_59 : decode cX5_addSignatureToBundle 59 = .ok (.aload_n 3, 1) := by decide +kernel
theorem dX5_addSignatureToBundle_60 : decode cX5_addSignatureToBundle 60 = .ok (.getfield 227, 3) := by decide +kernel
theorem dX5_addSignatureToBundle_63 : decode cX5_addSignatureToBundle 63 = .ok (.invokevirtual 192, 3) := by decide +kernel
theorem dX5_addSignatureToBundle_66 : decode cX5_addSignatureToBundle 66 = .ok (.iconst 0, 1) := by decide +kernel
theorem dX5_addSignatureToBundle_67 : decode cX5_addSignatureToBundle 67 = .ok (.istore 5, 2) := by decide +kernel
theorem dX5_addSignatureToBundle_69 : decode cX5_addSignatureToBundle 69 = .ok (.iload 5, 2) := by decide +kernel
theorem dX5_addSignatureToBundle_71 : decode cX5_addSignatureToBundle 71 = .ok (.aload_n 3, 1) := by decide +kernel
theorem dX5_addSignatureToBundle_72 : decode cX5_addSignatureToBundle 72 = .ok (.getfield 230, 3) := by decide +kernel
theorem dX5_addSignatureToBundle_75 : decode cX5_addSignatureToBundle 75 = .ok (.if_icmp .ge 20, 3) := by decide +kernel
theorem dX5_addSignatureToBundle_78 : decode cX5_addSignatureToBundle 78 = .ok (.aload_n 0, 1) := by decide +kernel
theorem dX5_addSignatureToBundle_79 : decode cX5_addSignatureToBundle 79 = .ok (.aload_n 3, 1) := by decide +kernel
theorem dX5_addSignatureToBundle_80 : decode cX5_addSignatureToBundle 80 = .ok (.getfield 141, 3) := by decide +kernel
theorem dX5_addSignatureToBundle_83 : decode cX5_addSignatureToBundle 83 = .ok (.iload 5, 2) := by decide +kernel
theorem dX5_addSignatureToBundle_85 : decode cX5_addSignatureToBundle 85 = .ok (.iaload, 1) := by decide +kernel
theorem dX5_addSignatureToBundle_86 : decode cX5_addSignatureToBundle 86 = .ok (.invokevirtual 192, 3) := by decide +kernel
theorem dX5_addSignatureToBundle_89 : decode cX5_addSignatureToBundle 89 = .ok (.iinc 5 1, 3) := by decide +kernel
theorem dX5_addSignatureToBundle_92 : decode cX5_addSignatureToBundle 92 = .ok (.goto (-23), 3) := by decide +kernel
theorem dX5_addSignatureToBundle_95 : decode cX5_addSignatureToBundle 95 = .ok (.return_, 1) := by decide +kernel
set_option maxRecDepth 20000 in
theorem ggX5_endOfGoodSignatures_X2_topicBase : GoodIn wsX5_endOfGoodSignatures wsX2_topicBase := goodIn_r _ [7, 8, 9, 6, 10, 11, 12, 13, 14, 15, 16, 17] (by decide +kernel) (by decide +kernel)
set_option maxRecDepth 20000 in
theorem gX5_endOfGoodSignatures_X2_topicBase : GoodIn wsX5_endOfGoodSignatures (va_wsS RX5 231 yX2_topicBase wsX2_topicBase) := goodIn_app (goodIn_of _ (by decide +kernel)) ggX5_endOfGoodSignatures_X2_topicBase
set_option maxRecDepth 20000 in
theorem ggX5_endOfGoodSignatures_X5_endOfGoodSignature : GoodIn wsX5_endOfGoodSignatures wsX5_endOfGoodSignature := goodIn_r _ [22, 23, 1, 2, 24, 25, 26, 27, 28, 29, 30, 21, 31, 32, 13, 6, 14, 15, 16, 17, 33, 34, 35, 36, 37, 38, 39, 40, 41, 42, 43, 44, 45, 46, 47, 48, 49, 50, 51, 52, 53, 54, 55, 56, 57, 58, 59, 60, 61, 62, 63, 64, 65, 66, 67, 68, 69, 70, 71, 72, 73, 74, 75, 76, 77, 78, 79, 9, 10, 11, 80, 81, 82, 83, 84, 85, 86, 87, 88, 89, 90, 91, 93, 94, 95, 96, 97, 98, 99, 100, 101, 102, 103, 104, 105, 106, 107, 108, 109, 110, 111, 112, 113] (by decide +kernel) (by decide +kernel)
set_option maxRecDepth 20000 in
theorem gX5_endOfGoodSignatures_X5_endOfGoodSignature : GoodIn wsX5_endOfGoodSignatures (wsV RX5 233 RX5 yX5_endOfGoodSignature wsX5_endOfGoodSignature) := goodIn_app (goodIn_of _ (by decide +kernel)) ggX5_endOfGoodSignatures_X5_endOfGoodSignature
set_option maxRecDepth 20000 in
theorem ggX5_endOfGoodSignatures_X2_isAmongFirst : GoodIn wsX5_endOfGoodSignatures wsX2_isAmongFirst := goodIn_r _ [42] (by decide +kernel) (by decide +kernel)
set_option maxRecDepth 20000 in
theorem gX5_endOfGoodSignatures_X2_isAmongFirst : GoodIn wsX5_endOfGoodSignatures (va_wsS RX5 236 yX2_isAmongFirst wsX2_isAmongFirst) := goodIn_app (goodIn_of _ (by decide +kernel)) ggX5_endOfGoodSignatures_X2_isAmongFirst
theorem dX5_endOfGoodSignatures_0 : decode cX5_endOfGoodSignatures 0 = .ok (.aload_n 0, 1) := by decide +kernel
theorem dX5_endOfGoodSignatures_1 : decode cX5_endOfGoodSignatures 1 = .ok (.getfield 42, 3) := by decide +kernel
theorem dX5_endOfGoodSignatures_4 : decode cX5_endOfGoodSignatures 4 = .ok (.iconst 0, 1) := by decide +kernel
theorem dX5_endOfGoodSignatures_5 : decode cX5_endOfGoodSignatures 5 = .ok (.iaload, 1) := by decide +kernel
theorem dX5_endOfGoodSignatures_6 : decode cX5_endOfGoodSignatures 6 = .ok (.invokestatic 231, 3) := by decide +kernel
theorem dX5_endOfGoodSignatures_9 : decode cX5_endOfGoodSignatures 9 = .ok (.istore_n 2, 1) := by decide +kernel
theorem dX5_endOfGoodSignatures_10 : decode cX5_endOfGoodSignatures 10 = .ok (.iconst 2, 1) := by decide +kernel
theorem dX5_endOfGoodSignatures_11 : decode cX5_endOfGoodSignatures 11 = .ok (.istore_n 3, 1) := by decide +kernel
theorem dX5_endOfGoodSignatures_12 : decode cX5_endOfGoodSignatures 12 = .ok (.iconst 0, 1) := by decide +kernel
theorem dX5_endOfGoodSignatures_13 : decode cX5_endOfGoodSignatures 13 = .ok (.istore 4, 2) := by decide +kernel
theorem dX5_endOfGoodSignatures_15 : decode cX5_endOfGoodSignatures 15 = .ok (.iload 4, 2) := by decide +kernel
theorem dX5_endOfGoodSignatures_17 : decode cX5_endOfGoodSignatures 17 = .ok (.iload_n 1, 1) := by decide +kernel
theorem dX5_endOfGoodSignatures_18 : decode cX5_endOfGoodSignatures 18 = .ok (.if_icmp .ge 57, 3) := by decide +kernel
theorem dX5_endOfGoodSignatures_21 : decode cX5_endOfGoodSignatures 21 = .ok (.aload_n 0, 1) := by decide +kernel
theorem dX5_endOfGoodSignatures_22 : decode cX5_endOfGoodSignatures 22 = .ok (.iload_n 3, 1) := by decide +kernel
theorem dX5_endOfGoodSignatures_23 : decode cX5_endOfGoodSignatures 23 = .ok (.iload_n 2, 1) := by decide +kernel
theorem dX5_endOfGoodSignatures_24 : decode cX5_endOfGoodSignatures 24 = .ok (.invokevirtual 233, 3) := by decide +kernel
theorem dX5_endOfGoodSignatures_27 : decode cX5_endOfGoodSignatures 27 = .ok (.istore_n 3, 1) := by decide +kernel
theorem dX5_endOfGoodSignatures_28 : decode cX5_endOfGoodSignatures 28 = .ok (.aload_n 0, 1) := by decide +kernel
theorem dX5_endOfGoodSignatures_29 : decode cX5_endOfGoodSignatures 29 = .ok (.getfield 52, 3) := by decide +kernel
theorem dX5_endOfGoodSignatures_32 : decode cX5_endOfGoodSignatures 32 = .ok (.getfield 141, 3) := by decide +kernel
theorem dX5_endOfGoodSignatures_35 : decode cX5_endOfGoodSignatures 35 = .ok (.iconst 1, 1) := by decide +kernel
theorem dX5_endOfGoodSignatures_36 : decode cX5_endOfGoodSignatures 36 = .ok (.iaload, 1) := by decide +kernel
theorem dX5_endOfGoodSignatures_37 : decode cX5_endOfGoodSignatures 37 = .ok (.istore 5, 2) := by decide +kernel
theorem dX5_endOfGoodSignatures_39 : decode cX5_endOfGoodSignatures 39 = .ok (.iload_n 3, 1) := by decide +kernel
theorem dX5_endOfGoodSignatures_40 : decode cX5_endOfGoodSignatures 40 = .ok (.iconst (-1), 1) := by decide +kernel
theorem dX5_endOfGoodSignatures_41 : decode cX5_endOfGoodSignatures 41 = .ok (.if_icmp .eq 17, 3) := by decide +kernel
theorem dX5_endOfGoodSignatures_44 : decode cX5_endOfGoodSignatures 44 = .ok (.iload 4, 2) := by decide +kernel
theorem dX5_endOfGoodSignatures_46 : decode cX5_endOfGoodSignatures 46 = .ok (.aload_n 0, 1) := by decide +kernel
theorem dX5_endOfGoodSignatures_47 : decode cX5_endOfGoodSignatures 47 = .ok (.getfield 55, 3) := by decide +kernel
theorem dX5_endOfGoodSignatures_50 : decode cX5_endOfGoodSignatures 50 = .ok (.iload 5, 2) := by decide +kernel
theorem dX5_endOfGoodSignatures_52 : decode cX5_endOfGoodSignatures 52 = .ok (.invokestatic 236, 3) := by decide +kernel
theorem dX5_endOfGoodSignatures_55 : decode cX5_endOfGoodSignatures 55 = .ok (.ifCond .eq 5, 3) := by decide +kernel
theorem dX5_endOfGoodSignatures_58 : decode cX5_endOfGoodSignatures 58 = .ok (.iconst (-1), 1) := by decide +kernel
theorem dX5_endOfGoodSignatures_59 : decode cX5_endOfGoodSignatures 59 = .ok (.ireturn, 1) := by decide +kernel
theorem dX5_endOfGoodSignatures_60 : decode cX5_endOfGoodSignatures 60 = .ok (.aload_n 0, 1) := by decide +kernel
theorem dX5_endOfGoodSignatures_61 : decode cX5_endOfGoodSignatures 61 = .ok (.getfield 55, 3) := by decide +kernel
theorem dX5_endOfGoodSignatures_64 : decode cX5_endOfGoodSignatures 64 = .ok (.iload 4, 2) := by decide +kernel
theorem dX5_endOfGoodSignatures_66 : decode cX5_endOfGoodSignatures 66 = .ok (.iload 5, 2) := by decide +kernel
theorem dX5_endOfGoodSignatures_68 : decode cX5_endOfGoodSignatures 68 = .ok (.iastore, 1) := by decide +kernel
theorem dX5_endOfGoodSignatures_69 : decode cX5_endOfGoodSignatures 69 = .ok (.iinc 4 1, 3) := by decide +kernel
theorem dX5_endOfGoodSignatures_72 : decode cX5_endOfGoodSignatures 72 = .ok (.goto (-57), 3) := by decide +kernel
theorem dX5_endOfGoodSignatures_75 : decode cX5_endOfGoodSignatures 75 = .ok (.iload_n 3, 1) := by decide +kernel
theorem dX5_endOfGoodSignatures_76 : decode cX5_endOfGoodSignatures 76 = .ok (.ireturn, 1) := by decide +kernel
set_option maxRecDepth 20000 in
theorem ggX5_endOfGoodSignature_X5_readKeys : GoodIn wsX5_endOfGoodSignature wsX5_readKeys := goodIn_r _ [12, 7, 2, 13, 14, 15, 16, 17, 18, 19, 20, 21, 22, 23, 24, 25, 26, 27, 28, 29, 30, 31, 32, 33, 82, 83, 84, 85, 86, 87, 88, 89, 90, 91, 92, 101, 102] (by decide +kernel) (by decide +kernel)
set_option maxRecDepth 20000 in
theorem gX5_endOfGoodSignature_X5_readKeys : GoodIn wsX5_endOfGoodSignature (wsV RX5 240 RX5 yX5_readKeys wsX5_readKeys) := goodIn_app (goodIn_of _ (by decide +kernel)) ggX5_endOfGoodSignature_X5_readKeys
set_option maxRecDepth 20000 in
theorem ggX5_endOfGoodSignature_X3_resize : GoodIn wsX5_endOfGoodSignature wsX3_resize := goodIn_r _ [38, 39, 93, 94, 95, 96] (by decide +kernel) (by decide +kernel)
set_option maxRecDepth 20000 in
theorem gX5_endOfGoodSignature_X3_resize : GoodIn wsX5_endOfGoodSignature (wsV RX5 243 RX3 yX3_resize wsX3_resize) := goodIn_app (goodIn_of _ (by decide +kernel)) ggX5_endOfGoodSignature_X3_resize
set_option maxRecDepth 20000 in
theorem ggX5_endOfGoodSignature_X0_init : GoodIn wsX5_endOfGoodSignature wsX0_init := goodIn_r _ [42, 43, 44, 45, 46, 47, 48, 49, 97, 98, 99, 100] (by decide +kernel) (by decide +kernel)
set_option maxRecDepth 20000 in
theorem gX5_endOfGoodSignature_X0_init : GoodIn wsX5_endOfGoodSignature (wsX0_init) := ggX5_endOfGoodSignature_X0_init
set_option maxRecDepth 20000 in
theorem ggX5_endOfGoodSignature_X0_isProvedBy : GoodIn wsX5_endOfGoodSignature wsX0_isProvedBy := goodIn_r _ [53, 46, 54, 55, 56, 6, 57, 58, 59, 15, 60, 61, 14, 16, 17, 18, 19, 62, 63, 64, 65, 47, 49, 66, 67, 68, 69, 70, 71, 72, 73, 48, 74, 75, 76, 77, 78, 79, 80, 81, 93, 94, 95, 96, 97, 98, 99, 100, 101, 102] (by decide +kernel) (by decide +kernel)
set_option maxRecDepth 20000 in
theorem gX5_endOfGoodSignature_X0_isProvedBy : GoodIn wsX5_endOfGoodSignature (wsV RX5 158 RX0 yX0_isProvedBy wsX0_isProvedBy) := goodIn_app (goodIn_of _ (by decide +kernel)) ggX5_endOfGoodSignature_X0_isProvedBy
theorem dX5_endOfGoodSignature_0 : decode cX5_endOfGoodSignature 0 = .ok (.iload_n 1, 1) := by decide +kernel
theorem dX5_endOfGoodSignature_1 : decode cX5_endOfGoodSignature 1 = .ok (.aload_n 0, 1) := by decide +kernel
theorem dX5_endOfGoodSignature_2 : decode cX5_endOfGoodSignature 2 = .ok (.getfield 46, 3) := by decide +kernel
theorem dX5_endOfGoodSignature_5 : decode cX5_endOfGoodSignature 5 = .ok (.if_icmp .lt 5, 3) := by decide +kernel
theorem dX5_endOfGoodSignature_8 : decode cX5_endOfGoodSignature 8 = .ok (.iconst (-1), 1) := by decide +kernel
theorem dX5_endOfGoodSignature_9 : decode cX5_endOfGoodSignature 9 = .ok (.ireturn, 1) := by decide +kernel
theorem dX5_endOfGoodSignature_10 : decode cX5_endOfGoodSignature 10 = .ok (.aload_n 0, 1) := by decide +kernel
theorem dX5_endOfGoodSignature_11 : decode cX5_endOfGoodSignature 11 = .ok (.getfield 42, 3) := by decide +kernel
theorem dX5_endOfGoodSignature_14 : decode cX5_endOfGoodSignature 14 = .ok (.iload_n 1, 1) := by decide +kernel
theorem dX5_endOfGoodSignature_15 : decode cX5_endOfGoodSignature 15 = .ok (.iaload, 1) := by decide +kernel
theorem dX5_endOfGoodSignature_16 : decode cX5_endOfGoodSignature 16 = .ok (.istore_n 3, 1) := by decide +kernel
theorem dX5_endOfGoodSignature_17 : decode cX5_endOfGoodSignature 17 = .ok (.iload_n 3, 1) := by decide +kernel
theorem dX5_endOfGoodSignature_18 : decode cX5_endOfGoodSignature 18 = .ok (.iconst 2, 1) := by decide +kernel
theorem dX5_endOfGoodSignature_19 : decode cX5_endOfGoodSignature 19 = .ok (.if_icmp .lt 9, 3) := by decide +kernel
theorem dX5_endOfGoodSignature_22 : decode cX5_endOfGoodSignature 22 = .ok (.iload_n 3, 1) := by decide +kernel
theorem dX5_endOfGoodSignature_23 : decode cX5_endOfGoodSignature 23 = .ok (.bipush 6, 2) := by decide +kernel
theorem dX5_endOfGoodSignature_25 : decode cX5_endOfGoodSignature 25 = .ok (.if_icmp .le 5, 3) := by decide +kernel
theorem dX5_endOfGoodSignature_28 : decode cX5_endOfGoodSignature 28 = .ok (.iconst (-1), 1) := by decide +kernel
theorem dX5_endOfGoodSignature_29 : decode cX5_endOfGoodSignature 29 = .ok (.ireturn, 1) := by decide +kernel
theorem dX5_endOfGoodSignature_30 : decode cX5_endOfGoodSignature 30 = .ok (.iload_n 1, 1) := by decide +kernel
theorem dX5_endOfGoodSignature_31 : decode cX5_endOfGoodSignature 31 = .ok (.iconst 1, 1) := by decide +kernel
theorem dX5_endOfGoodSignature_32 : decode cX5_endOfGoodSignature 32 = .ok (.iadd, 1) := by decide +kernel
theorem dX5_endOfGoodSignature_33 : decode cX5_endOfGoodSignature 33 = .ok (.iload_n 3, 1) := by decide +kernel
theorem dX5_endOfGoodSignature_34 : decode cX5_endOfGoodSignature 34 = .ok (.iadd, 1) := by decide +kernel
theorem dX5_endOfGoodSignature_35 : decode cX5_endOfGoodSignature 35 = .ok (.istore 4, 2) := by decide +kernel
theorem dX5_endOfGoodSignature_37 : decode cX5_endOfGoodSignature 37 = .ok (.iload 4, 2) := by decide +kernel
theorem dX5_endOfGoodSignature_39 : decode cX5_endOfGoodSignature 39 = .ok (.iconst 1, 1) := by decide +kernel
theorem dX5_endOfGoodSignature_40 : decode cX5_endOfGoodSignature 40 = .ok (.iadd, 1) := by decide +kernel
theorem dX5_endOfGoodSignature_41 : decode cX5_endOfGoodSignature 41 = .ok (.istore 5, 2) := by decide +kernel
theorem dX5_endOfGoodSignature_43 : decode cX5_endOfGoodSignature 43 = .ok (.iload 5, 2) := by decide +kernel
theorem dX5_endOfGoodSignature_45 : decode cX5_endOfGoodSignature 45 = .ok (.iconst 2, 1) := by decide +kernel
theorem dX5_endOfGoodSignature_46 : decode cX5_endOfGoodSignature 46 = .ok (.iadd, 1) := by decide +kernel
theorem dX5_endOfGoodSignature_47 : decode cX5_endOfGoodSignature 47 = .ok (.iload_n 3, 1) := by decide +kernel
theorem dX5_endOfGoodSignature_48 : decode cX5_endOfGoodSignature 48 = .ok (.iadd, 1) := by decide +kernel
theorem dX5_endOfGoodSignature_49 : decode cX5_endOfGoodSignature 49 = .ok (.istore 6, 2) := by decide +kernel
theorem dX5_endOfGoodSignature_51 : decode cX5_endOfGoodSignature 51 = .ok (.iload 6, 2) := by decide +kernel
theorem dX5_endOfGoodSignature_53 : decode cX5_endOfGoodSignature 53 = .ok (.aload_n 0, 1) := by decide +kernel
theorem dX5_endOfGoodSignature_54 : decode cX5_endOfGoodSignature 54 = .ok (.getfield 46, 3) := by decide +kernel
theorem dX5_endOfGoodSignature_57 : decode cX5_endOfGoodSignature 57 = .ok (.if_icmp .gt 15, 3) := by decide +kernel
theorem dX5_endOfGoodSignature_60 : decode cX5_endOfGoodSignature 60 = .ok (.aload_n 0, 1) := by decide +kernel
theorem dX5_endOfGoodSignature_61 : decode cX5_endOfGoodSignature 61 = .ok (.iload_n 1, 1) := by decide +kernel
theorem dX5_endOfGoodSignature_62 : decode cX5_endOfGoodSignature 62 = .ok (.iconst 1, 1) := by decide +kernel
theorem dX5_endOfGoodSignature_63 : decode cX5_endOfGoodSignature 63 = .ok (.iadd, 1) := by decide +kernel
theorem dX5_endOfGoodSignature_64 : decode cX5_endOfGoodSignature 64 = .ok (.iload 4, 2) := by decide +kernel
theorem dX5_endOfGoodSignature_66 : decode cX5_endOfGoodSignature 66 = .ok (.invokevirtual 240, 3) := by decide +kernel
theorem dX5_endOfGoodSignature_69 : decode cX5_endOfGoodSignature 69 = .ok (.ifCond .ne 5, 3) := by decide +kernel
theorem dX5_endOfGoodSignature_72 : decode cX5_endOfGoodSignature 72 = .ok (.iconst (-1), 1) := by decide +kernel
theorem dX5_endOfGoodSignature_73 : decode cX5_endOfGoodSignature 73 = .ok (.ireturn, 1) := by decide +kernel
theorem dX5_endOfGoodSignature_74 : decode cX5_endOfGoodSignature 74 = .ok (.aload_n 0, 1) := by decide +kernel
theorem dX5_endOfGoodSignature_75 : decode cX5_endOfGoodSignature 75 = .ok (.getfield 52, 3) := by decide +kernel
theorem dX5_endOfGoodSignature_78 : decode cX5_endOfGoodSignature 78 = .ok (.iload_n 3, 1) := by decide +kernel
theorem dX5_endOfGoodSignature_79 : decode cX5_endOfGoodSignature 79 = .ok (.invokevirtual 243, 3) := by decide +kernel
theorem dX5_endOfGoodSignature_82 : decode cX5_endOfGoodSignature 82 = .ok (.iconst 0, 1) := by decide +kernel
theorem dX5_endOfGoodSignature_83 : decode cX5_endOfGoodSignature 83 = .ok (.istore 7, 2) := by decide +kernel
theorem dX5_endOfGoodSignature_85 : decode cX5_endOfGoodSignature 85 = .ok (.iload 7, 2) := by decide +kernel
theorem dX5_endOfGoodSignature_87 : decode cX5_endOfGoodSignature 87 = .ok (.aload_n 0, 1) := by decide +kernel
theorem dX5_endOfGoodSignature_88 : decode cX5_endOfGoodSignature 88 = .ok (.getfield 52, 3) := by decide +kernel
theorem dX5_endOfGoodSignature_91 : decode cX5_endOfGoodSignature 91 = .ok (.getfield 230, 3) := by decide +kernel
theorem dX5_endOfGoodSignature_94 : decode cX5_endOfGoodSignature 94 = .ok (.if_icmp .ge 29, 3) := by decide +kernel
theorem dX5_endOfGoodSignature_97 : decode cX5_endOfGoodSignature 97 = .ok (.aload_n 0, 1) := by decide +kernel
theorem dX5_endOfGoodSignature_98 : decode cX5_endOfGoodSignature 98 = .ok (.getfield 52, 3) := by decide +kernel
theorem dX5_endOfGoodSignature_101 : decode cX5_endOfGoodSignature 101 = .ok (.getfield 141, 3) := by decide +kernel
theorem dX5_endOfGoodSignature_104 : decode cX5_endOfGoodSignature 104 = .ok (.iload 7, 2) := by decide +kernel
theorem dX5_endOfGoodSignature_106 : decode cX5_endOfGoodSignature 106 = .ok (.aload_n 0, 1) := by decide +kernel
theorem dX5_endOfGoodSignature_107 : decode cX5_endOfGoodSignature 107 = .ok (.getfield 42, 3) := by decide +kernel
theorem dX5_endOfGoodSignature_110 : decode cX5_endOfGoodSignature 110 = .ok (.iload 5, 2) := by decide +kernel
theorem dX5_endOfGoodSignature_112 : decode cX5_endOfGoodSignature 112 = .ok (.iload 7, 2) := by decide +kernel
theorem dX5_endOfGoodSignature_114 : decode cX5_endOfGoodSignature 114 = .ok (.iadd, 1) := by decide +kernel
theorem dX5_endOfGoodSignature_115 : decode cX5_endOfGoodSignature 115 = .ok (.iaload, 1) := by decide +kernel
theorem dX5_endOfGoodSignature_116 : decode cX5_endOfGoodSignature 116 = .ok (.iastore, 1) := by decide +kernel
theorem dX5_endOfGoodSignature_117 : decode cX5_endOfGoodSignature 117 = .ok (.iinc 7 1, 3) := by decide +kernel
theorem dX5_endOfGoodSignature_120 : decode cX5_endOfGoodSignature 120 = .ok (.goto (-35), 3) := by decide +kernel
theorem dX5_endOfGoodSignature_123 : decode cX5_endOfGoodSignature 123 = .ok (.new 129, 3) := by decide +kernel
theorem dX5_endOfGoodSignature_126 : decode cX5_endOfGoodSignature 126 = .ok (.dup, 1) := by decide +kernel
theorem dX5_endOfGoodSignature_127 : decode cX5_endOfGoodSignature 127 = .ok (.aload_n 0, 1) := by decide +kernel
theorem dX5_endOfGoodSignature_128 : decode cX5_endOfGoodSignature 128 = .ok (.getfield 49, 3) := by decide +kernel
theorem dX5_endOfGoodSignature_131 : decode cX5_endOfGoodSignature 131 = .ok (.aload_n 0, 1) := by decide +kernel
theorem dX5_endOfGoodSignature_132 : decode cX5_endOfGoodSignature 132 = .ok (.getfield 42, 3) := by decide +kernel
theorem dX5_endOfGoodSignature_135 : decode cX5_endOfGoodSignature 135 = .ok (.iconst 0, 1) := by decide +kernel
theorem dX5_endOfGoodSignature_136 : decode cX5_endOfGoodSignature 136 = .ok (.iaload, 1) := by decide +kernel
theorem dX5_endOfGoodSignature_137 : decode cX5_endOfGoodSignature 137 = .ok (.iload_n 2, 1) := by decide +kernel
theorem dX5_endOfGoodSignature_138 : decode cX5_endOfGoodSignature 138 = .ok (.aload_n 0, 1) := by decide +kernel
theorem dX5_endOfGoodSignature_139 : decode cX5_endOfGoodSignature 139 = .ok (.getfield 42, 3) := by decide +kernel
theorem dX5_endOfGoodSignature_142 : decode cX5_endOfGoodSignature 142 = .ok (.iload 4, 2) := by decide +kernel
theorem dX5_endOfGoodSignature_144 : decode cX5_endOfGoodSignature 144 = .ok (.iaload, 1) := by decide +kernel
theorem dX5_endOfGoodSignature_145 : decode cX5_endOfGoodSignature 145 = .ok (.invokespecial 134, 3) := by decide +kernel
theorem dX5_endOfGoodSignature_148 : decode cX5_endOfGoodSignature 148 = .ok (.astore 7, 2) := by decide +kernel
theorem dX5_endOfGoodSignature_150 : decode cX5_endOfGoodSignature 150 = .ok (.aload 7, 2) := by decide +kernel
theorem dX5_endOfGoodSignature_152 : decode cX5_endOfGoodSignature 152 = .ok (.aload_n 0, 1) := by decide +kernel
theorem dX5_endOfGoodSignature_153 : decode cX5_endOfGoodSignature 153 = .ok (.getfield 52, 3) := by decide +kernel
theorem dX5_endOfGoodSignature_156 : decode cX5_endOfGoodSignature 156 = .ok (.invokevirtual 158, 3) := by decide +kernel
theorem dX5_endOfGoodSignature_159 : decode cX5_endOfGoodSignature 159 = .ok (.ifCond .eq 8, 3) := by decide +kernel
theorem dX5_endOfGoodSignature_162 : decode cX5_endOfGoodSignature 162 = .ok (.iload 6, 2) := by decide +kernel
theorem dX5_endOfGoodSignature_164 : decode cX5_endOfGoodSignature 164 = .ok (.goto 4, 3) := by decide +kernel
theorem dX5_endOfGoodSignature_167 : decode cX5_endOfGoodSignature 167 = .ok (.iconst (-1), 1) := by decide +kernel
theorem dX5_endOfGoodSignature_168 : decode cX5_endOfGoodSignature 168 = .ok (.ireturn, 1) := by decide +kernel
set_option maxRecDepth 20000 in
theorem ggX5_readKeys_X2_isElementButOne : GoodIn wsX5_readKeys wsX2_isElementButOne := goodIn_r _ [6, 7, 8, 5, 9] (by decide +kernel) (by decide +kernel)
set_option maxRecDepth 20000 in
theorem gX5_readKeys_X2_isElementButOne : GoodIn wsX5_readKeys (va_wsS RX5 59 yX2_isElementButOne wsX2_isElementButOne) := goodIn_app (goodIn_of _ (by decide +kernel)) ggX5_readKeys_X2_isElementButOne
set_option maxRecDepth 20000 in
theorem ggX5_readKeys_X1_has : GoodIn wsX5_readKeys wsX1_has := goodIn_r _ [14, 15, 16, 17, 18, 5, 19, 35, 36] (by decide +kernel) (by decide +kernel)
set_option maxRecDepth 20000 in
theorem gX5_readKeys_X1_has : GoodIn wsX5_readKeys (wsV RX5 65 RX1 yX1_has wsX1_has) := goodIn_app (goodIn_of _ (by decide +kernel)) ggX5_readKeys_X1_has
set_option maxRecDepth 20000 in
theorem ggX5_readKeys_X1_add : GoodIn wsX5_readKeys wsX1_add := goodIn_r _ [23, 15, 16, 35, 36] (by decide +kernel) (by decide +kernel)
set_option maxRecDepth 20000 in
theorem gX5_readKeys_X1_add : GoodIn wsX5_readKeys (wsV RX5 83 RX1 yX1_add wsX1_add) := goodIn_app (goodIn_of _ (by decide +kernel)) ggX5_readKeys_X1_add
theorem dX5_readKeys_0 : decode cX5_readKeys 0 = .ok (.aload_n 0, 1) := by decide +kernel
theorem dX5_readKeys_1 : decode cX5_readKeys 1 = .ok (.getfield 49, 3) := by decide +kernel
theorem dX5_readKeys_4 : decode cX5_readKeys 4 = .ok (.iconst 0, 1) := by decide +kernel
theorem dX5_readKeys_5 : decode cX5_readKeys 5 = .ok (.putfield 75, 3) := by decide +kernel
theorem dX5_readKeys_8 : decode cX5_readKeys 8 = .ok (.iload_n 1, 1) := by decide +kernel
theorem dX5_readKeys_9 : decode cX5_readKeys 9 = .ok (.istore_n 3, 1) := by decide +kernel
theorem dX5_readKeys_10 : decode cX5_readKeys 10 = .ok (.iload_n 3, 1) := by decide +kernel
theorem dX5_readKeys_11 : decode cX5_readKeys 11 = .ok (.iload_n 2, 1) := by decide +kernel
theorem dX5_readKeys_12 : decode cX5_readKeys 12 = .ok (.if_icmp .ge 52, 3) := by decide +kernel
theorem dX5_readKeys_15 : decode cX5_readKeys 15 = .ok (.aload_n 0, 1) := by decide +kernel
theorem dX5_readKeys_16 : decode cX5_readKeys 16 = .ok (.getfield 42, 3) := by decide +kernel
theorem dX5_readKeys_19 : decode cX5_readKeys 19 = .ok (.iload_n 3, 1) := by decide +kernel
theorem dX5_readKeys_20 : decode cX5_readKeys 20 = .ok (.iaload, 1) := by decide +kernel
theorem dX5_readKeys_21 : decode cX5_readKeys 21 = .ok (.invokestatic 59, 3) := by decide +kernel
theorem dX5_readKeys_24 : decode cX5_readKeys 24 = .ok (.ifCond .eq 19, 3) := by decide +kernel
theorem dX5_readKeys_27 : decode cX5_readKeys 27 = .ok (.aload_n 0, 1) := by decide +kernel
theorem dX5_readKeys_28 : decode cX5_readKeys 28 = .ok (.getfield 49, 3) := by decide +kernel
theorem dX5_readKeys_31 : decode cX5_readKeys 31 = .ok (.aload_n 0, 1) := by decide +kernel
theorem dX5_readKeys_32 : decode cX5_readKeys 32 = .ok (.getfield 42, 3) := by decide +kernel
theorem dX5_readKeys_35 : decode cX5_readKeys 35 = .ok (.iload_n 3, 1) := by decide +kernel
theorem dX5_readKeys_36 : decode cX5_readKeys 36 = .ok (.iaload, 1) := by decide +kernel
theorem dX5_readKeys_37 : decode cX5_readKeys 37 = .ok (.invokevirtual 65, 3) := by decide +kernel
theorem dX5_readKeys_40 : decode cX5_readKeys 40 = .ok (.ifCond .eq 5, 3) := by decide +kernel
theorem dX5_readKeys_43 : decode cX5_readKeys 43 = .ok (.iconst 0, 1) := by decide +kernel
theorem dX5_readKeys_44 : decode cX5_readKeys 44 = .ok (.ireturn, 1) := by decide +kernel
theorem dX5_readKeys_45 : decode cX5_readKeys 45 = .ok (.aload_n 0, 1) := by decide +kernel
theorem dX5_readKeys_46 : decode cX5_readKeys 46 = .ok (.getfield 49, 3) := by decide +kernel
theorem dX5_readKeys_49 : decode cX5_readKeys 49 = .ok (.aload_n 0, 1) := by decide +kernel
theorem dX5_readKeys_50 : decode cX5_readKeys 50 = .ok (.getfield 42, 3) := by decide +kernel
theorem dX5_readKeys_53 : decode cX5_readKeys 53 = .ok (.iload_n 3, 1) := by decide +kernel
theorem dX5_readKeys_54 : decode cX5_readKeys 54 = .ok (.iaload, 1) := by decide +kernel
theorem dX5_readKeys_55 : decode cX5_readKeys 55 = .ok (.invokevirtual 83, 3) := by decide +kernel
theorem dX5_readKeys_58 : decode cX5_readKeys 58 = .ok (.iinc 3 1, 3) := by decide +kernel
theorem dX5_readKeys_61 : decode cX5_readKeys 61 = .ok (.goto (-51), 3) := by decide +kernel
theorem dX5_readKeys_64 : decode cX5_readKeys 64 = .ok (.iconst 1, 1) := by decide +kernel
theorem dX5_readKeys_65 : decode cX5_readKeys 65 = .ok (.ireturn, 1) := by decide +kernel
