theorem dX2_init_0 : decode cX2_init 0 = .ok (.aload_n 0, 1) := by decide +kernel
theorem dX2_init_1 : decode cX2_init 1 = .ok (.invokespecial 1, 3) := by decide +kernel
theorem dX2_init_4 : decode cX2_init 4 = .ok (.aload_n 0, 1) := by decide +kernel
theorem dX2_init_5 : decode cX2_init 5 = .ok (.bipush 60, 2) := by decide +kernel
theorem dX2_init_7 : decode cX2_init 7 = .ok (.newarray .int, 2) := by decide +kernel
theorem dX2_init_9 : decode cX2_init 9 = .ok (.putfield 7, 3) := by decide +kernel
theorem dX2_init_12 : decode cX2_init 12 = .ok (.aload_n 0, 1) := by decide +kernel
theorem dX2_init_13 : decode cX2_init 13 = .ok (.bipush 60, 2) := by decide +kernel
theorem dX2_init_15 : decode cX2_init 15 = .ok (.newarray .int, 2) := by decide +kernel
theorem dX2_init_17 : decode cX2_init 17 = .ok (.putfield 13, 3) := by decide +kernel
theorem dX2_init_20 : decode cX2_init 20 = .ok (.aload_n 0, 1) := by decide +kernel
theorem dX2_init_21 : decode cX2_init 21 = .ok (.bipush 60, 2) := by decide +kernel
theorem dX2_init_23 : decode cX2_init 23 = .ok (.newarray .int, 2) := by decide +kernel
theorem dX2_init_25 : decode cX2_init 25 = .ok (.putfield 16, 3) := by decide +kernel
theorem dX2_init_28 : decode cX2_init 28 = .ok (.aload_n 0, 1) := by decide +kernel
theorem dX2_init_29 : decode cX2_init 29 = .ok (.bipush 60, 2) := by decide +kernel
theorem dX2_init_31 : decode cX2_init 31 = .ok (.newarray .int, 2) := by decide +kernel
theorem dX2_init_33 : decode cX2_init 33 = .ok (.putfield 19, 3) := by decide +kernel
theorem dX2_init_36 : decode cX2_init 36 = .ok (.aload_n 0, 1) := by decide +kernel
theorem dX2_init_37 : decode cX2_init 37 = .ok (.sipush 240, 3) := by decide +kernel
theorem dX2_init_40 : decode cX2_init 40 = .ok (.newarray .boolean, 2) := by decide +kernel
theorem dX2_init_42 : decode cX2_init 42 = .ok (.putfield 22, 3) := by decide +kernel
theorem dX2_init_45 : decode cX2_init 45 = .ok (.aload_n 0, 1) := by decide +kernel
theorem dX2_init_46 : decode cX2_init 46 = .ok (.sipush 240, 3) := by decide +kernel
theorem dX2_init_49 : decode cX2_init 49 = .ok (.newarray .boolean, 2) := by decide +kernel
theorem dX2_init_51 : decode cX2_init 51 = .ok (.putfield 26, 3) := by decide +kernel
theorem dX2_init_54 : decode cX2_init 54 = .ok (.aload_n 0, 1) := by decide +kernel
theorem dX2_init_55 : decode cX2_init 55 = .ok (.sipush 240, 3) := by decide +kernel
theorem dX2_init_58 : decode cX2_init 58 = .ok (.newarray .int, 2) := by decide +kernel
theorem dX2_init_60 : decode cX2_init 60 = .ok (.putfield 29, 3) := by decide +kernel
theorem dX2_init_63 : decode cX2_init 63 = .ok (.aload_n 0, 1) := by decide +kernel
theorem dX2_init_64 : decode cX2_init 64 = .ok (.iconst 4, 1) := by decide +kernel
theorem dX2_init_65 : decode cX2_init 65 = .ok (.newarray .int, 2) := by decide +kernel
theorem dX2_init_67 : decode cX2_init 67 = .ok (.putfield 32, 3) := by decide +kernel
theorem dX2_init_70 : decode cX2_init 70 = .ok (.aload_n 0, 1) := by decide +kernel
theorem dX2_init_71 : decode cX2_init 71 = .ok (.bipush 80, 2) := by decide +kernel
theorem dX2_init_73 : decode cX2_init 73 = .ok (.newarray .int, 2) := by decide +kernel
theorem dX2_init_75 : decode cX2_init 75 = .ok (.putfield 35, 3) := by decide +kernel
theorem dX2_init_78 : decode cX2_init 78 = .ok (.aload_n 0, 1) := by decide +kernel
theorem dX2_init_79 : decode cX2_init 79 = .ok (.iconst 4, 1) := by decide +kernel
theorem dX2_init_80 : decode cX2_init 80 = .ok (.newarray .int, 2) := by decide +kernel
theorem dX2_init_82 : decode cX2_init 82 = .ok (.putfield 38, 3) := by decide +kernel
theorem dX2_init_85 : decode cX2_init 85 = .ok (.aload_n 0, 1) := by decide +kernel
theorem dX2_init_86 : decode cX2_init 86 = .ok (.iconst 4, 1) := by decide +kernel
theorem dX2_init_87 : decode cX2_init 87 = .ok (.newarray .long, 2) := by decide +kernel
theorem dX2_init_89 : decode cX2_init 89 = .ok (.putfield 41, 3) := by decide +kernel
theorem dX2_init_92 : decode cX2_init 92 = .ok (.aload_n 0, 1) := by decide +kernel
theorem dX2_init_93 : decode cX2_init 93 = .ok (.bipush 60, 2) := by decide +kernel
theorem dX2_init_95 : decode cX2_init 95 = .ok (.newarray .int, 2) := by decide +kernel
theorem dX2_init_97 : decode cX2_init 97 = .ok (.putfield 45, 3) := by decide +kernel
theorem dX2_init_100 : decode cX2_init 100 = .ok (.aload_n 0, 1) := by decide +kernel
theorem dX2_init_101 : decode cX2_init 101 = .ok (.bipush 60, 2) := by decide +kernel
theorem dX2_init_103 : decode cX2_init 103 = .ok (.newarray .int, 2) := by decide +kernel
theorem dX2_init_105 : decode cX2_init 105 = .ok (.putfield 48, 3) := by decide +kernel
theorem dX2_init_108 : decode cX2_init 108 = .ok (.return_, 1) := by decide +kernel
theorem dX2_thrown_0 : decode cX2_thrown 0 = .ok (.aload_n 0, 1) := by decide +kernel
theorem dX2_thrown_1 : decode cX2_thrown 1 = .ok (.getfield 51, 3) := by decide +kernel
theorem dX2_thrown_4 : decode cX2_thrown 4 = .ok (.ireturn, 1) := by decide +kernel
theorem dX2_goes_0 : decode cX2_goes 0 = .ok (.aload_n 0, 1) := by decide +kernel
theorem dX2_goes_1 : decode cX2_goes 1 = .ok (.iload_n 1, 1) := by decide +kernel
theorem dX2_goes_2 : decode cX2_goes 2 = .ok (.putfield 51, 3) := by decide +kernel
theorem dX2_goes_5 : decode cX2_goes 5 = .ok (.iload_n 1, 1) := by decide +kernel
theorem dX2_goes_6 : decode cX2_goes 6 = .ok (.ifCond .ne 7, 3) := by decide +kernel
theorem dX2_goes_9 : decode cX2_goes 9 = .ok (.iconst 1, 1) := by decide +kernel
theorem dX2_goes_10 : decode cX2_goes 10 = .ok (.goto 4, 3) := by decide +kernel
theorem dX2_goes_13 : decode cX2_goes 13 = .ok (.iconst 0, 1) := by decide +kernel
theorem dX2_goes_14 : decode cX2_goes 14 = .ok (.ireturn, 1) := by decide +kernel
theorem dX2_isIn_0 : decode cX2_isIn 0 = .ok (.iload_n 0, 1) := by decide +kernel
theorem dX2_isIn_1 : decode cX2_isIn 1 = .ok (.iload_n 1, 1) := by decide +kernel
theorem dX2_isIn_2 : decode cX2_isIn 2 = .ok (.if_icmp .lt 12, 3) := by decide +kernel
theorem dX2_isIn_5 : decode cX2_isIn 5 = .ok (.iload_n 0, 1) := by decide +kernel
theorem dX2_isIn_6 : decode cX2_isIn 6 = .ok (.iload_n 2, 1) := by decide +kernel
theorem dX2_isIn_7 : decode cX2_isIn 7 = .ok (.if_icmp .gt 7, 3) := by decide +kernel
theorem dX2_isIn_10 : decode cX2_isIn 10 = .ok (.iconst 1, 1) := by decide +kernel
theorem dX2_isIn_11 : decode cX2_isIn 11 = .ok (.goto 4, 3) := by decide +kernel
theorem dX2_isIn_14 : decode cX2_isIn 14 = .ok (.iconst 0, 1) := by decide +kernel
theorem dX2_isIn_15 : decode cX2_isIn 15 = .ok (.ireturn, 1) := by decide +kernel
set_option maxRecDepth 20000 in
theorem ggX2_isAuthor_X2_isIn : GoodIn wsX2_isAuthor wsX2_isIn := goodIn_r _ [4] (by decide +kernel) (by decide +kernel)
set_option maxRecDepth 20000 in
theorem gX2_isAuthor_X2_isIn : GoodIn wsX2_isAuthor (va_wsS RX2 55 yX2_isIn wsX2_isIn) := goodIn_app (goodIn_of _ (by decide +kernel)) ggX2_isAuthor_X2_isIn
theorem dX2_isAuthor_0 : decode cX2_isAuthor 0 = .ok (.iload_n 0, 1) := by decide +kernel
theorem dX2_isAuthor_1 : decode cX2_isAuthor 1 = .ok (.iconst 0, 1) := by decide +kernel
theorem dX2_isAuthor_2 : decode cX2_isAuthor 2 = .ok (.iconst 3, 1) := by decide +kernel
theorem dX2_isAuthor_3 : decode cX2_isAuthor 3 = .ok (.invokestatic 55, 3) := by decide +kernel
theorem dX2_isAuthor_6 : decode cX2_isAuthor 6 = .ok (.ireturn, 1) := by decide +kernel
set_option maxRecDepth 20000 in
theorem ggX2_isSign_X2_isIn : GoodIn wsX2_isSign wsX2_isIn := goodIn_r _ [5] (by decide +kernel) (by decide +kernel)
set_option maxRecDepth 20000 in
theorem gX2_isSign_X2_isIn : GoodIn wsX2_isSign (va_wsS RX2 55 yX2_isIn wsX2_isIn) := goodIn_app (goodIn_of _ (by decide +kernel)) ggX2_isSign_X2_isIn
theorem dX2_isSign_0 : decode cX2_isSign 0 = .ok (.iload_n 1, 1) := by decide +kernel
theorem dX2_isSign_1 : decode cX2_isSign 1 = .ok (.iconst 0, 1) := by decide +kernel
theorem dX2_isSign_2 : decode cX2_isSign 2 = .ok (.aload_n 0, 1) := by decide +kernel
theorem dX2_isSign_3 : decode cX2_isSign 3 = .ok (.getfield 59, 3) := by decide +kernel
theorem dX2_isSign_6 : decode cX2_isSign 6 = .ok (.iconst 1, 1) := by decide +kernel
theorem dX2_isSign_7 : decode cX2_isSign 7 = .ok (.isub, 1) := by decide +kernel
theorem dX2_isSign_8 : decode cX2_isSign 8 = .ok (.invokestatic 55, 3) := by decide +kernel
theorem dX2_isSign_11 : decode cX2_isSign 11 = .ok (.ireturn, 1) := by decide +kernel
set_option maxRecDepth 20000 in
theorem ggX2_isEdition_X2_isIn : GoodIn wsX2_isEdition wsX2_isIn := goodIn_r _ [5] (by decide +kernel) (by decide +kernel)
set_option maxRecDepth 20000 in
theorem gX2_isEdition_X2_isIn : GoodIn wsX2_isEdition (va_wsS RX2 55 yX2_isIn wsX2_isIn) := goodIn_app (goodIn_of _ (by decide +kernel)) ggX2_isEdition_X2_isIn
theorem dX2_isEdition_0 : decode cX2_isEdition 0 = .ok (.iload_n 1, 1) := by decide +kernel
theorem dX2_isEdition_1 : decode cX2_isEdition 1 = .ok (.iconst 0, 1) := by decide +kernel
theorem dX2_isEdition_2 : decode cX2_isEdition 2 = .ok (.aload_n 0, 1) := by decide +kernel
theorem dX2_isEdition_3 : decode cX2_isEdition 3 = .ok (.getfield 62, 3) := by decide +kernel
theorem dX2_isEdition_6 : decode cX2_isEdition 6 = .ok (.iconst 1, 1) := by decide +kernel
theorem dX2_isEdition_7 : decode cX2_isEdition 7 = .ok (.isub, 1) := by decide +kernel
theorem dX2_isEdition_8 : decode cX2_isEdition 8 = .ok (.invokestatic 55, 3) := by decide +kernel
theorem dX2_isEdition_11 : decode cX2_isEdition 11 = .ok (.ireturn, 1) := by decide +kernel
theorem dX2_at_0 : decode cX2_at 0 = .ok (.bipush 60, 2) := by decide +kernel
theorem dX2_at_2 : decode cX2_at 2 = .ok (.iload_n 0, 1) := by decide +kernel
theorem dX2_at_3 : decode cX2_at 3 = .ok (.imul, 1) := by decide +kernel
theorem dX2_at_4 : decode cX2_at 4 = .ok (.iload_n 1, 1) := by decide +kernel
theorem dX2_at_5 : decode cX2_at 5 = .ok (.iadd, 1) := by decide +kernel
theorem dX2_at_6 : decode cX2_at 6 = .ok (.ireturn, 1) := by decide +kernel
theorem dX2_key_0 : decode cX2_key 0 = .ok (.iconst 4, 1) := by decide +kernel
theorem dX2_key_1 : decode cX2_key 1 = .ok (.aload_n 0, 1) := by decide +kernel
theorem dX2_key_2 : decode cX2_key 2 = .ok (.getfield 16, 3) := by decide +kernel
theorem dX2_key_5 : decode cX2_key 5 = .ok (.iload_n 1, 1) := by decide +kernel
theorem dX2_key_6 : decode cX2_key 6 = .ok (.iaload, 1) := by decide +kernel
theorem dX2_key_7 : decode cX2_key 7 = .ok (.imul, 1) := by decide +kernel
theorem dX2_key_8 : decode cX2_key 8 = .ok (.aload_n 0, 1) := by decide +kernel
theorem dX2_key_9 : decode cX2_key 9 = .ok (.getfield 7, 3) := by decide +kernel
theorem dX2_key_12 : decode cX2_key 12 = .ok (.iload_n 1, 1) := by decide +kernel
theorem dX2_key_13 : decode cX2_key 13 = .ok (.iaload, 1) := by decide +kernel
theorem dX2_key_14 : decode cX2_key 14 = .ok (.iadd, 1) := by decide +kernel
theorem dX2_key_15 : decode cX2_key 15 = .ok (.ireturn, 1) := by decide +kernel
set_option maxRecDepth 20000 in
theorem ggX2_puts_X2_at : GoodIn wsX2_puts wsX2_at := goodIn_r _ [9] (by decide +kernel) (by decide +kernel)
set_option maxRecDepth 20000 in
theorem gX2_puts_X2_at : GoodIn wsX2_puts (va_wsS RX2 65 yX2_at wsX2_at) := goodIn_app (goodIn_of _ (by decide +kernel)) ggX2_puts_X2_at
set_option maxRecDepth 20000 in
theorem ggX2_puts_X2_key : GoodIn wsX2_puts wsX2_key := goodIn_r _ [13, 14, 15, 16, 17, 18, 19, 20, 21, 22, 23, 24, 25, 26, 27, 28, 29, 30, 31, 32, 33, 34] (by decide +kernel) (by decide +kernel)
set_option maxRecDepth 20000 in
theorem gX2_puts_X2_key : GoodIn wsX2_puts (wsV RX2 69 RX2 yX2_key wsX2_key) := goodIn_app (goodIn_of _ (by decide +kernel)) ggX2_puts_X2_key
theorem dX2_puts_0 : decode cX2_puts 0 = .ok (.iconst (-1), 1) := by decide +kernel
theorem dX2_puts_1 : decode cX2_puts 1 = .ok (.istore_n 3, 1) := by decide +kernel
theorem dX2_puts_2 : decode cX2_puts 2 = .ok (.iconst 1, 1) := by decide +kernel
theorem dX2_puts_3 : decode cX2_puts 3 = .ok (.istore 4, 2) := by decide +kernel
theorem dX2_puts_5 : decode cX2_puts 5 = .ok (.iload 4, 2) := by decide +kernel
theorem dX2_puts_7 : decode cX2_puts 7 = .ok (.ifCond .eq 150, 3) := by decide +kernel
theorem dX2_puts_10 : decode cX2_puts 10 = .ok (.iconst (-1), 1) := by decide +kernel
theorem dX2_puts_11 : decode cX2_puts 11 = .ok (.istore 5, 2) := by decide +kernel
theorem dX2_puts_13 : decode cX2_puts 13 = .ok (.iconst 0, 1) := by decide +kernel
theorem dX2_puts_14 : decode cX2_puts 14 = .ok (.istore 6, 2) := by decide +kernel
theorem dX2_puts_16 : decode cX2_puts 16 = .ok (.iload 6, 2) := by decide +kernel
theorem dX2_puts_18 : decode cX2_puts 18 = .ok (.aload_n 0, 1) := by decide +kernel
theorem dX2_puts_19 : decode cX2_puts 19 = .ok (.getfield 59, 3) := by decide +kernel
theorem dX2_puts_22 : decode cX2_puts 22 = .ok (.if_icmp .ge 86, 3) := by decide +kernel
theorem dX2_puts_25 : decode cX2_puts 25 = .ok (.aload_n 0, 1) := by decide +kernel
theorem dX2_puts_26 : decode cX2_puts 26 = .ok (.getfield 22, 3) := by decide +kernel
theorem dX2_puts_29 : decode cX2_puts 29 = .ok (.iload_n 1, 1) := by decide +kernel
theorem dX2_puts_30 : decode cX2_puts 30 = .ok (.iload 6, 2) := by decide +kernel
theorem dX2_puts_32 : decode cX2_puts 32 = .ok (.invokestatic 65, 3) := by decide +kernel
theorem dX2_puts_35 : decode cX2_puts 35 = .ok (.baload, 1) := by decide +kernel
theorem dX2_puts_36 : decode cX2_puts 36 = .ok (.ifCond .eq 28, 3) := by decide +kernel
theorem dX2_puts_39 : decode cX2_puts 39 = .ok (.aload_n 0, 1) := by decide +kernel
theorem dX2_puts_40 : decode cX2_puts 40 = .ok (.getfield 19, 3) := by decide +kernel
theorem dX2_puts_43 : decode cX2_puts 43 = .ok (.iload 6, 2) := by decide +kernel
theorem dX2_puts_45 : decode cX2_puts 45 = .ok (.iaload, 1) := by decide +kernel
theorem dX2_puts_46 : decode cX2_puts 46 = .ok (.iload_n 2, 1) := by decide +kernel
theorem dX2_puts_47 : decode cX2_puts 47 = .ok (.if_icmp .ne 17, 3) := by decide +kernel
theorem dX2_puts_50 : decode cX2_puts 50 = .ok (.aload_n 0, 1) := by decide +kernel
theorem dX2_puts_51 : decode cX2_puts 51 = .ok (.iload 6, 2) := by decide +kernel
theorem dX2_puts_53 : decode cX2_puts 53 = .ok (.invokevirtual 69, 3) := by decide +kernel
theorem dX2_puts_56 : decode cX2_puts 56 = .ok (.iload_n 3, 1) := by decide +kernel
theorem dX2_puts_57 : decode cX2_puts 57 = .ok (.if_icmp .le 7, 3) := by decide +kernel
theorem dX2_puts_60 : decode cX2_puts 60 = .ok (.iconst 1, 1) := by decide +kernel
theorem dX2_puts_61 : decode cX2_puts 61 = .ok (.goto 4, 3) := by decide +kernel
theorem dX2_puts_64 : decode cX2_puts 64 = .ok (.iconst 0, 1) := by decide +kernel
theorem dX2_puts_65 : decode cX2_puts 65 = .ok (.istore 7, 2) := by decide +kernel
theorem dX2_puts_67 : decode cX2_puts 67 = .ok (.iload 7, 2) := by decide +kernel
theorem dX2_puts_69 : decode cX2_puts 69 = .ok (.ifCond .eq 29, 3) := by decide +kernel
theorem dX2_puts_72 : decode cX2_puts 72 = .ok (.iload 5, 2) := by decide +kernel
theorem dX2_puts_74 : decode cX2_puts 74 = .ok (.iconst (-1), 1) := by decide +kernel
theorem dX2_puts_75 : decode cX2_puts 75 = .ok (.if_icmp .eq 18, 3) := by decide +kernel
theorem dX2_puts_78 : decode cX2_puts 78 = .ok (.aload_n 0, 1) := by decide +kernel
theorem dX2_puts_79 : decode cX2_puts 79 = .ok (.iload 6, 2) := by decide +kernel
theorem dX2_puts_81 : decode cX2_puts 81 = .ok (.invokevirtual 69, 3) := by decide +kernel
theorem dX2_puts_84 : decode cX2_puts 84 = .ok (.aload_n 0, 1) := by decide +kernel
theorem dX2_puts_85 : decode cX2_puts 85 = .ok (.iload 5, 2) := by decide +kernel
theorem dX2_puts_87 : decode cX2_puts 87 = .ok (.invokevirtual 69, 3) := by decide +kernel
theorem dX2_puts_90 : decode cX2_puts 90 = .ok (.if_icmp .ge 8, 3) := by decide +kernel
theorem dX2_puts_93 : decode cX2_puts 93 = .ok (.iload 6, 2) := by decide +kernel
theorem dX2_puts_95 : decode cX2_puts 95 = .ok (.goto 5, 3) := by decide +kernel
theorem dX2_puts_98 : decode cX2_puts 98 = .ok (.iload 5, 2) := by decide +kernel
theorem dX2_puts_100 : decode cX2_puts 100 = .ok (.istore 5, 2) := by decide +kernel
theorem dX2_puts_102 : decode cX2_puts 102 = .ok (.iinc 6 1, 3) := by decide +kernel
theorem dX2_puts_105 : decode cX2_puts 105 = .ok (.goto (-89), 3) := by decide +kernel
theorem dX2_puts_108 : decode cX2_puts 108 = .ok (.iload 5, 2) := by decide +kernel
theorem dX2_puts_110 : decode cX2_puts 110 = .ok (.iconst (-1), 1) := by decide +kernel
theorem dX2_puts_111 : decode cX2_puts 111 = .ok (.if_icmp .eq 7, 3) := by decide +kernel
theorem dX2_puts_114 : decode cX2_puts 114 = .ok (.iconst 1, 1) := by decide +kernel
theorem dX2_puts_115 : decode cX2_puts 115 = .ok (.goto 4, 3) := by decide +kernel
theorem dX2_puts_118 : decode cX2_puts 118 = .ok (.iconst 0, 1) := by decide +kernel
theorem dX2_puts_119 : decode cX2_puts 119 = .ok (.istore 4, 2) := by decide +kernel
theorem dX2_puts_121 : decode cX2_puts 121 = .ok (.iload 4, 2) := by decide +kernel
theorem dX2_puts_123 : decode cX2_puts 123 = .ok (.ifCond .eq 31, 3) := by decide +kernel
theorem dX2_puts_126 : decode cX2_puts 126 = .ok (.aload_n 0, 1) := by decide +kernel
theorem dX2_puts_127 : decode cX2_puts 127 = .ok (.getfield 48, 3) := by decide +kernel
theorem dX2_puts_130 : decode cX2_puts 130 = .ok (.aload_n 0, 1) := by decide +kernel
theorem dX2_puts_131 : decode cX2_puts 131 = .ok (.getfield 73, 3) := by decide +kernel
theorem dX2_puts_134 : decode cX2_puts 134 = .ok (.iload 5, 2) := by decide +kernel
theorem dX2_puts_136 : decode cX2_puts 136 = .ok (.iastore, 1) := by decide +kernel
theorem dX2_puts_137 : decode cX2_puts 137 = .ok (.aload_n 0, 1) := by decide +kernel
theorem dX2_puts_138 : decode cX2_puts 138 = .ok (.dup, 1) := by decide +kernel
theorem dX2_puts_139 : decode cX2_puts 139 = .ok (.getfield 73, 3) := by decide +kernel
theorem dX2_puts_142 : decode cX2_puts 142 = .ok (.iconst 1, 1) := by decide +kernel
theorem dX2_puts_143 : decode cX2_puts 143 = .ok (.iadd, 1) := by decide +kernel
theorem dX2_puts_144 : decode cX2_puts 144 = .ok (.putfield 73, 3) := by decide +kernel
theorem dX2_puts_147 : decode cX2_puts 147 = .ok (.aload_n 0, 1) := by decide +kernel
theorem dX2_puts_148 : decode cX2_puts 148 = .ok (.iload 5, 2) := by decide +kernel
theorem dX2_puts_150 : decode cX2_puts 150 = .ok (.invokevirtual 69, 3) := by decide +kernel
theorem dX2_puts_153 : decode cX2_puts 153 = .ok (.istore_n 3, 1) := by decide +kernel
theorem dX2_puts_154 : decode cX2_puts 154 = .ok (.goto (-149), 3) := by decide +kernel
theorem dX2_puts_157 : decode cX2_puts 157 = .ok (.return_, 1) := by decide +kernel
set_option maxRecDepth 20000 in
theorem ggX2_laysText_X2_puts : GoodIn wsX2_laysText wsX2_puts := goodIn_r _ [10, 11, 12, 13, 3, 2, 14, 15, 9, 16, 17, 18, 19, 20, 21, 22, 23, 24, 25, 26, 27, 28, 29, 30, 31, 32, 33, 34, 35, 36, 37, 38, 39, 40, 41] (by decide +kernel) (by decide +kernel)
set_option maxRecDepth 20000 in
theorem gX2_laysText_X2_puts : GoodIn wsX2_laysText (wsV RX2 79 RX2 yX2_puts wsX2_puts) := goodIn_app (goodIn_of _ (by decide +kernel)) ggX2_laysText_X2_puts
set_option maxRecDepth 20000 in
theorem ggX2_laysText_X2_at : GoodIn wsX2_laysText wsX2_at := goodIn_r _ [16] (by decide +kernel) (by decide +kernel)
set_option maxRecDepth 20000 in
theorem gX2_laysText_X2_at : GoodIn wsX2_laysText (va_wsS RX2 65 yX2_at wsX2_at) := goodIn_app (goodIn_of _ (by decide +kernel)) ggX2_laysText_X2_at
theorem dX2_laysText_0 : decode cX2_laysText 0 = .ok (.aload_n 0, 1) := by decide +kernel
theorem dX2_laysText_1 : decode cX2_laysText 1 = .ok (.iconst 0, 1) := by decide +kernel
theorem dX2_laysText_2 : decode cX2_laysText 2 = .ok (.putfield 76, 3) := by decide +kernel
theorem dX2_laysText_5 : decode cX2_laysText 5 = .ok (.aload_n 0, 1) := by decide +kernel
theorem dX2_laysText_6 : decode cX2_laysText 6 = .ok (.iconst 0, 1) := by decide +kernel
theorem dX2_laysText_7 : decode cX2_laysText 7 = .ok (.putfield 73, 3) := by decide +kernel
theorem dX2_laysText_10 : decode cX2_laysText 10 = .ok (.aload_n 0, 1) := by decide +kernel
theorem dX2_laysText_11 : decode cX2_laysText 11 = .ok (.iload_n 1, 1) := by decide +kernel
theorem dX2_laysText_12 : decode cX2_laysText 12 = .ok (.iconst (-1), 1) := by decide +kernel
theorem dX2_laysText_13 : decode cX2_laysText 13 = .ok (.invokevirtual 79, 3) := by decide +kernel
theorem dX2_laysText_16 : decode cX2_laysText 16 = .ok (.aload_n 0, 1) := by decide +kernel
theorem dX2_laysText_17 : decode cX2_laysText 17 = .ok (.getfield 73, 3) := by decide +kernel
theorem dX2_laysText_20 : decode cX2_laysText 20 = .ok (.ifCond .le 65, 3) := by decide +kernel
theorem dX2_laysText_23 : decode cX2_laysText 23 = .ok (.aload_n 0, 1) := by decide +kernel
theorem dX2_laysText_24 : decode cX2_laysText 24 = .ok (.dup, 1) := by decide +kernel
theorem dX2_laysText_25 : decode cX2_laysText 25 = .ok (.getfield 73, 3) := by decide +kernel
theorem dX2_laysText_28 : decode cX2_laysText 28 = .ok (.iconst 1, 1) := by decide +kernel
theorem dX2_laysText_29 : decode cX2_laysText 29 = .ok (.isub, 1) := by decide +kernel
theorem dX2_laysText_30 : decode cX2_laysText 30 = .ok (.putfield 73, 3) := by decide +kernel
theorem dX2_laysText_33 : decode cX2_laysText 33 = .ok (.aload_n 0, 1) := by decide +kernel
theorem dX2_laysText_34 : decode cX2_laysText 34 = .ok (.getfield 48, 3) := by decide +kernel
theorem dX2_laysText_37 : decode cX2_laysText 37 = .ok (.aload_n 0, 1) := by decide +kernel
theorem dX2_laysText_38 : decode cX2_laysText 38 = .ok (.getfield 73, 3) := by decide +kernel
theorem dX2_laysText_41 : decode cX2_laysText 41 = .ok (.iaload, 1) := by decide +kernel
theorem dX2_laysText_42 : decode cX2_laysText 42 = .ok (.istore_n 2, 1) := by decide +kernel
theorem dX2_laysText_43 : decode cX2_laysText 43 = .ok (.aload_n 0, 1) := by decide +kernel
theorem dX2_laysText_44 : decode cX2_laysText 44 = .ok (.getfield 26, 3) := by decide +kernel
theorem dX2_laysText_47 : decode cX2_laysText 47 = .ok (.iload_n 1, 1) := by decide +kernel
theorem dX2_laysText_48 : decode cX2_laysText 48 = .ok (.iload_n 2, 1) := by decide +kernel
theorem dX2_laysText_49 : decode cX2_laysText 49 = .ok (.invokestatic 65, 3) := by decide +kernel
theorem dX2_laysText_52 : decode cX2_laysText 52 = .ok (.baload, 1) := by decide +kernel
theorem dX2_laysText_53 : decode cX2_laysText 53 = .ok (.ifCond .ne 23, 3) := by decide +kernel
theorem dX2_laysText_56 : decode cX2_laysText 56 = .ok (.aload_n 0, 1) := by decide +kernel
theorem dX2_laysText_57 : decode cX2_laysText 57 = .ok (.getfield 45, 3) := by decide +kernel
theorem dX2_laysText_60 : decode cX2_laysText 60 = .ok (.aload_n 0, 1) := by decide +kernel
theorem dX2_laysText_61 : decode cX2_laysText 61 = .ok (.getfield 76, 3) := by decide +kernel
theorem dX2_laysText_64 : decode cX2_laysText 64 = .ok (.iload_n 2, 1) := by decide +kernel
theorem dX2_laysText_65 : decode cX2_laysText 65 = .ok (.iastore, 1) := by decide +kernel
theorem dX2_laysText_66 : decode cX2_laysText 66 = .ok (.aload_n 0, 1) := by decide +kernel
theorem dX2_laysText_67 : decode cX2_laysText 67 = .ok (.dup, 1) := by decide +kernel
theorem dX2_laysText_68 : decode cX2_laysText 68 = .ok (.getfield 76, 3) := by decide +kernel
theorem dX2_laysText_71 : decode cX2_laysText 71 = .ok (.iconst 1, 1) := by decide +kernel
theorem dX2_laysText_72 : decode cX2_laysText 72 = .ok (.iadd, 1) := by decide +kernel
theorem dX2_laysText_73 : decode cX2_laysText 73 = .ok (.putfield 76, 3) := by decide +kernel
theorem dX2_laysText_76 : decode cX2_laysText 76 = .ok (.aload_n 0, 1) := by decide +kernel
theorem dX2_laysText_77 : decode cX2_laysText 77 = .ok (.iload_n 1, 1) := by decide +kernel
theorem dX2_laysText_78 : decode cX2_laysText 78 = .ok (.iload_n 2, 1) := by decide +kernel
theorem dX2_laysText_79 : decode cX2_laysText 79 = .ok (.invokevirtual 79, 3) := by decide +kernel
theorem dX2_laysText_82 : decode cX2_laysText 82 = .ok (.goto (-66), 3) := by decide +kernel
theorem dX2_laysText_85 : decode cX2_laysText 85 = .ok (.return_, 1) := by decide +kernel
theorem dX2_stamp_0 : decode cX2_stamp 0 = .ok (.aload_n 0, 1) := by decide +kernel
theorem dX2_stamp_1 : decode cX2_stamp 1 = .ok (.getfield 32, 3) := by decide +kernel
theorem dX2_stamp_4 : decode cX2_stamp 4 = .ok (.iload_n 1, 1) := by decide +kernel
theorem dX2_stamp_5 : decode cX2_stamp 5 = .ok (.dup2, 1) := by decide +kernel
theorem dX2_stamp_6 : decode cX2_stamp 6 = .ok (.iaload, 1) := by decide +kernel
theorem dX2_stamp_7 : decode cX2_stamp 7 = .ok (.iconst 1, 1) := by decide +kernel
theorem dX2_stamp_8 : decode cX2_stamp 8 = .ok (.iadd, 1) := by decide +kernel
theorem dX2_stamp_9 : decode cX2_stamp 9 = .ok (.iastore, 1) := by decide +kernel
theorem dX2_stamp_10 : decode cX2_stamp 10 = .ok (.iconst 4, 1) := by decide +kernel
theorem dX2_stamp_11 : decode cX2_stamp 11 = .ok (.aload_n 0, 1) := by decide +kernel
theorem dX2_stamp_12 : decode cX2_stamp 12 = .ok (.getfield 32, 3) := by decide +kernel
theorem dX2_stamp_15 : decode cX2_stamp 15 = .ok (.iload_n 1, 1) := by decide +kernel
theorem dX2_stamp_16 : decode cX2_stamp 16 = .ok (.iaload, 1) := by decide +kernel
theorem dX2_stamp_17 : decode cX2_stamp 17 = .ok (.imul, 1) := by decide +kernel
theorem dX2_stamp_18 : decode cX2_stamp 18 = .ok (.iload_n 1, 1) := by decide +kernel
theorem dX2_stamp_19 : decode cX2_stamp 19 = .ok (.iadd, 1) := by decide +kernel
theorem dX2_stamp_20 : decode cX2_stamp 20 = .ok (.ireturn, 1) := by decide +kernel
set_option maxRecDepth 20000 in
theorem ggX2_insert_X2_isAuthor : GoodIn wsX2_insert wsX2_isAuthor := goodIn_r _ [13, 14, 15, 12, 16] (by decide +kernel) (by decide +kernel)
set_option maxRecDepth 20000 in
theorem gX2_insert_X2_isAuthor : GoodIn wsX2_insert (va_wsS RX2 83 yX2_isAuthor wsX2_isAuthor) := goodIn_app (goodIn_of _ (by decide +kernel)) ggX2_insert_X2_isAuthor
set_option maxRecDepth 20000 in
theorem ggX2_insert_X2_isIn : GoodIn wsX2_insert wsX2_isIn := goodIn_r _ [16] (by decide +kernel) (by decide +kernel)
set_option maxRecDepth 20000 in
theorem gX2_insert_X2_isIn : GoodIn wsX2_insert (va_wsS RX2 55 yX2_isIn wsX2_isIn) := goodIn_app (goodIn_of _ (by decide +kernel)) ggX2_insert_X2_isIn
set_option maxRecDepth 20000 in
theorem ggX2_insert_X2_goes : GoodIn wsX2_insert wsX2_goes := goodIn_r _ [20, 21, 44, 45, 46, 47, 48, 49, 50, 51, 52, 53, 54, 55, 56, 57, 58, 59, 60, 61, 62] (by decide +kernel) (by decide +kernel)
set_option maxRecDepth 20000 in
theorem gX2_insert_X2_goes : GoodIn wsX2_insert (wsV RX2 87 RX2 yX2_goes wsX2_goes) := goodIn_app (goodIn_of _ (by decide +kernel)) ggX2_insert_X2_goes
set_option maxRecDepth 20000 in
theorem ggX2_insert_X2_laysText : GoodIn wsX2_insert wsX2_laysText := goodIn_r _ [25, 1, 26, 27, 28, 8, 29, 30, 31, 12, 32, 2, 9, 7, 33, 34, 35, 36, 37, 38, 39, 5, 3, 44, 45, 46, 47, 48, 49, 50, 51, 52, 53, 54, 55, 56, 57, 58, 59, 60, 61, 62] (by decide +kernel) (by decide +kernel)
set_option maxRecDepth 20000 in
theorem gX2_insert_X2_laysText : GoodIn wsX2_insert (wsV RX2 90 RX2 yX2_laysText wsX2_laysText) := goodIn_app (goodIn_of _ (by decide +kernel)) ggX2_insert_X2_laysText
set_option maxRecDepth 20000 in
theorem ggX2_insert_X2_stamp : GoodIn wsX2_insert wsX2_stamp := goodIn_r _ [43, 6, 44, 45, 46, 47, 48, 49, 50, 51, 52, 53, 54, 55, 56, 57, 58, 59, 60, 61, 62] (by decide +kernel) (by decide +kernel)
set_option maxRecDepth 20000 in
theorem gX2_insert_X2_stamp : GoodIn wsX2_insert (wsV RX2 94 RX2 yX2_stamp wsX2_stamp) := goodIn_app (goodIn_of _ (by decide +kernel)) ggX2_insert_X2_stamp
set_option maxRecDepth 20000 in
theorem ggX2_insert_X2_at : GoodIn wsX2_insert wsX2_at := goodIn_r _ [35] (by decide +kernel) (by decide +kernel)
set_option maxRecDepth 20000 in
theorem gX2_insert_X2_at : GoodIn wsX2_insert (va_wsS RX2 65 yX2_at wsX2_at) := goodIn_app (goodIn_of _ (by decide +kernel)) ggX2_insert_X2_at
theorem dX2_insert_0 : decode cX2_insert 0 = .ok (.aload_n 0, 1) := by decide +kernel
theorem dX2_insert_1 : decode cX2_insert 1 = .ok (.iload_n 1, 1) := by decide +kernel
theorem dX2_insert_2 : decode cX2_insert 2 = .ok (.invokestatic 83, 3) := by decide +kernel
theorem dX2_insert_5 : decode cX2_insert 5 = .ok (.ifCond .eq 17, 3) := by decide +kernel
theorem dX2_insert_8 : decode cX2_insert 8 = .ok (.iload_n 3, 1) := by decide +kernel
theorem dX2_insert_9 : decode cX2_insert 9 = .ok (.iconst 0, 1) := by decide +kernel
theorem dX2_insert_10 : decode cX2_insert 10 = .ok (.bipush 25, 2) := by decide +kernel
theorem dX2_insert_12 : decode cX2_insert 12 = .ok (.invokestatic 55, 3) := by decide +kernel
theorem dX2_insert_15 : decode cX2_insert 15 = .ok (.ifCond .eq 7, 3) := by decide +kernel
theorem dX2_insert_18 : decode cX2_insert 18 = .ok (.iconst 0, 1) := by decide +kernel
theorem dX2_insert_19 : decode cX2_insert 19 = .ok (.goto 4, 3) := by decide +kernel
theorem dX2_insert_22 : decode cX2_insert 22 = .ok (.iconst 1, 1) := by decide +kernel
theorem dX2_insert_23 : decode cX2_insert 23 = .ok (.invokevirtual 87, 3) := by decide +kernel
theorem dX2_insert_26 : decode cX2_insert 26 = .ok (.ifCond .ne 5, 3) := by decide +kernel
theorem dX2_insert_29 : decode cX2_insert 29 = .ok (.iconst 0, 1) := by decide +kernel
theorem dX2_insert_30 : decode cX2_insert 30 = .ok (.ireturn, 1) := by decide +kernel
theorem dX2_insert_31 : decode cX2_insert 31 = .ok (.aload_n 0, 1) := by decide +kernel
theorem dX2_insert_32 : decode cX2_insert 32 = .ok (.iload_n 1, 1) := by decide +kernel
theorem dX2_insert_33 : decode cX2_insert 33 = .ok (.invokevirtual 90, 3) := by decide +kernel
theorem dX2_insert_36 : decode cX2_insert 36 = .ok (.aload_n 0, 1) := by decide +kernel
theorem dX2_insert_37 : decode cX2_insert 37 = .ok (.iload_n 2, 1) := by decide +kernel
theorem dX2_insert_38 : decode cX2_insert 38 = .ok (.iconst 0, 1) := by decide +kernel
theorem dX2_insert_39 : decode cX2_insert 39 = .ok (.aload_n 0, 1) := by decide +kernel
theorem dX2_insert_40 : decode cX2_insert 40 = .ok (.getfield 76, 3) := by decide +kernel
theorem dX2_insert_43 : decode cX2_insert 43 = .ok (.invokestatic 55, 3) := by decide +kernel
theorem dX2_insert_46 : decode cX2_insert 46 = .ok (.ifCond .ne 7, 3) := by decide +kernel
theorem dX2_insert_49 : decode cX2_insert 49 = .ok (.iconst 2, 1) := by decide +kernel
theorem dX2_insert_50 : decode cX2_insert 50 = .ok (.goto 17, 3) := by decide +kernel
theorem dX2_insert_53 : decode cX2_insert 53 = .ok (.aload_n 0, 1) := by decide +kernel
theorem dX2_insert_54 : decode cX2_insert 54 = .ok (.getfield 59, 3) := by decide +kernel
theorem dX2_insert_57 : decode cX2_insert 57 = .ok (.bipush 60, 2) := by decide +kernel
theorem dX2_insert_59 : decode cX2_insert 59 = .ok (.if_icmp .ne 7, 3) := by decide +kernel
theorem dX2_insert_62 : decode cX2_insert 62 = .ok (.iconst 3, 1) := by decide +kernel
theorem dX2_insert_63 : decode cX2_insert 63 = .ok (.goto 4, 3) := by decide +kernel
theorem dX2_insert_66 : decode cX2_insert 66 = .ok (.iconst 0, 1) := by decide +kernel
theorem dX2_insert_67 : decode cX2_insert 67 = .ok (.invokevirtual 87, 3) := by decide +kernel
theorem dX2_insert_70 : decode cX2_insert 70 = .ok (.ifCond .ne 5, 3) := by decide +kernel
theorem dX2_insert_73 : decode cX2_insert 73 = .ok (.iconst 0, 1) := by decide +kernel
theorem dX2_insert_74 : decode cX2_insert 74 = .ok (.ireturn, 1) := by decide +kernel
theorem dX2_insert_75 : decode cX2_insert 75 = .ok (.aload_n 0, 1) := by decide +kernel
theorem dX2_insert_76 : decode cX2_insert 76 = .ok (.iload_n 1, 1) := by decide +kernel
theorem dX2_insert_77 : decode cX2_insert 77 = .ok (.invokevirtual 94, 3) := by decide +kernel
theorem dX2_insert_80 : decode cX2_insert 80 = .ok (.pop, 1) := by decide +kernel
theorem dX2_insert_81 : decode cX2_insert 81 = .ok (.aload_n 0, 1) := by decide +kernel
theorem dX2_insert_82 : decode cX2_insert 82 = .ok (.getfield 7, 3) := by decide +kernel
theorem dX2_insert_85 : decode cX2_insert 85 = .ok (.aload_n 0, 1) := by decide +kernel
theorem dX2_insert_86 : decode cX2_insert 86 = .ok (.getfield 59, 3) := by decide +kernel
theorem dX2_insert_89 : decode cX2_insert 89 = .ok (.iload_n 1, 1) := by decide +kernel
theorem dX2_insert_90 : decode cX2_insert 90 = .ok (.iastore, 1) := by decide +kernel
theorem dX2_insert_91 : decode cX2_insert 91 = .ok (.aload_n 0, 1) := by decide +kernel
theorem dX2_insert_92 : decode cX2_insert 92 = .ok (.getfield 13, 3) := by decide +kernel
theorem dX2_insert_95 : decode cX2_insert 95 = .ok (.aload_n 0, 1) := by decide +kernel
theorem dX2_insert_96 : decode cX2_insert 96 = .ok (.getfield 59, 3) := by decide +kernel
theorem dX2_insert_99 : decode cX2_insert 99 = .ok (.iload_n 3, 1) := by decide +kernel
theorem dX2_insert_100 : decode cX2_insert 100 = .ok (.iastore, 1) := by decide +kernel
theorem dX2_insert_101 : decode cX2_insert 101 = .ok (.aload_n 0, 1) := by decide +kernel
theorem dX2_insert_102 : decode cX2_insert 102 = .ok (.getfield 16, 3) := by decide +kernel
theorem dX2_insert_105 : decode cX2_insert 105 = .ok (.aload_n 0, 1) := by decide +kernel
theorem dX2_insert_106 : decode cX2_insert 106 = .ok (.getfield 59, 3) := by decide +kernel
theorem dX2_insert_109 : decode cX2_insert 109 = .ok (.aload_n 0, 1) := by decide +kernel
theorem dX2_insert_110 : decode cX2_insert 110 = .ok (.getfield 32, 3) := by decide +kernel
theorem dX2_insert_113 : decode cX2_insert 113 = .ok (.iload_n 1, 1) := by decide +kernel
theorem dX2_insert_114 : decode cX2_insert 114 = .ok (.iaload, 1) := by decide +kernel
theorem dX2_insert_115 : decode cX2_insert 115 = .ok (.iastore, 1) := by decide +kernel
theorem dX2_insert_116 : decode cX2_insert 116 = .ok (.aload_n 0, 1) := by decide +kernel
theorem dX2_insert_117 : decode cX2_insert 117 = .ok (.getfield 19, 3) := by decide +kernel
theorem dX2_insert_120 : decode cX2_insert 120 = .ok (.aload_n 0, 1) := by decide +kernel
theorem dX2_insert_121 : decode cX2_insert 121 = .ok (.getfield 59, 3) := by decide +kernel
theorem dX2_insert_124 : decode cX2_insert 124 = .ok (.iload_n 2, 1) := by decide +kernel
theorem dX2_insert_125 : decode cX2_insert 125 = .ok (.ifCond .ne 7, 3) := by decide +kernel
theorem dX2_insert_128 : decode cX2_insert 128 = .ok (.iconst (-1), 1) := by decide +kernel
theorem dX2_insert_129 : decode cX2_insert 129 = .ok (.goto 11, 3) := by decide +kernel
theorem dX2_insert_132 : decode cX2_insert 132 = .ok (.aload_n 0, 1) := by decide +kernel
theorem dX2_insert_133 : decode cX2_insert 133 = .ok (.getfield 45, 3) := by decide +kernel
theorem dX2_insert_136 : decode cX2_insert 136 = .ok (.iload_n 2, 1) := by decide +kernel
theorem dX2_insert_137 : decode cX2_insert 137 = .ok (.iconst 1, 1) := by decide +kernel
theorem dX2_insert_138 : decode cX2_insert 138 = .ok (.isub, 1) := by decide +kernel
theorem dX2_insert_139 : decode cX2_insert 139 = .ok (.iaload, 1) := by decide +kernel
theorem dX2_insert_140 : decode cX2_insert 140 = .ok (.iastore, 1) := by decide +kernel
theorem dX2_insert_141 : decode cX2_insert 141 = .ok (.aload_n 0, 1) := by decide +kernel
theorem dX2_insert_142 : decode cX2_insert 142 = .ok (.getfield 22, 3) := by decide +kernel
theorem dX2_insert_145 : decode cX2_insert 145 = .ok (.iload_n 1, 1) := by decide +kernel
theorem dX2_insert_146 : decode cX2_insert 146 = .ok (.aload_n 0, 1) := by decide +kernel
theorem dX2_insert_147 : decode cX2_insert 147 = .ok (.getfield 59, 3) := by decide +kernel
theorem dX2_insert_150 : decode cX2_insert 150 = .ok (.invokestatic 65, 3) := by decide +kernel
theorem dX2_insert_153 : decode cX2_insert 153 = .ok (.iconst 1, 1) := by decide +kernel
theorem dX2_insert_154 : decode cX2_insert 154 = .ok (.bastore, 1) := by decide +kernel
theorem dX2_insert_155 : decode cX2_insert 155 = .ok (.aload_n 0, 1) := by decide +kernel
theorem dX2_insert_156 : decode cX2_insert 156 = .ok (.dup, 1) := by decide +kernel
theorem dX2_insert_157 : decode cX2_insert 157 = .ok (.getfield 59, 3) := by decide +kernel
theorem dX2_insert_160 : decode cX2_insert 160 = .ok (.iconst 1, 1) := by decide +kernel
theorem dX2_insert_161 : decode cX2_insert 161 = .ok (.iadd, 1) := by decide +kernel
theorem dX2_insert_162 : decode cX2_insert 162 = .ok (.putfield 59, 3) := by decide +kernel
theorem dX2_insert_165 : decode cX2_insert 165 = .ok (.aload_n 0, 1) := by decide +kernel
theorem dX2_insert_166 : decode cX2_insert 166 = .ok (.getfield 59, 3) := by decide +kernel
theorem dX2_insert_169 : decode cX2_insert 169 = .ok (.iconst 1, 1) := by decide +kernel
theorem dX2_insert_170 : decode cX2_insert 170 = .ok (.isub, 1) := by decide +kernel
theorem dX2_insert_171 : decode cX2_insert 171 = .ok (.ireturn, 1) := by decide +kernel
set_option maxRecDepth 20000 in
theorem ggX2_remove_X2_isAuthor : GoodIn wsX2_remove wsX2_isAuthor := goodIn_r _ [8, 9, 10, 7, 11] (by decide +kernel) (by decide +kernel)
set_option maxRecDepth 20000 in
theorem gX2_remove_X2_isAuthor : GoodIn wsX2_remove (va_wsS RX2 83 yX2_isAuthor wsX2_isAuthor) := goodIn_app (goodIn_of _ (by decide +kernel)) ggX2_remove_X2_isAuthor
set_option maxRecDepth 20000 in
theorem ggX2_remove_X2_goes : GoodIn wsX2_remove wsX2_goes := goodIn_r _ [15, 16, 44, 45, 46, 47, 48, 49, 50, 51, 52, 53, 54, 55, 56, 57, 58, 59, 60, 61, 62] (by decide +kernel) (by decide +kernel)
set_option maxRecDepth 20000 in
theorem gX2_remove_X2_goes : GoodIn wsX2_remove (wsV RX2 87 RX2 yX2_goes wsX2_goes) := goodIn_app (goodIn_of _ (by decide +kernel)) ggX2_remove_X2_goes
set_option maxRecDepth 20000 in
theorem ggX2_remove_X2_laysText : GoodIn wsX2_remove wsX2_laysText := goodIn_r _ [20, 1, 21, 22, 3, 2, 23, 24, 25, 7, 26, 27, 28, 29, 30, 31, 32, 33, 34, 35, 36, 37, 38, 44, 45, 46, 47, 48, 49, 50, 51, 52, 53, 54, 55, 56, 57, 58, 59, 60, 61, 62] (by decide +kernel) (by decide +kernel)
set_option maxRecDepth 20000 in
theorem gX2_remove_X2_laysText : GoodIn wsX2_remove (wsV RX2 90 RX2 yX2_laysText wsX2_laysText) := goodIn_app (goodIn_of _ (by decide +kernel)) ggX2_remove_X2_laysText
set_option maxRecDepth 20000 in
theorem ggX2_remove_X2_isIn : GoodIn wsX2_remove wsX2_isIn := goodIn_r _ [11] (by decide +kernel) (by decide +kernel)
set_option maxRecDepth 20000 in
theorem gX2_remove_X2_isIn : GoodIn wsX2_remove (va_wsS RX2 55 yX2_isIn wsX2_isIn) := goodIn_app (goodIn_of _ (by decide +kernel)) ggX2_remove_X2_isIn
set_option maxRecDepth 20000 in
theorem ggX2_remove_X2_at : GoodIn wsX2_remove wsX2_at := goodIn_r _ [32] (by decide +kernel) (by decide +kernel)
set_option maxRecDepth 20000 in
theorem gX2_remove_X2_at : GoodIn wsX2_remove (va_wsS RX2 65 yX2_at wsX2_at) := goodIn_app (goodIn_of _ (by decide +kernel)) ggX2_remove_X2_at
set_option maxRecDepth 20000 in
theorem ggX2_remove_X2_stamp : GoodIn wsX2_remove wsX2_stamp := goodIn_r _ [42, 43, 44, 45, 46, 47, 48, 49, 50, 51, 52, 53, 54, 55, 56, 57, 58, 59, 60, 61, 62] (by decide +kernel) (by decide +kernel)
set_option maxRecDepth 20000 in
theorem gX2_remove_X2_stamp : GoodIn wsX2_remove (wsV RX2 94 RX2 yX2_stamp wsX2_stamp) := goodIn_app (goodIn_of _ (by decide +kernel)) ggX2_remove_X2_stamp
theorem dX2_remove_0 : decode cX2_remove 0 = .ok (.aload_n 0, 1) := by decide +kernel
theorem dX2_remove_1 : decode cX2_remove 1 = .ok (.iload_n 1, 1) := by decide +kernel
theorem dX2_remove_2 : decode cX2_remove 2 = .ok (.invokestatic 83, 3) := by decide +kernel
theorem dX2_remove_5 : decode cX2_remove 5 = .ok (.ifCond .eq 7, 3) := by decide +kernel
theorem dX2_remove_8 : decode cX2_remove 8 = .ok (.iconst 0, 1) := by decide +kernel
theorem dX2_remove_9 : decode cX2_remove 9 = .ok (.goto 4, 3) := by decide +kernel
theorem dX2_remove_12 : decode cX2_remove 12 = .ok (.iconst 1, 1) := by decide +kernel
theorem dX2_remove_13 : decode cX2_remove 13 = .ok (.invokevirtual 87, 3) := by decide +kernel
theorem dX2_remove_16 : decode cX2_remove 16 = .ok (.ifCond .ne 5, 3) := by decide +kernel
theorem dX2_remove_19 : decode cX2_remove 19 = .ok (.iconst 0, 1) := by decide +kernel
theorem dX2_remove_20 : decode cX2_remove 20 = .ok (.ireturn, 1) := by decide +kernel
theorem dX2_remove_21 : decode cX2_remove 21 = .ok (.aload_n 0, 1) := by decide +kernel
theorem dX2_remove_22 : decode cX2_remove 22 = .ok (.iload_n 1, 1) := by decide +kernel
theorem dX2_remove_23 : decode cX2_remove 23 = .ok (.invokevirtual 90, 3) := by decide +kernel
theorem dX2_remove_26 : decode cX2_remove 26 = .ok (.aload_n 0, 1) := by decide +kernel
theorem dX2_remove_27 : decode cX2_remove 27 = .ok (.iload_n 2, 1) := by decide +kernel
theorem dX2_remove_28 : decode cX2_remove 28 = .ok (.iconst 0, 1) := by decide +kernel
theorem dX2_remove_29 : decode cX2_remove 29 = .ok (.aload_n 0, 1) := by decide +kernel
theorem dX2_remove_30 : decode cX2_remove 30 = .ok (.getfield 76, 3) := by decide +kernel
theorem dX2_remove_33 : decode cX2_remove 33 = .ok (.iconst 1, 1) := by decide +kernel
theorem dX2_remove_34 : decode cX2_remove 34 = .ok (.isub, 1) := by decide +kernel
theorem dX2_remove_35 : decode cX2_remove 35 = .ok (.invokestatic 55, 3) := by decide +kernel
theorem dX2_remove_38 : decode cX2_remove 38 = .ok (.ifCond .eq 7, 3) := by decide +kernel
theorem dX2_remove_41 : decode cX2_remove 41 = .ok (.iconst 0, 1) := by decide +kernel
theorem dX2_remove_42 : decode cX2_remove 42 = .ok (.goto 4, 3) := by decide +kernel
theorem dX2_remove_45 : decode cX2_remove 45 = .ok (.iconst 2, 1) := by decide +kernel
theorem dX2_remove_46 : decode cX2_remove 46 = .ok (.invokevirtual 87, 3) := by decide +kernel
theorem dX2_remove_49 : decode cX2_remove 49 = .ok (.ifCond .ne 5, 3) := by decide +kernel
theorem dX2_remove_52 : decode cX2_remove 52 = .ok (.iconst 0, 1) := by decide +kernel
theorem dX2_remove_53 : decode cX2_remove 53 = .ok (.ireturn, 1) := by decide +kernel
theorem dX2_remove_54 : decode cX2_remove 54 = .ok (.aload_n 0, 1) := by decide +kernel
theorem dX2_remove_55 : decode cX2_remove 55 = .ok (.getfield 45, 3) := by decide +kernel
theorem dX2_remove_58 : decode cX2_remove 58 = .ok (.iload_n 2, 1) := by decide +kernel
theorem dX2_remove_59 : decode cX2_remove 59 = .ok (.iaload, 1) := by decide +kernel
theorem dX2_remove_60 : decode cX2_remove 60 = .ok (.istore_n 3, 1) := by decide +kernel
theorem dX2_remove_61 : decode cX2_remove 61 = .ok (.aload_n 0, 1) := by decide +kernel
theorem dX2_remove_62 : decode cX2_remove 62 = .ok (.getfield 26, 3) := by decide +kernel
theorem dX2_remove_65 : decode cX2_remove 65 = .ok (.iload_n 1, 1) := by decide +kernel
theorem dX2_remove_66 : decode cX2_remove 66 = .ok (.iload_n 3, 1) := by decide +kernel
theorem dX2_remove_67 : decode cX2_remove 67 = .ok (.invokestatic 65, 3) := by decide +kernel
theorem dX2_remove_70 : decode cX2_remove 70 = .ok (.iconst 1, 1) := by decide +kernel
theorem dX2_remove_71 : decode cX2_remove 71 = .ok (.bastore, 1) := by decide +kernel
theorem dX2_remove_72 : decode cX2_remove 72 = .ok (.aload_n 0, 1) := by decide +kernel
theorem dX2_remove_73 : decode cX2_remove 73 = .ok (.getfield 29, 3) := by decide +kernel
theorem dX2_remove_76 : decode cX2_remove 76 = .ok (.iload_n 1, 1) := by decide +kernel
theorem dX2_remove_77 : decode cX2_remove 77 = .ok (.iload_n 3, 1) := by decide +kernel
theorem dX2_remove_78 : decode cX2_remove 78 = .ok (.invokestatic 65, 3) := by decide +kernel
theorem dX2_remove_81 : decode cX2_remove 81 = .ok (.aload_n 0, 1) := by decide +kernel
theorem dX2_remove_82 : decode cX2_remove 82 = .ok (.iload_n 1, 1) := by decide +kernel
theorem dX2_remove_83 : decode cX2_remove 83 = .ok (.invokevirtual 94, 3) := by decide +kernel
theorem dX2_remove_86 : decode cX2_remove 86 = .ok (.iastore, 1) := by decide +kernel
theorem dX2_remove_87 : decode cX2_remove 87 = .ok (.iload_n 3, 1) := by decide +kernel
theorem dX2_remove_88 : decode cX2_remove 88 = .ok (.ireturn, 1) := by decide +kernel
theorem dX2_placeOf_0 : decode cX2_placeOf 0 = .ok (.iconst (-1), 1) := by decide +kernel
theorem dX2_placeOf_1 : decode cX2_placeOf 1 = .ok (.istore_n 2, 1) := by decide +kernel
theorem dX2_placeOf_2 : decode cX2_placeOf 2 = .ok (.iconst 0, 1) := by decide +kernel
theorem dX2_placeOf_3 : decode cX2_placeOf 3 = .ok (.istore_n 3, 1) := by decide +kernel
theorem dX2_placeOf_4 : decode cX2_placeOf 4 = .ok (.iload_n 3, 1) := by decide +kernel
theorem dX2_placeOf_5 : decode cX2_placeOf 5 = .ok (.aload_n 0, 1) := by decide +kernel
theorem dX2_placeOf_6 : decode cX2_placeOf 6 = .ok (.getfield 76, 3) := by decide +kernel
theorem dX2_placeOf_9 : decode cX2_placeOf 9 = .ok (.if_icmp .ge 25, 3) := by decide +kernel
theorem dX2_placeOf_12 : decode cX2_placeOf 12 = .ok (.aload_n 0, 1) := by decide +kernel
theorem dX2_placeOf_13 : decode cX2_placeOf 13 = .ok (.getfield 45, 3) := by decide +kernel
theorem dX2_placeOf_16 : decode cX2_placeOf 16 = .ok (.iload_n 3, 1) := by decide +kernel
theorem dX2_placeOf_17 : decode cX2_placeOf 17 = .ok (.iaload, 1) := by decide +kernel
theorem dX2_placeOf_18 : decode cX2_placeOf 18 = .ok (.iload_n 1, 1) := by decide +kernel
theorem dX2_placeOf_19 : decode cX2_placeOf 19 = .ok (.if_icmp .ne 7, 3) := by decide +kernel
theorem dX2_placeOf_22 : decode cX2_placeOf 22 = .ok (.iload_n 3, 1) := by decide +kernel
theorem dX2_placeOf_23 : decode cX2_placeOf 23 = .ok (.goto 4, 3) := by decide +kernel
theorem dX2_placeOf_26 : decode cX2_placeOf 26 = .ok (.iload_n 2, 1) := by decide +kernel
theorem dX2_placeOf_27 : decode cX2_placeOf 27 = .ok (.istore_n 2, 1) := by decide +kernel
theorem dX2_placeOf_28 : decode cX2_placeOf 28 = .ok (.iinc 3 1, 3) := by decide +kernel
theorem dX2_placeOf_31 : decode cX2_placeOf 31 = .ok (.goto (-27), 3) := by decide +kernel
theorem dX2_placeOf_34 : decode cX2_placeOf 34 = .ok (.iload_n 2, 1) := by decide +kernel
theorem dX2_placeOf_35 : decode cX2_placeOf 35 = .ok (.ireturn, 1) := by decide +kernel
set_option maxRecDepth 20000 in
theorem ggX2_restore_X2_isSign : GoodIn wsX2_restore wsX2_isSign := goodIn_r _ [8, 9, 10, 11, 7, 12, 52, 53, 54, 55, 56, 57, 58, 59, 60, 61, 62, 63, 64, 65, 66, 67, 68, 69, 70] (by decide +kernel) (by decide +kernel)
set_option maxRecDepth 20000 in
theorem gX2_restore_X2_isSign : GoodIn wsX2_restore (wsV RX2 97 RX2 yX2_isSign wsX2_isSign) := goodIn_app (goodIn_of _ (by decide +kernel)) ggX2_restore_X2_isSign
set_option maxRecDepth 20000 in
theorem ggX2_restore_X2_isAuthor : GoodIn wsX2_restore wsX2_isAuthor := goodIn_r _ [15, 10, 11, 7, 12] (by decide +kernel) (by decide +kernel)
set_option maxRecDepth 20000 in
theorem gX2_restore_X2_isAuthor : GoodIn wsX2_restore (va_wsS RX2 83 yX2_isAuthor wsX2_isAuthor) := goodIn_app (goodIn_of _ (by decide +kernel)) ggX2_restore_X2_isAuthor
set_option maxRecDepth 20000 in
theorem ggX2_restore_X2_at : GoodIn wsX2_restore wsX2_at := goodIn_r _ [18] (by decide +kernel) (by decide +kernel)
set_option maxRecDepth 20000 in
theorem gX2_restore_X2_at : GoodIn wsX2_restore (va_wsS RX2 65 yX2_at wsX2_at) := goodIn_app (goodIn_of _ (by decide +kernel)) ggX2_restore_X2_at
set_option maxRecDepth 20000 in
theorem ggX2_restore_X2_goes : GoodIn wsX2_restore wsX2_goes := goodIn_r _ [22, 23, 52, 53, 54, 55, 56, 57, 58, 59, 60, 61, 62, 63, 64, 65, 66, 67, 68, 69, 70] (by decide +kernel) (by decide +kernel)
set_option maxRecDepth 20000 in
theorem gX2_restore_X2_goes : GoodIn wsX2_restore (wsV RX2 87 RX2 yX2_goes wsX2_goes) := goodIn_app (goodIn_of _ (by decide +kernel)) ggX2_restore_X2_goes
set_option maxRecDepth 20000 in
theorem ggX2_restore_X2_stamp : GoodIn wsX2_restore wsX2_stamp := goodIn_r _ [27, 28, 52, 53, 54, 55, 56, 57, 58, 59, 60, 61, 62, 63, 64, 65, 66, 67, 68, 69, 70] (by decide +kernel) (by decide +kernel)
set_option maxRecDepth 20000 in
theorem gX2_restore_X2_stamp : GoodIn wsX2_restore (wsV RX2 94 RX2 yX2_stamp wsX2_stamp) := goodIn_app (goodIn_of _ (by decide +kernel)) ggX2_restore_X2_stamp
set_option maxRecDepth 20000 in
theorem ggX2_restore_X2_laysText : GoodIn wsX2_restore wsX2_laysText := goodIn_r _ [32, 33, 34, 35, 2, 36, 37, 38, 39, 7, 40, 9, 1, 41, 16, 17, 18, 42, 43, 44, 45, 46, 47, 52, 53, 54, 55, 56, 57, 58, 59, 60, 61, 62, 63, 64, 65, 66, 67, 68, 69, 70] (by decide +kernel) (by decide +kernel)
set_option maxRecDepth 20000 in
theorem gX2_restore_X2_laysText : GoodIn wsX2_restore (wsV RX2 90 RX2 yX2_laysText wsX2_laysText) := goodIn_app (goodIn_of _ (by decide +kernel)) ggX2_restore_X2_laysText
set_option maxRecDepth 20000 in
theorem ggX2_restore_X2_placeOf : GoodIn wsX2_restore wsX2_placeOf := goodIn_r _ [51, 33, 36, 52, 53, 54, 55, 56, 57, 58, 59, 60, 61, 62, 63, 64, 65, 66, 67, 68, 69, 70] (by decide +kernel) (by decide +kernel)
set_option maxRecDepth 20000 in
theorem gX2_restore_X2_placeOf : GoodIn wsX2_restore (wsV RX2 100 RX2 yX2_placeOf wsX2_placeOf) := goodIn_app (goodIn_of _ (by decide +kernel)) ggX2_restore_X2_placeOf
theorem dX2_restore_0 : decode cX2_restore 0 = .ok (.aload_n 0, 1) := by decide +kernel
theorem dX2_restore_1 : decode cX2_restore 1 = .ok (.aload_n 0, 1) := by decide +kernel
theorem dX2_restore_2 : decode cX2_restore 2 = .ok (.iload_n 2, 1) := by decide +kernel
theorem dX2_restore_3 : decode cX2_restore 3 = .ok (.invokevirtual 97, 3) := by decide +kernel
theorem dX2_restore_6 : decode cX2_restore 6 = .ok (.ifCond .ne 7, 3) := by decide +kernel
theorem dX2_restore_9 : decode cX2_restore 9 = .ok (.iconst 1, 1) := by decide +kernel
theorem dX2_restore_10 : decode cX2_restore 10 = .ok (.goto 45, 3) := by decide +kernel
theorem dX2_restore_13 : decode cX2_restore 13 = .ok (.iload_n 1, 1) := by decide +kernel
theorem dX2_restore_14 : decode cX2_restore 14 = .ok (.invokestatic 83, 3) := by decide +kernel
theorem dX2_restore_17 : decode cX2_restore 17 = .ok (.ifCond .ne 7, 3) := by decide +kernel
theorem dX2_restore_20 : decode cX2_restore 20 = .ok (.iconst 2, 1) := by decide +kernel
theorem dX2_restore_21 : decode cX2_restore 21 = .ok (.goto 34, 3) := by decide +kernel
theorem dX2_restore_24 : decode cX2_restore 24 = .ok (.aload_n 0, 1) := by decide +kernel
theorem dX2_restore_25 : decode cX2_restore 25 = .ok (.getfield 22, 3) := by decide +kernel
theorem dX2_restore_28 : decode cX2_restore 28 = .ok (.iload_n 1, 1) := by decide +kernel
theorem dX2_restore_29 : decode cX2_restore 29 = .ok (.iload_n 2, 1) := by decide +kernel
theorem dX2_restore_30 : decode cX2_restore 30 = .ok (.invokestatic 65, 3) := by decide +kernel
theorem dX2_restore_33 : decode cX2_restore 33 = .ok (.baload, 1) := by decide +kernel
theorem dX2_restore_34 : decode cX2_restore 34 = .ok (.ifCond .eq 20, 3) := by decide +kernel
theorem dX2_restore_37 : decode cX2_restore 37 = .ok (.aload_n 0, 1) := by decide +kernel
theorem dX2_restore_38 : decode cX2_restore 38 = .ok (.getfield 26, 3) := by decide +kernel
theorem dX2_restore_41 : decode cX2_restore 41 = .ok (.iload_n 1, 1) := by decide +kernel
theorem dX2_restore_42 : decode cX2_restore 42 = .ok (.iload_n 2, 1) := by decide +kernel
theorem dX2_restore_43 : decode cX2_restore 43 = .ok (.invokestatic 65, 3) := by decide +kernel
theorem dX2_restore_46 : decode cX2_restore 46 = .ok (.baload, 1) := by decide +kernel
theorem dX2_restore_47 : decode cX2_restore 47 = .ok (.ifCond .eq 7, 3) := by decide +kernel
theorem dX2_restore_50 : decode cX2_restore 50 = .ok (.iconst 0, 1) := by decide +kernel
theorem dX2_restore_51 : decode cX2_restore 51 = .ok (.goto 4, 3) := by decide +kernel
theorem dX2_restore_54 : decode cX2_restore 54 = .ok (.iconst 3, 1) := by decide +kernel
theorem dX2_restore_55 : decode cX2_restore 55 = .ok (.invokevirtual 87, 3) := by decide +kernel
theorem dX2_restore_58 : decode cX2_restore 58 = .ok (.ifCond .ne 5, 3) := by decide +kernel
theorem dX2_restore_61 : decode cX2_restore 61 = .ok (.iconst 0, 1) := by decide +kernel
theorem dX2_restore_62 : decode cX2_restore 62 = .ok (.ireturn, 1) := by decide +kernel
theorem dX2_restore_63 : decode cX2_restore 63 = .ok (.aload_n 0, 1) := by decide +kernel
theorem dX2_restore_64 : decode cX2_restore 64 = .ok (.getfield 26, 3) := by decide +kernel
theorem dX2_restore_67 : decode cX2_restore 67 = .ok (.iload_n 1, 1) := by decide +kernel
theorem dX2_restore_68 : decode cX2_restore 68 = .ok (.iload_n 2, 1) := by decide +kernel
theorem dX2_restore_69 : decode cX2_restore 69 = .ok (.invokestatic 65, 3) := by decide +kernel
theorem dX2_restore_72 : decode cX2_restore 72 = .ok (.iconst 0, 1) := by decide +kernel
theorem dX2_restore_73 : decode cX2_restore 73 = .ok (.bastore, 1) := by decide +kernel
theorem dX2_restore_74 : decode cX2_restore 74 = .ok (.aload_n 0, 1) := by decide +kernel
theorem dX2_restore_75 : decode cX2_restore 75 = .ok (.getfield 29, 3) := by decide +kernel
theorem dX2_restore_78 : decode cX2_restore 78 = .ok (.iload_n 1, 1) := by decide +kernel
theorem dX2_restore_79 : decode cX2_restore 79 = .ok (.iload_n 2, 1) := by decide +kernel
theorem dX2_restore_80 : decode cX2_restore 80 = .ok (.invokestatic 65, 3) := by decide +kernel
theorem dX2_restore_83 : decode cX2_restore 83 = .ok (.aload_n 0, 1) := by decide +kernel
theorem dX2_restore_84 : decode cX2_restore 84 = .ok (.iload_n 1, 1) := by decide +kernel
theorem dX2_restore_85 : decode cX2_restore 85 = .ok (.invokevirtual 94, 3) := by decide +kernel
theorem dX2_restore_88 : decode cX2_restore 88 = .ok (.iastore, 1) := by decide +kernel
theorem dX2_restore_89 : decode cX2_restore 89 = .ok (.aload_n 0, 1) := by decide +kernel
theorem dX2_restore_90 : decode cX2_restore 90 = .ok (.iload_n 1, 1) := by decide +kernel
theorem dX2_restore_91 : decode cX2_restore 91 = .ok (.invokevirtual 90, 3) := by decide +kernel
theorem dX2_restore_94 : decode cX2_restore 94 = .ok (.aload_n 0, 1) := by decide +kernel
theorem dX2_restore_95 : decode cX2_restore 95 = .ok (.iload_n 2, 1) := by decide +kernel
theorem dX2_restore_96 : decode cX2_restore 96 = .ok (.invokevirtual 100, 3) := by decide +kernel
theorem dX2_restore_99 : decode cX2_restore 99 = .ok (.ireturn, 1) := by decide +kernel
set_option maxRecDepth 20000 in
theorem ggX2_learn_X2_isAuthor : GoodIn wsX2_learn wsX2_isAuthor := goodIn_r _ [9, 10, 11, 8, 12] (by decide +kernel) (by decide +kernel)
set_option maxRecDepth 20000 in
theorem gX2_learn_X2_isAuthor : GoodIn wsX2_learn (va_wsS RX2 83 yX2_isAuthor wsX2_isAuthor) := goodIn_app (goodIn_of _ (by decide +kernel)) ggX2_learn_X2_isAuthor
set_option maxRecDepth 20000 in
theorem ggX2_learn_X2_goes : GoodIn wsX2_learn wsX2_goes := goodIn_r _ [16, 17, 21, 22, 23, 24, 25, 26, 27, 28, 29, 30, 31, 32, 33, 34, 35, 36, 37, 38, 39] (by decide +kernel) (by decide +kernel)
set_option maxRecDepth 20000 in
theorem gX2_learn_X2_goes : GoodIn wsX2_learn (wsV RX2 87 RX2 yX2_goes wsX2_goes) := goodIn_app (goodIn_of _ (by decide +kernel)) ggX2_learn_X2_goes
set_option maxRecDepth 20000 in
theorem ggX2_learn_X2_at : GoodIn wsX2_learn wsX2_at := goodIn_r _ [20] (by decide +kernel) (by decide +kernel)
set_option maxRecDepth 20000 in
theorem gX2_learn_X2_at : GoodIn wsX2_learn (va_wsS RX2 65 yX2_at wsX2_at) := goodIn_app (goodIn_of _ (by decide +kernel)) ggX2_learn_X2_at
theorem dX2_learn_0 : decode cX2_learn 0 = .ok (.aload_n 0, 1) := by decide +kernel
theorem dX2_learn_1 : decode cX2_learn 1 = .ok (.iload_n 1, 1) := by decide +kernel
theorem dX2_learn_2 : decode cX2_learn 2 = .ok (.invokestatic 83, 3) := by decide +kernel
theorem dX2_learn_5 : decode cX2_learn 5 = .ok (.ifCond .eq 19, 3) := by decide +kernel
theorem dX2_learn_8 : decode cX2_learn 8 = .ok (.iload_n 2, 1) := by decide +kernel
theorem dX2_learn_9 : decode cX2_learn 9 = .ok (.invokestatic 83, 3) := by decide +kernel
theorem dX2_learn_12 : decode cX2_learn 12 = .ok (.ifCond .eq 12, 3) := by decide +kernel
theorem dX2_learn_15 : decode cX2_learn 15 = .ok (.iload_n 1, 1) := by decide +kernel
theorem dX2_learn_16 : decode cX2_learn 16 = .ok (.iload_n 2, 1) := by decide +kernel
theorem dX2_learn_17 : decode cX2_learn 17 = .ok (.if_icmp .eq 7, 3) := by decide +kernel
theorem dX2_learn_20 : decode cX2_learn 20 = .ok (.iconst 0, 1) := by decide +kernel
theorem dX2_learn_21 : decode cX2_learn 21 = .ok (.goto 4, 3) := by decide +kernel
theorem dX2_learn_24 : decode cX2_learn 24 = .ok (.iconst 1, 1) := by decide +kernel
theorem dX2_learn_25 : decode cX2_learn 25 = .ok (.invokevirtual 87, 3) := by decide +kernel
theorem dX2_learn_28 : decode cX2_learn 28 = .ok (.ifCond .ne 5, 3) := by decide +kernel
theorem dX2_learn_31 : decode cX2_learn 31 = .ok (.iconst 0, 1) := by decide +kernel
theorem dX2_learn_32 : decode cX2_learn 32 = .ok (.ireturn, 1) := by decide +kernel
theorem dX2_learn_33 : decode cX2_learn 33 = .ok (.iconst 0, 1) := by decide +kernel
theorem dX2_learn_34 : decode cX2_learn 34 = .ok (.istore_n 3, 1) := by decide +kernel
theorem dX2_learn_35 : decode cX2_learn 35 = .ok (.iconst 0, 1) := by decide +kernel
theorem dX2_learn_36 : decode cX2_learn 36 = .ok (.istore 4, 2) := by decide +kernel
theorem dX2_learn_38 : decode cX2_learn 38 = .ok (.iload 4, 2) := by decide +kernel
theorem dX2_learn_40 : decode cX2_learn 40 = .ok (.aload_n 0, 1) := by decide +kernel
theorem dX2_learn_41 : decode cX2_learn 41 = .ok (.getfield 59, 3) := by decide +kernel
theorem dX2_learn_44 : decode cX2_learn 44 = .ok (.if_icmp .ge 126, 3) := by decide +kernel
theorem dX2_learn_47 : decode cX2_learn 47 = .ok (.iload_n 1, 1) := by decide +kernel
theorem dX2_learn_48 : decode cX2_learn 48 = .ok (.iload 4, 2) := by decide +kernel
theorem dX2_learn_50 : decode cX2_learn 50 = .ok (.invokestatic 65, 3) := by decide +kernel
theorem dX2_learn_53 : decode cX2_learn 53 = .ok (.istore 5, 2) := by decide +kernel
theorem dX2_learn_55 : decode cX2_learn 55 = .ok (.iload_n 2, 1) := by decide +kernel
theorem dX2_learn_56 : decode cX2_learn 56 = .ok (.iload 4, 2) := by decide +kernel
theorem dX2_learn_58 : decode cX2_learn 58 = .ok (.invokestatic 65, 3) := by decide +kernel
theorem dX2_learn_61 : decode cX2_learn 61 = .ok (.istore 6, 2) := by decide +kernel
theorem dX2_learn_63 : decode cX2_learn 63 = .ok (.iload_n 3, 1) := by decide +kernel
theorem dX2_learn_64 : decode cX2_learn 64 = .ok (.aload_n 0, 1) := by decide +kernel
theorem dX2_learn_65 : decode cX2_learn 65 = .ok (.getfield 22, 3) := by decide +kernel
theorem dX2_learn_68 : decode cX2_learn 68 = .ok (.iload 6, 2) := by decide +kernel
theorem dX2_learn_70 : decode cX2_learn 70 = .ok (.baload, 1) := by decide +kernel
theorem dX2_learn_71 : decode cX2_learn 71 = .ok (.ifCond .eq 17, 3) := by decide +kernel
theorem dX2_learn_74 : decode cX2_learn 74 = .ok (.aload_n 0, 1) := by decide +kernel
theorem dX2_learn_75 : decode cX2_learn 75 = .ok (.getfield 22, 3) := by decide +kernel
theorem dX2_learn_78 : decode cX2_learn 78 = .ok (.iload 5, 2) := by decide +kernel
theorem dX2_learn_80 : decode cX2_learn 80 = .ok (.baload, 1) := by decide +kernel
theorem dX2_learn_81 : decode cX2_learn 81 = .ok (.ifCond .ne 7, 3) := by decide +kernel
theorem dX2_learn_84 : decode cX2_learn 84 = .ok (.iconst 1, 1) := by decide +kernel
theorem dX2_learn_85 : decode cX2_learn 85 = .ok (.goto 4, 3) := by decide +kernel
theorem dX2_learn_88 : decode cX2_learn 88 = .ok (.iconst 0, 1) := by decide +kernel
theorem dX2_learn_89 : decode cX2_learn 89 = .ok (.iadd, 1) := by decide +kernel
theorem dX2_learn_90 : decode cX2_learn 90 = .ok (.istore_n 3, 1) := by decide +kernel
theorem dX2_learn_91 : decode cX2_learn 91 = .ok (.aload_n 0, 1) := by decide +kernel
theorem dX2_learn_92 : decode cX2_learn 92 = .ok (.getfield 22, 3) := by decide +kernel
theorem dX2_learn_95 : decode cX2_learn 95 = .ok (.iload 6, 2) := by decide +kernel
theorem dX2_learn_97 : decode cX2_learn 97 = .ok (.baload, 1) := by decide +kernel
theorem dX2_learn_98 : decode cX2_learn 98 = .ok (.ifCond .eq 66, 3) := by decide +kernel
theorem dX2_learn_101 : decode cX2_learn 101 = .ok (.aload_n 0, 1) := by decide +kernel
theorem dX2_learn_102 : decode cX2_learn 102 = .ok (.getfield 22, 3) := by decide +kernel
theorem dX2_learn_105 : decode cX2_learn 105 = .ok (.iload 5, 2) := by decide +kernel
theorem dX2_learn_107 : decode cX2_learn 107 = .ok (.baload, 1) := by decide +kernel
theorem dX2_learn_108 : decode cX2_learn 108 = .ok (.ifCond .eq 20, 3) := by decide +kernel
theorem dX2_learn_111 : decode cX2_learn 111 = .ok (.aload_n 0, 1) := by decide +kernel
theorem dX2_learn_112 : decode cX2_learn 112 = .ok (.getfield 29, 3) := by decide +kernel
theorem dX2_learn_115 : decode cX2_learn 115 = .ok (.iload 6, 2) := by decide +kernel
theorem dX2_learn_117 : decode cX2_learn 117 = .ok (.iaload, 1) := by decide +kernel
theorem dX2_learn_118 : decode cX2_learn 118 = .ok (.aload_n 0, 1) := by decide +kernel
theorem dX2_learn_119 : decode cX2_learn 119 = .ok (.getfield 29, 3) := by decide +kernel
theorem dX2_learn_122 : decode cX2_learn 122 = .ok (.iload 5, 2) := by decide +kernel
theorem dX2_learn_124 : decode cX2_learn 124 = .ok (.iaload, 1) := by decide +kernel
theorem dX2_learn_125 : decode cX2_learn 125 = .ok (.if_icmp .le 39, 3) := by decide +kernel
theorem dX2_learn_128 : decode cX2_learn 128 = .ok (.aload_n 0, 1) := by decide +kernel
theorem dX2_learn_129 : decode cX2_learn 129 = .ok (.getfield 22, 3) := by decide +kernel
theorem dX2_learn_132 : decode cX2_learn 132 = .ok (.iload 5, 2) := by decide +kernel
theorem dX2_learn_134 : decode cX2_learn 134 = .ok (.iconst 1, 1) := by decide +kernel
theorem dX2_learn_135 : decode cX2_learn 135 = .ok (.bastore, 1) := by decide +kernel
theorem dX2_learn_136 : decode cX2_learn 136 = .ok (.aload_n 0, 1) := by decide +kernel
theorem dX2_learn_137 : decode cX2_learn 137 = .ok (.getfield 26, 3) := by decide +kernel
theorem dX2_learn_140 : decode cX2_learn 140 = .ok (.iload 5, 2) := by decide +kernel
theorem dX2_learn_142 : decode cX2_learn 142 = .ok (.aload_n 0, 1) := by decide +kernel
theorem dX2_learn_143 : decode cX2_learn 143 = .ok (.getfield 26, 3) := by decide +kernel
theorem dX2_learn_146 : decode cX2_learn 146 = .ok (.iload 6, 2) := by decide +kernel
theorem dX2_learn_148 : decode cX2_learn 148 = .ok (.baload, 1) := by decide +kernel
theorem dX2_learn_149 : decode cX2_learn 149 = .ok (.bastore, 1) := by decide +kernel
theorem dX2_learn_150 : decode cX2_learn 150 = .ok (.aload_n 0, 1) := by decide +kernel
theorem dX2_learn_151 : decode cX2_learn 151 = .ok (.getfield 29, 3) := by decide +kernel
theorem dX2_learn_154 : decode cX2_learn 154 = .ok (.iload 5, 2) := by decide +kernel
theorem dX2_learn_156 : decode cX2_learn 156 = .ok (.aload_n 0, 1) := by decide +kernel
theorem dX2_learn_157 : decode cX2_learn 157 = .ok (.getfield 29, 3) := by decide +kernel
theorem dX2_learn_160 : decode cX2_learn 160 = .ok (.iload 6, 2) := by decide +kernel
theorem dX2_learn_162 : decode cX2_learn 162 = .ok (.iaload, 1) := by decide +kernel
theorem dX2_learn_163 : decode cX2_learn 163 = .ok (.iastore, 1) := by decide +kernel
theorem dX2_learn_164 : decode cX2_learn 164 = .ok (.iinc 4 1, 3) := by decide +kernel
theorem dX2_learn_167 : decode cX2_learn 167 = .ok (.goto (-129), 3) := by decide +kernel
theorem dX2_learn_170 : decode cX2_learn 170 = .ok (.aload_n 0, 1) := by decide +kernel
theorem dX2_learn_171 : decode cX2_learn 171 = .ok (.getfield 32, 3) := by decide +kernel
theorem dX2_learn_174 : decode cX2_learn 174 = .ok (.iload_n 1, 1) := by decide +kernel
theorem dX2_learn_175 : decode cX2_learn 175 = .ok (.aload_n 0, 1) := by decide +kernel
theorem dX2_learn_176 : decode cX2_learn 176 = .ok (.getfield 32, 3) := by decide +kernel
theorem dX2_learn_179 : decode cX2_learn 179 = .ok (.iload_n 2, 1) := by decide +kernel
theorem dX2_learn_180 : decode cX2_learn 180 = .ok (.iaload, 1) := by decide +kernel
theorem dX2_learn_181 : decode cX2_learn 181 = .ok (.aload_n 0, 1) := by decide +kernel
theorem dX2_learn_182 : decode cX2_learn 182 = .ok (.getfield 32, 3) := by decide +kernel
theorem dX2_learn_185 : decode cX2_learn 185 = .ok (.iload_n 1, 1) := by decide +kernel
theorem dX2_learn_186 : decode cX2_learn 186 = .ok (.iaload, 1) := by decide +kernel
theorem dX2_learn_187 : decode cX2_learn 187 = .ok (.if_icmp .le 12, 3) := by decide +kernel
theorem dX2_learn_190 : decode cX2_learn 190 = .ok (.aload_n 0, 1) := by decide +kernel
theorem dX2_learn_191 : decode cX2_learn 191 = .ok (.getfield 32, 3) := by decide +kernel
theorem dX2_learn_194 : decode cX2_learn 194 = .ok (.iload_n 2, 1) := by decide +kernel
theorem dX2_learn_195 : decode cX2_learn 195 = .ok (.iaload, 1) := by decide +kernel
theorem dX2_learn_196 : decode cX2_learn 196 = .ok (.goto 9, 3) := by decide +kernel
theorem dX2_learn_199 : decode cX2_learn 199 = .ok (.aload_n 0, 1) := by decide +kernel
theorem dX2_learn_200 : decode cX2_learn 200 = .ok (.getfield 32, 3) := by decide +kernel
theorem dX2_learn_203 : decode cX2_learn 203 = .ok (.iload_n 1, 1) := by decide +kernel
theorem dX2_learn_204 : decode cX2_learn 204 = .ok (.iaload, 1) := by decide +kernel
theorem dX2_learn_205 : decode cX2_learn 205 = .ok (.iastore, 1) := by decide +kernel
theorem dX2_learn_206 : decode cX2_learn 206 = .ok (.iload_n 3, 1) := by decide +kernel
theorem dX2_learn_207 : decode cX2_learn 207 = .ok (.ireturn, 1) := by decide +kernel
set_option maxRecDepth 20000 in
theorem ggX2_asks_X2_isAuthor : GoodIn wsX2_asks wsX2_isAuthor := goodIn_r _ [4, 5, 6, 3, 7] (by decide +kernel) (by decide +kernel)
set_option maxRecDepth 20000 in
theorem gX2_asks_X2_isAuthor : GoodIn wsX2_asks (va_wsS RX2 83 yX2_isAuthor wsX2_isAuthor) := goodIn_app (goodIn_of _ (by decide +kernel)) ggX2_asks_X2_isAuthor
set_option maxRecDepth 20000 in
theorem ggX2_asks_X2_goes : GoodIn wsX2_asks wsX2_goes := goodIn_r _ [11, 12, 13, 14, 15, 16, 17, 18, 19, 20, 21, 22, 23, 24, 25, 26, 27, 28, 29, 30, 31] (by decide +kernel) (by decide +kernel)
set_option maxRecDepth 20000 in
theorem gX2_asks_X2_goes : GoodIn wsX2_asks (wsV RX2 87 RX2 yX2_goes wsX2_goes) := goodIn_app (goodIn_of _ (by decide +kernel)) ggX2_asks_X2_goes
theorem dX2_asks_0 : decode cX2_asks 0 = .ok (.aload_n 0, 1) := by decide +kernel
theorem dX2_asks_1 : decode cX2_asks 1 = .ok (.iload_n 1, 1) := by decide +kernel
theorem dX2_asks_2 : decode cX2_asks 2 = .ok (.invokestatic 83, 3) := by decide +kernel
theorem dX2_asks_5 : decode cX2_asks 5 = .ok (.ifCond .eq 7, 3) := by decide +kernel
theorem dX2_asks_8 : decode cX2_asks 8 = .ok (.iconst 0, 1) := by decide +kernel
theorem dX2_asks_9 : decode cX2_asks 9 = .ok (.goto 4, 3) := by decide +kernel
theorem dX2_asks_12 : decode cX2_asks 12 = .ok (.iconst 1, 1) := by decide +kernel
theorem dX2_asks_13 : decode cX2_asks 13 = .ok (.invokevirtual 87, 3) := by decide +kernel
theorem dX2_asks_16 : decode cX2_asks 16 = .ok (.ireturn, 1) := by decide +kernel
set_option maxRecDepth 20000 in
theorem ggX2_length_X2_asks : GoodIn wsX2_length wsX2_asks := goodIn_r _ [6, 7, 8, 5, 9, 10, 11, 12, 13, 14, 15, 16, 17, 42, 43, 44, 45, 46, 47, 48, 49, 50, 51, 52, 53, 54, 55, 56, 57, 58, 59, 60] (by decide +kernel) (by decide +kernel)
set_option maxRecDepth 20000 in
theorem gX2_length_X2_asks : GoodIn wsX2_length (wsV RX2 103 RX2 yX2_asks wsX2_asks) := goodIn_app (goodIn_of _ (by decide +kernel)) ggX2_length_X2_asks
set_option maxRecDepth 20000 in
theorem ggX2_length_X2_laysText : GoodIn wsX2_length wsX2_laysText := goodIn_r _ [21, 1, 22, 23, 24, 25, 26, 27, 28, 5, 29, 30, 31, 32, 33, 34, 35, 36, 37, 38, 39, 40, 41, 42, 43, 44, 45, 46, 47, 48, 49, 50, 51, 52, 53, 54, 55, 56, 57, 58, 59, 60] (by decide +kernel) (by decide +kernel)
set_option maxRecDepth 20000 in
theorem gX2_length_X2_laysText : GoodIn wsX2_length (wsV RX2 90 RX2 yX2_laysText wsX2_laysText) := goodIn_app (goodIn_of _ (by decide +kernel)) ggX2_length_X2_laysText
theorem dX2_length_0 : decode cX2_length 0 = .ok (.aload_n 0, 1) := by decide +kernel
theorem dX2_length_1 : decode cX2_length 1 = .ok (.iload_n 1, 1) := by decide +kernel
theorem dX2_length_2 : decode cX2_length 2 = .ok (.invokevirtual 103, 3) := by decide +kernel
theorem dX2_length_5 : decode cX2_length 5 = .ok (.ifCond .ne 5, 3) := by decide +kernel
theorem dX2_length_8 : decode cX2_length 8 = .ok (.iconst 0, 1) := by decide +kernel
theorem dX2_length_9 : decode cX2_length 9 = .ok (.ireturn, 1) := by decide +kernel
theorem dX2_length_10 : decode cX2_length 10 = .ok (.aload_n 0, 1) := by decide +kernel
theorem dX2_length_11 : decode cX2_length 11 = .ok (.iload_n 1, 1) := by decide +kernel
theorem dX2_length_12 : decode cX2_length 12 = .ok (.invokevirtual 90, 3) := by decide +kernel
theorem dX2_length_15 : decode cX2_length 15 = .ok (.aload_n 0, 1) := by decide +kernel
theorem dX2_length_16 : decode cX2_length 16 = .ok (.getfield 76, 3) := by decide +kernel
theorem dX2_length_19 : decode cX2_length 19 = .ok (.ireturn, 1) := by decide +kernel
set_option maxRecDepth 20000 in
theorem ggX2_asksPlace_X2_asks : GoodIn wsX2_asksPlace wsX2_asks := goodIn_r _ [6, 7, 8, 5, 9, 10, 11, 12, 13, 14, 15, 16, 17, 42, 43, 44, 45, 46, 47, 48, 49, 50, 51, 52, 53, 54, 55, 56, 57, 58, 59, 60] (by decide +kernel) (by decide +kernel)
set_option maxRecDepth 20000 in
theorem gX2_asksPlace_X2_asks : GoodIn wsX2_asksPlace (wsV RX2 103 RX2 yX2_asks wsX2_asks) := goodIn_app (goodIn_of _ (by decide +kernel)) ggX2_asksPlace_X2_asks
set_option maxRecDepth 20000 in
theorem ggX2_asksPlace_X2_laysText : GoodIn wsX2_asksPlace wsX2_laysText := goodIn_r _ [21, 1, 22, 23, 24, 25, 26, 27, 28, 5, 29, 30, 31, 32, 33, 34, 35, 36, 37, 38, 39, 40, 41, 42, 43, 44, 45, 46, 47, 48, 49, 50, 51, 52, 53, 54, 55, 56, 57, 58, 59, 60] (by decide +kernel) (by decide +kernel)
set_option maxRecDepth 20000 in
theorem gX2_asksPlace_X2_laysText : GoodIn wsX2_asksPlace (wsV RX2 90 RX2 yX2_laysText wsX2_laysText) := goodIn_app (goodIn_of _ (by decide +kernel)) ggX2_asksPlace_X2_laysText
set_option maxRecDepth 20000 in
theorem ggX2_asksPlace_X2_isIn : GoodIn wsX2_asksPlace wsX2_isIn := goodIn_r _ [12] (by decide +kernel) (by decide +kernel)
set_option maxRecDepth 20000 in
theorem gX2_asksPlace_X2_isIn : GoodIn wsX2_asksPlace (va_wsS RX2 55 yX2_isIn wsX2_isIn) := goodIn_app (goodIn_of _ (by decide +kernel)) ggX2_asksPlace_X2_isIn
set_option maxRecDepth 20000 in
theorem ggX2_asksPlace_X2_goes : GoodIn wsX2_asksPlace wsX2_goes := goodIn_r _ [16, 17, 42, 43, 44, 45, 46, 47, 48, 49, 50, 51, 52, 53, 54, 55, 56, 57, 58, 59, 60] (by decide +kernel) (by decide +kernel)
set_option maxRecDepth 20000 in
theorem gX2_asksPlace_X2_goes : GoodIn wsX2_asksPlace (wsV RX2 87 RX2 yX2_goes wsX2_goes) := goodIn_app (goodIn_of _ (by decide +kernel)) ggX2_asksPlace_X2_goes
theorem dX2_asksPlace_0 : decode cX2_asksPlace 0 = .ok (.aload_n 0, 1) := by decide +kernel
theorem dX2_asksPlace_1 : decode cX2_asksPlace 1 = .ok (.iload_n 1, 1) := by decide +kernel
theorem dX2_asksPlace_2 : decode cX2_asksPlace 2 = .ok (.invokevirtual 103, 3) := by decide +kernel
theorem dX2_asksPlace_5 : decode cX2_asksPlace 5 = .ok (.ifCond .ne 5, 3) := by decide +kernel
theorem dX2_asksPlace_8 : decode cX2_asksPlace 8 = .ok (.iconst 0, 1) := by decide +kernel
theorem dX2_asksPlace_9 : decode cX2_asksPlace 9 = .ok (.ireturn, 1) := by decide +kernel
theorem dX2_asksPlace_10 : decode cX2_asksPlace 10 = .ok (.aload_n 0, 1) := by decide +kernel
theorem dX2_asksPlace_11 : decode cX2_asksPlace 11 = .ok (.iload_n 1, 1) := by decide +kernel
theorem dX2_asksPlace_12 : decode cX2_asksPlace 12 = .ok (.invokevirtual 90, 3) := by decide +kernel
theorem dX2_asksPlace_15 : decode cX2_asksPlace 15 = .ok (.aload_n 0, 1) := by decide +kernel
theorem dX2_asksPlace_16 : decode cX2_asksPlace 16 = .ok (.iload_n 2, 1) := by decide +kernel
theorem dX2_asksPlace_17 : decode cX2_asksPlace 17 = .ok (.iconst 0, 1) := by decide +kernel
theorem dX2_asksPlace_18 : decode cX2_asksPlace 18 = .ok (.aload_n 0, 1) := by decide +kernel
theorem dX2_asksPlace_19 : decode cX2_asksPlace 19 = .ok (.getfield 76, 3) := by decide +kernel
theorem dX2_asksPlace_22 : decode cX2_asksPlace 22 = .ok (.iconst 1, 1) := by decide +kernel
theorem dX2_asksPlace_23 : decode cX2_asksPlace 23 = .ok (.isub, 1) := by decide +kernel
theorem dX2_asksPlace_24 : decode cX2_asksPlace 24 = .ok (.invokestatic 55, 3) := by decide +kernel
theorem dX2_asksPlace_27 : decode cX2_asksPlace 27 = .ok (.ifCond .eq 7, 3) := by decide +kernel
theorem dX2_asksPlace_30 : decode cX2_asksPlace 30 = .ok (.iconst 0, 1) := by decide +kernel
theorem dX2_asksPlace_31 : decode cX2_asksPlace 31 = .ok (.goto 4, 3) := by decide +kernel
theorem dX2_asksPlace_34 : decode cX2_asksPlace 34 = .ok (.iconst 2, 1) := by decide +kernel
theorem dX2_asksPlace_35 : decode cX2_asksPlace 35 = .ok (.invokevirtual 87, 3) := by decide +kernel
theorem dX2_asksPlace_38 : decode cX2_asksPlace 38 = .ok (.ireturn, 1) := by decide +kernel
set_option maxRecDepth 20000 in
theorem ggX2_signAt_X2_asksPlace : GoodIn wsX2_signAt wsX2_asksPlace := goodIn_r _ [6, 7, 8, 9, 10, 5, 11, 12, 13, 14, 15, 16, 17, 18, 19, 20, 21, 22, 23, 24, 25, 26, 27, 28, 29, 1, 30, 31, 32, 33, 34, 35, 36, 37, 38, 39, 40, 41, 42, 43, 44, 45, 46, 47, 48, 49, 50, 51, 52, 53, 54, 55, 56, 57, 58, 59, 60, 61, 62, 63, 64] (by decide +kernel) (by decide +kernel)
set_option maxRecDepth 20000 in
theorem gX2_signAt_X2_asksPlace : GoodIn wsX2_signAt (wsV RX2 106 RX2 yX2_asksPlace wsX2_asksPlace) := goodIn_app (goodIn_of _ (by decide +kernel)) ggX2_signAt_X2_asksPlace
theorem dX2_signAt_0 : decode cX2_signAt 0 = .ok (.aload_n 0, 1) := by decide +kernel
theorem dX2_signAt_1 : decode cX2_signAt 1 = .ok (.iload_n 1, 1) := by decide +kernel
theorem dX2_signAt_2 : decode cX2_signAt 2 = .ok (.iload_n 2, 1) := by decide +kernel
theorem dX2_signAt_3 : decode cX2_signAt 3 = .ok (.invokevirtual 106, 3) := by decide +kernel
theorem dX2_signAt_6 : decode cX2_signAt 6 = .ok (.ifCond .eq 12, 3) := by decide +kernel
theorem dX2_signAt_9 : decode cX2_signAt 9 = .ok (.aload_n 0, 1) := by decide +kernel
theorem dX2_signAt_10 : decode cX2_signAt 10 = .ok (.getfield 45, 3) := by decide +kernel
theorem dX2_signAt_13 : decode cX2_signAt 13 = .ok (.iload_n 2, 1) := by decide +kernel
theorem dX2_signAt_14 : decode cX2_signAt 14 = .ok (.iaload, 1) := by decide +kernel
theorem dX2_signAt_15 : decode cX2_signAt 15 = .ok (.goto 4, 3) := by decide +kernel
theorem dX2_signAt_18 : decode cX2_signAt 18 = .ok (.iconst 0, 1) := by decide +kernel
theorem dX2_signAt_19 : decode cX2_signAt 19 = .ok (.ireturn, 1) := by decide +kernel
set_option maxRecDepth 20000 in
theorem ggX2_letterAt_X2_asksPlace : GoodIn wsX2_letterAt wsX2_asksPlace := goodIn_r _ [7, 8, 9, 10, 11, 6, 12, 13, 14, 15, 16, 17, 18, 19, 20, 21, 22, 23, 24, 25, 26, 27, 28, 29, 30, 2, 31, 32, 33, 34, 35, 36, 37, 38, 39, 40, 41, 42, 43, 44, 45, 46, 47, 48, 49, 50, 51, 52, 53, 54, 55, 56, 57, 58, 59, 60, 61, 62, 63, 64, 65] (by decide +kernel) (by decide +kernel)
set_option maxRecDepth 20000 in
theorem gX2_letterAt_X2_asksPlace : GoodIn wsX2_letterAt (wsV RX2 106 RX2 yX2_asksPlace wsX2_asksPlace) := goodIn_app (goodIn_of _ (by decide +kernel)) ggX2_letterAt_X2_asksPlace
theorem dX2_letterAt_0 : decode cX2_letterAt 0 = .ok (.aload_n 0, 1) := by decide +kernel
theorem dX2_letterAt_1 : decode cX2_letterAt 1 = .ok (.iload_n 1, 1) := by decide +kernel
theorem dX2_letterAt_2 : decode cX2_letterAt 2 = .ok (.iload_n 2, 1) := by decide +kernel
theorem dX2_letterAt_3 : decode cX2_letterAt 3 = .ok (.invokevirtual 106, 3) := by decide +kernel
theorem dX2_letterAt_6 : decode cX2_letterAt 6 = .ok (.ifCond .eq 17, 3) := by decide +kernel
theorem dX2_letterAt_9 : decode cX2_letterAt 9 = .ok (.aload_n 0, 1) := by decide +kernel
theorem dX2_letterAt_10 : decode cX2_letterAt 10 = .ok (.getfield 13, 3) := by decide +kernel
theorem dX2_letterAt_13 : decode cX2_letterAt 13 = .ok (.aload_n 0, 1) := by decide +kernel
theorem dX2_letterAt_14 : decode cX2_letterAt 14 = .ok (.getfield 45, 3) := by decide +kernel
theorem dX2_letterAt_17 : decode cX2_letterAt 17 = .ok (.iload_n 2, 1) := by decide +kernel
theorem dX2_letterAt_18 : decode cX2_letterAt 18 = .ok (.iaload, 1) := by decide +kernel
theorem dX2_letterAt_19 : decode cX2_letterAt 19 = .ok (.iaload, 1) := by decide +kernel
theorem dX2_letterAt_20 : decode cX2_letterAt 20 = .ok (.goto 4, 3) := by decide +kernel
theorem dX2_letterAt_23 : decode cX2_letterAt 23 = .ok (.iconst 0, 1) := by decide +kernel
theorem dX2_letterAt_24 : decode cX2_letterAt 24 = .ok (.ireturn, 1) := by decide +kernel
set_option maxRecDepth 20000 in
theorem ggX2_areAlike_X2_isAuthor : GoodIn wsX2_areAlike wsX2_isAuthor := goodIn_r _ [7, 8, 9, 6, 10] (by decide +kernel) (by decide +kernel)
set_option maxRecDepth 20000 in
theorem gX2_areAlike_X2_isAuthor : GoodIn wsX2_areAlike (va_wsS RX2 83 yX2_isAuthor wsX2_isAuthor) := goodIn_app (goodIn_of _ (by decide +kernel)) ggX2_areAlike_X2_isAuthor
set_option maxRecDepth 20000 in
theorem ggX2_areAlike_X2_goes : GoodIn wsX2_areAlike wsX2_goes := goodIn_r _ [14, 15, 19, 20, 21, 22, 23, 24, 25, 26, 27, 28, 29, 30, 31, 32, 33, 34, 35, 36, 37] (by decide +kernel) (by decide +kernel)
set_option maxRecDepth 20000 in
theorem gX2_areAlike_X2_goes : GoodIn wsX2_areAlike (wsV RX2 87 RX2 yX2_goes wsX2_goes) := goodIn_app (goodIn_of _ (by decide +kernel)) ggX2_areAlike_X2_goes
set_option maxRecDepth 20000 in
theorem ggX2_areAlike_X2_at : GoodIn wsX2_areAlike wsX2_at := goodIn_r _ [18] (by decide +kernel) (by decide +kernel)
set_option maxRecDepth 20000 in
theorem gX2_areAlike_X2_at : GoodIn wsX2_areAlike (va_wsS RX2 65 yX2_at wsX2_at) := goodIn_app (goodIn_of _ (by decide +kernel)) ggX2_areAlike_X2_at
theorem dX2_areAlike_0 : decode cX2_areAlike 0 = .ok (.aload_n 0, 1) := by decide +kernel
theorem dX2_areAlike_1 : decode cX2_areAlike 1 = .ok (.iload_n 1, 1) := by decide +kernel
theorem dX2_areAlike_2 : decode cX2_areAlike 2 = .ok (.invokestatic 83, 3) := by decide +kernel
theorem dX2_areAlike_5 : decode cX2_areAlike 5 = .ok (.ifCond .eq 14, 3) := by decide +kernel
theorem dX2_areAlike_8 : decode cX2_areAlike 8 = .ok (.iload_n 2, 1) := by decide +kernel
theorem dX2_areAlike_9 : decode cX2_areAlike 9 = .ok (.invokestatic 83, 3) := by decide +kernel
theorem dX2_areAlike_12 : decode cX2_areAlike 12 = .ok (.ifCond .eq 7, 3) := by decide +kernel
theorem dX2_areAlike_15 : decode cX2_areAlike 15 = .ok (.iconst 0, 1) := by decide +kernel
theorem dX2_areAlike_16 : decode cX2_areAlike 16 = .ok (.goto 4, 3) := by decide +kernel
theorem dX2_areAlike_19 : decode cX2_areAlike 19 = .ok (.iconst 1, 1) := by decide +kernel
theorem dX2_areAlike_20 : decode cX2_areAlike 20 = .ok (.invokevirtual 87, 3) := by decide +kernel
theorem dX2_areAlike_23 : decode cX2_areAlike 23 = .ok (.ifCond .ne 5, 3) := by decide +kernel
theorem dX2_areAlike_26 : decode cX2_areAlike 26 = .ok (.iconst 0, 1) := by decide +kernel
theorem dX2_areAlike_27 : decode cX2_areAlike 27 = .ok (.ireturn, 1) := by decide +kernel
theorem dX2_areAlike_28 : decode cX2_areAlike 28 = .ok (.iconst 1, 1) := by decide +kernel
theorem dX2_areAlike_29 : decode cX2_areAlike 29 = .ok (.istore_n 3, 1) := by decide +kernel
theorem dX2_areAlike_30 : decode cX2_areAlike 30 = .ok (.iconst 0, 1) := by decide +kernel
theorem dX2_areAlike_31 : decode cX2_areAlike 31 = .ok (.istore 4, 2) := by decide +kernel
theorem dX2_areAlike_33 : decode cX2_areAlike 33 = .ok (.iload 4, 2) := by decide +kernel
theorem dX2_areAlike_35 : decode cX2_areAlike 35 = .ok (.aload_n 0, 1) := by decide +kernel
theorem dX2_areAlike_36 : decode cX2_areAlike 36 = .ok (.getfield 59, 3) := by decide +kernel
theorem dX2_areAlike_39 : decode cX2_areAlike 39 = .ok (.if_icmp .ge 96, 3) := by decide +kernel
theorem dX2_areAlike_42 : decode cX2_areAlike 42 = .ok (.aload_n 0, 1) := by decide +kernel
theorem dX2_areAlike_43 : decode cX2_areAlike 43 = .ok (.getfield 22, 3) := by decide +kernel
theorem dX2_areAlike_46 : decode cX2_areAlike 46 = .ok (.iload_n 1, 1) := by decide +kernel
theorem dX2_areAlike_47 : decode cX2_areAlike 47 = .ok (.iload 4, 2) := by decide +kernel
theorem dX2_areAlike_49 : decode cX2_areAlike 49 = .ok (.invokestatic 65, 3) := by decide +kernel
theorem dX2_areAlike_52 : decode cX2_areAlike 52 = .ok (.baload, 1) := by decide +kernel
theorem dX2_areAlike_53 : decode cX2_areAlike 53 = .ok (.ifCond .eq 21, 3) := by decide +kernel
theorem dX2_areAlike_56 : decode cX2_areAlike 56 = .ok (.aload_n 0, 1) := by decide +kernel
theorem dX2_areAlike_57 : decode cX2_areAlike 57 = .ok (.getfield 26, 3) := by decide +kernel
theorem dX2_areAlike_60 : decode cX2_areAlike 60 = .ok (.iload_n 1, 1) := by decide +kernel
theorem dX2_areAlike_61 : decode cX2_areAlike 61 = .ok (.iload 4, 2) := by decide +kernel
theorem dX2_areAlike_63 : decode cX2_areAlike 63 = .ok (.invokestatic 65, 3) := by decide +kernel
theorem dX2_areAlike_66 : decode cX2_areAlike 66 = .ok (.baload, 1) := by decide +kernel
theorem dX2_areAlike_67 : decode cX2_areAlike 67 = .ok (.ifCond .ne 7, 3) := by decide +kernel
theorem dX2_areAlike_70 : decode cX2_areAlike 70 = .ok (.iconst 1, 1) := by decide +kernel
theorem dX2_areAlike_71 : decode cX2_areAlike 71 = .ok (.goto 4, 3) := by decide +kernel
theorem dX2_areAlike_74 : decode cX2_areAlike 74 = .ok (.iconst 0, 1) := by decide +kernel
theorem dX2_areAlike_75 : decode cX2_areAlike 75 = .ok (.istore 5, 2) := by decide +kernel
theorem dX2_areAlike_77 : decode cX2_areAlike 77 = .ok (.aload_n 0, 1) := by decide +kernel
theorem dX2_areAlike_78 : decode cX2_areAlike 78 = .ok (.getfield 22, 3) := by decide +kernel
theorem dX2_areAlike_81 : decode cX2_areAlike 81 = .ok (.iload_n 2, 1) := by decide +kernel
theorem dX2_areAlike_82 : decode cX2_areAlike 82 = .ok (.iload 4, 2) := by decide +kernel
theorem dX2_areAlike_84 : decode cX2_areAlike 84 = .ok (.invokestatic 65, 3) := by decide +kernel
theorem dX2_areAlike_87 : decode cX2_areAlike 87 = .ok (.baload, 1) := by decide +kernel
theorem dX2_areAlike_88 : decode cX2_areAlike 88 = .ok (.ifCond .eq 21, 3) := by decide +kernel
theorem dX2_areAlike_91 : decode cX2_areAlike 91 = .ok (.aload_n 0, 1) := by decide +kernel
theorem dX2_areAlike_92 : decode cX2_areAlike 92 = .ok (.getfield 26, 3) := by decide +kernel
theorem dX2_areAlike_95 : decode cX2_areAlike 95 = .ok (.iload_n 2, 1) := by decide +kernel
theorem dX2_areAlike_96 : decode cX2_areAlike 96 = .ok (.iload 4, 2) := by decide +kernel
theorem dX2_areAlike_98 : decode cX2_areAlike 98 = .ok (.invokestatic 65, 3) := by decide +kernel
theorem dX2_areAlike_101 : decode cX2_areAlike 101 = .ok (.baload, 1) := by decide +kernel
theorem dX2_areAlike_102 : decode cX2_areAlike 102 = .ok (.ifCond .ne 7, 3) := by decide +kernel
theorem dX2_areAlike_105 : decode cX2_areAlike 105 = .ok (.iconst 1, 1) := by decide +kernel
theorem dX2_areAlike_106 : decode cX2_areAlike 106 = .ok (.goto 4, 3) := by decide +kernel
theorem dX2_areAlike_109 : decode cX2_areAlike 109 = .ok (.iconst 0, 1) := by decide +kernel
theorem dX2_areAlike_110 : decode cX2_areAlike 110 = .ok (.istore 6, 2) := by decide +kernel
theorem dX2_areAlike_112 : decode cX2_areAlike 112 = .ok (.iload_n 3, 1) := by decide +kernel
theorem dX2_areAlike_113 : decode cX2_areAlike 113 = .ok (.ifCond .eq 14, 3) := by decide +kernel
theorem dX2_areAlike_116 : decode cX2_areAlike 116 = .ok (.iload 5, 2) := by decide +kernel
theorem dX2_areAlike_118 : decode cX2_areAlike 118 = .ok (.iload 6, 2) := by decide +kernel
theorem dX2_areAlike_120 : decode cX2_areAlike 120 = .ok (.if_icmp .ne 7, 3) := by decide +kernel
theorem dX2_areAlike_123 : decode cX2_areAlike 123 = .ok (.iconst 1, 1) := by decide +kernel
theorem dX2_areAlike_124 : decode cX2_areAlike 124 = .ok (.goto 4, 3) := by decide +kernel
theorem dX2_areAlike_127 : decode cX2_areAlike 127 = .ok (.iconst 0, 1) := by decide +kernel
theorem dX2_areAlike_128 : decode cX2_areAlike 128 = .ok (.istore_n 3, 1) := by decide +kernel
theorem dX2_areAlike_129 : decode cX2_areAlike 129 = .ok (.iinc 4 1, 3) := by decide +kernel
theorem dX2_areAlike_132 : decode cX2_areAlike 132 = .ok (.goto (-99), 3) := by decide +kernel
theorem dX2_areAlike_135 : decode cX2_areAlike 135 = .ok (.iload_n 3, 1) := by decide +kernel
theorem dX2_areAlike_136 : decode cX2_areAlike 136 = .ok (.ireturn, 1) := by decide +kernel
theorem dX2_signs_0 : decode cX2_signs 0 = .ok (.aload_n 0, 1) := by decide +kernel
theorem dX2_signs_1 : decode cX2_signs 1 = .ok (.iconst 0, 1) := by decide +kernel
theorem dX2_signs_2 : decode cX2_signs 2 = .ok (.putfield 51, 3) := by decide +kernel
theorem dX2_signs_5 : decode cX2_signs 5 = .ok (.aload_n 0, 1) := by decide +kernel
theorem dX2_signs_6 : decode cX2_signs 6 = .ok (.getfield 59, 3) := by decide +kernel
theorem dX2_signs_9 : decode cX2_signs 9 = .ok (.ireturn, 1) := by decide +kernel
set_option maxRecDepth 20000 in
theorem ggX2_authorOf_X2_isSign : GoodIn wsX2_authorOf wsX2_isSign := goodIn_r _ [6, 7, 8, 9, 5, 10, 16, 17, 18, 19, 20, 21, 22, 23, 24, 25, 26, 27, 28, 29, 30, 31, 32, 33, 34] (by decide +kernel) (by decide +kernel)
set_option maxRecDepth 20000 in
theorem gX2_authorOf_X2_isSign : GoodIn wsX2_authorOf (wsV RX2 97 RX2 yX2_isSign wsX2_isSign) := goodIn_app (goodIn_of _ (by decide +kernel)) ggX2_authorOf_X2_isSign
set_option maxRecDepth 20000 in
theorem ggX2_authorOf_X2_goes : GoodIn wsX2_authorOf wsX2_goes := goodIn_r _ [14, 15, 16, 17, 18, 19, 20, 21, 22, 23, 24, 25, 26, 27, 28, 29, 30, 31, 32, 33, 34] (by decide +kernel) (by decide +kernel)
set_option maxRecDepth 20000 in
theorem gX2_authorOf_X2_goes : GoodIn wsX2_authorOf (wsV RX2 87 RX2 yX2_goes wsX2_goes) := goodIn_app (goodIn_of _ (by decide +kernel)) ggX2_authorOf_X2_goes
theorem dX2_authorOf_0 : decode cX2_authorOf 0 = .ok (.aload_n 0, 1) := by decide +kernel
theorem dX2_authorOf_1 : decode cX2_authorOf 1 = .ok (.aload_n 0, 1) := by decide +kernel
theorem dX2_authorOf_2 : decode cX2_authorOf 2 = .ok (.iload_n 1, 1) := by decide +kernel
theorem dX2_authorOf_3 : decode cX2_authorOf 3 = .ok (.invokevirtual 97, 3) := by decide +kernel
theorem dX2_authorOf_6 : decode cX2_authorOf 6 = .ok (.ifCond .eq 7, 3) := by decide +kernel
theorem dX2_authorOf_9 : decode cX2_authorOf 9 = .ok (.iconst 0, 1) := by decide +kernel
theorem dX2_authorOf_10 : decode cX2_authorOf 10 = .ok (.goto 4, 3) := by decide +kernel
theorem dX2_authorOf_13 : decode cX2_authorOf 13 = .ok (.iconst 1, 1) := by decide +kernel
theorem dX2_authorOf_14 : decode cX2_authorOf 14 = .ok (.invokevirtual 87, 3) := by decide +kernel
theorem dX2_authorOf_17 : decode cX2_authorOf 17 = .ok (.ifCond .eq 12, 3) := by decide +kernel
theorem dX2_authorOf_20 : decode cX2_authorOf 20 = .ok (.aload_n 0, 1) := by decide +kernel
theorem dX2_authorOf_21 : decode cX2_authorOf 21 = .ok (.getfield 7, 3) := by decide +kernel
theorem dX2_authorOf_24 : decode cX2_authorOf 24 = .ok (.iload_n 1, 1) := by decide +kernel
theorem dX2_authorOf_25 : decode cX2_authorOf 25 = .ok (.iaload, 1) := by decide +kernel
theorem dX2_authorOf_26 : decode cX2_authorOf 26 = .ok (.goto 4, 3) := by decide +kernel
theorem dX2_authorOf_29 : decode cX2_authorOf 29 = .ok (.iconst 0, 1) := by decide +kernel
theorem dX2_authorOf_30 : decode cX2_authorOf 30 = .ok (.ireturn, 1) := by decide +kernel
set_option maxRecDepth 20000 in
theorem ggX2_behind_X2_isSign : GoodIn wsX2_behind wsX2_isSign := goodIn_r _ [6, 7, 8, 9, 5, 10, 16, 17, 18, 19, 20, 21, 22, 23, 24, 25, 26, 27, 28, 29, 30, 31, 32, 33, 34] (by decide +kernel) (by decide +kernel)
set_option maxRecDepth 20000 in
theorem gX2_behind_X2_isSign : GoodIn wsX2_behind (wsV RX2 97 RX2 yX2_isSign wsX2_isSign) := goodIn_app (goodIn_of _ (by decide +kernel)) ggX2_behind_X2_isSign
set_option maxRecDepth 20000 in
theorem ggX2_behind_X2_goes : GoodIn wsX2_behind wsX2_goes := goodIn_r _ [14, 15, 16, 17, 18, 19, 20, 21, 22, 23, 24, 25, 26, 27, 28, 29, 30, 31, 32, 33, 34] (by decide +kernel) (by decide +kernel)
set_option maxRecDepth 20000 in
theorem gX2_behind_X2_goes : GoodIn wsX2_behind (wsV RX2 87 RX2 yX2_goes wsX2_goes) := goodIn_app (goodIn_of _ (by decide +kernel)) ggX2_behind_X2_goes
theorem dX2_behind_0 : decode cX2_behind 0 = .ok (.aload_n 0, 1) := by decide +kernel
theorem dX2_behind_1 : decode cX2_behind 1 = .ok (.aload_n 0, 1) := by decide +kernel
theorem dX2_behind_2 : decode cX2_behind 2 = .ok (.iload_n 1, 1) := by decide +kernel
theorem dX2_behind_3 : decode cX2_behind 3 = .ok (.invokevirtual 97, 3) := by decide +kernel
theorem dX2_behind_6 : decode cX2_behind 6 = .ok (.ifCond .eq 7, 3) := by decide +kernel
theorem dX2_behind_9 : decode cX2_behind 9 = .ok (.iconst 0, 1) := by decide +kernel
theorem dX2_behind_10 : decode cX2_behind 10 = .ok (.goto 4, 3) := by decide +kernel
theorem dX2_behind_13 : decode cX2_behind 13 = .ok (.iconst 1, 1) := by decide +kernel
theorem dX2_behind_14 : decode cX2_behind 14 = .ok (.invokevirtual 87, 3) := by decide +kernel
theorem dX2_behind_17 : decode cX2_behind 17 = .ok (.ifCond .eq 12, 3) := by decide +kernel
theorem dX2_behind_20 : decode cX2_behind 20 = .ok (.aload_n 0, 1) := by decide +kernel
theorem dX2_behind_21 : decode cX2_behind 21 = .ok (.getfield 19, 3) := by decide +kernel
theorem dX2_behind_24 : decode cX2_behind 24 = .ok (.iload_n 1, 1) := by decide +kernel
theorem dX2_behind_25 : decode cX2_behind 25 = .ok (.iaload, 1) := by decide +kernel
theorem dX2_behind_26 : decode cX2_behind 26 = .ok (.goto 4, 3) := by decide +kernel
theorem dX2_behind_29 : decode cX2_behind 29 = .ok (.iconst 0, 1) := by decide +kernel
theorem dX2_behind_30 : decode cX2_behind 30 = .ok (.ireturn, 1) := by decide +kernel
set_option maxRecDepth 20000 in
theorem ggX2_clock_X2_asks : GoodIn wsX2_clock wsX2_asks := goodIn_r _ [6, 7, 8, 5, 9, 10, 11, 12, 13, 14, 15, 16, 17, 18, 19, 20, 21, 22, 23, 24, 25, 26, 27, 28, 29, 30, 31, 32, 33, 34, 35, 36] (by decide +kernel) (by decide +kernel)
set_option maxRecDepth 20000 in
theorem gX2_clock_X2_asks : GoodIn wsX2_clock (wsV RX2 103 RX2 yX2_asks wsX2_asks) := goodIn_app (goodIn_of _ (by decide +kernel)) ggX2_clock_X2_asks
theorem dX2_clock_0 : decode cX2_clock 0 = .ok (.aload_n 0, 1) := by decide +kernel
theorem dX2_clock_1 : decode cX2_clock 1 = .ok (.iload_n 1, 1) := by decide +kernel
theorem dX2_clock_2 : decode cX2_clock 2 = .ok (.invokevirtual 103, 3) := by decide +kernel
theorem dX2_clock_5 : decode cX2_clock 5 = .ok (.ifCond .eq 12, 3) := by decide +kernel
theorem dX2_clock_8 : decode cX2_clock 8 = .ok (.aload_n 0, 1) := by decide +kernel
theorem dX2_clock_9 : decode cX2_clock 9 = .ok (.getfield 32, 3) := by decide +kernel
theorem dX2_clock_12 : decode cX2_clock 12 = .ok (.iload_n 1, 1) := by decide +kernel
theorem dX2_clock_13 : decode cX2_clock 13 = .ok (.iaload, 1) := by decide +kernel
theorem dX2_clock_14 : decode cX2_clock 14 = .ok (.goto 4, 3) := by decide +kernel
theorem dX2_clock_17 : decode cX2_clock 17 = .ok (.iconst 0, 1) := by decide +kernel
theorem dX2_clock_18 : decode cX2_clock 18 = .ok (.ireturn, 1) := by decide +kernel
set_option maxRecDepth 20000 in
theorem ggX2_print_X2_asks : GoodIn wsX2_print wsX2_asks := goodIn_r _ [10, 11, 12, 9, 13, 14, 15, 16, 17, 18, 19, 20, 21, 44, 45, 46, 47, 48, 49, 50, 51, 52, 53, 54, 55, 56, 57, 58, 59, 60, 61, 62] (by decide +kernel) (by decide +kernel)
set_option maxRecDepth 20000 in
theorem gX2_print_X2_asks : GoodIn wsX2_print (wsV RX2 103 RX2 yX2_asks wsX2_asks) := goodIn_app (goodIn_of _ (by decide +kernel)) ggX2_print_X2_asks
set_option maxRecDepth 20000 in
theorem ggX2_print_X2_laysText : GoodIn wsX2_print wsX2_laysText := goodIn_r _ [25, 1, 26, 27, 28, 5, 29, 30, 31, 9, 32, 33, 34, 35, 36, 37, 38, 39, 40, 41, 42, 43, 4, 44, 45, 46, 47, 48, 49, 50, 51, 52, 53, 54, 55, 56, 57, 58, 59, 60, 61, 62] (by decide +kernel) (by decide +kernel)
set_option maxRecDepth 20000 in
theorem gX2_print_X2_laysText : GoodIn wsX2_print (wsV RX2 90 RX2 yX2_laysText wsX2_laysText) := goodIn_app (goodIn_of _ (by decide +kernel)) ggX2_print_X2_laysText
set_option maxRecDepth 20000 in
theorem ggX2_print_X2_goes : GoodIn wsX2_print wsX2_goes := goodIn_r _ [20, 21, 44, 45, 46, 47, 48, 49, 50, 51, 52, 53, 54, 55, 56, 57, 58, 59, 60, 61, 62] (by decide +kernel) (by decide +kernel)
set_option maxRecDepth 20000 in
theorem gX2_print_X2_goes : GoodIn wsX2_print (wsV RX2 87 RX2 yX2_goes wsX2_goes) := goodIn_app (goodIn_of _ (by decide +kernel)) ggX2_print_X2_goes
theorem dX2_print_0 : decode cX2_print 0 = .ok (.aload_n 0, 1) := by decide +kernel
theorem dX2_print_1 : decode cX2_print 1 = .ok (.iload_n 1, 1) := by decide +kernel
theorem dX2_print_2 : decode cX2_print 2 = .ok (.invokevirtual 103, 3) := by decide +kernel
theorem dX2_print_5 : decode cX2_print 5 = .ok (.ifCond .ne 5, 3) := by decide +kernel
theorem dX2_print_8 : decode cX2_print 8 = .ok (.iconst 0, 1) := by decide +kernel
theorem dX2_print_9 : decode cX2_print 9 = .ok (.ireturn, 1) := by decide +kernel
theorem dX2_print_10 : decode cX2_print 10 = .ok (.aload_n 0, 1) := by decide +kernel
theorem dX2_print_11 : decode cX2_print 11 = .ok (.iload_n 1, 1) := by decide +kernel
theorem dX2_print_12 : decode cX2_print 12 = .ok (.invokevirtual 90, 3) := by decide +kernel
theorem dX2_print_15 : decode cX2_print 15 = .ok (.aload_n 0, 1) := by decide +kernel
theorem dX2_print_16 : decode cX2_print 16 = .ok (.aload_n 0, 1) := by decide +kernel
theorem dX2_print_17 : decode cX2_print 17 = .ok (.getfield 76, 3) := by decide +kernel
theorem dX2_print_20 : decode cX2_print 20 = .ok (.ifCond .eq 12, 3) := by decide +kernel
theorem dX2_print_23 : decode cX2_print 23 = .ok (.aload_n 0, 1) := by decide +kernel
theorem dX2_print_24 : decode cX2_print 24 = .ok (.getfield 62, 3) := by decide +kernel
theorem dX2_print_27 : decode cX2_print 27 = .ok (.bipush 20, 2) := by decide +kernel
theorem dX2_print_29 : decode cX2_print 29 = .ok (.if_icmp .ne 7, 3) := by decide +kernel
theorem dX2_print_32 : decode cX2_print 32 = .ok (.iconst 2, 1) := by decide +kernel
theorem dX2_print_33 : decode cX2_print 33 = .ok (.goto 4, 3) := by decide +kernel
theorem dX2_print_36 : decode cX2_print 36 = .ok (.iconst 0, 1) := by decide +kernel
theorem dX2_print_37 : decode cX2_print 37 = .ok (.invokevirtual 87, 3) := by decide +kernel
theorem dX2_print_40 : decode cX2_print 40 = .ok (.ifCond .ne 5, 3) := by decide +kernel
theorem dX2_print_43 : decode cX2_print 43 = .ok (.iconst 0, 1) := by decide +kernel
theorem dX2_print_44 : decode cX2_print 44 = .ok (.ireturn, 1) := by decide +kernel
theorem dX2_print_45 : decode cX2_print 45 = .ok (.iconst 0, 1) := by decide +kernel
theorem dX2_print_46 : decode cX2_print 46 = .ok (.istore_n 2, 1) := by decide +kernel
theorem dX2_print_47 : decode cX2_print 47 = .ok (.iload_n 2, 1) := by decide +kernel
theorem dX2_print_48 : decode cX2_print 48 = .ok (.aload_n 0, 1) := by decide +kernel
theorem dX2_print_49 : decode cX2_print 49 = .ok (.getfield 76, 3) := by decide +kernel
theorem dX2_print_52 : decode cX2_print 52 = .ok (.if_icmp .ge 36, 3) := by decide +kernel
theorem dX2_print_55 : decode cX2_print 55 = .ok (.aload_n 0, 1) := by decide +kernel
theorem dX2_print_56 : decode cX2_print 56 = .ok (.getfield 35, 3) := by decide +kernel
theorem dX2_print_59 : decode cX2_print 59 = .ok (.iconst 4, 1) := by decide +kernel
theorem dX2_print_60 : decode cX2_print 60 = .ok (.aload_n 0, 1) := by decide +kernel
theorem dX2_print_61 : decode cX2_print 61 = .ok (.getfield 62, 3) := by decide +kernel
theorem dX2_print_64 : decode cX2_print 64 = .ok (.imul, 1) := by decide +kernel
theorem dX2_print_65 : decode cX2_print 65 = .ok (.aload_n 0, 1) := by decide +kernel
theorem dX2_print_66 : decode cX2_print 66 = .ok (.getfield 7, 3) := by decide +kernel
theorem dX2_print_69 : decode cX2_print 69 = .ok (.aload_n 0, 1) := by decide +kernel
theorem dX2_print_70 : decode cX2_print 70 = .ok (.getfield 45, 3) := by decide +kernel
theorem dX2_print_73 : decode cX2_print 73 = .ok (.iload_n 2, 1) := by decide +kernel
theorem dX2_print_74 : decode cX2_print 74 = .ok (.iaload, 1) := by decide +kernel
theorem dX2_print_75 : decode cX2_print 75 = .ok (.iaload, 1) := by decide +kernel
theorem dX2_print_76 : decode cX2_print 76 = .ok (.iadd, 1) := by decide +kernel
theorem dX2_print_77 : decode cX2_print 77 = .ok (.dup2, 1) := by decide +kernel
theorem dX2_print_78 : decode cX2_print 78 = .ok (.iaload, 1) := by decide +kernel
theorem dX2_print_79 : decode cX2_print 79 = .ok (.iconst 1, 1) := by decide +kernel
theorem dX2_print_80 : decode cX2_print 80 = .ok (.iadd, 1) := by decide +kernel
theorem dX2_print_81 : decode cX2_print 81 = .ok (.iastore, 1) := by decide +kernel
theorem dX2_print_82 : decode cX2_print 82 = .ok (.iinc 2 1, 3) := by decide +kernel
theorem dX2_print_85 : decode cX2_print 85 = .ok (.goto (-38), 3) := by decide +kernel
theorem dX2_print_88 : decode cX2_print 88 = .ok (.aload_n 0, 1) := by decide +kernel
theorem dX2_print_89 : decode cX2_print 89 = .ok (.dup, 1) := by decide +kernel
theorem dX2_print_90 : decode cX2_print 90 = .ok (.getfield 62, 3) := by decide +kernel
theorem dX2_print_93 : decode cX2_print 93 = .ok (.iconst 1, 1) := by decide +kernel
theorem dX2_print_94 : decode cX2_print 94 = .ok (.iadd, 1) := by decide +kernel
theorem dX2_print_95 : decode cX2_print 95 = .ok (.putfield 62, 3) := by decide +kernel
theorem dX2_print_98 : decode cX2_print 98 = .ok (.aload_n 0, 1) := by decide +kernel
theorem dX2_print_99 : decode cX2_print 99 = .ok (.getfield 62, 3) := by decide +kernel
theorem dX2_print_102 : decode cX2_print 102 = .ok (.iconst 1, 1) := by decide +kernel
theorem dX2_print_103 : decode cX2_print 103 = .ok (.isub, 1) := by decide +kernel
theorem dX2_print_104 : decode cX2_print 104 = .ok (.ireturn, 1) := by decide +kernel
set_option maxRecDepth 20000 in
theorem ggX2_printed_X2_isEdition : GoodIn wsX2_printed wsX2_isEdition := goodIn_r _ [6, 7, 8, 9, 5, 10, 19, 20, 21, 22, 23, 24, 25, 26, 27, 28, 29, 30, 31, 32, 33, 34, 35, 36, 37] (by decide +kernel) (by decide +kernel)
set_option maxRecDepth 20000 in
theorem gX2_printed_X2_isEdition : GoodIn wsX2_printed (wsV RX2 110 RX2 yX2_isEdition wsX2_isEdition) := goodIn_app (goodIn_of _ (by decide +kernel)) ggX2_printed_X2_isEdition
set_option maxRecDepth 20000 in
theorem ggX2_printed_X2_isAuthor : GoodIn wsX2_printed wsX2_isAuthor := goodIn_r _ [13, 8, 9, 5, 10] (by decide +kernel) (by decide +kernel)
set_option maxRecDepth 20000 in
theorem gX2_printed_X2_isAuthor : GoodIn wsX2_printed (va_wsS RX2 83 yX2_isAuthor wsX2_isAuthor) := goodIn_app (goodIn_of _ (by decide +kernel)) ggX2_printed_X2_isAuthor
set_option maxRecDepth 20000 in
theorem ggX2_printed_X2_goes : GoodIn wsX2_printed wsX2_goes := goodIn_r _ [17, 18, 19, 20, 21, 22, 23, 24, 25, 26, 27, 28, 29, 30, 31, 32, 33, 34, 35, 36, 37] (by decide +kernel) (by decide +kernel)
set_option maxRecDepth 20000 in
theorem gX2_printed_X2_goes : GoodIn wsX2_printed (wsV RX2 87 RX2 yX2_goes wsX2_goes) := goodIn_app (goodIn_of _ (by decide +kernel)) ggX2_printed_X2_goes
theorem dX2_printed_0 : decode cX2_printed 0 = .ok (.aload_n 0, 1) := by decide +kernel
theorem dX2_printed_1 : decode cX2_printed 1 = .ok (.aload_n 0, 1) := by decide +kernel
theorem dX2_printed_2 : decode cX2_printed 2 = .ok (.iload_n 1, 1) := by decide +kernel
theorem dX2_printed_3 : decode cX2_printed 3 = .ok (.invokevirtual 110, 3) := by decide +kernel
theorem dX2_printed_6 : decode cX2_printed 6 = .ok (.ifCond .ne 7, 3) := by decide +kernel
theorem dX2_printed_9 : decode cX2_printed 9 = .ok (.iconst 1, 1) := by decide +kernel
theorem dX2_printed_10 : decode cX2_printed 10 = .ok (.goto 15, 3) := by decide +kernel
theorem dX2_printed_13 : decode cX2_printed 13 = .ok (.iload_n 2, 1) := by decide +kernel
theorem dX2_printed_14 : decode cX2_printed 14 = .ok (.invokestatic 83, 3) := by decide +kernel
theorem dX2_printed_17 : decode cX2_printed 17 = .ok (.ifCond .eq 7, 3) := by decide +kernel
theorem dX2_printed_20 : decode cX2_printed 20 = .ok (.iconst 0, 1) := by decide +kernel
theorem dX2_printed_21 : decode cX2_printed 21 = .ok (.goto 4, 3) := by decide +kernel
theorem dX2_printed_24 : decode cX2_printed 24 = .ok (.iconst 2, 1) := by decide +kernel
theorem dX2_printed_25 : decode cX2_printed 25 = .ok (.invokevirtual 87, 3) := by decide +kernel
theorem dX2_printed_28 : decode cX2_printed 28 = .ok (.ifCond .eq 16, 3) := by decide +kernel
theorem dX2_printed_31 : decode cX2_printed 31 = .ok (.aload_n 0, 1) := by decide +kernel
theorem dX2_printed_32 : decode cX2_printed 32 = .ok (.getfield 35, 3) := by decide +kernel
theorem dX2_printed_35 : decode cX2_printed 35 = .ok (.iconst 4, 1) := by decide +kernel
theorem dX2_printed_36 : decode cX2_printed 36 = .ok (.iload_n 1, 1) := by decide +kernel
theorem dX2_printed_37 : decode cX2_printed 37 = .ok (.imul, 1) := by decide +kernel
theorem dX2_printed_38 : decode cX2_printed 38 = .ok (.iload_n 2, 1) := by decide +kernel
theorem dX2_printed_39 : decode cX2_printed 39 = .ok (.iadd, 1) := by decide +kernel
theorem dX2_printed_40 : decode cX2_printed 40 = .ok (.iaload, 1) := by decide +kernel
theorem dX2_printed_41 : decode cX2_printed 41 = .ok (.goto 4, 3) := by decide +kernel
theorem dX2_printed_44 : decode cX2_printed 44 = .ok (.iconst 0, 1) := by decide +kernel
theorem dX2_printed_45 : decode cX2_printed 45 = .ok (.ireturn, 1) := by decide +kernel
set_option maxRecDepth 20000 in
theorem ggX2_setFloor_X2_isIn : GoodIn wsX2_setFloor wsX2_isIn := goodIn_r _ [5] (by decide +kernel) (by decide +kernel)
set_option maxRecDepth 20000 in
theorem gX2_setFloor_X2_isIn : GoodIn wsX2_setFloor (va_wsS RX2 55 yX2_isIn wsX2_isIn) := goodIn_app (goodIn_of _ (by decide +kernel)) ggX2_setFloor_X2_isIn
set_option maxRecDepth 20000 in
theorem ggX2_setFloor_X2_goes : GoodIn wsX2_setFloor wsX2_goes := goodIn_r _ [9, 10, 11, 12, 13, 14, 15, 16, 17, 18, 19, 20, 21, 22, 23, 24, 25, 26, 27, 28, 29] (by decide +kernel) (by decide +kernel)
set_option maxRecDepth 20000 in
theorem gX2_setFloor_X2_goes : GoodIn wsX2_setFloor (wsV RX2 87 RX2 yX2_goes wsX2_goes) := goodIn_app (goodIn_of _ (by decide +kernel)) ggX2_setFloor_X2_goes
theorem dX2_setFloor_0 : decode cX2_setFloor 0 = .ok (.aload_n 0, 1) := by decide +kernel
theorem dX2_setFloor_1 : decode cX2_setFloor 1 = .ok (.iload_n 1, 1) := by decide +kernel
theorem dX2_setFloor_2 : decode cX2_setFloor 2 = .ok (.iconst 0, 1) := by decide +kernel
theorem dX2_setFloor_3 : decode cX2_setFloor 3 = .ok (.bipush 25, 2) := by decide +kernel
theorem dX2_setFloor_5 : decode cX2_setFloor 5 = .ok (.invokestatic 55, 3) := by decide +kernel
theorem dX2_setFloor_8 : decode cX2_setFloor 8 = .ok (.ifCond .eq 7, 3) := by decide +kernel
theorem dX2_setFloor_11 : decode cX2_setFloor 11 = .ok (.iconst 0, 1) := by decide +kernel
theorem dX2_setFloor_12 : decode cX2_setFloor 12 = .ok (.goto 4, 3) := by decide +kernel
theorem dX2_setFloor_15 : decode cX2_setFloor 15 = .ok (.iconst 1, 1) := by decide +kernel
theorem dX2_setFloor_16 : decode cX2_setFloor 16 = .ok (.invokevirtual 87, 3) := by decide +kernel
theorem dX2_setFloor_19 : decode cX2_setFloor 19 = .ok (.ifCond .ne 5, 3) := by decide +kernel
theorem dX2_setFloor_22 : decode cX2_setFloor 22 = .ok (.iconst 0, 1) := by decide +kernel
theorem dX2_setFloor_23 : decode cX2_setFloor 23 = .ok (.ireturn, 1) := by decide +kernel
theorem dX2_setFloor_24 : decode cX2_setFloor 24 = .ok (.aload_n 0, 1) := by decide +kernel
theorem dX2_setFloor_25 : decode cX2_setFloor 25 = .ok (.getfield 113, 3) := by decide +kernel
theorem dX2_setFloor_28 : decode cX2_setFloor 28 = .ok (.istore_n 2, 1) := by decide +kernel
theorem dX2_setFloor_29 : decode cX2_setFloor 29 = .ok (.aload_n 0, 1) := by decide +kernel
theorem dX2_setFloor_30 : decode cX2_setFloor 30 = .ok (.iload_n 1, 1) := by decide +kernel
theorem dX2_setFloor_31 : decode cX2_setFloor 31 = .ok (.putfield 113, 3) := by decide +kernel
theorem dX2_setFloor_34 : decode cX2_setFloor 34 = .ok (.iload_n 2, 1) := by decide +kernel
theorem dX2_setFloor_35 : decode cX2_setFloor 35 = .ok (.ireturn, 1) := by decide +kernel
set_option maxRecDepth 20000 in
theorem ggX2_advance_X2_isAuthor : GoodIn wsX2_advance wsX2_isAuthor := goodIn_r _ [6, 7, 8, 5, 9] (by decide +kernel) (by decide +kernel)
set_option maxRecDepth 20000 in
theorem gX2_advance_X2_isAuthor : GoodIn wsX2_advance (va_wsS RX2 83 yX2_isAuthor wsX2_isAuthor) := goodIn_app (goodIn_of _ (by decide +kernel)) ggX2_advance_X2_isAuthor
set_option maxRecDepth 20000 in
theorem ggX2_advance_X2_isIn : GoodIn wsX2_advance wsX2_isIn := goodIn_r _ [9] (by decide +kernel) (by decide +kernel)
set_option maxRecDepth 20000 in
theorem gX2_advance_X2_isIn : GoodIn wsX2_advance (va_wsS RX2 55 yX2_isIn wsX2_isIn) := goodIn_app (goodIn_of _ (by decide +kernel)) ggX2_advance_X2_isIn
set_option maxRecDepth 20000 in
theorem ggX2_advance_X2_goes : GoodIn wsX2_advance wsX2_goes := goodIn_r _ [13, 14, 15, 16, 17, 18, 19, 20, 21, 22, 23, 24, 25, 26, 27, 28, 29, 30, 31, 32, 33] (by decide +kernel) (by decide +kernel)
set_option maxRecDepth 20000 in
theorem gX2_advance_X2_goes : GoodIn wsX2_advance (wsV RX2 87 RX2 yX2_goes wsX2_goes) := goodIn_app (goodIn_of _ (by decide +kernel)) ggX2_advance_X2_goes
theorem dX2_advance_0 : decode cX2_advance 0 = .ok (.aload_n 0, 1) := by decide +kernel
theorem dX2_advance_1 : decode cX2_advance 1 = .ok (.iload_n 1, 1) := by decide +kernel
theorem dX2_advance_2 : decode cX2_advance 2 = .ok (.invokestatic 83, 3) := by decide +kernel
theorem dX2_advance_5 : decode cX2_advance 5 = .ok (.ifCond .eq 17, 3) := by decide +kernel
theorem dX2_advance_8 : decode cX2_advance 8 = .ok (.iload_n 2, 1) := by decide +kernel
theorem dX2_advance_9 : decode cX2_advance 9 = .ok (.iconst 1, 1) := by decide +kernel
theorem dX2_advance_10 : decode cX2_advance 10 = .ok (.ldc 116, 2) := by decide +kernel
theorem dX2_advance_12 : decode cX2_advance 12 = .ok (.invokestatic 55, 3) := by decide +kernel
theorem dX2_advance_15 : decode cX2_advance 15 = .ok (.ifCond .eq 7, 3) := by decide +kernel
theorem dX2_advance_18 : decode cX2_advance 18 = .ok (.iconst 0, 1) := by decide +kernel
theorem dX2_advance_19 : decode cX2_advance 19 = .ok (.goto 4, 3) := by decide +kernel
theorem dX2_advance_22 : decode cX2_advance 22 = .ok (.iconst 1, 1) := by decide +kernel
theorem dX2_advance_23 : decode cX2_advance 23 = .ok (.invokevirtual 87, 3) := by decide +kernel
theorem dX2_advance_26 : decode cX2_advance 26 = .ok (.ifCond .ne 5, 3) := by decide +kernel
theorem dX2_advance_29 : decode cX2_advance 29 = .ok (.iconst 0, 1) := by decide +kernel
theorem dX2_advance_30 : decode cX2_advance 30 = .ok (.ireturn, 1) := by decide +kernel
theorem dX2_advance_31 : decode cX2_advance 31 = .ok (.aload_n 0, 1) := by decide +kernel
theorem dX2_advance_32 : decode cX2_advance 32 = .ok (.getfield 38, 3) := by decide +kernel
theorem dX2_advance_35 : decode cX2_advance 35 = .ok (.iload_n 1, 1) := by decide +kernel
theorem dX2_advance_36 : decode cX2_advance 36 = .ok (.dup2, 1) := by decide +kernel
theorem dX2_advance_37 : decode cX2_advance 37 = .ok (.iaload, 1) := by decide +kernel
theorem dX2_advance_38 : decode cX2_advance 38 = .ok (.iload_n 2, 1) := by decide +kernel
theorem dX2_advance_39 : decode cX2_advance 39 = .ok (.iadd, 1) := by decide +kernel
theorem dX2_advance_40 : decode cX2_advance 40 = .ok (.iastore, 1) := by decide +kernel
theorem dX2_advance_41 : decode cX2_advance 41 = .ok (.aload_n 0, 1) := by decide +kernel
theorem dX2_advance_42 : decode cX2_advance 42 = .ok (.getfield 38, 3) := by decide +kernel
theorem dX2_advance_45 : decode cX2_advance 45 = .ok (.iload_n 1, 1) := by decide +kernel
theorem dX2_advance_46 : decode cX2_advance 46 = .ok (.iaload, 1) := by decide +kernel
theorem dX2_advance_47 : decode cX2_advance 47 = .ok (.ireturn, 1) := by decide +kernel
set_option maxRecDepth 20000 in
theorem ggX2_sell_X2_isEdition : GoodIn wsX2_sell wsX2_isEdition := goodIn_r _ [10, 11, 12, 13, 9, 14, 20, 21, 22, 23, 24, 25, 26, 27, 28, 29, 30, 31, 32, 33, 34, 35, 36, 37, 38] (by decide +kernel) (by decide +kernel)
set_option maxRecDepth 20000 in
theorem gX2_sell_X2_isEdition : GoodIn wsX2_sell (wsV RX2 110 RX2 yX2_isEdition wsX2_isEdition) := goodIn_app (goodIn_of _ (by decide +kernel)) ggX2_sell_X2_isEdition
set_option maxRecDepth 20000 in
theorem ggX2_sell_X2_isIn : GoodIn wsX2_sell wsX2_isIn := goodIn_r _ [14] (by decide +kernel) (by decide +kernel)
set_option maxRecDepth 20000 in
theorem gX2_sell_X2_isIn : GoodIn wsX2_sell (va_wsS RX2 55 yX2_isIn wsX2_isIn) := goodIn_app (goodIn_of _ (by decide +kernel)) ggX2_sell_X2_isIn
set_option maxRecDepth 20000 in
theorem ggX2_sell_X2_goes : GoodIn wsX2_sell wsX2_goes := goodIn_r _ [18, 19, 20, 21, 22, 23, 24, 25, 26, 27, 28, 29, 30, 31, 32, 33, 34, 35, 36, 37, 38] (by decide +kernel) (by decide +kernel)
set_option maxRecDepth 20000 in
theorem gX2_sell_X2_goes : GoodIn wsX2_sell (wsV RX2 87 RX2 yX2_goes wsX2_goes) := goodIn_app (goodIn_of _ (by decide +kernel)) ggX2_sell_X2_goes
theorem dX2_sell_0 : decode cX2_sell 0 = .ok (.aload_n 0, 1) := by decide +kernel
theorem dX2_sell_1 : decode cX2_sell 1 = .ok (.aload_n 0, 1) := by decide +kernel
theorem dX2_sell_2 : decode cX2_sell 2 = .ok (.iload_n 1, 1) := by decide +kernel
theorem dX2_sell_3 : decode cX2_sell 3 = .ok (.invokevirtual 110, 3) := by decide +kernel
theorem dX2_sell_6 : decode cX2_sell 6 = .ok (.ifCond .ne 7, 3) := by decide +kernel
theorem dX2_sell_9 : decode cX2_sell 9 = .ok (.iconst 1, 1) := by decide +kernel
theorem dX2_sell_10 : decode cX2_sell 10 = .ok (.goto 18, 3) := by decide +kernel
theorem dX2_sell_13 : decode cX2_sell 13 = .ok (.iload_n 2, 1) := by decide +kernel
theorem dX2_sell_14 : decode cX2_sell 14 = .ok (.iconst 1, 1) := by decide +kernel
theorem dX2_sell_15 : decode cX2_sell 15 = .ok (.ldc 117, 2) := by decide +kernel
theorem dX2_sell_17 : decode cX2_sell 17 = .ok (.invokestatic 55, 3) := by decide +kernel
theorem dX2_sell_20 : decode cX2_sell 20 = .ok (.ifCond .eq 7, 3) := by decide +kernel
theorem dX2_sell_23 : decode cX2_sell 23 = .ok (.iconst 0, 1) := by decide +kernel
theorem dX2_sell_24 : decode cX2_sell 24 = .ok (.goto 4, 3) := by decide +kernel
theorem dX2_sell_27 : decode cX2_sell 27 = .ok (.iconst 2, 1) := by decide +kernel
theorem dX2_sell_28 : decode cX2_sell 28 = .ok (.invokevirtual 87, 3) := by decide +kernel
theorem dX2_sell_31 : decode cX2_sell 31 = .ok (.ifCond .ne 5, 3) := by decide +kernel
theorem dX2_sell_34 : decode cX2_sell 34 = .ok (.iconst 0, 1) := by decide +kernel
theorem dX2_sell_35 : decode cX2_sell 35 = .ok (.ireturn, 1) := by decide +kernel
theorem dX2_sell_36 : decode cX2_sell 36 = .ok (.iconst 4, 1) := by decide +kernel
theorem dX2_sell_37 : decode cX2_sell 37 = .ok (.iload_n 1, 1) := by decide +kernel
theorem dX2_sell_38 : decode cX2_sell 38 = .ok (.imul, 1) := by decide +kernel
theorem dX2_sell_39 : decode cX2_sell 39 = .ok (.istore_n 3, 1) := by decide +kernel
theorem dX2_sell_40 : decode cX2_sell 40 = .ok (.iconst 0, 1) := by decide +kernel
theorem dX2_sell_41 : decode cX2_sell 41 = .ok (.istore 4, 2) := by decide +kernel
theorem dX2_sell_43 : decode cX2_sell 43 = .ok (.iload_n 2, 1) := by decide +kernel
theorem dX2_sell_44 : decode cX2_sell 44 = .ok (.istore 5, 2) := by decide +kernel
theorem dX2_sell_46 : decode cX2_sell 46 = .ok (.iconst (-1), 1) := by decide +kernel
theorem dX2_sell_47 : decode cX2_sell 47 = .ok (.istore 6, 2) := by decide +kernel
theorem dX2_sell_49 : decode cX2_sell 49 = .ok (.iconst 3, 1) := by decide +kernel
theorem dX2_sell_50 : decode cX2_sell 50 = .ok (.istore 7, 2) := by decide +kernel
theorem dX2_sell_52 : decode cX2_sell 52 = .ok (.iload 7, 2) := by decide +kernel
theorem dX2_sell_54 : decode cX2_sell 54 = .ok (.ifCond .lt 79, 3) := by decide +kernel
theorem dX2_sell_57 : decode cX2_sell 57 = .ok (.aload_n 0, 1) := by decide +kernel
theorem dX2_sell_58 : decode cX2_sell 58 = .ok (.getfield 35, 3) := by decide +kernel
theorem dX2_sell_61 : decode cX2_sell 61 = .ok (.iload_n 3, 1) := by decide +kernel
theorem dX2_sell_62 : decode cX2_sell 62 = .ok (.iload 7, 2) := by decide +kernel
theorem dX2_sell_64 : decode cX2_sell 64 = .ok (.iadd, 1) := by decide +kernel
theorem dX2_sell_65 : decode cX2_sell 65 = .ok (.iaload, 1) := by decide +kernel
theorem dX2_sell_66 : decode cX2_sell 66 = .ok (.ifCond .le 7, 3) := by decide +kernel
theorem dX2_sell_69 : decode cX2_sell 69 = .ok (.iconst 1, 1) := by decide +kernel
theorem dX2_sell_70 : decode cX2_sell 70 = .ok (.goto 4, 3) := by decide +kernel
theorem dX2_sell_73 : decode cX2_sell 73 = .ok (.iconst 0, 1) := by decide +kernel
theorem dX2_sell_74 : decode cX2_sell 74 = .ok (.istore 8, 2) := by decide +kernel
theorem dX2_sell_76 : decode cX2_sell 76 = .ok (.iload 4, 2) := by decide +kernel
theorem dX2_sell_78 : decode cX2_sell 78 = .ok (.aload_n 0, 1) := by decide +kernel
theorem dX2_sell_79 : decode cX2_sell 79 = .ok (.getfield 35, 3) := by decide +kernel
theorem dX2_sell_82 : decode cX2_sell 82 = .ok (.iload_n 3, 1) := by decide +kernel
theorem dX2_sell_83 : decode cX2_sell 83 = .ok (.iload 7, 2) := by decide +kernel
theorem dX2_sell_85 : decode cX2_sell 85 = .ok (.iadd, 1) := by decide +kernel
theorem dX2_sell_86 : decode cX2_sell 86 = .ok (.iaload, 1) := by decide +kernel
theorem dX2_sell_87 : decode cX2_sell 87 = .ok (.iadd, 1) := by decide +kernel
theorem dX2_sell_88 : decode cX2_sell 88 = .ok (.istore 4, 2) := by decide +kernel
theorem dX2_sell_90 : decode cX2_sell 90 = .ok (.iload 5, 2) := by decide +kernel
theorem dX2_sell_92 : decode cX2_sell 92 = .ok (.iload 8, 2) := by decide +kernel
theorem dX2_sell_94 : decode cX2_sell 94 = .ok (.ifCond .eq 15, 3) := by decide +kernel
theorem dX2_sell_97 : decode cX2_sell 97 = .ok (.iload_n 2, 1) := by decide +kernel
theorem dX2_sell_98 : decode cX2_sell 98 = .ok (.aload_n 0, 1) := by decide +kernel
theorem dX2_sell_99 : decode cX2_sell 99 = .ok (.getfield 113, 3) := by decide +kernel
theorem dX2_sell_102 : decode cX2_sell 102 = .ok (.imul, 1) := by decide +kernel
theorem dX2_sell_103 : decode cX2_sell 103 = .ok (.bipush 100, 2) := by decide +kernel
theorem dX2_sell_105 : decode cX2_sell 105 = .ok (.idiv, 1) := by decide +kernel
theorem dX2_sell_106 : decode cX2_sell 106 = .ok (.goto 4, 3) := by decide +kernel
theorem dX2_sell_109 : decode cX2_sell 109 = .ok (.iconst 0, 1) := by decide +kernel
theorem dX2_sell_110 : decode cX2_sell 110 = .ok (.isub, 1) := by decide +kernel
theorem dX2_sell_111 : decode cX2_sell 111 = .ok (.istore 5, 2) := by decide +kernel
theorem dX2_sell_113 : decode cX2_sell 113 = .ok (.iload 8, 2) := by decide +kernel
theorem dX2_sell_115 : decode cX2_sell 115 = .ok (.ifCond .eq 8, 3) := by decide +kernel
theorem dX2_sell_118 : decode cX2_sell 118 = .ok (.iload 7, 2) := by decide +kernel
theorem dX2_sell_120 : decode cX2_sell 120 = .ok (.goto 5, 3) := by decide +kernel
theorem dX2_sell_123 : decode cX2_sell 123 = .ok (.iload 6, 2) := by decide +kernel
theorem dX2_sell_125 : decode cX2_sell 125 = .ok (.istore 6, 2) := by decide +kernel
theorem dX2_sell_127 : decode cX2_sell 127 = .ok (.iinc 7 (-1), 3) := by decide +kernel
theorem dX2_sell_130 : decode cX2_sell 130 = .ok (.goto (-78), 3) := by decide +kernel
theorem dX2_sell_133 : decode cX2_sell 133 = .ok (.iload 5, 2) := by decide +kernel
theorem dX2_sell_135 : decode cX2_sell 135 = .ok (.istore 7, 2) := by decide +kernel
theorem dX2_sell_137 : decode cX2_sell 137 = .ok (.iconst 0, 1) := by decide +kernel
theorem dX2_sell_138 : decode cX2_sell 138 = .ok (.istore 8, 2) := by decide +kernel
theorem dX2_sell_140 : decode cX2_sell 140 = .ok (.iload 8, 2) := by decide +kernel
theorem dX2_sell_142 : decode cX2_sell 142 = .ok (.iconst 4, 1) := by decide +kernel
theorem dX2_sell_143 : decode cX2_sell 143 = .ok (.if_icmp .ge 29, 3) := by decide +kernel
theorem dX2_sell_146 : decode cX2_sell 146 = .ok (.iload 7, 2) := by decide +kernel
theorem dX2_sell_148 : decode cX2_sell 148 = .ok (.iload 5, 2) := by decide +kernel
theorem dX2_sell_150 : decode cX2_sell 150 = .ok (.aload_n 0, 1) := by decide +kernel
theorem dX2_sell_151 : decode cX2_sell 151 = .ok (.getfield 35, 3) := by decide +kernel
theorem dX2_sell_154 : decode cX2_sell 154 = .ok (.iload_n 3, 1) := by decide +kernel
theorem dX2_sell_155 : decode cX2_sell 155 = .ok (.iload 8, 2) := by decide +kernel
theorem dX2_sell_157 : decode cX2_sell 157 = .ok (.iadd, 1) := by decide +kernel
theorem dX2_sell_158 : decode cX2_sell 158 = .ok (.iaload, 1) := by decide +kernel
theorem dX2_sell_159 : decode cX2_sell 159 = .ok (.imul, 1) := by decide +kernel
theorem dX2_sell_160 : decode cX2_sell 160 = .ok (.iload 4, 2) := by decide +kernel
theorem dX2_sell_162 : decode cX2_sell 162 = .ok (.idiv, 1) := by decide +kernel
theorem dX2_sell_163 : decode cX2_sell 163 = .ok (.isub, 1) := by decide +kernel
theorem dX2_sell_164 : decode cX2_sell 164 = .ok (.istore 7, 2) := by decide +kernel
theorem dX2_sell_166 : decode cX2_sell 166 = .ok (.iinc 8 1, 3) := by decide +kernel
theorem dX2_sell_169 : decode cX2_sell 169 = .ok (.goto (-29), 3) := by decide +kernel
theorem dX2_sell_172 : decode cX2_sell 172 = .ok (.iconst 0, 1) := by decide +kernel
theorem dX2_sell_173 : decode cX2_sell 173 = .ok (.istore 8, 2) := by decide +kernel
theorem dX2_sell_175 : decode cX2_sell 175 = .ok (.iconst 0, 1) := by decide +kernel
theorem dX2_sell_176 : decode cX2_sell 176 = .ok (.istore 9, 2) := by decide +kernel
theorem dX2_sell_178 : decode cX2_sell 178 = .ok (.iload 9, 2) := by decide +kernel
theorem dX2_sell_180 : decode cX2_sell 180 = .ok (.iconst 4, 1) := by decide +kernel
theorem dX2_sell_181 : decode cX2_sell 181 = .ok (.if_icmp .ge 130, 3) := by decide +kernel
theorem dX2_sell_184 : decode cX2_sell 184 = .ok (.iload 5, 2) := by decide +kernel
theorem dX2_sell_186 : decode cX2_sell 186 = .ok (.aload_n 0, 1) := by decide +kernel
theorem dX2_sell_187 : decode cX2_sell 187 = .ok (.getfield 35, 3) := by decide +kernel
theorem dX2_sell_190 : decode cX2_sell 190 = .ok (.iload_n 3, 1) := by decide +kernel
theorem dX2_sell_191 : decode cX2_sell 191 = .ok (.iload 9, 2) := by decide +kernel
theorem dX2_sell_193 : decode cX2_sell 193 = .ok (.iadd, 1) := by decide +kernel
theorem dX2_sell_194 : decode cX2_sell 194 = .ok (.iaload, 1) := by decide +kernel
theorem dX2_sell_195 : decode cX2_sell 195 = .ok (.imul, 1) := by decide +kernel
theorem dX2_sell_196 : decode cX2_sell 196 = .ok (.iload 4, 2) := by decide +kernel
theorem dX2_sell_198 : decode cX2_sell 198 = .ok (.idiv, 1) := by decide +kernel
theorem dX2_sell_199 : decode cX2_sell 199 = .ok (.aload_n 0, 1) := by decide +kernel
theorem dX2_sell_200 : decode cX2_sell 200 = .ok (.getfield 35, 3) := by decide +kernel
theorem dX2_sell_203 : decode cX2_sell 203 = .ok (.iload_n 3, 1) := by decide +kernel
theorem dX2_sell_204 : decode cX2_sell 204 = .ok (.iload 9, 2) := by decide +kernel
theorem dX2_sell_206 : decode cX2_sell 206 = .ok (.iadd, 1) := by decide +kernel
theorem dX2_sell_207 : decode cX2_sell 207 = .ok (.iaload, 1) := by decide +kernel
theorem dX2_sell_208 : decode cX2_sell 208 = .ok (.ifCond .le 15, 3) := by decide +kernel
theorem dX2_sell_211 : decode cX2_sell 211 = .ok (.iload_n 2, 1) := by decide +kernel
theorem dX2_sell_212 : decode cX2_sell 212 = .ok (.aload_n 0, 1) := by decide +kernel
theorem dX2_sell_213 : decode cX2_sell 213 = .ok (.getfield 113, 3) := by decide +kernel
theorem dX2_sell_216 : decode cX2_sell 216 = .ok (.imul, 1) := by decide +kernel
theorem dX2_sell_217 : decode cX2_sell 217 = .ok (.bipush 100, 2) := by decide +kernel
theorem dX2_sell_219 : decode cX2_sell 219 = .ok (.idiv, 1) := by decide +kernel
theorem dX2_sell_220 : decode cX2_sell 220 = .ok (.goto 4, 3) := by decide +kernel
theorem dX2_sell_223 : decode cX2_sell 223 = .ok (.iconst 0, 1) := by decide +kernel
theorem dX2_sell_224 : decode cX2_sell 224 = .ok (.iadd, 1) := by decide +kernel
theorem dX2_sell_225 : decode cX2_sell 225 = .ok (.iload 9, 2) := by decide +kernel
theorem dX2_sell_227 : decode cX2_sell 227 = .ok (.iload 6, 2) := by decide +kernel
theorem dX2_sell_229 : decode cX2_sell 229 = .ok (.if_icmp .ne 8, 3) := by decide +kernel
theorem dX2_sell_232 : decode cX2_sell 232 = .ok (.iload 7, 2) := by decide +kernel
theorem dX2_sell_234 : decode cX2_sell 234 = .ok (.goto 4, 3) := by decide +kernel
theorem dX2_sell_237 : decode cX2_sell 237 = .ok (.iconst 0, 1) := by decide +kernel
theorem dX2_sell_238 : decode cX2_sell 238 = .ok (.iadd, 1) := by decide +kernel
theorem dX2_sell_239 : decode cX2_sell 239 = .ok (.istore 10, 2) := by decide +kernel
theorem dX2_sell_241 : decode cX2_sell 241 = .ok (.iload 10, 2) := by decide +kernel
theorem dX2_sell_243 : decode cX2_sell 243 = .ok (.aload_n 0, 1) := by decide +kernel
theorem dX2_sell_244 : decode cX2_sell 244 = .ok (.getfield 38, 3) := by decide +kernel
theorem dX2_sell_247 : decode cX2_sell 247 = .ok (.iload 9, 2) := by decide +kernel
theorem dX2_sell_249 : decode cX2_sell 249 = .ok (.iaload, 1) := by decide +kernel
theorem dX2_sell_250 : decode cX2_sell 250 = .ok (.if_icmp .ge 8, 3) := by decide +kernel
theorem dX2_sell_253 : decode cX2_sell 253 = .ok (.iload 10, 2) := by decide +kernel
theorem dX2_sell_255 : decode cX2_sell 255 = .ok (.goto 10, 3) := by decide +kernel
theorem dX2_sell_258 : decode cX2_sell 258 = .ok (.aload_n 0, 1) := by decide +kernel
theorem dX2_sell_259 : decode cX2_sell 259 = .ok (.getfield 38, 3) := by decide +kernel
theorem dX2_sell_262 : decode cX2_sell 262 = .ok (.iload 9, 2) := by decide +kernel
theorem dX2_sell_264 : decode cX2_sell 264 = .ok (.iaload, 1) := by decide +kernel
theorem dX2_sell_265 : decode cX2_sell 265 = .ok (.istore 11, 2) := by decide +kernel
theorem dX2_sell_267 : decode cX2_sell 267 = .ok (.aload_n 0, 1) := by decide +kernel
theorem dX2_sell_268 : decode cX2_sell 268 = .ok (.getfield 38, 3) := by decide +kernel
theorem dX2_sell_271 : decode cX2_sell 271 = .ok (.iload 9, 2) := by decide +kernel
theorem dX2_sell_273 : decode cX2_sell 273 = .ok (.dup2, 1) := by decide +kernel
theorem dX2_sell_274 : decode cX2_sell 274 = .ok (.iaload, 1) := by decide +kernel
theorem dX2_sell_275 : decode cX2_sell 275 = .ok (.iload 11, 2) := by decide +kernel
theorem dX2_sell_277 : decode cX2_sell 277 = .ok (.isub, 1) := by decide +kernel
theorem dX2_sell_278 : decode cX2_sell 278 = .ok (.iastore, 1) := by decide +kernel
theorem dX2_sell_279 : decode cX2_sell 279 = .ok (.aload_n 0, 1) := by decide +kernel
theorem dX2_sell_280 : decode cX2_sell 280 = .ok (.getfield 41, 3) := by decide +kernel
theorem dX2_sell_283 : decode cX2_sell 283 = .ok (.iload 9, 2) := by decide +kernel
theorem dX2_sell_285 : decode cX2_sell 285 = .ok (.dup2, 1) := by decide +kernel
theorem dX2_sell_286 : decode cX2_sell 286 = .ok (.laload, 1) := by decide +kernel
theorem dX2_sell_287 : decode cX2_sell 287 = .ok (.iload 10, 2) := by decide +kernel
theorem dX2_sell_289 : decode cX2_sell 289 = .ok (.iload 11, 2) := by decide +kernel
theorem dX2_sell_291 : decode cX2_sell 291 = .ok (.isub, 1) := by decide +kernel
theorem dX2_sell_292 : decode cX2_sell 292 = .ok (.i2l, 1) := by decide +kernel
theorem dX2_sell_293 : decode cX2_sell 293 = .ok (.ladd, 1) := by decide +kernel
theorem dX2_sell_294 : decode cX2_sell 294 = .ok (.lastore, 1) := by decide +kernel
theorem dX2_sell_295 : decode cX2_sell 295 = .ok (.iload 8, 2) := by decide +kernel
theorem dX2_sell_297 : decode cX2_sell 297 = .ok (.iload 10, 2) := by decide +kernel
theorem dX2_sell_299 : decode cX2_sell 299 = .ok (.iload 11, 2) := by decide +kernel
theorem dX2_sell_301 : decode cX2_sell 301 = .ok (.isub, 1) := by decide +kernel
theorem dX2_sell_302 : decode cX2_sell 302 = .ok (.iadd, 1) := by decide +kernel
theorem dX2_sell_303 : decode cX2_sell 303 = .ok (.istore 8, 2) := by decide +kernel
theorem dX2_sell_305 : decode cX2_sell 305 = .ok (.iinc 9 1, 3) := by decide +kernel
theorem dX2_sell_308 : decode cX2_sell 308 = .ok (.goto (-130), 3) := by decide +kernel
theorem dX2_sell_311 : decode cX2_sell 311 = .ok (.iload 8, 2) := by decide +kernel
theorem dX2_sell_313 : decode cX2_sell 313 = .ok (.ireturn, 1) := by decide +kernel
set_option maxRecDepth 20000 in
theorem ggX2_paid_X2_asks : GoodIn wsX2_paid wsX2_asks := goodIn_r _ [6, 7, 8, 5, 9, 10, 11, 12, 13, 14, 15, 16, 17, 18, 19, 20, 21, 22, 23, 24, 25, 26, 27, 28, 29, 30, 31, 32, 33, 34, 35, 36] (by decide +kernel) (by decide +kernel)
set_option maxRecDepth 20000 in
theorem gX2_paid_X2_asks : GoodIn wsX2_paid (wsV RX2 103 RX2 yX2_asks wsX2_asks) := goodIn_app (goodIn_of _ (by decide +kernel)) ggX2_paid_X2_asks
theorem dX2_paid_0 : decode cX2_paid 0 = .ok (.aload_n 0, 1) := by decide +kernel
theorem dX2_paid_1 : decode cX2_paid 1 = .ok (.iload_n 1, 1) := by decide +kernel
theorem dX2_paid_2 : decode cX2_paid 2 = .ok (.invokevirtual 103, 3) := by decide +kernel
theorem dX2_paid_5 : decode cX2_paid 5 = .ok (.ifCond .eq 12, 3) := by decide +kernel
theorem dX2_paid_8 : decode cX2_paid 8 = .ok (.aload_n 0, 1) := by decide +kernel
theorem dX2_paid_9 : decode cX2_paid 9 = .ok (.getfield 41, 3) := by decide +kernel
theorem dX2_paid_12 : decode cX2_paid 12 = .ok (.iload_n 1, 1) := by decide +kernel
theorem dX2_paid_13 : decode cX2_paid 13 = .ok (.laload, 1) := by decide +kernel
theorem dX2_paid_14 : decode cX2_paid 14 = .ok (.goto 4, 3) := by decide +kernel
theorem dX2_paid_17 : decode cX2_paid 17 = .ok (.lconst 0, 1) := by decide +kernel
theorem dX2_paid_18 : decode cX2_paid 18 = .ok (.lreturn, 1) := by decide +kernel
set_option maxRecDepth 20000 in
theorem ggX2_left_X2_asks : GoodIn wsX2_left wsX2_asks := goodIn_r _ [6, 7, 8, 5, 9, 10, 11, 12, 13, 14, 15, 16, 17, 18, 19, 20, 21, 22, 23, 24, 25, 26, 27, 28, 29, 30, 31, 32, 33, 34, 35, 36] (by decide +kernel) (by decide +kernel)
set_option maxRecDepth 20000 in
theorem gX2_left_X2_asks : GoodIn wsX2_left (wsV RX2 103 RX2 yX2_asks wsX2_asks) := goodIn_app (goodIn_of _ (by decide +kernel)) ggX2_left_X2_asks
theorem dX2_left_0 : decode cX2_left 0 = .ok (.aload_n 0, 1) := by decide +kernel
theorem dX2_left_1 : decode cX2_left 1 = .ok (.iload_n 1, 1) := by decide +kernel
theorem dX2_left_2 : decode cX2_left 2 = .ok (.invokevirtual 103, 3) := by decide +kernel
theorem dX2_left_5 : decode cX2_left 5 = .ok (.ifCond .eq 12, 3) := by decide +kernel
theorem dX2_left_8 : decode cX2_left 8 = .ok (.aload_n 0, 1) := by decide +kernel
theorem dX2_left_9 : decode cX2_left 9 = .ok (.getfield 38, 3) := by decide +kernel
theorem dX2_left_12 : decode cX2_left 12 = .ok (.iload_n 1, 1) := by decide +kernel
theorem dX2_left_13 : decode cX2_left 13 = .ok (.iaload, 1) := by decide +kernel
theorem dX2_left_14 : decode cX2_left 14 = .ok (.goto 4, 3) := by decide +kernel
theorem dX2_left_17 : decode cX2_left 17 = .ok (.iconst 0, 1) := by decide +kernel
theorem dX2_left_18 : decode cX2_left 18 = .ok (.ireturn, 1) := by decide +kernel
theorem dJ9_max_7cf53_0 : decode cJ9_max_7cf53 0 = .ok (.iload_n 0, 1) := by decide +kernel
theorem dJ9_max_7cf53_1 : decode cJ9_max_7cf53 1 = .ok (.iload_n 1, 1) := by decide +kernel
theorem dJ9_max_7cf53_2 : decode cJ9_max_7cf53 2 = .ok (.if_icmp .lt 7, 3) := by decide +kernel
theorem dJ9_max_7cf53_5 : decode cJ9_max_7cf53 5 = .ok (.iload_n 0, 1) := by decide +kernel
theorem dJ9_max_7cf53_6 : decode cJ9_max_7cf53 6 = .ok (.goto 4, 3) := by decide +kernel
theorem dJ9_max_7cf53_9 : decode cJ9_max_7cf53 9 = .ok (.iload_n 1, 1) := by decide +kernel
theorem dJ9_max_7cf53_10 : decode cJ9_max_7cf53 10 = .ok (.ireturn, 1) := by decide +kernel
theorem dJ9_min_7cf53_0 : decode cJ9_min_7cf53 0 = .ok (.iload_n 0, 1) := by decide +kernel
theorem dJ9_min_7cf53_1 : decode cJ9_min_7cf53 1 = .ok (.iload_n 1, 1) := by decide +kernel
theorem dJ9_min_7cf53_2 : decode cJ9_min_7cf53 2 = .ok (.if_icmp .gt 7, 3) := by decide +kernel
theorem dJ9_min_7cf53_5 : decode cJ9_min_7cf53 5 = .ok (.iload_n 0, 1) := by decide +kernel
theorem dJ9_min_7cf53_6 : decode cJ9_min_7cf53 6 = .ok (.goto 4, 3) := by decide +kernel
theorem dJ9_min_7cf53_9 : decode cJ9_min_7cf53 9 = .ok (.iload_n 1, 1) := by decide +kernel
theorem dJ9_min_7cf53_10 : decode cJ9_min_7cf53 10 = .ok (.ireturn, 1) := by decide +kernel
