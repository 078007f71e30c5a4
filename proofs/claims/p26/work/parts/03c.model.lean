theorem dX4_init_0 : decode cX4_init 0 = .ok (.aload_n 0, 1) := by decide +kernel
theorem dX4_init_1 : decode cX4_init 1 = .ok (.invokespecial 1, 3) := by decide +kernel
theorem dX4_init_4 : decode cX4_init 4 = .ok (.aload_n 0, 1) := by decide +kernel
theorem dX4_init_5 : decode cX4_init 5 = .ok (.iconst 0, 1) := by decide +kernel
theorem dX4_init_6 : decode cX4_init 6 = .ok (.invokestatic 7, 3) := by decide +kernel
theorem dX4_init_9 : decode cX4_init 9 = .ok (.putfield 13, 3) := by decide +kernel
theorem dX4_init_12 : decode cX4_init 12 = .ok (.aload_n 0, 1) := by decide +kernel
theorem dX4_init_13 : decode cX4_init 13 = .ok (.iconst 1, 1) := by decide +kernel
theorem dX4_init_14 : decode cX4_init 14 = .ok (.invokestatic 7, 3) := by decide +kernel
theorem dX4_init_17 : decode cX4_init 17 = .ok (.putfield 19, 3) := by decide +kernel
theorem dX4_init_20 : decode cX4_init 20 = .ok (.aload_n 0, 1) := by decide +kernel
theorem dX4_init_21 : decode cX4_init 21 = .ok (.iconst 1, 1) := by decide +kernel
theorem dX4_init_22 : decode cX4_init 22 = .ok (.anewarray 22, 3) := by decide +kernel
theorem dX4_init_25 : decode cX4_init 25 = .ok (.dup, 1) := by decide +kernel
theorem dX4_init_26 : decode cX4_init 26 = .ok (.iconst 0, 1) := by decide +kernel
theorem dX4_init_27 : decode cX4_init 27 = .ok (.iconst 0, 1) := by decide +kernel
theorem dX4_init_28 : decode cX4_init 28 = .ok (.newarray .int, 2) := by decide +kernel
theorem dX4_init_30 : decode cX4_init 30 = .ok (.aastore, 1) := by decide +kernel
theorem dX4_init_31 : decode cX4_init 31 = .ok (.putfield 23, 3) := by decide +kernel
theorem dX4_init_34 : decode cX4_init 34 = .ok (.aload_n 0, 1) := by decide +kernel
theorem dX4_init_35 : decode cX4_init 35 = .ok (.bipush 16, 2) := by decide +kernel
theorem dX4_init_37 : decode cX4_init 37 = .ok (.newarray .int, 2) := by decide +kernel
theorem dX4_init_39 : decode cX4_init 39 = .ok (.putfield 27, 3) := by decide +kernel
theorem dX4_init_42 : decode cX4_init 42 = .ok (.aload_n 0, 1) := by decide +kernel
theorem dX4_init_43 : decode cX4_init 43 = .ok (.bipush 16, 2) := by decide +kernel
theorem dX4_init_45 : decode cX4_init 45 = .ok (.newarray .int, 2) := by decide +kernel
theorem dX4_init_47 : decode cX4_init 47 = .ok (.putfield 30, 3) := by decide +kernel
theorem dX4_init_50 : decode cX4_init 50 = .ok (.aload_n 0, 1) := by decide +kernel
theorem dX4_init_51 : decode cX4_init 51 = .ok (.iconst 0, 1) := by decide +kernel
theorem dX4_init_52 : decode cX4_init 52 = .ok (.newarray .int, 2) := by decide +kernel
theorem dX4_init_54 : decode cX4_init 54 = .ok (.putfield 33, 3) := by decide +kernel
theorem dX4_init_57 : decode cX4_init 57 = .ok (.return_, 1) := by decide +kernel
theorem dX4_more_0 : decode cX4_more 0 = .ok (.aload_n 0, 1) := by decide +kernel
theorem dX4_more_1 : decode cX4_more 1 = .ok (.arraylength, 1) := by decide +kernel
theorem dX4_more_2 : decode cX4_more 2 = .ok (.iconst 1, 1) := by decide +kernel
theorem dX4_more_3 : decode cX4_more 3 = .ok (.iadd, 1) := by decide +kernel
theorem dX4_more_4 : decode cX4_more 4 = .ok (.newarray .int, 2) := by decide +kernel
theorem dX4_more_6 : decode cX4_more 6 = .ok (.astore_n 2, 1) := by decide +kernel
theorem dX4_more_7 : decode cX4_more 7 = .ok (.iconst 0, 1) := by decide +kernel
theorem dX4_more_8 : decode cX4_more 8 = .ok (.istore_n 3, 1) := by decide +kernel
theorem dX4_more_9 : decode cX4_more 9 = .ok (.iload_n 3, 1) := by decide +kernel
theorem dX4_more_10 : decode cX4_more 10 = .ok (.aload_n 0, 1) := by decide +kernel
theorem dX4_more_11 : decode cX4_more 11 = .ok (.arraylength, 1) := by decide +kernel
theorem dX4_more_12 : decode cX4_more 12 = .ok (.if_icmp .ge 15, 3) := by decide +kernel
theorem dX4_more_15 : decode cX4_more 15 = .ok (.aload_n 2, 1) := by decide +kernel
theorem dX4_more_16 : decode cX4_more 16 = .ok (.iload_n 3, 1) := by decide +kernel
theorem dX4_more_17 : decode cX4_more 17 = .ok (.aload_n 0, 1) := by decide +kernel
theorem dX4_more_18 : decode cX4_more 18 = .ok (.iload_n 3, 1) := by decide +kernel
theorem dX4_more_19 : decode cX4_more 19 = .ok (.iaload, 1) := by decide +kernel
theorem dX4_more_20 : decode cX4_more 20 = .ok (.iastore, 1) := by decide +kernel
theorem dX4_more_21 : decode cX4_more 21 = .ok (.iinc 3 1, 3) := by decide +kernel
theorem dX4_more_24 : decode cX4_more 24 = .ok (.goto (-15), 3) := by decide +kernel
theorem dX4_more_27 : decode cX4_more 27 = .ok (.aload_n 2, 1) := by decide +kernel
theorem dX4_more_28 : decode cX4_more 28 = .ok (.aload_n 0, 1) := by decide +kernel
theorem dX4_more_29 : decode cX4_more 29 = .ok (.arraylength, 1) := by decide +kernel
theorem dX4_more_30 : decode cX4_more 30 = .ok (.iload_n 1, 1) := by decide +kernel
theorem dX4_more_31 : decode cX4_more 31 = .ok (.iastore, 1) := by decide +kernel
theorem dX4_more_32 : decode cX4_more 32 = .ok (.aload_n 2, 1) := by decide +kernel
theorem dX4_more_33 : decode cX4_more 33 = .ok (.areturn, 1) := by decide +kernel
theorem dX4_read_0 : decode cX4_read 0 = .ok (.iconst 5, 1) := by decide +kernel
theorem dX4_read_1 : decode cX4_read 1 = .ok (.newarray .boolean, 2) := by decide +kernel
theorem dX4_read_3 : decode cX4_read 3 = .ok (.astore_n 3, 1) := by decide +kernel
theorem dX4_read_4 : decode cX4_read 4 = .ok (.iload_n 2, 1) := by decide +kernel
theorem dX4_read_5 : decode cX4_read 5 = .ok (.bipush 16, 2) := by decide +kernel
theorem dX4_read_7 : decode cX4_read 7 = .ok (.irem, 1) := by decide +kernel
theorem dX4_read_8 : decode cX4_read 8 = .ok (.istore 4, 2) := by decide +kernel
theorem dX4_read_10 : decode cX4_read 10 = .ok (.iconst 0, 1) := by decide +kernel
theorem dX4_read_11 : decode cX4_read 11 = .ok (.istore 5, 2) := by decide +kernel
theorem dX4_read_13 : decode cX4_read 13 = .ok (.iload 5, 2) := by decide +kernel
theorem dX4_read_15 : decode cX4_read 15 = .ok (.iconst 5, 1) := by decide +kernel
theorem dX4_read_16 : decode cX4_read 16 = .ok (.if_icmp .ge 39, 3) := by decide +kernel
theorem dX4_read_19 : decode cX4_read 19 = .ok (.aload_n 3, 1) := by decide +kernel
theorem dX4_read_20 : decode cX4_read 20 = .ok (.iload 5, 2) := by decide +kernel
theorem dX4_read_22 : decode cX4_read 22 = .ok (.iload_n 1, 1) := by decide +kernel
theorem dX4_read_23 : decode cX4_read 23 = .ok (.iload 5, 2) := by decide +kernel
theorem dX4_read_25 : decode cX4_read 25 = .ok (.ishr, 1) := by decide +kernel
theorem dX4_read_26 : decode cX4_read 26 = .ok (.iconst 1, 1) := by decide +kernel
theorem dX4_read_27 : decode cX4_read 27 = .ok (.iand, 1) := by decide +kernel
theorem dX4_read_28 : decode cX4_read 28 = .ok (.aload_n 0, 1) := by decide +kernel
theorem dX4_read_29 : decode cX4_read 29 = .ok (.getfield 30, 3) := by decide +kernel
theorem dX4_read_32 : decode cX4_read 32 = .ok (.iload 4, 2) := by decide +kernel
theorem dX4_read_34 : decode cX4_read 34 = .ok (.iaload, 1) := by decide +kernel
theorem dX4_read_35 : decode cX4_read 35 = .ok (.iload 5, 2) := by decide +kernel
theorem dX4_read_37 : decode cX4_read 37 = .ok (.ishr, 1) := by decide +kernel
theorem dX4_read_38 : decode cX4_read 38 = .ok (.iconst 1, 1) := by decide +kernel
theorem dX4_read_39 : decode cX4_read 39 = .ok (.iand, 1) := by decide +kernel
theorem dX4_read_40 : decode cX4_read 40 = .ok (.if_icmp .eq 7, 3) := by decide +kernel
theorem dX4_read_43 : decode cX4_read 43 = .ok (.iconst 1, 1) := by decide +kernel
theorem dX4_read_44 : decode cX4_read 44 = .ok (.goto 4, 3) := by decide +kernel
theorem dX4_read_47 : decode cX4_read 47 = .ok (.iconst 0, 1) := by decide +kernel
theorem dX4_read_48 : decode cX4_read 48 = .ok (.bastore, 1) := by decide +kernel
theorem dX4_read_49 : decode cX4_read 49 = .ok (.iinc 5 1, 3) := by decide +kernel
theorem dX4_read_52 : decode cX4_read 52 = .ok (.goto (-39), 3) := by decide +kernel
theorem dX4_read_55 : decode cX4_read 55 = .ok (.iconst 0, 1) := by decide +kernel
theorem dX4_read_56 : decode cX4_read 56 = .ok (.istore 5, 2) := by decide +kernel
theorem dX4_read_58 : decode cX4_read 58 = .ok (.iconst 0, 1) := by decide +kernel
theorem dX4_read_59 : decode cX4_read 59 = .ok (.istore 6, 2) := by decide +kernel
theorem dX4_read_61 : decode cX4_read 61 = .ok (.iload 6, 2) := by decide +kernel
theorem dX4_read_63 : decode cX4_read 63 = .ok (.iconst 5, 1) := by decide +kernel
theorem dX4_read_64 : decode cX4_read 64 = .ok (.if_icmp .ge 108, 3) := by decide +kernel
theorem dX4_read_67 : decode cX4_read 67 = .ok (.aload_n 0, 1) := by decide +kernel
theorem dX4_read_68 : decode cX4_read 68 = .ok (.getfield 27, 3) := by decide +kernel
theorem dX4_read_71 : decode cX4_read 71 = .ok (.iload 4, 2) := by decide +kernel
theorem dX4_read_73 : decode cX4_read 73 = .ok (.iaload, 1) := by decide +kernel
theorem dX4_read_74 : decode cX4_read 74 = .ok (.aload_n 0, 1) := by decide +kernel
theorem dX4_read_75 : decode cX4_read 75 = .ok (.getfield 36, 3) := by decide +kernel
theorem dX4_read_78 : decode cX4_read 78 = .ok (.if_icmp .le 26, 3) := by decide +kernel
theorem dX4_read_81 : decode cX4_read 81 = .ok (.iload 6, 2) := by decide +kernel
theorem dX4_read_83 : decode cX4_read 83 = .ok (.iconst 4, 1) := by decide +kernel
theorem dX4_read_84 : decode cX4_read 84 = .ok (.if_icmp .ge 16, 3) := by decide +kernel
theorem dX4_read_87 : decode cX4_read 87 = .ok (.aload_n 3, 1) := by decide +kernel
theorem dX4_read_88 : decode cX4_read 88 = .ok (.iload 6, 2) := by decide +kernel
theorem dX4_read_90 : decode cX4_read 90 = .ok (.iconst 1, 1) := by decide +kernel
theorem dX4_read_91 : decode cX4_read 91 = .ok (.iadd, 1) := by decide +kernel
theorem dX4_read_92 : decode cX4_read 92 = .ok (.baload, 1) := by decide +kernel
theorem dX4_read_93 : decode cX4_read 93 = .ok (.ifCond .eq 7, 3) := by decide +kernel
theorem dX4_read_96 : decode cX4_read 96 = .ok (.iconst 1, 1) := by decide +kernel
theorem dX4_read_97 : decode cX4_read 97 = .ok (.goto 49, 3) := by decide +kernel
theorem dX4_read_100 : decode cX4_read 100 = .ok (.iconst 0, 1) := by decide +kernel
theorem dX4_read_101 : decode cX4_read 101 = .ok (.goto 45, 3) := by decide +kernel
theorem dX4_read_104 : decode cX4_read 104 = .ok (.aload_n 0, 1) := by decide +kernel
theorem dX4_read_105 : decode cX4_read 105 = .ok (.getfield 27, 3) := by decide +kernel
theorem dX4_read_108 : decode cX4_read 108 = .ok (.iload 4, 2) := by decide +kernel
theorem dX4_read_110 : decode cX4_read 110 = .ok (.iaload, 1) := by decide +kernel
theorem dX4_read_111 : decode cX4_read 111 = .ok (.iconst 0, 1) := by decide +kernel
theorem dX4_read_112 : decode cX4_read 112 = .ok (.aload_n 0, 1) := by decide +kernel
theorem dX4_read_113 : decode cX4_read 113 = .ok (.getfield 36, 3) := by decide +kernel
theorem dX4_read_116 : decode cX4_read 116 = .ok (.isub, 1) := by decide +kernel
theorem dX4_read_117 : decode cX4_read 117 = .ok (.if_icmp .ge 25, 3) := by decide +kernel
theorem dX4_read_120 : decode cX4_read 120 = .ok (.iload 6, 2) := by decide +kernel
theorem dX4_read_122 : decode cX4_read 122 = .ok (.ifCond .eq 12, 3) := by decide +kernel
theorem dX4_read_125 : decode cX4_read 125 = .ok (.aload_n 3, 1) := by decide +kernel
theorem dX4_read_126 : decode cX4_read 126 = .ok (.iload 6, 2) := by decide +kernel
theorem dX4_read_128 : decode cX4_read 128 = .ok (.iconst 1, 1) := by decide +kernel
theorem dX4_read_129 : decode cX4_read 129 = .ok (.isub, 1) := by decide +kernel
theorem dX4_read_130 : decode cX4_read 130 = .ok (.baload, 1) := by decide +kernel
theorem dX4_read_131 : decode cX4_read 131 = .ok (.ifCond .eq 7, 3) := by decide +kernel
theorem dX4_read_134 : decode cX4_read 134 = .ok (.iconst 1, 1) := by decide +kernel
theorem dX4_read_135 : decode cX4_read 135 = .ok (.goto 11, 3) := by decide +kernel
theorem dX4_read_138 : decode cX4_read 138 = .ok (.iconst 0, 1) := by decide +kernel
theorem dX4_read_139 : decode cX4_read 139 = .ok (.goto 7, 3) := by decide +kernel
theorem dX4_read_142 : decode cX4_read 142 = .ok (.aload_n 3, 1) := by decide +kernel
theorem dX4_read_143 : decode cX4_read 143 = .ok (.iload 6, 2) := by decide +kernel
theorem dX4_read_145 : decode cX4_read 145 = .ok (.baload, 1) := by decide +kernel
theorem dX4_read_146 : decode cX4_read 146 = .ok (.istore 7, 2) := by decide +kernel
theorem dX4_read_148 : decode cX4_read 148 = .ok (.iload 5, 2) := by decide +kernel
theorem dX4_read_150 : decode cX4_read 150 = .ok (.iload 7, 2) := by decide +kernel
theorem dX4_read_152 : decode cX4_read 152 = .ok (.ifCond .eq 10, 3) := by decide +kernel
theorem dX4_read_155 : decode cX4_read 155 = .ok (.iconst 1, 1) := by decide +kernel
theorem dX4_read_156 : decode cX4_read 156 = .ok (.iload 6, 2) := by decide +kernel
theorem dX4_read_158 : decode cX4_read 158 = .ok (.ishl, 1) := by decide +kernel
theorem dX4_read_159 : decode cX4_read 159 = .ok (.goto 4, 3) := by decide +kernel
theorem dX4_read_162 : decode cX4_read 162 = .ok (.iconst 0, 1) := by decide +kernel
theorem dX4_read_163 : decode cX4_read 163 = .ok (.iadd, 1) := by decide +kernel
theorem dX4_read_164 : decode cX4_read 164 = .ok (.istore 5, 2) := by decide +kernel
theorem dX4_read_166 : decode cX4_read 166 = .ok (.iinc 6 1, 3) := by decide +kernel
theorem dX4_read_169 : decode cX4_read 169 = .ok (.goto (-108), 3) := by decide +kernel
theorem dX4_read_172 : decode cX4_read 172 = .ok (.iload 5, 2) := by decide +kernel
theorem dX4_read_174 : decode cX4_read 174 = .ok (.ireturn, 1) := by decide +kernel
theorem dX4_after_0 : decode cX4_after 0 = .ok (.iload_n 2, 1) := by decide +kernel
theorem dX4_after_1 : decode cX4_after 1 = .ok (.bipush 27, 2) := by decide +kernel
theorem dX4_after_3 : decode cX4_after 3 = .ok (.if_icmp .eq 30, 3) := by decide +kernel
theorem dX4_after_6 : decode cX4_after 6 = .ok (.iload_n 2, 1) := by decide +kernel
theorem dX4_after_7 : decode cX4_after 7 = .ok (.bipush 31, 2) := by decide +kernel
theorem dX4_after_9 : decode cX4_after 9 = .ok (.if_icmp .eq 28, 3) := by decide +kernel
theorem dX4_after_12 : decode cX4_after 12 = .ok (.iload_n 2, 1) := by decide +kernel
theorem dX4_after_13 : decode cX4_after 13 = .ok (.iconst 2, 1) := by decide +kernel
theorem dX4_after_14 : decode cX4_after 14 = .ok (.if_icmp .eq 23, 3) := by decide +kernel
theorem dX4_after_17 : decode cX4_after 17 = .ok (.iload_n 2, 1) := by decide +kernel
theorem dX4_after_18 : decode cX4_after 18 = .ok (.iconst 4, 1) := by decide +kernel
theorem dX4_after_19 : decode cX4_after 19 = .ok (.if_icmp .ne 10, 3) := by decide +kernel
theorem dX4_after_22 : decode cX4_after 22 = .ok (.aload_n 0, 1) := by decide +kernel
theorem dX4_after_23 : decode cX4_after 23 = .ok (.getfield 40, 3) := by decide +kernel
theorem dX4_after_26 : decode cX4_after 26 = .ok (.ifCond .ne 11, 3) := by decide +kernel
theorem dX4_after_29 : decode cX4_after 29 = .ok (.iload_n 1, 1) := by decide +kernel
theorem dX4_after_30 : decode cX4_after 30 = .ok (.ifCond .eq 7, 3) := by decide +kernel
theorem dX4_after_33 : decode cX4_after 33 = .ok (.iconst 1, 1) := by decide +kernel
theorem dX4_after_34 : decode cX4_after 34 = .ok (.goto 4, 3) := by decide +kernel
theorem dX4_after_37 : decode cX4_after 37 = .ok (.iconst 0, 1) := by decide +kernel
theorem dX4_after_38 : decode cX4_after 38 = .ok (.ireturn, 1) := by decide +kernel
set_option maxRecDepth 20000 in
theorem ggX4_come_X4_read : GoodIn wsX4_come wsX4_read := goodIn_r _ [15, 16, 17, 18, 19, 28, 29, 30, 31, 32, 33, 34, 35, 36, 37, 38, 39, 40, 41] (by decide +kernel) (by decide +kernel)
set_option maxRecDepth 20000 in
theorem gX4_come_X4_read : GoodIn wsX4_come (wsV RX4 47 RX4 yX4_read wsX4_read) := goodIn_app (goodIn_of _ (by decide +kernel)) ggX4_come_X4_read
set_option maxRecDepth 20000 in
theorem ggX4_come_X4_more : GoodIn wsX4_come wsX4_more := goodIn_r _ [22, 6] (by decide +kernel) (by decide +kernel)
set_option maxRecDepth 20000 in
theorem gX4_come_X4_more : GoodIn wsX4_come (va_wsS RX4 63 yX4_more wsX4_more) := goodIn_app (goodIn_of _ (by decide +kernel)) ggX4_come_X4_more
set_option maxRecDepth 20000 in
theorem ggX4_come_X4_after : GoodIn wsX4_come wsX4_after := goodIn_r _ [26, 27, 28, 29, 30, 31, 32, 33, 34, 35, 36, 37, 38, 39, 40, 41] (by decide +kernel) (by decide +kernel)
set_option maxRecDepth 20000 in
theorem gX4_come_X4_after : GoodIn wsX4_come (wsV RX4 67 RX4 yX4_after wsX4_after) := goodIn_app (goodIn_of _ (by decide +kernel)) ggX4_come_X4_after
theorem dX4_come_0 : decode cX4_come 0 = .ok (.aload_n 0, 1) := by decide +kernel
theorem dX4_come_1 : decode cX4_come 1 = .ok (.iload_n 1, 1) := by decide +kernel
theorem dX4_come_2 : decode cX4_come 2 = .ok (.aload_n 0, 1) := by decide +kernel
theorem dX4_come_3 : decode cX4_come 3 = .ok (.getfield 44, 3) := by decide +kernel
theorem dX4_come_6 : decode cX4_come 6 = .ok (.invokevirtual 47, 3) := by decide +kernel
theorem dX4_come_9 : decode cX4_come 9 = .ok (.istore_n 2, 1) := by decide +kernel
theorem dX4_come_10 : decode cX4_come 10 = .ok (.aload_n 0, 1) := by decide +kernel
theorem dX4_come_11 : decode cX4_come 11 = .ok (.dup, 1) := by decide +kernel
theorem dX4_come_12 : decode cX4_come 12 = .ok (.getfield 44, 3) := by decide +kernel
theorem dX4_come_15 : decode cX4_come 15 = .ok (.iconst 1, 1) := by decide +kernel
theorem dX4_come_16 : decode cX4_come 16 = .ok (.iadd, 1) := by decide +kernel
theorem dX4_come_17 : decode cX4_come 17 = .ok (.putfield 44, 3) := by decide +kernel
theorem dX4_come_20 : decode cX4_come 20 = .ok (.iload_n 2, 1) := by decide +kernel
theorem dX4_come_21 : decode cX4_come 21 = .ok (.iload_n 1, 1) := by decide +kernel
theorem dX4_come_22 : decode cX4_come 22 = .ok (.if_icmp .eq 13, 3) := by decide +kernel
theorem dX4_come_25 : decode cX4_come 25 = .ok (.aload_n 0, 1) := by decide +kernel
theorem dX4_come_26 : decode cX4_come 26 = .ok (.dup, 1) := by decide +kernel
theorem dX4_come_27 : decode cX4_come 27 = .ok (.getfield 51, 3) := by decide +kernel
theorem dX4_come_30 : decode cX4_come 30 = .ok (.iconst 1, 1) := by decide +kernel
theorem dX4_come_31 : decode cX4_come 31 = .ok (.iadd, 1) := by decide +kernel
theorem dX4_come_32 : decode cX4_come 32 = .ok (.putfield 51, 3) := by decide +kernel
theorem dX4_come_35 : decode cX4_come 35 = .ok (.iload_n 2, 1) := by decide +kernel
theorem dX4_come_36 : decode cX4_come 36 = .ok (.bipush 8, 2) := by decide +kernel
theorem dX4_come_38 : decode cX4_come 38 = .ok (.if_icmp .ne 13, 3) := by decide +kernel
theorem dX4_come_41 : decode cX4_come 41 = .ok (.aload_n 0, 1) := by decide +kernel
theorem dX4_come_42 : decode cX4_come 42 = .ok (.dup, 1) := by decide +kernel
theorem dX4_come_43 : decode cX4_come 43 = .ok (.getfield 54, 3) := by decide +kernel
theorem dX4_come_46 : decode cX4_come 46 = .ok (.iconst 1, 1) := by decide +kernel
theorem dX4_come_47 : decode cX4_come 47 = .ok (.iadd, 1) := by decide +kernel
theorem dX4_come_48 : decode cX4_come 48 = .ok (.putfield 54, 3) := by decide +kernel
theorem dX4_come_51 : decode cX4_come 51 = .ok (.iload_n 2, 1) := by decide +kernel
theorem dX4_come_52 : decode cX4_come 52 = .ok (.iconst 2, 1) := by decide +kernel
theorem dX4_come_53 : decode cX4_come 53 = .ok (.if_icmp .ne 92, 3) := by decide +kernel
theorem dX4_come_56 : decode cX4_come 56 = .ok (.aload_n 0, 1) := by decide +kernel
theorem dX4_come_57 : decode cX4_come 57 = .ok (.getfield 23, 3) := by decide +kernel
theorem dX4_come_60 : decode cX4_come 60 = .ok (.arraylength, 1) := by decide +kernel
theorem dX4_come_61 : decode cX4_come 61 = .ok (.istore_n 3, 1) := by decide +kernel
theorem dX4_come_62 : decode cX4_come 62 = .ok (.iload_n 3, 1) := by decide +kernel
theorem dX4_come_63 : decode cX4_come 63 = .ok (.bipush 20, 2) := by decide +kernel
theorem dX4_come_65 : decode cX4_come 65 = .ok (.if_icmp .ne 8, 3) := by decide +kernel
theorem dX4_come_68 : decode cX4_come 68 = .ok (.bipush 20, 2) := by decide +kernel
theorem dX4_come_70 : decode cX4_come 70 = .ok (.goto 6, 3) := by decide +kernel
theorem dX4_come_73 : decode cX4_come 73 = .ok (.iload_n 3, 1) := by decide +kernel
theorem dX4_come_74 : decode cX4_come 74 = .ok (.iconst 1, 1) := by decide +kernel
theorem dX4_come_75 : decode cX4_come 75 = .ok (.iadd, 1) := by decide +kernel
theorem dX4_come_76 : decode cX4_come 76 = .ok (.anewarray 22, 3) := by decide +kernel
theorem dX4_come_79 : decode cX4_come 79 = .ok (.astore 4, 2) := by decide +kernel
theorem dX4_come_81 : decode cX4_come 81 = .ok (.iconst 0, 1) := by decide +kernel
theorem dX4_come_82 : decode cX4_come 82 = .ok (.istore 5, 2) := by decide +kernel
theorem dX4_come_84 : decode cX4_come 84 = .ok (.iload 5, 2) := by decide +kernel
theorem dX4_come_86 : decode cX4_come 86 = .ok (.aload 4, 2) := by decide +kernel
theorem dX4_come_88 : decode cX4_come 88 = .ok (.arraylength, 1) := by decide +kernel
theorem dX4_come_89 : decode cX4_come 89 = .ok (.if_icmp .ge 50, 3) := by decide +kernel
theorem dX4_come_92 : decode cX4_come 92 = .ok (.aload 4, 2) := by decide +kernel
theorem dX4_come_94 : decode cX4_come 94 = .ok (.iload 5, 2) := by decide +kernel
theorem dX4_come_96 : decode cX4_come 96 = .ok (.iload 5, 2) := by decide +kernel
theorem dX4_come_98 : decode cX4_come 98 = .ok (.iconst 1, 1) := by decide +kernel
theorem dX4_come_99 : decode cX4_come 99 = .ok (.iadd, 1) := by decide +kernel
theorem dX4_come_100 : decode cX4_come 100 = .ok (.aload 4, 2) := by decide +kernel
theorem dX4_come_102 : decode cX4_come 102 = .ok (.arraylength, 1) := by decide +kernel
theorem dX4_come_103 : decode cX4_come 103 = .ok (.if_icmp .ne 9, 3) := by decide +kernel
theorem dX4_come_106 : decode cX4_come 106 = .ok (.iconst 0, 1) := by decide +kernel
theorem dX4_come_107 : decode cX4_come 107 = .ok (.newarray .int, 2) := by decide +kernel
theorem dX4_come_109 : decode cX4_come 109 = .ok (.goto 23, 3) := by decide +kernel
theorem dX4_come_112 : decode cX4_come 112 = .ok (.aload_n 0, 1) := by decide +kernel
theorem dX4_come_113 : decode cX4_come 113 = .ok (.getfield 23, 3) := by decide +kernel
theorem dX4_come_116 : decode cX4_come 116 = .ok (.iload_n 3, 1) := by decide +kernel
theorem dX4_come_117 : decode cX4_come 117 = .ok (.bipush 20, 2) := by decide +kernel
theorem dX4_come_119 : decode cX4_come 119 = .ok (.if_icmp .ne 10, 3) := by decide +kernel
theorem dX4_come_122 : decode cX4_come 122 = .ok (.iload 5, 2) := by decide +kernel
theorem dX4_come_124 : decode cX4_come 124 = .ok (.iconst 1, 1) := by decide +kernel
theorem dX4_come_125 : decode cX4_come 125 = .ok (.iadd, 1) := by decide +kernel
theorem dX4_come_126 : decode cX4_come 126 = .ok (.goto 5, 3) := by decide +kernel
theorem dX4_come_129 : decode cX4_come 129 = .ok (.iload 5, 2) := by decide +kernel
theorem dX4_come_131 : decode cX4_come 131 = .ok (.aaload, 1) := by decide +kernel
theorem dX4_come_132 : decode cX4_come 132 = .ok (.aastore, 1) := by decide +kernel
theorem dX4_come_133 : decode cX4_come 133 = .ok (.iinc 5 1, 3) := by decide +kernel
theorem dX4_come_136 : decode cX4_come 136 = .ok (.goto (-52), 3) := by decide +kernel
theorem dX4_come_139 : decode cX4_come 139 = .ok (.aload_n 0, 1) := by decide +kernel
theorem dX4_come_140 : decode cX4_come 140 = .ok (.aload 4, 2) := by decide +kernel
theorem dX4_come_142 : decode cX4_come 142 = .ok (.putfield 23, 3) := by decide +kernel
theorem dX4_come_145 : decode cX4_come 145 = .ok (.aload_n 0, 1) := by decide +kernel
theorem dX4_come_146 : decode cX4_come 146 = .ok (.getfield 57, 3) := by decide +kernel
theorem dX4_come_149 : decode cX4_come 149 = .ok (.ifCond .eq 12, 3) := by decide +kernel
theorem dX4_come_152 : decode cX4_come 152 = .ok (.aload_n 0, 1) := by decide +kernel
theorem dX4_come_153 : decode cX4_come 153 = .ok (.getfield 19, 3) := by decide +kernel
theorem dX4_come_156 : decode cX4_come 156 = .ok (.iload_n 2, 1) := by decide +kernel
theorem dX4_come_157 : decode cX4_come 157 = .ok (.iaload, 1) := by decide +kernel
theorem dX4_come_158 : decode cX4_come 158 = .ok (.goto 9, 3) := by decide +kernel
theorem dX4_come_161 : decode cX4_come 161 = .ok (.aload_n 0, 1) := by decide +kernel
theorem dX4_come_162 : decode cX4_come 162 = .ok (.getfield 13, 3) := by decide +kernel
theorem dX4_come_165 : decode cX4_come 165 = .ok (.iload_n 2, 1) := by decide +kernel
theorem dX4_come_166 : decode cX4_come 166 = .ok (.iaload, 1) := by decide +kernel
theorem dX4_come_167 : decode cX4_come 167 = .ok (.istore_n 3, 1) := by decide +kernel
theorem dX4_come_168 : decode cX4_come 168 = .ok (.iload_n 3, 1) := by decide +kernel
theorem dX4_come_169 : decode cX4_come 169 = .ok (.ifCond .le 61, 3) := by decide +kernel
theorem dX4_come_172 : decode cX4_come 172 = .ok (.iload_n 2, 1) := by decide +kernel
theorem dX4_come_173 : decode cX4_come 173 = .ok (.iconst 2, 1) := by decide +kernel
theorem dX4_come_174 : decode cX4_come 174 = .ok (.if_icmp .eq 56, 3) := by decide +kernel
theorem dX4_come_177 : decode cX4_come 177 = .ok (.aload_n 0, 1) := by decide +kernel
theorem dX4_come_178 : decode cX4_come 178 = .ok (.getfield 23, 3) := by decide +kernel
theorem dX4_come_181 : decode cX4_come 181 = .ok (.arraylength, 1) := by decide +kernel
theorem dX4_come_182 : decode cX4_come 182 = .ok (.iconst 1, 1) := by decide +kernel
theorem dX4_come_183 : decode cX4_come 183 = .ok (.isub, 1) := by decide +kernel
theorem dX4_come_184 : decode cX4_come 184 = .ok (.istore 4, 2) := by decide +kernel
theorem dX4_come_186 : decode cX4_come 186 = .ok (.aload_n 0, 1) := by decide +kernel
theorem dX4_come_187 : decode cX4_come 187 = .ok (.getfield 23, 3) := by decide +kernel
theorem dX4_come_190 : decode cX4_come 190 = .ok (.iload 4, 2) := by decide +kernel
theorem dX4_come_192 : decode cX4_come 192 = .ok (.aaload, 1) := by decide +kernel
theorem dX4_come_193 : decode cX4_come 193 = .ok (.arraylength, 1) := by decide +kernel
theorem dX4_come_194 : decode cX4_come 194 = .ok (.bipush 40, 2) := by decide +kernel
theorem dX4_come_196 : decode cX4_come 196 = .ok (.if_icmp .ne 16, 3) := by decide +kernel
theorem dX4_come_199 : decode cX4_come 199 = .ok (.aload_n 0, 1) := by decide +kernel
theorem dX4_come_200 : decode cX4_come 200 = .ok (.dup, 1) := by decide +kernel
theorem dX4_come_201 : decode cX4_come 201 = .ok (.getfield 60, 3) := by decide +kernel
theorem dX4_come_204 : decode cX4_come 204 = .ok (.iconst 1, 1) := by decide +kernel
theorem dX4_come_205 : decode cX4_come 205 = .ok (.iadd, 1) := by decide +kernel
theorem dX4_come_206 : decode cX4_come 206 = .ok (.putfield 60, 3) := by decide +kernel
theorem dX4_come_209 : decode cX4_come 209 = .ok (.goto 21, 3) := by decide +kernel
theorem dX4_come_212 : decode cX4_come 212 = .ok (.aload_n 0, 1) := by decide +kernel
theorem dX4_come_213 : decode cX4_come 213 = .ok (.getfield 23, 3) := by decide +kernel
theorem dX4_come_216 : decode cX4_come 216 = .ok (.iload 4, 2) := by decide +kernel
theorem dX4_come_218 : decode cX4_come 218 = .ok (.aload_n 0, 1) := by decide +kernel
theorem dX4_come_219 : decode cX4_come 219 = .ok (.getfield 23, 3) := by decide +kernel
theorem dX4_come_222 : decode cX4_come 222 = .ok (.iload 4, 2) := by decide +kernel
theorem dX4_come_224 : decode cX4_come 224 = .ok (.aaload, 1) := by decide +kernel
theorem dX4_come_225 : decode cX4_come 225 = .ok (.iload_n 3, 1) := by decide +kernel
theorem dX4_come_226 : decode cX4_come 226 = .ok (.invokestatic 63, 3) := by decide +kernel
theorem dX4_come_229 : decode cX4_come 229 = .ok (.aastore, 1) := by decide +kernel
theorem dX4_come_230 : decode cX4_come 230 = .ok (.aload_n 0, 1) := by decide +kernel
theorem dX4_come_231 : decode cX4_come 231 = .ok (.aload_n 0, 1) := by decide +kernel
theorem dX4_come_232 : decode cX4_come 232 = .ok (.aload_n 0, 1) := by decide +kernel
theorem dX4_come_233 : decode cX4_come 233 = .ok (.getfield 57, 3) := by decide +kernel
theorem dX4_come_236 : decode cX4_come 236 = .ok (.iload_n 2, 1) := by decide +kernel
theorem dX4_come_237 : decode cX4_come 237 = .ok (.invokevirtual 67, 3) := by decide +kernel
theorem dX4_come_240 : decode cX4_come 240 = .ok (.putfield 57, 3) := by decide +kernel
theorem dX4_come_243 : decode cX4_come 243 = .ok (.iload_n 2, 1) := by decide +kernel
theorem dX4_come_244 : decode cX4_come 244 = .ok (.ireturn, 1) := by decide +kernel
set_option maxRecDepth 20000 in
theorem ggX4_shifts_X4_after : GoodIn wsX4_shifts wsX4_after := goodIn_r _ [7, 8, 9, 10, 11, 12, 13, 14, 15, 16, 17, 18, 19, 20, 21, 22] (by decide +kernel) (by decide +kernel)
set_option maxRecDepth 20000 in
theorem gX4_shifts_X4_after : GoodIn wsX4_shifts (wsV RX4 67 RX4 yX4_after wsX4_after) := goodIn_app (goodIn_of _ (by decide +kernel)) ggX4_shifts_X4_after
theorem dX4_shifts_0 : decode cX4_shifts 0 = .ok (.aload_n 0, 1) := by decide +kernel
theorem dX4_shifts_1 : decode cX4_shifts 1 = .ok (.getfield 33, 3) := by decide +kernel
theorem dX4_shifts_4 : decode cX4_shifts 4 = .ok (.arraylength, 1) := by decide +kernel
theorem dX4_shifts_5 : decode cX4_shifts 5 = .ok (.iconst 1, 1) := by decide +kernel
theorem dX4_shifts_6 : decode cX4_shifts 6 = .ok (.iadd, 1) := by decide +kernel
theorem dX4_shifts_7 : decode cX4_shifts 7 = .ok (.newarray .boolean, 2) := by decide +kernel
theorem dX4_shifts_9 : decode cX4_shifts 9 = .ok (.astore_n 1, 1) := by decide +kernel
theorem dX4_shifts_10 : decode cX4_shifts 10 = .ok (.iconst 0, 1) := by decide +kernel
theorem dX4_shifts_11 : decode cX4_shifts 11 = .ok (.istore_n 2, 1) := by decide +kernel
theorem dX4_shifts_12 : decode cX4_shifts 12 = .ok (.iload_n 2, 1) := by decide +kernel
theorem dX4_shifts_13 : decode cX4_shifts 13 = .ok (.aload_n 0, 1) := by decide +kernel
theorem dX4_shifts_14 : decode cX4_shifts 14 = .ok (.getfield 33, 3) := by decide +kernel
theorem dX4_shifts_17 : decode cX4_shifts 17 = .ok (.arraylength, 1) := by decide +kernel
theorem dX4_shifts_18 : decode cX4_shifts 18 = .ok (.if_icmp .ge 27, 3) := by decide +kernel
theorem dX4_shifts_21 : decode cX4_shifts 21 = .ok (.aload_n 1, 1) := by decide +kernel
theorem dX4_shifts_22 : decode cX4_shifts 22 = .ok (.iload_n 2, 1) := by decide +kernel
theorem dX4_shifts_23 : decode cX4_shifts 23 = .ok (.iconst 1, 1) := by decide +kernel
theorem dX4_shifts_24 : decode cX4_shifts 24 = .ok (.iadd, 1) := by decide +kernel
theorem dX4_shifts_25 : decode cX4_shifts 25 = .ok (.aload_n 0, 1) := by decide +kernel
theorem dX4_shifts_26 : decode cX4_shifts 26 = .ok (.aload_n 1, 1) := by decide +kernel
theorem dX4_shifts_27 : decode cX4_shifts 27 = .ok (.iload_n 2, 1) := by decide +kernel
theorem dX4_shifts_28 : decode cX4_shifts 28 = .ok (.baload, 1) := by decide +kernel
theorem dX4_shifts_29 : decode cX4_shifts 29 = .ok (.aload_n 0, 1) := by decide +kernel
theorem dX4_shifts_30 : decode cX4_shifts 30 = .ok (.getfield 33, 3) := by decide +kernel
theorem dX4_shifts_33 : decode cX4_shifts 33 = .ok (.iload_n 2, 1) := by decide +kernel
theorem dX4_shifts_34 : decode cX4_shifts 34 = .ok (.iaload, 1) := by decide +kernel
theorem dX4_shifts_35 : decode cX4_shifts 35 = .ok (.invokevirtual 67, 3) := by decide +kernel
theorem dX4_shifts_38 : decode cX4_shifts 38 = .ok (.bastore, 1) := by decide +kernel
theorem dX4_shifts_39 : decode cX4_shifts 39 = .ok (.iinc 2 1, 3) := by decide +kernel
theorem dX4_shifts_42 : decode cX4_shifts 42 = .ok (.goto (-30), 3) := by decide +kernel
theorem dX4_shifts_45 : decode cX4_shifts 45 = .ok (.aload_n 1, 1) := by decide +kernel
theorem dX4_shifts_46 : decode cX4_shifts 46 = .ok (.areturn, 1) := by decide +kernel
set_option maxRecDepth 20000 in
theorem ggX4_isSame_X3_length : GoodIn wsX4_isSame wsX3_length := goodIn_ca (goodIn_r _ [18, 19, 20, 21, 22, 23, 24, 25, 26, 27, 28, 29, 30, 31, 32, 33, 34, 35, 141, 142, 143, 144, 145, 146, 147, 148, 149, 150, 151, 152, 153, 154, 155] (by decide +kernel) (by decide +kernel)) (goodIn_sub (fun _ h => List.mem_cons_of_mem _ (List.mem_append_right _ h)) (by decide +kernel))
set_option maxRecDepth 20000 in
theorem gX4_isSame_X3_length : GoodIn wsX4_isSame (wsV RX4 71 RX3 yX3_length wsX3_length) := goodIn_app (goodIn_of _ (by decide +kernel)) ggX4_isSame_X3_length
set_option maxRecDepth 20000 in
theorem ggX4_isSame_X3_page : GoodIn wsX4_isSame wsX3_page := goodIn_ca (goodIn_r _ [39, 19, 20, 21, 22, 23, 24, 25, 26, 27, 28, 29, 40, 41, 42, 33, 43, 35, 44, 45, 46, 47, 48, 49, 141, 142, 143, 144, 145, 146, 147, 148, 149, 150, 151, 152, 153, 154, 155] (by decide +kernel) (by decide +kernel)) (goodIn_sub (fun _ h => List.mem_cons_of_mem _ (List.mem_append_right _ h)) (by decide +kernel))
set_option maxRecDepth 20000 in
theorem gX4_isSame_X3_page : GoodIn wsX4_isSame (wsV RX4 77 RX3 yX3_page wsX3_page) := goodIn_app (goodIn_of _ (by decide +kernel)) ggX4_isSame_X3_page
set_option maxRecDepth 20000 in
theorem ggX4_isSame_X4_shifts : GoodIn wsX4_isSame wsX4_shifts := goodIn_r _ [54, 2, 55, 56, 57, 58, 53, 59, 12, 127, 128, 129, 130, 131, 132, 133, 134, 135, 136, 137, 138, 139, 140] (by decide +kernel) (by decide +kernel)
set_option maxRecDepth 20000 in
theorem gX4_isSame_X4_shifts : GoodIn wsX4_isSame (wsV RX4 79 RX4 yX4_shifts wsX4_shifts) := goodIn_app (goodIn_of _ (by decide +kernel)) ggX4_isSame_X4_shifts
set_option maxRecDepth 20000 in
theorem ggX4_isSame_X3_tape : GoodIn wsX4_isSame wsX3_tape := goodIn_ca (goodIn_r _ [63, 19, 20, 64, 40, 41, 42, 33, 43, 35, 44, 45, 46, 47, 48, 49, 141, 142, 143, 144, 145, 146, 147, 148, 149, 150, 154, 155] (by decide +kernel) (by decide +kernel)) (goodIn_sub (fun _ h => List.mem_cons_of_mem _ (List.mem_append_right _ h)) (by decide +kernel))
set_option maxRecDepth 20000 in
theorem gX4_isSame_X3_tape : GoodIn wsX4_isSame (wsV RX4 83 RX3 yX3_tape wsX3_tape) := goodIn_app (goodIn_of _ (by decide +kernel)) ggX4_isSame_X3_tape
set_option maxRecDepth 20000 in
theorem ggX4_isSame_X3_prints : GoodIn wsX4_isSame wsX3_prints := goodIn_ca (goodIn_r _ [68, 19, 20, 64, 40, 41, 42, 33, 43, 35, 44, 45, 46, 47, 48, 49, 69, 70, 71, 17, 72, 30, 31, 32, 34, 73, 74, 75, 76, 77, 78, 79, 80, 81, 82, 83, 84, 85, 86, 87, 88, 89, 90, 91, 141, 142, 143, 144, 145, 146, 147, 148, 149, 150, 154, 155] (by decide +kernel) (by decide +kernel)) (goodIn_sub (fun _ h => List.mem_cons_of_mem _ (List.mem_append_right _ h)) (by decide +kernel))
set_option maxRecDepth 20000 in
theorem gX4_isSame_X3_prints : GoodIn wsX4_isSame (wsV RX4 85 RX3 yX3_prints wsX3_prints) := goodIn_app (goodIn_of _ (by decide +kernel)) ggX4_isSame_X3_prints
set_option maxRecDepth 20000 in
theorem ggX4_isSame_X3_count : GoodIn wsX4_isSame wsX3_count := goodIn_ca (goodIn_r _ [95, 19, 20, 96, 97, 98, 17, 99, 21, 100, 101, 64, 102, 103, 104, 105, 81, 106, 107, 108, 109, 25, 110, 27, 111, 112, 113, 114, 115, 23, 24, 26, 28, 29, 116, 31, 32, 33, 34, 35, 117, 118, 119, 120, 121, 122, 30, 141, 142, 143, 144, 145, 146, 147, 148, 149, 150, 151, 152, 153, 154, 155, 156, 157, 158] (by decide +kernel) (by decide +kernel)) (goodIn_sub (fun _ h => List.mem_cons_of_mem _ (List.mem_append_right _ h)) (by decide +kernel))
set_option maxRecDepth 20000 in
theorem gX4_isSame_X3_count : GoodIn wsX4_isSame (wsV RX4 91 RX3 yX3_count wsX3_count) := goodIn_app (goodIn_of _ (by decide +kernel)) ggX4_isSame_X3_count
set_option maxRecDepth 20000 in
theorem ggX4_isSame_X3_mean : GoodIn wsX4_isSame wsX3_mean := goodIn_r _ [126, 21, 107, 108, 109, 25, 110, 27, 111, 112, 113, 114, 115, 23, 24, 26, 28, 29, 116, 31, 32, 33, 34, 35, 141, 142, 143, 144, 145, 146, 147, 148, 149, 150, 151, 152, 153, 154, 155] (by decide +kernel) (by decide +kernel)
set_option maxRecDepth 20000 in
theorem gX4_isSame_X3_mean : GoodIn wsX4_isSame (wsV RX4 94 RX3 yX3_mean wsX3_mean) := goodIn_app (goodIn_of _ (by decide +kernel)) ggX4_isSame_X3_mean
theorem dX4_isSame_0 : decode cX4_isSame 0 = .ok (.iconst 0, 1) := by decide +kernel
theorem dX4_isSame_1 : decode cX4_isSame 1 = .ok (.istore_n 2, 1) := by decide +kernel
theorem dX4_isSame_2 : decode cX4_isSame 2 = .ok (.iconst 0, 1) := by decide +kernel
theorem dX4_isSame_3 : decode cX4_isSame 3 = .ok (.istore_n 3, 1) := by decide +kernel
theorem dX4_isSame_4 : decode cX4_isSame 4 = .ok (.iload_n 3, 1) := by decide +kernel
theorem dX4_isSame_5 : decode cX4_isSame 5 = .ok (.aload_n 0, 1) := by decide +kernel
theorem dX4_isSame_6 : decode cX4_isSame 6 = .ok (.getfield 23, 3) := by decide +kernel
theorem dX4_isSame_9 : decode cX4_isSame 9 = .ok (.arraylength, 1) := by decide +kernel
theorem dX4_isSame_10 : decode cX4_isSame 10 = .ok (.if_icmp .ge 78, 3) := by decide +kernel
theorem dX4_isSame_13 : decode cX4_isSame 13 = .ok (.aload_n 1, 1) := by decide +kernel
theorem dX4_isSame_14 : decode cX4_isSame 14 = .ok (.iload_n 3, 1) := by decide +kernel
theorem dX4_isSame_15 : decode cX4_isSame 15 = .ok (.invokevirtual 71, 3) := by decide +kernel
theorem dX4_isSame_18 : decode cX4_isSame 18 = .ok (.aload_n 0, 1) := by decide +kernel
theorem dX4_isSame_19 : decode cX4_isSame 19 = .ok (.getfield 23, 3) := by decide +kernel
theorem dX4_isSame_22 : decode cX4_isSame 22 = .ok (.iload_n 3, 1) := by decide +kernel
theorem dX4_isSame_23 : decode cX4_isSame 23 = .ok (.aaload, 1) := by decide +kernel
theorem dX4_isSame_24 : decode cX4_isSame 24 = .ok (.arraylength, 1) := by decide +kernel
theorem dX4_isSame_25 : decode cX4_isSame 25 = .ok (.if_icmp .eq 5, 3) := by decide +kernel
theorem dX4_isSame_28 : decode cX4_isSame 28 = .ok (.iconst 0, 1) := by decide +kernel
theorem dX4_isSame_29 : decode cX4_isSame 29 = .ok (.ireturn, 1) := by decide +kernel
theorem dX4_isSame_30 : decode cX4_isSame 30 = .ok (.iload_n 2, 1) := by decide +kernel
theorem dX4_isSame_31 : decode cX4_isSame 31 = .ok (.aload_n 0, 1) := by decide +kernel
theorem dX4_isSame_32 : decode cX4_isSame 32 = .ok (.getfield 23, 3) := by decide +kernel
theorem dX4_isSame_35 : decode cX4_isSame 35 = .ok (.iload_n 3, 1) := by decide +kernel
theorem dX4_isSame_36 : decode cX4_isSame 36 = .ok (.aaload, 1) := by decide +kernel
theorem dX4_isSame_37 : decode cX4_isSame 37 = .ok (.arraylength, 1) := by decide +kernel
theorem dX4_isSame_38 : decode cX4_isSame 38 = .ok (.iadd, 1) := by decide +kernel
theorem dX4_isSame_39 : decode cX4_isSame 39 = .ok (.istore_n 2, 1) := by decide +kernel
theorem dX4_isSame_40 : decode cX4_isSame 40 = .ok (.iconst 0, 1) := by decide +kernel
theorem dX4_isSame_41 : decode cX4_isSame 41 = .ok (.istore 4, 2) := by decide +kernel
theorem dX4_isSame_43 : decode cX4_isSame 43 = .ok (.iload 4, 2) := by decide +kernel
theorem dX4_isSame_45 : decode cX4_isSame 45 = .ok (.aload_n 0, 1) := by decide +kernel
theorem dX4_isSame_46 : decode cX4_isSame 46 = .ok (.getfield 23, 3) := by decide +kernel
theorem dX4_isSame_49 : decode cX4_isSame 49 = .ok (.iload_n 3, 1) := by decide +kernel
theorem dX4_isSame_50 : decode cX4_isSame 50 = .ok (.aaload, 1) := by decide +kernel
theorem dX4_isSame_51 : decode cX4_isSame 51 = .ok (.arraylength, 1) := by decide +kernel
theorem dX4_isSame_52 : decode cX4_isSame 52 = .ok (.if_icmp .ge 30, 3) := by decide +kernel
theorem dX4_isSame_55 : decode cX4_isSame 55 = .ok (.aload_n 1, 1) := by decide +kernel
theorem dX4_isSame_56 : decode cX4_isSame 56 = .ok (.iload_n 3, 1) := by decide +kernel
theorem dX4_isSame_57 : decode cX4_isSame 57 = .ok (.iload 4, 2) := by decide +kernel
theorem dX4_isSame_59 : decode cX4_isSame 59 = .ok (.invokevirtual 77, 3) := by decide +kernel
theorem dX4_isSame_62 : decode cX4_isSame 62 = .ok (.aload_n 0, 1) := by decide +kernel
theorem dX4_isSame_63 : decode cX4_isSame 63 = .ok (.getfield 23, 3) := by decide +kernel
theorem dX4_isSame_66 : decode cX4_isSame 66 = .ok (.iload_n 3, 1) := by decide +kernel
theorem dX4_isSame_67 : decode cX4_isSame 67 = .ok (.aaload, 1) := by decide +kernel
theorem dX4_isSame_68 : decode cX4_isSame 68 = .ok (.iload 4, 2) := by decide +kernel
theorem dX4_isSame_70 : decode cX4_isSame 70 = .ok (.iaload, 1) := by decide +kernel
theorem dX4_isSame_71 : decode cX4_isSame 71 = .ok (.if_icmp .eq 5, 3) := by decide +kernel
theorem dX4_isSame_74 : decode cX4_isSame 74 = .ok (.iconst 0, 1) := by decide +kernel
theorem dX4_isSame_75 : decode cX4_isSame 75 = .ok (.ireturn, 1) := by decide +kernel
theorem dX4_isSame_76 : decode cX4_isSame 76 = .ok (.iinc 4 1, 3) := by decide +kernel
theorem dX4_isSame_79 : decode cX4_isSame 79 = .ok (.goto (-36), 3) := by decide +kernel
theorem dX4_isSame_82 : decode cX4_isSame 82 = .ok (.iinc 3 1, 3) := by decide +kernel
theorem dX4_isSame_85 : decode cX4_isSame 85 = .ok (.goto (-81), 3) := by decide +kernel
theorem dX4_isSame_88 : decode cX4_isSame 88 = .ok (.aload_n 0, 1) := by decide +kernel
theorem dX4_isSame_89 : decode cX4_isSame 89 = .ok (.invokevirtual 79, 3) := by decide +kernel
theorem dX4_isSame_92 : decode cX4_isSame 92 = .ok (.astore_n 3, 1) := by decide +kernel
theorem dX4_isSame_93 : decode cX4_isSame 93 = .ok (.iconst 0, 1) := by decide +kernel
theorem dX4_isSame_94 : decode cX4_isSame 94 = .ok (.istore 4, 2) := by decide +kernel
theorem dX4_isSame_96 : decode cX4_isSame 96 = .ok (.iload 4, 2) := by decide +kernel
theorem dX4_isSame_98 : decode cX4_isSame 98 = .ok (.aload_n 0, 1) := by decide +kernel
theorem dX4_isSame_99 : decode cX4_isSame 99 = .ok (.getfield 33, 3) := by decide +kernel
theorem dX4_isSame_102 : decode cX4_isSame 102 = .ok (.arraylength, 1) := by decide +kernel
theorem dX4_isSame_103 : decode cX4_isSame 103 = .ok (.if_icmp .ge 70, 3) := by decide +kernel
theorem dX4_isSame_106 : decode cX4_isSame 106 = .ok (.aload_n 1, 1) := by decide +kernel
theorem dX4_isSame_107 : decode cX4_isSame 107 = .ok (.iload 4, 2) := by decide +kernel
theorem dX4_isSame_109 : decode cX4_isSame 109 = .ok (.invokevirtual 83, 3) := by decide +kernel
theorem dX4_isSame_112 : decode cX4_isSame 112 = .ok (.aload_n 0, 1) := by decide +kernel
theorem dX4_isSame_113 : decode cX4_isSame 113 = .ok (.getfield 33, 3) := by decide +kernel
theorem dX4_isSame_116 : decode cX4_isSame 116 = .ok (.iload 4, 2) := by decide +kernel
theorem dX4_isSame_118 : decode cX4_isSame 118 = .ok (.iaload, 1) := by decide +kernel
theorem dX4_isSame_119 : decode cX4_isSame 119 = .ok (.if_icmp .ne 46, 3) := by decide +kernel
theorem dX4_isSame_122 : decode cX4_isSame 122 = .ok (.aload_n 1, 1) := by decide +kernel
theorem dX4_isSame_123 : decode cX4_isSame 123 = .ok (.iload 4, 2) := by decide +kernel
theorem dX4_isSame_125 : decode cX4_isSame 125 = .ok (.invokevirtual 85, 3) := by decide +kernel
theorem dX4_isSame_128 : decode cX4_isSame 128 = .ok (.aload_n 3, 1) := by decide +kernel
theorem dX4_isSame_129 : decode cX4_isSame 129 = .ok (.iload 4, 2) := by decide +kernel
theorem dX4_isSame_131 : decode cX4_isSame 131 = .ok (.baload, 1) := by decide +kernel
theorem dX4_isSame_132 : decode cX4_isSame 132 = .ok (.ifCond .eq 18, 3) := by decide +kernel
theorem dX4_isSame_135 : decode cX4_isSame 135 = .ok (.aload_n 0, 1) := by decide +kernel
theorem dX4_isSame_136 : decode cX4_isSame 136 = .ok (.getfield 19, 3) := by decide +kernel
theorem dX4_isSame_139 : decode cX4_isSame 139 = .ok (.aload_n 0, 1) := by decide +kernel
theorem dX4_isSame_140 : decode cX4_isSame 140 = .ok (.getfield 33, 3) := by decide +kernel
theorem dX4_isSame_143 : decode cX4_isSame 143 = .ok (.iload 4, 2) := by decide +kernel
theorem dX4_isSame_145 : decode cX4_isSame 145 = .ok (.iaload, 1) := by decide +kernel
theorem dX4_isSame_146 : decode cX4_isSame 146 = .ok (.iaload, 1) := by decide +kernel
theorem dX4_isSame_147 : decode cX4_isSame 147 = .ok (.goto 15, 3) := by decide +kernel
theorem dX4_isSame_150 : decode cX4_isSame 150 = .ok (.aload_n 0, 1) := by decide +kernel
theorem dX4_isSame_151 : decode cX4_isSame 151 = .ok (.getfield 13, 3) := by decide +kernel
theorem dX4_isSame_154 : decode cX4_isSame 154 = .ok (.aload_n 0, 1) := by decide +kernel
theorem dX4_isSame_155 : decode cX4_isSame 155 = .ok (.getfield 33, 3) := by decide +kernel
theorem dX4_isSame_158 : decode cX4_isSame 158 = .ok (.iload 4, 2) := by decide +kernel
theorem dX4_isSame_160 : decode cX4_isSame 160 = .ok (.iaload, 1) := by decide +kernel
theorem dX4_isSame_161 : decode cX4_isSame 161 = .ok (.iaload, 1) := by decide +kernel
theorem dX4_isSame_162 : decode cX4_isSame 162 = .ok (.if_icmp .eq 5, 3) := by decide +kernel
theorem dX4_isSame_165 : decode cX4_isSame 165 = .ok (.iconst 0, 1) := by decide +kernel
theorem dX4_isSame_166 : decode cX4_isSame 166 = .ok (.ireturn, 1) := by decide +kernel
theorem dX4_isSame_167 : decode cX4_isSame 167 = .ok (.iinc 4 1, 3) := by decide +kernel
theorem dX4_isSame_170 : decode cX4_isSame 170 = .ok (.goto (-74), 3) := by decide +kernel
theorem dX4_isSame_173 : decode cX4_isSame 173 = .ok (.bipush 11, 2) := by decide +kernel
theorem dX4_isSame_175 : decode cX4_isSame 175 = .ok (.newarray .int, 2) := by decide +kernel
theorem dX4_isSame_177 : decode cX4_isSame 177 = .ok (.dup, 1) := by decide +kernel
theorem dX4_isSame_178 : decode cX4_isSame 178 = .ok (.iconst 0, 1) := by decide +kernel
theorem dX4_isSame_179 : decode cX4_isSame 179 = .ok (.aload_n 0, 1) := by decide +kernel
theorem dX4_isSame_180 : decode cX4_isSame 180 = .ok (.getfield 23, 3) := by decide +kernel
theorem dX4_isSame_183 : decode cX4_isSame 183 = .ok (.arraylength, 1) := by decide +kernel
theorem dX4_isSame_184 : decode cX4_isSame 184 = .ok (.iastore, 1) := by decide +kernel
theorem dX4_isSame_185 : decode cX4_isSame 185 = .ok (.dup, 1) := by decide +kernel
theorem dX4_isSame_186 : decode cX4_isSame 186 = .ok (.iconst 1, 1) := by decide +kernel
theorem dX4_isSame_187 : decode cX4_isSame 187 = .ok (.iload_n 2, 1) := by decide +kernel
theorem dX4_isSame_188 : decode cX4_isSame 188 = .ok (.iastore, 1) := by decide +kernel
theorem dX4_isSame_189 : decode cX4_isSame 189 = .ok (.dup, 1) := by decide +kernel
theorem dX4_isSame_190 : decode cX4_isSame 190 = .ok (.iconst 2, 1) := by decide +kernel
theorem dX4_isSame_191 : decode cX4_isSame 191 = .ok (.aload_n 0, 1) := by decide +kernel
theorem dX4_isSame_192 : decode cX4_isSame 192 = .ok (.getfield 57, 3) := by decide +kernel
theorem dX4_isSame_195 : decode cX4_isSame 195 = .ok (.ifCond .eq 7, 3) := by decide +kernel
theorem dX4_isSame_198 : decode cX4_isSame 198 = .ok (.iconst 1, 1) := by decide +kernel
theorem dX4_isSame_199 : decode cX4_isSame 199 = .ok (.goto 4, 3) := by decide +kernel
theorem dX4_isSame_202 : decode cX4_isSame 202 = .ok (.iconst 0, 1) := by decide +kernel
theorem dX4_isSame_203 : decode cX4_isSame 203 = .ok (.iastore, 1) := by decide +kernel
theorem dX4_isSame_204 : decode cX4_isSame 204 = .ok (.dup, 1) := by decide +kernel
theorem dX4_isSame_205 : decode cX4_isSame 205 = .ok (.iconst 3, 1) := by decide +kernel
theorem dX4_isSame_206 : decode cX4_isSame 206 = .ok (.aload_n 0, 1) := by decide +kernel
theorem dX4_isSame_207 : decode cX4_isSame 207 = .ok (.getfield 36, 3) := by decide +kernel
theorem dX4_isSame_210 : decode cX4_isSame 210 = .ok (.iastore, 1) := by decide +kernel
theorem dX4_isSame_211 : decode cX4_isSame 211 = .ok (.dup, 1) := by decide +kernel
theorem dX4_isSame_212 : decode cX4_isSame 212 = .ok (.iconst 4, 1) := by decide +kernel
theorem dX4_isSame_213 : decode cX4_isSame 213 = .ok (.aload_n 0, 1) := by decide +kernel
theorem dX4_isSame_214 : decode cX4_isSame 214 = .ok (.getfield 33, 3) := by decide +kernel
theorem dX4_isSame_217 : decode cX4_isSame 217 = .ok (.arraylength, 1) := by decide +kernel
theorem dX4_isSame_218 : decode cX4_isSame 218 = .ok (.iastore, 1) := by decide +kernel
theorem dX4_isSame_219 : decode cX4_isSame 219 = .ok (.dup, 1) := by decide +kernel
theorem dX4_isSame_220 : decode cX4_isSame 220 = .ok (.iconst 5, 1) := by decide +kernel
theorem dX4_isSame_221 : decode cX4_isSame 221 = .ok (.aload_n 0, 1) := by decide +kernel
theorem dX4_isSame_222 : decode cX4_isSame 222 = .ok (.getfield 88, 3) := by decide +kernel
theorem dX4_isSame_225 : decode cX4_isSame 225 = .ok (.iastore, 1) := by decide +kernel
theorem dX4_isSame_226 : decode cX4_isSame 226 = .ok (.dup, 1) := by decide +kernel
theorem dX4_isSame_227 : decode cX4_isSame 227 = .ok (.bipush 6, 2) := by decide +kernel
theorem dX4_isSame_229 : decode cX4_isSame 229 = .ok (.aload_n 0, 1) := by decide +kernel
theorem dX4_isSame_230 : decode cX4_isSame 230 = .ok (.getfield 44, 3) := by decide +kernel
theorem dX4_isSame_233 : decode cX4_isSame 233 = .ok (.iastore, 1) := by decide +kernel
theorem dX4_isSame_234 : decode cX4_isSame 234 = .ok (.dup, 1) := by decide +kernel
theorem dX4_isSame_235 : decode cX4_isSame 235 = .ok (.bipush 7, 2) := by decide +kernel
theorem dX4_isSame_237 : decode cX4_isSame 237 = .ok (.aload_n 0, 1) := by decide +kernel
theorem dX4_isSame_238 : decode cX4_isSame 238 = .ok (.getfield 51, 3) := by decide +kernel
theorem dX4_isSame_241 : decode cX4_isSame 241 = .ok (.iastore, 1) := by decide +kernel
theorem dX4_isSame_242 : decode cX4_isSame 242 = .ok (.dup, 1) := by decide +kernel
theorem dX4_isSame_243 : decode cX4_isSame 243 = .ok (.bipush 8, 2) := by decide +kernel
theorem dX4_isSame_245 : decode cX4_isSame 245 = .ok (.aload_n 0, 1) := by decide +kernel
theorem dX4_isSame_246 : decode cX4_isSame 246 = .ok (.getfield 60, 3) := by decide +kernel
theorem dX4_isSame_249 : decode cX4_isSame 249 = .ok (.iastore, 1) := by decide +kernel
theorem dX4_isSame_250 : decode cX4_isSame 250 = .ok (.dup, 1) := by decide +kernel
theorem dX4_isSame_251 : decode cX4_isSame 251 = .ok (.bipush 9, 2) := by decide +kernel
theorem dX4_isSame_253 : decode cX4_isSame 253 = .ok (.aload_n 0, 1) := by decide +kernel
theorem dX4_isSame_254 : decode cX4_isSame 254 = .ok (.getfield 40, 3) := by decide +kernel
theorem dX4_isSame_257 : decode cX4_isSame 257 = .ok (.ifCond .eq 7, 3) := by decide +kernel
theorem dX4_isSame_260 : decode cX4_isSame 260 = .ok (.iconst 1, 1) := by decide +kernel
theorem dX4_isSame_261 : decode cX4_isSame 261 = .ok (.goto 4, 3) := by decide +kernel
theorem dX4_isSame_264 : decode cX4_isSame 264 = .ok (.iconst 0, 1) := by decide +kernel
theorem dX4_isSame_265 : decode cX4_isSame 265 = .ok (.iastore, 1) := by decide +kernel
theorem dX4_isSame_266 : decode cX4_isSame 266 = .ok (.dup, 1) := by decide +kernel
theorem dX4_isSame_267 : decode cX4_isSame 267 = .ok (.bipush 10, 2) := by decide +kernel
theorem dX4_isSame_269 : decode cX4_isSame 269 = .ok (.aload_n 0, 1) := by decide +kernel
theorem dX4_isSame_270 : decode cX4_isSame 270 = .ok (.getfield 54, 3) := by decide +kernel
theorem dX4_isSame_273 : decode cX4_isSame 273 = .ok (.iastore, 1) := by decide +kernel
theorem dX4_isSame_274 : decode cX4_isSame 274 = .ok (.astore 4, 2) := by decide +kernel
theorem dX4_isSame_276 : decode cX4_isSame 276 = .ok (.iconst 0, 1) := by decide +kernel
theorem dX4_isSame_277 : decode cX4_isSame 277 = .ok (.istore 5, 2) := by decide +kernel
theorem dX4_isSame_279 : decode cX4_isSame 279 = .ok (.iload 5, 2) := by decide +kernel
theorem dX4_isSame_281 : decode cX4_isSame 281 = .ok (.bipush 11, 2) := by decide +kernel
theorem dX4_isSame_283 : decode cX4_isSame 283 = .ok (.if_icmp .ge 25, 3) := by decide +kernel
theorem dX4_isSame_286 : decode cX4_isSame 286 = .ok (.aload_n 1, 1) := by decide +kernel
theorem dX4_isSame_287 : decode cX4_isSame 287 = .ok (.iload 5, 2) := by decide +kernel
theorem dX4_isSame_289 : decode cX4_isSame 289 = .ok (.invokevirtual 91, 3) := by decide +kernel
theorem dX4_isSame_292 : decode cX4_isSame 292 = .ok (.aload 4, 2) := by decide +kernel
theorem dX4_isSame_294 : decode cX4_isSame 294 = .ok (.iload 5, 2) := by decide +kernel
theorem dX4_isSame_296 : decode cX4_isSame 296 = .ok (.iaload, 1) := by decide +kernel
theorem dX4_isSame_297 : decode cX4_isSame 297 = .ok (.if_icmp .eq 5, 3) := by decide +kernel
theorem dX4_isSame_300 : decode cX4_isSame 300 = .ok (.iconst 0, 1) := by decide +kernel
theorem dX4_isSame_301 : decode cX4_isSame 301 = .ok (.ireturn, 1) := by decide +kernel
theorem dX4_isSame_302 : decode cX4_isSame 302 = .ok (.iinc 5 1, 3) := by decide +kernel
theorem dX4_isSame_305 : decode cX4_isSame 305 = .ok (.goto (-26), 3) := by decide +kernel
theorem dX4_isSame_308 : decode cX4_isSame 308 = .ok (.aload_n 1, 1) := by decide +kernel
theorem dX4_isSame_309 : decode cX4_isSame 309 = .ok (.invokevirtual 94, 3) := by decide +kernel
theorem dX4_isSame_312 : decode cX4_isSame 312 = .ok (.iload_n 2, 1) := by decide +kernel
theorem dX4_isSame_313 : decode cX4_isSame 313 = .ok (.i2d, 1) := by decide +kernel
theorem dX4_isSame_314 : decode cX4_isSame 314 = .ok (.aload_n 0, 1) := by decide +kernel
theorem dX4_isSame_315 : decode cX4_isSame 315 = .ok (.getfield 23, 3) := by decide +kernel
theorem dX4_isSame_318 : decode cX4_isSame 318 = .ok (.arraylength, 1) := by decide +kernel
theorem dX4_isSame_319 : decode cX4_isSame 319 = .ok (.i2d, 1) := by decide +kernel
theorem dX4_isSame_320 : decode cX4_isSame 320 = .ok (.ddiv, 1) := by decide +kernel
theorem dX4_isSame_321 : decode cX4_isSame 321 = .ok (.dcmp .l, 1) := by decide +kernel
theorem dX4_isSame_322 : decode cX4_isSame 322 = .ok (.ifCond .ne 7, 3) := by decide +kernel
theorem dX4_isSame_325 : decode cX4_isSame 325 = .ok (.iconst 1, 1) := by decide +kernel
theorem dX4_isSame_326 : decode cX4_isSame 326 = .ok (.goto 4, 3) := by decide +kernel
theorem dX4_isSame_329 : decode cX4_isSame 329 = .ok (.iconst 0, 1) := by decide +kernel
theorem dX4_isSame_330 : decode cX4_isSame 330 = .ok (.ireturn, 1) := by decide +kernel
theorem dJ9_min_7cf53_0 : decode cJ9_min_7cf53 0 = .ok (.iload_n 0, 1) := by decide +kernel
theorem dJ9_min_7cf53_1 : decode cJ9_min_7cf53 1 = .ok (.iload_n 1, 1) := by decide +kernel
theorem dJ9_min_7cf53_2 : decode cJ9_min_7cf53 2 = .ok (.if_icmp .gt 7, 3) := by decide +kernel
theorem dJ9_min_7cf53_5 : decode cJ9_min_7cf53 5 = .ok (.iload_n 0, 1) := by decide +kernel
theorem dJ9_min_7cf53_6 : decode cJ9_min_7cf53 6 = .ok (.goto 4, 3) := by decide +kernel
theorem dJ9_min_7cf53_9 : decode cJ9_min_7cf53 9 = .ok (.iload_n 1, 1) := by decide +kernel
theorem dJ9_min_7cf53_10 : decode cJ9_min_7cf53 10 = .ok (.ireturn, 1) := by decide +kernel
