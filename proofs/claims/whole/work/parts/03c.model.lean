theorem dX4_init_0 : decode cX4_init 0 = .ok (.aload_n 0, 1) := by decide +kernel
theorem dX4_init_1 : decode cX4_init 1 = .ok (.invokespecial 1, 3) := by decide +kernel
theorem dX4_init_4 : decode cX4_init 4 = .ok (.aload_n 0, 1) := by decide +kernel
theorem dX4_init_5 : decode cX4_init 5 = .ok (.iconst 1, 1) := by decide +kernel
theorem dX4_init_6 : decode cX4_init 6 = .ok (.putfield 7, 3) := by decide +kernel
theorem dX4_init_9 : decode cX4_init 9 = .ok (.aload_n 0, 1) := by decide +kernel
theorem dX4_init_10 : decode cX4_init 10 = .ok (.bipush 20, 2) := by decide +kernel
theorem dX4_init_12 : decode cX4_init 12 = .ok (.newarray .int, 2) := by decide +kernel
theorem dX4_init_14 : decode cX4_init 14 = .ok (.putfield 13, 3) := by decide +kernel
theorem dX4_init_17 : decode cX4_init 17 = .ok (.aload_n 0, 1) := by decide +kernel
theorem dX4_init_18 : decode cX4_init 18 = .ok (.sipush 800, 3) := by decide +kernel
theorem dX4_init_21 : decode cX4_init 21 = .ok (.newarray .int, 2) := by decide +kernel
theorem dX4_init_23 : decode cX4_init 23 = .ok (.putfield 17, 3) := by decide +kernel
theorem dX4_init_26 : decode cX4_init 26 = .ok (.aload_n 0, 1) := by decide +kernel
theorem dX4_init_27 : decode cX4_init 27 = .ok (.bipush 16, 2) := by decide +kernel
theorem dX4_init_29 : decode cX4_init 29 = .ok (.newarray .int, 2) := by decide +kernel
theorem dX4_init_31 : decode cX4_init 31 = .ok (.putfield 20, 3) := by decide +kernel
theorem dX4_init_34 : decode cX4_init 34 = .ok (.aload_n 0, 1) := by decide +kernel
theorem dX4_init_35 : decode cX4_init 35 = .ok (.bipush 16, 2) := by decide +kernel
theorem dX4_init_37 : decode cX4_init 37 = .ok (.newarray .int, 2) := by decide +kernel
theorem dX4_init_39 : decode cX4_init 39 = .ok (.putfield 23, 3) := by decide +kernel
theorem dX4_init_42 : decode cX4_init 42 = .ok (.aload_n 0, 1) := by decide +kernel
theorem dX4_init_43 : decode cX4_init 43 = .ok (.bipush 120, 2) := by decide +kernel
theorem dX4_init_45 : decode cX4_init 45 = .ok (.newarray .int, 2) := by decide +kernel
theorem dX4_init_47 : decode cX4_init 47 = .ok (.putfield 26, 3) := by decide +kernel
theorem dX4_init_50 : decode cX4_init 50 = .ok (.return_, 1) := by decide +kernel
theorem dX4_thrown_0 : decode cX4_thrown 0 = .ok (.aload_n 0, 1) := by decide +kernel
theorem dX4_thrown_1 : decode cX4_thrown 1 = .ok (.getfield 29, 3) := by decide +kernel
theorem dX4_thrown_4 : decode cX4_thrown 4 = .ok (.ireturn, 1) := by decide +kernel
theorem dX4_fail_0 : decode cX4_fail 0 = .ok (.aload_n 0, 1) := by decide +kernel
theorem dX4_fail_1 : decode cX4_fail 1 = .ok (.iload_n 1, 1) := by decide +kernel
theorem dX4_fail_2 : decode cX4_fail 2 = .ok (.putfield 29, 3) := by decide +kernel
theorem dX4_fail_5 : decode cX4_fail 5 = .ok (.iconst 0, 1) := by decide +kernel
theorem dX4_fail_6 : decode cX4_fail 6 = .ok (.ireturn, 1) := by decide +kernel
theorem dX4_isIn_0 : decode cX4_isIn 0 = .ok (.iload_n 0, 1) := by decide +kernel
theorem dX4_isIn_1 : decode cX4_isIn 1 = .ok (.iload_n 1, 1) := by decide +kernel
theorem dX4_isIn_2 : decode cX4_isIn 2 = .ok (.if_icmp .lt 12, 3) := by decide +kernel
theorem dX4_isIn_5 : decode cX4_isIn 5 = .ok (.iload_n 0, 1) := by decide +kernel
theorem dX4_isIn_6 : decode cX4_isIn 6 = .ok (.iload_n 2, 1) := by decide +kernel
theorem dX4_isIn_7 : decode cX4_isIn 7 = .ok (.if_icmp .gt 7, 3) := by decide +kernel
theorem dX4_isIn_10 : decode cX4_isIn 10 = .ok (.iconst 1, 1) := by decide +kernel
theorem dX4_isIn_11 : decode cX4_isIn 11 = .ok (.goto 4, 3) := by decide +kernel
theorem dX4_isIn_14 : decode cX4_isIn 14 = .ok (.iconst 0, 1) := by decide +kernel
theorem dX4_isIn_15 : decode cX4_isIn 15 = .ok (.ireturn, 1) := by decide +kernel
set_option maxRecDepth 20000 in
theorem ggX4_isCode_X4_isIn : GoodIn wsX4_isCode wsX4_isIn := goodIn_r _ [4] (by decide +kernel) (by decide +kernel)
set_option maxRecDepth 20000 in
theorem gX4_isCode_X4_isIn : GoodIn wsX4_isCode (va_wsS RX4 32 yX4_isIn wsX4_isIn) := goodIn_app (goodIn_of _ (by decide +kernel)) ggX4_isCode_X4_isIn
theorem dX4_isCode_0 : decode cX4_isCode 0 = .ok (.iload_n 0, 1) := by decide +kernel
theorem dX4_isCode_1 : decode cX4_isCode 1 = .ok (.iconst 0, 1) := by decide +kernel
theorem dX4_isCode_2 : decode cX4_isCode 2 = .ok (.bipush 31, 2) := by decide +kernel
theorem dX4_isCode_4 : decode cX4_isCode 4 = .ok (.invokestatic 32, 3) := by decide +kernel
theorem dX4_isCode_7 : decode cX4_isCode 7 = .ok (.ireturn, 1) := by decide +kernel
set_option maxRecDepth 20000 in
theorem ggX4_isCharacter_X4_isIn : GoodIn wsX4_isCharacter wsX4_isIn := goodIn_r _ [4] (by decide +kernel) (by decide +kernel)
set_option maxRecDepth 20000 in
theorem gX4_isCharacter_X4_isIn : GoodIn wsX4_isCharacter (va_wsS RX4 32 yX4_isIn wsX4_isIn) := goodIn_app (goodIn_of _ (by decide +kernel)) ggX4_isCharacter_X4_isIn
theorem dX4_isCharacter_0 : decode cX4_isCharacter 0 = .ok (.iload_n 0, 1) := by decide +kernel
theorem dX4_isCharacter_1 : decode cX4_isCharacter 1 = .ok (.iconst 1, 1) := by decide +kernel
theorem dX4_isCharacter_2 : decode cX4_isCharacter 2 = .ok (.bipush 54, 2) := by decide +kernel
theorem dX4_isCharacter_4 : decode cX4_isCharacter 4 = .ok (.invokestatic 32, 3) := by decide +kernel
theorem dX4_isCharacter_7 : decode cX4_isCharacter 7 = .ok (.ireturn, 1) := by decide +kernel
theorem dX4_isType_0 : decode cX4_isType 0 = .ok (.iload_n 0, 1) := by decide +kernel
theorem dX4_isType_1 : decode cX4_isType 1 = .ok (.bipush 31, 2) := by decide +kernel
theorem dX4_isType_3 : decode cX4_isType 3 = .ok (.if_icmp .eq 33, 3) := by decide +kernel
theorem dX4_isType_6 : decode cX4_isType 6 = .ok (.iload_n 0, 1) := by decide +kernel
theorem dX4_isType_7 : decode cX4_isType 7 = .ok (.bipush 27, 2) := by decide +kernel
theorem dX4_isType_9 : decode cX4_isType 9 = .ok (.if_icmp .eq 27, 3) := by decide +kernel
theorem dX4_isType_12 : decode cX4_isType 12 = .ok (.iload_n 0, 1) := by decide +kernel
theorem dX4_isType_13 : decode cX4_isType 13 = .ok (.iconst 4, 1) := by decide +kernel
theorem dX4_isType_14 : decode cX4_isType 14 = .ok (.if_icmp .eq 22, 3) := by decide +kernel
theorem dX4_isType_17 : decode cX4_isType 17 = .ok (.iload_n 0, 1) := by decide +kernel
theorem dX4_isType_18 : decode cX4_isType 18 = .ok (.iconst 2, 1) := by decide +kernel
theorem dX4_isType_19 : decode cX4_isType 19 = .ok (.if_icmp .eq 17, 3) := by decide +kernel
theorem dX4_isType_22 : decode cX4_isType 22 = .ok (.iload_n 0, 1) := by decide +kernel
theorem dX4_isType_23 : decode cX4_isType 23 = .ok (.bipush 8, 2) := by decide +kernel
theorem dX4_isType_25 : decode cX4_isType 25 = .ok (.if_icmp .eq 11, 3) := by decide +kernel
theorem dX4_isType_28 : decode cX4_isType 28 = .ok (.iload_n 0, 1) := by decide +kernel
theorem dX4_isType_29 : decode cX4_isType 29 = .ok (.ifCond .eq 7, 3) := by decide +kernel
theorem dX4_isType_32 : decode cX4_isType 32 = .ok (.iconst 1, 1) := by decide +kernel
theorem dX4_isType_33 : decode cX4_isType 33 = .ok (.goto 4, 3) := by decide +kernel
theorem dX4_isType_36 : decode cX4_isType 36 = .ok (.iconst 0, 1) := by decide +kernel
theorem dX4_isType_37 : decode cX4_isType 37 = .ok (.ireturn, 1) := by decide +kernel
set_option maxRecDepth 20000 in
theorem ggX4_codeOf_X4_isType : GoodIn wsX4_codeOf wsX4_isType := goodIn_r _ [4] (by decide +kernel) (by decide +kernel)
set_option maxRecDepth 20000 in
theorem gX4_codeOf_X4_isType : GoodIn wsX4_codeOf (va_wsS RX4 36 yX4_isType wsX4_isType) := goodIn_app (goodIn_of _ (by decide +kernel)) ggX4_codeOf_X4_isType
theorem dX4_codeOf_0 : decode cX4_codeOf 0 = .ok (.iload_n 0, 1) := by decide +kernel
theorem dX4_codeOf_1 : decode cX4_codeOf 1 = .ok (.bipush 53, 2) := by decide +kernel
theorem dX4_codeOf_3 : decode cX4_codeOf 3 = .ok (.if_icmp .ne 5, 3) := by decide +kernel
theorem dX4_codeOf_6 : decode cX4_codeOf 6 = .ok (.iconst 4, 1) := by decide +kernel
theorem dX4_codeOf_7 : decode cX4_codeOf 7 = .ok (.ireturn, 1) := by decide +kernel
theorem dX4_codeOf_8 : decode cX4_codeOf 8 = .ok (.iload_n 0, 1) := by decide +kernel
theorem dX4_codeOf_9 : decode cX4_codeOf 9 = .ok (.bipush 54, 2) := by decide +kernel
theorem dX4_codeOf_11 : decode cX4_codeOf 11 = .ok (.if_icmp .ne 5, 3) := by decide +kernel
theorem dX4_codeOf_14 : decode cX4_codeOf 14 = .ok (.iconst 2, 1) := by decide +kernel
theorem dX4_codeOf_15 : decode cX4_codeOf 15 = .ok (.ireturn, 1) := by decide +kernel
theorem dX4_codeOf_16 : decode cX4_codeOf 16 = .ok (.iload_n 0, 1) := by decide +kernel
theorem dX4_codeOf_17 : decode cX4_codeOf 17 = .ok (.bipush 26, 2) := by decide +kernel
theorem dX4_codeOf_19 : decode cX4_codeOf 19 = .ok (.if_icmp .le 10, 3) := by decide +kernel
theorem dX4_codeOf_22 : decode cX4_codeOf 22 = .ok (.iload_n 0, 1) := by decide +kernel
theorem dX4_codeOf_23 : decode cX4_codeOf 23 = .ok (.bipush 26, 2) := by decide +kernel
theorem dX4_codeOf_25 : decode cX4_codeOf 25 = .ok (.isub, 1) := by decide +kernel
theorem dX4_codeOf_26 : decode cX4_codeOf 26 = .ok (.goto 4, 3) := by decide +kernel
theorem dX4_codeOf_29 : decode cX4_codeOf 29 = .ok (.iload_n 0, 1) := by decide +kernel
theorem dX4_codeOf_30 : decode cX4_codeOf 30 = .ok (.istore_n 1, 1) := by decide +kernel
theorem dX4_codeOf_31 : decode cX4_codeOf 31 = .ok (.iconst 0, 1) := by decide +kernel
theorem dX4_codeOf_32 : decode cX4_codeOf 32 = .ok (.istore_n 2, 1) := by decide +kernel
theorem dX4_codeOf_33 : decode cX4_codeOf 33 = .ok (.iload_n 1, 1) := by decide +kernel
theorem dX4_codeOf_34 : decode cX4_codeOf 34 = .ok (.ifCond .le 24, 3) := by decide +kernel
theorem dX4_codeOf_37 : decode cX4_codeOf 37 = .ok (.iinc 2 1, 3) := by decide +kernel
theorem dX4_codeOf_40 : decode cX4_codeOf 40 = .ok (.iload_n 1, 1) := by decide +kernel
theorem dX4_codeOf_41 : decode cX4_codeOf 41 = .ok (.iload_n 2, 1) := by decide +kernel
theorem dX4_codeOf_42 : decode cX4_codeOf 42 = .ok (.invokestatic 36, 3) := by decide +kernel
theorem dX4_codeOf_45 : decode cX4_codeOf 45 = .ok (.ifCond .eq 7, 3) := by decide +kernel
theorem dX4_codeOf_48 : decode cX4_codeOf 48 = .ok (.iconst 1, 1) := by decide +kernel
theorem dX4_codeOf_49 : decode cX4_codeOf 49 = .ok (.goto 4, 3) := by decide +kernel
theorem dX4_codeOf_52 : decode cX4_codeOf 52 = .ok (.iconst 0, 1) := by decide +kernel
theorem dX4_codeOf_53 : decode cX4_codeOf 53 = .ok (.isub, 1) := by decide +kernel
theorem dX4_codeOf_54 : decode cX4_codeOf 54 = .ok (.istore_n 1, 1) := by decide +kernel
theorem dX4_codeOf_55 : decode cX4_codeOf 55 = .ok (.goto (-22), 3) := by decide +kernel
theorem dX4_codeOf_58 : decode cX4_codeOf 58 = .ok (.iload_n 2, 1) := by decide +kernel
theorem dX4_codeOf_59 : decode cX4_codeOf 59 = .ok (.ireturn, 1) := by decide +kernel
set_option maxRecDepth 20000 in
theorem ggX4_characterOf_X4_isType : GoodIn wsX4_characterOf wsX4_isType := goodIn_r _ [4] (by decide +kernel) (by decide +kernel)
set_option maxRecDepth 20000 in
theorem gX4_characterOf_X4_isType : GoodIn wsX4_characterOf (va_wsS RX4 36 yX4_isType wsX4_isType) := goodIn_app (goodIn_of _ (by decide +kernel)) ggX4_characterOf_X4_isType
theorem dX4_characterOf_0 : decode cX4_characterOf 0 = .ok (.iload_n 0, 1) := by decide +kernel
theorem dX4_characterOf_1 : decode cX4_characterOf 1 = .ok (.iconst 4, 1) := by decide +kernel
theorem dX4_characterOf_2 : decode cX4_characterOf 2 = .ok (.if_icmp .ne 6, 3) := by decide +kernel
theorem dX4_characterOf_5 : decode cX4_characterOf 5 = .ok (.bipush 53, 2) := by decide +kernel
theorem dX4_characterOf_7 : decode cX4_characterOf 7 = .ok (.ireturn, 1) := by decide +kernel
theorem dX4_characterOf_8 : decode cX4_characterOf 8 = .ok (.iload_n 0, 1) := by decide +kernel
theorem dX4_characterOf_9 : decode cX4_characterOf 9 = .ok (.iconst 2, 1) := by decide +kernel
theorem dX4_characterOf_10 : decode cX4_characterOf 10 = .ok (.if_icmp .ne 6, 3) := by decide +kernel
theorem dX4_characterOf_13 : decode cX4_characterOf 13 = .ok (.bipush 54, 2) := by decide +kernel
theorem dX4_characterOf_15 : decode cX4_characterOf 15 = .ok (.ireturn, 1) := by decide +kernel
theorem dX4_characterOf_16 : decode cX4_characterOf 16 = .ok (.iload_n 0, 1) := by decide +kernel
theorem dX4_characterOf_17 : decode cX4_characterOf 17 = .ok (.invokestatic 36, 3) := by decide +kernel
theorem dX4_characterOf_20 : decode cX4_characterOf 20 = .ok (.ifCond .ne 5, 3) := by decide +kernel
theorem dX4_characterOf_23 : decode cX4_characterOf 23 = .ok (.iconst 0, 1) := by decide +kernel
theorem dX4_characterOf_24 : decode cX4_characterOf 24 = .ok (.ireturn, 1) := by decide +kernel
theorem dX4_characterOf_25 : decode cX4_characterOf 25 = .ok (.iconst 0, 1) := by decide +kernel
theorem dX4_characterOf_26 : decode cX4_characterOf 26 = .ok (.istore_n 2, 1) := by decide +kernel
theorem dX4_characterOf_27 : decode cX4_characterOf 27 = .ok (.iconst 1, 1) := by decide +kernel
theorem dX4_characterOf_28 : decode cX4_characterOf 28 = .ok (.istore_n 3, 1) := by decide +kernel
theorem dX4_characterOf_29 : decode cX4_characterOf 29 = .ok (.iload_n 3, 1) := by decide +kernel
theorem dX4_characterOf_30 : decode cX4_characterOf 30 = .ok (.iload_n 0, 1) := by decide +kernel
theorem dX4_characterOf_31 : decode cX4_characterOf 31 = .ok (.if_icmp .gt 24, 3) := by decide +kernel
theorem dX4_characterOf_34 : decode cX4_characterOf 34 = .ok (.iload_n 2, 1) := by decide +kernel
theorem dX4_characterOf_35 : decode cX4_characterOf 35 = .ok (.iload_n 3, 1) := by decide +kernel
theorem dX4_characterOf_36 : decode cX4_characterOf 36 = .ok (.invokestatic 36, 3) := by decide +kernel
theorem dX4_characterOf_39 : decode cX4_characterOf 39 = .ok (.ifCond .eq 7, 3) := by decide +kernel
theorem dX4_characterOf_42 : decode cX4_characterOf 42 = .ok (.iconst 1, 1) := by decide +kernel
theorem dX4_characterOf_43 : decode cX4_characterOf 43 = .ok (.goto 4, 3) := by decide +kernel
theorem dX4_characterOf_46 : decode cX4_characterOf 46 = .ok (.iconst 0, 1) := by decide +kernel
theorem dX4_characterOf_47 : decode cX4_characterOf 47 = .ok (.iadd, 1) := by decide +kernel
theorem dX4_characterOf_48 : decode cX4_characterOf 48 = .ok (.istore_n 2, 1) := by decide +kernel
theorem dX4_characterOf_49 : decode cX4_characterOf 49 = .ok (.iinc 3 1, 3) := by decide +kernel
theorem dX4_characterOf_52 : decode cX4_characterOf 52 = .ok (.goto (-23), 3) := by decide +kernel
theorem dX4_characterOf_55 : decode cX4_characterOf 55 = .ok (.iload_n 1, 1) := by decide +kernel
theorem dX4_characterOf_56 : decode cX4_characterOf 56 = .ok (.ifCond .eq 10, 3) := by decide +kernel
theorem dX4_characterOf_59 : decode cX4_characterOf 59 = .ok (.iload_n 2, 1) := by decide +kernel
theorem dX4_characterOf_60 : decode cX4_characterOf 60 = .ok (.bipush 26, 2) := by decide +kernel
theorem dX4_characterOf_62 : decode cX4_characterOf 62 = .ok (.iadd, 1) := by decide +kernel
theorem dX4_characterOf_63 : decode cX4_characterOf 63 = .ok (.goto 4, 3) := by decide +kernel
theorem dX4_characterOf_66 : decode cX4_characterOf 66 = .ok (.iload_n 2, 1) := by decide +kernel
theorem dX4_characterOf_67 : decode cX4_characterOf 67 = .ok (.ireturn, 1) := by decide +kernel
theorem dX4_size_0 : decode cX4_size 0 = .ok (.iconst 0, 1) := by decide +kernel
theorem dX4_size_1 : decode cX4_size 1 = .ok (.istore_n 1, 1) := by decide +kernel
theorem dX4_size_2 : decode cX4_size 2 = .ok (.iconst 0, 1) := by decide +kernel
theorem dX4_size_3 : decode cX4_size 3 = .ok (.istore_n 2, 1) := by decide +kernel
theorem dX4_size_4 : decode cX4_size 4 = .ok (.iload_n 2, 1) := by decide +kernel
theorem dX4_size_5 : decode cX4_size 5 = .ok (.iconst 5, 1) := by decide +kernel
theorem dX4_size_6 : decode cX4_size 6 = .ok (.if_icmp .ge 17, 3) := by decide +kernel
theorem dX4_size_9 : decode cX4_size 9 = .ok (.iload_n 1, 1) := by decide +kernel
theorem dX4_size_10 : decode cX4_size 10 = .ok (.iload_n 0, 1) := by decide +kernel
theorem dX4_size_11 : decode cX4_size 11 = .ok (.iload_n 2, 1) := by decide +kernel
theorem dX4_size_12 : decode cX4_size 12 = .ok (.ishr, 1) := by decide +kernel
theorem dX4_size_13 : decode cX4_size 13 = .ok (.iconst 1, 1) := by decide +kernel
theorem dX4_size_14 : decode cX4_size 14 = .ok (.iand, 1) := by decide +kernel
theorem dX4_size_15 : decode cX4_size 15 = .ok (.iadd, 1) := by decide +kernel
theorem dX4_size_16 : decode cX4_size 16 = .ok (.istore_n 1, 1) := by decide +kernel
theorem dX4_size_17 : decode cX4_size 17 = .ok (.iinc 2 1, 3) := by decide +kernel
theorem dX4_size_20 : decode cX4_size 20 = .ok (.goto (-16), 3) := by decide +kernel
theorem dX4_size_23 : decode cX4_size 23 = .ok (.iload_n 1, 1) := by decide +kernel
theorem dX4_size_24 : decode cX4_size 24 = .ok (.ireturn, 1) := by decide +kernel
set_option maxRecDepth 20000 in
theorem ggX4_code_X4_isCharacter : GoodIn wsX4_code wsX4_isCharacter := goodIn_r _ [5, 6, 7, 4, 8] (by decide +kernel) (by decide +kernel)
set_option maxRecDepth 20000 in
theorem gX4_code_X4_isCharacter : GoodIn wsX4_code (va_wsS RX4 40 yX4_isCharacter wsX4_isCharacter) := goodIn_app (goodIn_of _ (by decide +kernel)) ggX4_code_X4_isCharacter
set_option maxRecDepth 20000 in
theorem ggX4_code_X4_codeOf : GoodIn wsX4_code wsX4_codeOf := goodIn_r _ [11, 12, 13, 4, 14] (by decide +kernel) (by decide +kernel)
set_option maxRecDepth 20000 in
theorem gX4_code_X4_codeOf : GoodIn wsX4_code (va_wsS RX4 43 yX4_codeOf wsX4_codeOf) := goodIn_app (goodIn_of _ (by decide +kernel)) ggX4_code_X4_codeOf
set_option maxRecDepth 20000 in
theorem ggX4_code_X4_fail : GoodIn wsX4_code wsX4_fail := goodIn_r _ [18, 1, 19, 20, 21, 22, 23, 24, 25, 26, 27, 28, 29, 30, 31, 32, 33, 34] (by decide +kernel) (by decide +kernel)
set_option maxRecDepth 20000 in
theorem gX4_code_X4_fail : GoodIn wsX4_code (wsV RX4 47 RX4 yX4_fail wsX4_fail) := goodIn_app (goodIn_of _ (by decide +kernel)) ggX4_code_X4_fail
theorem dX4_code_0 : decode cX4_code 0 = .ok (.aload_n 0, 1) := by decide +kernel
theorem dX4_code_1 : decode cX4_code 1 = .ok (.iconst 0, 1) := by decide +kernel
theorem dX4_code_2 : decode cX4_code 2 = .ok (.putfield 29, 3) := by decide +kernel
theorem dX4_code_5 : decode cX4_code 5 = .ok (.iload_n 1, 1) := by decide +kernel
theorem dX4_code_6 : decode cX4_code 6 = .ok (.invokestatic 40, 3) := by decide +kernel
theorem dX4_code_9 : decode cX4_code 9 = .ok (.ifCond .eq 10, 3) := by decide +kernel
theorem dX4_code_12 : decode cX4_code 12 = .ok (.iload_n 1, 1) := by decide +kernel
theorem dX4_code_13 : decode cX4_code 13 = .ok (.invokestatic 43, 3) := by decide +kernel
theorem dX4_code_16 : decode cX4_code 16 = .ok (.goto 8, 3) := by decide +kernel
theorem dX4_code_19 : decode cX4_code 19 = .ok (.aload_n 0, 1) := by decide +kernel
theorem dX4_code_20 : decode cX4_code 20 = .ok (.iconst 1, 1) := by decide +kernel
theorem dX4_code_21 : decode cX4_code 21 = .ok (.invokevirtual 47, 3) := by decide +kernel
theorem dX4_code_24 : decode cX4_code 24 = .ok (.ireturn, 1) := by decide +kernel
set_option maxRecDepth 20000 in
theorem ggX4_character_X4_isCode : GoodIn wsX4_character wsX4_isCode := goodIn_r _ [5, 6, 7, 4, 8] (by decide +kernel) (by decide +kernel)
set_option maxRecDepth 20000 in
theorem gX4_character_X4_isCode : GoodIn wsX4_character (va_wsS RX4 50 yX4_isCode wsX4_isCode) := goodIn_app (goodIn_of _ (by decide +kernel)) ggX4_character_X4_isCode
set_option maxRecDepth 20000 in
theorem ggX4_character_X4_characterOf : GoodIn wsX4_character wsX4_characterOf := goodIn_r _ [11, 12, 13, 4, 14] (by decide +kernel) (by decide +kernel)
set_option maxRecDepth 20000 in
theorem gX4_character_X4_characterOf : GoodIn wsX4_character (va_wsS RX4 53 yX4_characterOf wsX4_characterOf) := goodIn_app (goodIn_of _ (by decide +kernel)) ggX4_character_X4_characterOf
set_option maxRecDepth 20000 in
theorem ggX4_character_X4_fail : GoodIn wsX4_character wsX4_fail := goodIn_r _ [18, 1, 19, 20, 21, 22, 23, 24, 25, 26, 27, 28, 29, 30, 31, 32, 33, 34] (by decide +kernel) (by decide +kernel)
set_option maxRecDepth 20000 in
theorem gX4_character_X4_fail : GoodIn wsX4_character (wsV RX4 47 RX4 yX4_fail wsX4_fail) := goodIn_app (goodIn_of _ (by decide +kernel)) ggX4_character_X4_fail
theorem dX4_character_0 : decode cX4_character 0 = .ok (.aload_n 0, 1) := by decide +kernel
theorem dX4_character_1 : decode cX4_character 1 = .ok (.iconst 0, 1) := by decide +kernel
theorem dX4_character_2 : decode cX4_character 2 = .ok (.putfield 29, 3) := by decide +kernel
theorem dX4_character_5 : decode cX4_character 5 = .ok (.iload_n 1, 1) := by decide +kernel
theorem dX4_character_6 : decode cX4_character 6 = .ok (.invokestatic 50, 3) := by decide +kernel
theorem dX4_character_9 : decode cX4_character 9 = .ok (.ifCond .eq 11, 3) := by decide +kernel
theorem dX4_character_12 : decode cX4_character 12 = .ok (.iload_n 1, 1) := by decide +kernel
theorem dX4_character_13 : decode cX4_character 13 = .ok (.iload_n 2, 1) := by decide +kernel
theorem dX4_character_14 : decode cX4_character 14 = .ok (.invokestatic 53, 3) := by decide +kernel
theorem dX4_character_17 : decode cX4_character 17 = .ok (.goto 8, 3) := by decide +kernel
theorem dX4_character_20 : decode cX4_character 20 = .ok (.aload_n 0, 1) := by decide +kernel
theorem dX4_character_21 : decode cX4_character 21 = .ok (.iconst 1, 1) := by decide +kernel
theorem dX4_character_22 : decode cX4_character 22 = .ok (.invokevirtual 47, 3) := by decide +kernel
theorem dX4_character_25 : decode cX4_character 25 = .ok (.ireturn, 1) := by decide +kernel
set_option maxRecDepth 20000 in
theorem ggX4_apart_X4_isCharacter : GoodIn wsX4_apart wsX4_isCharacter := goodIn_r _ [5, 6, 7, 4, 8] (by decide +kernel) (by decide +kernel)
set_option maxRecDepth 20000 in
theorem gX4_apart_X4_isCharacter : GoodIn wsX4_apart (va_wsS RX4 40 yX4_isCharacter wsX4_isCharacter) := goodIn_app (goodIn_of _ (by decide +kernel)) ggX4_apart_X4_isCharacter
set_option maxRecDepth 20000 in
theorem ggX4_apart_X4_codeOf : GoodIn wsX4_apart wsX4_codeOf := goodIn_r _ [11, 12, 13, 4, 14] (by decide +kernel) (by decide +kernel)
set_option maxRecDepth 20000 in
theorem gX4_apart_X4_codeOf : GoodIn wsX4_apart (va_wsS RX4 43 yX4_codeOf wsX4_codeOf) := goodIn_app (goodIn_of _ (by decide +kernel)) ggX4_apart_X4_codeOf
set_option maxRecDepth 20000 in
theorem ggX4_apart_X4_size : GoodIn wsX4_apart wsX4_size := goodIn_r _ [17] (by decide +kernel) (by decide +kernel)
set_option maxRecDepth 20000 in
theorem gX4_apart_X4_size : GoodIn wsX4_apart (va_wsS RX4 57 yX4_size wsX4_size) := goodIn_app (goodIn_of _ (by decide +kernel)) ggX4_apart_X4_size
set_option maxRecDepth 20000 in
theorem ggX4_apart_X4_fail : GoodIn wsX4_apart wsX4_fail := goodIn_r _ [21, 1, 22, 23, 24, 25, 26, 27, 28, 29, 30, 31, 32, 33, 34, 35, 36, 37] (by decide +kernel) (by decide +kernel)
set_option maxRecDepth 20000 in
theorem gX4_apart_X4_fail : GoodIn wsX4_apart (wsV RX4 47 RX4 yX4_fail wsX4_fail) := goodIn_app (goodIn_of _ (by decide +kernel)) ggX4_apart_X4_fail
theorem dX4_apart_0 : decode cX4_apart 0 = .ok (.aload_n 0, 1) := by decide +kernel
theorem dX4_apart_1 : decode cX4_apart 1 = .ok (.iconst 0, 1) := by decide +kernel
theorem dX4_apart_2 : decode cX4_apart 2 = .ok (.putfield 29, 3) := by decide +kernel
theorem dX4_apart_5 : decode cX4_apart 5 = .ok (.iload_n 1, 1) := by decide +kernel
theorem dX4_apart_6 : decode cX4_apart 6 = .ok (.invokestatic 40, 3) := by decide +kernel
theorem dX4_apart_9 : decode cX4_apart 9 = .ok (.ifCond .eq 25, 3) := by decide +kernel
theorem dX4_apart_12 : decode cX4_apart 12 = .ok (.iload_n 2, 1) := by decide +kernel
theorem dX4_apart_13 : decode cX4_apart 13 = .ok (.invokestatic 40, 3) := by decide +kernel
theorem dX4_apart_16 : decode cX4_apart 16 = .ok (.ifCond .eq 18, 3) := by decide +kernel
theorem dX4_apart_19 : decode cX4_apart 19 = .ok (.iload_n 1, 1) := by decide +kernel
theorem dX4_apart_20 : decode cX4_apart 20 = .ok (.invokestatic 43, 3) := by decide +kernel
theorem dX4_apart_23 : decode cX4_apart 23 = .ok (.iload_n 2, 1) := by decide +kernel
theorem dX4_apart_24 : decode cX4_apart 24 = .ok (.invokestatic 43, 3) := by decide +kernel
theorem dX4_apart_27 : decode cX4_apart 27 = .ok (.ixor, 1) := by decide +kernel
theorem dX4_apart_28 : decode cX4_apart 28 = .ok (.invokestatic 57, 3) := by decide +kernel
theorem dX4_apart_31 : decode cX4_apart 31 = .ok (.goto 8, 3) := by decide +kernel
theorem dX4_apart_34 : decode cX4_apart 34 = .ok (.aload_n 0, 1) := by decide +kernel
theorem dX4_apart_35 : decode cX4_apart 35 = .ok (.iconst 1, 1) := by decide +kernel
theorem dX4_apart_36 : decode cX4_apart 36 = .ok (.invokevirtual 47, 3) := by decide +kernel
theorem dX4_apart_39 : decode cX4_apart 39 = .ok (.ireturn, 1) := by decide +kernel
set_option maxRecDepth 20000 in
theorem ggX4_doubts_X4_isCode : GoodIn wsX4_doubts wsX4_isCode := goodIn_r _ [6, 7, 8, 5, 9] (by decide +kernel) (by decide +kernel)
set_option maxRecDepth 20000 in
theorem gX4_doubts_X4_isCode : GoodIn wsX4_doubts (va_wsS RX4 50 yX4_isCode wsX4_isCode) := goodIn_app (goodIn_of _ (by decide +kernel)) ggX4_doubts_X4_isCode
set_option maxRecDepth 20000 in
theorem ggX4_doubts_X4_fail : GoodIn wsX4_doubts wsX4_fail := goodIn_r _ [13, 1, 20, 21, 22, 23, 24, 25, 26, 27, 28, 29, 30, 31, 32, 33, 34, 35] (by decide +kernel) (by decide +kernel)
set_option maxRecDepth 20000 in
theorem gX4_doubts_X4_fail : GoodIn wsX4_doubts (wsV RX4 47 RX4 yX4_fail wsX4_fail) := goodIn_app (goodIn_of _ (by decide +kernel)) ggX4_doubts_X4_fail
set_option maxRecDepth 20000 in
theorem ggX4_doubts_X4_characterOf : GoodIn wsX4_doubts wsX4_characterOf := goodIn_r _ [16, 17, 18, 5, 19] (by decide +kernel) (by decide +kernel)
set_option maxRecDepth 20000 in
theorem gX4_doubts_X4_characterOf : GoodIn wsX4_doubts (va_wsS RX4 53 yX4_characterOf wsX4_characterOf) := goodIn_app (goodIn_of _ (by decide +kernel)) ggX4_doubts_X4_characterOf
theorem dX4_doubts_0 : decode cX4_doubts 0 = .ok (.aload_n 0, 1) := by decide +kernel
theorem dX4_doubts_1 : decode cX4_doubts 1 = .ok (.iconst 0, 1) := by decide +kernel
theorem dX4_doubts_2 : decode cX4_doubts 2 = .ok (.putfield 29, 3) := by decide +kernel
theorem dX4_doubts_5 : decode cX4_doubts 5 = .ok (.iload_n 1, 1) := by decide +kernel
theorem dX4_doubts_6 : decode cX4_doubts 6 = .ok (.invokestatic 50, 3) := by decide +kernel
theorem dX4_doubts_9 : decode cX4_doubts 9 = .ok (.ifCond .ne 9, 3) := by decide +kernel
theorem dX4_doubts_12 : decode cX4_doubts 12 = .ok (.aload_n 0, 1) := by decide +kernel
theorem dX4_doubts_13 : decode cX4_doubts 13 = .ok (.iconst 1, 1) := by decide +kernel
theorem dX4_doubts_14 : decode cX4_doubts 14 = .ok (.invokevirtual 47, 3) := by decide +kernel
theorem dX4_doubts_17 : decode cX4_doubts 17 = .ok (.ireturn, 1) := by decide +kernel
theorem dX4_doubts_18 : decode cX4_doubts 18 = .ok (.iconst 0, 1) := by decide +kernel
theorem dX4_doubts_19 : decode cX4_doubts 19 = .ok (.istore_n 2, 1) := by decide +kernel
theorem dX4_doubts_20 : decode cX4_doubts 20 = .ok (.iconst 0, 1) := by decide +kernel
theorem dX4_doubts_21 : decode cX4_doubts 21 = .ok (.istore_n 3, 1) := by decide +kernel
theorem dX4_doubts_22 : decode cX4_doubts 22 = .ok (.iload_n 3, 1) := by decide +kernel
theorem dX4_doubts_23 : decode cX4_doubts 23 = .ok (.iconst 5, 1) := by decide +kernel
theorem dX4_doubts_24 : decode cX4_doubts 24 = .ok (.if_icmp .ge 40, 3) := by decide +kernel
theorem dX4_doubts_27 : decode cX4_doubts 27 = .ok (.iload_n 2, 1) := by decide +kernel
theorem dX4_doubts_28 : decode cX4_doubts 28 = .ok (.iload_n 1, 1) := by decide +kernel
theorem dX4_doubts_29 : decode cX4_doubts 29 = .ok (.iconst 1, 1) := by decide +kernel
theorem dX4_doubts_30 : decode cX4_doubts 30 = .ok (.iload_n 3, 1) := by decide +kernel
theorem dX4_doubts_31 : decode cX4_doubts 31 = .ok (.ishl, 1) := by decide +kernel
theorem dX4_doubts_32 : decode cX4_doubts 32 = .ok (.ixor, 1) := by decide +kernel
theorem dX4_doubts_33 : decode cX4_doubts 33 = .ok (.aload_n 0, 1) := by decide +kernel
theorem dX4_doubts_34 : decode cX4_doubts 34 = .ok (.getfield 60, 3) := by decide +kernel
theorem dX4_doubts_37 : decode cX4_doubts 37 = .ok (.invokestatic 53, 3) := by decide +kernel
theorem dX4_doubts_40 : decode cX4_doubts 40 = .ok (.iload_n 1, 1) := by decide +kernel
theorem dX4_doubts_41 : decode cX4_doubts 41 = .ok (.aload_n 0, 1) := by decide +kernel
theorem dX4_doubts_42 : decode cX4_doubts 42 = .ok (.getfield 60, 3) := by decide +kernel
theorem dX4_doubts_45 : decode cX4_doubts 45 = .ok (.invokestatic 53, 3) := by decide +kernel
theorem dX4_doubts_48 : decode cX4_doubts 48 = .ok (.if_icmp .eq 7, 3) := by decide +kernel
theorem dX4_doubts_51 : decode cX4_doubts 51 = .ok (.iconst 1, 1) := by decide +kernel
theorem dX4_doubts_52 : decode cX4_doubts 52 = .ok (.goto 4, 3) := by decide +kernel
theorem dX4_doubts_55 : decode cX4_doubts 55 = .ok (.iconst 0, 1) := by decide +kernel
theorem dX4_doubts_56 : decode cX4_doubts 56 = .ok (.iadd, 1) := by decide +kernel
theorem dX4_doubts_57 : decode cX4_doubts 57 = .ok (.istore_n 2, 1) := by decide +kernel
theorem dX4_doubts_58 : decode cX4_doubts 58 = .ok (.iinc 3 1, 3) := by decide +kernel
theorem dX4_doubts_61 : decode cX4_doubts 61 = .ok (.goto (-39), 3) := by decide +kernel
theorem dX4_doubts_64 : decode cX4_doubts 64 = .ok (.iload_n 2, 1) := by decide +kernel
theorem dX4_doubts_65 : decode cX4_doubts 65 = .ok (.ireturn, 1) := by decide +kernel
set_option maxRecDepth 20000 in
theorem ggX4_setLine_X4_isIn : GoodIn wsX4_setLine wsX4_isIn := goodIn_r _ [7] (by decide +kernel) (by decide +kernel)
set_option maxRecDepth 20000 in
theorem gX4_setLine_X4_isIn : GoodIn wsX4_setLine (va_wsS RX4 32 yX4_isIn wsX4_isIn) := goodIn_app (goodIn_of _ (by decide +kernel)) ggX4_setLine_X4_isIn
set_option maxRecDepth 20000 in
theorem ggX4_setLine_X4_fail : GoodIn wsX4_setLine wsX4_fail := goodIn_r _ [11, 1, 15, 16, 17, 18, 19, 20, 21, 22, 23, 24, 25, 26, 27, 28, 29, 30] (by decide +kernel) (by decide +kernel)
set_option maxRecDepth 20000 in
theorem gX4_setLine_X4_fail : GoodIn wsX4_setLine (wsV RX4 47 RX4 yX4_fail wsX4_fail) := goodIn_app (goodIn_of _ (by decide +kernel)) ggX4_setLine_X4_fail
set_option maxRecDepth 20000 in
theorem ggX4_setLine_X4_isCode : GoodIn wsX4_setLine wsX4_isCode := goodIn_r _ [14, 4, 5, 6, 7] (by decide +kernel) (by decide +kernel)
set_option maxRecDepth 20000 in
theorem gX4_setLine_X4_isCode : GoodIn wsX4_setLine (va_wsS RX4 50 yX4_isCode wsX4_isCode) := goodIn_app (goodIn_of _ (by decide +kernel)) ggX4_setLine_X4_isCode
theorem dX4_setLine_0 : decode cX4_setLine 0 = .ok (.aload_n 0, 1) := by decide +kernel
theorem dX4_setLine_1 : decode cX4_setLine 1 = .ok (.iconst 0, 1) := by decide +kernel
theorem dX4_setLine_2 : decode cX4_setLine 2 = .ok (.putfield 29, 3) := by decide +kernel
theorem dX4_setLine_5 : decode cX4_setLine 5 = .ok (.iload_n 1, 1) := by decide +kernel
theorem dX4_setLine_6 : decode cX4_setLine 6 = .ok (.iconst 0, 1) := by decide +kernel
theorem dX4_setLine_7 : decode cX4_setLine 7 = .ok (.bipush 15, 2) := by decide +kernel
theorem dX4_setLine_9 : decode cX4_setLine 9 = .ok (.invokestatic 32, 3) := by decide +kernel
theorem dX4_setLine_12 : decode cX4_setLine 12 = .ok (.ifCond .ne 9, 3) := by decide +kernel
theorem dX4_setLine_15 : decode cX4_setLine 15 = .ok (.aload_n 0, 1) := by decide +kernel
theorem dX4_setLine_16 : decode cX4_setLine 16 = .ok (.iconst 1, 1) := by decide +kernel
theorem dX4_setLine_17 : decode cX4_setLine 17 = .ok (.invokevirtual 47, 3) := by decide +kernel
theorem dX4_setLine_20 : decode cX4_setLine 20 = .ok (.ireturn, 1) := by decide +kernel
theorem dX4_setLine_21 : decode cX4_setLine 21 = .ok (.iload_n 2, 1) := by decide +kernel
theorem dX4_setLine_22 : decode cX4_setLine 22 = .ok (.bipush (-9), 2) := by decide +kernel
theorem dX4_setLine_24 : decode cX4_setLine 24 = .ok (.bipush 9, 2) := by decide +kernel
theorem dX4_setLine_26 : decode cX4_setLine 26 = .ok (.invokestatic 32, 3) := by decide +kernel
theorem dX4_setLine_29 : decode cX4_setLine 29 = .ok (.ifCond .eq 10, 3) := by decide +kernel
theorem dX4_setLine_32 : decode cX4_setLine 32 = .ok (.iload_n 3, 1) := by decide +kernel
theorem dX4_setLine_33 : decode cX4_setLine 33 = .ok (.invokestatic 50, 3) := by decide +kernel
theorem dX4_setLine_36 : decode cX4_setLine 36 = .ok (.ifCond .ne 9, 3) := by decide +kernel
theorem dX4_setLine_39 : decode cX4_setLine 39 = .ok (.aload_n 0, 1) := by decide +kernel
theorem dX4_setLine_40 : decode cX4_setLine 40 = .ok (.iconst 2, 1) := by decide +kernel
theorem dX4_setLine_41 : decode cX4_setLine 41 = .ok (.invokevirtual 47, 3) := by decide +kernel
theorem dX4_setLine_44 : decode cX4_setLine 44 = .ok (.ireturn, 1) := by decide +kernel
theorem dX4_setLine_45 : decode cX4_setLine 45 = .ok (.aload_n 0, 1) := by decide +kernel
theorem dX4_setLine_46 : decode cX4_setLine 46 = .ok (.getfield 20, 3) := by decide +kernel
theorem dX4_setLine_49 : decode cX4_setLine 49 = .ok (.iload_n 1, 1) := by decide +kernel
theorem dX4_setLine_50 : decode cX4_setLine 50 = .ok (.iaload, 1) := by decide +kernel
theorem dX4_setLine_51 : decode cX4_setLine 51 = .ok (.istore 4, 2) := by decide +kernel
theorem dX4_setLine_53 : decode cX4_setLine 53 = .ok (.aload_n 0, 1) := by decide +kernel
theorem dX4_setLine_54 : decode cX4_setLine 54 = .ok (.getfield 20, 3) := by decide +kernel
theorem dX4_setLine_57 : decode cX4_setLine 57 = .ok (.iload_n 1, 1) := by decide +kernel
theorem dX4_setLine_58 : decode cX4_setLine 58 = .ok (.iload_n 2, 1) := by decide +kernel
theorem dX4_setLine_59 : decode cX4_setLine 59 = .ok (.iastore, 1) := by decide +kernel
theorem dX4_setLine_60 : decode cX4_setLine 60 = .ok (.aload_n 0, 1) := by decide +kernel
theorem dX4_setLine_61 : decode cX4_setLine 61 = .ok (.getfield 23, 3) := by decide +kernel
theorem dX4_setLine_64 : decode cX4_setLine 64 = .ok (.iload_n 1, 1) := by decide +kernel
theorem dX4_setLine_65 : decode cX4_setLine 65 = .ok (.iload_n 3, 1) := by decide +kernel
theorem dX4_setLine_66 : decode cX4_setLine 66 = .ok (.iastore, 1) := by decide +kernel
theorem dX4_setLine_67 : decode cX4_setLine 67 = .ok (.iload 4, 2) := by decide +kernel
theorem dX4_setLine_69 : decode cX4_setLine 69 = .ok (.ireturn, 1) := by decide +kernel
set_option maxRecDepth 20000 in
theorem ggX4_setPlay_X4_isIn : GoodIn wsX4_setPlay wsX4_isIn := goodIn_r _ [6] (by decide +kernel) (by decide +kernel)
set_option maxRecDepth 20000 in
theorem gX4_setPlay_X4_isIn : GoodIn wsX4_setPlay (va_wsS RX4 32 yX4_isIn wsX4_isIn) := goodIn_app (goodIn_of _ (by decide +kernel)) ggX4_setPlay_X4_isIn
set_option maxRecDepth 20000 in
theorem ggX4_setPlay_X4_fail : GoodIn wsX4_setPlay wsX4_fail := goodIn_r _ [10, 1, 11, 12, 13, 14, 15, 16, 17, 18, 19, 20, 21, 22, 23, 24, 25, 26] (by decide +kernel) (by decide +kernel)
set_option maxRecDepth 20000 in
theorem gX4_setPlay_X4_fail : GoodIn wsX4_setPlay (wsV RX4 47 RX4 yX4_fail wsX4_fail) := goodIn_app (goodIn_of _ (by decide +kernel)) ggX4_setPlay_X4_fail
theorem dX4_setPlay_0 : decode cX4_setPlay 0 = .ok (.aload_n 0, 1) := by decide +kernel
theorem dX4_setPlay_1 : decode cX4_setPlay 1 = .ok (.iconst 0, 1) := by decide +kernel
theorem dX4_setPlay_2 : decode cX4_setPlay 2 = .ok (.putfield 29, 3) := by decide +kernel
theorem dX4_setPlay_5 : decode cX4_setPlay 5 = .ok (.iload_n 1, 1) := by decide +kernel
theorem dX4_setPlay_6 : decode cX4_setPlay 6 = .ok (.iconst 0, 1) := by decide +kernel
theorem dX4_setPlay_7 : decode cX4_setPlay 7 = .ok (.bipush 9, 2) := by decide +kernel
theorem dX4_setPlay_9 : decode cX4_setPlay 9 = .ok (.invokestatic 32, 3) := by decide +kernel
theorem dX4_setPlay_12 : decode cX4_setPlay 12 = .ok (.ifCond .ne 9, 3) := by decide +kernel
theorem dX4_setPlay_15 : decode cX4_setPlay 15 = .ok (.aload_n 0, 1) := by decide +kernel
theorem dX4_setPlay_16 : decode cX4_setPlay 16 = .ok (.iconst 1, 1) := by decide +kernel
theorem dX4_setPlay_17 : decode cX4_setPlay 17 = .ok (.invokevirtual 47, 3) := by decide +kernel
theorem dX4_setPlay_20 : decode cX4_setPlay 20 = .ok (.ireturn, 1) := by decide +kernel
theorem dX4_setPlay_21 : decode cX4_setPlay 21 = .ok (.aload_n 0, 1) := by decide +kernel
theorem dX4_setPlay_22 : decode cX4_setPlay 22 = .ok (.getfield 64, 3) := by decide +kernel
theorem dX4_setPlay_25 : decode cX4_setPlay 25 = .ok (.istore_n 2, 1) := by decide +kernel
theorem dX4_setPlay_26 : decode cX4_setPlay 26 = .ok (.aload_n 0, 1) := by decide +kernel
theorem dX4_setPlay_27 : decode cX4_setPlay 27 = .ok (.iload_n 1, 1) := by decide +kernel
theorem dX4_setPlay_28 : decode cX4_setPlay 28 = .ok (.putfield 64, 3) := by decide +kernel
theorem dX4_setPlay_31 : decode cX4_setPlay 31 = .ok (.iload_n 2, 1) := by decide +kernel
theorem dX4_setPlay_32 : decode cX4_setPlay 32 = .ok (.ireturn, 1) := by decide +kernel
theorem dX4_setUnshift_0 : decode cX4_setUnshift 0 = .ok (.aload_n 0, 1) := by decide +kernel
theorem dX4_setUnshift_1 : decode cX4_setUnshift 1 = .ok (.iconst 0, 1) := by decide +kernel
theorem dX4_setUnshift_2 : decode cX4_setUnshift 2 = .ok (.putfield 29, 3) := by decide +kernel
theorem dX4_setUnshift_5 : decode cX4_setUnshift 5 = .ok (.aload_n 0, 1) := by decide +kernel
theorem dX4_setUnshift_6 : decode cX4_setUnshift 6 = .ok (.getfield 67, 3) := by decide +kernel
theorem dX4_setUnshift_9 : decode cX4_setUnshift 9 = .ok (.istore_n 2, 1) := by decide +kernel
theorem dX4_setUnshift_10 : decode cX4_setUnshift 10 = .ok (.aload_n 0, 1) := by decide +kernel
theorem dX4_setUnshift_11 : decode cX4_setUnshift 11 = .ok (.iload_n 1, 1) := by decide +kernel
theorem dX4_setUnshift_12 : decode cX4_setUnshift 12 = .ok (.putfield 67, 3) := by decide +kernel
theorem dX4_setUnshift_15 : decode cX4_setUnshift 15 = .ok (.iload_n 2, 1) := by decide +kernel
theorem dX4_setUnshift_16 : decode cX4_setUnshift 16 = .ok (.ireturn, 1) := by decide +kernel
theorem dX4_shift_0 : decode cX4_shift 0 = .ok (.iload_n 2, 1) := by decide +kernel
theorem dX4_shift_1 : decode cX4_shift 1 = .ok (.bipush 27, 2) := by decide +kernel
theorem dX4_shift_3 : decode cX4_shift 3 = .ok (.if_icmp .ne 5, 3) := by decide +kernel
theorem dX4_shift_6 : decode cX4_shift 6 = .ok (.iconst 1, 1) := by decide +kernel
theorem dX4_shift_7 : decode cX4_shift 7 = .ok (.ireturn, 1) := by decide +kernel
theorem dX4_shift_8 : decode cX4_shift 8 = .ok (.iload_n 1, 1) := by decide +kernel
theorem dX4_shift_9 : decode cX4_shift 9 = .ok (.ifCond .eq 30, 3) := by decide +kernel
theorem dX4_shift_12 : decode cX4_shift 12 = .ok (.iload_n 2, 1) := by decide +kernel
theorem dX4_shift_13 : decode cX4_shift 13 = .ok (.bipush 31, 2) := by decide +kernel
theorem dX4_shift_15 : decode cX4_shift 15 = .ok (.if_icmp .eq 24, 3) := by decide +kernel
theorem dX4_shift_18 : decode cX4_shift 18 = .ok (.iload_n 2, 1) := by decide +kernel
theorem dX4_shift_19 : decode cX4_shift 19 = .ok (.iconst 2, 1) := by decide +kernel
theorem dX4_shift_20 : decode cX4_shift 20 = .ok (.if_icmp .eq 19, 3) := by decide +kernel
theorem dX4_shift_23 : decode cX4_shift 23 = .ok (.iload_n 2, 1) := by decide +kernel
theorem dX4_shift_24 : decode cX4_shift 24 = .ok (.iconst 4, 1) := by decide +kernel
theorem dX4_shift_25 : decode cX4_shift 25 = .ok (.if_icmp .ne 10, 3) := by decide +kernel
theorem dX4_shift_28 : decode cX4_shift 28 = .ok (.aload_n 0, 1) := by decide +kernel
theorem dX4_shift_29 : decode cX4_shift 29 = .ok (.getfield 67, 3) := by decide +kernel
theorem dX4_shift_32 : decode cX4_shift 32 = .ok (.ifCond .ne 7, 3) := by decide +kernel
theorem dX4_shift_35 : decode cX4_shift 35 = .ok (.iconst 1, 1) := by decide +kernel
theorem dX4_shift_36 : decode cX4_shift 36 = .ok (.goto 4, 3) := by decide +kernel
theorem dX4_shift_39 : decode cX4_shift 39 = .ok (.iconst 0, 1) := by decide +kernel
theorem dX4_shift_40 : decode cX4_shift 40 = .ok (.ireturn, 1) := by decide +kernel
theorem dX4_set_0 : decode cX4_set 0 = .ok (.aload_n 0, 1) := by decide +kernel
theorem dX4_set_1 : decode cX4_set 1 = .ok (.getfield 13, 3) := by decide +kernel
theorem dX4_set_4 : decode cX4_set 4 = .ok (.aload_n 0, 1) := by decide +kernel
theorem dX4_set_5 : decode cX4_set 5 = .ok (.getfield 7, 3) := by decide +kernel
theorem dX4_set_8 : decode cX4_set 8 = .ok (.iconst 1, 1) := by decide +kernel
theorem dX4_set_9 : decode cX4_set 9 = .ok (.isub, 1) := by decide +kernel
theorem dX4_set_10 : decode cX4_set 10 = .ok (.iaload, 1) := by decide +kernel
theorem dX4_set_11 : decode cX4_set 11 = .ok (.bipush 40, 2) := by decide +kernel
theorem dX4_set_13 : decode cX4_set 13 = .ok (.if_icmp .ne 14, 3) := by decide +kernel
theorem dX4_set_16 : decode cX4_set 16 = .ok (.aload_n 0, 1) := by decide +kernel
theorem dX4_set_17 : decode cX4_set 17 = .ok (.dup, 1) := by decide +kernel
theorem dX4_set_18 : decode cX4_set 18 = .ok (.getfield 70, 3) := by decide +kernel
theorem dX4_set_21 : decode cX4_set 21 = .ok (.iconst 1, 1) := by decide +kernel
theorem dX4_set_22 : decode cX4_set 22 = .ok (.iadd, 1) := by decide +kernel
theorem dX4_set_23 : decode cX4_set 23 = .ok (.putfield 70, 3) := by decide +kernel
theorem dX4_set_26 : decode cX4_set 26 = .ok (.return_, 1) := by decide +kernel
theorem dX4_set_27 : decode cX4_set 27 = .ok (.aload_n 0, 1) := by decide +kernel
theorem dX4_set_28 : decode cX4_set 28 = .ok (.getfield 17, 3) := by decide +kernel
theorem dX4_set_31 : decode cX4_set 31 = .ok (.bipush 40, 2) := by decide +kernel
theorem dX4_set_33 : decode cX4_set 33 = .ok (.aload_n 0, 1) := by decide +kernel
theorem dX4_set_34 : decode cX4_set 34 = .ok (.getfield 7, 3) := by decide +kernel
theorem dX4_set_37 : decode cX4_set 37 = .ok (.iconst 1, 1) := by decide +kernel
theorem dX4_set_38 : decode cX4_set 38 = .ok (.isub, 1) := by decide +kernel
theorem dX4_set_39 : decode cX4_set 39 = .ok (.imul, 1) := by decide +kernel
theorem dX4_set_40 : decode cX4_set 40 = .ok (.aload_n 0, 1) := by decide +kernel
theorem dX4_set_41 : decode cX4_set 41 = .ok (.getfield 13, 3) := by decide +kernel
theorem dX4_set_44 : decode cX4_set 44 = .ok (.aload_n 0, 1) := by decide +kernel
theorem dX4_set_45 : decode cX4_set 45 = .ok (.getfield 7, 3) := by decide +kernel
theorem dX4_set_48 : decode cX4_set 48 = .ok (.iconst 1, 1) := by decide +kernel
theorem dX4_set_49 : decode cX4_set 49 = .ok (.isub, 1) := by decide +kernel
theorem dX4_set_50 : decode cX4_set 50 = .ok (.iaload, 1) := by decide +kernel
theorem dX4_set_51 : decode cX4_set 51 = .ok (.iadd, 1) := by decide +kernel
theorem dX4_set_52 : decode cX4_set 52 = .ok (.iload_n 1, 1) := by decide +kernel
theorem dX4_set_53 : decode cX4_set 53 = .ok (.iastore, 1) := by decide +kernel
theorem dX4_set_54 : decode cX4_set 54 = .ok (.aload_n 0, 1) := by decide +kernel
theorem dX4_set_55 : decode cX4_set 55 = .ok (.getfield 13, 3) := by decide +kernel
theorem dX4_set_58 : decode cX4_set 58 = .ok (.aload_n 0, 1) := by decide +kernel
theorem dX4_set_59 : decode cX4_set 59 = .ok (.getfield 7, 3) := by decide +kernel
theorem dX4_set_62 : decode cX4_set 62 = .ok (.iconst 1, 1) := by decide +kernel
theorem dX4_set_63 : decode cX4_set 63 = .ok (.isub, 1) := by decide +kernel
theorem dX4_set_64 : decode cX4_set 64 = .ok (.dup2, 1) := by decide +kernel
theorem dX4_set_65 : decode cX4_set 65 = .ok (.iaload, 1) := by decide +kernel
theorem dX4_set_66 : decode cX4_set 66 = .ok (.iconst 1, 1) := by decide +kernel
theorem dX4_set_67 : decode cX4_set 67 = .ok (.iadd, 1) := by decide +kernel
theorem dX4_set_68 : decode cX4_set 68 = .ok (.iastore, 1) := by decide +kernel
theorem dX4_set_69 : decode cX4_set 69 = .ok (.return_, 1) := by decide +kernel
theorem dX4_feed_0 : decode cX4_feed 0 = .ok (.aload_n 0, 1) := by decide +kernel
theorem dX4_feed_1 : decode cX4_feed 1 = .ok (.getfield 7, 3) := by decide +kernel
theorem dX4_feed_4 : decode cX4_feed 4 = .ok (.bipush 20, 2) := by decide +kernel
theorem dX4_feed_6 : decode cX4_feed 6 = .ok (.if_icmp .ne 45, 3) := by decide +kernel
theorem dX4_feed_9 : decode cX4_feed 9 = .ok (.aload_n 0, 1) := by decide +kernel
theorem dX4_feed_10 : decode cX4_feed 10 = .ok (.getfield 17, 3) := by decide +kernel
theorem dX4_feed_13 : decode cX4_feed 13 = .ok (.bipush 40, 2) := by decide +kernel
theorem dX4_feed_15 : decode cX4_feed 15 = .ok (.aload_n 0, 1) := by decide +kernel
theorem dX4_feed_16 : decode cX4_feed 16 = .ok (.getfield 17, 3) := by decide +kernel
theorem dX4_feed_19 : decode cX4_feed 19 = .ok (.iconst 0, 1) := by decide +kernel
theorem dX4_feed_20 : decode cX4_feed 20 = .ok (.sipush 760, 3) := by decide +kernel
theorem dX4_feed_23 : decode cX4_feed 23 = .ok (.invokestatic 73, 3) := by decide +kernel
theorem dX4_feed_26 : decode cX4_feed 26 = .ok (.aload_n 0, 1) := by decide +kernel
theorem dX4_feed_27 : decode cX4_feed 27 = .ok (.getfield 13, 3) := by decide +kernel
theorem dX4_feed_30 : decode cX4_feed 30 = .ok (.iconst 1, 1) := by decide +kernel
theorem dX4_feed_31 : decode cX4_feed 31 = .ok (.aload_n 0, 1) := by decide +kernel
theorem dX4_feed_32 : decode cX4_feed 32 = .ok (.getfield 13, 3) := by decide +kernel
theorem dX4_feed_35 : decode cX4_feed 35 = .ok (.iconst 0, 1) := by decide +kernel
theorem dX4_feed_36 : decode cX4_feed 36 = .ok (.bipush 19, 2) := by decide +kernel
theorem dX4_feed_38 : decode cX4_feed 38 = .ok (.invokestatic 73, 3) := by decide +kernel
theorem dX4_feed_41 : decode cX4_feed 41 = .ok (.aload_n 0, 1) := by decide +kernel
theorem dX4_feed_42 : decode cX4_feed 42 = .ok (.dup, 1) := by decide +kernel
theorem dX4_feed_43 : decode cX4_feed 43 = .ok (.getfield 7, 3) := by decide +kernel
theorem dX4_feed_46 : decode cX4_feed 46 = .ok (.iconst 1, 1) := by decide +kernel
theorem dX4_feed_47 : decode cX4_feed 47 = .ok (.isub, 1) := by decide +kernel
theorem dX4_feed_48 : decode cX4_feed 48 = .ok (.putfield 7, 3) := by decide +kernel
theorem dX4_feed_51 : decode cX4_feed 51 = .ok (.aload_n 0, 1) := by decide +kernel
theorem dX4_feed_52 : decode cX4_feed 52 = .ok (.getfield 13, 3) := by decide +kernel
theorem dX4_feed_55 : decode cX4_feed 55 = .ok (.aload_n 0, 1) := by decide +kernel
theorem dX4_feed_56 : decode cX4_feed 56 = .ok (.getfield 7, 3) := by decide +kernel
theorem dX4_feed_59 : decode cX4_feed 59 = .ok (.iconst 0, 1) := by decide +kernel
theorem dX4_feed_60 : decode cX4_feed 60 = .ok (.iastore, 1) := by decide +kernel
theorem dX4_feed_61 : decode cX4_feed 61 = .ok (.aload_n 0, 1) := by decide +kernel
theorem dX4_feed_62 : decode cX4_feed 62 = .ok (.dup, 1) := by decide +kernel
theorem dX4_feed_63 : decode cX4_feed 63 = .ok (.getfield 7, 3) := by decide +kernel
theorem dX4_feed_66 : decode cX4_feed 66 = .ok (.iconst 1, 1) := by decide +kernel
theorem dX4_feed_67 : decode cX4_feed 67 = .ok (.iadd, 1) := by decide +kernel
theorem dX4_feed_68 : decode cX4_feed 68 = .ok (.putfield 7, 3) := by decide +kernel
theorem dX4_feed_71 : decode cX4_feed 71 = .ok (.return_, 1) := by decide +kernel
set_option maxRecDepth 20000 in
theorem ggX4_print_X4_feed : GoodIn wsX4_print wsX4_feed := goodIn_r _ [7, 8, 9, 10, 11, 12, 13, 14, 31, 32, 33, 34, 35, 36, 37, 38, 39, 40, 41, 42, 43, 44, 45, 46] (by decide +kernel) (by decide +kernel)
set_option maxRecDepth 20000 in
theorem gX4_print_X4_feed : GoodIn wsX4_print (wsV RX4 79 RX4 yX4_feed wsX4_feed) := goodIn_app (goodIn_of _ (by decide +kernel)) ggX4_print_X4_feed
set_option maxRecDepth 20000 in
theorem ggX4_print_X4_characterOf : GoodIn wsX4_print wsX4_characterOf := goodIn_r _ [17, 18, 19, 6, 20] (by decide +kernel) (by decide +kernel)
set_option maxRecDepth 20000 in
theorem gX4_print_X4_characterOf : GoodIn wsX4_print (va_wsS RX4 53 yX4_characterOf wsX4_characterOf) := goodIn_app (goodIn_of _ (by decide +kernel)) ggX4_print_X4_characterOf
set_option maxRecDepth 20000 in
theorem ggX4_print_X4_set : GoodIn wsX4_print wsX4_set := goodIn_r _ [24, 14, 8, 25, 9, 31, 32, 33, 34, 35, 36, 37, 38, 39, 40, 41, 42, 43, 44, 45, 46] (by decide +kernel) (by decide +kernel)
set_option maxRecDepth 20000 in
theorem gX4_print_X4_set : GoodIn wsX4_print (wsV RX4 85 RX4 yX4_set wsX4_set) := goodIn_app (goodIn_of _ (by decide +kernel)) ggX4_print_X4_set
set_option maxRecDepth 20000 in
theorem ggX4_print_X4_shift : GoodIn wsX4_print wsX4_shift := goodIn_r _ [29, 30, 31, 32, 33, 34, 35, 36, 37, 38, 39, 40, 41, 42, 43, 44, 45, 46] (by decide +kernel) (by decide +kernel)
set_option maxRecDepth 20000 in
theorem gX4_print_X4_shift : GoodIn wsX4_print (wsV RX4 89 RX4 yX4_shift wsX4_shift) := goodIn_app (goodIn_of _ (by decide +kernel)) ggX4_print_X4_shift
theorem dX4_print_0 : decode cX4_print 0 = .ok (.iload_n 1, 1) := by decide +kernel
theorem dX4_print_1 : decode cX4_print 1 = .ok (.iconst 2, 1) := by decide +kernel
theorem dX4_print_2 : decode cX4_print 2 = .ok (.if_icmp .ne 10, 3) := by decide +kernel
theorem dX4_print_5 : decode cX4_print 5 = .ok (.aload_n 0, 1) := by decide +kernel
theorem dX4_print_6 : decode cX4_print 6 = .ok (.invokevirtual 79, 3) := by decide +kernel
theorem dX4_print_9 : decode cX4_print 9 = .ok (.goto 45, 3) := by decide +kernel
theorem dX4_print_12 : decode cX4_print 12 = .ok (.iload_n 1, 1) := by decide +kernel
theorem dX4_print_13 : decode cX4_print 13 = .ok (.bipush 8, 2) := by decide +kernel
theorem dX4_print_15 : decode cX4_print 15 = .ok (.if_icmp .ne 16, 3) := by decide +kernel
theorem dX4_print_18 : decode cX4_print 18 = .ok (.aload_n 0, 1) := by decide +kernel
theorem dX4_print_19 : decode cX4_print 19 = .ok (.dup, 1) := by decide +kernel
theorem dX4_print_20 : decode cX4_print 20 = .ok (.getfield 82, 3) := by decide +kernel
theorem dX4_print_23 : decode cX4_print 23 = .ok (.iconst 1, 1) := by decide +kernel
theorem dX4_print_24 : decode cX4_print 24 = .ok (.iadd, 1) := by decide +kernel
theorem dX4_print_25 : decode cX4_print 25 = .ok (.putfield 82, 3) := by decide +kernel
theorem dX4_print_28 : decode cX4_print 28 = .ok (.goto 26, 3) := by decide +kernel
theorem dX4_print_31 : decode cX4_print 31 = .ok (.iload_n 1, 1) := by decide +kernel
theorem dX4_print_32 : decode cX4_print 32 = .ok (.aload_n 0, 1) := by decide +kernel
theorem dX4_print_33 : decode cX4_print 33 = .ok (.getfield 60, 3) := by decide +kernel
theorem dX4_print_36 : decode cX4_print 36 = .ok (.invokestatic 53, 3) := by decide +kernel
theorem dX4_print_39 : decode cX4_print 39 = .ok (.ifCond .eq 15, 3) := by decide +kernel
theorem dX4_print_42 : decode cX4_print 42 = .ok (.aload_n 0, 1) := by decide +kernel
theorem dX4_print_43 : decode cX4_print 43 = .ok (.iload_n 1, 1) := by decide +kernel
theorem dX4_print_44 : decode cX4_print 44 = .ok (.aload_n 0, 1) := by decide +kernel
theorem dX4_print_45 : decode cX4_print 45 = .ok (.getfield 60, 3) := by decide +kernel
theorem dX4_print_48 : decode cX4_print 48 = .ok (.invokestatic 53, 3) := by decide +kernel
theorem dX4_print_51 : decode cX4_print 51 = .ok (.invokevirtual 85, 3) := by decide +kernel
theorem dX4_print_54 : decode cX4_print 54 = .ok (.aload_n 0, 1) := by decide +kernel
theorem dX4_print_55 : decode cX4_print 55 = .ok (.aload_n 0, 1) := by decide +kernel
theorem dX4_print_56 : decode cX4_print 56 = .ok (.aload_n 0, 1) := by decide +kernel
theorem dX4_print_57 : decode cX4_print 57 = .ok (.getfield 60, 3) := by decide +kernel
theorem dX4_print_60 : decode cX4_print 60 = .ok (.iload_n 1, 1) := by decide +kernel
theorem dX4_print_61 : decode cX4_print 61 = .ok (.invokevirtual 89, 3) := by decide +kernel
theorem dX4_print_64 : decode cX4_print 64 = .ok (.putfield 60, 3) := by decide +kernel
theorem dX4_print_67 : decode cX4_print 67 = .ok (.return_, 1) := by decide +kernel
theorem dX4_read_0 : decode cX4_read 0 = .ok (.iload_n 1, 1) := by decide +kernel
theorem dX4_read_1 : decode cX4_read 1 = .ok (.aload_n 0, 1) := by decide +kernel
theorem dX4_read_2 : decode cX4_read 2 = .ok (.getfield 23, 3) := by decide +kernel
theorem dX4_read_5 : decode cX4_read 5 = .ok (.iload_n 2, 1) := by decide +kernel
theorem dX4_read_6 : decode cX4_read 6 = .ok (.bipush 16, 2) := by decide +kernel
theorem dX4_read_8 : decode cX4_read 8 = .ok (.irem, 1) := by decide +kernel
theorem dX4_read_9 : decode cX4_read 9 = .ok (.iaload, 1) := by decide +kernel
theorem dX4_read_10 : decode cX4_read 10 = .ok (.ixor, 1) := by decide +kernel
theorem dX4_read_11 : decode cX4_read 11 = .ok (.istore_n 3, 1) := by decide +kernel
theorem dX4_read_12 : decode cX4_read 12 = .ok (.aload_n 0, 1) := by decide +kernel
theorem dX4_read_13 : decode cX4_read 13 = .ok (.getfield 20, 3) := by decide +kernel
theorem dX4_read_16 : decode cX4_read 16 = .ok (.iload_n 2, 1) := by decide +kernel
theorem dX4_read_17 : decode cX4_read 17 = .ok (.bipush 16, 2) := by decide +kernel
theorem dX4_read_19 : decode cX4_read 19 = .ok (.irem, 1) := by decide +kernel
theorem dX4_read_20 : decode cX4_read 20 = .ok (.iaload, 1) := by decide +kernel
theorem dX4_read_21 : decode cX4_read 21 = .ok (.istore 4, 2) := by decide +kernel
theorem dX4_read_23 : decode cX4_read 23 = .ok (.iload 4, 2) := by decide +kernel
theorem dX4_read_25 : decode cX4_read 25 = .ok (.aload_n 0, 1) := by decide +kernel
theorem dX4_read_26 : decode cX4_read 26 = .ok (.getfield 64, 3) := by decide +kernel
theorem dX4_read_29 : decode cX4_read 29 = .ok (.if_icmp .le 9, 3) := by decide +kernel
theorem dX4_read_32 : decode cX4_read 32 = .ok (.iload_n 3, 1) := by decide +kernel
theorem dX4_read_33 : decode cX4_read 33 = .ok (.iconst 1, 1) := by decide +kernel
theorem dX4_read_34 : decode cX4_read 34 = .ok (.ishr, 1) := by decide +kernel
theorem dX4_read_35 : decode cX4_read 35 = .ok (.goto 25, 3) := by decide +kernel
theorem dX4_read_38 : decode cX4_read 38 = .ok (.iload 4, 2) := by decide +kernel
theorem dX4_read_40 : decode cX4_read 40 = .ok (.aload_n 0, 1) := by decide +kernel
theorem dX4_read_41 : decode cX4_read 41 = .ok (.getfield 64, 3) := by decide +kernel
theorem dX4_read_44 : decode cX4_read 44 = .ok (.ineg, 1) := by decide +kernel
theorem dX4_read_45 : decode cX4_read 45 = .ok (.if_icmp .ge 14, 3) := by decide +kernel
theorem dX4_read_48 : decode cX4_read 48 = .ok (.iload_n 3, 1) := by decide +kernel
theorem dX4_read_49 : decode cX4_read 49 = .ok (.iconst 1, 1) := by decide +kernel
theorem dX4_read_50 : decode cX4_read 50 = .ok (.ishl, 1) := by decide +kernel
theorem dX4_read_51 : decode cX4_read 51 = .ok (.iconst 1, 1) := by decide +kernel
theorem dX4_read_52 : decode cX4_read 52 = .ok (.ior, 1) := by decide +kernel
theorem dX4_read_53 : decode cX4_read 53 = .ok (.bipush 31, 2) := by decide +kernel
theorem dX4_read_55 : decode cX4_read 55 = .ok (.iand, 1) := by decide +kernel
theorem dX4_read_56 : decode cX4_read 56 = .ok (.goto 4, 3) := by decide +kernel
theorem dX4_read_59 : decode cX4_read 59 = .ok (.iload_n 3, 1) := by decide +kernel
theorem dX4_read_60 : decode cX4_read 60 = .ok (.ireturn, 1) := by decide +kernel
set_option maxRecDepth 20000 in
theorem ggX4_come_X4_read : GoodIn wsX4_come wsX4_read := goodIn_r _ [7, 8, 9, 10, 44, 45, 46, 47, 48, 49, 50, 51, 52, 53, 54, 55, 56, 57, 58, 59] (by decide +kernel) (by decide +kernel)
set_option maxRecDepth 20000 in
theorem gX4_come_X4_read : GoodIn wsX4_come (wsV RX4 96 RX4 yX4_read wsX4_read) := goodIn_app (goodIn_of _ (by decide +kernel)) ggX4_come_X4_read
set_option maxRecDepth 20000 in
theorem ggX4_come_X4_print : GoodIn wsX4_come wsX4_print := goodIn_r _ [14, 15, 16, 17, 18, 19, 6, 20, 21, 22, 23, 24, 25, 26, 27, 28, 29, 30, 31, 32, 33, 34, 35, 36, 37, 38, 39, 40, 41, 42, 43, 44, 45, 46, 47, 48, 49, 50, 51, 52, 53, 54, 55, 56, 57, 58, 59] (by decide +kernel) (by decide +kernel)
set_option maxRecDepth 20000 in
theorem gX4_come_X4_print : GoodIn wsX4_come (wsV RX4 103 RX4 yX4_print wsX4_print) := goodIn_app (goodIn_of _ (by decide +kernel)) ggX4_come_X4_print
theorem dX4_come_0 : decode cX4_come 0 = .ok (.aload_n 0, 1) := by decide +kernel
theorem dX4_come_1 : decode cX4_come 1 = .ok (.iload_n 1, 1) := by decide +kernel
theorem dX4_come_2 : decode cX4_come 2 = .ok (.aload_n 0, 1) := by decide +kernel
theorem dX4_come_3 : decode cX4_come 3 = .ok (.getfield 93, 3) := by decide +kernel
theorem dX4_come_6 : decode cX4_come 6 = .ok (.invokevirtual 96, 3) := by decide +kernel
theorem dX4_come_9 : decode cX4_come 9 = .ok (.istore_n 2, 1) := by decide +kernel
theorem dX4_come_10 : decode cX4_come 10 = .ok (.aload_n 0, 1) := by decide +kernel
theorem dX4_come_11 : decode cX4_come 11 = .ok (.dup, 1) := by decide +kernel
theorem dX4_come_12 : decode cX4_come 12 = .ok (.getfield 93, 3) := by decide +kernel
theorem dX4_come_15 : decode cX4_come 15 = .ok (.iconst 1, 1) := by decide +kernel
theorem dX4_come_16 : decode cX4_come 16 = .ok (.iadd, 1) := by decide +kernel
theorem dX4_come_17 : decode cX4_come 17 = .ok (.putfield 93, 3) := by decide +kernel
theorem dX4_come_20 : decode cX4_come 20 = .ok (.aload_n 0, 1) := by decide +kernel
theorem dX4_come_21 : decode cX4_come 21 = .ok (.dup, 1) := by decide +kernel
theorem dX4_come_22 : decode cX4_come 22 = .ok (.getfield 100, 3) := by decide +kernel
theorem dX4_come_25 : decode cX4_come 25 = .ok (.iload_n 2, 1) := by decide +kernel
theorem dX4_come_26 : decode cX4_come 26 = .ok (.iload_n 1, 1) := by decide +kernel
theorem dX4_come_27 : decode cX4_come 27 = .ok (.if_icmp .ne 7, 3) := by decide +kernel
theorem dX4_come_30 : decode cX4_come 30 = .ok (.iconst 0, 1) := by decide +kernel
theorem dX4_come_31 : decode cX4_come 31 = .ok (.goto 4, 3) := by decide +kernel
theorem dX4_come_34 : decode cX4_come 34 = .ok (.iconst 1, 1) := by decide +kernel
theorem dX4_come_35 : decode cX4_come 35 = .ok (.iadd, 1) := by decide +kernel
theorem dX4_come_36 : decode cX4_come 36 = .ok (.putfield 100, 3) := by decide +kernel
theorem dX4_come_39 : decode cX4_come 39 = .ok (.aload_n 0, 1) := by decide +kernel
theorem dX4_come_40 : decode cX4_come 40 = .ok (.iload_n 2, 1) := by decide +kernel
theorem dX4_come_41 : decode cX4_come 41 = .ok (.invokevirtual 103, 3) := by decide +kernel
theorem dX4_come_44 : decode cX4_come 44 = .ok (.iload_n 2, 1) := by decide +kernel
theorem dX4_come_45 : decode cX4_come 45 = .ok (.ireturn, 1) := by decide +kernel
set_option maxRecDepth 20000 in
theorem ggX4_receive_X4_isCode : GoodIn wsX4_receive wsX4_isCode := goodIn_r _ [5, 6, 7, 4, 8] (by decide +kernel) (by decide +kernel)
set_option maxRecDepth 20000 in
theorem gX4_receive_X4_isCode : GoodIn wsX4_receive (va_wsS RX4 50 yX4_isCode wsX4_isCode) := goodIn_app (goodIn_of _ (by decide +kernel)) ggX4_receive_X4_isCode
set_option maxRecDepth 20000 in
theorem ggX4_receive_X4_come : GoodIn wsX4_receive wsX4_come := goodIn_r _ [12, 13, 14, 15, 16, 17, 4, 18, 19, 20, 21, 22, 23, 24, 25, 26, 27, 28, 29, 30, 31, 32, 33, 34, 35, 36, 37, 38, 39, 40, 41, 42, 43, 44, 45, 46, 47, 48, 49, 50, 51, 52, 53, 54, 59, 60, 61, 62, 63, 64, 65, 66, 67, 68, 69, 70, 71, 72, 73, 74] (by decide +kernel) (by decide +kernel)
set_option maxRecDepth 20000 in
theorem gX4_receive_X4_come : GoodIn wsX4_receive (wsV RX4 106 RX4 yX4_come wsX4_come) := goodIn_app (goodIn_of _ (by decide +kernel)) ggX4_receive_X4_come
set_option maxRecDepth 20000 in
theorem ggX4_receive_X4_fail : GoodIn wsX4_receive wsX4_fail := goodIn_r _ [58, 1, 59, 60, 61, 62, 63, 64, 65, 66, 67, 68, 69, 70, 71, 72, 73, 74] (by decide +kernel) (by decide +kernel)
set_option maxRecDepth 20000 in
theorem gX4_receive_X4_fail : GoodIn wsX4_receive (wsV RX4 47 RX4 yX4_fail wsX4_fail) := goodIn_app (goodIn_of _ (by decide +kernel)) ggX4_receive_X4_fail
theorem dX4_receive_0 : decode cX4_receive 0 = .ok (.aload_n 0, 1) := by decide +kernel
theorem dX4_receive_1 : decode cX4_receive 1 = .ok (.iconst 0, 1) := by decide +kernel
theorem dX4_receive_2 : decode cX4_receive 2 = .ok (.putfield 29, 3) := by decide +kernel
theorem dX4_receive_5 : decode cX4_receive 5 = .ok (.iload_n 1, 1) := by decide +kernel
theorem dX4_receive_6 : decode cX4_receive 6 = .ok (.invokestatic 50, 3) := by decide +kernel
theorem dX4_receive_9 : decode cX4_receive 9 = .ok (.ifCond .eq 11, 3) := by decide +kernel
theorem dX4_receive_12 : decode cX4_receive 12 = .ok (.aload_n 0, 1) := by decide +kernel
theorem dX4_receive_13 : decode cX4_receive 13 = .ok (.iload_n 1, 1) := by decide +kernel
theorem dX4_receive_14 : decode cX4_receive 14 = .ok (.invokevirtual 106, 3) := by decide +kernel
theorem dX4_receive_17 : decode cX4_receive 17 = .ok (.goto 8, 3) := by decide +kernel
theorem dX4_receive_20 : decode cX4_receive 20 = .ok (.aload_n 0, 1) := by decide +kernel
theorem dX4_receive_21 : decode cX4_receive 21 = .ok (.iconst 1, 1) := by decide +kernel
theorem dX4_receive_22 : decode cX4_receive 22 = .ok (.invokevirtual 47, 3) := by decide +kernel
theorem dX4_receive_25 : decode cX4_receive 25 = .ok (.ireturn, 1) := by decide +kernel
theorem dX4_put_0 : decode cX4_put 0 = .ok (.aload_n 0, 1) := by decide +kernel
theorem dX4_put_1 : decode cX4_put 1 = .ok (.getfield 26, 3) := by decide +kernel
theorem dX4_put_4 : decode cX4_put 4 = .ok (.aload_n 0, 1) := by decide +kernel
theorem dX4_put_5 : decode cX4_put 5 = .ok (.getfield 109, 3) := by decide +kernel
theorem dX4_put_8 : decode cX4_put 8 = .ok (.iload_n 1, 1) := by decide +kernel
theorem dX4_put_9 : decode cX4_put 9 = .ok (.iastore, 1) := by decide +kernel
theorem dX4_put_10 : decode cX4_put 10 = .ok (.aload_n 0, 1) := by decide +kernel
theorem dX4_put_11 : decode cX4_put 11 = .ok (.dup, 1) := by decide +kernel
theorem dX4_put_12 : decode cX4_put 12 = .ok (.getfield 109, 3) := by decide +kernel
theorem dX4_put_15 : decode cX4_put 15 = .ok (.iconst 1, 1) := by decide +kernel
theorem dX4_put_16 : decode cX4_put 16 = .ok (.iadd, 1) := by decide +kernel
theorem dX4_put_17 : decode cX4_put 17 = .ok (.putfield 109, 3) := by decide +kernel
theorem dX4_put_20 : decode cX4_put 20 = .ok (.return_, 1) := by decide +kernel
set_option maxRecDepth 20000 in
theorem ggX4_punch_X4_isCode : GoodIn wsX4_punch wsX4_isCode := goodIn_r _ [6, 7, 8, 5, 9] (by decide +kernel) (by decide +kernel)
set_option maxRecDepth 20000 in
theorem gX4_punch_X4_isCode : GoodIn wsX4_punch (va_wsS RX4 50 yX4_isCode wsX4_isCode) := goodIn_app (goodIn_of _ (by decide +kernel)) ggX4_punch_X4_isCode
set_option maxRecDepth 20000 in
theorem ggX4_punch_X4_fail : GoodIn wsX4_punch wsX4_fail := goodIn_r _ [13, 1, 19, 20, 21, 22, 23, 24, 25, 26, 27, 28, 29, 30, 31, 32, 33, 34] (by decide +kernel) (by decide +kernel)
set_option maxRecDepth 20000 in
theorem gX4_punch_X4_fail : GoodIn wsX4_punch (wsV RX4 47 RX4 yX4_fail wsX4_fail) := goodIn_app (goodIn_of _ (by decide +kernel)) ggX4_punch_X4_fail
set_option maxRecDepth 20000 in
theorem ggX4_punch_X4_put : GoodIn wsX4_punch wsX4_put := goodIn_r _ [17, 18, 2, 19, 20, 21, 22, 23, 24, 25, 26, 27, 28, 29, 30, 31, 32, 33, 34] (by decide +kernel) (by decide +kernel)
set_option maxRecDepth 20000 in
theorem gX4_punch_X4_put : GoodIn wsX4_punch (wsV RX4 112 RX4 yX4_put wsX4_put) := goodIn_app (goodIn_of _ (by decide +kernel)) ggX4_punch_X4_put
theorem dX4_punch_0 : decode cX4_punch 0 = .ok (.aload_n 0, 1) := by decide +kernel
theorem dX4_punch_1 : decode cX4_punch 1 = .ok (.iconst 0, 1) := by decide +kernel
theorem dX4_punch_2 : decode cX4_punch 2 = .ok (.putfield 29, 3) := by decide +kernel
theorem dX4_punch_5 : decode cX4_punch 5 = .ok (.iload_n 1, 1) := by decide +kernel
theorem dX4_punch_6 : decode cX4_punch 6 = .ok (.invokestatic 50, 3) := by decide +kernel
theorem dX4_punch_9 : decode cX4_punch 9 = .ok (.ifCond .ne 9, 3) := by decide +kernel
theorem dX4_punch_12 : decode cX4_punch 12 = .ok (.aload_n 0, 1) := by decide +kernel
theorem dX4_punch_13 : decode cX4_punch 13 = .ok (.iconst 1, 1) := by decide +kernel
theorem dX4_punch_14 : decode cX4_punch 14 = .ok (.invokevirtual 47, 3) := by decide +kernel
theorem dX4_punch_17 : decode cX4_punch 17 = .ok (.ireturn, 1) := by decide +kernel
theorem dX4_punch_18 : decode cX4_punch 18 = .ok (.aload_n 0, 1) := by decide +kernel
theorem dX4_punch_19 : decode cX4_punch 19 = .ok (.getfield 109, 3) := by decide +kernel
theorem dX4_punch_22 : decode cX4_punch 22 = .ok (.bipush 120, 2) := by decide +kernel
theorem dX4_punch_24 : decode cX4_punch 24 = .ok (.if_icmp .ne 9, 3) := by decide +kernel
theorem dX4_punch_27 : decode cX4_punch 27 = .ok (.aload_n 0, 1) := by decide +kernel
theorem dX4_punch_28 : decode cX4_punch 28 = .ok (.iconst 2, 1) := by decide +kernel
theorem dX4_punch_29 : decode cX4_punch 29 = .ok (.invokevirtual 47, 3) := by decide +kernel
theorem dX4_punch_32 : decode cX4_punch 32 = .ok (.ireturn, 1) := by decide +kernel
theorem dX4_punch_33 : decode cX4_punch 33 = .ok (.aload_n 0, 1) := by decide +kernel
theorem dX4_punch_34 : decode cX4_punch 34 = .ok (.iload_n 1, 1) := by decide +kernel
theorem dX4_punch_35 : decode cX4_punch 35 = .ok (.invokevirtual 112, 3) := by decide +kernel
theorem dX4_punch_38 : decode cX4_punch 38 = .ok (.aload_n 0, 1) := by decide +kernel
theorem dX4_punch_39 : decode cX4_punch 39 = .ok (.getfield 109, 3) := by decide +kernel
theorem dX4_punch_42 : decode cX4_punch 42 = .ok (.ireturn, 1) := by decide +kernel
set_option maxRecDepth 20000 in
theorem ggX4_shiftAt_X4_shift : GoodIn wsX4_shiftAt wsX4_shift := goodIn_r _ [6, 7, 8, 9, 10, 11, 12, 13, 14, 15, 16, 17, 18, 19, 20, 21, 22, 23] (by decide +kernel) (by decide +kernel)
set_option maxRecDepth 20000 in
theorem gX4_shiftAt_X4_shift : GoodIn wsX4_shiftAt (wsV RX4 89 RX4 yX4_shift wsX4_shift) := goodIn_app (goodIn_of _ (by decide +kernel)) ggX4_shiftAt_X4_shift
theorem dX4_shiftAt_0 : decode cX4_shiftAt 0 = .ok (.iconst 0, 1) := by decide +kernel
theorem dX4_shiftAt_1 : decode cX4_shiftAt 1 = .ok (.istore_n 2, 1) := by decide +kernel
theorem dX4_shiftAt_2 : decode cX4_shiftAt 2 = .ok (.iconst 0, 1) := by decide +kernel
theorem dX4_shiftAt_3 : decode cX4_shiftAt 3 = .ok (.istore_n 3, 1) := by decide +kernel
theorem dX4_shiftAt_4 : decode cX4_shiftAt 4 = .ok (.iload_n 3, 1) := by decide +kernel
theorem dX4_shiftAt_5 : decode cX4_shiftAt 5 = .ok (.iload_n 1, 1) := by decide +kernel
theorem dX4_shiftAt_6 : decode cX4_shiftAt 6 = .ok (.if_icmp .ge 21, 3) := by decide +kernel
theorem dX4_shiftAt_9 : decode cX4_shiftAt 9 = .ok (.aload_n 0, 1) := by decide +kernel
theorem dX4_shiftAt_10 : decode cX4_shiftAt 10 = .ok (.iload_n 2, 1) := by decide +kernel
theorem dX4_shiftAt_11 : decode cX4_shiftAt 11 = .ok (.aload_n 0, 1) := by decide +kernel
theorem dX4_shiftAt_12 : decode cX4_shiftAt 12 = .ok (.getfield 26, 3) := by decide +kernel
theorem dX4_shiftAt_15 : decode cX4_shiftAt 15 = .ok (.iload_n 3, 1) := by decide +kernel
theorem dX4_shiftAt_16 : decode cX4_shiftAt 16 = .ok (.iaload, 1) := by decide +kernel
theorem dX4_shiftAt_17 : decode cX4_shiftAt 17 = .ok (.invokevirtual 89, 3) := by decide +kernel
theorem dX4_shiftAt_20 : decode cX4_shiftAt 20 = .ok (.istore_n 2, 1) := by decide +kernel
theorem dX4_shiftAt_21 : decode cX4_shiftAt 21 = .ok (.iinc 3 1, 3) := by decide +kernel
theorem dX4_shiftAt_24 : decode cX4_shiftAt 24 = .ok (.goto (-20), 3) := by decide +kernel
theorem dX4_shiftAt_27 : decode cX4_shiftAt 27 = .ok (.iload_n 2, 1) := by decide +kernel
theorem dX4_shiftAt_28 : decode cX4_shiftAt 28 = .ok (.ireturn, 1) := by decide +kernel
set_option maxRecDepth 20000 in
theorem ggX4_type_X4_isCharacter : GoodIn wsX4_type wsX4_isCharacter := goodIn_r _ [6, 7, 8, 5, 9] (by decide +kernel) (by decide +kernel)
set_option maxRecDepth 20000 in
theorem gX4_type_X4_isCharacter : GoodIn wsX4_type (va_wsS RX4 40 yX4_isCharacter wsX4_isCharacter) := goodIn_app (goodIn_of _ (by decide +kernel)) ggX4_type_X4_isCharacter
set_option maxRecDepth 20000 in
theorem ggX4_type_X4_fail : GoodIn wsX4_type wsX4_fail := goodIn_r _ [13, 1, 34, 35, 36, 37, 38, 39, 40, 41, 42, 43, 44, 45, 46, 47, 48, 49] (by decide +kernel) (by decide +kernel)
set_option maxRecDepth 20000 in
theorem gX4_type_X4_fail : GoodIn wsX4_type (wsV RX4 47 RX4 yX4_fail wsX4_fail) := goodIn_app (goodIn_of _ (by decide +kernel)) ggX4_type_X4_fail
set_option maxRecDepth 20000 in
theorem ggX4_type_X4_shiftAt : GoodIn wsX4_type wsX4_shiftAt := goodIn_r _ [17, 18, 19, 20, 21, 5, 22, 23, 34, 35, 36, 37, 38, 39, 40, 41, 42, 43, 44, 45, 46, 47, 48, 49] (by decide +kernel) (by decide +kernel)
set_option maxRecDepth 20000 in
theorem gX4_type_X4_shiftAt : GoodIn wsX4_type (wsV RX4 115 RX4 yX4_shiftAt wsX4_shiftAt) := goodIn_app (goodIn_of _ (by decide +kernel)) ggX4_type_X4_shiftAt
set_option maxRecDepth 20000 in
theorem ggX4_type_X4_put : GoodIn wsX4_type wsX4_put := goodIn_r _ [27, 18, 2, 34, 35, 36, 37, 38, 39, 40, 41, 42, 43, 44, 45, 46, 47, 48, 49] (by decide +kernel) (by decide +kernel)
set_option maxRecDepth 20000 in
theorem gX4_type_X4_put : GoodIn wsX4_type (wsV RX4 112 RX4 yX4_put wsX4_put) := goodIn_app (goodIn_of _ (by decide +kernel)) ggX4_type_X4_put
set_option maxRecDepth 20000 in
theorem ggX4_type_X4_codeOf : GoodIn wsX4_type wsX4_codeOf := goodIn_r _ [30, 31, 32, 5, 33] (by decide +kernel) (by decide +kernel)
set_option maxRecDepth 20000 in
theorem gX4_type_X4_codeOf : GoodIn wsX4_type (va_wsS RX4 43 yX4_codeOf wsX4_codeOf) := goodIn_app (goodIn_of _ (by decide +kernel)) ggX4_type_X4_codeOf
theorem dX4_type_0 : decode cX4_type 0 = .ok (.aload_n 0, 1) := by decide +kernel
theorem dX4_type_1 : decode cX4_type 1 = .ok (.iconst 0, 1) := by decide +kernel
theorem dX4_type_2 : decode cX4_type 2 = .ok (.putfield 29, 3) := by decide +kernel
theorem dX4_type_5 : decode cX4_type 5 = .ok (.iload_n 1, 1) := by decide +kernel
theorem dX4_type_6 : decode cX4_type 6 = .ok (.invokestatic 40, 3) := by decide +kernel
theorem dX4_type_9 : decode cX4_type 9 = .ok (.ifCond .ne 9, 3) := by decide +kernel
theorem dX4_type_12 : decode cX4_type 12 = .ok (.aload_n 0, 1) := by decide +kernel
theorem dX4_type_13 : decode cX4_type 13 = .ok (.iconst 1, 1) := by decide +kernel
theorem dX4_type_14 : decode cX4_type 14 = .ok (.invokevirtual 47, 3) := by decide +kernel
theorem dX4_type_17 : decode cX4_type 17 = .ok (.ireturn, 1) := by decide +kernel
theorem dX4_type_18 : decode cX4_type 18 = .ok (.iload_n 1, 1) := by decide +kernel
theorem dX4_type_19 : decode cX4_type 19 = .ok (.bipush 26, 2) := by decide +kernel
theorem dX4_type_21 : decode cX4_type 21 = .ok (.if_icmp .le 7, 3) := by decide +kernel
theorem dX4_type_24 : decode cX4_type 24 = .ok (.iconst 1, 1) := by decide +kernel
theorem dX4_type_25 : decode cX4_type 25 = .ok (.goto 4, 3) := by decide +kernel
theorem dX4_type_28 : decode cX4_type 28 = .ok (.iconst 0, 1) := by decide +kernel
theorem dX4_type_29 : decode cX4_type 29 = .ok (.istore_n 2, 1) := by decide +kernel
theorem dX4_type_30 : decode cX4_type 30 = .ok (.iload_n 1, 1) := by decide +kernel
theorem dX4_type_31 : decode cX4_type 31 = .ok (.bipush 53, 2) := by decide +kernel
theorem dX4_type_33 : decode cX4_type 33 = .ok (.if_icmp .ge 19, 3) := by decide +kernel
theorem dX4_type_36 : decode cX4_type 36 = .ok (.iload_n 2, 1) := by decide +kernel
theorem dX4_type_37 : decode cX4_type 37 = .ok (.aload_n 0, 1) := by decide +kernel
theorem dX4_type_38 : decode cX4_type 38 = .ok (.aload_n 0, 1) := by decide +kernel
theorem dX4_type_39 : decode cX4_type 39 = .ok (.getfield 109, 3) := by decide +kernel
theorem dX4_type_42 : decode cX4_type 42 = .ok (.invokevirtual 115, 3) := by decide +kernel
theorem dX4_type_45 : decode cX4_type 45 = .ok (.if_icmp .eq 7, 3) := by decide +kernel
theorem dX4_type_48 : decode cX4_type 48 = .ok (.iconst 1, 1) := by decide +kernel
theorem dX4_type_49 : decode cX4_type 49 = .ok (.goto 4, 3) := by decide +kernel
theorem dX4_type_52 : decode cX4_type 52 = .ok (.iconst 0, 1) := by decide +kernel
theorem dX4_type_53 : decode cX4_type 53 = .ok (.istore_n 3, 1) := by decide +kernel
theorem dX4_type_54 : decode cX4_type 54 = .ok (.aload_n 0, 1) := by decide +kernel
theorem dX4_type_55 : decode cX4_type 55 = .ok (.getfield 109, 3) := by decide +kernel
theorem dX4_type_58 : decode cX4_type 58 = .ok (.iload_n 3, 1) := by decide +kernel
theorem dX4_type_59 : decode cX4_type 59 = .ok (.ifCond .eq 7, 3) := by decide +kernel
theorem dX4_type_62 : decode cX4_type 62 = .ok (.iconst 2, 1) := by decide +kernel
theorem dX4_type_63 : decode cX4_type 63 = .ok (.goto 4, 3) := by decide +kernel
theorem dX4_type_66 : decode cX4_type 66 = .ok (.iconst 1, 1) := by decide +kernel
theorem dX4_type_67 : decode cX4_type 67 = .ok (.iadd, 1) := by decide +kernel
theorem dX4_type_68 : decode cX4_type 68 = .ok (.bipush 120, 2) := by decide +kernel
theorem dX4_type_70 : decode cX4_type 70 = .ok (.if_icmp .le 9, 3) := by decide +kernel
theorem dX4_type_73 : decode cX4_type 73 = .ok (.aload_n 0, 1) := by decide +kernel
theorem dX4_type_74 : decode cX4_type 74 = .ok (.iconst 2, 1) := by decide +kernel
theorem dX4_type_75 : decode cX4_type 75 = .ok (.invokevirtual 47, 3) := by decide +kernel
theorem dX4_type_78 : decode cX4_type 78 = .ok (.ireturn, 1) := by decide +kernel
theorem dX4_type_79 : decode cX4_type 79 = .ok (.iload_n 3, 1) := by decide +kernel
theorem dX4_type_80 : decode cX4_type 80 = .ok (.ifCond .eq 18, 3) := by decide +kernel
theorem dX4_type_83 : decode cX4_type 83 = .ok (.aload_n 0, 1) := by decide +kernel
theorem dX4_type_84 : decode cX4_type 84 = .ok (.iload_n 2, 1) := by decide +kernel
theorem dX4_type_85 : decode cX4_type 85 = .ok (.ifCond .eq 8, 3) := by decide +kernel
theorem dX4_type_88 : decode cX4_type 88 = .ok (.bipush 27, 2) := by decide +kernel
theorem dX4_type_90 : decode cX4_type 90 = .ok (.goto 5, 3) := by decide +kernel
theorem dX4_type_93 : decode cX4_type 93 = .ok (.bipush 31, 2) := by decide +kernel
theorem dX4_type_95 : decode cX4_type 95 = .ok (.invokevirtual 112, 3) := by decide +kernel
theorem dX4_type_98 : decode cX4_type 98 = .ok (.aload_n 0, 1) := by decide +kernel
theorem dX4_type_99 : decode cX4_type 99 = .ok (.iload_n 1, 1) := by decide +kernel
theorem dX4_type_100 : decode cX4_type 100 = .ok (.invokestatic 43, 3) := by decide +kernel
theorem dX4_type_103 : decode cX4_type 103 = .ok (.invokevirtual 112, 3) := by decide +kernel
theorem dX4_type_106 : decode cX4_type 106 = .ok (.iload_n 3, 1) := by decide +kernel
theorem dX4_type_107 : decode cX4_type 107 = .ok (.ifCond .eq 7, 3) := by decide +kernel
theorem dX4_type_110 : decode cX4_type 110 = .ok (.iconst 2, 1) := by decide +kernel
theorem dX4_type_111 : decode cX4_type 111 = .ok (.goto 4, 3) := by decide +kernel
theorem dX4_type_114 : decode cX4_type 114 = .ok (.iconst 1, 1) := by decide +kernel
theorem dX4_type_115 : decode cX4_type 115 = .ok (.ireturn, 1) := by decide +kernel
set_option maxRecDepth 20000 in
theorem ggX4_isPlace_X4_isIn : GoodIn wsX4_isPlace wsX4_isIn := goodIn_r _ [5] (by decide +kernel) (by decide +kernel)
set_option maxRecDepth 20000 in
theorem gX4_isPlace_X4_isIn : GoodIn wsX4_isPlace (va_wsS RX4 32 yX4_isIn wsX4_isIn) := goodIn_app (goodIn_of _ (by decide +kernel)) ggX4_isPlace_X4_isIn
theorem dX4_isPlace_0 : decode cX4_isPlace 0 = .ok (.iload_n 1, 1) := by decide +kernel
theorem dX4_isPlace_1 : decode cX4_isPlace 1 = .ok (.iconst 0, 1) := by decide +kernel
theorem dX4_isPlace_2 : decode cX4_isPlace 2 = .ok (.aload_n 0, 1) := by decide +kernel
theorem dX4_isPlace_3 : decode cX4_isPlace 3 = .ok (.getfield 109, 3) := by decide +kernel
theorem dX4_isPlace_6 : decode cX4_isPlace 6 = .ok (.iconst 1, 1) := by decide +kernel
theorem dX4_isPlace_7 : decode cX4_isPlace 7 = .ok (.isub, 1) := by decide +kernel
theorem dX4_isPlace_8 : decode cX4_isPlace 8 = .ok (.invokestatic 32, 3) := by decide +kernel
theorem dX4_isPlace_11 : decode cX4_isPlace 11 = .ok (.ireturn, 1) := by decide +kernel
set_option maxRecDepth 20000 in
theorem ggX4_rub_X4_isPlace : GoodIn wsX4_rub wsX4_isPlace := goodIn_r _ [7, 8, 9, 10, 6, 11, 16, 17, 18, 19, 20, 21, 22, 23, 24, 25, 26, 27, 28, 29, 30, 31] (by decide +kernel) (by decide +kernel)
set_option maxRecDepth 20000 in
theorem gX4_rub_X4_isPlace : GoodIn wsX4_rub (wsV RX4 118 RX4 yX4_isPlace wsX4_isPlace) := goodIn_app (goodIn_of _ (by decide +kernel)) ggX4_rub_X4_isPlace
set_option maxRecDepth 20000 in
theorem ggX4_rub_X4_fail : GoodIn wsX4_rub wsX4_fail := goodIn_r _ [15, 1, 16, 17, 18, 19, 20, 21, 22, 23, 24, 25, 26, 27, 28, 29, 30, 31] (by decide +kernel) (by decide +kernel)
set_option maxRecDepth 20000 in
theorem gX4_rub_X4_fail : GoodIn wsX4_rub (wsV RX4 47 RX4 yX4_fail wsX4_fail) := goodIn_app (goodIn_of _ (by decide +kernel)) ggX4_rub_X4_fail
theorem dX4_rub_0 : decode cX4_rub 0 = .ok (.aload_n 0, 1) := by decide +kernel
theorem dX4_rub_1 : decode cX4_rub 1 = .ok (.iconst 0, 1) := by decide +kernel
theorem dX4_rub_2 : decode cX4_rub 2 = .ok (.putfield 29, 3) := by decide +kernel
theorem dX4_rub_5 : decode cX4_rub 5 = .ok (.aload_n 0, 1) := by decide +kernel
theorem dX4_rub_6 : decode cX4_rub 6 = .ok (.iload_n 1, 1) := by decide +kernel
theorem dX4_rub_7 : decode cX4_rub 7 = .ok (.invokevirtual 118, 3) := by decide +kernel
theorem dX4_rub_10 : decode cX4_rub 10 = .ok (.ifCond .ne 9, 3) := by decide +kernel
theorem dX4_rub_13 : decode cX4_rub 13 = .ok (.aload_n 0, 1) := by decide +kernel
theorem dX4_rub_14 : decode cX4_rub 14 = .ok (.iconst 1, 1) := by decide +kernel
theorem dX4_rub_15 : decode cX4_rub 15 = .ok (.invokevirtual 47, 3) := by decide +kernel
theorem dX4_rub_18 : decode cX4_rub 18 = .ok (.ireturn, 1) := by decide +kernel
theorem dX4_rub_19 : decode cX4_rub 19 = .ok (.aload_n 0, 1) := by decide +kernel
theorem dX4_rub_20 : decode cX4_rub 20 = .ok (.getfield 26, 3) := by decide +kernel
theorem dX4_rub_23 : decode cX4_rub 23 = .ok (.iload_n 1, 1) := by decide +kernel
theorem dX4_rub_24 : decode cX4_rub 24 = .ok (.iaload, 1) := by decide +kernel
theorem dX4_rub_25 : decode cX4_rub 25 = .ok (.istore_n 2, 1) := by decide +kernel
theorem dX4_rub_26 : decode cX4_rub 26 = .ok (.aload_n 0, 1) := by decide +kernel
theorem dX4_rub_27 : decode cX4_rub 27 = .ok (.getfield 26, 3) := by decide +kernel
theorem dX4_rub_30 : decode cX4_rub 30 = .ok (.iload_n 1, 1) := by decide +kernel
theorem dX4_rub_31 : decode cX4_rub 31 = .ok (.bipush 31, 2) := by decide +kernel
theorem dX4_rub_33 : decode cX4_rub 33 = .ok (.iastore, 1) := by decide +kernel
theorem dX4_rub_34 : decode cX4_rub 34 = .ok (.iload_n 2, 1) := by decide +kernel
theorem dX4_rub_35 : decode cX4_rub 35 = .ok (.ireturn, 1) := by decide +kernel
set_option maxRecDepth 20000 in
theorem ggX4_run_X4_isIn : GoodIn wsX4_run wsX4_isIn := goodIn_r _ [12] (by decide +kernel) (by decide +kernel)
set_option maxRecDepth 20000 in
theorem gX4_run_X4_isIn : GoodIn wsX4_run (va_wsS RX4 32 yX4_isIn wsX4_isIn) := goodIn_app (goodIn_of _ (by decide +kernel)) ggX4_run_X4_isIn
set_option maxRecDepth 20000 in
theorem ggX4_run_X4_fail : GoodIn wsX4_run wsX4_fail := goodIn_r _ [16, 1, 63, 64, 65, 66, 67, 68, 69, 70, 71, 72, 73, 74, 75, 76, 77, 78] (by decide +kernel) (by decide +kernel)
set_option maxRecDepth 20000 in
theorem gX4_run_X4_fail : GoodIn wsX4_run (wsV RX4 47 RX4 yX4_fail wsX4_fail) := goodIn_app (goodIn_of _ (by decide +kernel)) ggX4_run_X4_fail
set_option maxRecDepth 20000 in
theorem ggX4_run_X4_come : GoodIn wsX4_run wsX4_come := goodIn_r _ [20, 21, 22, 23, 24, 25, 11, 26, 27, 28, 29, 30, 31, 32, 33, 34, 35, 36, 37, 38, 39, 40, 41, 42, 43, 44, 45, 46, 47, 48, 49, 50, 51, 52, 53, 54, 55, 56, 57, 58, 59, 60, 61, 62, 63, 64, 65, 66, 67, 68, 69, 70, 71, 72, 73, 74, 75, 76, 77, 78] (by decide +kernel) (by decide +kernel)
set_option maxRecDepth 20000 in
theorem gX4_run_X4_come : GoodIn wsX4_run (wsV RX4 106 RX4 yX4_come wsX4_come) := goodIn_app (goodIn_of _ (by decide +kernel)) ggX4_run_X4_come
theorem dX4_run_0 : decode cX4_run 0 = .ok (.aload_n 0, 1) := by decide +kernel
theorem dX4_run_1 : decode cX4_run 1 = .ok (.iconst 0, 1) := by decide +kernel
theorem dX4_run_2 : decode cX4_run 2 = .ok (.putfield 29, 3) := by decide +kernel
theorem dX4_run_5 : decode cX4_run 5 = .ok (.iload_n 1, 1) := by decide +kernel
theorem dX4_run_6 : decode cX4_run 6 = .ok (.iconst 1, 1) := by decide +kernel
theorem dX4_run_7 : decode cX4_run 7 = .ok (.bipush 120, 2) := by decide +kernel
theorem dX4_run_9 : decode cX4_run 9 = .ok (.invokestatic 32, 3) := by decide +kernel
theorem dX4_run_12 : decode cX4_run 12 = .ok (.ifCond .ne 9, 3) := by decide +kernel
theorem dX4_run_15 : decode cX4_run 15 = .ok (.aload_n 0, 1) := by decide +kernel
theorem dX4_run_16 : decode cX4_run 16 = .ok (.iconst 1, 1) := by decide +kernel
theorem dX4_run_17 : decode cX4_run 17 = .ok (.invokevirtual 47, 3) := by decide +kernel
theorem dX4_run_20 : decode cX4_run 20 = .ok (.ireturn, 1) := by decide +kernel
theorem dX4_run_21 : decode cX4_run 21 = .ok (.iload_n 1, 1) := by decide +kernel
theorem dX4_run_22 : decode cX4_run 22 = .ok (.aload_n 0, 1) := by decide +kernel
theorem dX4_run_23 : decode cX4_run 23 = .ok (.getfield 109, 3) := by decide +kernel
theorem dX4_run_26 : decode cX4_run 26 = .ok (.aload_n 0, 1) := by decide +kernel
theorem dX4_run_27 : decode cX4_run 27 = .ok (.getfield 121, 3) := by decide +kernel
theorem dX4_run_30 : decode cX4_run 30 = .ok (.isub, 1) := by decide +kernel
theorem dX4_run_31 : decode cX4_run 31 = .ok (.invokestatic 124, 3) := by decide +kernel
theorem dX4_run_34 : decode cX4_run 34 = .ok (.istore_n 2, 1) := by decide +kernel
theorem dX4_run_35 : decode cX4_run 35 = .ok (.iconst 0, 1) := by decide +kernel
theorem dX4_run_36 : decode cX4_run 36 = .ok (.istore_n 3, 1) := by decide +kernel
theorem dX4_run_37 : decode cX4_run 37 = .ok (.iload_n 3, 1) := by decide +kernel
theorem dX4_run_38 : decode cX4_run 38 = .ok (.iload_n 2, 1) := by decide +kernel
theorem dX4_run_39 : decode cX4_run 39 = .ok (.if_icmp .ge 25, 3) := by decide +kernel
theorem dX4_run_42 : decode cX4_run 42 = .ok (.aload_n 0, 1) := by decide +kernel
theorem dX4_run_43 : decode cX4_run 43 = .ok (.aload_n 0, 1) := by decide +kernel
theorem dX4_run_44 : decode cX4_run 44 = .ok (.getfield 26, 3) := by decide +kernel
theorem dX4_run_47 : decode cX4_run 47 = .ok (.aload_n 0, 1) := by decide +kernel
theorem dX4_run_48 : decode cX4_run 48 = .ok (.getfield 121, 3) := by decide +kernel
theorem dX4_run_51 : decode cX4_run 51 = .ok (.iload_n 3, 1) := by decide +kernel
theorem dX4_run_52 : decode cX4_run 52 = .ok (.iadd, 1) := by decide +kernel
theorem dX4_run_53 : decode cX4_run 53 = .ok (.iaload, 1) := by decide +kernel
theorem dX4_run_54 : decode cX4_run 54 = .ok (.invokevirtual 106, 3) := by decide +kernel
theorem dX4_run_57 : decode cX4_run 57 = .ok (.pop, 1) := by decide +kernel
theorem dX4_run_58 : decode cX4_run 58 = .ok (.iinc 3 1, 3) := by decide +kernel
theorem dX4_run_61 : decode cX4_run 61 = .ok (.goto (-24), 3) := by decide +kernel
theorem dX4_run_64 : decode cX4_run 64 = .ok (.aload_n 0, 1) := by decide +kernel
theorem dX4_run_65 : decode cX4_run 65 = .ok (.dup, 1) := by decide +kernel
theorem dX4_run_66 : decode cX4_run 66 = .ok (.getfield 121, 3) := by decide +kernel
theorem dX4_run_69 : decode cX4_run 69 = .ok (.iload_n 2, 1) := by decide +kernel
theorem dX4_run_70 : decode cX4_run 70 = .ok (.iadd, 1) := by decide +kernel
theorem dX4_run_71 : decode cX4_run 71 = .ok (.putfield 121, 3) := by decide +kernel
theorem dX4_run_74 : decode cX4_run 74 = .ok (.iload_n 2, 1) := by decide +kernel
theorem dX4_run_75 : decode cX4_run 75 = .ok (.ireturn, 1) := by decide +kernel
set_option maxRecDepth 20000 in
theorem ggX4_wind_X4_isIn : GoodIn wsX4_wind wsX4_isIn := goodIn_r _ [7] (by decide +kernel) (by decide +kernel)
set_option maxRecDepth 20000 in
theorem gX4_wind_X4_isIn : GoodIn wsX4_wind (va_wsS RX4 32 yX4_isIn wsX4_isIn) := goodIn_app (goodIn_of _ (by decide +kernel)) ggX4_wind_X4_isIn
set_option maxRecDepth 20000 in
theorem ggX4_wind_X4_fail : GoodIn wsX4_wind wsX4_fail := goodIn_r _ [11, 1, 12, 13, 14, 15, 16, 17, 18, 19, 20, 21, 22, 23, 24, 25, 26, 27] (by decide +kernel) (by decide +kernel)
set_option maxRecDepth 20000 in
theorem gX4_wind_X4_fail : GoodIn wsX4_wind (wsV RX4 47 RX4 yX4_fail wsX4_fail) := goodIn_app (goodIn_of _ (by decide +kernel)) ggX4_wind_X4_fail
theorem dX4_wind_0 : decode cX4_wind 0 = .ok (.aload_n 0, 1) := by decide +kernel
theorem dX4_wind_1 : decode cX4_wind 1 = .ok (.iconst 0, 1) := by decide +kernel
theorem dX4_wind_2 : decode cX4_wind 2 = .ok (.putfield 29, 3) := by decide +kernel
theorem dX4_wind_5 : decode cX4_wind 5 = .ok (.iload_n 1, 1) := by decide +kernel
theorem dX4_wind_6 : decode cX4_wind 6 = .ok (.iconst 0, 1) := by decide +kernel
theorem dX4_wind_7 : decode cX4_wind 7 = .ok (.aload_n 0, 1) := by decide +kernel
theorem dX4_wind_8 : decode cX4_wind 8 = .ok (.getfield 109, 3) := by decide +kernel
theorem dX4_wind_11 : decode cX4_wind 11 = .ok (.invokestatic 32, 3) := by decide +kernel
theorem dX4_wind_14 : decode cX4_wind 14 = .ok (.ifCond .ne 9, 3) := by decide +kernel
theorem dX4_wind_17 : decode cX4_wind 17 = .ok (.aload_n 0, 1) := by decide +kernel
theorem dX4_wind_18 : decode cX4_wind 18 = .ok (.iconst 1, 1) := by decide +kernel
theorem dX4_wind_19 : decode cX4_wind 19 = .ok (.invokevirtual 47, 3) := by decide +kernel
theorem dX4_wind_22 : decode cX4_wind 22 = .ok (.ireturn, 1) := by decide +kernel
theorem dX4_wind_23 : decode cX4_wind 23 = .ok (.aload_n 0, 1) := by decide +kernel
theorem dX4_wind_24 : decode cX4_wind 24 = .ok (.getfield 121, 3) := by decide +kernel
theorem dX4_wind_27 : decode cX4_wind 27 = .ok (.istore_n 2, 1) := by decide +kernel
theorem dX4_wind_28 : decode cX4_wind 28 = .ok (.aload_n 0, 1) := by decide +kernel
theorem dX4_wind_29 : decode cX4_wind 29 = .ok (.iload_n 1, 1) := by decide +kernel
theorem dX4_wind_30 : decode cX4_wind 30 = .ok (.putfield 121, 3) := by decide +kernel
theorem dX4_wind_33 : decode cX4_wind 33 = .ok (.iload_n 2, 1) := by decide +kernel
theorem dX4_wind_34 : decode cX4_wind 34 = .ok (.ireturn, 1) := by decide +kernel
set_option maxRecDepth 20000 in
theorem ggX4_tape_X4_isPlace : GoodIn wsX4_tape wsX4_isPlace := goodIn_r _ [7, 8, 9, 10, 6, 11, 16, 17, 18, 19, 20, 21, 22, 23, 24, 25, 26, 27, 28, 29, 30, 31] (by decide +kernel) (by decide +kernel)
set_option maxRecDepth 20000 in
theorem gX4_tape_X4_isPlace : GoodIn wsX4_tape (wsV RX4 118 RX4 yX4_isPlace wsX4_isPlace) := goodIn_app (goodIn_of _ (by decide +kernel)) ggX4_tape_X4_isPlace
set_option maxRecDepth 20000 in
theorem ggX4_tape_X4_fail : GoodIn wsX4_tape wsX4_fail := goodIn_r _ [15, 1, 16, 17, 18, 19, 20, 21, 22, 23, 24, 25, 26, 27, 28, 29, 30, 31] (by decide +kernel) (by decide +kernel)
set_option maxRecDepth 20000 in
theorem gX4_tape_X4_fail : GoodIn wsX4_tape (wsV RX4 47 RX4 yX4_fail wsX4_fail) := goodIn_app (goodIn_of _ (by decide +kernel)) ggX4_tape_X4_fail
theorem dX4_tape_0 : decode cX4_tape 0 = .ok (.aload_n 0, 1) := by decide +kernel
theorem dX4_tape_1 : decode cX4_tape 1 = .ok (.iconst 0, 1) := by decide +kernel
theorem dX4_tape_2 : decode cX4_tape 2 = .ok (.putfield 29, 3) := by decide +kernel
theorem dX4_tape_5 : decode cX4_tape 5 = .ok (.aload_n 0, 1) := by decide +kernel
theorem dX4_tape_6 : decode cX4_tape 6 = .ok (.iload_n 1, 1) := by decide +kernel
theorem dX4_tape_7 : decode cX4_tape 7 = .ok (.invokevirtual 118, 3) := by decide +kernel
theorem dX4_tape_10 : decode cX4_tape 10 = .ok (.ifCond .eq 12, 3) := by decide +kernel
theorem dX4_tape_13 : decode cX4_tape 13 = .ok (.aload_n 0, 1) := by decide +kernel
theorem dX4_tape_14 : decode cX4_tape 14 = .ok (.getfield 26, 3) := by decide +kernel
theorem dX4_tape_17 : decode cX4_tape 17 = .ok (.iload_n 1, 1) := by decide +kernel
theorem dX4_tape_18 : decode cX4_tape 18 = .ok (.iaload, 1) := by decide +kernel
theorem dX4_tape_19 : decode cX4_tape 19 = .ok (.goto 8, 3) := by decide +kernel
theorem dX4_tape_22 : decode cX4_tape 22 = .ok (.aload_n 0, 1) := by decide +kernel
theorem dX4_tape_23 : decode cX4_tape 23 = .ok (.iconst 1, 1) := by decide +kernel
theorem dX4_tape_24 : decode cX4_tape 24 = .ok (.invokevirtual 47, 3) := by decide +kernel
theorem dX4_tape_27 : decode cX4_tape 27 = .ok (.ireturn, 1) := by decide +kernel
set_option maxRecDepth 20000 in
theorem ggX4_isLine_X4_isIn : GoodIn wsX4_isLine wsX4_isIn := goodIn_r _ [5] (by decide +kernel) (by decide +kernel)
set_option maxRecDepth 20000 in
theorem gX4_isLine_X4_isIn : GoodIn wsX4_isLine (va_wsS RX4 32 yX4_isIn wsX4_isIn) := goodIn_app (goodIn_of _ (by decide +kernel)) ggX4_isLine_X4_isIn
theorem dX4_isLine_0 : decode cX4_isLine 0 = .ok (.iload_n 1, 1) := by decide +kernel
theorem dX4_isLine_1 : decode cX4_isLine 1 = .ok (.iconst 0, 1) := by decide +kernel
theorem dX4_isLine_2 : decode cX4_isLine 2 = .ok (.aload_n 0, 1) := by decide +kernel
theorem dX4_isLine_3 : decode cX4_isLine 3 = .ok (.getfield 7, 3) := by decide +kernel
theorem dX4_isLine_6 : decode cX4_isLine 6 = .ok (.iconst 1, 1) := by decide +kernel
theorem dX4_isLine_7 : decode cX4_isLine 7 = .ok (.isub, 1) := by decide +kernel
theorem dX4_isLine_8 : decode cX4_isLine 8 = .ok (.invokestatic 32, 3) := by decide +kernel
theorem dX4_isLine_11 : decode cX4_isLine 11 = .ok (.ireturn, 1) := by decide +kernel
set_option maxRecDepth 20000 in
theorem ggX4_page_X4_isLine : GoodIn wsX4_page wsX4_isLine := goodIn_r _ [8, 9, 10, 11, 7, 12, 17, 18, 19, 20, 21, 22, 23, 24, 25, 26, 27, 28, 29, 30, 31, 32] (by decide +kernel) (by decide +kernel)
set_option maxRecDepth 20000 in
theorem gX4_page_X4_isLine : GoodIn wsX4_page (wsV RX4 129 RX4 yX4_isLine wsX4_isLine) := goodIn_app (goodIn_of _ (by decide +kernel)) ggX4_page_X4_isLine
set_option maxRecDepth 20000 in
theorem ggX4_page_X4_isIn : GoodIn wsX4_page wsX4_isIn := goodIn_r _ [12] (by decide +kernel) (by decide +kernel)
set_option maxRecDepth 20000 in
theorem gX4_page_X4_isIn : GoodIn wsX4_page (va_wsS RX4 32 yX4_isIn wsX4_isIn) := goodIn_app (goodIn_of _ (by decide +kernel)) ggX4_page_X4_isIn
set_option maxRecDepth 20000 in
theorem ggX4_page_X4_fail : GoodIn wsX4_page wsX4_fail := goodIn_r _ [16, 1, 17, 18, 19, 20, 21, 22, 23, 24, 25, 26, 27, 28, 29, 30, 31, 32] (by decide +kernel) (by decide +kernel)
set_option maxRecDepth 20000 in
theorem gX4_page_X4_fail : GoodIn wsX4_page (wsV RX4 47 RX4 yX4_fail wsX4_fail) := goodIn_app (goodIn_of _ (by decide +kernel)) ggX4_page_X4_fail
theorem dX4_page_0 : decode cX4_page 0 = .ok (.aload_n 0, 1) := by decide +kernel
theorem dX4_page_1 : decode cX4_page 1 = .ok (.iconst 0, 1) := by decide +kernel
theorem dX4_page_2 : decode cX4_page 2 = .ok (.putfield 29, 3) := by decide +kernel
theorem dX4_page_5 : decode cX4_page 5 = .ok (.aload_n 0, 1) := by decide +kernel
theorem dX4_page_6 : decode cX4_page 6 = .ok (.iload_n 1, 1) := by decide +kernel
theorem dX4_page_7 : decode cX4_page 7 = .ok (.invokevirtual 129, 3) := by decide +kernel
theorem dX4_page_10 : decode cX4_page 10 = .ok (.ifCond .eq 33, 3) := by decide +kernel
theorem dX4_page_13 : decode cX4_page 13 = .ok (.iload_n 2, 1) := by decide +kernel
theorem dX4_page_14 : decode cX4_page 14 = .ok (.iconst 0, 1) := by decide +kernel
theorem dX4_page_15 : decode cX4_page 15 = .ok (.aload_n 0, 1) := by decide +kernel
theorem dX4_page_16 : decode cX4_page 16 = .ok (.getfield 13, 3) := by decide +kernel
theorem dX4_page_19 : decode cX4_page 19 = .ok (.iload_n 1, 1) := by decide +kernel
theorem dX4_page_20 : decode cX4_page 20 = .ok (.iaload, 1) := by decide +kernel
theorem dX4_page_21 : decode cX4_page 21 = .ok (.iconst 1, 1) := by decide +kernel
theorem dX4_page_22 : decode cX4_page 22 = .ok (.isub, 1) := by decide +kernel
theorem dX4_page_23 : decode cX4_page 23 = .ok (.invokestatic 32, 3) := by decide +kernel
theorem dX4_page_26 : decode cX4_page 26 = .ok (.ifCond .eq 17, 3) := by decide +kernel
theorem dX4_page_29 : decode cX4_page 29 = .ok (.aload_n 0, 1) := by decide +kernel
theorem dX4_page_30 : decode cX4_page 30 = .ok (.getfield 17, 3) := by decide +kernel
theorem dX4_page_33 : decode cX4_page 33 = .ok (.bipush 40, 2) := by decide +kernel
theorem dX4_page_35 : decode cX4_page 35 = .ok (.iload_n 1, 1) := by decide +kernel
theorem dX4_page_36 : decode cX4_page 36 = .ok (.imul, 1) := by decide +kernel
theorem dX4_page_37 : decode cX4_page 37 = .ok (.iload_n 2, 1) := by decide +kernel
theorem dX4_page_38 : decode cX4_page 38 = .ok (.iadd, 1) := by decide +kernel
theorem dX4_page_39 : decode cX4_page 39 = .ok (.iaload, 1) := by decide +kernel
theorem dX4_page_40 : decode cX4_page 40 = .ok (.goto 8, 3) := by decide +kernel
theorem dX4_page_43 : decode cX4_page 43 = .ok (.aload_n 0, 1) := by decide +kernel
theorem dX4_page_44 : decode cX4_page 44 = .ok (.iconst 1, 1) := by decide +kernel
theorem dX4_page_45 : decode cX4_page 45 = .ok (.invokevirtual 47, 3) := by decide +kernel
theorem dX4_page_48 : decode cX4_page 48 = .ok (.ireturn, 1) := by decide +kernel
set_option maxRecDepth 20000 in
theorem ggX4_length_X4_isLine : GoodIn wsX4_length wsX4_isLine := goodIn_r _ [7, 8, 9, 10, 6, 11, 16, 17, 18, 19, 20, 21, 22, 23, 24, 25, 26, 27, 28, 29, 30, 31] (by decide +kernel) (by decide +kernel)
set_option maxRecDepth 20000 in
theorem gX4_length_X4_isLine : GoodIn wsX4_length (wsV RX4 129 RX4 yX4_isLine wsX4_isLine) := goodIn_app (goodIn_of _ (by decide +kernel)) ggX4_length_X4_isLine
set_option maxRecDepth 20000 in
theorem ggX4_length_X4_fail : GoodIn wsX4_length wsX4_fail := goodIn_r _ [15, 1, 16, 17, 18, 19, 20, 21, 22, 23, 24, 25, 26, 27, 28, 29, 30, 31] (by decide +kernel) (by decide +kernel)
set_option maxRecDepth 20000 in
theorem gX4_length_X4_fail : GoodIn wsX4_length (wsV RX4 47 RX4 yX4_fail wsX4_fail) := goodIn_app (goodIn_of _ (by decide +kernel)) ggX4_length_X4_fail
theorem dX4_length_0 : decode cX4_length 0 = .ok (.aload_n 0, 1) := by decide +kernel
theorem dX4_length_1 : decode cX4_length 1 = .ok (.iconst 0, 1) := by decide +kernel
theorem dX4_length_2 : decode cX4_length 2 = .ok (.putfield 29, 3) := by decide +kernel
theorem dX4_length_5 : decode cX4_length 5 = .ok (.aload_n 0, 1) := by decide +kernel
theorem dX4_length_6 : decode cX4_length 6 = .ok (.iload_n 1, 1) := by decide +kernel
theorem dX4_length_7 : decode cX4_length 7 = .ok (.invokevirtual 129, 3) := by decide +kernel
theorem dX4_length_10 : decode cX4_length 10 = .ok (.ifCond .eq 12, 3) := by decide +kernel
theorem dX4_length_13 : decode cX4_length 13 = .ok (.aload_n 0, 1) := by decide +kernel
theorem dX4_length_14 : decode cX4_length 14 = .ok (.getfield 13, 3) := by decide +kernel
theorem dX4_length_17 : decode cX4_length 17 = .ok (.iload_n 1, 1) := by decide +kernel
theorem dX4_length_18 : decode cX4_length 18 = .ok (.iaload, 1) := by decide +kernel
theorem dX4_length_19 : decode cX4_length 19 = .ok (.goto 8, 3) := by decide +kernel
theorem dX4_length_22 : decode cX4_length 22 = .ok (.aload_n 0, 1) := by decide +kernel
theorem dX4_length_23 : decode cX4_length 23 = .ok (.iconst 1, 1) := by decide +kernel
theorem dX4_length_24 : decode cX4_length 24 = .ok (.invokevirtual 47, 3) := by decide +kernel
theorem dX4_length_27 : decode cX4_length 27 = .ok (.ireturn, 1) := by decide +kernel
theorem dX4_counted_0 : decode cX4_counted 0 = .ok (.iload_n 1, 1) := by decide +kernel
theorem dX4_counted_1 : decode cX4_counted 1 = .ok (.tableswitch 145 0 9 #[55, 60, 89, 102, 107, 112, 117, 122, 127, 132], 55) := by decide +kernel
theorem dX4_counted_56 : decode cX4_counted 56 = .ok (.aload_n 0, 1) := by decide +kernel
theorem dX4_counted_57 : decode cX4_counted 57 = .ok (.getfield 7, 3) := by decide +kernel
theorem dX4_counted_60 : decode cX4_counted 60 = .ok (.ireturn, 1) := by decide +kernel
theorem dX4_counted_61 : decode cX4_counted 61 = .ok (.iconst 0, 1) := by decide +kernel
theorem dX4_counted_62 : decode cX4_counted 62 = .ok (.istore_n 2, 1) := by decide +kernel
theorem dX4_counted_63 : decode cX4_counted 63 = .ok (.iconst 0, 1) := by decide +kernel
theorem dX4_counted_64 : decode cX4_counted 64 = .ok (.istore_n 3, 1) := by decide +kernel
theorem dX4_counted_65 : decode cX4_counted 65 = .ok (.iload_n 3, 1) := by decide +kernel
theorem dX4_counted_66 : decode cX4_counted 66 = .ok (.aload_n 0, 1) := by decide +kernel
theorem dX4_counted_67 : decode cX4_counted 67 = .ok (.getfield 7, 3) := by decide +kernel
theorem dX4_counted_70 : decode cX4_counted 70 = .ok (.if_icmp .ge 18, 3) := by decide +kernel
theorem dX4_counted_73 : decode cX4_counted 73 = .ok (.iload_n 2, 1) := by decide +kernel
theorem dX4_counted_74 : decode cX4_counted 74 = .ok (.aload_n 0, 1) := by decide +kernel
theorem dX4_counted_75 : decode cX4_counted 75 = .ok (.getfield 13, 3) := by decide +kernel
theorem dX4_counted_78 : decode cX4_counted 78 = .ok (.iload_n 3, 1) := by decide +kernel
theorem dX4_counted_79 : decode cX4_counted 79 = .ok (.iaload, 1) := by decide +kernel
theorem dX4_counted_80 : decode cX4_counted 80 = .ok (.iadd, 1) := by decide +kernel
theorem dX4_counted_81 : decode cX4_counted 81 = .ok (.istore_n 2, 1) := by decide +kernel
theorem dX4_counted_82 : decode cX4_counted 82 = .ok (.iinc 3 1, 3) := by decide +kernel
theorem dX4_counted_85 : decode cX4_counted 85 = .ok (.goto (-20), 3) := by decide +kernel
theorem dX4_counted_88 : decode cX4_counted 88 = .ok (.iload_n 2, 1) := by decide +kernel
theorem dX4_counted_89 : decode cX4_counted 89 = .ok (.ireturn, 1) := by decide +kernel
theorem dX4_counted_90 : decode cX4_counted 90 = .ok (.aload_n 0, 1) := by decide +kernel
theorem dX4_counted_91 : decode cX4_counted 91 = .ok (.getfield 60, 3) := by decide +kernel
theorem dX4_counted_94 : decode cX4_counted 94 = .ok (.ifCond .eq 7, 3) := by decide +kernel
theorem dX4_counted_97 : decode cX4_counted 97 = .ok (.iconst 1, 1) := by decide +kernel
theorem dX4_counted_98 : decode cX4_counted 98 = .ok (.goto 4, 3) := by decide +kernel
theorem dX4_counted_101 : decode cX4_counted 101 = .ok (.iconst 0, 1) := by decide +kernel
theorem dX4_counted_102 : decode cX4_counted 102 = .ok (.ireturn, 1) := by decide +kernel
theorem dX4_counted_103 : decode cX4_counted 103 = .ok (.aload_n 0, 1) := by decide +kernel
theorem dX4_counted_104 : decode cX4_counted 104 = .ok (.getfield 64, 3) := by decide +kernel
theorem dX4_counted_107 : decode cX4_counted 107 = .ok (.ireturn, 1) := by decide +kernel
theorem dX4_counted_108 : decode cX4_counted 108 = .ok (.aload_n 0, 1) := by decide +kernel
theorem dX4_counted_109 : decode cX4_counted 109 = .ok (.getfield 109, 3) := by decide +kernel
theorem dX4_counted_112 : decode cX4_counted 112 = .ok (.ireturn, 1) := by decide +kernel
theorem dX4_counted_113 : decode cX4_counted 113 = .ok (.aload_n 0, 1) := by decide +kernel
theorem dX4_counted_114 : decode cX4_counted 114 = .ok (.getfield 121, 3) := by decide +kernel
theorem dX4_counted_117 : decode cX4_counted 117 = .ok (.ireturn, 1) := by decide +kernel
theorem dX4_counted_118 : decode cX4_counted 118 = .ok (.aload_n 0, 1) := by decide +kernel
theorem dX4_counted_119 : decode cX4_counted 119 = .ok (.getfield 93, 3) := by decide +kernel
theorem dX4_counted_122 : decode cX4_counted 122 = .ok (.ireturn, 1) := by decide +kernel
theorem dX4_counted_123 : decode cX4_counted 123 = .ok (.aload_n 0, 1) := by decide +kernel
theorem dX4_counted_124 : decode cX4_counted 124 = .ok (.getfield 100, 3) := by decide +kernel
theorem dX4_counted_127 : decode cX4_counted 127 = .ok (.ireturn, 1) := by decide +kernel
theorem dX4_counted_128 : decode cX4_counted 128 = .ok (.aload_n 0, 1) := by decide +kernel
theorem dX4_counted_129 : decode cX4_counted 129 = .ok (.getfield 70, 3) := by decide +kernel
theorem dX4_counted_132 : decode cX4_counted 132 = .ok (.ireturn, 1) := by decide +kernel
theorem dX4_counted_133 : decode cX4_counted 133 = .ok (.aload_n 0, 1) := by decide +kernel
theorem dX4_counted_134 : decode cX4_counted 134 = .ok (.getfield 67, 3) := by decide +kernel
theorem dX4_counted_137 : decode cX4_counted 137 = .ok (.ifCond .eq 7, 3) := by decide +kernel
theorem dX4_counted_140 : decode cX4_counted 140 = .ok (.iconst 1, 1) := by decide +kernel
theorem dX4_counted_141 : decode cX4_counted 141 = .ok (.goto 4, 3) := by decide +kernel
theorem dX4_counted_144 : decode cX4_counted 144 = .ok (.iconst 0, 1) := by decide +kernel
theorem dX4_counted_145 : decode cX4_counted 145 = .ok (.ireturn, 1) := by decide +kernel
theorem dX4_counted_146 : decode cX4_counted 146 = .ok (.aload_n 0, 1) := by decide +kernel
theorem dX4_counted_147 : decode cX4_counted 147 = .ok (.getfield 82, 3) := by decide +kernel
theorem dX4_counted_150 : decode cX4_counted 150 = .ok (.ireturn, 1) := by decide +kernel
set_option maxRecDepth 20000 in
theorem ggX4_count_X4_isIn : GoodIn wsX4_count wsX4_isIn := goodIn_r _ [5] (by decide +kernel) (by decide +kernel)
set_option maxRecDepth 20000 in
theorem gX4_count_X4_isIn : GoodIn wsX4_count (va_wsS RX4 32 yX4_isIn wsX4_isIn) := goodIn_app (goodIn_of _ (by decide +kernel)) ggX4_count_X4_isIn
set_option maxRecDepth 20000 in
theorem ggX4_count_X4_counted : GoodIn wsX4_count wsX4_counted := goodIn_r _ [9, 10, 11, 12, 13, 14, 15, 16, 17, 18, 19, 20, 25, 26, 27, 28, 29, 30, 31, 32, 33, 34, 35, 36, 37, 38, 39, 40] (by decide +kernel) (by decide +kernel)
set_option maxRecDepth 20000 in
theorem gX4_count_X4_counted : GoodIn wsX4_count (wsV RX4 132 RX4 yX4_counted wsX4_counted) := goodIn_app (goodIn_of _ (by decide +kernel)) ggX4_count_X4_counted
set_option maxRecDepth 20000 in
theorem ggX4_count_X4_fail : GoodIn wsX4_count wsX4_fail := goodIn_r _ [24, 1, 25, 26, 27, 28, 29, 30, 31, 32, 33, 34, 35, 36, 37, 38, 39, 40] (by decide +kernel) (by decide +kernel)
set_option maxRecDepth 20000 in
theorem gX4_count_X4_fail : GoodIn wsX4_count (wsV RX4 47 RX4 yX4_fail wsX4_fail) := goodIn_app (goodIn_of _ (by decide +kernel)) ggX4_count_X4_fail
theorem dX4_count_0 : decode cX4_count 0 = .ok (.aload_n 0, 1) := by decide +kernel
theorem dX4_count_1 : decode cX4_count 1 = .ok (.iconst 0, 1) := by decide +kernel
theorem dX4_count_2 : decode cX4_count 2 = .ok (.putfield 29, 3) := by decide +kernel
theorem dX4_count_5 : decode cX4_count 5 = .ok (.iload_n 1, 1) := by decide +kernel
theorem dX4_count_6 : decode cX4_count 6 = .ok (.iconst 0, 1) := by decide +kernel
theorem dX4_count_7 : decode cX4_count 7 = .ok (.bipush 10, 2) := by decide +kernel
theorem dX4_count_9 : decode cX4_count 9 = .ok (.invokestatic 32, 3) := by decide +kernel
theorem dX4_count_12 : decode cX4_count 12 = .ok (.ifCond .eq 11, 3) := by decide +kernel
theorem dX4_count_15 : decode cX4_count 15 = .ok (.aload_n 0, 1) := by decide +kernel
theorem dX4_count_16 : decode cX4_count 16 = .ok (.iload_n 1, 1) := by decide +kernel
theorem dX4_count_17 : decode cX4_count 17 = .ok (.invokevirtual 132, 3) := by decide +kernel
theorem dX4_count_20 : decode cX4_count 20 = .ok (.goto 8, 3) := by decide +kernel
theorem dX4_count_23 : decode cX4_count 23 = .ok (.aload_n 0, 1) := by decide +kernel
theorem dX4_count_24 : decode cX4_count 24 = .ok (.iconst 1, 1) := by decide +kernel
theorem dX4_count_25 : decode cX4_count 25 = .ok (.invokevirtual 47, 3) := by decide +kernel
theorem dX4_count_28 : decode cX4_count 28 = .ok (.ireturn, 1) := by decide +kernel
set_option maxRecDepth 20000 in
theorem ggX4_would_X4_isCode : GoodIn wsX4_would wsX4_isCode := goodIn_r _ [6, 7, 8, 5, 9] (by decide +kernel) (by decide +kernel)
set_option maxRecDepth 20000 in
theorem gX4_would_X4_isCode : GoodIn wsX4_would (va_wsS RX4 50 yX4_isCode wsX4_isCode) := goodIn_app (goodIn_of _ (by decide +kernel)) ggX4_would_X4_isCode
set_option maxRecDepth 20000 in
theorem ggX4_would_X4_read : GoodIn wsX4_would wsX4_read := goodIn_r _ [13, 14, 15, 16, 21, 22, 23, 24, 25, 26, 27, 28, 29, 30, 31, 32, 33, 34, 35, 36] (by decide +kernel) (by decide +kernel)
set_option maxRecDepth 20000 in
theorem gX4_would_X4_read : GoodIn wsX4_would (wsV RX4 96 RX4 yX4_read wsX4_read) := goodIn_app (goodIn_of _ (by decide +kernel)) ggX4_would_X4_read
set_option maxRecDepth 20000 in
theorem ggX4_would_X4_fail : GoodIn wsX4_would wsX4_fail := goodIn_r _ [20, 1, 21, 22, 23, 24, 25, 26, 27, 28, 29, 30, 31, 32, 33, 34, 35, 36] (by decide +kernel) (by decide +kernel)
set_option maxRecDepth 20000 in
theorem gX4_would_X4_fail : GoodIn wsX4_would (wsV RX4 47 RX4 yX4_fail wsX4_fail) := goodIn_app (goodIn_of _ (by decide +kernel)) ggX4_would_X4_fail
theorem dX4_would_0 : decode cX4_would 0 = .ok (.aload_n 0, 1) := by decide +kernel
theorem dX4_would_1 : decode cX4_would 1 = .ok (.iconst 0, 1) := by decide +kernel
theorem dX4_would_2 : decode cX4_would 2 = .ok (.putfield 29, 3) := by decide +kernel
theorem dX4_would_5 : decode cX4_would 5 = .ok (.iload_n 1, 1) := by decide +kernel
theorem dX4_would_6 : decode cX4_would 6 = .ok (.invokestatic 50, 3) := by decide +kernel
theorem dX4_would_9 : decode cX4_would 9 = .ok (.ifCond .eq 15, 3) := by decide +kernel
theorem dX4_would_12 : decode cX4_would 12 = .ok (.aload_n 0, 1) := by decide +kernel
theorem dX4_would_13 : decode cX4_would 13 = .ok (.iload_n 1, 1) := by decide +kernel
theorem dX4_would_14 : decode cX4_would 14 = .ok (.aload_n 0, 1) := by decide +kernel
theorem dX4_would_15 : decode cX4_would 15 = .ok (.getfield 93, 3) := by decide +kernel
theorem dX4_would_18 : decode cX4_would 18 = .ok (.invokevirtual 96, 3) := by decide +kernel
theorem dX4_would_21 : decode cX4_would 21 = .ok (.goto 8, 3) := by decide +kernel
theorem dX4_would_24 : decode cX4_would 24 = .ok (.aload_n 0, 1) := by decide +kernel
theorem dX4_would_25 : decode cX4_would 25 = .ok (.iconst 1, 1) := by decide +kernel
theorem dX4_would_26 : decode cX4_would 26 = .ok (.invokevirtual 47, 3) := by decide +kernel
theorem dX4_would_29 : decode cX4_would 29 = .ok (.ireturn, 1) := by decide +kernel
set_option maxRecDepth 20000 in
theorem ggX4_wrong_X4_read : GoodIn wsX4_wrong wsX4_read := goodIn_r _ [10, 11, 12, 13, 14, 15, 16, 17, 18, 19, 20, 21, 22, 23, 24, 25, 26, 27, 28, 29] (by decide +kernel) (by decide +kernel)
set_option maxRecDepth 20000 in
theorem gX4_wrong_X4_read : GoodIn wsX4_wrong (wsV RX4 96 RX4 yX4_read wsX4_read) := goodIn_app (goodIn_of _ (by decide +kernel)) ggX4_wrong_X4_read
theorem dX4_wrong_0 : decode cX4_wrong 0 = .ok (.aload_n 0, 1) := by decide +kernel
theorem dX4_wrong_1 : decode cX4_wrong 1 = .ok (.iconst 0, 1) := by decide +kernel
theorem dX4_wrong_2 : decode cX4_wrong 2 = .ok (.putfield 29, 3) := by decide +kernel
theorem dX4_wrong_5 : decode cX4_wrong 5 = .ok (.iconst 0, 1) := by decide +kernel
theorem dX4_wrong_6 : decode cX4_wrong 6 = .ok (.istore_n 1, 1) := by decide +kernel
theorem dX4_wrong_7 : decode cX4_wrong 7 = .ok (.aload_n 0, 1) := by decide +kernel
theorem dX4_wrong_8 : decode cX4_wrong 8 = .ok (.getfield 121, 3) := by decide +kernel
theorem dX4_wrong_11 : decode cX4_wrong 11 = .ok (.istore_n 2, 1) := by decide +kernel
theorem dX4_wrong_12 : decode cX4_wrong 12 = .ok (.iload_n 2, 1) := by decide +kernel
theorem dX4_wrong_13 : decode cX4_wrong 13 = .ok (.aload_n 0, 1) := by decide +kernel
theorem dX4_wrong_14 : decode cX4_wrong 14 = .ok (.getfield 109, 3) := by decide +kernel
theorem dX4_wrong_17 : decode cX4_wrong 17 = .ok (.if_icmp .ge 47, 3) := by decide +kernel
theorem dX4_wrong_20 : decode cX4_wrong 20 = .ok (.iload_n 1, 1) := by decide +kernel
theorem dX4_wrong_21 : decode cX4_wrong 21 = .ok (.aload_n 0, 1) := by decide +kernel
theorem dX4_wrong_22 : decode cX4_wrong 22 = .ok (.aload_n 0, 1) := by decide +kernel
theorem dX4_wrong_23 : decode cX4_wrong 23 = .ok (.getfield 26, 3) := by decide +kernel
theorem dX4_wrong_26 : decode cX4_wrong 26 = .ok (.iload_n 2, 1) := by decide +kernel
theorem dX4_wrong_27 : decode cX4_wrong 27 = .ok (.iaload, 1) := by decide +kernel
theorem dX4_wrong_28 : decode cX4_wrong 28 = .ok (.aload_n 0, 1) := by decide +kernel
theorem dX4_wrong_29 : decode cX4_wrong 29 = .ok (.getfield 93, 3) := by decide +kernel
theorem dX4_wrong_32 : decode cX4_wrong 32 = .ok (.iload_n 2, 1) := by decide +kernel
theorem dX4_wrong_33 : decode cX4_wrong 33 = .ok (.iadd, 1) := by decide +kernel
theorem dX4_wrong_34 : decode cX4_wrong 34 = .ok (.aload_n 0, 1) := by decide +kernel
theorem dX4_wrong_35 : decode cX4_wrong 35 = .ok (.getfield 121, 3) := by decide +kernel
theorem dX4_wrong_38 : decode cX4_wrong 38 = .ok (.isub, 1) := by decide +kernel
theorem dX4_wrong_39 : decode cX4_wrong 39 = .ok (.invokevirtual 96, 3) := by decide +kernel
theorem dX4_wrong_42 : decode cX4_wrong 42 = .ok (.aload_n 0, 1) := by decide +kernel
theorem dX4_wrong_43 : decode cX4_wrong 43 = .ok (.getfield 26, 3) := by decide +kernel
theorem dX4_wrong_46 : decode cX4_wrong 46 = .ok (.iload_n 2, 1) := by decide +kernel
theorem dX4_wrong_47 : decode cX4_wrong 47 = .ok (.iaload, 1) := by decide +kernel
theorem dX4_wrong_48 : decode cX4_wrong 48 = .ok (.if_icmp .ne 7, 3) := by decide +kernel
theorem dX4_wrong_51 : decode cX4_wrong 51 = .ok (.iconst 0, 1) := by decide +kernel
theorem dX4_wrong_52 : decode cX4_wrong 52 = .ok (.goto 4, 3) := by decide +kernel
theorem dX4_wrong_55 : decode cX4_wrong 55 = .ok (.iconst 1, 1) := by decide +kernel
theorem dX4_wrong_56 : decode cX4_wrong 56 = .ok (.iadd, 1) := by decide +kernel
theorem dX4_wrong_57 : decode cX4_wrong 57 = .ok (.istore_n 1, 1) := by decide +kernel
theorem dX4_wrong_58 : decode cX4_wrong 58 = .ok (.iinc 2 1, 3) := by decide +kernel
theorem dX4_wrong_61 : decode cX4_wrong 61 = .ok (.goto (-49), 3) := by decide +kernel
theorem dX4_wrong_64 : decode cX4_wrong 64 = .ok (.iload_n 1, 1) := by decide +kernel
theorem dX4_wrong_65 : decode cX4_wrong 65 = .ok (.ireturn, 1) := by decide +kernel
theorem dX4_isShift_0 : decode cX4_isShift 0 = .ok (.iload_n 1, 1) := by decide +kernel
theorem dX4_isShift_1 : decode cX4_isShift 1 = .ok (.bipush 31, 2) := by decide +kernel
theorem dX4_isShift_3 : decode cX4_isShift 3 = .ok (.if_icmp .eq 26, 3) := by decide +kernel
theorem dX4_isShift_6 : decode cX4_isShift 6 = .ok (.iload_n 1, 1) := by decide +kernel
theorem dX4_isShift_7 : decode cX4_isShift 7 = .ok (.bipush 27, 2) := by decide +kernel
theorem dX4_isShift_9 : decode cX4_isShift 9 = .ok (.if_icmp .eq 20, 3) := by decide +kernel
theorem dX4_isShift_12 : decode cX4_isShift 12 = .ok (.iload_n 1, 1) := by decide +kernel
theorem dX4_isShift_13 : decode cX4_isShift 13 = .ok (.iconst 2, 1) := by decide +kernel
theorem dX4_isShift_14 : decode cX4_isShift 14 = .ok (.if_icmp .eq 15, 3) := by decide +kernel
theorem dX4_isShift_17 : decode cX4_isShift 17 = .ok (.iload_n 1, 1) := by decide +kernel
theorem dX4_isShift_18 : decode cX4_isShift 18 = .ok (.iconst 4, 1) := by decide +kernel
theorem dX4_isShift_19 : decode cX4_isShift 19 = .ok (.if_icmp .ne 14, 3) := by decide +kernel
theorem dX4_isShift_22 : decode cX4_isShift 22 = .ok (.aload_n 0, 1) := by decide +kernel
theorem dX4_isShift_23 : decode cX4_isShift 23 = .ok (.getfield 67, 3) := by decide +kernel
theorem dX4_isShift_26 : decode cX4_isShift 26 = .ok (.ifCond .eq 7, 3) := by decide +kernel
theorem dX4_isShift_29 : decode cX4_isShift 29 = .ok (.iconst 1, 1) := by decide +kernel
theorem dX4_isShift_30 : decode cX4_isShift 30 = .ok (.goto 4, 3) := by decide +kernel
theorem dX4_isShift_33 : decode cX4_isShift 33 = .ok (.iconst 0, 1) := by decide +kernel
theorem dX4_isShift_34 : decode cX4_isShift 34 = .ok (.ireturn, 1) := by decide +kernel
set_option maxRecDepth 20000 in
theorem ggX4_isIdle_X4_shiftAt : GoodIn wsX4_isIdle wsX4_shiftAt := goodIn_r _ [7, 1, 8, 9, 10, 6, 11, 12, 20, 21, 22, 23, 24, 25, 26, 27, 28, 29, 30, 31, 32, 33, 34, 35] (by decide +kernel) (by decide +kernel)
set_option maxRecDepth 20000 in
theorem gX4_isIdle_X4_shiftAt : GoodIn wsX4_isIdle (wsV RX4 115 RX4 yX4_shiftAt wsX4_shiftAt) := goodIn_app (goodIn_of _ (by decide +kernel)) ggX4_isIdle_X4_shiftAt
set_option maxRecDepth 20000 in
theorem ggX4_isIdle_X4_shift : GoodIn wsX4_isIdle wsX4_shift := goodIn_r _ [11, 12, 20, 21, 22, 23, 24, 25, 26, 27, 28, 29, 30, 31, 32, 33, 34, 35] (by decide +kernel) (by decide +kernel)
set_option maxRecDepth 20000 in
theorem gX4_isIdle_X4_shift : GoodIn wsX4_isIdle (wsV RX4 89 RX4 yX4_shift wsX4_shift) := goodIn_app (goodIn_of _ (by decide +kernel)) ggX4_isIdle_X4_shift
set_option maxRecDepth 20000 in
theorem ggX4_isIdle_X4_isShift : GoodIn wsX4_isIdle wsX4_isShift := goodIn_r _ [16, 12, 20, 21, 22, 23, 24, 25, 26, 27, 28, 29, 30, 31, 32, 33, 34, 35] (by decide +kernel) (by decide +kernel)
set_option maxRecDepth 20000 in
theorem gX4_isIdle_X4_isShift : GoodIn wsX4_isIdle (wsV RX4 135 RX4 yX4_isShift wsX4_isShift) := goodIn_app (goodIn_of _ (by decide +kernel)) ggX4_isIdle_X4_isShift
set_option maxRecDepth 20000 in
theorem ggX4_isIdle_X4_isType : GoodIn wsX4_isIdle wsX4_isType := goodIn_r _ [19] (by decide +kernel) (by decide +kernel)
set_option maxRecDepth 20000 in
theorem gX4_isIdle_X4_isType : GoodIn wsX4_isIdle (va_wsS RX4 36 yX4_isType wsX4_isType) := goodIn_app (goodIn_of _ (by decide +kernel)) ggX4_isIdle_X4_isType
theorem dX4_isIdle_0 : decode cX4_isIdle 0 = .ok (.aload_n 0, 1) := by decide +kernel
theorem dX4_isIdle_1 : decode cX4_isIdle 1 = .ok (.aload_n 0, 1) := by decide +kernel
theorem dX4_isIdle_2 : decode cX4_isIdle 2 = .ok (.iload_n 1, 1) := by decide +kernel
theorem dX4_isIdle_3 : decode cX4_isIdle 3 = .ok (.invokevirtual 115, 3) := by decide +kernel
theorem dX4_isIdle_6 : decode cX4_isIdle 6 = .ok (.aload_n 0, 1) := by decide +kernel
theorem dX4_isIdle_7 : decode cX4_isIdle 7 = .ok (.getfield 26, 3) := by decide +kernel
theorem dX4_isIdle_10 : decode cX4_isIdle 10 = .ok (.iload_n 1, 1) := by decide +kernel
theorem dX4_isIdle_11 : decode cX4_isIdle 11 = .ok (.iaload, 1) := by decide +kernel
theorem dX4_isIdle_12 : decode cX4_isIdle 12 = .ok (.invokevirtual 89, 3) := by decide +kernel
theorem dX4_isIdle_15 : decode cX4_isIdle 15 = .ok (.aload_n 0, 1) := by decide +kernel
theorem dX4_isIdle_16 : decode cX4_isIdle 16 = .ok (.iload_n 1, 1) := by decide +kernel
theorem dX4_isIdle_17 : decode cX4_isIdle 17 = .ok (.invokevirtual 115, 3) := by decide +kernel
theorem dX4_isIdle_20 : decode cX4_isIdle 20 = .ok (.if_icmp .ne 5, 3) := by decide +kernel
theorem dX4_isIdle_23 : decode cX4_isIdle 23 = .ok (.iconst 1, 1) := by decide +kernel
theorem dX4_isIdle_24 : decode cX4_isIdle 24 = .ok (.ireturn, 1) := by decide +kernel
theorem dX4_isIdle_25 : decode cX4_isIdle 25 = .ok (.iload_n 1, 1) := by decide +kernel
theorem dX4_isIdle_26 : decode cX4_isIdle 26 = .ok (.iconst 1, 1) := by decide +kernel
theorem dX4_isIdle_27 : decode cX4_isIdle 27 = .ok (.iadd, 1) := by decide +kernel
theorem dX4_isIdle_28 : decode cX4_isIdle 28 = .ok (.istore_n 2, 1) := by decide +kernel
theorem dX4_isIdle_29 : decode cX4_isIdle 29 = .ok (.iload_n 2, 1) := by decide +kernel
theorem dX4_isIdle_30 : decode cX4_isIdle 30 = .ok (.aload_n 0, 1) := by decide +kernel
theorem dX4_isIdle_31 : decode cX4_isIdle 31 = .ok (.getfield 109, 3) := by decide +kernel
theorem dX4_isIdle_34 : decode cX4_isIdle 34 = .ok (.if_icmp .ge 36, 3) := by decide +kernel
theorem dX4_isIdle_37 : decode cX4_isIdle 37 = .ok (.aload_n 0, 1) := by decide +kernel
theorem dX4_isIdle_38 : decode cX4_isIdle 38 = .ok (.aload_n 0, 1) := by decide +kernel
theorem dX4_isIdle_39 : decode cX4_isIdle 39 = .ok (.getfield 26, 3) := by decide +kernel
theorem dX4_isIdle_42 : decode cX4_isIdle 42 = .ok (.iload_n 2, 1) := by decide +kernel
theorem dX4_isIdle_43 : decode cX4_isIdle 43 = .ok (.iaload, 1) := by decide +kernel
theorem dX4_isIdle_44 : decode cX4_isIdle 44 = .ok (.invokevirtual 135, 3) := by decide +kernel
theorem dX4_isIdle_47 : decode cX4_isIdle 47 = .ok (.ifCond .ne 23, 3) := by decide +kernel
theorem dX4_isIdle_50 : decode cX4_isIdle 50 = .ok (.aload_n 0, 1) := by decide +kernel
theorem dX4_isIdle_51 : decode cX4_isIdle 51 = .ok (.getfield 26, 3) := by decide +kernel
theorem dX4_isIdle_54 : decode cX4_isIdle 54 = .ok (.iload_n 2, 1) := by decide +kernel
theorem dX4_isIdle_55 : decode cX4_isIdle 55 = .ok (.iaload, 1) := by decide +kernel
theorem dX4_isIdle_56 : decode cX4_isIdle 56 = .ok (.invokestatic 36, 3) := by decide +kernel
theorem dX4_isIdle_59 : decode cX4_isIdle 59 = .ok (.ifCond .eq 5, 3) := by decide +kernel
theorem dX4_isIdle_62 : decode cX4_isIdle 62 = .ok (.iconst 0, 1) := by decide +kernel
theorem dX4_isIdle_63 : decode cX4_isIdle 63 = .ok (.ireturn, 1) := by decide +kernel
theorem dX4_isIdle_64 : decode cX4_isIdle 64 = .ok (.iinc 2 1, 3) := by decide +kernel
theorem dX4_isIdle_67 : decode cX4_isIdle 67 = .ok (.goto (-38), 3) := by decide +kernel
theorem dX4_isIdle_70 : decode cX4_isIdle 70 = .ok (.iconst 1, 1) := by decide +kernel
theorem dX4_isIdle_71 : decode cX4_isIdle 71 = .ok (.ireturn, 1) := by decide +kernel
set_option maxRecDepth 20000 in
theorem ggX4_idle_X4_isIdle : GoodIn wsX4_idle wsX4_isIdle := goodIn_r _ [8, 3, 2, 9, 10, 11, 7, 12, 13, 14, 15, 16, 17, 18, 19, 20, 21, 22, 23, 24, 25, 26, 27, 28, 29, 30, 31, 32, 33, 34, 35, 36, 37, 38, 39, 40] (by decide +kernel) (by decide +kernel)
set_option maxRecDepth 20000 in
theorem gX4_idle_X4_isIdle : GoodIn wsX4_idle (wsV RX4 138 RX4 yX4_isIdle wsX4_isIdle) := goodIn_app (goodIn_of _ (by decide +kernel)) ggX4_idle_X4_isIdle
theorem dX4_idle_0 : decode cX4_idle 0 = .ok (.aload_n 0, 1) := by decide +kernel
theorem dX4_idle_1 : decode cX4_idle 1 = .ok (.iconst 0, 1) := by decide +kernel
theorem dX4_idle_2 : decode cX4_idle 2 = .ok (.putfield 29, 3) := by decide +kernel
theorem dX4_idle_5 : decode cX4_idle 5 = .ok (.iconst 0, 1) := by decide +kernel
theorem dX4_idle_6 : decode cX4_idle 6 = .ok (.istore_n 1, 1) := by decide +kernel
theorem dX4_idle_7 : decode cX4_idle 7 = .ok (.iconst 0, 1) := by decide +kernel
theorem dX4_idle_8 : decode cX4_idle 8 = .ok (.istore_n 2, 1) := by decide +kernel
theorem dX4_idle_9 : decode cX4_idle 9 = .ok (.iload_n 2, 1) := by decide +kernel
theorem dX4_idle_10 : decode cX4_idle 10 = .ok (.aload_n 0, 1) := by decide +kernel
theorem dX4_idle_11 : decode cX4_idle 11 = .ok (.getfield 109, 3) := by decide +kernel
theorem dX4_idle_14 : decode cX4_idle 14 = .ok (.if_icmp .ge 47, 3) := by decide +kernel
theorem dX4_idle_17 : decode cX4_idle 17 = .ok (.iload_n 1, 1) := by decide +kernel
theorem dX4_idle_18 : decode cX4_idle 18 = .ok (.aload_n 0, 1) := by decide +kernel
theorem dX4_idle_19 : decode cX4_idle 19 = .ok (.getfield 26, 3) := by decide +kernel
theorem dX4_idle_22 : decode cX4_idle 22 = .ok (.iload_n 2, 1) := by decide +kernel
theorem dX4_idle_23 : decode cX4_idle 23 = .ok (.iaload, 1) := by decide +kernel
theorem dX4_idle_24 : decode cX4_idle 24 = .ok (.bipush 31, 2) := by decide +kernel
theorem dX4_idle_26 : decode cX4_idle 26 = .ok (.if_icmp .eq 14, 3) := by decide +kernel
theorem dX4_idle_29 : decode cX4_idle 29 = .ok (.aload_n 0, 1) := by decide +kernel
theorem dX4_idle_30 : decode cX4_idle 30 = .ok (.getfield 26, 3) := by decide +kernel
theorem dX4_idle_33 : decode cX4_idle 33 = .ok (.iload_n 2, 1) := by decide +kernel
theorem dX4_idle_34 : decode cX4_idle 34 = .ok (.iaload, 1) := by decide +kernel
theorem dX4_idle_35 : decode cX4_idle 35 = .ok (.bipush 27, 2) := by decide +kernel
theorem dX4_idle_37 : decode cX4_idle 37 = .ok (.if_icmp .ne 15, 3) := by decide +kernel
theorem dX4_idle_40 : decode cX4_idle 40 = .ok (.aload_n 0, 1) := by decide +kernel
theorem dX4_idle_41 : decode cX4_idle 41 = .ok (.iload_n 2, 1) := by decide +kernel
theorem dX4_idle_42 : decode cX4_idle 42 = .ok (.invokevirtual 138, 3) := by decide +kernel
theorem dX4_idle_45 : decode cX4_idle 45 = .ok (.ifCond .eq 7, 3) := by decide +kernel
theorem dX4_idle_48 : decode cX4_idle 48 = .ok (.iconst 1, 1) := by decide +kernel
theorem dX4_idle_49 : decode cX4_idle 49 = .ok (.goto 4, 3) := by decide +kernel
theorem dX4_idle_52 : decode cX4_idle 52 = .ok (.iconst 0, 1) := by decide +kernel
theorem dX4_idle_53 : decode cX4_idle 53 = .ok (.iadd, 1) := by decide +kernel
theorem dX4_idle_54 : decode cX4_idle 54 = .ok (.istore_n 1, 1) := by decide +kernel
theorem dX4_idle_55 : decode cX4_idle 55 = .ok (.iinc 2 1, 3) := by decide +kernel
theorem dX4_idle_58 : decode cX4_idle 58 = .ok (.goto (-49), 3) := by decide +kernel
theorem dX4_idle_61 : decode cX4_idle 61 = .ok (.iload_n 1, 1) := by decide +kernel
theorem dX4_idle_62 : decode cX4_idle 62 = .ok (.ireturn, 1) := by decide +kernel
set_option maxRecDepth 20000 in
theorem ggX4_prints_X4_isPlace : GoodIn wsX4_prints wsX4_isPlace := goodIn_r _ [7, 8, 9, 10, 6, 11, 31, 32, 33, 34, 35, 36, 37, 38, 39, 40, 41, 42, 43, 44, 45, 46] (by decide +kernel) (by decide +kernel)
set_option maxRecDepth 20000 in
theorem gX4_prints_X4_isPlace : GoodIn wsX4_prints (wsV RX4 118 RX4 yX4_isPlace wsX4_isPlace) := goodIn_app (goodIn_of _ (by decide +kernel)) ggX4_prints_X4_isPlace
set_option maxRecDepth 20000 in
theorem ggX4_prints_X4_shiftAt : GoodIn wsX4_prints wsX4_shiftAt := goodIn_r _ [15, 2, 16, 17, 18, 6, 19, 20, 31, 32, 33, 34, 35, 36, 37, 38, 39, 40, 41, 42, 43, 44, 45, 46] (by decide +kernel) (by decide +kernel)
set_option maxRecDepth 20000 in
theorem gX4_prints_X4_shiftAt : GoodIn wsX4_prints (wsV RX4 115 RX4 yX4_shiftAt wsX4_shiftAt) := goodIn_app (goodIn_of _ (by decide +kernel)) ggX4_prints_X4_shiftAt
set_option maxRecDepth 20000 in
theorem ggX4_prints_X4_characterOf : GoodIn wsX4_prints wsX4_characterOf := goodIn_r _ [23, 24, 25, 6, 26] (by decide +kernel) (by decide +kernel)
set_option maxRecDepth 20000 in
theorem gX4_prints_X4_characterOf : GoodIn wsX4_prints (va_wsS RX4 53 yX4_characterOf wsX4_characterOf) := goodIn_app (goodIn_of _ (by decide +kernel)) ggX4_prints_X4_characterOf
set_option maxRecDepth 20000 in
theorem ggX4_prints_X4_fail : GoodIn wsX4_prints wsX4_fail := goodIn_r _ [30, 1, 31, 32, 33, 34, 35, 36, 37, 38, 39, 40, 41, 42, 43, 44, 45, 46] (by decide +kernel) (by decide +kernel)
set_option maxRecDepth 20000 in
theorem gX4_prints_X4_fail : GoodIn wsX4_prints (wsV RX4 47 RX4 yX4_fail wsX4_fail) := goodIn_app (goodIn_of _ (by decide +kernel)) ggX4_prints_X4_fail
theorem dX4_prints_0 : decode cX4_prints 0 = .ok (.aload_n 0, 1) := by decide +kernel
theorem dX4_prints_1 : decode cX4_prints 1 = .ok (.iconst 0, 1) := by decide +kernel
theorem dX4_prints_2 : decode cX4_prints 2 = .ok (.putfield 29, 3) := by decide +kernel
theorem dX4_prints_5 : decode cX4_prints 5 = .ok (.aload_n 0, 1) := by decide +kernel
theorem dX4_prints_6 : decode cX4_prints 6 = .ok (.iload_n 1, 1) := by decide +kernel
theorem dX4_prints_7 : decode cX4_prints 7 = .ok (.invokevirtual 118, 3) := by decide +kernel
theorem dX4_prints_10 : decode cX4_prints 10 = .ok (.ifCond .eq 20, 3) := by decide +kernel
theorem dX4_prints_13 : decode cX4_prints 13 = .ok (.aload_n 0, 1) := by decide +kernel
theorem dX4_prints_14 : decode cX4_prints 14 = .ok (.getfield 26, 3) := by decide +kernel
theorem dX4_prints_17 : decode cX4_prints 17 = .ok (.iload_n 1, 1) := by decide +kernel
theorem dX4_prints_18 : decode cX4_prints 18 = .ok (.iaload, 1) := by decide +kernel
theorem dX4_prints_19 : decode cX4_prints 19 = .ok (.aload_n 0, 1) := by decide +kernel
theorem dX4_prints_20 : decode cX4_prints 20 = .ok (.iload_n 1, 1) := by decide +kernel
theorem dX4_prints_21 : decode cX4_prints 21 = .ok (.invokevirtual 115, 3) := by decide +kernel
theorem dX4_prints_24 : decode cX4_prints 24 = .ok (.invokestatic 53, 3) := by decide +kernel
theorem dX4_prints_27 : decode cX4_prints 27 = .ok (.goto 8, 3) := by decide +kernel
theorem dX4_prints_30 : decode cX4_prints 30 = .ok (.aload_n 0, 1) := by decide +kernel
theorem dX4_prints_31 : decode cX4_prints 31 = .ok (.iconst 1, 1) := by decide +kernel
theorem dX4_prints_32 : decode cX4_prints 32 = .ok (.invokevirtual 47, 3) := by decide +kernel
theorem dX4_prints_35 : decode cX4_prints 35 = .ok (.ireturn, 1) := by decide +kernel
set_option maxRecDepth 20000 in
theorem ggX4_mean_X4_counted : GoodIn wsX4_mean wsX4_counted := goodIn_r _ [7, 2, 8, 9, 10, 11, 12, 13, 14, 15, 16, 17, 18, 19, 20, 21, 22, 23, 24, 25, 26, 27, 28, 29, 30, 31, 32, 33] (by decide +kernel) (by decide +kernel)
set_option maxRecDepth 20000 in
theorem gX4_mean_X4_counted : GoodIn wsX4_mean (wsV RX4 132 RX4 yX4_counted wsX4_counted) := goodIn_app (goodIn_of _ (by decide +kernel)) ggX4_mean_X4_counted
theorem dX4_mean_0 : decode cX4_mean 0 = .ok (.aload_n 0, 1) := by decide +kernel
theorem dX4_mean_1 : decode cX4_mean 1 = .ok (.iconst 0, 1) := by decide +kernel
theorem dX4_mean_2 : decode cX4_mean 2 = .ok (.putfield 29, 3) := by decide +kernel
theorem dX4_mean_5 : decode cX4_mean 5 = .ok (.aload_n 0, 1) := by decide +kernel
theorem dX4_mean_6 : decode cX4_mean 6 = .ok (.iconst 1, 1) := by decide +kernel
theorem dX4_mean_7 : decode cX4_mean 7 = .ok (.invokevirtual 132, 3) := by decide +kernel
theorem dX4_mean_10 : decode cX4_mean 10 = .ok (.i2d, 1) := by decide +kernel
theorem dX4_mean_11 : decode cX4_mean 11 = .ok (.aload_n 0, 1) := by decide +kernel
theorem dX4_mean_12 : decode cX4_mean 12 = .ok (.getfield 7, 3) := by decide +kernel
theorem dX4_mean_15 : decode cX4_mean 15 = .ok (.i2d, 1) := by decide +kernel
theorem dX4_mean_16 : decode cX4_mean 16 = .ok (.ddiv, 1) := by decide +kernel
theorem dX4_mean_17 : decode cX4_mean 17 = .ok (.dreturn, 1) := by decide +kernel
set_option maxRecDepth 20000 in
theorem ggX4_digest_X4_counted : GoodIn wsX4_digest wsX4_counted := goodIn_r _ [15, 6, 7, 16, 17, 9, 18, 19, 20, 21, 22, 23, 24, 25, 26, 27, 28, 29, 30, 31, 32, 33, 34, 35, 36, 37, 38, 39] (by decide +kernel) (by decide +kernel)
set_option maxRecDepth 20000 in
theorem gX4_digest_X4_counted : GoodIn wsX4_digest (wsV RX4 132 RX4 yX4_counted wsX4_counted) := goodIn_app (goodIn_of _ (by decide +kernel)) ggX4_digest_X4_counted
theorem dX4_digest_0 : decode cX4_digest 0 = .ok (.aload_n 0, 1) := by decide +kernel
theorem dX4_digest_1 : decode cX4_digest 1 = .ok (.iconst 0, 1) := by decide +kernel
theorem dX4_digest_2 : decode cX4_digest 2 = .ok (.putfield 29, 3) := by decide +kernel
theorem dX4_digest_5 : decode cX4_digest 5 = .ok (.ldc2_w 141, 3) := by decide +kernel
theorem dX4_digest_8 : decode cX4_digest 8 = .ok (.lstore_n 1, 1) := by decide +kernel
theorem dX4_digest_9 : decode cX4_digest 9 = .ok (.iconst 0, 1) := by decide +kernel
theorem dX4_digest_10 : decode cX4_digest 10 = .ok (.istore_n 3, 1) := by decide +kernel
theorem dX4_digest_11 : decode cX4_digest 11 = .ok (.iload_n 3, 1) := by decide +kernel
theorem dX4_digest_12 : decode cX4_digest 12 = .ok (.bipush 11, 2) := by decide +kernel
theorem dX4_digest_14 : decode cX4_digest 14 = .ok (.if_icmp .ge 22, 3) := by decide +kernel
theorem dX4_digest_17 : decode cX4_digest 17 = .ok (.lload_n 1, 1) := by decide +kernel
theorem dX4_digest_18 : decode cX4_digest 18 = .ok (.ldc2_w 143, 3) := by decide +kernel
theorem dX4_digest_21 : decode cX4_digest 21 = .ok (.lmul, 1) := by decide +kernel
theorem dX4_digest_22 : decode cX4_digest 22 = .ok (.aload_n 0, 1) := by decide +kernel
theorem dX4_digest_23 : decode cX4_digest 23 = .ok (.iload_n 3, 1) := by decide +kernel
theorem dX4_digest_24 : decode cX4_digest 24 = .ok (.invokevirtual 132, 3) := by decide +kernel
theorem dX4_digest_27 : decode cX4_digest 27 = .ok (.i2l, 1) := by decide +kernel
theorem dX4_digest_28 : decode cX4_digest 28 = .ok (.ladd, 1) := by decide +kernel
theorem dX4_digest_29 : decode cX4_digest 29 = .ok (.lstore_n 1, 1) := by decide +kernel
theorem dX4_digest_30 : decode cX4_digest 30 = .ok (.iinc 3 1, 3) := by decide +kernel
theorem dX4_digest_33 : decode cX4_digest 33 = .ok (.goto (-22), 3) := by decide +kernel
theorem dX4_digest_36 : decode cX4_digest 36 = .ok (.iconst 0, 1) := by decide +kernel
theorem dX4_digest_37 : decode cX4_digest 37 = .ok (.istore_n 3, 1) := by decide +kernel
theorem dX4_digest_38 : decode cX4_digest 38 = .ok (.iload_n 3, 1) := by decide +kernel
theorem dX4_digest_39 : decode cX4_digest 39 = .ok (.bipush 16, 2) := by decide +kernel
theorem dX4_digest_41 : decode cX4_digest 41 = .ok (.if_icmp .ge 37, 3) := by decide +kernel
theorem dX4_digest_44 : decode cX4_digest 44 = .ok (.lload_n 1, 1) := by decide +kernel
theorem dX4_digest_45 : decode cX4_digest 45 = .ok (.ldc2_w 143, 3) := by decide +kernel
theorem dX4_digest_48 : decode cX4_digest 48 = .ok (.lmul, 1) := by decide +kernel
theorem dX4_digest_49 : decode cX4_digest 49 = .ok (.aload_n 0, 1) := by decide +kernel
theorem dX4_digest_50 : decode cX4_digest 50 = .ok (.getfield 20, 3) := by decide +kernel
theorem dX4_digest_53 : decode cX4_digest 53 = .ok (.iload_n 3, 1) := by decide +kernel
theorem dX4_digest_54 : decode cX4_digest 54 = .ok (.iaload, 1) := by decide +kernel
theorem dX4_digest_55 : decode cX4_digest 55 = .ok (.i2l, 1) := by decide +kernel
theorem dX4_digest_56 : decode cX4_digest 56 = .ok (.ladd, 1) := by decide +kernel
theorem dX4_digest_57 : decode cX4_digest 57 = .ok (.lstore_n 1, 1) := by decide +kernel
theorem dX4_digest_58 : decode cX4_digest 58 = .ok (.lload_n 1, 1) := by decide +kernel
theorem dX4_digest_59 : decode cX4_digest 59 = .ok (.ldc2_w 143, 3) := by decide +kernel
theorem dX4_digest_62 : decode cX4_digest 62 = .ok (.lmul, 1) := by decide +kernel
theorem dX4_digest_63 : decode cX4_digest 63 = .ok (.aload_n 0, 1) := by decide +kernel
theorem dX4_digest_64 : decode cX4_digest 64 = .ok (.getfield 23, 3) := by decide +kernel
theorem dX4_digest_67 : decode cX4_digest 67 = .ok (.iload_n 3, 1) := by decide +kernel
theorem dX4_digest_68 : decode cX4_digest 68 = .ok (.iaload, 1) := by decide +kernel
theorem dX4_digest_69 : decode cX4_digest 69 = .ok (.i2l, 1) := by decide +kernel
theorem dX4_digest_70 : decode cX4_digest 70 = .ok (.ladd, 1) := by decide +kernel
theorem dX4_digest_71 : decode cX4_digest 71 = .ok (.lstore_n 1, 1) := by decide +kernel
theorem dX4_digest_72 : decode cX4_digest 72 = .ok (.iinc 3 1, 3) := by decide +kernel
theorem dX4_digest_75 : decode cX4_digest 75 = .ok (.goto (-37), 3) := by decide +kernel
theorem dX4_digest_78 : decode cX4_digest 78 = .ok (.iconst 0, 1) := by decide +kernel
theorem dX4_digest_79 : decode cX4_digest 79 = .ok (.istore_n 3, 1) := by decide +kernel
theorem dX4_digest_80 : decode cX4_digest 80 = .ok (.iload_n 3, 1) := by decide +kernel
theorem dX4_digest_81 : decode cX4_digest 81 = .ok (.aload_n 0, 1) := by decide +kernel
theorem dX4_digest_82 : decode cX4_digest 82 = .ok (.getfield 7, 3) := by decide +kernel
theorem dX4_digest_85 : decode cX4_digest 85 = .ok (.if_icmp .ge 63, 3) := by decide +kernel
theorem dX4_digest_88 : decode cX4_digest 88 = .ok (.lload_n 1, 1) := by decide +kernel
theorem dX4_digest_89 : decode cX4_digest 89 = .ok (.ldc2_w 143, 3) := by decide +kernel
theorem dX4_digest_92 : decode cX4_digest 92 = .ok (.lmul, 1) := by decide +kernel
theorem dX4_digest_93 : decode cX4_digest 93 = .ok (.aload_n 0, 1) := by decide +kernel
theorem dX4_digest_94 : decode cX4_digest 94 = .ok (.getfield 13, 3) := by decide +kernel
theorem dX4_digest_97 : decode cX4_digest 97 = .ok (.iload_n 3, 1) := by decide +kernel
theorem dX4_digest_98 : decode cX4_digest 98 = .ok (.iaload, 1) := by decide +kernel
theorem dX4_digest_99 : decode cX4_digest 99 = .ok (.i2l, 1) := by decide +kernel
theorem dX4_digest_100 : decode cX4_digest 100 = .ok (.ladd, 1) := by decide +kernel
theorem dX4_digest_101 : decode cX4_digest 101 = .ok (.lstore_n 1, 1) := by decide +kernel
theorem dX4_digest_102 : decode cX4_digest 102 = .ok (.iconst 0, 1) := by decide +kernel
theorem dX4_digest_103 : decode cX4_digest 103 = .ok (.istore 4, 2) := by decide +kernel
theorem dX4_digest_105 : decode cX4_digest 105 = .ok (.iload 4, 2) := by decide +kernel
theorem dX4_digest_107 : decode cX4_digest 107 = .ok (.aload_n 0, 1) := by decide +kernel
theorem dX4_digest_108 : decode cX4_digest 108 = .ok (.getfield 13, 3) := by decide +kernel
theorem dX4_digest_111 : decode cX4_digest 111 = .ok (.iload_n 3, 1) := by decide +kernel
theorem dX4_digest_112 : decode cX4_digest 112 = .ok (.iaload, 1) := by decide +kernel
theorem dX4_digest_113 : decode cX4_digest 113 = .ok (.if_icmp .ge 29, 3) := by decide +kernel
theorem dX4_digest_116 : decode cX4_digest 116 = .ok (.lload_n 1, 1) := by decide +kernel
theorem dX4_digest_117 : decode cX4_digest 117 = .ok (.ldc2_w 143, 3) := by decide +kernel
theorem dX4_digest_120 : decode cX4_digest 120 = .ok (.lmul, 1) := by decide +kernel
theorem dX4_digest_121 : decode cX4_digest 121 = .ok (.aload_n 0, 1) := by decide +kernel
theorem dX4_digest_122 : decode cX4_digest 122 = .ok (.getfield 17, 3) := by decide +kernel
theorem dX4_digest_125 : decode cX4_digest 125 = .ok (.bipush 40, 2) := by decide +kernel
theorem dX4_digest_127 : decode cX4_digest 127 = .ok (.iload_n 3, 1) := by decide +kernel
theorem dX4_digest_128 : decode cX4_digest 128 = .ok (.imul, 1) := by decide +kernel
theorem dX4_digest_129 : decode cX4_digest 129 = .ok (.iload 4, 2) := by decide +kernel
theorem dX4_digest_131 : decode cX4_digest 131 = .ok (.iadd, 1) := by decide +kernel
theorem dX4_digest_132 : decode cX4_digest 132 = .ok (.iaload, 1) := by decide +kernel
theorem dX4_digest_133 : decode cX4_digest 133 = .ok (.i2l, 1) := by decide +kernel
theorem dX4_digest_134 : decode cX4_digest 134 = .ok (.ladd, 1) := by decide +kernel
theorem dX4_digest_135 : decode cX4_digest 135 = .ok (.lstore_n 1, 1) := by decide +kernel
theorem dX4_digest_136 : decode cX4_digest 136 = .ok (.iinc 4 1, 3) := by decide +kernel
theorem dX4_digest_139 : decode cX4_digest 139 = .ok (.goto (-34), 3) := by decide +kernel
theorem dX4_digest_142 : decode cX4_digest 142 = .ok (.iinc 3 1, 3) := by decide +kernel
theorem dX4_digest_145 : decode cX4_digest 145 = .ok (.goto (-65), 3) := by decide +kernel
theorem dX4_digest_148 : decode cX4_digest 148 = .ok (.iconst 0, 1) := by decide +kernel
theorem dX4_digest_149 : decode cX4_digest 149 = .ok (.istore_n 3, 1) := by decide +kernel
theorem dX4_digest_150 : decode cX4_digest 150 = .ok (.iload_n 3, 1) := by decide +kernel
theorem dX4_digest_151 : decode cX4_digest 151 = .ok (.aload_n 0, 1) := by decide +kernel
theorem dX4_digest_152 : decode cX4_digest 152 = .ok (.getfield 109, 3) := by decide +kernel
theorem dX4_digest_155 : decode cX4_digest 155 = .ok (.if_icmp .ge 23, 3) := by decide +kernel
theorem dX4_digest_158 : decode cX4_digest 158 = .ok (.lload_n 1, 1) := by decide +kernel
theorem dX4_digest_159 : decode cX4_digest 159 = .ok (.ldc2_w 143, 3) := by decide +kernel
theorem dX4_digest_162 : decode cX4_digest 162 = .ok (.lmul, 1) := by decide +kernel
theorem dX4_digest_163 : decode cX4_digest 163 = .ok (.aload_n 0, 1) := by decide +kernel
theorem dX4_digest_164 : decode cX4_digest 164 = .ok (.getfield 26, 3) := by decide +kernel
theorem dX4_digest_167 : decode cX4_digest 167 = .ok (.iload_n 3, 1) := by decide +kernel
theorem dX4_digest_168 : decode cX4_digest 168 = .ok (.iaload, 1) := by decide +kernel
theorem dX4_digest_169 : decode cX4_digest 169 = .ok (.i2l, 1) := by decide +kernel
theorem dX4_digest_170 : decode cX4_digest 170 = .ok (.ladd, 1) := by decide +kernel
theorem dX4_digest_171 : decode cX4_digest 171 = .ok (.lstore_n 1, 1) := by decide +kernel
theorem dX4_digest_172 : decode cX4_digest 172 = .ok (.iinc 3 1, 3) := by decide +kernel
theorem dX4_digest_175 : decode cX4_digest 175 = .ok (.goto (-25), 3) := by decide +kernel
theorem dX4_digest_178 : decode cX4_digest 178 = .ok (.lload_n 1, 1) := by decide +kernel
theorem dX4_digest_179 : decode cX4_digest 179 = .ok (.lreturn, 1) := by decide +kernel
theorem dJ6_bitCount_0f7a4_0 : decode cJ6_bitCount_0f7a4 0 = .ok (.iload_n 0, 1) := by decide +kernel
theorem dJ6_bitCount_0f7a4_1 : decode cJ6_bitCount_0f7a4 1 = .ok (.iload_n 0, 1) := by decide +kernel
theorem dJ6_bitCount_0f7a4_2 : decode cJ6_bitCount_0f7a4 2 = .ok (.iconst 1, 1) := by decide +kernel
theorem dJ6_bitCount_0f7a4_3 : decode cJ6_bitCount_0f7a4 3 = .ok (.iushr, 1) := by decide +kernel
theorem dJ6_bitCount_0f7a4_4 : decode cJ6_bitCount_0f7a4 4 = .ok (.ldc_w 265, 3) := by decide +kernel
theorem dJ6_bitCount_0f7a4_7 : decode cJ6_bitCount_0f7a4 7 = .ok (.iand, 1) := by decide +kernel
theorem dJ6_bitCount_0f7a4_8 : decode cJ6_bitCount_0f7a4 8 = .ok (.isub, 1) := by decide +kernel
theorem dJ6_bitCount_0f7a4_9 : decode cJ6_bitCount_0f7a4 9 = .ok (.istore_n 0, 1) := by decide +kernel
theorem dJ6_bitCount_0f7a4_10 : decode cJ6_bitCount_0f7a4 10 = .ok (.iload_n 0, 1) := by decide +kernel
theorem dJ6_bitCount_0f7a4_11 : decode cJ6_bitCount_0f7a4 11 = .ok (.ldc_w 266, 3) := by decide +kernel
theorem dJ6_bitCount_0f7a4_14 : decode cJ6_bitCount_0f7a4 14 = .ok (.iand, 1) := by decide +kernel
theorem dJ6_bitCount_0f7a4_15 : decode cJ6_bitCount_0f7a4 15 = .ok (.iload_n 0, 1) := by decide +kernel
theorem dJ6_bitCount_0f7a4_16 : decode cJ6_bitCount_0f7a4 16 = .ok (.iconst 2, 1) := by decide +kernel
theorem dJ6_bitCount_0f7a4_17 : decode cJ6_bitCount_0f7a4 17 = .ok (.iushr, 1) := by decide +kernel
theorem dJ6_bitCount_0f7a4_18 : decode cJ6_bitCount_0f7a4 18 = .ok (.ldc_w 266, 3) := by decide +kernel
theorem dJ6_bitCount_0f7a4_21 : decode cJ6_bitCount_0f7a4 21 = .ok (.iand, 1) := by decide +kernel
theorem dJ6_bitCount_0f7a4_22 : decode cJ6_bitCount_0f7a4 22 = .ok (.iadd, 1) := by decide +kernel
theorem dJ6_bitCount_0f7a4_23 : decode cJ6_bitCount_0f7a4 23 = .ok (.istore_n 0, 1) := by decide +kernel
theorem dJ6_bitCount_0f7a4_24 : decode cJ6_bitCount_0f7a4 24 = .ok (.iload_n 0, 1) := by decide +kernel
theorem dJ6_bitCount_0f7a4_25 : decode cJ6_bitCount_0f7a4 25 = .ok (.iload_n 0, 1) := by decide +kernel
theorem dJ6_bitCount_0f7a4_26 : decode cJ6_bitCount_0f7a4 26 = .ok (.iconst 4, 1) := by decide +kernel
theorem dJ6_bitCount_0f7a4_27 : decode cJ6_bitCount_0f7a4 27 = .ok (.iushr, 1) := by decide +kernel
theorem dJ6_bitCount_0f7a4_28 : decode cJ6_bitCount_0f7a4 28 = .ok (.iadd, 1) := by decide +kernel
theorem dJ6_bitCount_0f7a4_29 : decode cJ6_bitCount_0f7a4 29 = .ok (.ldc_w 267, 3) := by decide +kernel
theorem dJ6_bitCount_0f7a4_32 : decode cJ6_bitCount_0f7a4 32 = .ok (.iand, 1) := by decide +kernel
theorem dJ6_bitCount_0f7a4_33 : decode cJ6_bitCount_0f7a4 33 = .ok (.istore_n 0, 1) := by decide +kernel
theorem dJ6_bitCount_0f7a4_34 : decode cJ6_bitCount_0f7a4 34 = .ok (.iload_n 0, 1) := by decide +kernel
theorem dJ6_bitCount_0f7a4_35 : decode cJ6_bitCount_0f7a4 35 = .ok (.iload_n 0, 1) := by decide +kernel
theorem dJ6_bitCount_0f7a4_36 : decode cJ6_bitCount_0f7a4 36 = .ok (.bipush 8, 2) := by decide +kernel
theorem dJ6_bitCount_0f7a4_38 : decode cJ6_bitCount_0f7a4 38 = .ok (.iushr, 1) := by decide +kernel
theorem dJ6_bitCount_0f7a4_39 : decode cJ6_bitCount_0f7a4 39 = .ok (.iadd, 1) := by decide +kernel
theorem dJ6_bitCount_0f7a4_40 : decode cJ6_bitCount_0f7a4 40 = .ok (.istore_n 0, 1) := by decide +kernel
theorem dJ6_bitCount_0f7a4_41 : decode cJ6_bitCount_0f7a4 41 = .ok (.iload_n 0, 1) := by decide +kernel
theorem dJ6_bitCount_0f7a4_42 : decode cJ6_bitCount_0f7a4 42 = .ok (.iload_n 0, 1) := by decide +kernel
theorem dJ6_bitCount_0f7a4_43 : decode cJ6_bitCount_0f7a4 43 = .ok (.bipush 16, 2) := by decide +kernel
theorem dJ6_bitCount_0f7a4_45 : decode cJ6_bitCount_0f7a4 45 = .ok (.iushr, 1) := by decide +kernel
theorem dJ6_bitCount_0f7a4_46 : decode cJ6_bitCount_0f7a4 46 = .ok (.iadd, 1) := by decide +kernel
theorem dJ6_bitCount_0f7a4_47 : decode cJ6_bitCount_0f7a4 47 = .ok (.istore_n 0, 1) := by decide +kernel
theorem dJ6_bitCount_0f7a4_48 : decode cJ6_bitCount_0f7a4 48 = .ok (.iload_n 0, 1) := by decide +kernel
theorem dJ6_bitCount_0f7a4_49 : decode cJ6_bitCount_0f7a4 49 = .ok (.bipush 63, 2) := by decide +kernel
theorem dJ6_bitCount_0f7a4_51 : decode cJ6_bitCount_0f7a4 51 = .ok (.iand, 1) := by decide +kernel
theorem dJ6_bitCount_0f7a4_52 : decode cJ6_bitCount_0f7a4 52 = .ok (.ireturn, 1) := by decide +kernel
theorem dJ9_min_7cf53_0 : decode cJ9_min_7cf53 0 = .ok (.iload_n 0, 1) := by decide +kernel
theorem dJ9_min_7cf53_1 : decode cJ9_min_7cf53 1 = .ok (.iload_n 1, 1) := by decide +kernel
theorem dJ9_min_7cf53_2 : decode cJ9_min_7cf53 2 = .ok (.if_icmp .gt 7, 3) := by decide +kernel
theorem dJ9_min_7cf53_5 : decode cJ9_min_7cf53 5 = .ok (.iload_n 0, 1) := by decide +kernel
theorem dJ9_min_7cf53_6 : decode cJ9_min_7cf53 6 = .ok (.goto 4, 3) := by decide +kernel
theorem dJ9_min_7cf53_9 : decode cJ9_min_7cf53 9 = .ok (.iload_n 1, 1) := by decide +kernel
theorem dJ9_min_7cf53_10 : decode cJ9_min_7cf53 10 = .ok (.ireturn, 1) := by decide +kernel
set_option maxRecDepth 20000 in
theorem ggL_code_X3_code : GoodIn wsL_code wsX3_code := goodIn_ca (goodIn_r _ [6, 7, 8, 9, 10, 5, 11, 12, 13, 14, 15] (by decide +kernel) (by decide +kernel)) (goodIn_sub (fun _ h => List.mem_cons_of_mem _ (List.mem_append_right _ h)) (by decide +kernel))
set_option maxRecDepth 20000 in
theorem gL_code_X3_code : GoodIn wsL_code (wsV RL 7 RX3 yX3_code wsX3_code) := goodIn_app (goodIn_of _ (by decide +kernel)) ggL_code_X3_code
