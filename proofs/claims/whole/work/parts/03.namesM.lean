theorem dX2_init_0 : decode cX2_init 0 = .ok (.aload_n 0, 1) := by decide +kernel
theorem dX2_init_1 : decode cX2_init 1 = .ok (.invokespecial 1, 3) := by decide +kernel
theorem dX2_init_4 : decode cX2_init 4 = .ok (.aload_n 0, 1) := by decide +kernel
theorem dX2_init_5 : decode cX2_init 5 = .ok (.iconst 3, 1) := by decide +kernel
theorem dX2_init_6 : decode cX2_init 6 = .ok (.putfield 9, 3) := by decide +kernel
theorem dX2_init_9 : decode cX2_init 9 = .ok (.aload_n 0, 1) := by decide +kernel
theorem dX2_init_10 : decode cX2_init 10 = .ok (.iconst 2, 1) := by decide +kernel
theorem dX2_init_11 : decode cX2_init 11 = .ok (.newarray .int, 2) := by decide +kernel
theorem dX2_init_13 : decode cX2_init 13 = .ok (.putfield 13, 3) := by decide +kernel
theorem dX2_init_16 : decode cX2_init 16 = .ok (.aload_n 0, 1) := by decide +kernel
theorem dX2_init_17 : decode cX2_init 17 = .ok (.bipush 60, 2) := by decide +kernel
theorem dX2_init_19 : decode cX2_init 19 = .ok (.newarray .int, 2) := by decide +kernel
theorem dX2_init_21 : decode cX2_init 21 = .ok (.putfield 17, 3) := by decide +kernel
theorem dX2_init_24 : decode cX2_init 24 = .ok (.aload_n 0, 1) := by decide +kernel
theorem dX2_init_25 : decode cX2_init 25 = .ok (.sipush 320, 3) := by decide +kernel
theorem dX2_init_28 : decode cX2_init 28 = .ok (.newarray .int, 2) := by decide +kernel
theorem dX2_init_30 : decode cX2_init 30 = .ok (.putfield 20, 3) := by decide +kernel
theorem dX2_init_33 : decode cX2_init 33 = .ok (.aload_n 0, 1) := by decide +kernel
theorem dX2_init_34 : decode cX2_init 34 = .ok (.sipush 320, 3) := by decide +kernel
theorem dX2_init_37 : decode cX2_init 37 = .ok (.newarray .int, 2) := by decide +kernel
theorem dX2_init_39 : decode cX2_init 39 = .ok (.putfield 23, 3) := by decide +kernel
theorem dX2_init_42 : decode cX2_init 42 = .ok (.aload_n 0, 1) := by decide +kernel
theorem dX2_init_43 : decode cX2_init 43 = .ok (.bipush 6, 2) := by decide +kernel
theorem dX2_init_45 : decode cX2_init 45 = .ok (.newarray .int, 2) := by decide +kernel
theorem dX2_init_47 : decode cX2_init 47 = .ok (.putfield 26, 3) := by decide +kernel
theorem dX2_init_50 : decode cX2_init 50 = .ok (.return_, 1) := by decide +kernel
theorem dX2_thrown_0 : decode cX2_thrown 0 = .ok (.aload_n 0, 1) := by decide +kernel
theorem dX2_thrown_1 : decode cX2_thrown 1 = .ok (.getfield 29, 3) := by decide +kernel
theorem dX2_thrown_4 : decode cX2_thrown 4 = .ok (.ireturn, 1) := by decide +kernel
theorem dX2_no_0 : decode cX2_no 0 = .ok (.aload_n 0, 1) := by decide +kernel
theorem dX2_no_1 : decode cX2_no 1 = .ok (.iload_n 1, 1) := by decide +kernel
theorem dX2_no_2 : decode cX2_no 2 = .ok (.putfield 29, 3) := by decide +kernel
theorem dX2_no_5 : decode cX2_no 5 = .ok (.iconst 0, 1) := by decide +kernel
theorem dX2_no_6 : decode cX2_no 6 = .ok (.ireturn, 1) := by decide +kernel
theorem dX2_isIn_0 : decode cX2_isIn 0 = .ok (.iload_n 0, 1) := by decide +kernel
theorem dX2_isIn_1 : decode cX2_isIn 1 = .ok (.iload_n 1, 1) := by decide +kernel
theorem dX2_isIn_2 : decode cX2_isIn 2 = .ok (.if_icmp .lt 12, 3) := by decide +kernel
theorem dX2_isIn_5 : decode cX2_isIn 5 = .ok (.iload_n 0, 1) := by decide +kernel
theorem dX2_isIn_6 : decode cX2_isIn 6 = .ok (.iload_n 2, 1) := by decide +kernel
theorem dX2_isIn_7 : decode cX2_isIn 7 = .ok (.if_icmp .gt 7, 3) := by decide +kernel
theorem dX2_isIn_10 : decode cX2_isIn 10 = .ok (.iconst 1, 1) := by decide +kernel
theorem dX2_isIn_11 : decode cX2_isIn 11 = .ok (.goto 4, 3) := by decide +kernel
theorem dX2_isIn_14 : decode cX2_isIn 14 = .ok (.iconst 0, 1) := by decide +kernel
theorem dX2_isIn_15 : decode cX2_isIn 15 = .ok (.ireturn, 1) := by decide +kernel
set_option maxRecDepth 20000 in
theorem ggX2_isWord_X2_isIn : GoodIn wsX2_isWord wsX2_isIn := goodIn_r _ [4] (by decide +kernel) (by decide +kernel)
set_option maxRecDepth 20000 in
theorem gX2_isWord_X2_isIn : GoodIn wsX2_isWord (va_wsS RX2 32 yX2_isIn wsX2_isIn) := goodIn_app (goodIn_of _ (by decide +kernel)) ggX2_isWord_X2_isIn
theorem dX2_isWord_0 : decode cX2_isWord 0 = .ok (.iload_n 0, 1) := by decide +kernel
theorem dX2_isWord_1 : decode cX2_isWord 1 = .ok (.iconst 0, 1) := by decide +kernel
theorem dX2_isWord_2 : decode cX2_isWord 2 = .ok (.iconst 1, 1) := by decide +kernel
theorem dX2_isWord_3 : decode cX2_isWord 3 = .ok (.invokestatic 32, 3) := by decide +kernel
theorem dX2_isWord_6 : decode cX2_isWord 6 = .ok (.ireturn, 1) := by decide +kernel
set_option maxRecDepth 20000 in
theorem ggX2_isLetter_X2_isIn : GoodIn wsX2_isLetter wsX2_isIn := goodIn_r _ [5] (by decide +kernel) (by decide +kernel)
set_option maxRecDepth 20000 in
theorem gX2_isLetter_X2_isIn : GoodIn wsX2_isLetter (va_wsS RX2 32 yX2_isIn wsX2_isIn) := goodIn_app (goodIn_of _ (by decide +kernel)) ggX2_isLetter_X2_isIn
theorem dX2_isLetter_0 : decode cX2_isLetter 0 = .ok (.iload_n 1, 1) := by decide +kernel
theorem dX2_isLetter_1 : decode cX2_isLetter 1 = .ok (.ifCond .eq 26, 3) := by decide +kernel
theorem dX2_isLetter_4 : decode cX2_isLetter 4 = .ok (.iload_n 1, 1) := by decide +kernel
theorem dX2_isLetter_5 : decode cX2_isLetter 5 = .ok (.iconst 1, 1) := by decide +kernel
theorem dX2_isLetter_6 : decode cX2_isLetter 6 = .ok (.aload_n 0, 1) := by decide +kernel
theorem dX2_isLetter_7 : decode cX2_isLetter 7 = .ok (.getfield 9, 3) := by decide +kernel
theorem dX2_isLetter_10 : decode cX2_isLetter 10 = .ok (.isub, 1) := by decide +kernel
theorem dX2_isLetter_11 : decode cX2_isLetter 11 = .ok (.aload_n 0, 1) := by decide +kernel
theorem dX2_isLetter_12 : decode cX2_isLetter 12 = .ok (.getfield 9, 3) := by decide +kernel
theorem dX2_isLetter_15 : decode cX2_isLetter 15 = .ok (.iconst 1, 1) := by decide +kernel
theorem dX2_isLetter_16 : decode cX2_isLetter 16 = .ok (.isub, 1) := by decide +kernel
theorem dX2_isLetter_17 : decode cX2_isLetter 17 = .ok (.invokestatic 32, 3) := by decide +kernel
theorem dX2_isLetter_20 : decode cX2_isLetter 20 = .ok (.ifCond .eq 7, 3) := by decide +kernel
theorem dX2_isLetter_23 : decode cX2_isLetter 23 = .ok (.iconst 1, 1) := by decide +kernel
theorem dX2_isLetter_24 : decode cX2_isLetter 24 = .ok (.goto 4, 3) := by decide +kernel
theorem dX2_isLetter_27 : decode cX2_isLetter 27 = .ok (.iconst 0, 1) := by decide +kernel
theorem dX2_isLetter_28 : decode cX2_isLetter 28 = .ok (.ireturn, 1) := by decide +kernel
theorem dX2_at_0 : decode cX2_at 0 = .ok (.aload_n 0, 1) := by decide +kernel
theorem dX2_at_1 : decode cX2_at 1 = .ok (.getfield 17, 3) := by decide +kernel
theorem dX2_at_4 : decode cX2_at 4 = .ok (.bipush 30, 2) := by decide +kernel
theorem dX2_at_6 : decode cX2_at 6 = .ok (.iload_n 1, 1) := by decide +kernel
theorem dX2_at_7 : decode cX2_at 7 = .ok (.imul, 1) := by decide +kernel
theorem dX2_at_8 : decode cX2_at 8 = .ok (.iload_n 2, 1) := by decide +kernel
theorem dX2_at_9 : decode cX2_at 9 = .ok (.iadd, 1) := by decide +kernel
theorem dX2_at_10 : decode cX2_at 10 = .ok (.iaload, 1) := by decide +kernel
theorem dX2_at_11 : decode cX2_at 11 = .ok (.ireturn, 1) := by decide +kernel
theorem dX2_put_0 : decode cX2_put 0 = .ok (.aload_n 0, 1) := by decide +kernel
theorem dX2_put_1 : decode cX2_put 1 = .ok (.getfield 17, 3) := by decide +kernel
theorem dX2_put_4 : decode cX2_put 4 = .ok (.bipush 30, 2) := by decide +kernel
theorem dX2_put_6 : decode cX2_put 6 = .ok (.iload_n 1, 1) := by decide +kernel
theorem dX2_put_7 : decode cX2_put 7 = .ok (.imul, 1) := by decide +kernel
theorem dX2_put_8 : decode cX2_put 8 = .ok (.iload_n 2, 1) := by decide +kernel
theorem dX2_put_9 : decode cX2_put 9 = .ok (.iadd, 1) := by decide +kernel
theorem dX2_put_10 : decode cX2_put 10 = .ok (.iload_n 3, 1) := by decide +kernel
theorem dX2_put_11 : decode cX2_put 11 = .ok (.iastore, 1) := by decide +kernel
theorem dX2_put_12 : decode cX2_put 12 = .ok (.return_, 1) := by decide +kernel
set_option maxRecDepth 20000 in
theorem ggX2_take_X2_at : GoodIn wsX2_take wsX2_at := goodIn_r _ [8, 9, 10, 11, 12, 13, 14, 15, 16, 17, 18, 19] (by decide +kernel) (by decide +kernel)
set_option maxRecDepth 20000 in
theorem gX2_take_X2_at : GoodIn wsX2_take (wsV RX2 39 RX2 yX2_at wsX2_at) := goodIn_app (goodIn_of _ (by decide +kernel)) ggX2_take_X2_at
theorem dX2_take_0 : decode cX2_take 0 = .ok (.iconst 0, 1) := by decide +kernel
theorem dX2_take_1 : decode cX2_take 1 = .ok (.istore_n 3, 1) := by decide +kernel
theorem dX2_take_2 : decode cX2_take 2 = .ok (.iload_n 3, 1) := by decide +kernel
theorem dX2_take_3 : decode cX2_take 3 = .ok (.aload_n 0, 1) := by decide +kernel
theorem dX2_take_4 : decode cX2_take 4 = .ok (.getfield 13, 3) := by decide +kernel
theorem dX2_take_7 : decode cX2_take 7 = .ok (.iload_n 1, 1) := by decide +kernel
theorem dX2_take_8 : decode cX2_take 8 = .ok (.iaload, 1) := by decide +kernel
theorem dX2_take_9 : decode cX2_take 9 = .ok (.if_icmp .ge 57, 3) := by decide +kernel
theorem dX2_take_12 : decode cX2_take 12 = .ok (.aload_n 0, 1) := by decide +kernel
theorem dX2_take_13 : decode cX2_take 13 = .ok (.getfield 20, 3) := by decide +kernel
theorem dX2_take_16 : decode cX2_take 16 = .ok (.aload_n 0, 1) := by decide +kernel
theorem dX2_take_17 : decode cX2_take 17 = .ok (.getfield 36, 3) := by decide +kernel
theorem dX2_take_20 : decode cX2_take 20 = .ok (.iload_n 2, 1) := by decide +kernel
theorem dX2_take_21 : decode cX2_take 21 = .ok (.ifCond .eq 22, 3) := by decide +kernel
theorem dX2_take_24 : decode cX2_take 24 = .ok (.aload_n 0, 1) := by decide +kernel
theorem dX2_take_25 : decode cX2_take 25 = .ok (.iload_n 1, 1) := by decide +kernel
theorem dX2_take_26 : decode cX2_take 26 = .ok (.aload_n 0, 1) := by decide +kernel
theorem dX2_take_27 : decode cX2_take 27 = .ok (.getfield 13, 3) := by decide +kernel
theorem dX2_take_30 : decode cX2_take 30 = .ok (.iload_n 1, 1) := by decide +kernel
theorem dX2_take_31 : decode cX2_take 31 = .ok (.iaload, 1) := by decide +kernel
theorem dX2_take_32 : decode cX2_take 32 = .ok (.iconst 1, 1) := by decide +kernel
theorem dX2_take_33 : decode cX2_take 33 = .ok (.isub, 1) := by decide +kernel
theorem dX2_take_34 : decode cX2_take 34 = .ok (.iload_n 3, 1) := by decide +kernel
theorem dX2_take_35 : decode cX2_take 35 = .ok (.isub, 1) := by decide +kernel
theorem dX2_take_36 : decode cX2_take 36 = .ok (.invokevirtual 39, 3) := by decide +kernel
theorem dX2_take_39 : decode cX2_take 39 = .ok (.ineg, 1) := by decide +kernel
theorem dX2_take_40 : decode cX2_take 40 = .ok (.goto 9, 3) := by decide +kernel
theorem dX2_take_43 : decode cX2_take 43 = .ok (.aload_n 0, 1) := by decide +kernel
theorem dX2_take_44 : decode cX2_take 44 = .ok (.iload_n 1, 1) := by decide +kernel
theorem dX2_take_45 : decode cX2_take 45 = .ok (.iload_n 3, 1) := by decide +kernel
theorem dX2_take_46 : decode cX2_take 46 = .ok (.invokevirtual 39, 3) := by decide +kernel
theorem dX2_take_49 : decode cX2_take 49 = .ok (.iastore, 1) := by decide +kernel
theorem dX2_take_50 : decode cX2_take 50 = .ok (.aload_n 0, 1) := by decide +kernel
theorem dX2_take_51 : decode cX2_take 51 = .ok (.dup, 1) := by decide +kernel
theorem dX2_take_52 : decode cX2_take 52 = .ok (.getfield 36, 3) := by decide +kernel
theorem dX2_take_55 : decode cX2_take 55 = .ok (.iconst 1, 1) := by decide +kernel
theorem dX2_take_56 : decode cX2_take 56 = .ok (.iadd, 1) := by decide +kernel
theorem dX2_take_57 : decode cX2_take 57 = .ok (.putfield 36, 3) := by decide +kernel
theorem dX2_take_60 : decode cX2_take 60 = .ok (.iinc 3 1, 3) := by decide +kernel
theorem dX2_take_63 : decode cX2_take 63 = .ok (.goto (-61), 3) := by decide +kernel
theorem dX2_take_66 : decode cX2_take 66 = .ok (.return_, 1) := by decide +kernel
set_option maxRecDepth 20000 in
theorem ggX2_load_X2_take : GoodIn wsX2_load wsX2_take := goodIn_r _ [6, 7, 8, 1, 9, 10, 11, 5, 12, 13, 14, 15, 16, 17, 18, 19, 20, 21, 22, 23] (by decide +kernel) (by decide +kernel)
set_option maxRecDepth 20000 in
theorem gX2_load_X2_take : GoodIn wsX2_load (wsV RX2 43 RX2 yX2_take wsX2_take) := goodIn_app (goodIn_of _ (by decide +kernel)) ggX2_load_X2_take
theorem dX2_load_0 : decode cX2_load 0 = .ok (.aload_n 0, 1) := by decide +kernel
theorem dX2_load_1 : decode cX2_load 1 = .ok (.iconst 0, 1) := by decide +kernel
theorem dX2_load_2 : decode cX2_load 2 = .ok (.putfield 36, 3) := by decide +kernel
theorem dX2_load_5 : decode cX2_load 5 = .ok (.aload_n 0, 1) := by decide +kernel
theorem dX2_load_6 : decode cX2_load 6 = .ok (.iload_n 1, 1) := by decide +kernel
theorem dX2_load_7 : decode cX2_load 7 = .ok (.iconst 0, 1) := by decide +kernel
theorem dX2_load_8 : decode cX2_load 8 = .ok (.invokevirtual 43, 3) := by decide +kernel
theorem dX2_load_11 : decode cX2_load 11 = .ok (.return_, 1) := by decide +kernel
theorem dX2_begins_0 : decode cX2_begins 0 = .ok (.aload_n 0, 1) := by decide +kernel
theorem dX2_begins_1 : decode cX2_begins 1 = .ok (.getfield 20, 3) := by decide +kernel
theorem dX2_begins_4 : decode cX2_begins 4 = .ok (.iload_n 1, 1) := by decide +kernel
theorem dX2_begins_5 : decode cX2_begins 5 = .ok (.iaload, 1) := by decide +kernel
theorem dX2_begins_6 : decode cX2_begins 6 = .ok (.invokestatic 47, 3) := by decide +kernel
theorem dX2_begins_9 : decode cX2_begins 9 = .ok (.istore_n 2, 1) := by decide +kernel
theorem dX2_begins_10 : decode cX2_begins 10 = .ok (.iload_n 1, 1) := by decide +kernel
theorem dX2_begins_11 : decode cX2_begins 11 = .ok (.iconst 1, 1) := by decide +kernel
theorem dX2_begins_12 : decode cX2_begins 12 = .ok (.isub, 1) := by decide +kernel
theorem dX2_begins_13 : decode cX2_begins 13 = .ok (.istore_n 3, 1) := by decide +kernel
theorem dX2_begins_14 : decode cX2_begins 14 = .ok (.iload_n 3, 1) := by decide +kernel
theorem dX2_begins_15 : decode cX2_begins 15 = .ok (.ifCond .lt 58, 3) := by decide +kernel
theorem dX2_begins_18 : decode cX2_begins 18 = .ok (.aload_n 0, 1) := by decide +kernel
theorem dX2_begins_19 : decode cX2_begins 19 = .ok (.getfield 20, 3) := by decide +kernel
theorem dX2_begins_22 : decode cX2_begins 22 = .ok (.iload_n 3, 1) := by decide +kernel
theorem dX2_begins_23 : decode cX2_begins 23 = .ok (.iaload, 1) := by decide +kernel
theorem dX2_begins_24 : decode cX2_begins 24 = .ok (.invokestatic 47, 3) := by decide +kernel
theorem dX2_begins_27 : decode cX2_begins 27 = .ok (.istore 4, 2) := by decide +kernel
theorem dX2_begins_29 : decode cX2_begins 29 = .ok (.iload 4, 2) := by decide +kernel
theorem dX2_begins_31 : decode cX2_begins 31 = .ok (.iload_n 2, 1) := by decide +kernel
theorem dX2_begins_32 : decode cX2_begins 32 = .ok (.if_icmp .ne 25, 3) := by decide +kernel
theorem dX2_begins_35 : decode cX2_begins 35 = .ok (.aload_n 0, 1) := by decide +kernel
theorem dX2_begins_36 : decode cX2_begins 36 = .ok (.getfield 20, 3) := by decide +kernel
theorem dX2_begins_39 : decode cX2_begins 39 = .ok (.iload_n 3, 1) := by decide +kernel
theorem dX2_begins_40 : decode cX2_begins 40 = .ok (.iaload, 1) := by decide +kernel
theorem dX2_begins_41 : decode cX2_begins 41 = .ok (.aload_n 0, 1) := by decide +kernel
theorem dX2_begins_42 : decode cX2_begins 42 = .ok (.getfield 20, 3) := by decide +kernel
theorem dX2_begins_45 : decode cX2_begins 45 = .ok (.iload_n 1, 1) := by decide +kernel
theorem dX2_begins_46 : decode cX2_begins 46 = .ok (.iaload, 1) := by decide +kernel
theorem dX2_begins_47 : decode cX2_begins 47 = .ok (.ineg, 1) := by decide +kernel
theorem dX2_begins_48 : decode cX2_begins 48 = .ok (.if_icmp .ne 7, 3) := by decide +kernel
theorem dX2_begins_51 : decode cX2_begins 51 = .ok (.iload_n 3, 1) := by decide +kernel
theorem dX2_begins_52 : decode cX2_begins 52 = .ok (.goto 4, 3) := by decide +kernel
theorem dX2_begins_55 : decode cX2_begins 55 = .ok (.iconst (-1), 1) := by decide +kernel
theorem dX2_begins_56 : decode cX2_begins 56 = .ok (.ireturn, 1) := by decide +kernel
theorem dX2_begins_57 : decode cX2_begins 57 = .ok (.iload 4, 2) := by decide +kernel
theorem dX2_begins_59 : decode cX2_begins 59 = .ok (.iload_n 2, 1) := by decide +kernel
theorem dX2_begins_60 : decode cX2_begins 60 = .ok (.iconst 1, 1) := by decide +kernel
theorem dX2_begins_61 : decode cX2_begins 61 = .ok (.isub, 1) := by decide +kernel
theorem dX2_begins_62 : decode cX2_begins 62 = .ok (.if_icmp .ne 5, 3) := by decide +kernel
theorem dX2_begins_65 : decode cX2_begins 65 = .ok (.iconst (-1), 1) := by decide +kernel
theorem dX2_begins_66 : decode cX2_begins 66 = .ok (.ireturn, 1) := by decide +kernel
theorem dX2_begins_67 : decode cX2_begins 67 = .ok (.iinc 3 (-1), 3) := by decide +kernel
theorem dX2_begins_70 : decode cX2_begins 70 = .ok (.goto (-56), 3) := by decide +kernel
theorem dX2_begins_73 : decode cX2_begins 73 = .ok (.iconst (-1), 1) := by decide +kernel
theorem dX2_begins_74 : decode cX2_begins 74 = .ok (.ireturn, 1) := by decide +kernel
set_option maxRecDepth 20000 in
theorem ggX2_ends_X2_begins : GoodIn wsX2_ends wsX2_begins := goodIn_r _ [6, 7, 8, 9, 10, 11, 12, 13, 14, 15, 16, 17, 18, 19, 20, 21] (by decide +kernel) (by decide +kernel)
set_option maxRecDepth 20000 in
theorem gX2_ends_X2_begins : GoodIn wsX2_ends (wsV RX2 53 RX2 yX2_begins wsX2_begins) := goodIn_app (goodIn_of _ (by decide +kernel)) ggX2_ends_X2_begins
theorem dX2_ends_0 : decode cX2_ends 0 = .ok (.iconst 1, 1) := by decide +kernel
theorem dX2_ends_1 : decode cX2_ends 1 = .ok (.istore_n 1, 1) := by decide +kernel
theorem dX2_ends_2 : decode cX2_ends 2 = .ok (.iload_n 1, 1) := by decide +kernel
theorem dX2_ends_3 : decode cX2_ends 3 = .ok (.aload_n 0, 1) := by decide +kernel
theorem dX2_ends_4 : decode cX2_ends 4 = .ok (.getfield 36, 3) := by decide +kernel
theorem dX2_ends_7 : decode cX2_ends 7 = .ok (.if_icmp .ge 20, 3) := by decide +kernel
theorem dX2_ends_10 : decode cX2_ends 10 = .ok (.aload_n 0, 1) := by decide +kernel
theorem dX2_ends_11 : decode cX2_ends 11 = .ok (.iload_n 1, 1) := by decide +kernel
theorem dX2_ends_12 : decode cX2_ends 12 = .ok (.invokevirtual 53, 3) := by decide +kernel
theorem dX2_ends_15 : decode cX2_ends 15 = .ok (.iconst (-1), 1) := by decide +kernel
theorem dX2_ends_16 : decode cX2_ends 16 = .ok (.if_icmp .eq 5, 3) := by decide +kernel
theorem dX2_ends_19 : decode cX2_ends 19 = .ok (.iload_n 1, 1) := by decide +kernel
theorem dX2_ends_20 : decode cX2_ends 20 = .ok (.ireturn, 1) := by decide +kernel
theorem dX2_ends_21 : decode cX2_ends 21 = .ok (.iinc 1 1, 3) := by decide +kernel
theorem dX2_ends_24 : decode cX2_ends 24 = .ok (.goto (-22), 3) := by decide +kernel
theorem dX2_ends_27 : decode cX2_ends 27 = .ok (.iconst (-1), 1) := by decide +kernel
theorem dX2_ends_28 : decode cX2_ends 28 = .ok (.ireturn, 1) := by decide +kernel
set_option maxRecDepth 20000 in
theorem ggX2_more_X2_begins : GoodIn wsX2_more wsX2_begins := goodIn_r _ [10, 1, 2, 3, 4, 5, 11, 12, 13, 14, 15, 16, 17, 18, 19, 20] (by decide +kernel) (by decide +kernel)
set_option maxRecDepth 20000 in
theorem gX2_more_X2_begins : GoodIn wsX2_more (wsV RX2 53 RX2 yX2_begins wsX2_begins) := goodIn_app (goodIn_of _ (by decide +kernel)) ggX2_more_X2_begins
theorem dX2_more_0 : decode cX2_more 0 = .ok (.aload_n 0, 1) := by decide +kernel
theorem dX2_more_1 : decode cX2_more 1 = .ok (.getfield 20, 3) := by decide +kernel
theorem dX2_more_4 : decode cX2_more 4 = .ok (.iload_n 1, 1) := by decide +kernel
theorem dX2_more_5 : decode cX2_more 5 = .ok (.iaload, 1) := by decide +kernel
theorem dX2_more_6 : decode cX2_more 6 = .ok (.invokestatic 47, 3) := by decide +kernel
theorem dX2_more_9 : decode cX2_more 9 = .ok (.iconst 1, 1) := by decide +kernel
theorem dX2_more_10 : decode cX2_more 10 = .ok (.iadd, 1) := by decide +kernel
theorem dX2_more_11 : decode cX2_more 11 = .ok (.istore_n 2, 1) := by decide +kernel
theorem dX2_more_12 : decode cX2_more 12 = .ok (.bipush (-2), 2) := by decide +kernel
theorem dX2_more_14 : decode cX2_more 14 = .ok (.istore_n 3, 1) := by decide +kernel
theorem dX2_more_15 : decode cX2_more 15 = .ok (.aload_n 0, 1) := by decide +kernel
theorem dX2_more_16 : decode cX2_more 16 = .ok (.iload_n 1, 1) := by decide +kernel
theorem dX2_more_17 : decode cX2_more 17 = .ok (.invokevirtual 53, 3) := by decide +kernel
theorem dX2_more_20 : decode cX2_more 20 = .ok (.iconst 1, 1) := by decide +kernel
theorem dX2_more_21 : decode cX2_more 21 = .ok (.iadd, 1) := by decide +kernel
theorem dX2_more_22 : decode cX2_more 22 = .ok (.istore 4, 2) := by decide +kernel
theorem dX2_more_24 : decode cX2_more 24 = .ok (.iload 4, 2) := by decide +kernel
theorem dX2_more_26 : decode cX2_more 26 = .ok (.iload_n 1, 1) := by decide +kernel
theorem dX2_more_27 : decode cX2_more 27 = .ok (.if_icmp .ge 31, 3) := by decide +kernel
theorem dX2_more_30 : decode cX2_more 30 = .ok (.iload_n 3, 1) := by decide +kernel
theorem dX2_more_31 : decode cX2_more 31 = .ok (.aload_n 0, 1) := by decide +kernel
theorem dX2_more_32 : decode cX2_more 32 = .ok (.getfield 20, 3) := by decide +kernel
theorem dX2_more_35 : decode cX2_more 35 = .ok (.iload 4, 2) := by decide +kernel
theorem dX2_more_37 : decode cX2_more 37 = .ok (.iaload, 1) := by decide +kernel
theorem dX2_more_38 : decode cX2_more 38 = .ok (.invokestatic 47, 3) := by decide +kernel
theorem dX2_more_41 : decode cX2_more 41 = .ok (.iload_n 2, 1) := by decide +kernel
theorem dX2_more_42 : decode cX2_more 42 = .ok (.if_icmp .ne 7, 3) := by decide +kernel
theorem dX2_more_45 : decode cX2_more 45 = .ok (.iconst 2, 1) := by decide +kernel
theorem dX2_more_46 : decode cX2_more 46 = .ok (.goto 4, 3) := by decide +kernel
theorem dX2_more_49 : decode cX2_more 49 = .ok (.iconst 0, 1) := by decide +kernel
theorem dX2_more_50 : decode cX2_more 50 = .ok (.iadd, 1) := by decide +kernel
theorem dX2_more_51 : decode cX2_more 51 = .ok (.istore_n 3, 1) := by decide +kernel
theorem dX2_more_52 : decode cX2_more 52 = .ok (.iinc 4 1, 3) := by decide +kernel
theorem dX2_more_55 : decode cX2_more 55 = .ok (.goto (-31), 3) := by decide +kernel
theorem dX2_more_58 : decode cX2_more 58 = .ok (.iload_n 3, 1) := by decide +kernel
theorem dX2_more_59 : decode cX2_more 59 = .ok (.ireturn, 1) := by decide +kernel
set_option maxRecDepth 20000 in
theorem ggX2_cutAt_X2_begins : GoodIn wsX2_cutAt wsX2_begins := goodIn_r _ [16, 1, 2, 3, 4, 5, 17, 18, 19, 20, 21, 22, 23, 24, 25, 26] (by decide +kernel) (by decide +kernel)
set_option maxRecDepth 20000 in
theorem gX2_cutAt_X2_begins : GoodIn wsX2_cutAt (wsV RX2 53 RX2 yX2_begins wsX2_begins) := goodIn_app (goodIn_of _ (by decide +kernel)) ggX2_cutAt_X2_begins
theorem dX2_cutAt_0 : decode cX2_cutAt 0 = .ok (.aload_n 0, 1) := by decide +kernel
theorem dX2_cutAt_1 : decode cX2_cutAt 1 = .ok (.iload_n 1, 1) := by decide +kernel
theorem dX2_cutAt_2 : decode cX2_cutAt 2 = .ok (.invokevirtual 53, 3) := by decide +kernel
theorem dX2_cutAt_5 : decode cX2_cutAt 5 = .ok (.istore_n 2, 1) := by decide +kernel
theorem dX2_cutAt_6 : decode cX2_cutAt 6 = .ok (.aload_n 0, 1) := by decide +kernel
theorem dX2_cutAt_7 : decode cX2_cutAt 7 = .ok (.getfield 20, 3) := by decide +kernel
theorem dX2_cutAt_10 : decode cX2_cutAt 10 = .ok (.iload_n 1, 1) := by decide +kernel
theorem dX2_cutAt_11 : decode cX2_cutAt 11 = .ok (.iaload, 1) := by decide +kernel
theorem dX2_cutAt_12 : decode cX2_cutAt 12 = .ok (.invokestatic 47, 3) := by decide +kernel
theorem dX2_cutAt_15 : decode cX2_cutAt 15 = .ok (.istore_n 3, 1) := by decide +kernel
theorem dX2_cutAt_16 : decode cX2_cutAt 16 = .ok (.aload_n 0, 1) := by decide +kernel
theorem dX2_cutAt_17 : decode cX2_cutAt 17 = .ok (.getfield 20, 3) := by decide +kernel
theorem dX2_cutAt_20 : decode cX2_cutAt 20 = .ok (.iload_n 2, 1) := by decide +kernel
theorem dX2_cutAt_21 : decode cX2_cutAt 21 = .ok (.iaload, 1) := by decide +kernel
theorem dX2_cutAt_22 : decode cX2_cutAt 22 = .ok (.ifCond .le 7, 3) := by decide +kernel
theorem dX2_cutAt_25 : decode cX2_cutAt 25 = .ok (.iconst 1, 1) := by decide +kernel
theorem dX2_cutAt_26 : decode cX2_cutAt 26 = .ok (.goto 4, 3) := by decide +kernel
theorem dX2_cutAt_29 : decode cX2_cutAt 29 = .ok (.iconst (-1), 1) := by decide +kernel
theorem dX2_cutAt_30 : decode cX2_cutAt 30 = .ok (.istore 4, 2) := by decide +kernel
theorem dX2_cutAt_32 : decode cX2_cutAt 32 = .ok (.iconst 0, 1) := by decide +kernel
theorem dX2_cutAt_33 : decode cX2_cutAt 33 = .ok (.istore 5, 2) := by decide +kernel
theorem dX2_cutAt_35 : decode cX2_cutAt 35 = .ok (.iconst 0, 1) := by decide +kernel
theorem dX2_cutAt_36 : decode cX2_cutAt 36 = .ok (.istore 6, 2) := by decide +kernel
theorem dX2_cutAt_38 : decode cX2_cutAt 38 = .ok (.iload 6, 2) := by decide +kernel
theorem dX2_cutAt_40 : decode cX2_cutAt 40 = .ok (.aload_n 0, 1) := by decide +kernel
theorem dX2_cutAt_41 : decode cX2_cutAt 41 = .ok (.getfield 36, 3) := by decide +kernel
theorem dX2_cutAt_44 : decode cX2_cutAt 44 = .ok (.if_icmp .ge 123, 3) := by decide +kernel
theorem dX2_cutAt_47 : decode cX2_cutAt 47 = .ok (.iload 6, 2) := by decide +kernel
theorem dX2_cutAt_49 : decode cX2_cutAt 49 = .ok (.iload_n 2, 1) := by decide +kernel
theorem dX2_cutAt_50 : decode cX2_cutAt 50 = .ok (.if_icmp .eq 111, 3) := by decide +kernel
theorem dX2_cutAt_53 : decode cX2_cutAt 53 = .ok (.iload 6, 2) := by decide +kernel
theorem dX2_cutAt_55 : decode cX2_cutAt 55 = .ok (.iload_n 1, 1) := by decide +kernel
theorem dX2_cutAt_56 : decode cX2_cutAt 56 = .ok (.if_icmp .ne 6, 3) := by decide +kernel
theorem dX2_cutAt_59 : decode cX2_cutAt 59 = .ok (.goto 102, 3) := by decide +kernel
theorem dX2_cutAt_62 : decode cX2_cutAt 62 = .ok (.aload_n 0, 1) := by decide +kernel
theorem dX2_cutAt_63 : decode cX2_cutAt 63 = .ok (.getfield 20, 3) := by decide +kernel
theorem dX2_cutAt_66 : decode cX2_cutAt 66 = .ok (.iload 6, 2) := by decide +kernel
theorem dX2_cutAt_68 : decode cX2_cutAt 68 = .ok (.iaload, 1) := by decide +kernel
theorem dX2_cutAt_69 : decode cX2_cutAt 69 = .ok (.istore 7, 2) := by decide +kernel
theorem dX2_cutAt_71 : decode cX2_cutAt 71 = .ok (.iload 6, 2) := by decide +kernel
theorem dX2_cutAt_73 : decode cX2_cutAt 73 = .ok (.iload_n 2, 1) := by decide +kernel
theorem dX2_cutAt_74 : decode cX2_cutAt 74 = .ok (.if_icmp .le 75, 3) := by decide +kernel
theorem dX2_cutAt_77 : decode cX2_cutAt 77 = .ok (.iload 6, 2) := by decide +kernel
theorem dX2_cutAt_79 : decode cX2_cutAt 79 = .ok (.iload_n 1, 1) := by decide +kernel
theorem dX2_cutAt_80 : decode cX2_cutAt 80 = .ok (.if_icmp .ge 69, 3) := by decide +kernel
theorem dX2_cutAt_83 : decode cX2_cutAt 83 = .ok (.iload 7, 2) := by decide +kernel
theorem dX2_cutAt_85 : decode cX2_cutAt 85 = .ok (.invokestatic 47, 3) := by decide +kernel
theorem dX2_cutAt_88 : decode cX2_cutAt 88 = .ok (.iload_n 3, 1) := by decide +kernel
theorem dX2_cutAt_89 : decode cX2_cutAt 89 = .ok (.iconst 1, 1) := by decide +kernel
theorem dX2_cutAt_90 : decode cX2_cutAt 90 = .ok (.iadd, 1) := by decide +kernel
theorem dX2_cutAt_91 : decode cX2_cutAt 91 = .ok (.if_icmp .ne 58, 3) := by decide +kernel
theorem dX2_cutAt_94 : decode cX2_cutAt 94 = .ok (.aload_n 0, 1) := by decide +kernel
theorem dX2_cutAt_95 : decode cX2_cutAt 95 = .ok (.getfield 23, 3) := by decide +kernel
theorem dX2_cutAt_98 : decode cX2_cutAt 98 = .ok (.iload 5, 2) := by decide +kernel
theorem dX2_cutAt_100 : decode cX2_cutAt 100 = .ok (.iload 4, 2) := by decide +kernel
theorem dX2_cutAt_102 : decode cX2_cutAt 102 = .ok (.ineg, 1) := by decide +kernel
theorem dX2_cutAt_103 : decode cX2_cutAt 103 = .ok (.iload_n 3, 1) := by decide +kernel
theorem dX2_cutAt_104 : decode cX2_cutAt 104 = .ok (.iconst 1, 1) := by decide +kernel
theorem dX2_cutAt_105 : decode cX2_cutAt 105 = .ok (.iadd, 1) := by decide +kernel
theorem dX2_cutAt_106 : decode cX2_cutAt 106 = .ok (.imul, 1) := by decide +kernel
theorem dX2_cutAt_107 : decode cX2_cutAt 107 = .ok (.iastore, 1) := by decide +kernel
theorem dX2_cutAt_108 : decode cX2_cutAt 108 = .ok (.aload_n 0, 1) := by decide +kernel
theorem dX2_cutAt_109 : decode cX2_cutAt 109 = .ok (.getfield 23, 3) := by decide +kernel
theorem dX2_cutAt_112 : decode cX2_cutAt 112 = .ok (.iload 5, 2) := by decide +kernel
theorem dX2_cutAt_114 : decode cX2_cutAt 114 = .ok (.iconst 1, 1) := by decide +kernel
theorem dX2_cutAt_115 : decode cX2_cutAt 115 = .ok (.iadd, 1) := by decide +kernel
theorem dX2_cutAt_116 : decode cX2_cutAt 116 = .ok (.iload 7, 2) := by decide +kernel
theorem dX2_cutAt_118 : decode cX2_cutAt 118 = .ok (.ifCond .le 7, 3) := by decide +kernel
theorem dX2_cutAt_121 : decode cX2_cutAt 121 = .ok (.iload_n 3, 1) := by decide +kernel
theorem dX2_cutAt_122 : decode cX2_cutAt 122 = .ok (.goto 5, 3) := by decide +kernel
theorem dX2_cutAt_125 : decode cX2_cutAt 125 = .ok (.iload_n 3, 1) := by decide +kernel
theorem dX2_cutAt_126 : decode cX2_cutAt 126 = .ok (.ineg, 1) := by decide +kernel
theorem dX2_cutAt_127 : decode cX2_cutAt 127 = .ok (.iastore, 1) := by decide +kernel
theorem dX2_cutAt_128 : decode cX2_cutAt 128 = .ok (.aload_n 0, 1) := by decide +kernel
theorem dX2_cutAt_129 : decode cX2_cutAt 129 = .ok (.getfield 23, 3) := by decide +kernel
theorem dX2_cutAt_132 : decode cX2_cutAt 132 = .ok (.iload 5, 2) := by decide +kernel
theorem dX2_cutAt_134 : decode cX2_cutAt 134 = .ok (.iconst 2, 1) := by decide +kernel
theorem dX2_cutAt_135 : decode cX2_cutAt 135 = .ok (.iadd, 1) := by decide +kernel
theorem dX2_cutAt_136 : decode cX2_cutAt 136 = .ok (.iload 4, 2) := by decide +kernel
theorem dX2_cutAt_138 : decode cX2_cutAt 138 = .ok (.iload_n 3, 1) := by decide +kernel
theorem dX2_cutAt_139 : decode cX2_cutAt 139 = .ok (.iconst 1, 1) := by decide +kernel
theorem dX2_cutAt_140 : decode cX2_cutAt 140 = .ok (.iadd, 1) := by decide +kernel
theorem dX2_cutAt_141 : decode cX2_cutAt 141 = .ok (.imul, 1) := by decide +kernel
theorem dX2_cutAt_142 : decode cX2_cutAt 142 = .ok (.iastore, 1) := by decide +kernel
theorem dX2_cutAt_143 : decode cX2_cutAt 143 = .ok (.iinc 5 3, 3) := by decide +kernel
theorem dX2_cutAt_146 : decode cX2_cutAt 146 = .ok (.goto 15, 3) := by decide +kernel
theorem dX2_cutAt_149 : decode cX2_cutAt 149 = .ok (.aload_n 0, 1) := by decide +kernel
theorem dX2_cutAt_150 : decode cX2_cutAt 150 = .ok (.getfield 23, 3) := by decide +kernel
theorem dX2_cutAt_153 : decode cX2_cutAt 153 = .ok (.iload 5, 2) := by decide +kernel
theorem dX2_cutAt_155 : decode cX2_cutAt 155 = .ok (.iload 7, 2) := by decide +kernel
theorem dX2_cutAt_157 : decode cX2_cutAt 157 = .ok (.iastore, 1) := by decide +kernel
theorem dX2_cutAt_158 : decode cX2_cutAt 158 = .ok (.iinc 5 1, 3) := by decide +kernel
theorem dX2_cutAt_161 : decode cX2_cutAt 161 = .ok (.iinc 6 1, 3) := by decide +kernel
theorem dX2_cutAt_164 : decode cX2_cutAt 164 = .ok (.goto (-126), 3) := by decide +kernel
theorem dX2_cutAt_167 : decode cX2_cutAt 167 = .ok (.aload_n 0, 1) := by decide +kernel
theorem dX2_cutAt_168 : decode cX2_cutAt 168 = .ok (.getfield 23, 3) := by decide +kernel
theorem dX2_cutAt_171 : decode cX2_cutAt 171 = .ok (.iconst 0, 1) := by decide +kernel
theorem dX2_cutAt_172 : decode cX2_cutAt 172 = .ok (.aload_n 0, 1) := by decide +kernel
theorem dX2_cutAt_173 : decode cX2_cutAt 173 = .ok (.getfield 20, 3) := by decide +kernel
theorem dX2_cutAt_176 : decode cX2_cutAt 176 = .ok (.iconst 0, 1) := by decide +kernel
theorem dX2_cutAt_177 : decode cX2_cutAt 177 = .ok (.iload 5, 2) := by decide +kernel
theorem dX2_cutAt_179 : decode cX2_cutAt 179 = .ok (.invokestatic 56, 3) := by decide +kernel
theorem dX2_cutAt_182 : decode cX2_cutAt 182 = .ok (.aload_n 0, 1) := by decide +kernel
theorem dX2_cutAt_183 : decode cX2_cutAt 183 = .ok (.iload 5, 2) := by decide +kernel
theorem dX2_cutAt_185 : decode cX2_cutAt 185 = .ok (.putfield 36, 3) := by decide +kernel
theorem dX2_cutAt_188 : decode cX2_cutAt 188 = .ok (.return_, 1) := by decide +kernel
set_option maxRecDepth 20000 in
theorem ggX2_makePlain_X2_ends : GoodIn wsX2_makePlain wsX2_ends := goodIn_r _ [8, 3, 9, 10, 11, 7, 12, 13, 14, 15, 16, 17, 27, 28, 29, 30, 31, 32, 33, 34, 35, 36] (by decide +kernel) (by decide +kernel)
set_option maxRecDepth 20000 in
theorem gX2_makePlain_X2_ends : GoodIn wsX2_makePlain (wsV RX2 69 RX2 yX2_ends wsX2_ends) := goodIn_app (goodIn_of _ (by decide +kernel)) ggX2_makePlain_X2_ends
set_option maxRecDepth 20000 in
theorem ggX2_makePlain_X2_cutAt : GoodIn wsX2_makePlain wsX2_cutAt := goodIn_r _ [21, 13, 14, 15, 16, 17, 3, 22, 23, 24, 25, 26, 9, 10, 11, 7, 12, 27, 28, 29, 30, 31, 32, 33, 34, 35, 36] (by decide +kernel) (by decide +kernel)
set_option maxRecDepth 20000 in
theorem gX2_makePlain_X2_cutAt : GoodIn wsX2_makePlain (wsV RX2 73 RX2 yX2_cutAt wsX2_cutAt) := goodIn_app (goodIn_of _ (by decide +kernel)) ggX2_makePlain_X2_cutAt
theorem dX2_makePlain_0 : decode cX2_makePlain 0 = .ok (.aload_n 0, 1) := by decide +kernel
theorem dX2_makePlain_1 : decode cX2_makePlain 1 = .ok (.iconst 0, 1) := by decide +kernel
theorem dX2_makePlain_2 : decode cX2_makePlain 2 = .ok (.putfield 62, 3) := by decide +kernel
theorem dX2_makePlain_5 : decode cX2_makePlain 5 = .ok (.aload_n 0, 1) := by decide +kernel
theorem dX2_makePlain_6 : decode cX2_makePlain 6 = .ok (.iconst 0, 1) := by decide +kernel
theorem dX2_makePlain_7 : decode cX2_makePlain 7 = .ok (.putfield 65, 3) := by decide +kernel
theorem dX2_makePlain_10 : decode cX2_makePlain 10 = .ok (.aload_n 0, 1) := by decide +kernel
theorem dX2_makePlain_11 : decode cX2_makePlain 11 = .ok (.invokevirtual 69, 3) := by decide +kernel
theorem dX2_makePlain_14 : decode cX2_makePlain 14 = .ok (.istore_n 1, 1) := by decide +kernel
theorem dX2_makePlain_15 : decode cX2_makePlain 15 = .ok (.iload_n 1, 1) := by decide +kernel
theorem dX2_makePlain_16 : decode cX2_makePlain 16 = .ok (.iconst (-1), 1) := by decide +kernel
theorem dX2_makePlain_17 : decode cX2_makePlain 17 = .ok (.if_icmp .eq 66, 3) := by decide +kernel
theorem dX2_makePlain_20 : decode cX2_makePlain 20 = .ok (.aload_n 0, 1) := by decide +kernel
theorem dX2_makePlain_21 : decode cX2_makePlain 21 = .ok (.getfield 65, 3) := by decide +kernel
theorem dX2_makePlain_24 : decode cX2_makePlain 24 = .ok (.ifCond .ne 59, 3) := by decide +kernel
theorem dX2_makePlain_27 : decode cX2_makePlain 27 = .ok (.aload_n 0, 1) := by decide +kernel
theorem dX2_makePlain_28 : decode cX2_makePlain 28 = .ok (.getfield 62, 3) := by decide +kernel
theorem dX2_makePlain_31 : decode cX2_makePlain 31 = .ok (.bipush 100, 2) := by decide +kernel
theorem dX2_makePlain_33 : decode cX2_makePlain 33 = .ok (.if_icmp .ne 9, 3) := by decide +kernel
theorem dX2_makePlain_36 : decode cX2_makePlain 36 = .ok (.aload_n 0, 1) := by decide +kernel
theorem dX2_makePlain_37 : decode cX2_makePlain 37 = .ok (.iconst 1, 1) := by decide +kernel
theorem dX2_makePlain_38 : decode cX2_makePlain 38 = .ok (.putfield 65, 3) := by decide +kernel
theorem dX2_makePlain_41 : decode cX2_makePlain 41 = .ok (.return_, 1) := by decide +kernel
theorem dX2_makePlain_42 : decode cX2_makePlain 42 = .ok (.aload_n 0, 1) := by decide +kernel
theorem dX2_makePlain_43 : decode cX2_makePlain 43 = .ok (.iload_n 1, 1) := by decide +kernel
theorem dX2_makePlain_44 : decode cX2_makePlain 44 = .ok (.invokevirtual 73, 3) := by decide +kernel
theorem dX2_makePlain_47 : decode cX2_makePlain 47 = .ok (.aload_n 0, 1) := by decide +kernel
theorem dX2_makePlain_48 : decode cX2_makePlain 48 = .ok (.dup, 1) := by decide +kernel
theorem dX2_makePlain_49 : decode cX2_makePlain 49 = .ok (.getfield 62, 3) := by decide +kernel
theorem dX2_makePlain_52 : decode cX2_makePlain 52 = .ok (.iconst 1, 1) := by decide +kernel
theorem dX2_makePlain_53 : decode cX2_makePlain 53 = .ok (.iadd, 1) := by decide +kernel
theorem dX2_makePlain_54 : decode cX2_makePlain 54 = .ok (.putfield 62, 3) := by decide +kernel
theorem dX2_makePlain_57 : decode cX2_makePlain 57 = .ok (.aload_n 0, 1) := by decide +kernel
theorem dX2_makePlain_58 : decode cX2_makePlain 58 = .ok (.aload_n 0, 1) := by decide +kernel
theorem dX2_makePlain_59 : decode cX2_makePlain 59 = .ok (.getfield 36, 3) := by decide +kernel
theorem dX2_makePlain_62 : decode cX2_makePlain 62 = .ok (.bipush 100, 2) := by decide +kernel
theorem dX2_makePlain_64 : decode cX2_makePlain 64 = .ok (.if_icmp .le 7, 3) := by decide +kernel
theorem dX2_makePlain_67 : decode cX2_makePlain 67 = .ok (.iconst 1, 1) := by decide +kernel
theorem dX2_makePlain_68 : decode cX2_makePlain 68 = .ok (.goto 4, 3) := by decide +kernel
theorem dX2_makePlain_71 : decode cX2_makePlain 71 = .ok (.iconst 0, 1) := by decide +kernel
theorem dX2_makePlain_72 : decode cX2_makePlain 72 = .ok (.putfield 65, 3) := by decide +kernel
theorem dX2_makePlain_75 : decode cX2_makePlain 75 = .ok (.aload_n 0, 1) := by decide +kernel
theorem dX2_makePlain_76 : decode cX2_makePlain 76 = .ok (.invokevirtual 69, 3) := by decide +kernel
theorem dX2_makePlain_79 : decode cX2_makePlain 79 = .ok (.istore_n 1, 1) := by decide +kernel
theorem dX2_makePlain_80 : decode cX2_makePlain 80 = .ok (.goto (-65), 3) := by decide +kernel
theorem dX2_makePlain_83 : decode cX2_makePlain 83 = .ok (.return_, 1) := by decide +kernel
theorem dX2_least_0 : decode cX2_least 0 = .ok (.iconst 0, 1) := by decide +kernel
theorem dX2_least_1 : decode cX2_least 1 = .ok (.istore_n 1, 1) := by decide +kernel
theorem dX2_least_2 : decode cX2_least 2 = .ok (.iconst 0, 1) := by decide +kernel
theorem dX2_least_3 : decode cX2_least 3 = .ok (.istore_n 2, 1) := by decide +kernel
theorem dX2_least_4 : decode cX2_least 4 = .ok (.iload_n 2, 1) := by decide +kernel
theorem dX2_least_5 : decode cX2_least 5 = .ok (.aload_n 0, 1) := by decide +kernel
theorem dX2_least_6 : decode cX2_least 6 = .ok (.getfield 36, 3) := by decide +kernel
theorem dX2_least_9 : decode cX2_least 9 = .ok (.if_icmp .ge 36, 3) := by decide +kernel
theorem dX2_least_12 : decode cX2_least 12 = .ok (.iload_n 1, 1) := by decide +kernel
theorem dX2_least_13 : decode cX2_least 13 = .ok (.ifCond .eq 16, 3) := by decide +kernel
theorem dX2_least_16 : decode cX2_least 16 = .ok (.aload_n 0, 1) := by decide +kernel
theorem dX2_least_17 : decode cX2_least 17 = .ok (.getfield 20, 3) := by decide +kernel
theorem dX2_least_20 : decode cX2_least 20 = .ok (.iload_n 2, 1) := by decide +kernel
theorem dX2_least_21 : decode cX2_least 21 = .ok (.iaload, 1) := by decide +kernel
theorem dX2_least_22 : decode cX2_least 22 = .ok (.invokestatic 47, 3) := by decide +kernel
theorem dX2_least_25 : decode cX2_least 25 = .ok (.iload_n 1, 1) := by decide +kernel
theorem dX2_least_26 : decode cX2_least 26 = .ok (.if_icmp .ge 13, 3) := by decide +kernel
theorem dX2_least_29 : decode cX2_least 29 = .ok (.aload_n 0, 1) := by decide +kernel
theorem dX2_least_30 : decode cX2_least 30 = .ok (.getfield 20, 3) := by decide +kernel
theorem dX2_least_33 : decode cX2_least 33 = .ok (.iload_n 2, 1) := by decide +kernel
theorem dX2_least_34 : decode cX2_least 34 = .ok (.iaload, 1) := by decide +kernel
theorem dX2_least_35 : decode cX2_least 35 = .ok (.invokestatic 47, 3) := by decide +kernel
theorem dX2_least_38 : decode cX2_least 38 = .ok (.istore_n 1, 1) := by decide +kernel
theorem dX2_least_39 : decode cX2_least 39 = .ok (.iinc 2 1, 3) := by decide +kernel
theorem dX2_least_42 : decode cX2_least 42 = .ok (.goto (-38), 3) := by decide +kernel
theorem dX2_least_45 : decode cX2_least 45 = .ok (.iload_n 1, 1) := by decide +kernel
theorem dX2_least_46 : decode cX2_least 46 = .ok (.ireturn, 1) := by decide +kernel
set_option maxRecDepth 20000 in
theorem ggX2_sign_X2_least : GoodIn wsX2_sign wsX2_least := goodIn_r _ [11, 1, 2, 3, 4, 5, 6, 12, 13, 14, 15, 16, 17, 18, 19, 20, 21] (by decide +kernel) (by decide +kernel)
set_option maxRecDepth 20000 in
theorem gX2_sign_X2_least : GoodIn wsX2_sign (wsV RX2 77 RX2 yX2_least wsX2_least) := goodIn_app (goodIn_of _ (by decide +kernel)) ggX2_sign_X2_least
theorem dX2_sign_0 : decode cX2_sign 0 = .ok (.aload_n 0, 1) := by decide +kernel
theorem dX2_sign_1 : decode cX2_sign 1 = .ok (.invokevirtual 77, 3) := by decide +kernel
theorem dX2_sign_4 : decode cX2_sign 4 = .ok (.istore_n 1, 1) := by decide +kernel
theorem dX2_sign_5 : decode cX2_sign 5 = .ok (.iconst 0, 1) := by decide +kernel
theorem dX2_sign_6 : decode cX2_sign 6 = .ok (.istore_n 2, 1) := by decide +kernel
theorem dX2_sign_7 : decode cX2_sign 7 = .ok (.iload_n 2, 1) := by decide +kernel
theorem dX2_sign_8 : decode cX2_sign 8 = .ok (.aload_n 0, 1) := by decide +kernel
theorem dX2_sign_9 : decode cX2_sign 9 = .ok (.getfield 36, 3) := by decide +kernel
theorem dX2_sign_12 : decode cX2_sign 12 = .ok (.if_icmp .ge 37, 3) := by decide +kernel
theorem dX2_sign_15 : decode cX2_sign 15 = .ok (.aload_n 0, 1) := by decide +kernel
theorem dX2_sign_16 : decode cX2_sign 16 = .ok (.getfield 20, 3) := by decide +kernel
theorem dX2_sign_19 : decode cX2_sign 19 = .ok (.iload_n 2, 1) := by decide +kernel
theorem dX2_sign_20 : decode cX2_sign 20 = .ok (.iaload, 1) := by decide +kernel
theorem dX2_sign_21 : decode cX2_sign 21 = .ok (.invokestatic 47, 3) := by decide +kernel
theorem dX2_sign_24 : decode cX2_sign 24 = .ok (.iload_n 1, 1) := by decide +kernel
theorem dX2_sign_25 : decode cX2_sign 25 = .ok (.if_icmp .ne 18, 3) := by decide +kernel
theorem dX2_sign_28 : decode cX2_sign 28 = .ok (.aload_n 0, 1) := by decide +kernel
theorem dX2_sign_29 : decode cX2_sign 29 = .ok (.getfield 20, 3) := by decide +kernel
theorem dX2_sign_32 : decode cX2_sign 32 = .ok (.iload_n 2, 1) := by decide +kernel
theorem dX2_sign_33 : decode cX2_sign 33 = .ok (.iaload, 1) := by decide +kernel
theorem dX2_sign_34 : decode cX2_sign 34 = .ok (.ifCond .le 7, 3) := by decide +kernel
theorem dX2_sign_37 : decode cX2_sign 37 = .ok (.iconst 1, 1) := by decide +kernel
theorem dX2_sign_38 : decode cX2_sign 38 = .ok (.goto 4, 3) := by decide +kernel
theorem dX2_sign_41 : decode cX2_sign 41 = .ok (.iconst (-1), 1) := by decide +kernel
theorem dX2_sign_42 : decode cX2_sign 42 = .ok (.ireturn, 1) := by decide +kernel
theorem dX2_sign_43 : decode cX2_sign 43 = .ok (.iinc 2 1, 3) := by decide +kernel
theorem dX2_sign_46 : decode cX2_sign 46 = .ok (.goto (-39), 3) := by decide +kernel
theorem dX2_sign_49 : decode cX2_sign 49 = .ok (.iconst 0, 1) := by decide +kernel
theorem dX2_sign_50 : decode cX2_sign 50 = .ok (.ireturn, 1) := by decide +kernel
set_option maxRecDepth 20000 in
theorem ggX2_loadBoth_X2_take : GoodIn wsX2_loadBoth wsX2_take := goodIn_r _ [6, 7, 8, 1, 9, 10, 11, 5, 12, 13, 14, 15, 16, 17, 18, 19, 20, 21, 22, 23] (by decide +kernel) (by decide +kernel)
set_option maxRecDepth 20000 in
theorem gX2_loadBoth_X2_take : GoodIn wsX2_loadBoth (wsV RX2 43 RX2 yX2_take wsX2_take) := goodIn_app (goodIn_of _ (by decide +kernel)) ggX2_loadBoth_X2_take
theorem dX2_loadBoth_0 : decode cX2_loadBoth 0 = .ok (.aload_n 0, 1) := by decide +kernel
theorem dX2_loadBoth_1 : decode cX2_loadBoth 1 = .ok (.iconst 0, 1) := by decide +kernel
theorem dX2_loadBoth_2 : decode cX2_loadBoth 2 = .ok (.putfield 36, 3) := by decide +kernel
theorem dX2_loadBoth_5 : decode cX2_loadBoth 5 = .ok (.aload_n 0, 1) := by decide +kernel
theorem dX2_loadBoth_6 : decode cX2_loadBoth 6 = .ok (.iconst 0, 1) := by decide +kernel
theorem dX2_loadBoth_7 : decode cX2_loadBoth 7 = .ok (.iconst 1, 1) := by decide +kernel
theorem dX2_loadBoth_8 : decode cX2_loadBoth 8 = .ok (.invokevirtual 43, 3) := by decide +kernel
theorem dX2_loadBoth_11 : decode cX2_loadBoth 11 = .ok (.aload_n 0, 1) := by decide +kernel
theorem dX2_loadBoth_12 : decode cX2_loadBoth 12 = .ok (.iconst 1, 1) := by decide +kernel
theorem dX2_loadBoth_13 : decode cX2_loadBoth 13 = .ok (.iconst 0, 1) := by decide +kernel
theorem dX2_loadBoth_14 : decode cX2_loadBoth 14 = .ok (.invokevirtual 43, 3) := by decide +kernel
theorem dX2_loadBoth_17 : decode cX2_loadBoth 17 = .ok (.return_, 1) := by decide +kernel
set_option maxRecDepth 20000 in
theorem ggX2_setRopes_X2_isIn : GoodIn wsX2_setRopes wsX2_isIn := goodIn_r _ [7] (by decide +kernel) (by decide +kernel)
set_option maxRecDepth 20000 in
theorem gX2_setRopes_X2_isIn : GoodIn wsX2_setRopes (va_wsS RX2 32 yX2_isIn wsX2_isIn) := goodIn_app (goodIn_of _ (by decide +kernel)) ggX2_setRopes_X2_isIn
set_option maxRecDepth 20000 in
theorem ggX2_setRopes_X2_no : GoodIn wsX2_setRopes wsX2_no := goodIn_r _ [11, 1, 12, 13, 14, 15, 16, 17, 18, 19, 20, 21] (by decide +kernel) (by decide +kernel)
set_option maxRecDepth 20000 in
theorem gX2_setRopes_X2_no : GoodIn wsX2_setRopes (wsV RX2 80 RX2 yX2_no wsX2_no) := goodIn_app (goodIn_of _ (by decide +kernel)) ggX2_setRopes_X2_no
theorem dX2_setRopes_0 : decode cX2_setRopes 0 = .ok (.aload_n 0, 1) := by decide +kernel
theorem dX2_setRopes_1 : decode cX2_setRopes 1 = .ok (.iconst 0, 1) := by decide +kernel
theorem dX2_setRopes_2 : decode cX2_setRopes 2 = .ok (.putfield 29, 3) := by decide +kernel
theorem dX2_setRopes_5 : decode cX2_setRopes 5 = .ok (.iload_n 1, 1) := by decide +kernel
theorem dX2_setRopes_6 : decode cX2_setRopes 6 = .ok (.iconst 3, 1) := by decide +kernel
theorem dX2_setRopes_7 : decode cX2_setRopes 7 = .ok (.bipush 6, 2) := by decide +kernel
theorem dX2_setRopes_9 : decode cX2_setRopes 9 = .ok (.invokestatic 32, 3) := by decide +kernel
theorem dX2_setRopes_12 : decode cX2_setRopes 12 = .ok (.ifCond .ne 9, 3) := by decide +kernel
theorem dX2_setRopes_15 : decode cX2_setRopes 15 = .ok (.aload_n 0, 1) := by decide +kernel
theorem dX2_setRopes_16 : decode cX2_setRopes 16 = .ok (.iconst 1, 1) := by decide +kernel
theorem dX2_setRopes_17 : decode cX2_setRopes 17 = .ok (.invokevirtual 80, 3) := by decide +kernel
theorem dX2_setRopes_20 : decode cX2_setRopes 20 = .ok (.ireturn, 1) := by decide +kernel
theorem dX2_setRopes_21 : decode cX2_setRopes 21 = .ok (.aload_n 0, 1) := by decide +kernel
theorem dX2_setRopes_22 : decode cX2_setRopes 22 = .ok (.getfield 9, 3) := by decide +kernel
theorem dX2_setRopes_25 : decode cX2_setRopes 25 = .ok (.istore_n 2, 1) := by decide +kernel
theorem dX2_setRopes_26 : decode cX2_setRopes 26 = .ok (.aload_n 0, 1) := by decide +kernel
theorem dX2_setRopes_27 : decode cX2_setRopes 27 = .ok (.iload_n 1, 1) := by decide +kernel
theorem dX2_setRopes_28 : decode cX2_setRopes 28 = .ok (.putfield 9, 3) := by decide +kernel
theorem dX2_setRopes_31 : decode cX2_setRopes 31 = .ok (.aload_n 0, 1) := by decide +kernel
theorem dX2_setRopes_32 : decode cX2_setRopes 32 = .ok (.getfield 13, 3) := by decide +kernel
theorem dX2_setRopes_35 : decode cX2_setRopes 35 = .ok (.iconst 0, 1) := by decide +kernel
theorem dX2_setRopes_36 : decode cX2_setRopes 36 = .ok (.iconst 0, 1) := by decide +kernel
theorem dX2_setRopes_37 : decode cX2_setRopes 37 = .ok (.iastore, 1) := by decide +kernel
theorem dX2_setRopes_38 : decode cX2_setRopes 38 = .ok (.aload_n 0, 1) := by decide +kernel
theorem dX2_setRopes_39 : decode cX2_setRopes 39 = .ok (.getfield 13, 3) := by decide +kernel
theorem dX2_setRopes_42 : decode cX2_setRopes 42 = .ok (.iconst 1, 1) := by decide +kernel
theorem dX2_setRopes_43 : decode cX2_setRopes 43 = .ok (.iconst 0, 1) := by decide +kernel
theorem dX2_setRopes_44 : decode cX2_setRopes 44 = .ok (.iastore, 1) := by decide +kernel
theorem dX2_setRopes_45 : decode cX2_setRopes 45 = .ok (.iload_n 2, 1) := by decide +kernel
theorem dX2_setRopes_46 : decode cX2_setRopes 46 = .ok (.ireturn, 1) := by decide +kernel
set_option maxRecDepth 20000 in
theorem ggX2_twist_X2_isWord : GoodIn wsX2_twist wsX2_isWord := goodIn_r _ [6, 7, 8, 5, 9] (by decide +kernel) (by decide +kernel)
set_option maxRecDepth 20000 in
theorem gX2_twist_X2_isWord : GoodIn wsX2_twist (va_wsS RX2 83 yX2_isWord wsX2_isWord) := goodIn_app (goodIn_of _ (by decide +kernel)) ggX2_twist_X2_isWord
set_option maxRecDepth 20000 in
theorem ggX2_twist_X2_no : GoodIn wsX2_twist wsX2_no := goodIn_r _ [13, 1, 24, 25, 26, 27, 28, 29, 30, 31, 32, 33] (by decide +kernel) (by decide +kernel)
set_option maxRecDepth 20000 in
theorem gX2_twist_X2_no : GoodIn wsX2_twist (wsV RX2 80 RX2 yX2_no wsX2_no) := goodIn_app (goodIn_of _ (by decide +kernel)) ggX2_twist_X2_no
set_option maxRecDepth 20000 in
theorem ggX2_twist_X2_isLetter : GoodIn wsX2_twist wsX2_isLetter := goodIn_r _ [17, 18, 7, 8, 5, 9, 24, 25, 26, 27, 28, 29, 30, 31, 32, 33] (by decide +kernel) (by decide +kernel)
set_option maxRecDepth 20000 in
theorem gX2_twist_X2_isLetter : GoodIn wsX2_twist (wsV RX2 87 RX2 yX2_isLetter wsX2_isLetter) := goodIn_app (goodIn_of _ (by decide +kernel)) ggX2_twist_X2_isLetter
set_option maxRecDepth 20000 in
theorem ggX2_twist_X2_put : GoodIn wsX2_twist wsX2_put := goodIn_r _ [22, 23, 24, 25, 26, 27, 28, 29, 30, 31, 32, 33] (by decide +kernel) (by decide +kernel)
set_option maxRecDepth 20000 in
theorem gX2_twist_X2_put : GoodIn wsX2_twist (wsV RX2 90 RX2 yX2_put wsX2_put) := goodIn_app (goodIn_of _ (by decide +kernel)) ggX2_twist_X2_put
theorem dX2_twist_0 : decode cX2_twist 0 = .ok (.aload_n 0, 1) := by decide +kernel
theorem dX2_twist_1 : decode cX2_twist 1 = .ok (.iconst 0, 1) := by decide +kernel
theorem dX2_twist_2 : decode cX2_twist 2 = .ok (.putfield 29, 3) := by decide +kernel
theorem dX2_twist_5 : decode cX2_twist 5 = .ok (.iload_n 1, 1) := by decide +kernel
theorem dX2_twist_6 : decode cX2_twist 6 = .ok (.invokestatic 83, 3) := by decide +kernel
theorem dX2_twist_9 : decode cX2_twist 9 = .ok (.ifCond .ne 9, 3) := by decide +kernel
theorem dX2_twist_12 : decode cX2_twist 12 = .ok (.aload_n 0, 1) := by decide +kernel
theorem dX2_twist_13 : decode cX2_twist 13 = .ok (.iconst 1, 1) := by decide +kernel
theorem dX2_twist_14 : decode cX2_twist 14 = .ok (.invokevirtual 80, 3) := by decide +kernel
theorem dX2_twist_17 : decode cX2_twist 17 = .ok (.ireturn, 1) := by decide +kernel
theorem dX2_twist_18 : decode cX2_twist 18 = .ok (.aload_n 0, 1) := by decide +kernel
theorem dX2_twist_19 : decode cX2_twist 19 = .ok (.iload_n 2, 1) := by decide +kernel
theorem dX2_twist_20 : decode cX2_twist 20 = .ok (.invokevirtual 87, 3) := by decide +kernel
theorem dX2_twist_23 : decode cX2_twist 23 = .ok (.ifCond .ne 9, 3) := by decide +kernel
theorem dX2_twist_26 : decode cX2_twist 26 = .ok (.aload_n 0, 1) := by decide +kernel
theorem dX2_twist_27 : decode cX2_twist 27 = .ok (.iconst 2, 1) := by decide +kernel
theorem dX2_twist_28 : decode cX2_twist 28 = .ok (.invokevirtual 80, 3) := by decide +kernel
theorem dX2_twist_31 : decode cX2_twist 31 = .ok (.ireturn, 1) := by decide +kernel
theorem dX2_twist_32 : decode cX2_twist 32 = .ok (.aload_n 0, 1) := by decide +kernel
theorem dX2_twist_33 : decode cX2_twist 33 = .ok (.getfield 13, 3) := by decide +kernel
theorem dX2_twist_36 : decode cX2_twist 36 = .ok (.iload_n 1, 1) := by decide +kernel
theorem dX2_twist_37 : decode cX2_twist 37 = .ok (.iaload, 1) := by decide +kernel
theorem dX2_twist_38 : decode cX2_twist 38 = .ok (.bipush 30, 2) := by decide +kernel
theorem dX2_twist_40 : decode cX2_twist 40 = .ok (.if_icmp .ne 9, 3) := by decide +kernel
theorem dX2_twist_43 : decode cX2_twist 43 = .ok (.aload_n 0, 1) := by decide +kernel
theorem dX2_twist_44 : decode cX2_twist 44 = .ok (.iconst 3, 1) := by decide +kernel
theorem dX2_twist_45 : decode cX2_twist 45 = .ok (.invokevirtual 80, 3) := by decide +kernel
theorem dX2_twist_48 : decode cX2_twist 48 = .ok (.ireturn, 1) := by decide +kernel
theorem dX2_twist_49 : decode cX2_twist 49 = .ok (.aload_n 0, 1) := by decide +kernel
theorem dX2_twist_50 : decode cX2_twist 50 = .ok (.iload_n 1, 1) := by decide +kernel
theorem dX2_twist_51 : decode cX2_twist 51 = .ok (.aload_n 0, 1) := by decide +kernel
theorem dX2_twist_52 : decode cX2_twist 52 = .ok (.getfield 13, 3) := by decide +kernel
theorem dX2_twist_55 : decode cX2_twist 55 = .ok (.iload_n 1, 1) := by decide +kernel
theorem dX2_twist_56 : decode cX2_twist 56 = .ok (.iaload, 1) := by decide +kernel
theorem dX2_twist_57 : decode cX2_twist 57 = .ok (.iload_n 2, 1) := by decide +kernel
theorem dX2_twist_58 : decode cX2_twist 58 = .ok (.invokevirtual 90, 3) := by decide +kernel
theorem dX2_twist_61 : decode cX2_twist 61 = .ok (.aload_n 0, 1) := by decide +kernel
theorem dX2_twist_62 : decode cX2_twist 62 = .ok (.getfield 13, 3) := by decide +kernel
theorem dX2_twist_65 : decode cX2_twist 65 = .ok (.iload_n 1, 1) := by decide +kernel
theorem dX2_twist_66 : decode cX2_twist 66 = .ok (.dup2, 1) := by decide +kernel
theorem dX2_twist_67 : decode cX2_twist 67 = .ok (.iaload, 1) := by decide +kernel
theorem dX2_twist_68 : decode cX2_twist 68 = .ok (.iconst 1, 1) := by decide +kernel
theorem dX2_twist_69 : decode cX2_twist 69 = .ok (.iadd, 1) := by decide +kernel
theorem dX2_twist_70 : decode cX2_twist 70 = .ok (.iastore, 1) := by decide +kernel
theorem dX2_twist_71 : decode cX2_twist 71 = .ok (.aload_n 0, 1) := by decide +kernel
theorem dX2_twist_72 : decode cX2_twist 72 = .ok (.getfield 13, 3) := by decide +kernel
theorem dX2_twist_75 : decode cX2_twist 75 = .ok (.iload_n 1, 1) := by decide +kernel
theorem dX2_twist_76 : decode cX2_twist 76 = .ok (.iaload, 1) := by decide +kernel
theorem dX2_twist_77 : decode cX2_twist 77 = .ok (.ireturn, 1) := by decide +kernel
set_option maxRecDepth 20000 in
theorem ggX2_untwist_X2_isWord : GoodIn wsX2_untwist wsX2_isWord := goodIn_r _ [6, 7, 8, 5, 9] (by decide +kernel) (by decide +kernel)
set_option maxRecDepth 20000 in
theorem gX2_untwist_X2_isWord : GoodIn wsX2_untwist (va_wsS RX2 83 yX2_isWord wsX2_isWord) := goodIn_app (goodIn_of _ (by decide +kernel)) ggX2_untwist_X2_isWord
set_option maxRecDepth 20000 in
theorem ggX2_untwist_X2_no : GoodIn wsX2_untwist wsX2_no := goodIn_r _ [13, 1, 19, 20, 21, 22, 23, 24, 25, 26, 27, 28] (by decide +kernel) (by decide +kernel)
set_option maxRecDepth 20000 in
theorem gX2_untwist_X2_no : GoodIn wsX2_untwist (wsV RX2 80 RX2 yX2_no wsX2_no) := goodIn_app (goodIn_of _ (by decide +kernel)) ggX2_untwist_X2_no
set_option maxRecDepth 20000 in
theorem ggX2_untwist_X2_at : GoodIn wsX2_untwist wsX2_at := goodIn_r _ [17, 18, 19, 20, 21, 22, 23, 24, 25, 26, 27, 28] (by decide +kernel) (by decide +kernel)
set_option maxRecDepth 20000 in
theorem gX2_untwist_X2_at : GoodIn wsX2_untwist (wsV RX2 39 RX2 yX2_at wsX2_at) := goodIn_app (goodIn_of _ (by decide +kernel)) ggX2_untwist_X2_at
theorem dX2_untwist_0 : decode cX2_untwist 0 = .ok (.aload_n 0, 1) := by decide +kernel
theorem dX2_untwist_1 : decode cX2_untwist 1 = .ok (.iconst 0, 1) := by decide +kernel
theorem dX2_untwist_2 : decode cX2_untwist 2 = .ok (.putfield 29, 3) := by decide +kernel
theorem dX2_untwist_5 : decode cX2_untwist 5 = .ok (.iload_n 1, 1) := by decide +kernel
theorem dX2_untwist_6 : decode cX2_untwist 6 = .ok (.invokestatic 83, 3) := by decide +kernel
theorem dX2_untwist_9 : decode cX2_untwist 9 = .ok (.ifCond .ne 9, 3) := by decide +kernel
theorem dX2_untwist_12 : decode cX2_untwist 12 = .ok (.aload_n 0, 1) := by decide +kernel
theorem dX2_untwist_13 : decode cX2_untwist 13 = .ok (.iconst 1, 1) := by decide +kernel
theorem dX2_untwist_14 : decode cX2_untwist 14 = .ok (.invokevirtual 80, 3) := by decide +kernel
theorem dX2_untwist_17 : decode cX2_untwist 17 = .ok (.ireturn, 1) := by decide +kernel
theorem dX2_untwist_18 : decode cX2_untwist 18 = .ok (.aload_n 0, 1) := by decide +kernel
theorem dX2_untwist_19 : decode cX2_untwist 19 = .ok (.getfield 13, 3) := by decide +kernel
theorem dX2_untwist_22 : decode cX2_untwist 22 = .ok (.iload_n 1, 1) := by decide +kernel
theorem dX2_untwist_23 : decode cX2_untwist 23 = .ok (.iaload, 1) := by decide +kernel
theorem dX2_untwist_24 : decode cX2_untwist 24 = .ok (.ifCond .ne 9, 3) := by decide +kernel
theorem dX2_untwist_27 : decode cX2_untwist 27 = .ok (.aload_n 0, 1) := by decide +kernel
theorem dX2_untwist_28 : decode cX2_untwist 28 = .ok (.iconst 2, 1) := by decide +kernel
theorem dX2_untwist_29 : decode cX2_untwist 29 = .ok (.invokevirtual 80, 3) := by decide +kernel
theorem dX2_untwist_32 : decode cX2_untwist 32 = .ok (.ireturn, 1) := by decide +kernel
theorem dX2_untwist_33 : decode cX2_untwist 33 = .ok (.aload_n 0, 1) := by decide +kernel
theorem dX2_untwist_34 : decode cX2_untwist 34 = .ok (.getfield 13, 3) := by decide +kernel
theorem dX2_untwist_37 : decode cX2_untwist 37 = .ok (.iload_n 1, 1) := by decide +kernel
theorem dX2_untwist_38 : decode cX2_untwist 38 = .ok (.dup2, 1) := by decide +kernel
theorem dX2_untwist_39 : decode cX2_untwist 39 = .ok (.iaload, 1) := by decide +kernel
theorem dX2_untwist_40 : decode cX2_untwist 40 = .ok (.iconst 1, 1) := by decide +kernel
theorem dX2_untwist_41 : decode cX2_untwist 41 = .ok (.isub, 1) := by decide +kernel
theorem dX2_untwist_42 : decode cX2_untwist 42 = .ok (.iastore, 1) := by decide +kernel
theorem dX2_untwist_43 : decode cX2_untwist 43 = .ok (.aload_n 0, 1) := by decide +kernel
theorem dX2_untwist_44 : decode cX2_untwist 44 = .ok (.iload_n 1, 1) := by decide +kernel
theorem dX2_untwist_45 : decode cX2_untwist 45 = .ok (.aload_n 0, 1) := by decide +kernel
theorem dX2_untwist_46 : decode cX2_untwist 46 = .ok (.getfield 13, 3) := by decide +kernel
theorem dX2_untwist_49 : decode cX2_untwist 49 = .ok (.iload_n 1, 1) := by decide +kernel
theorem dX2_untwist_50 : decode cX2_untwist 50 = .ok (.iaload, 1) := by decide +kernel
theorem dX2_untwist_51 : decode cX2_untwist 51 = .ok (.invokevirtual 39, 3) := by decide +kernel
theorem dX2_untwist_54 : decode cX2_untwist 54 = .ok (.ireturn, 1) := by decide +kernel
set_option maxRecDepth 20000 in
theorem ggX2_turn_X2_isWord : GoodIn wsX2_turn wsX2_isWord := goodIn_r _ [6, 7, 8, 5, 9] (by decide +kernel) (by decide +kernel)
set_option maxRecDepth 20000 in
theorem gX2_turn_X2_isWord : GoodIn wsX2_turn (va_wsS RX2 83 yX2_isWord wsX2_isWord) := goodIn_app (goodIn_of _ (by decide +kernel)) ggX2_turn_X2_isWord
set_option maxRecDepth 20000 in
theorem ggX2_turn_X2_no : GoodIn wsX2_turn wsX2_no := goodIn_r _ [13, 1, 33, 34, 35, 36, 37, 38, 39, 40, 41, 42] (by decide +kernel) (by decide +kernel)
set_option maxRecDepth 20000 in
theorem gX2_turn_X2_no : GoodIn wsX2_turn (wsV RX2 80 RX2 yX2_no wsX2_no) := goodIn_app (goodIn_of _ (by decide +kernel)) ggX2_turn_X2_no
set_option maxRecDepth 20000 in
theorem ggX2_turn_X2_take : GoodIn wsX2_turn wsX2_take := goodIn_r _ [17, 18, 19, 2, 20, 21, 22, 5, 23, 24, 33, 34, 35, 36, 37, 38, 39, 40, 41, 42] (by decide +kernel) (by decide +kernel)
set_option maxRecDepth 20000 in
theorem gX2_turn_X2_take : GoodIn wsX2_turn (wsV RX2 43 RX2 yX2_take wsX2_take) := goodIn_app (goodIn_of _ (by decide +kernel)) ggX2_turn_X2_take
set_option maxRecDepth 20000 in
theorem ggX2_turn_X2_store : GoodIn wsX2_turn wsX2_store := goodIn_r _ [28, 2, 19, 18, 29, 30, 31, 5, 32, 24, 33, 34, 35, 36, 37, 38, 39, 40, 41, 42] (by decide +kernel) (by decide +kernel)
set_option maxRecDepth 20000 in
theorem gX2_turn_X2_store : GoodIn wsX2_turn (wsV RX2 94 RX2 yX2_store wsX2_store) := goodIn_app (goodIn_of _ (by decide +kernel)) ggX2_turn_X2_store
theorem dX2_turn_0 : decode cX2_turn 0 = .ok (.aload_n 0, 1) := by decide +kernel
theorem dX2_turn_1 : decode cX2_turn 1 = .ok (.iconst 0, 1) := by decide +kernel
theorem dX2_turn_2 : decode cX2_turn 2 = .ok (.putfield 29, 3) := by decide +kernel
theorem dX2_turn_5 : decode cX2_turn 5 = .ok (.iload_n 1, 1) := by decide +kernel
theorem dX2_turn_6 : decode cX2_turn 6 = .ok (.invokestatic 83, 3) := by decide +kernel
theorem dX2_turn_9 : decode cX2_turn 9 = .ok (.ifCond .ne 9, 3) := by decide +kernel
theorem dX2_turn_12 : decode cX2_turn 12 = .ok (.aload_n 0, 1) := by decide +kernel
theorem dX2_turn_13 : decode cX2_turn 13 = .ok (.iconst 1, 1) := by decide +kernel
theorem dX2_turn_14 : decode cX2_turn 14 = .ok (.invokevirtual 80, 3) := by decide +kernel
theorem dX2_turn_17 : decode cX2_turn 17 = .ok (.ireturn, 1) := by decide +kernel
theorem dX2_turn_18 : decode cX2_turn 18 = .ok (.aload_n 0, 1) := by decide +kernel
theorem dX2_turn_19 : decode cX2_turn 19 = .ok (.iconst 0, 1) := by decide +kernel
theorem dX2_turn_20 : decode cX2_turn 20 = .ok (.putfield 36, 3) := by decide +kernel
theorem dX2_turn_23 : decode cX2_turn 23 = .ok (.aload_n 0, 1) := by decide +kernel
theorem dX2_turn_24 : decode cX2_turn 24 = .ok (.iload_n 1, 1) := by decide +kernel
theorem dX2_turn_25 : decode cX2_turn 25 = .ok (.iconst 1, 1) := by decide +kernel
theorem dX2_turn_26 : decode cX2_turn 26 = .ok (.invokevirtual 43, 3) := by decide +kernel
theorem dX2_turn_29 : decode cX2_turn 29 = .ok (.aload_n 0, 1) := by decide +kernel
theorem dX2_turn_30 : decode cX2_turn 30 = .ok (.iload_n 1, 1) := by decide +kernel
theorem dX2_turn_31 : decode cX2_turn 31 = .ok (.invokevirtual 94, 3) := by decide +kernel
theorem dX2_turn_34 : decode cX2_turn 34 = .ok (.aload_n 0, 1) := by decide +kernel
theorem dX2_turn_35 : decode cX2_turn 35 = .ok (.getfield 36, 3) := by decide +kernel
theorem dX2_turn_38 : decode cX2_turn 38 = .ok (.ireturn, 1) := by decide +kernel
set_option maxRecDepth 20000 in
theorem ggX2_store_X2_put : GoodIn wsX2_store wsX2_put := goodIn_r _ [8, 9, 10, 11, 12, 13, 14, 15, 16, 17, 18, 19] (by decide +kernel) (by decide +kernel)
set_option maxRecDepth 20000 in
theorem gX2_store_X2_put : GoodIn wsX2_store (wsV RX2 90 RX2 yX2_put wsX2_put) := goodIn_app (goodIn_of _ (by decide +kernel)) ggX2_store_X2_put
theorem dX2_store_0 : decode cX2_store 0 = .ok (.iconst 0, 1) := by decide +kernel
theorem dX2_store_1 : decode cX2_store 1 = .ok (.istore_n 2, 1) := by decide +kernel
theorem dX2_store_2 : decode cX2_store 2 = .ok (.iload_n 2, 1) := by decide +kernel
theorem dX2_store_3 : decode cX2_store 3 = .ok (.aload_n 0, 1) := by decide +kernel
theorem dX2_store_4 : decode cX2_store 4 = .ok (.getfield 36, 3) := by decide +kernel
theorem dX2_store_7 : decode cX2_store 7 = .ok (.if_icmp .ge 21, 3) := by decide +kernel
theorem dX2_store_10 : decode cX2_store 10 = .ok (.aload_n 0, 1) := by decide +kernel
theorem dX2_store_11 : decode cX2_store 11 = .ok (.iload_n 1, 1) := by decide +kernel
theorem dX2_store_12 : decode cX2_store 12 = .ok (.iload_n 2, 1) := by decide +kernel
theorem dX2_store_13 : decode cX2_store 13 = .ok (.aload_n 0, 1) := by decide +kernel
theorem dX2_store_14 : decode cX2_store 14 = .ok (.getfield 20, 3) := by decide +kernel
theorem dX2_store_17 : decode cX2_store 17 = .ok (.iload_n 2, 1) := by decide +kernel
theorem dX2_store_18 : decode cX2_store 18 = .ok (.iaload, 1) := by decide +kernel
theorem dX2_store_19 : decode cX2_store 19 = .ok (.invokevirtual 90, 3) := by decide +kernel
theorem dX2_store_22 : decode cX2_store 22 = .ok (.iinc 2 1, 3) := by decide +kernel
theorem dX2_store_25 : decode cX2_store 25 = .ok (.goto (-23), 3) := by decide +kernel
theorem dX2_store_28 : decode cX2_store 28 = .ok (.aload_n 0, 1) := by decide +kernel
theorem dX2_store_29 : decode cX2_store 29 = .ok (.getfield 13, 3) := by decide +kernel
theorem dX2_store_32 : decode cX2_store 32 = .ok (.iload_n 1, 1) := by decide +kernel
theorem dX2_store_33 : decode cX2_store 33 = .ok (.aload_n 0, 1) := by decide +kernel
theorem dX2_store_34 : decode cX2_store 34 = .ok (.getfield 36, 3) := by decide +kernel
theorem dX2_store_37 : decode cX2_store 37 = .ok (.iastore, 1) := by decide +kernel
theorem dX2_store_38 : decode cX2_store 38 = .ok (.return_, 1) := by decide +kernel
set_option maxRecDepth 20000 in
theorem ggX2_join_X2_isWord : GoodIn wsX2_join wsX2_isWord := goodIn_r _ [7, 8, 9, 6, 10] (by decide +kernel) (by decide +kernel)
set_option maxRecDepth 20000 in
theorem gX2_join_X2_isWord : GoodIn wsX2_join (va_wsS RX2 83 yX2_isWord wsX2_isWord) := goodIn_app (goodIn_of _ (by decide +kernel)) ggX2_join_X2_isWord
set_option maxRecDepth 20000 in
theorem ggX2_join_X2_no : GoodIn wsX2_join wsX2_no := goodIn_r _ [14, 1, 37, 38, 39, 40, 41, 42, 43, 44, 45, 46] (by decide +kernel) (by decide +kernel)
set_option maxRecDepth 20000 in
theorem gX2_join_X2_no : GoodIn wsX2_join (wsV RX2 80 RX2 yX2_no wsX2_no) := goodIn_app (goodIn_of _ (by decide +kernel)) ggX2_join_X2_no
set_option maxRecDepth 20000 in
theorem ggX2_join_X2_load : GoodIn wsX2_join wsX2_load := goodIn_r _ [18, 3, 19, 20, 21, 6, 22, 2, 23, 24, 25, 26, 27, 28, 37, 38, 39, 40, 41, 42, 43, 44, 45, 46] (by decide +kernel) (by decide +kernel)
set_option maxRecDepth 20000 in
theorem gX2_join_X2_load : GoodIn wsX2_join (wsV RX2 97 RX2 yX2_load wsX2_load) := goodIn_app (goodIn_of _ (by decide +kernel)) ggX2_join_X2_load
set_option maxRecDepth 20000 in
theorem ggX2_join_X2_take : GoodIn wsX2_join wsX2_take := goodIn_r _ [22, 2, 23, 3, 24, 25, 26, 6, 27, 28, 37, 38, 39, 40, 41, 42, 43, 44, 45, 46] (by decide +kernel) (by decide +kernel)
set_option maxRecDepth 20000 in
theorem gX2_join_X2_take : GoodIn wsX2_join (wsV RX2 43 RX2 yX2_take wsX2_take) := goodIn_app (goodIn_of _ (by decide +kernel)) ggX2_join_X2_take
set_option maxRecDepth 20000 in
theorem ggX2_join_X2_store : GoodIn wsX2_join wsX2_store := goodIn_r _ [32, 3, 23, 2, 33, 34, 35, 6, 36, 28, 37, 38, 39, 40, 41, 42, 43, 44, 45, 46] (by decide +kernel) (by decide +kernel)
set_option maxRecDepth 20000 in
theorem gX2_join_X2_store : GoodIn wsX2_join (wsV RX2 94 RX2 yX2_store wsX2_store) := goodIn_app (goodIn_of _ (by decide +kernel)) ggX2_join_X2_store
theorem dX2_join_0 : decode cX2_join 0 = .ok (.aload_n 0, 1) := by decide +kernel
theorem dX2_join_1 : decode cX2_join 1 = .ok (.iconst 0, 1) := by decide +kernel
theorem dX2_join_2 : decode cX2_join 2 = .ok (.putfield 29, 3) := by decide +kernel
theorem dX2_join_5 : decode cX2_join 5 = .ok (.iload_n 1, 1) := by decide +kernel
theorem dX2_join_6 : decode cX2_join 6 = .ok (.invokestatic 83, 3) := by decide +kernel
theorem dX2_join_9 : decode cX2_join 9 = .ok (.ifCond .ne 9, 3) := by decide +kernel
theorem dX2_join_12 : decode cX2_join 12 = .ok (.aload_n 0, 1) := by decide +kernel
theorem dX2_join_13 : decode cX2_join 13 = .ok (.iconst 1, 1) := by decide +kernel
theorem dX2_join_14 : decode cX2_join 14 = .ok (.invokevirtual 80, 3) := by decide +kernel
theorem dX2_join_17 : decode cX2_join 17 = .ok (.ireturn, 1) := by decide +kernel
theorem dX2_join_18 : decode cX2_join 18 = .ok (.aload_n 0, 1) := by decide +kernel
theorem dX2_join_19 : decode cX2_join 19 = .ok (.getfield 13, 3) := by decide +kernel
theorem dX2_join_22 : decode cX2_join 22 = .ok (.iconst 0, 1) := by decide +kernel
theorem dX2_join_23 : decode cX2_join 23 = .ok (.iaload, 1) := by decide +kernel
theorem dX2_join_24 : decode cX2_join 24 = .ok (.aload_n 0, 1) := by decide +kernel
theorem dX2_join_25 : decode cX2_join 25 = .ok (.getfield 13, 3) := by decide +kernel
theorem dX2_join_28 : decode cX2_join 28 = .ok (.iconst 1, 1) := by decide +kernel
theorem dX2_join_29 : decode cX2_join 29 = .ok (.iaload, 1) := by decide +kernel
theorem dX2_join_30 : decode cX2_join 30 = .ok (.iadd, 1) := by decide +kernel
theorem dX2_join_31 : decode cX2_join 31 = .ok (.bipush 30, 2) := by decide +kernel
theorem dX2_join_33 : decode cX2_join 33 = .ok (.if_icmp .le 9, 3) := by decide +kernel
theorem dX2_join_36 : decode cX2_join 36 = .ok (.aload_n 0, 1) := by decide +kernel
theorem dX2_join_37 : decode cX2_join 37 = .ok (.iconst 2, 1) := by decide +kernel
theorem dX2_join_38 : decode cX2_join 38 = .ok (.invokevirtual 80, 3) := by decide +kernel
theorem dX2_join_41 : decode cX2_join 41 = .ok (.ireturn, 1) := by decide +kernel
theorem dX2_join_42 : decode cX2_join 42 = .ok (.aload_n 0, 1) := by decide +kernel
theorem dX2_join_43 : decode cX2_join 43 = .ok (.iload_n 1, 1) := by decide +kernel
theorem dX2_join_44 : decode cX2_join 44 = .ok (.invokevirtual 97, 3) := by decide +kernel
theorem dX2_join_47 : decode cX2_join 47 = .ok (.aload_n 0, 1) := by decide +kernel
theorem dX2_join_48 : decode cX2_join 48 = .ok (.iconst 1, 1) := by decide +kernel
theorem dX2_join_49 : decode cX2_join 49 = .ok (.iload_n 1, 1) := by decide +kernel
theorem dX2_join_50 : decode cX2_join 50 = .ok (.isub, 1) := by decide +kernel
theorem dX2_join_51 : decode cX2_join 51 = .ok (.iconst 0, 1) := by decide +kernel
theorem dX2_join_52 : decode cX2_join 52 = .ok (.invokevirtual 43, 3) := by decide +kernel
theorem dX2_join_55 : decode cX2_join 55 = .ok (.aload_n 0, 1) := by decide +kernel
theorem dX2_join_56 : decode cX2_join 56 = .ok (.iload_n 1, 1) := by decide +kernel
theorem dX2_join_57 : decode cX2_join 57 = .ok (.invokevirtual 94, 3) := by decide +kernel
theorem dX2_join_60 : decode cX2_join 60 = .ok (.aload_n 0, 1) := by decide +kernel
theorem dX2_join_61 : decode cX2_join 61 = .ok (.getfield 36, 3) := by decide +kernel
theorem dX2_join_64 : decode cX2_join 64 = .ok (.ireturn, 1) := by decide +kernel
set_option maxRecDepth 20000 in
theorem ggX2_swap_X2_isWord : GoodIn wsX2_swap wsX2_isWord := goodIn_r _ [10, 11, 12, 9, 13] (by decide +kernel) (by decide +kernel)
set_option maxRecDepth 20000 in
theorem gX2_swap_X2_isWord : GoodIn wsX2_swap (va_wsS RX2 83 yX2_isWord wsX2_isWord) := goodIn_app (goodIn_of _ (by decide +kernel)) ggX2_swap_X2_isWord
set_option maxRecDepth 20000 in
theorem ggX2_swap_X2_isIn : GoodIn wsX2_swap wsX2_isIn := goodIn_r _ [13] (by decide +kernel) (by decide +kernel)
set_option maxRecDepth 20000 in
theorem gX2_swap_X2_isIn : GoodIn wsX2_swap (va_wsS RX2 32 yX2_isIn wsX2_isIn) := goodIn_app (goodIn_of _ (by decide +kernel)) ggX2_swap_X2_isIn
set_option maxRecDepth 20000 in
theorem ggX2_swap_X2_no : GoodIn wsX2_swap wsX2_no := goodIn_r _ [17, 1, 27, 28, 29, 30, 31, 32, 33, 34, 35, 36] (by decide +kernel) (by decide +kernel)
set_option maxRecDepth 20000 in
theorem gX2_swap_X2_no : GoodIn wsX2_swap (wsV RX2 80 RX2 yX2_no wsX2_no) := goodIn_app (goodIn_of _ (by decide +kernel)) ggX2_swap_X2_no
set_option maxRecDepth 20000 in
theorem ggX2_swap_X2_at : GoodIn wsX2_swap wsX2_at := goodIn_r _ [21, 22, 27, 28, 29, 30, 31, 32, 33, 34, 35, 36] (by decide +kernel) (by decide +kernel)
set_option maxRecDepth 20000 in
theorem gX2_swap_X2_at : GoodIn wsX2_swap (wsV RX2 39 RX2 yX2_at wsX2_at) := goodIn_app (goodIn_of _ (by decide +kernel)) ggX2_swap_X2_at
set_option maxRecDepth 20000 in
theorem ggX2_swap_X2_put : GoodIn wsX2_swap wsX2_put := goodIn_r _ [26, 22, 27, 28, 29, 30, 31, 32, 33, 34, 35, 36] (by decide +kernel) (by decide +kernel)
set_option maxRecDepth 20000 in
theorem gX2_swap_X2_put : GoodIn wsX2_swap (wsV RX2 90 RX2 yX2_put wsX2_put) := goodIn_app (goodIn_of _ (by decide +kernel)) ggX2_swap_X2_put
theorem dX2_swap_0 : decode cX2_swap 0 = .ok (.aload_n 0, 1) := by decide +kernel
theorem dX2_swap_1 : decode cX2_swap 1 = .ok (.iconst 0, 1) := by decide +kernel
theorem dX2_swap_2 : decode cX2_swap 2 = .ok (.putfield 29, 3) := by decide +kernel
theorem dX2_swap_5 : decode cX2_swap 5 = .ok (.iload_n 1, 1) := by decide +kernel
theorem dX2_swap_6 : decode cX2_swap 6 = .ok (.invokestatic 83, 3) := by decide +kernel
theorem dX2_swap_9 : decode cX2_swap 9 = .ok (.ifCond .eq 19, 3) := by decide +kernel
theorem dX2_swap_12 : decode cX2_swap 12 = .ok (.iload_n 2, 1) := by decide +kernel
theorem dX2_swap_13 : decode cX2_swap 13 = .ok (.iconst 0, 1) := by decide +kernel
theorem dX2_swap_14 : decode cX2_swap 14 = .ok (.aload_n 0, 1) := by decide +kernel
theorem dX2_swap_15 : decode cX2_swap 15 = .ok (.getfield 13, 3) := by decide +kernel
theorem dX2_swap_18 : decode cX2_swap 18 = .ok (.iload_n 1, 1) := by decide +kernel
theorem dX2_swap_19 : decode cX2_swap 19 = .ok (.iaload, 1) := by decide +kernel
theorem dX2_swap_20 : decode cX2_swap 20 = .ok (.iconst 2, 1) := by decide +kernel
theorem dX2_swap_21 : decode cX2_swap 21 = .ok (.isub, 1) := by decide +kernel
theorem dX2_swap_22 : decode cX2_swap 22 = .ok (.invokestatic 32, 3) := by decide +kernel
theorem dX2_swap_25 : decode cX2_swap 25 = .ok (.ifCond .ne 9, 3) := by decide +kernel
theorem dX2_swap_28 : decode cX2_swap 28 = .ok (.aload_n 0, 1) := by decide +kernel
theorem dX2_swap_29 : decode cX2_swap 29 = .ok (.iconst 1, 1) := by decide +kernel
theorem dX2_swap_30 : decode cX2_swap 30 = .ok (.invokevirtual 80, 3) := by decide +kernel
theorem dX2_swap_33 : decode cX2_swap 33 = .ok (.ireturn, 1) := by decide +kernel
theorem dX2_swap_34 : decode cX2_swap 34 = .ok (.aload_n 0, 1) := by decide +kernel
theorem dX2_swap_35 : decode cX2_swap 35 = .ok (.iload_n 1, 1) := by decide +kernel
theorem dX2_swap_36 : decode cX2_swap 36 = .ok (.iload_n 2, 1) := by decide +kernel
theorem dX2_swap_37 : decode cX2_swap 37 = .ok (.invokevirtual 39, 3) := by decide +kernel
theorem dX2_swap_40 : decode cX2_swap 40 = .ok (.istore_n 3, 1) := by decide +kernel
theorem dX2_swap_41 : decode cX2_swap 41 = .ok (.aload_n 0, 1) := by decide +kernel
theorem dX2_swap_42 : decode cX2_swap 42 = .ok (.iload_n 1, 1) := by decide +kernel
theorem dX2_swap_43 : decode cX2_swap 43 = .ok (.iload_n 2, 1) := by decide +kernel
theorem dX2_swap_44 : decode cX2_swap 44 = .ok (.iconst 1, 1) := by decide +kernel
theorem dX2_swap_45 : decode cX2_swap 45 = .ok (.iadd, 1) := by decide +kernel
theorem dX2_swap_46 : decode cX2_swap 46 = .ok (.invokevirtual 39, 3) := by decide +kernel
theorem dX2_swap_49 : decode cX2_swap 49 = .ok (.istore 4, 2) := by decide +kernel
theorem dX2_swap_51 : decode cX2_swap 51 = .ok (.iload_n 3, 1) := by decide +kernel
theorem dX2_swap_52 : decode cX2_swap 52 = .ok (.invokestatic 47, 3) := by decide +kernel
theorem dX2_swap_55 : decode cX2_swap 55 = .ok (.iload 4, 2) := by decide +kernel
theorem dX2_swap_57 : decode cX2_swap 57 = .ok (.invokestatic 47, 3) := by decide +kernel
theorem dX2_swap_60 : decode cX2_swap 60 = .ok (.isub, 1) := by decide +kernel
theorem dX2_swap_61 : decode cX2_swap 61 = .ok (.invokestatic 47, 3) := by decide +kernel
theorem dX2_swap_64 : decode cX2_swap 64 = .ok (.iconst 2, 1) := by decide +kernel
theorem dX2_swap_65 : decode cX2_swap 65 = .ok (.if_icmp .ge 9, 3) := by decide +kernel
theorem dX2_swap_68 : decode cX2_swap 68 = .ok (.aload_n 0, 1) := by decide +kernel
theorem dX2_swap_69 : decode cX2_swap 69 = .ok (.iconst 2, 1) := by decide +kernel
theorem dX2_swap_70 : decode cX2_swap 70 = .ok (.invokevirtual 80, 3) := by decide +kernel
theorem dX2_swap_73 : decode cX2_swap 73 = .ok (.ireturn, 1) := by decide +kernel
theorem dX2_swap_74 : decode cX2_swap 74 = .ok (.aload_n 0, 1) := by decide +kernel
theorem dX2_swap_75 : decode cX2_swap 75 = .ok (.iload_n 1, 1) := by decide +kernel
theorem dX2_swap_76 : decode cX2_swap 76 = .ok (.iload_n 2, 1) := by decide +kernel
theorem dX2_swap_77 : decode cX2_swap 77 = .ok (.iload 4, 2) := by decide +kernel
theorem dX2_swap_79 : decode cX2_swap 79 = .ok (.invokevirtual 90, 3) := by decide +kernel
theorem dX2_swap_82 : decode cX2_swap 82 = .ok (.aload_n 0, 1) := by decide +kernel
theorem dX2_swap_83 : decode cX2_swap 83 = .ok (.iload_n 1, 1) := by decide +kernel
theorem dX2_swap_84 : decode cX2_swap 84 = .ok (.iload_n 2, 1) := by decide +kernel
theorem dX2_swap_85 : decode cX2_swap 85 = .ok (.iconst 1, 1) := by decide +kernel
theorem dX2_swap_86 : decode cX2_swap 86 = .ok (.iadd, 1) := by decide +kernel
theorem dX2_swap_87 : decode cX2_swap 87 = .ok (.iload_n 3, 1) := by decide +kernel
theorem dX2_swap_88 : decode cX2_swap 88 = .ok (.invokevirtual 90, 3) := by decide +kernel
theorem dX2_swap_91 : decode cX2_swap 91 = .ok (.iload 4, 2) := by decide +kernel
theorem dX2_swap_93 : decode cX2_swap 93 = .ok (.ireturn, 1) := by decide +kernel
set_option maxRecDepth 20000 in
theorem ggX2_about_X2_isWord : GoodIn wsX2_about wsX2_isWord := goodIn_r _ [10, 11, 12, 9, 13] (by decide +kernel) (by decide +kernel)
set_option maxRecDepth 20000 in
theorem gX2_about_X2_isWord : GoodIn wsX2_about (va_wsS RX2 83 yX2_isWord wsX2_isWord) := goodIn_app (goodIn_of _ (by decide +kernel)) ggX2_about_X2_isWord
set_option maxRecDepth 20000 in
theorem ggX2_about_X2_isIn : GoodIn wsX2_about wsX2_isIn := goodIn_r _ [13] (by decide +kernel) (by decide +kernel)
set_option maxRecDepth 20000 in
theorem gX2_about_X2_isIn : GoodIn wsX2_about (va_wsS RX2 32 yX2_isIn wsX2_isIn) := goodIn_app (goodIn_of _ (by decide +kernel)) ggX2_about_X2_isIn
set_option maxRecDepth 20000 in
theorem ggX2_about_X2_no : GoodIn wsX2_about wsX2_no := goodIn_r _ [17, 1, 27, 28, 29, 30, 31, 32, 33, 34, 35, 36] (by decide +kernel) (by decide +kernel)
set_option maxRecDepth 20000 in
theorem gX2_about_X2_no : GoodIn wsX2_about (wsV RX2 80 RX2 yX2_no wsX2_no) := goodIn_app (goodIn_of _ (by decide +kernel)) ggX2_about_X2_no
set_option maxRecDepth 20000 in
theorem ggX2_about_X2_at : GoodIn wsX2_about wsX2_at := goodIn_r _ [21, 22, 27, 28, 29, 30, 31, 32, 33, 34, 35, 36] (by decide +kernel) (by decide +kernel)
set_option maxRecDepth 20000 in
theorem gX2_about_X2_at : GoodIn wsX2_about (wsV RX2 39 RX2 yX2_at wsX2_at) := goodIn_app (goodIn_of _ (by decide +kernel)) ggX2_about_X2_at
set_option maxRecDepth 20000 in
theorem ggX2_about_X2_put : GoodIn wsX2_about wsX2_put := goodIn_r _ [26, 22, 27, 28, 29, 30, 31, 32, 33, 34, 35, 36] (by decide +kernel) (by decide +kernel)
set_option maxRecDepth 20000 in
theorem gX2_about_X2_put : GoodIn wsX2_about (wsV RX2 90 RX2 yX2_put wsX2_put) := goodIn_app (goodIn_of _ (by decide +kernel)) ggX2_about_X2_put
theorem dX2_about_0 : decode cX2_about 0 = .ok (.aload_n 0, 1) := by decide +kernel
theorem dX2_about_1 : decode cX2_about 1 = .ok (.iconst 0, 1) := by decide +kernel
theorem dX2_about_2 : decode cX2_about 2 = .ok (.putfield 29, 3) := by decide +kernel
theorem dX2_about_5 : decode cX2_about 5 = .ok (.iload_n 1, 1) := by decide +kernel
theorem dX2_about_6 : decode cX2_about 6 = .ok (.invokestatic 83, 3) := by decide +kernel
theorem dX2_about_9 : decode cX2_about 9 = .ok (.ifCond .eq 19, 3) := by decide +kernel
theorem dX2_about_12 : decode cX2_about 12 = .ok (.iload_n 2, 1) := by decide +kernel
theorem dX2_about_13 : decode cX2_about 13 = .ok (.iconst 0, 1) := by decide +kernel
theorem dX2_about_14 : decode cX2_about 14 = .ok (.aload_n 0, 1) := by decide +kernel
theorem dX2_about_15 : decode cX2_about 15 = .ok (.getfield 13, 3) := by decide +kernel
theorem dX2_about_18 : decode cX2_about 18 = .ok (.iload_n 1, 1) := by decide +kernel
theorem dX2_about_19 : decode cX2_about 19 = .ok (.iaload, 1) := by decide +kernel
theorem dX2_about_20 : decode cX2_about 20 = .ok (.iconst 3, 1) := by decide +kernel
theorem dX2_about_21 : decode cX2_about 21 = .ok (.isub, 1) := by decide +kernel
theorem dX2_about_22 : decode cX2_about 22 = .ok (.invokestatic 32, 3) := by decide +kernel
theorem dX2_about_25 : decode cX2_about 25 = .ok (.ifCond .ne 9, 3) := by decide +kernel
theorem dX2_about_28 : decode cX2_about 28 = .ok (.aload_n 0, 1) := by decide +kernel
theorem dX2_about_29 : decode cX2_about 29 = .ok (.iconst 1, 1) := by decide +kernel
theorem dX2_about_30 : decode cX2_about 30 = .ok (.invokevirtual 80, 3) := by decide +kernel
theorem dX2_about_33 : decode cX2_about 33 = .ok (.ireturn, 1) := by decide +kernel
theorem dX2_about_34 : decode cX2_about 34 = .ok (.aload_n 0, 1) := by decide +kernel
theorem dX2_about_35 : decode cX2_about 35 = .ok (.iload_n 1, 1) := by decide +kernel
theorem dX2_about_36 : decode cX2_about 36 = .ok (.iload_n 2, 1) := by decide +kernel
theorem dX2_about_37 : decode cX2_about 37 = .ok (.invokevirtual 39, 3) := by decide +kernel
theorem dX2_about_40 : decode cX2_about 40 = .ok (.istore_n 3, 1) := by decide +kernel
theorem dX2_about_41 : decode cX2_about 41 = .ok (.aload_n 0, 1) := by decide +kernel
theorem dX2_about_42 : decode cX2_about 42 = .ok (.iload_n 1, 1) := by decide +kernel
theorem dX2_about_43 : decode cX2_about 43 = .ok (.iload_n 2, 1) := by decide +kernel
theorem dX2_about_44 : decode cX2_about 44 = .ok (.iconst 1, 1) := by decide +kernel
theorem dX2_about_45 : decode cX2_about 45 = .ok (.iadd, 1) := by decide +kernel
theorem dX2_about_46 : decode cX2_about 46 = .ok (.invokevirtual 39, 3) := by decide +kernel
theorem dX2_about_49 : decode cX2_about 49 = .ok (.istore 4, 2) := by decide +kernel
theorem dX2_about_51 : decode cX2_about 51 = .ok (.aload_n 0, 1) := by decide +kernel
theorem dX2_about_52 : decode cX2_about 52 = .ok (.iload_n 1, 1) := by decide +kernel
theorem dX2_about_53 : decode cX2_about 53 = .ok (.iload_n 2, 1) := by decide +kernel
theorem dX2_about_54 : decode cX2_about 54 = .ok (.iconst 2, 1) := by decide +kernel
theorem dX2_about_55 : decode cX2_about 55 = .ok (.iadd, 1) := by decide +kernel
theorem dX2_about_56 : decode cX2_about 56 = .ok (.invokevirtual 39, 3) := by decide +kernel
theorem dX2_about_59 : decode cX2_about 59 = .ok (.iload_n 3, 1) := by decide +kernel
theorem dX2_about_60 : decode cX2_about 60 = .ok (.if_icmp .ne 36, 3) := by decide +kernel
theorem dX2_about_63 : decode cX2_about 63 = .ok (.iload_n 3, 1) := by decide +kernel
theorem dX2_about_64 : decode cX2_about 64 = .ok (.ifCond .le 7, 3) := by decide +kernel
theorem dX2_about_67 : decode cX2_about 67 = .ok (.iconst 1, 1) := by decide +kernel
theorem dX2_about_68 : decode cX2_about 68 = .ok (.goto 4, 3) := by decide +kernel
theorem dX2_about_71 : decode cX2_about 71 = .ok (.iconst 0, 1) := by decide +kernel
theorem dX2_about_72 : decode cX2_about 72 = .ok (.iload 4, 2) := by decide +kernel
theorem dX2_about_74 : decode cX2_about 74 = .ok (.ifCond .le 7, 3) := by decide +kernel
theorem dX2_about_77 : decode cX2_about 77 = .ok (.iconst 1, 1) := by decide +kernel
theorem dX2_about_78 : decode cX2_about 78 = .ok (.goto 4, 3) := by decide +kernel
theorem dX2_about_81 : decode cX2_about 81 = .ok (.iconst 0, 1) := by decide +kernel
theorem dX2_about_82 : decode cX2_about 82 = .ok (.if_icmp .ne 14, 3) := by decide +kernel
theorem dX2_about_85 : decode cX2_about 85 = .ok (.iload_n 3, 1) := by decide +kernel
theorem dX2_about_86 : decode cX2_about 86 = .ok (.iload 4, 2) := by decide +kernel
theorem dX2_about_88 : decode cX2_about 88 = .ok (.isub, 1) := by decide +kernel
theorem dX2_about_89 : decode cX2_about 89 = .ok (.invokestatic 47, 3) := by decide +kernel
theorem dX2_about_92 : decode cX2_about 92 = .ok (.iconst 1, 1) := by decide +kernel
theorem dX2_about_93 : decode cX2_about 93 = .ok (.if_icmp .eq 9, 3) := by decide +kernel
theorem dX2_about_96 : decode cX2_about 96 = .ok (.aload_n 0, 1) := by decide +kernel
theorem dX2_about_97 : decode cX2_about 97 = .ok (.iconst 2, 1) := by decide +kernel
theorem dX2_about_98 : decode cX2_about 98 = .ok (.invokevirtual 80, 3) := by decide +kernel
theorem dX2_about_101 : decode cX2_about 101 = .ok (.ireturn, 1) := by decide +kernel
theorem dX2_about_102 : decode cX2_about 102 = .ok (.aload_n 0, 1) := by decide +kernel
theorem dX2_about_103 : decode cX2_about 103 = .ok (.iload_n 1, 1) := by decide +kernel
theorem dX2_about_104 : decode cX2_about 104 = .ok (.iload_n 2, 1) := by decide +kernel
theorem dX2_about_105 : decode cX2_about 105 = .ok (.iload 4, 2) := by decide +kernel
theorem dX2_about_107 : decode cX2_about 107 = .ok (.invokevirtual 90, 3) := by decide +kernel
theorem dX2_about_110 : decode cX2_about 110 = .ok (.aload_n 0, 1) := by decide +kernel
theorem dX2_about_111 : decode cX2_about 111 = .ok (.iload_n 1, 1) := by decide +kernel
theorem dX2_about_112 : decode cX2_about 112 = .ok (.iload_n 2, 1) := by decide +kernel
theorem dX2_about_113 : decode cX2_about 113 = .ok (.iconst 1, 1) := by decide +kernel
theorem dX2_about_114 : decode cX2_about 114 = .ok (.iadd, 1) := by decide +kernel
theorem dX2_about_115 : decode cX2_about 115 = .ok (.iload_n 3, 1) := by decide +kernel
theorem dX2_about_116 : decode cX2_about 116 = .ok (.invokevirtual 90, 3) := by decide +kernel
theorem dX2_about_119 : decode cX2_about 119 = .ok (.aload_n 0, 1) := by decide +kernel
theorem dX2_about_120 : decode cX2_about 120 = .ok (.iload_n 1, 1) := by decide +kernel
theorem dX2_about_121 : decode cX2_about 121 = .ok (.iload_n 2, 1) := by decide +kernel
theorem dX2_about_122 : decode cX2_about 122 = .ok (.iconst 2, 1) := by decide +kernel
theorem dX2_about_123 : decode cX2_about 123 = .ok (.iadd, 1) := by decide +kernel
theorem dX2_about_124 : decode cX2_about 124 = .ok (.iload 4, 2) := by decide +kernel
theorem dX2_about_126 : decode cX2_about 126 = .ok (.invokevirtual 90, 3) := by decide +kernel
theorem dX2_about_129 : decode cX2_about 129 = .ok (.iload 4, 2) := by decide +kernel
theorem dX2_about_131 : decode cX2_about 131 = .ok (.ireturn, 1) := by decide +kernel
set_option maxRecDepth 20000 in
theorem ggX2_insert_X2_isWord : GoodIn wsX2_insert wsX2_isWord := goodIn_r _ [6, 7, 8, 5, 9] (by decide +kernel) (by decide +kernel)
set_option maxRecDepth 20000 in
theorem gX2_insert_X2_isWord : GoodIn wsX2_insert (va_wsS RX2 83 yX2_isWord wsX2_isWord) := goodIn_app (goodIn_of _ (by decide +kernel)) ggX2_insert_X2_isWord
set_option maxRecDepth 20000 in
theorem ggX2_insert_X2_isIn : GoodIn wsX2_insert wsX2_isIn := goodIn_r _ [9] (by decide +kernel) (by decide +kernel)
set_option maxRecDepth 20000 in
theorem gX2_insert_X2_isIn : GoodIn wsX2_insert (va_wsS RX2 32 yX2_isIn wsX2_isIn) := goodIn_app (goodIn_of _ (by decide +kernel)) ggX2_insert_X2_isIn
set_option maxRecDepth 20000 in
theorem ggX2_insert_X2_no : GoodIn wsX2_insert wsX2_no := goodIn_r _ [13, 1, 28, 29, 30, 31, 32, 33, 34, 35, 36, 37] (by decide +kernel) (by decide +kernel)
set_option maxRecDepth 20000 in
theorem gX2_insert_X2_no : GoodIn wsX2_insert (wsV RX2 80 RX2 yX2_no wsX2_no) := goodIn_app (goodIn_of _ (by decide +kernel)) ggX2_insert_X2_no
set_option maxRecDepth 20000 in
theorem ggX2_insert_X2_isLetter : GoodIn wsX2_insert wsX2_isLetter := goodIn_r _ [17, 18, 7, 8, 5, 9, 28, 29, 30, 31, 32, 33, 34, 35, 36, 37] (by decide +kernel) (by decide +kernel)
set_option maxRecDepth 20000 in
theorem gX2_insert_X2_isLetter : GoodIn wsX2_insert (wsV RX2 87 RX2 yX2_isLetter wsX2_isLetter) := goodIn_app (goodIn_of _ (by decide +kernel)) ggX2_insert_X2_isLetter
set_option maxRecDepth 20000 in
theorem ggX2_insert_X2_at : GoodIn wsX2_insert wsX2_at := goodIn_r _ [22, 23, 28, 29, 30, 31, 32, 33, 34, 35, 36, 37] (by decide +kernel) (by decide +kernel)
set_option maxRecDepth 20000 in
theorem gX2_insert_X2_at : GoodIn wsX2_insert (wsV RX2 39 RX2 yX2_at wsX2_at) := goodIn_app (goodIn_of _ (by decide +kernel)) ggX2_insert_X2_at
set_option maxRecDepth 20000 in
theorem ggX2_insert_X2_put : GoodIn wsX2_insert wsX2_put := goodIn_r _ [27, 23, 28, 29, 30, 31, 32, 33, 34, 35, 36, 37] (by decide +kernel) (by decide +kernel)
set_option maxRecDepth 20000 in
theorem gX2_insert_X2_put : GoodIn wsX2_insert (wsV RX2 90 RX2 yX2_put wsX2_put) := goodIn_app (goodIn_of _ (by decide +kernel)) ggX2_insert_X2_put
theorem dX2_insert_0 : decode cX2_insert 0 = .ok (.aload_n 0, 1) := by decide +kernel
theorem dX2_insert_1 : decode cX2_insert 1 = .ok (.iconst 0, 1) := by decide +kernel
theorem dX2_insert_2 : decode cX2_insert 2 = .ok (.putfield 29, 3) := by decide +kernel
theorem dX2_insert_5 : decode cX2_insert 5 = .ok (.iload_n 1, 1) := by decide +kernel
theorem dX2_insert_6 : decode cX2_insert 6 = .ok (.invokestatic 83, 3) := by decide +kernel
theorem dX2_insert_9 : decode cX2_insert 9 = .ok (.ifCond .eq 17, 3) := by decide +kernel
theorem dX2_insert_12 : decode cX2_insert 12 = .ok (.iload_n 2, 1) := by decide +kernel
theorem dX2_insert_13 : decode cX2_insert 13 = .ok (.iconst 0, 1) := by decide +kernel
theorem dX2_insert_14 : decode cX2_insert 14 = .ok (.aload_n 0, 1) := by decide +kernel
theorem dX2_insert_15 : decode cX2_insert 15 = .ok (.getfield 13, 3) := by decide +kernel
theorem dX2_insert_18 : decode cX2_insert 18 = .ok (.iload_n 1, 1) := by decide +kernel
theorem dX2_insert_19 : decode cX2_insert 19 = .ok (.iaload, 1) := by decide +kernel
theorem dX2_insert_20 : decode cX2_insert 20 = .ok (.invokestatic 32, 3) := by decide +kernel
theorem dX2_insert_23 : decode cX2_insert 23 = .ok (.ifCond .ne 9, 3) := by decide +kernel
theorem dX2_insert_26 : decode cX2_insert 26 = .ok (.aload_n 0, 1) := by decide +kernel
theorem dX2_insert_27 : decode cX2_insert 27 = .ok (.iconst 1, 1) := by decide +kernel
theorem dX2_insert_28 : decode cX2_insert 28 = .ok (.invokevirtual 80, 3) := by decide +kernel
theorem dX2_insert_31 : decode cX2_insert 31 = .ok (.ireturn, 1) := by decide +kernel
theorem dX2_insert_32 : decode cX2_insert 32 = .ok (.aload_n 0, 1) := by decide +kernel
theorem dX2_insert_33 : decode cX2_insert 33 = .ok (.iload_n 3, 1) := by decide +kernel
theorem dX2_insert_34 : decode cX2_insert 34 = .ok (.invokevirtual 87, 3) := by decide +kernel
theorem dX2_insert_37 : decode cX2_insert 37 = .ok (.ifCond .ne 9, 3) := by decide +kernel
theorem dX2_insert_40 : decode cX2_insert 40 = .ok (.aload_n 0, 1) := by decide +kernel
theorem dX2_insert_41 : decode cX2_insert 41 = .ok (.iconst 2, 1) := by decide +kernel
theorem dX2_insert_42 : decode cX2_insert 42 = .ok (.invokevirtual 80, 3) := by decide +kernel
theorem dX2_insert_45 : decode cX2_insert 45 = .ok (.ireturn, 1) := by decide +kernel
theorem dX2_insert_46 : decode cX2_insert 46 = .ok (.aload_n 0, 1) := by decide +kernel
theorem dX2_insert_47 : decode cX2_insert 47 = .ok (.getfield 13, 3) := by decide +kernel
theorem dX2_insert_50 : decode cX2_insert 50 = .ok (.iload_n 1, 1) := by decide +kernel
theorem dX2_insert_51 : decode cX2_insert 51 = .ok (.iaload, 1) := by decide +kernel
theorem dX2_insert_52 : decode cX2_insert 52 = .ok (.iconst 2, 1) := by decide +kernel
theorem dX2_insert_53 : decode cX2_insert 53 = .ok (.iadd, 1) := by decide +kernel
theorem dX2_insert_54 : decode cX2_insert 54 = .ok (.bipush 30, 2) := by decide +kernel
theorem dX2_insert_56 : decode cX2_insert 56 = .ok (.if_icmp .le 9, 3) := by decide +kernel
theorem dX2_insert_59 : decode cX2_insert 59 = .ok (.aload_n 0, 1) := by decide +kernel
theorem dX2_insert_60 : decode cX2_insert 60 = .ok (.iconst 3, 1) := by decide +kernel
theorem dX2_insert_61 : decode cX2_insert 61 = .ok (.invokevirtual 80, 3) := by decide +kernel
theorem dX2_insert_64 : decode cX2_insert 64 = .ok (.ireturn, 1) := by decide +kernel
theorem dX2_insert_65 : decode cX2_insert 65 = .ok (.aload_n 0, 1) := by decide +kernel
theorem dX2_insert_66 : decode cX2_insert 66 = .ok (.getfield 13, 3) := by decide +kernel
theorem dX2_insert_69 : decode cX2_insert 69 = .ok (.iload_n 1, 1) := by decide +kernel
theorem dX2_insert_70 : decode cX2_insert 70 = .ok (.iaload, 1) := by decide +kernel
theorem dX2_insert_71 : decode cX2_insert 71 = .ok (.iconst 1, 1) := by decide +kernel
theorem dX2_insert_72 : decode cX2_insert 72 = .ok (.isub, 1) := by decide +kernel
theorem dX2_insert_73 : decode cX2_insert 73 = .ok (.istore 4, 2) := by decide +kernel
theorem dX2_insert_75 : decode cX2_insert 75 = .ok (.iload 4, 2) := by decide +kernel
theorem dX2_insert_77 : decode cX2_insert 77 = .ok (.iload_n 2, 1) := by decide +kernel
theorem dX2_insert_78 : decode cX2_insert 78 = .ok (.if_icmp .lt 25, 3) := by decide +kernel
theorem dX2_insert_81 : decode cX2_insert 81 = .ok (.aload_n 0, 1) := by decide +kernel
theorem dX2_insert_82 : decode cX2_insert 82 = .ok (.iload_n 1, 1) := by decide +kernel
theorem dX2_insert_83 : decode cX2_insert 83 = .ok (.iload 4, 2) := by decide +kernel
theorem dX2_insert_85 : decode cX2_insert 85 = .ok (.iconst 2, 1) := by decide +kernel
theorem dX2_insert_86 : decode cX2_insert 86 = .ok (.iadd, 1) := by decide +kernel
theorem dX2_insert_87 : decode cX2_insert 87 = .ok (.aload_n 0, 1) := by decide +kernel
theorem dX2_insert_88 : decode cX2_insert 88 = .ok (.iload_n 1, 1) := by decide +kernel
theorem dX2_insert_89 : decode cX2_insert 89 = .ok (.iload 4, 2) := by decide +kernel
theorem dX2_insert_91 : decode cX2_insert 91 = .ok (.invokevirtual 39, 3) := by decide +kernel
theorem dX2_insert_94 : decode cX2_insert 94 = .ok (.invokevirtual 90, 3) := by decide +kernel
theorem dX2_insert_97 : decode cX2_insert 97 = .ok (.iinc 4 (-1), 3) := by decide +kernel
theorem dX2_insert_100 : decode cX2_insert 100 = .ok (.goto (-25), 3) := by decide +kernel
theorem dX2_insert_103 : decode cX2_insert 103 = .ok (.aload_n 0, 1) := by decide +kernel
theorem dX2_insert_104 : decode cX2_insert 104 = .ok (.iload_n 1, 1) := by decide +kernel
theorem dX2_insert_105 : decode cX2_insert 105 = .ok (.iload_n 2, 1) := by decide +kernel
theorem dX2_insert_106 : decode cX2_insert 106 = .ok (.iload_n 3, 1) := by decide +kernel
theorem dX2_insert_107 : decode cX2_insert 107 = .ok (.invokevirtual 90, 3) := by decide +kernel
theorem dX2_insert_110 : decode cX2_insert 110 = .ok (.aload_n 0, 1) := by decide +kernel
theorem dX2_insert_111 : decode cX2_insert 111 = .ok (.iload_n 1, 1) := by decide +kernel
theorem dX2_insert_112 : decode cX2_insert 112 = .ok (.iload_n 2, 1) := by decide +kernel
theorem dX2_insert_113 : decode cX2_insert 113 = .ok (.iconst 1, 1) := by decide +kernel
theorem dX2_insert_114 : decode cX2_insert 114 = .ok (.iadd, 1) := by decide +kernel
theorem dX2_insert_115 : decode cX2_insert 115 = .ok (.iload_n 3, 1) := by decide +kernel
theorem dX2_insert_116 : decode cX2_insert 116 = .ok (.ineg, 1) := by decide +kernel
theorem dX2_insert_117 : decode cX2_insert 117 = .ok (.invokevirtual 90, 3) := by decide +kernel
theorem dX2_insert_120 : decode cX2_insert 120 = .ok (.aload_n 0, 1) := by decide +kernel
theorem dX2_insert_121 : decode cX2_insert 121 = .ok (.getfield 13, 3) := by decide +kernel
theorem dX2_insert_124 : decode cX2_insert 124 = .ok (.iload_n 1, 1) := by decide +kernel
theorem dX2_insert_125 : decode cX2_insert 125 = .ok (.dup2, 1) := by decide +kernel
theorem dX2_insert_126 : decode cX2_insert 126 = .ok (.iaload, 1) := by decide +kernel
theorem dX2_insert_127 : decode cX2_insert 127 = .ok (.iconst 2, 1) := by decide +kernel
theorem dX2_insert_128 : decode cX2_insert 128 = .ok (.iadd, 1) := by decide +kernel
theorem dX2_insert_129 : decode cX2_insert 129 = .ok (.iastore, 1) := by decide +kernel
theorem dX2_insert_130 : decode cX2_insert 130 = .ok (.aload_n 0, 1) := by decide +kernel
theorem dX2_insert_131 : decode cX2_insert 131 = .ok (.getfield 13, 3) := by decide +kernel
theorem dX2_insert_134 : decode cX2_insert 134 = .ok (.iload_n 1, 1) := by decide +kernel
theorem dX2_insert_135 : decode cX2_insert 135 = .ok (.iaload, 1) := by decide +kernel
theorem dX2_insert_136 : decode cX2_insert 136 = .ok (.ireturn, 1) := by decide +kernel
set_option maxRecDepth 20000 in
theorem ggX2_cut_X2_isWord : GoodIn wsX2_cut wsX2_isWord := goodIn_r _ [6, 7, 8, 5, 9] (by decide +kernel) (by decide +kernel)
set_option maxRecDepth 20000 in
theorem gX2_cut_X2_isWord : GoodIn wsX2_cut (va_wsS RX2 83 yX2_isWord wsX2_isWord) := goodIn_app (goodIn_of _ (by decide +kernel)) ggX2_cut_X2_isWord
set_option maxRecDepth 20000 in
theorem ggX2_cut_X2_no : GoodIn wsX2_cut wsX2_no := goodIn_r _ [13, 1, 62, 63, 64, 65, 66, 67, 68, 69, 70, 71] (by decide +kernel) (by decide +kernel)
set_option maxRecDepth 20000 in
theorem gX2_cut_X2_no : GoodIn wsX2_cut (wsV RX2 80 RX2 yX2_no wsX2_no) := goodIn_app (goodIn_of _ (by decide +kernel)) ggX2_cut_X2_no
set_option maxRecDepth 20000 in
theorem ggX2_cut_X2_load : GoodIn wsX2_cut wsX2_load := goodIn_r _ [17, 2, 18, 19, 20, 5, 21, 22, 23, 24, 25, 26, 27, 28, 62, 63, 64, 65, 66, 67, 68, 69, 70, 71] (by decide +kernel) (by decide +kernel)
set_option maxRecDepth 20000 in
theorem gX2_cut_X2_load : GoodIn wsX2_cut (wsV RX2 97 RX2 yX2_load wsX2_load) := goodIn_app (goodIn_of _ (by decide +kernel)) ggX2_cut_X2_load
set_option maxRecDepth 20000 in
theorem ggX2_cut_X2_ends : GoodIn wsX2_cut wsX2_ends := goodIn_r _ [32, 2, 33, 34, 35, 5, 36, 23, 37, 38, 39, 40, 62, 63, 64, 65, 66, 67, 68, 69, 70, 71] (by decide +kernel) (by decide +kernel)
set_option maxRecDepth 20000 in
theorem gX2_cut_X2_ends : GoodIn wsX2_cut (wsV RX2 69 RX2 yX2_ends wsX2_ends) := goodIn_app (goodIn_of _ (by decide +kernel)) ggX2_cut_X2_ends
set_option maxRecDepth 20000 in
theorem ggX2_cut_X2_more : GoodIn wsX2_cut wsX2_more := goodIn_r _ [44, 23, 37, 38, 39, 40, 33, 34, 35, 5, 36, 62, 63, 64, 65, 66, 67, 68, 69, 70, 71] (by decide +kernel) (by decide +kernel)
set_option maxRecDepth 20000 in
theorem gX2_cut_X2_more : GoodIn wsX2_cut (wsV RX2 100 RX2 yX2_more wsX2_more) := goodIn_app (goodIn_of _ (by decide +kernel)) ggX2_cut_X2_more
set_option maxRecDepth 20000 in
theorem ggX2_cut_X2_cutAt : GoodIn wsX2_cut wsX2_cutAt := goodIn_r _ [48, 23, 37, 38, 39, 40, 2, 49, 50, 51, 52, 53, 33, 34, 35, 5, 36, 62, 63, 64, 65, 66, 67, 68, 69, 70, 71] (by decide +kernel) (by decide +kernel)
set_option maxRecDepth 20000 in
theorem gX2_cut_X2_cutAt : GoodIn wsX2_cut (wsV RX2 73 RX2 yX2_cutAt wsX2_cutAt) := goodIn_app (goodIn_of _ (by decide +kernel)) ggX2_cut_X2_cutAt
set_option maxRecDepth 20000 in
theorem ggX2_cut_X2_store : GoodIn wsX2_cut wsX2_store := goodIn_r _ [57, 2, 23, 22, 58, 59, 60, 5, 61, 28, 62, 63, 64, 65, 66, 67, 68, 69, 70, 71] (by decide +kernel) (by decide +kernel)
set_option maxRecDepth 20000 in
theorem gX2_cut_X2_store : GoodIn wsX2_cut (wsV RX2 94 RX2 yX2_store wsX2_store) := goodIn_app (goodIn_of _ (by decide +kernel)) ggX2_cut_X2_store
theorem dX2_cut_0 : decode cX2_cut 0 = .ok (.aload_n 0, 1) := by decide +kernel
theorem dX2_cut_1 : decode cX2_cut 1 = .ok (.iconst 0, 1) := by decide +kernel
theorem dX2_cut_2 : decode cX2_cut 2 = .ok (.putfield 29, 3) := by decide +kernel
theorem dX2_cut_5 : decode cX2_cut 5 = .ok (.iload_n 1, 1) := by decide +kernel
theorem dX2_cut_6 : decode cX2_cut 6 = .ok (.invokestatic 83, 3) := by decide +kernel
theorem dX2_cut_9 : decode cX2_cut 9 = .ok (.ifCond .ne 9, 3) := by decide +kernel
theorem dX2_cut_12 : decode cX2_cut 12 = .ok (.aload_n 0, 1) := by decide +kernel
theorem dX2_cut_13 : decode cX2_cut 13 = .ok (.iconst 1, 1) := by decide +kernel
theorem dX2_cut_14 : decode cX2_cut 14 = .ok (.invokevirtual 80, 3) := by decide +kernel
theorem dX2_cut_17 : decode cX2_cut 17 = .ok (.ireturn, 1) := by decide +kernel
theorem dX2_cut_18 : decode cX2_cut 18 = .ok (.aload_n 0, 1) := by decide +kernel
theorem dX2_cut_19 : decode cX2_cut 19 = .ok (.iload_n 1, 1) := by decide +kernel
theorem dX2_cut_20 : decode cX2_cut 20 = .ok (.invokevirtual 97, 3) := by decide +kernel
theorem dX2_cut_23 : decode cX2_cut 23 = .ok (.aload_n 0, 1) := by decide +kernel
theorem dX2_cut_24 : decode cX2_cut 24 = .ok (.invokevirtual 69, 3) := by decide +kernel
theorem dX2_cut_27 : decode cX2_cut 27 = .ok (.istore_n 2, 1) := by decide +kernel
theorem dX2_cut_28 : decode cX2_cut 28 = .ok (.iload_n 2, 1) := by decide +kernel
theorem dX2_cut_29 : decode cX2_cut 29 = .ok (.iconst (-1), 1) := by decide +kernel
theorem dX2_cut_30 : decode cX2_cut 30 = .ok (.if_icmp .eq 18, 3) := by decide +kernel
theorem dX2_cut_33 : decode cX2_cut 33 = .ok (.aload_n 0, 1) := by decide +kernel
theorem dX2_cut_34 : decode cX2_cut 34 = .ok (.getfield 36, 3) := by decide +kernel
theorem dX2_cut_37 : decode cX2_cut 37 = .ok (.aload_n 0, 1) := by decide +kernel
theorem dX2_cut_38 : decode cX2_cut 38 = .ok (.iload_n 2, 1) := by decide +kernel
theorem dX2_cut_39 : decode cX2_cut 39 = .ok (.invokevirtual 100, 3) := by decide +kernel
theorem dX2_cut_42 : decode cX2_cut 42 = .ok (.iadd, 1) := by decide +kernel
theorem dX2_cut_43 : decode cX2_cut 43 = .ok (.bipush 30, 2) := by decide +kernel
theorem dX2_cut_45 : decode cX2_cut 45 = .ok (.if_icmp .le 9, 3) := by decide +kernel
theorem dX2_cut_48 : decode cX2_cut 48 = .ok (.aload_n 0, 1) := by decide +kernel
theorem dX2_cut_49 : decode cX2_cut 49 = .ok (.iconst 2, 1) := by decide +kernel
theorem dX2_cut_50 : decode cX2_cut 50 = .ok (.invokevirtual 80, 3) := by decide +kernel
theorem dX2_cut_53 : decode cX2_cut 53 = .ok (.ireturn, 1) := by decide +kernel
theorem dX2_cut_54 : decode cX2_cut 54 = .ok (.aload_n 0, 1) := by decide +kernel
theorem dX2_cut_55 : decode cX2_cut 55 = .ok (.iload_n 2, 1) := by decide +kernel
theorem dX2_cut_56 : decode cX2_cut 56 = .ok (.invokevirtual 73, 3) := by decide +kernel
theorem dX2_cut_59 : decode cX2_cut 59 = .ok (.aload_n 0, 1) := by decide +kernel
theorem dX2_cut_60 : decode cX2_cut 60 = .ok (.iload_n 1, 1) := by decide +kernel
theorem dX2_cut_61 : decode cX2_cut 61 = .ok (.invokevirtual 94, 3) := by decide +kernel
theorem dX2_cut_64 : decode cX2_cut 64 = .ok (.aload_n 0, 1) := by decide +kernel
theorem dX2_cut_65 : decode cX2_cut 65 = .ok (.getfield 36, 3) := by decide +kernel
theorem dX2_cut_68 : decode cX2_cut 68 = .ok (.ireturn, 1) := by decide +kernel
set_option maxRecDepth 20000 in
theorem ggX2_letter_X2_isWord : GoodIn wsX2_letter wsX2_isWord := goodIn_r _ [6, 7, 8, 5, 9] (by decide +kernel) (by decide +kernel)
set_option maxRecDepth 20000 in
theorem gX2_letter_X2_isWord : GoodIn wsX2_letter (va_wsS RX2 83 yX2_isWord wsX2_isWord) := goodIn_app (goodIn_of _ (by decide +kernel)) ggX2_letter_X2_isWord
set_option maxRecDepth 20000 in
theorem ggX2_letter_X2_isIn : GoodIn wsX2_letter wsX2_isIn := goodIn_r _ [9] (by decide +kernel) (by decide +kernel)
set_option maxRecDepth 20000 in
theorem gX2_letter_X2_isIn : GoodIn wsX2_letter (va_wsS RX2 32 yX2_isIn wsX2_isIn) := goodIn_app (goodIn_of _ (by decide +kernel)) ggX2_letter_X2_isIn
set_option maxRecDepth 20000 in
theorem ggX2_letter_X2_at : GoodIn wsX2_letter wsX2_at := goodIn_r _ [13, 14, 19, 20, 21, 22, 23, 24, 25, 26, 27, 28] (by decide +kernel) (by decide +kernel)
set_option maxRecDepth 20000 in
theorem gX2_letter_X2_at : GoodIn wsX2_letter (wsV RX2 39 RX2 yX2_at wsX2_at) := goodIn_app (goodIn_of _ (by decide +kernel)) ggX2_letter_X2_at
set_option maxRecDepth 20000 in
theorem ggX2_letter_X2_no : GoodIn wsX2_letter wsX2_no := goodIn_r _ [18, 1, 19, 20, 21, 22, 23, 24, 25, 26, 27, 28] (by decide +kernel) (by decide +kernel)
set_option maxRecDepth 20000 in
theorem gX2_letter_X2_no : GoodIn wsX2_letter (wsV RX2 80 RX2 yX2_no wsX2_no) := goodIn_app (goodIn_of _ (by decide +kernel)) ggX2_letter_X2_no
theorem dX2_letter_0 : decode cX2_letter 0 = .ok (.aload_n 0, 1) := by decide +kernel
theorem dX2_letter_1 : decode cX2_letter 1 = .ok (.iconst 0, 1) := by decide +kernel
theorem dX2_letter_2 : decode cX2_letter 2 = .ok (.putfield 29, 3) := by decide +kernel
theorem dX2_letter_5 : decode cX2_letter 5 = .ok (.iload_n 1, 1) := by decide +kernel
theorem dX2_letter_6 : decode cX2_letter 6 = .ok (.invokestatic 83, 3) := by decide +kernel
theorem dX2_letter_9 : decode cX2_letter 9 = .ok (.ifCond .eq 28, 3) := by decide +kernel
theorem dX2_letter_12 : decode cX2_letter 12 = .ok (.iload_n 2, 1) := by decide +kernel
theorem dX2_letter_13 : decode cX2_letter 13 = .ok (.iconst 0, 1) := by decide +kernel
theorem dX2_letter_14 : decode cX2_letter 14 = .ok (.aload_n 0, 1) := by decide +kernel
theorem dX2_letter_15 : decode cX2_letter 15 = .ok (.getfield 13, 3) := by decide +kernel
theorem dX2_letter_18 : decode cX2_letter 18 = .ok (.iload_n 1, 1) := by decide +kernel
theorem dX2_letter_19 : decode cX2_letter 19 = .ok (.iaload, 1) := by decide +kernel
theorem dX2_letter_20 : decode cX2_letter 20 = .ok (.iconst 1, 1) := by decide +kernel
theorem dX2_letter_21 : decode cX2_letter 21 = .ok (.isub, 1) := by decide +kernel
theorem dX2_letter_22 : decode cX2_letter 22 = .ok (.invokestatic 32, 3) := by decide +kernel
theorem dX2_letter_25 : decode cX2_letter 25 = .ok (.ifCond .eq 12, 3) := by decide +kernel
theorem dX2_letter_28 : decode cX2_letter 28 = .ok (.aload_n 0, 1) := by decide +kernel
theorem dX2_letter_29 : decode cX2_letter 29 = .ok (.iload_n 1, 1) := by decide +kernel
theorem dX2_letter_30 : decode cX2_letter 30 = .ok (.iload_n 2, 1) := by decide +kernel
theorem dX2_letter_31 : decode cX2_letter 31 = .ok (.invokevirtual 39, 3) := by decide +kernel
theorem dX2_letter_34 : decode cX2_letter 34 = .ok (.goto 8, 3) := by decide +kernel
theorem dX2_letter_37 : decode cX2_letter 37 = .ok (.aload_n 0, 1) := by decide +kernel
theorem dX2_letter_38 : decode cX2_letter 38 = .ok (.iconst 1, 1) := by decide +kernel
theorem dX2_letter_39 : decode cX2_letter 39 = .ok (.invokevirtual 80, 3) := by decide +kernel
theorem dX2_letter_42 : decode cX2_letter 42 = .ok (.ireturn, 1) := by decide +kernel
set_option maxRecDepth 20000 in
theorem ggX2_signs_X2_at : GoodIn wsX2_signs wsX2_at := goodIn_r _ [6, 7, 8, 9, 10, 11, 12, 13, 14, 15, 16, 17] (by decide +kernel) (by decide +kernel)
set_option maxRecDepth 20000 in
theorem gX2_signs_X2_at : GoodIn wsX2_signs (wsV RX2 39 RX2 yX2_at wsX2_at) := goodIn_app (goodIn_of _ (by decide +kernel)) ggX2_signs_X2_at
theorem dX2_signs_0 : decode cX2_signs 0 = .ok (.iconst 0, 1) := by decide +kernel
theorem dX2_signs_1 : decode cX2_signs 1 = .ok (.istore_n 2, 1) := by decide +kernel
theorem dX2_signs_2 : decode cX2_signs 2 = .ok (.iconst 0, 1) := by decide +kernel
theorem dX2_signs_3 : decode cX2_signs 3 = .ok (.istore_n 3, 1) := by decide +kernel
theorem dX2_signs_4 : decode cX2_signs 4 = .ok (.iload_n 3, 1) := by decide +kernel
theorem dX2_signs_5 : decode cX2_signs 5 = .ok (.aload_n 0, 1) := by decide +kernel
theorem dX2_signs_6 : decode cX2_signs 6 = .ok (.getfield 13, 3) := by decide +kernel
theorem dX2_signs_9 : decode cX2_signs 9 = .ok (.iload_n 1, 1) := by decide +kernel
theorem dX2_signs_10 : decode cX2_signs 10 = .ok (.iaload, 1) := by decide +kernel
theorem dX2_signs_11 : decode cX2_signs 11 = .ok (.if_icmp .ge 26, 3) := by decide +kernel
theorem dX2_signs_14 : decode cX2_signs 14 = .ok (.iload_n 2, 1) := by decide +kernel
theorem dX2_signs_15 : decode cX2_signs 15 = .ok (.aload_n 0, 1) := by decide +kernel
theorem dX2_signs_16 : decode cX2_signs 16 = .ok (.iload_n 1, 1) := by decide +kernel
theorem dX2_signs_17 : decode cX2_signs 17 = .ok (.iload_n 3, 1) := by decide +kernel
theorem dX2_signs_18 : decode cX2_signs 18 = .ok (.invokevirtual 39, 3) := by decide +kernel
theorem dX2_signs_21 : decode cX2_signs 21 = .ok (.ifCond .le 7, 3) := by decide +kernel
theorem dX2_signs_24 : decode cX2_signs 24 = .ok (.iconst 1, 1) := by decide +kernel
theorem dX2_signs_25 : decode cX2_signs 25 = .ok (.goto 4, 3) := by decide +kernel
theorem dX2_signs_28 : decode cX2_signs 28 = .ok (.iconst (-1), 1) := by decide +kernel
theorem dX2_signs_29 : decode cX2_signs 29 = .ok (.iadd, 1) := by decide +kernel
theorem dX2_signs_30 : decode cX2_signs 30 = .ok (.istore_n 2, 1) := by decide +kernel
theorem dX2_signs_31 : decode cX2_signs 31 = .ok (.iinc 3 1, 3) := by decide +kernel
theorem dX2_signs_34 : decode cX2_signs 34 = .ok (.goto (-30), 3) := by decide +kernel
theorem dX2_signs_37 : decode cX2_signs 37 = .ok (.iload_n 2, 1) := by decide +kernel
theorem dX2_signs_38 : decode cX2_signs 38 = .ok (.ireturn, 1) := by decide +kernel
set_option maxRecDepth 20000 in
theorem ggX2_counted_X2_signs : GoodIn wsX2_counted wsX2_signs := goodIn_r _ [7, 2, 8, 9, 10, 6, 11, 12, 13, 14, 15, 16, 17, 18, 19, 20, 21, 22] (by decide +kernel) (by decide +kernel)
set_option maxRecDepth 20000 in
theorem gX2_counted_X2_signs : GoodIn wsX2_counted (wsV RX2 103 RX2 yX2_signs wsX2_signs) := goodIn_app (goodIn_of _ (by decide +kernel)) ggX2_counted_X2_signs
theorem dX2_counted_0 : decode cX2_counted 0 = .ok (.iload_n 1, 1) := by decide +kernel
theorem dX2_counted_1 : decode cX2_counted 1 = .ok (.ifCond .ne 10, 3) := by decide +kernel
theorem dX2_counted_4 : decode cX2_counted 4 = .ok (.aload_n 0, 1) := by decide +kernel
theorem dX2_counted_5 : decode cX2_counted 5 = .ok (.getfield 9, 3) := by decide +kernel
theorem dX2_counted_8 : decode cX2_counted 8 = .ok (.goto 26, 3) := by decide +kernel
theorem dX2_counted_11 : decode cX2_counted 11 = .ok (.iload_n 1, 1) := by decide +kernel
theorem dX2_counted_12 : decode cX2_counted 12 = .ok (.iconst 3, 1) := by decide +kernel
theorem dX2_counted_13 : decode cX2_counted 13 = .ok (.if_icmp .ge 14, 3) := by decide +kernel
theorem dX2_counted_16 : decode cX2_counted 16 = .ok (.aload_n 0, 1) := by decide +kernel
theorem dX2_counted_17 : decode cX2_counted 17 = .ok (.getfield 13, 3) := by decide +kernel
theorem dX2_counted_20 : decode cX2_counted 20 = .ok (.iload_n 1, 1) := by decide +kernel
theorem dX2_counted_21 : decode cX2_counted 21 = .ok (.iconst 1, 1) := by decide +kernel
theorem dX2_counted_22 : decode cX2_counted 22 = .ok (.isub, 1) := by decide +kernel
theorem dX2_counted_23 : decode cX2_counted 23 = .ok (.iaload, 1) := by decide +kernel
theorem dX2_counted_24 : decode cX2_counted 24 = .ok (.goto 10, 3) := by decide +kernel
theorem dX2_counted_27 : decode cX2_counted 27 = .ok (.aload_n 0, 1) := by decide +kernel
theorem dX2_counted_28 : decode cX2_counted 28 = .ok (.iload_n 1, 1) := by decide +kernel
theorem dX2_counted_29 : decode cX2_counted 29 = .ok (.iconst 3, 1) := by decide +kernel
theorem dX2_counted_30 : decode cX2_counted 30 = .ok (.isub, 1) := by decide +kernel
theorem dX2_counted_31 : decode cX2_counted 31 = .ok (.invokevirtual 103, 3) := by decide +kernel
theorem dX2_counted_34 : decode cX2_counted 34 = .ok (.ireturn, 1) := by decide +kernel
set_option maxRecDepth 20000 in
theorem ggX2_count_X2_isIn : GoodIn wsX2_count wsX2_isIn := goodIn_r _ [5] (by decide +kernel) (by decide +kernel)
set_option maxRecDepth 20000 in
theorem gX2_count_X2_isIn : GoodIn wsX2_count (va_wsS RX2 32 yX2_isIn wsX2_isIn) := goodIn_app (goodIn_of _ (by decide +kernel)) ggX2_count_X2_isIn
set_option maxRecDepth 20000 in
theorem ggX2_count_X2_counted : GoodIn wsX2_count wsX2_counted := goodIn_r _ [9, 10, 11, 12, 13, 14, 4, 15, 16, 17, 18, 19, 20, 25, 26, 27, 28, 29, 30, 31, 32, 33, 34] (by decide +kernel) (by decide +kernel)
set_option maxRecDepth 20000 in
theorem gX2_count_X2_counted : GoodIn wsX2_count (wsV RX2 106 RX2 yX2_counted wsX2_counted) := goodIn_app (goodIn_of _ (by decide +kernel)) ggX2_count_X2_counted
set_option maxRecDepth 20000 in
theorem ggX2_count_X2_no : GoodIn wsX2_count wsX2_no := goodIn_r _ [24, 1, 25, 26, 27, 28, 29, 30, 31, 32, 33, 34] (by decide +kernel) (by decide +kernel)
set_option maxRecDepth 20000 in
theorem gX2_count_X2_no : GoodIn wsX2_count (wsV RX2 80 RX2 yX2_no wsX2_no) := goodIn_app (goodIn_of _ (by decide +kernel)) ggX2_count_X2_no
theorem dX2_count_0 : decode cX2_count 0 = .ok (.aload_n 0, 1) := by decide +kernel
theorem dX2_count_1 : decode cX2_count 1 = .ok (.iconst 0, 1) := by decide +kernel
theorem dX2_count_2 : decode cX2_count 2 = .ok (.putfield 29, 3) := by decide +kernel
theorem dX2_count_5 : decode cX2_count 5 = .ok (.iload_n 1, 1) := by decide +kernel
theorem dX2_count_6 : decode cX2_count 6 = .ok (.iconst 0, 1) := by decide +kernel
theorem dX2_count_7 : decode cX2_count 7 = .ok (.iconst 4, 1) := by decide +kernel
theorem dX2_count_8 : decode cX2_count 8 = .ok (.invokestatic 32, 3) := by decide +kernel
theorem dX2_count_11 : decode cX2_count 11 = .ok (.ifCond .eq 11, 3) := by decide +kernel
theorem dX2_count_14 : decode cX2_count 14 = .ok (.aload_n 0, 1) := by decide +kernel
theorem dX2_count_15 : decode cX2_count 15 = .ok (.iload_n 1, 1) := by decide +kernel
theorem dX2_count_16 : decode cX2_count 16 = .ok (.invokevirtual 106, 3) := by decide +kernel
theorem dX2_count_19 : decode cX2_count 19 = .ok (.goto 8, 3) := by decide +kernel
theorem dX2_count_22 : decode cX2_count 22 = .ok (.aload_n 0, 1) := by decide +kernel
theorem dX2_count_23 : decode cX2_count 23 = .ok (.iconst 1, 1) := by decide +kernel
theorem dX2_count_24 : decode cX2_count 24 = .ok (.invokevirtual 80, 3) := by decide +kernel
theorem dX2_count_27 : decode cX2_count 27 = .ok (.ireturn, 1) := by decide +kernel
set_option maxRecDepth 20000 in
theorem ggX2_hang_X2_at : GoodIn wsX2_hang wsX2_at := goodIn_r _ [12, 13, 14, 15, 16, 17, 18, 19, 20, 21, 22, 23] (by decide +kernel) (by decide +kernel)
set_option maxRecDepth 20000 in
theorem gX2_hang_X2_at : GoodIn wsX2_hang (wsV RX2 39 RX2 yX2_at wsX2_at) := goodIn_app (goodIn_of _ (by decide +kernel)) ggX2_hang_X2_at
theorem dX2_hang_0 : decode cX2_hang 0 = .ok (.iconst 0, 1) := by decide +kernel
theorem dX2_hang_1 : decode cX2_hang 1 = .ok (.istore 4, 2) := by decide +kernel
theorem dX2_hang_3 : decode cX2_hang 3 = .ok (.iconst 0, 1) := by decide +kernel
theorem dX2_hang_4 : decode cX2_hang 4 = .ok (.istore 5, 2) := by decide +kernel
theorem dX2_hang_6 : decode cX2_hang 6 = .ok (.iload 5, 2) := by decide +kernel
theorem dX2_hang_8 : decode cX2_hang 8 = .ok (.aload_n 0, 1) := by decide +kernel
theorem dX2_hang_9 : decode cX2_hang 9 = .ok (.getfield 9, 3) := by decide +kernel
theorem dX2_hang_12 : decode cX2_hang 12 = .ok (.if_icmp .ge 18, 3) := by decide +kernel
theorem dX2_hang_15 : decode cX2_hang 15 = .ok (.aload_n 0, 1) := by decide +kernel
theorem dX2_hang_16 : decode cX2_hang 16 = .ok (.getfield 26, 3) := by decide +kernel
theorem dX2_hang_19 : decode cX2_hang 19 = .ok (.iload 5, 2) := by decide +kernel
theorem dX2_hang_21 : decode cX2_hang 21 = .ok (.iload 5, 2) := by decide +kernel
theorem dX2_hang_23 : decode cX2_hang 23 = .ok (.iastore, 1) := by decide +kernel
theorem dX2_hang_24 : decode cX2_hang 24 = .ok (.iinc 5 1, 3) := by decide +kernel
theorem dX2_hang_27 : decode cX2_hang 27 = .ok (.goto (-21), 3) := by decide +kernel
theorem dX2_hang_30 : decode cX2_hang 30 = .ok (.iconst 0, 1) := by decide +kernel
theorem dX2_hang_31 : decode cX2_hang 31 = .ok (.istore 5, 2) := by decide +kernel
theorem dX2_hang_33 : decode cX2_hang 33 = .ok (.iload 5, 2) := by decide +kernel
theorem dX2_hang_35 : decode cX2_hang 35 = .ok (.aload_n 0, 1) := by decide +kernel
theorem dX2_hang_36 : decode cX2_hang 36 = .ok (.getfield 13, 3) := by decide +kernel
theorem dX2_hang_39 : decode cX2_hang 39 = .ok (.iload_n 1, 1) := by decide +kernel
theorem dX2_hang_40 : decode cX2_hang 40 = .ok (.iaload, 1) := by decide +kernel
theorem dX2_hang_41 : decode cX2_hang 41 = .ok (.if_icmp .ge 105, 3) := by decide +kernel
theorem dX2_hang_44 : decode cX2_hang 44 = .ok (.aload_n 0, 1) := by decide +kernel
theorem dX2_hang_45 : decode cX2_hang 45 = .ok (.iload_n 1, 1) := by decide +kernel
theorem dX2_hang_46 : decode cX2_hang 46 = .ok (.iload 5, 2) := by decide +kernel
theorem dX2_hang_48 : decode cX2_hang 48 = .ok (.invokevirtual 39, 3) := by decide +kernel
theorem dX2_hang_51 : decode cX2_hang 51 = .ok (.invokestatic 47, 3) := by decide +kernel
theorem dX2_hang_54 : decode cX2_hang 54 = .ok (.istore 6, 2) := by decide +kernel
theorem dX2_hang_56 : decode cX2_hang 56 = .ok (.aload_n 0, 1) := by decide +kernel
theorem dX2_hang_57 : decode cX2_hang 57 = .ok (.getfield 26, 3) := by decide +kernel
theorem dX2_hang_60 : decode cX2_hang 60 = .ok (.iload 6, 2) := by decide +kernel
theorem dX2_hang_62 : decode cX2_hang 62 = .ok (.iconst 1, 1) := by decide +kernel
theorem dX2_hang_63 : decode cX2_hang 63 = .ok (.isub, 1) := by decide +kernel
theorem dX2_hang_64 : decode cX2_hang 64 = .ok (.iaload, 1) := by decide +kernel
theorem dX2_hang_65 : decode cX2_hang 65 = .ok (.istore 7, 2) := by decide +kernel
theorem dX2_hang_67 : decode cX2_hang 67 = .ok (.aload_n 0, 1) := by decide +kernel
theorem dX2_hang_68 : decode cX2_hang 68 = .ok (.getfield 26, 3) := by decide +kernel
theorem dX2_hang_71 : decode cX2_hang 71 = .ok (.iload 6, 2) := by decide +kernel
theorem dX2_hang_73 : decode cX2_hang 73 = .ok (.iaload, 1) := by decide +kernel
theorem dX2_hang_74 : decode cX2_hang 74 = .ok (.istore 8, 2) := by decide +kernel
theorem dX2_hang_76 : decode cX2_hang 76 = .ok (.iload 7, 2) := by decide +kernel
theorem dX2_hang_78 : decode cX2_hang 78 = .ok (.iload_n 2, 1) := by decide +kernel
theorem dX2_hang_79 : decode cX2_hang 79 = .ok (.if_icmp .ne 9, 3) := by decide +kernel
theorem dX2_hang_82 : decode cX2_hang 82 = .ok (.iload 8, 2) := by decide +kernel
theorem dX2_hang_84 : decode cX2_hang 84 = .ok (.iload_n 3, 1) := by decide +kernel
theorem dX2_hang_85 : decode cX2_hang 85 = .ok (.if_icmp .eq 15, 3) := by decide +kernel
theorem dX2_hang_88 : decode cX2_hang 88 = .ok (.iload 7, 2) := by decide +kernel
theorem dX2_hang_90 : decode cX2_hang 90 = .ok (.iload_n 3, 1) := by decide +kernel
theorem dX2_hang_91 : decode cX2_hang 91 = .ok (.if_icmp .ne 29, 3) := by decide +kernel
theorem dX2_hang_94 : decode cX2_hang 94 = .ok (.iload 8, 2) := by decide +kernel
theorem dX2_hang_96 : decode cX2_hang 96 = .ok (.iload_n 2, 1) := by decide +kernel
theorem dX2_hang_97 : decode cX2_hang 97 = .ok (.if_icmp .ne 23, 3) := by decide +kernel
theorem dX2_hang_100 : decode cX2_hang 100 = .ok (.iload 4, 2) := by decide +kernel
theorem dX2_hang_102 : decode cX2_hang 102 = .ok (.aload_n 0, 1) := by decide +kernel
theorem dX2_hang_103 : decode cX2_hang 103 = .ok (.iload_n 1, 1) := by decide +kernel
theorem dX2_hang_104 : decode cX2_hang 104 = .ok (.iload 5, 2) := by decide +kernel
theorem dX2_hang_106 : decode cX2_hang 106 = .ok (.invokevirtual 39, 3) := by decide +kernel
theorem dX2_hang_109 : decode cX2_hang 109 = .ok (.ifCond .le 7, 3) := by decide +kernel
theorem dX2_hang_112 : decode cX2_hang 112 = .ok (.iconst 1, 1) := by decide +kernel
theorem dX2_hang_113 : decode cX2_hang 113 = .ok (.goto 4, 3) := by decide +kernel
theorem dX2_hang_116 : decode cX2_hang 116 = .ok (.iconst (-1), 1) := by decide +kernel
theorem dX2_hang_117 : decode cX2_hang 117 = .ok (.iadd, 1) := by decide +kernel
theorem dX2_hang_118 : decode cX2_hang 118 = .ok (.istore 4, 2) := by decide +kernel
theorem dX2_hang_120 : decode cX2_hang 120 = .ok (.aload_n 0, 1) := by decide +kernel
theorem dX2_hang_121 : decode cX2_hang 121 = .ok (.getfield 26, 3) := by decide +kernel
theorem dX2_hang_124 : decode cX2_hang 124 = .ok (.iload 6, 2) := by decide +kernel
theorem dX2_hang_126 : decode cX2_hang 126 = .ok (.iconst 1, 1) := by decide +kernel
theorem dX2_hang_127 : decode cX2_hang 127 = .ok (.isub, 1) := by decide +kernel
theorem dX2_hang_128 : decode cX2_hang 128 = .ok (.iload 8, 2) := by decide +kernel
theorem dX2_hang_130 : decode cX2_hang 130 = .ok (.iastore, 1) := by decide +kernel
theorem dX2_hang_131 : decode cX2_hang 131 = .ok (.aload_n 0, 1) := by decide +kernel
theorem dX2_hang_132 : decode cX2_hang 132 = .ok (.getfield 26, 3) := by decide +kernel
theorem dX2_hang_135 : decode cX2_hang 135 = .ok (.iload 6, 2) := by decide +kernel
theorem dX2_hang_137 : decode cX2_hang 137 = .ok (.iload 7, 2) := by decide +kernel
theorem dX2_hang_139 : decode cX2_hang 139 = .ok (.iastore, 1) := by decide +kernel
theorem dX2_hang_140 : decode cX2_hang 140 = .ok (.iinc 5 1, 3) := by decide +kernel
theorem dX2_hang_143 : decode cX2_hang 143 = .ok (.goto (-110), 3) := by decide +kernel
theorem dX2_hang_146 : decode cX2_hang 146 = .ok (.iload 4, 2) := by decide +kernel
theorem dX2_hang_148 : decode cX2_hang 148 = .ok (.ireturn, 1) := by decide +kernel
set_option maxRecDepth 20000 in
theorem ggX2_endOf_X2_hang : GoodIn wsX2_endOf wsX2_hang := goodIn_r _ [6, 7, 1, 8, 9, 10, 11, 12, 13, 14, 15, 5, 16, 17, 18, 19, 20, 21, 22, 23, 24, 25, 26, 27] (by decide +kernel) (by decide +kernel)
set_option maxRecDepth 20000 in
theorem gX2_endOf_X2_hang : GoodIn wsX2_endOf (wsV RX2 109 RX2 yX2_hang wsX2_hang) := goodIn_app (goodIn_of _ (by decide +kernel)) ggX2_endOf_X2_hang
theorem dX2_endOf_0 : decode cX2_endOf 0 = .ok (.aload_n 0, 1) := by decide +kernel
theorem dX2_endOf_1 : decode cX2_endOf 1 = .ok (.iload_n 1, 1) := by decide +kernel
theorem dX2_endOf_2 : decode cX2_endOf 2 = .ok (.iconst (-1), 1) := by decide +kernel
theorem dX2_endOf_3 : decode cX2_endOf 3 = .ok (.iconst (-1), 1) := by decide +kernel
theorem dX2_endOf_4 : decode cX2_endOf 4 = .ok (.invokevirtual 109, 3) := by decide +kernel
theorem dX2_endOf_7 : decode cX2_endOf 7 = .ok (.pop, 1) := by decide +kernel
theorem dX2_endOf_8 : decode cX2_endOf 8 = .ok (.iconst 0, 1) := by decide +kernel
theorem dX2_endOf_9 : decode cX2_endOf 9 = .ok (.istore_n 3, 1) := by decide +kernel
theorem dX2_endOf_10 : decode cX2_endOf 10 = .ok (.aload_n 0, 1) := by decide +kernel
theorem dX2_endOf_11 : decode cX2_endOf 11 = .ok (.getfield 26, 3) := by decide +kernel
theorem dX2_endOf_14 : decode cX2_endOf 14 = .ok (.iload_n 3, 1) := by decide +kernel
theorem dX2_endOf_15 : decode cX2_endOf 15 = .ok (.iaload, 1) := by decide +kernel
theorem dX2_endOf_16 : decode cX2_endOf 16 = .ok (.iload_n 2, 1) := by decide +kernel
theorem dX2_endOf_17 : decode cX2_endOf 17 = .ok (.if_icmp .eq 9, 3) := by decide +kernel
theorem dX2_endOf_20 : decode cX2_endOf 20 = .ok (.iinc 3 1, 3) := by decide +kernel
theorem dX2_endOf_23 : decode cX2_endOf 23 = .ok (.goto (-13), 3) := by decide +kernel
theorem dX2_endOf_26 : decode cX2_endOf 26 = .ok (.iload_n 3, 1) := by decide +kernel
theorem dX2_endOf_27 : decode cX2_endOf 27 = .ok (.ireturn, 1) := by decide +kernel
set_option maxRecDepth 20000 in
theorem ggX2_isRope_X2_isIn : GoodIn wsX2_isRope wsX2_isIn := goodIn_r _ [5] (by decide +kernel) (by decide +kernel)
set_option maxRecDepth 20000 in
theorem gX2_isRope_X2_isIn : GoodIn wsX2_isRope (va_wsS RX2 32 yX2_isIn wsX2_isIn) := goodIn_app (goodIn_of _ (by decide +kernel)) ggX2_isRope_X2_isIn
theorem dX2_isRope_0 : decode cX2_isRope 0 = .ok (.iload_n 1, 1) := by decide +kernel
theorem dX2_isRope_1 : decode cX2_isRope 1 = .ok (.iconst 0, 1) := by decide +kernel
theorem dX2_isRope_2 : decode cX2_isRope 2 = .ok (.aload_n 0, 1) := by decide +kernel
theorem dX2_isRope_3 : decode cX2_isRope 3 = .ok (.getfield 9, 3) := by decide +kernel
theorem dX2_isRope_6 : decode cX2_isRope 6 = .ok (.iconst 1, 1) := by decide +kernel
theorem dX2_isRope_7 : decode cX2_isRope 7 = .ok (.isub, 1) := by decide +kernel
theorem dX2_isRope_8 : decode cX2_isRope 8 = .ok (.invokestatic 32, 3) := by decide +kernel
theorem dX2_isRope_11 : decode cX2_isRope 11 = .ok (.ireturn, 1) := by decide +kernel
set_option maxRecDepth 20000 in
theorem ggX2_end_X2_isWord : GoodIn wsX2_end wsX2_isWord := goodIn_r _ [5, 6, 7, 4, 8] (by decide +kernel) (by decide +kernel)
set_option maxRecDepth 20000 in
theorem gX2_end_X2_isWord : GoodIn wsX2_end (va_wsS RX2 83 yX2_isWord wsX2_isWord) := goodIn_app (goodIn_of _ (by decide +kernel)) ggX2_end_X2_isWord
set_option maxRecDepth 20000 in
theorem ggX2_end_X2_isRope : GoodIn wsX2_end wsX2_isRope := goodIn_r _ [12, 13, 6, 7, 4, 8, 37, 38, 39, 40, 41, 42, 43, 44, 45, 46] (by decide +kernel) (by decide +kernel)
set_option maxRecDepth 20000 in
theorem gX2_end_X2_isRope : GoodIn wsX2_end (wsV RX2 113 RX2 yX2_isRope wsX2_isRope) := goodIn_app (goodIn_of _ (by decide +kernel)) ggX2_end_X2_isRope
set_option maxRecDepth 20000 in
theorem ggX2_end_X2_endOf : GoodIn wsX2_end wsX2_endOf := goodIn_r _ [17, 18, 19, 20, 21, 4, 22, 13, 23, 24, 25, 26, 27, 28, 29, 30, 31, 32, 37, 38, 39, 40, 41, 42, 43, 44, 45, 46] (by decide +kernel) (by decide +kernel)
set_option maxRecDepth 20000 in
theorem gX2_end_X2_endOf : GoodIn wsX2_end (wsV RX2 116 RX2 yX2_endOf wsX2_endOf) := goodIn_app (goodIn_of _ (by decide +kernel)) ggX2_end_X2_endOf
set_option maxRecDepth 20000 in
theorem ggX2_end_X2_no : GoodIn wsX2_end wsX2_no := goodIn_r _ [36, 1, 37, 38, 39, 40, 41, 42, 43, 44, 45, 46] (by decide +kernel) (by decide +kernel)
set_option maxRecDepth 20000 in
theorem gX2_end_X2_no : GoodIn wsX2_end (wsV RX2 80 RX2 yX2_no wsX2_no) := goodIn_app (goodIn_of _ (by decide +kernel)) ggX2_end_X2_no
theorem dX2_end_0 : decode cX2_end 0 = .ok (.aload_n 0, 1) := by decide +kernel
theorem dX2_end_1 : decode cX2_end 1 = .ok (.iconst 0, 1) := by decide +kernel
theorem dX2_end_2 : decode cX2_end 2 = .ok (.putfield 29, 3) := by decide +kernel
theorem dX2_end_5 : decode cX2_end 5 = .ok (.iload_n 1, 1) := by decide +kernel
theorem dX2_end_6 : decode cX2_end 6 = .ok (.invokestatic 83, 3) := by decide +kernel
theorem dX2_end_9 : decode cX2_end 9 = .ok (.ifCond .eq 20, 3) := by decide +kernel
theorem dX2_end_12 : decode cX2_end 12 = .ok (.aload_n 0, 1) := by decide +kernel
theorem dX2_end_13 : decode cX2_end 13 = .ok (.iload_n 2, 1) := by decide +kernel
theorem dX2_end_14 : decode cX2_end 14 = .ok (.invokevirtual 113, 3) := by decide +kernel
theorem dX2_end_17 : decode cX2_end 17 = .ok (.ifCond .eq 12, 3) := by decide +kernel
theorem dX2_end_20 : decode cX2_end 20 = .ok (.aload_n 0, 1) := by decide +kernel
theorem dX2_end_21 : decode cX2_end 21 = .ok (.iload_n 1, 1) := by decide +kernel
theorem dX2_end_22 : decode cX2_end 22 = .ok (.iload_n 2, 1) := by decide +kernel
theorem dX2_end_23 : decode cX2_end 23 = .ok (.invokevirtual 116, 3) := by decide +kernel
theorem dX2_end_26 : decode cX2_end 26 = .ok (.goto 8, 3) := by decide +kernel
theorem dX2_end_29 : decode cX2_end 29 = .ok (.aload_n 0, 1) := by decide +kernel
theorem dX2_end_30 : decode cX2_end 30 = .ok (.iconst 1, 1) := by decide +kernel
theorem dX2_end_31 : decode cX2_end 31 = .ok (.invokevirtual 80, 3) := by decide +kernel
theorem dX2_end_34 : decode cX2_end 34 = .ok (.ireturn, 1) := by decide +kernel
set_option maxRecDepth 20000 in
theorem ggX2_crosses_X2_isWord : GoodIn wsX2_crosses wsX2_isWord := goodIn_r _ [5, 6, 7, 4, 8] (by decide +kernel) (by decide +kernel)
set_option maxRecDepth 20000 in
theorem gX2_crosses_X2_isWord : GoodIn wsX2_crosses (va_wsS RX2 83 yX2_isWord wsX2_isWord) := goodIn_app (goodIn_of _ (by decide +kernel)) ggX2_crosses_X2_isWord
set_option maxRecDepth 20000 in
theorem ggX2_crosses_X2_isRope : GoodIn wsX2_crosses wsX2_isRope := goodIn_r _ [12, 13, 6, 7, 4, 8, 33, 34, 35, 36, 37, 38, 39, 40, 41, 42] (by decide +kernel) (by decide +kernel)
set_option maxRecDepth 20000 in
theorem gX2_crosses_X2_isRope : GoodIn wsX2_crosses (wsV RX2 113 RX2 yX2_isRope wsX2_isRope) := goodIn_app (goodIn_of _ (by decide +kernel)) ggX2_crosses_X2_isRope
set_option maxRecDepth 20000 in
theorem ggX2_crosses_X2_no : GoodIn wsX2_crosses wsX2_no := goodIn_r _ [17, 1, 33, 34, 35, 36, 37, 38, 39, 40, 41, 42] (by decide +kernel) (by decide +kernel)
set_option maxRecDepth 20000 in
theorem gX2_crosses_X2_no : GoodIn wsX2_crosses (wsV RX2 80 RX2 yX2_no wsX2_no) := goodIn_app (goodIn_of _ (by decide +kernel)) ggX2_crosses_X2_no
set_option maxRecDepth 20000 in
theorem ggX2_crosses_X2_hang : GoodIn wsX2_crosses wsX2_hang := goodIn_r _ [21, 13, 22, 23, 24, 25, 26, 27, 28, 29, 30, 4, 31, 32, 33, 34, 35, 36, 37, 38, 39, 40, 41, 42] (by decide +kernel) (by decide +kernel)
set_option maxRecDepth 20000 in
theorem gX2_crosses_X2_hang : GoodIn wsX2_crosses (wsV RX2 109 RX2 yX2_hang wsX2_hang) := goodIn_app (goodIn_of _ (by decide +kernel)) ggX2_crosses_X2_hang
theorem dX2_crosses_0 : decode cX2_crosses 0 = .ok (.aload_n 0, 1) := by decide +kernel
theorem dX2_crosses_1 : decode cX2_crosses 1 = .ok (.iconst 0, 1) := by decide +kernel
theorem dX2_crosses_2 : decode cX2_crosses 2 = .ok (.putfield 29, 3) := by decide +kernel
theorem dX2_crosses_5 : decode cX2_crosses 5 = .ok (.iload_n 1, 1) := by decide +kernel
theorem dX2_crosses_6 : decode cX2_crosses 6 = .ok (.invokestatic 83, 3) := by decide +kernel
theorem dX2_crosses_9 : decode cX2_crosses 9 = .ok (.ifCond .eq 19, 3) := by decide +kernel
theorem dX2_crosses_12 : decode cX2_crosses 12 = .ok (.aload_n 0, 1) := by decide +kernel
theorem dX2_crosses_13 : decode cX2_crosses 13 = .ok (.iload_n 2, 1) := by decide +kernel
theorem dX2_crosses_14 : decode cX2_crosses 14 = .ok (.invokevirtual 113, 3) := by decide +kernel
theorem dX2_crosses_17 : decode cX2_crosses 17 = .ok (.ifCond .eq 11, 3) := by decide +kernel
theorem dX2_crosses_20 : decode cX2_crosses 20 = .ok (.aload_n 0, 1) := by decide +kernel
theorem dX2_crosses_21 : decode cX2_crosses 21 = .ok (.iload_n 3, 1) := by decide +kernel
theorem dX2_crosses_22 : decode cX2_crosses 22 = .ok (.invokevirtual 113, 3) := by decide +kernel
theorem dX2_crosses_25 : decode cX2_crosses 25 = .ok (.ifCond .ne 9, 3) := by decide +kernel
theorem dX2_crosses_28 : decode cX2_crosses 28 = .ok (.aload_n 0, 1) := by decide +kernel
theorem dX2_crosses_29 : decode cX2_crosses 29 = .ok (.iconst 1, 1) := by decide +kernel
theorem dX2_crosses_30 : decode cX2_crosses 30 = .ok (.invokevirtual 80, 3) := by decide +kernel
theorem dX2_crosses_33 : decode cX2_crosses 33 = .ok (.ireturn, 1) := by decide +kernel
theorem dX2_crosses_34 : decode cX2_crosses 34 = .ok (.iload_n 2, 1) := by decide +kernel
theorem dX2_crosses_35 : decode cX2_crosses 35 = .ok (.iload_n 3, 1) := by decide +kernel
theorem dX2_crosses_36 : decode cX2_crosses 36 = .ok (.if_icmp .ne 11, 3) := by decide +kernel
theorem dX2_crosses_39 : decode cX2_crosses 39 = .ok (.aload_n 0, 1) := by decide +kernel
theorem dX2_crosses_40 : decode cX2_crosses 40 = .ok (.iconst 2, 1) := by decide +kernel
theorem dX2_crosses_41 : decode cX2_crosses 41 = .ok (.invokevirtual 80, 3) := by decide +kernel
theorem dX2_crosses_44 : decode cX2_crosses 44 = .ok (.goto 10, 3) := by decide +kernel
theorem dX2_crosses_47 : decode cX2_crosses 47 = .ok (.aload_n 0, 1) := by decide +kernel
theorem dX2_crosses_48 : decode cX2_crosses 48 = .ok (.iload_n 1, 1) := by decide +kernel
theorem dX2_crosses_49 : decode cX2_crosses 49 = .ok (.iload_n 2, 1) := by decide +kernel
theorem dX2_crosses_50 : decode cX2_crosses 50 = .ok (.iload_n 3, 1) := by decide +kernel
theorem dX2_crosses_51 : decode cX2_crosses 51 = .ok (.invokevirtual 109, 3) := by decide +kernel
theorem dX2_crosses_54 : decode cX2_crosses 54 = .ok (.ireturn, 1) := by decide +kernel
set_option maxRecDepth 20000 in
theorem ggX2_handleTold_X2_load : GoodIn wsX2_handleTold wsX2_load := goodIn_r _ [5, 6, 7, 8, 9, 4, 10, 11, 12, 13, 14, 15, 16, 17, 34, 35, 36, 37, 38, 39, 40, 41, 42, 43] (by decide +kernel) (by decide +kernel)
set_option maxRecDepth 20000 in
theorem gX2_handleTold_X2_load : GoodIn wsX2_handleTold (wsV RX2 97 RX2 yX2_load wsX2_load) := goodIn_app (goodIn_of _ (by decide +kernel)) ggX2_handleTold_X2_load
set_option maxRecDepth 20000 in
theorem ggX2_handleTold_X2_ends : GoodIn wsX2_handleTold wsX2_ends := goodIn_r _ [21, 6, 22, 23, 24, 4, 25, 12, 26, 27, 28, 29, 34, 35, 36, 37, 38, 39, 40, 41, 42, 43] (by decide +kernel) (by decide +kernel)
set_option maxRecDepth 20000 in
theorem gX2_handleTold_X2_ends : GoodIn wsX2_handleTold (wsV RX2 69 RX2 yX2_ends wsX2_ends) := goodIn_app (goodIn_of _ (by decide +kernel)) ggX2_handleTold_X2_ends
set_option maxRecDepth 20000 in
theorem ggX2_handleTold_X2_begins : GoodIn wsX2_handleTold wsX2_begins := goodIn_r _ [25, 12, 26, 27, 28, 29, 34, 35, 36, 37, 38, 39, 40, 41, 42, 43] (by decide +kernel) (by decide +kernel)
set_option maxRecDepth 20000 in
theorem gX2_handleTold_X2_begins : GoodIn wsX2_handleTold (wsV RX2 53 RX2 yX2_begins wsX2_begins) := goodIn_app (goodIn_of _ (by decide +kernel)) ggX2_handleTold_X2_begins
set_option maxRecDepth 20000 in
theorem ggX2_handleTold_X2_more : GoodIn wsX2_handleTold wsX2_more := goodIn_r _ [33, 12, 26, 27, 28, 29, 22, 23, 24, 4, 25, 34, 35, 36, 37, 38, 39, 40, 41, 42, 43] (by decide +kernel) (by decide +kernel)
set_option maxRecDepth 20000 in
theorem gX2_handleTold_X2_more : GoodIn wsX2_handleTold (wsV RX2 100 RX2 yX2_more wsX2_more) := goodIn_app (goodIn_of _ (by decide +kernel)) ggX2_handleTold_X2_more
theorem dX2_handleTold_0 : decode cX2_handleTold 0 = .ok (.aload_n 0, 1) := by decide +kernel
theorem dX2_handleTold_1 : decode cX2_handleTold 1 = .ok (.iload_n 1, 1) := by decide +kernel
theorem dX2_handleTold_2 : decode cX2_handleTold 2 = .ok (.invokevirtual 97, 3) := by decide +kernel
theorem dX2_handleTold_5 : decode cX2_handleTold 5 = .ok (.aload_n 0, 1) := by decide +kernel
theorem dX2_handleTold_6 : decode cX2_handleTold 6 = .ok (.invokevirtual 69, 3) := by decide +kernel
theorem dX2_handleTold_9 : decode cX2_handleTold 9 = .ok (.istore_n 3, 1) := by decide +kernel
theorem dX2_handleTold_10 : decode cX2_handleTold 10 = .ok (.iload_n 3, 1) := by decide +kernel
theorem dX2_handleTold_11 : decode cX2_handleTold 11 = .ok (.iconst (-1), 1) := by decide +kernel
theorem dX2_handleTold_12 : decode cX2_handleTold 12 = .ok (.if_icmp .ne 14, 3) := by decide +kernel
theorem dX2_handleTold_15 : decode cX2_handleTold 15 = .ok (.iload_n 2, 1) := by decide +kernel
theorem dX2_handleTold_16 : decode cX2_handleTold 16 = .ok (.iconst 2, 1) := by decide +kernel
theorem dX2_handleTold_17 : decode cX2_handleTold 17 = .ok (.if_icmp .ne 7, 3) := by decide +kernel
theorem dX2_handleTold_20 : decode cX2_handleTold 20 = .ok (.iconst 0, 1) := by decide +kernel
theorem dX2_handleTold_21 : decode cX2_handleTold 21 = .ok (.goto 4, 3) := by decide +kernel
theorem dX2_handleTold_24 : decode cX2_handleTold 24 = .ok (.iconst (-1), 1) := by decide +kernel
theorem dX2_handleTold_25 : decode cX2_handleTold 25 = .ok (.ireturn, 1) := by decide +kernel
theorem dX2_handleTold_26 : decode cX2_handleTold 26 = .ok (.iload_n 2, 1) := by decide +kernel
theorem dX2_handleTold_27 : decode cX2_handleTold 27 = .ok (.ifCond .ne 11, 3) := by decide +kernel
theorem dX2_handleTold_30 : decode cX2_handleTold 30 = .ok (.aload_n 0, 1) := by decide +kernel
theorem dX2_handleTold_31 : decode cX2_handleTold 31 = .ok (.iload_n 3, 1) := by decide +kernel
theorem dX2_handleTold_32 : decode cX2_handleTold 32 = .ok (.invokevirtual 53, 3) := by decide +kernel
theorem dX2_handleTold_35 : decode cX2_handleTold 35 = .ok (.goto 17, 3) := by decide +kernel
theorem dX2_handleTold_38 : decode cX2_handleTold 38 = .ok (.iload_n 2, 1) := by decide +kernel
theorem dX2_handleTold_39 : decode cX2_handleTold 39 = .ok (.iconst 1, 1) := by decide +kernel
theorem dX2_handleTold_40 : decode cX2_handleTold 40 = .ok (.if_icmp .ne 7, 3) := by decide +kernel
theorem dX2_handleTold_43 : decode cX2_handleTold 43 = .ok (.iload_n 3, 1) := by decide +kernel
theorem dX2_handleTold_44 : decode cX2_handleTold 44 = .ok (.goto 8, 3) := by decide +kernel
theorem dX2_handleTold_47 : decode cX2_handleTold 47 = .ok (.aload_n 0, 1) := by decide +kernel
theorem dX2_handleTold_48 : decode cX2_handleTold 48 = .ok (.iload_n 3, 1) := by decide +kernel
theorem dX2_handleTold_49 : decode cX2_handleTold 49 = .ok (.invokevirtual 100, 3) := by decide +kernel
theorem dX2_handleTold_52 : decode cX2_handleTold 52 = .ok (.ireturn, 1) := by decide +kernel
set_option maxRecDepth 20000 in
theorem ggX2_handle_X2_isWord : GoodIn wsX2_handle wsX2_isWord := goodIn_r _ [5, 6, 7, 4, 8] (by decide +kernel) (by decide +kernel)
set_option maxRecDepth 20000 in
theorem gX2_handle_X2_isWord : GoodIn wsX2_handle (va_wsS RX2 83 yX2_isWord wsX2_isWord) := goodIn_app (goodIn_of _ (by decide +kernel)) ggX2_handle_X2_isWord
set_option maxRecDepth 20000 in
theorem ggX2_handle_X2_isIn : GoodIn wsX2_handle wsX2_isIn := goodIn_r _ [8] (by decide +kernel) (by decide +kernel)
set_option maxRecDepth 20000 in
theorem gX2_handle_X2_isIn : GoodIn wsX2_handle (va_wsS RX2 32 yX2_isIn wsX2_isIn) := goodIn_app (goodIn_of _ (by decide +kernel)) ggX2_handle_X2_isIn
set_option maxRecDepth 20000 in
theorem ggX2_handle_X2_handleTold : GoodIn wsX2_handle wsX2_handleTold := goodIn_r _ [12, 13, 14, 15, 4, 16, 17, 18, 19, 20, 21, 22, 23, 24, 25, 26, 27, 28, 29, 30, 31, 32, 33, 34, 35, 36, 37, 38, 39, 40, 41, 42, 43, 44, 49, 50, 51, 52, 53, 54, 55, 56, 57, 58] (by decide +kernel) (by decide +kernel)
set_option maxRecDepth 20000 in
theorem gX2_handle_X2_handleTold : GoodIn wsX2_handle (wsV RX2 119 RX2 yX2_handleTold wsX2_handleTold) := goodIn_app (goodIn_of _ (by decide +kernel)) ggX2_handle_X2_handleTold
set_option maxRecDepth 20000 in
theorem ggX2_handle_X2_no : GoodIn wsX2_handle wsX2_no := goodIn_r _ [48, 1, 49, 50, 51, 52, 53, 54, 55, 56, 57, 58] (by decide +kernel) (by decide +kernel)
set_option maxRecDepth 20000 in
theorem gX2_handle_X2_no : GoodIn wsX2_handle (wsV RX2 80 RX2 yX2_no wsX2_no) := goodIn_app (goodIn_of _ (by decide +kernel)) ggX2_handle_X2_no
theorem dX2_handle_0 : decode cX2_handle 0 = .ok (.aload_n 0, 1) := by decide +kernel
theorem dX2_handle_1 : decode cX2_handle 1 = .ok (.iconst 0, 1) := by decide +kernel
theorem dX2_handle_2 : decode cX2_handle 2 = .ok (.putfield 29, 3) := by decide +kernel
theorem dX2_handle_5 : decode cX2_handle 5 = .ok (.iload_n 1, 1) := by decide +kernel
theorem dX2_handle_6 : decode cX2_handle 6 = .ok (.invokestatic 83, 3) := by decide +kernel
theorem dX2_handle_9 : decode cX2_handle 9 = .ok (.ifCond .eq 21, 3) := by decide +kernel
theorem dX2_handle_12 : decode cX2_handle 12 = .ok (.iload_n 2, 1) := by decide +kernel
theorem dX2_handle_13 : decode cX2_handle 13 = .ok (.iconst 0, 1) := by decide +kernel
theorem dX2_handle_14 : decode cX2_handle 14 = .ok (.iconst 2, 1) := by decide +kernel
theorem dX2_handle_15 : decode cX2_handle 15 = .ok (.invokestatic 32, 3) := by decide +kernel
theorem dX2_handle_18 : decode cX2_handle 18 = .ok (.ifCond .eq 12, 3) := by decide +kernel
theorem dX2_handle_21 : decode cX2_handle 21 = .ok (.aload_n 0, 1) := by decide +kernel
theorem dX2_handle_22 : decode cX2_handle 22 = .ok (.iload_n 1, 1) := by decide +kernel
theorem dX2_handle_23 : decode cX2_handle 23 = .ok (.iload_n 2, 1) := by decide +kernel
theorem dX2_handle_24 : decode cX2_handle 24 = .ok (.invokevirtual 119, 3) := by decide +kernel
theorem dX2_handle_27 : decode cX2_handle 27 = .ok (.goto 8, 3) := by decide +kernel
theorem dX2_handle_30 : decode cX2_handle 30 = .ok (.aload_n 0, 1) := by decide +kernel
theorem dX2_handle_31 : decode cX2_handle 31 = .ok (.iconst 1, 1) := by decide +kernel
theorem dX2_handle_32 : decode cX2_handle 32 = .ok (.invokevirtual 80, 3) := by decide +kernel
theorem dX2_handle_35 : decode cX2_handle 35 = .ok (.ireturn, 1) := by decide +kernel
set_option maxRecDepth 20000 in
theorem ggX2_plainTold_X2_load : GoodIn wsX2_plainTold wsX2_load := goodIn_r _ [8, 2, 9, 10, 11, 7, 12, 13, 14, 15, 16, 17, 18, 19, 53, 54, 55, 56, 57, 58, 59, 60, 61, 62] (by decide +kernel) (by decide +kernel)
set_option maxRecDepth 20000 in
theorem gX2_plainTold_X2_load : GoodIn wsX2_plainTold (wsV RX2 97 RX2 yX2_load wsX2_load) := goodIn_app (goodIn_of _ (by decide +kernel)) ggX2_plainTold_X2_load
set_option maxRecDepth 20000 in
theorem ggX2_plainTold_X2_makePlain : GoodIn wsX2_plainTold wsX2_makePlain := goodIn_r _ [23, 3, 1, 2, 24, 25, 26, 7, 27, 28, 29, 30, 31, 14, 32, 33, 34, 35, 36, 37, 38, 39, 40, 41, 42, 43, 44, 53, 54, 55, 56, 57, 58, 59, 60, 61, 62] (by decide +kernel) (by decide +kernel)
set_option maxRecDepth 20000 in
theorem gX2_plainTold_X2_makePlain : GoodIn wsX2_plainTold (wsV RX2 122 RX2 yX2_makePlain wsX2_makePlain) := goodIn_app (goodIn_of _ (by decide +kernel)) ggX2_plainTold_X2_makePlain
set_option maxRecDepth 20000 in
theorem ggX2_plainTold_X2_sign : GoodIn wsX2_plainTold wsX2_sign := goodIn_r _ [48, 2, 14, 32, 33, 34, 35, 49, 50, 51, 7, 52, 53, 54, 55, 56, 57, 58, 59, 60, 61, 62] (by decide +kernel) (by decide +kernel)
set_option maxRecDepth 20000 in
theorem gX2_plainTold_X2_sign : GoodIn wsX2_plainTold (wsV RX2 125 RX2 yX2_sign wsX2_sign) := goodIn_app (goodIn_of _ (by decide +kernel)) ggX2_plainTold_X2_sign
set_option maxRecDepth 20000 in
theorem ggX2_plainTold_X2_least : GoodIn wsX2_plainTold wsX2_least := goodIn_r _ [52, 2, 14, 32, 33, 34, 35, 53, 54, 55, 56, 57, 58, 59, 60, 61, 62] (by decide +kernel) (by decide +kernel)
set_option maxRecDepth 20000 in
theorem gX2_plainTold_X2_least : GoodIn wsX2_plainTold (wsV RX2 77 RX2 yX2_least wsX2_least) := goodIn_app (goodIn_of _ (by decide +kernel)) ggX2_plainTold_X2_least
theorem dX2_plainTold_0 : decode cX2_plainTold 0 = .ok (.aload_n 0, 1) := by decide +kernel
theorem dX2_plainTold_1 : decode cX2_plainTold 1 = .ok (.iload_n 1, 1) := by decide +kernel
theorem dX2_plainTold_2 : decode cX2_plainTold 2 = .ok (.invokevirtual 97, 3) := by decide +kernel
theorem dX2_plainTold_5 : decode cX2_plainTold 5 = .ok (.aload_n 0, 1) := by decide +kernel
theorem dX2_plainTold_6 : decode cX2_plainTold 6 = .ok (.invokevirtual 122, 3) := by decide +kernel
theorem dX2_plainTold_9 : decode cX2_plainTold 9 = .ok (.aload_n 0, 1) := by decide +kernel
theorem dX2_plainTold_10 : decode cX2_plainTold 10 = .ok (.getfield 65, 3) := by decide +kernel
theorem dX2_plainTold_13 : decode cX2_plainTold 13 = .ok (.ifCond .eq 6, 3) := by decide +kernel
theorem dX2_plainTold_16 : decode cX2_plainTold 16 = .ok (.bipush (-9), 2) := by decide +kernel
theorem dX2_plainTold_18 : decode cX2_plainTold 18 = .ok (.ireturn, 1) := by decide +kernel
theorem dX2_plainTold_19 : decode cX2_plainTold 19 = .ok (.iload_n 2, 1) := by decide +kernel
theorem dX2_plainTold_20 : decode cX2_plainTold 20 = .ok (.ifCond .ne 10, 3) := by decide +kernel
theorem dX2_plainTold_23 : decode cX2_plainTold 23 = .ok (.aload_n 0, 1) := by decide +kernel
theorem dX2_plainTold_24 : decode cX2_plainTold 24 = .ok (.getfield 36, 3) := by decide +kernel
theorem dX2_plainTold_27 : decode cX2_plainTold 27 = .ok (.goto 31, 3) := by decide +kernel
theorem dX2_plainTold_30 : decode cX2_plainTold 30 = .ok (.iload_n 2, 1) := by decide +kernel
theorem dX2_plainTold_31 : decode cX2_plainTold 31 = .ok (.iconst 1, 1) := by decide +kernel
theorem dX2_plainTold_32 : decode cX2_plainTold 32 = .ok (.if_icmp .ne 10, 3) := by decide +kernel
theorem dX2_plainTold_35 : decode cX2_plainTold 35 = .ok (.aload_n 0, 1) := by decide +kernel
theorem dX2_plainTold_36 : decode cX2_plainTold 36 = .ok (.getfield 62, 3) := by decide +kernel
theorem dX2_plainTold_39 : decode cX2_plainTold 39 = .ok (.goto 19, 3) := by decide +kernel
theorem dX2_plainTold_42 : decode cX2_plainTold 42 = .ok (.iload_n 2, 1) := by decide +kernel
theorem dX2_plainTold_43 : decode cX2_plainTold 43 = .ok (.iconst 2, 1) := by decide +kernel
theorem dX2_plainTold_44 : decode cX2_plainTold 44 = .ok (.if_icmp .ne 10, 3) := by decide +kernel
theorem dX2_plainTold_47 : decode cX2_plainTold 47 = .ok (.aload_n 0, 1) := by decide +kernel
theorem dX2_plainTold_48 : decode cX2_plainTold 48 = .ok (.invokevirtual 125, 3) := by decide +kernel
theorem dX2_plainTold_51 : decode cX2_plainTold 51 = .ok (.goto 7, 3) := by decide +kernel
theorem dX2_plainTold_54 : decode cX2_plainTold 54 = .ok (.aload_n 0, 1) := by decide +kernel
theorem dX2_plainTold_55 : decode cX2_plainTold 55 = .ok (.invokevirtual 77, 3) := by decide +kernel
theorem dX2_plainTold_58 : decode cX2_plainTold 58 = .ok (.ireturn, 1) := by decide +kernel
set_option maxRecDepth 20000 in
theorem ggX2_plain_X2_isWord : GoodIn wsX2_plain wsX2_isWord := goodIn_r _ [5, 6, 7, 4, 8] (by decide +kernel) (by decide +kernel)
set_option maxRecDepth 20000 in
theorem gX2_plain_X2_isWord : GoodIn wsX2_plain (va_wsS RX2 83 yX2_isWord wsX2_isWord) := goodIn_app (goodIn_of _ (by decide +kernel)) ggX2_plain_X2_isWord
set_option maxRecDepth 20000 in
theorem ggX2_plain_X2_isIn : GoodIn wsX2_plain wsX2_isIn := goodIn_r _ [8] (by decide +kernel) (by decide +kernel)
set_option maxRecDepth 20000 in
theorem gX2_plain_X2_isIn : GoodIn wsX2_plain (va_wsS RX2 32 yX2_isIn wsX2_isIn) := goodIn_app (goodIn_of _ (by decide +kernel)) ggX2_plain_X2_isIn
set_option maxRecDepth 20000 in
theorem ggX2_plain_X2_plainTold : GoodIn wsX2_plain wsX2_plainTold := goodIn_r _ [12, 13, 14, 15, 16, 17, 18, 4, 19, 20, 21, 22, 23, 24, 25, 26, 27, 28, 29, 30, 31, 32, 33, 34, 35, 36, 37, 38, 39, 40, 41, 42, 43, 44, 45, 46, 47, 48, 49, 50, 51, 52, 53, 54, 55, 56, 57, 58, 59, 60, 61, 62, 63, 68, 69, 70, 71, 72, 73, 74, 75, 76, 77] (by decide +kernel) (by decide +kernel)
set_option maxRecDepth 20000 in
theorem gX2_plain_X2_plainTold : GoodIn wsX2_plain (wsV RX2 128 RX2 yX2_plainTold wsX2_plainTold) := goodIn_app (goodIn_of _ (by decide +kernel)) ggX2_plain_X2_plainTold
set_option maxRecDepth 20000 in
theorem ggX2_plain_X2_no : GoodIn wsX2_plain wsX2_no := goodIn_r _ [67, 1, 68, 69, 70, 71, 72, 73, 74, 75, 76, 77] (by decide +kernel) (by decide +kernel)
set_option maxRecDepth 20000 in
theorem gX2_plain_X2_no : GoodIn wsX2_plain (wsV RX2 80 RX2 yX2_no wsX2_no) := goodIn_app (goodIn_of _ (by decide +kernel)) ggX2_plain_X2_no
theorem dX2_plain_0 : decode cX2_plain 0 = .ok (.aload_n 0, 1) := by decide +kernel
theorem dX2_plain_1 : decode cX2_plain 1 = .ok (.iconst 0, 1) := by decide +kernel
theorem dX2_plain_2 : decode cX2_plain 2 = .ok (.putfield 29, 3) := by decide +kernel
theorem dX2_plain_5 : decode cX2_plain 5 = .ok (.iload_n 1, 1) := by decide +kernel
theorem dX2_plain_6 : decode cX2_plain 6 = .ok (.invokestatic 83, 3) := by decide +kernel
theorem dX2_plain_9 : decode cX2_plain 9 = .ok (.ifCond .eq 21, 3) := by decide +kernel
theorem dX2_plain_12 : decode cX2_plain 12 = .ok (.iload_n 2, 1) := by decide +kernel
theorem dX2_plain_13 : decode cX2_plain 13 = .ok (.iconst 0, 1) := by decide +kernel
theorem dX2_plain_14 : decode cX2_plain 14 = .ok (.iconst 3, 1) := by decide +kernel
theorem dX2_plain_15 : decode cX2_plain 15 = .ok (.invokestatic 32, 3) := by decide +kernel
theorem dX2_plain_18 : decode cX2_plain 18 = .ok (.ifCond .eq 12, 3) := by decide +kernel
theorem dX2_plain_21 : decode cX2_plain 21 = .ok (.aload_n 0, 1) := by decide +kernel
theorem dX2_plain_22 : decode cX2_plain 22 = .ok (.iload_n 1, 1) := by decide +kernel
theorem dX2_plain_23 : decode cX2_plain 23 = .ok (.iload_n 2, 1) := by decide +kernel
theorem dX2_plain_24 : decode cX2_plain 24 = .ok (.invokevirtual 128, 3) := by decide +kernel
theorem dX2_plain_27 : decode cX2_plain 27 = .ok (.goto 8, 3) := by decide +kernel
theorem dX2_plain_30 : decode cX2_plain 30 = .ok (.aload_n 0, 1) := by decide +kernel
theorem dX2_plain_31 : decode cX2_plain 31 = .ok (.iconst 1, 1) := by decide +kernel
theorem dX2_plain_32 : decode cX2_plain 32 = .ok (.invokevirtual 80, 3) := by decide +kernel
theorem dX2_plain_35 : decode cX2_plain 35 = .ok (.ireturn, 1) := by decide +kernel
set_option maxRecDepth 20000 in
theorem ggX2_sameTold_X2_loadBoth : GoodIn wsX2_sameTold wsX2_loadBoth := goodIn_r _ [7, 2, 8, 9, 10, 6, 11, 12, 13, 14, 15, 16, 17, 18, 45, 46, 47, 48, 49, 50, 51, 52, 53, 54] (by decide +kernel) (by decide +kernel)
set_option maxRecDepth 20000 in
theorem gX2_sameTold_X2_loadBoth : GoodIn wsX2_sameTold (wsV RX2 131 RX2 yX2_loadBoth wsX2_loadBoth) := goodIn_app (goodIn_of _ (by decide +kernel)) ggX2_sameTold_X2_loadBoth
set_option maxRecDepth 20000 in
theorem ggX2_sameTold_X2_makePlain : GoodIn wsX2_sameTold wsX2_makePlain := goodIn_r _ [22, 23, 1, 2, 24, 25, 26, 6, 27, 28, 29, 30, 31, 13, 32, 33, 34, 35, 36, 37, 38, 39, 40, 41, 42, 43, 44, 45, 46, 47, 48, 49, 50, 51, 52, 53, 54] (by decide +kernel) (by decide +kernel)
set_option maxRecDepth 20000 in
theorem gX2_sameTold_X2_makePlain : GoodIn wsX2_sameTold (wsV RX2 122 RX2 yX2_makePlain wsX2_makePlain) := goodIn_app (goodIn_of _ (by decide +kernel)) ggX2_sameTold_X2_makePlain
theorem dX2_sameTold_0 : decode cX2_sameTold 0 = .ok (.aload_n 0, 1) := by decide +kernel
theorem dX2_sameTold_1 : decode cX2_sameTold 1 = .ok (.invokevirtual 131, 3) := by decide +kernel
theorem dX2_sameTold_4 : decode cX2_sameTold 4 = .ok (.aload_n 0, 1) := by decide +kernel
theorem dX2_sameTold_5 : decode cX2_sameTold 5 = .ok (.invokevirtual 122, 3) := by decide +kernel
theorem dX2_sameTold_8 : decode cX2_sameTold 8 = .ok (.aload_n 0, 1) := by decide +kernel
theorem dX2_sameTold_9 : decode cX2_sameTold 9 = .ok (.getfield 65, 3) := by decide +kernel
theorem dX2_sameTold_12 : decode cX2_sameTold 12 = .ok (.ifCond .eq 8, 3) := by decide +kernel
theorem dX2_sameTold_15 : decode cX2_sameTold 15 = .ok (.bipush (-9), 2) := by decide +kernel
theorem dX2_sameTold_17 : decode cX2_sameTold 17 = .ok (.goto 15, 3) := by decide +kernel
theorem dX2_sameTold_20 : decode cX2_sameTold 20 = .ok (.aload_n 0, 1) := by decide +kernel
theorem dX2_sameTold_21 : decode cX2_sameTold 21 = .ok (.getfield 36, 3) := by decide +kernel
theorem dX2_sameTold_24 : decode cX2_sameTold 24 = .ok (.ifCond .ne 7, 3) := by decide +kernel
theorem dX2_sameTold_27 : decode cX2_sameTold 27 = .ok (.iconst 1, 1) := by decide +kernel
theorem dX2_sameTold_28 : decode cX2_sameTold 28 = .ok (.goto 4, 3) := by decide +kernel
theorem dX2_sameTold_31 : decode cX2_sameTold 31 = .ok (.iconst 0, 1) := by decide +kernel
theorem dX2_sameTold_32 : decode cX2_sameTold 32 = .ok (.ireturn, 1) := by decide +kernel
set_option maxRecDepth 20000 in
theorem ggX2_same_X2_sameTold : GoodIn wsX2_same wsX2_sameTold := goodIn_r _ [6, 7, 8, 9, 10, 11, 5, 12, 13, 14, 15, 16, 17, 18, 19, 20, 21, 22, 23, 24, 25, 26, 27, 28, 29, 30, 31, 32, 33, 34, 35, 36, 37, 38, 39, 40, 41, 42, 43, 44, 45, 46, 47, 48, 49, 50, 51, 52, 53, 54, 55, 56, 57, 58, 59] (by decide +kernel) (by decide +kernel)
set_option maxRecDepth 20000 in
theorem gX2_same_X2_sameTold : GoodIn wsX2_same (wsV RX2 134 RX2 yX2_sameTold wsX2_sameTold) := goodIn_app (goodIn_of _ (by decide +kernel)) ggX2_same_X2_sameTold
theorem dX2_same_0 : decode cX2_same 0 = .ok (.aload_n 0, 1) := by decide +kernel
theorem dX2_same_1 : decode cX2_same 1 = .ok (.iconst 0, 1) := by decide +kernel
theorem dX2_same_2 : decode cX2_same 2 = .ok (.putfield 29, 3) := by decide +kernel
theorem dX2_same_5 : decode cX2_same 5 = .ok (.aload_n 0, 1) := by decide +kernel
theorem dX2_same_6 : decode cX2_same 6 = .ok (.invokevirtual 134, 3) := by decide +kernel
theorem dX2_same_9 : decode cX2_same 9 = .ok (.ireturn, 1) := by decide +kernel
set_option maxRecDepth 20000 in
theorem ggX2_aheadTold_X2_loadBoth : GoodIn wsX2_aheadTold wsX2_loadBoth := goodIn_r _ [6, 7, 8, 9, 10, 5, 11, 12, 13, 14, 15, 16, 17, 18, 53, 54, 55, 56, 57, 58, 59, 60, 61, 62] (by decide +kernel) (by decide +kernel)
set_option maxRecDepth 20000 in
theorem gX2_aheadTold_X2_loadBoth : GoodIn wsX2_aheadTold (wsV RX2 131 RX2 yX2_loadBoth wsX2_loadBoth) := goodIn_app (goodIn_of _ (by decide +kernel)) ggX2_aheadTold_X2_loadBoth
set_option maxRecDepth 20000 in
theorem ggX2_aheadTold_X2_makePlain : GoodIn wsX2_aheadTold wsX2_makePlain := goodIn_r _ [22, 23, 1, 7, 24, 25, 26, 5, 27, 28, 29, 30, 31, 13, 32, 33, 34, 35, 36, 37, 38, 39, 40, 41, 42, 43, 44, 53, 54, 55, 56, 57, 58, 59, 60, 61, 62] (by decide +kernel) (by decide +kernel)
set_option maxRecDepth 20000 in
theorem gX2_aheadTold_X2_makePlain : GoodIn wsX2_aheadTold (wsV RX2 122 RX2 yX2_makePlain wsX2_makePlain) := goodIn_app (goodIn_of _ (by decide +kernel)) ggX2_aheadTold_X2_makePlain
set_option maxRecDepth 20000 in
theorem ggX2_aheadTold_X2_sign : GoodIn wsX2_aheadTold wsX2_sign := goodIn_r _ [48, 7, 13, 32, 33, 34, 35, 49, 50, 51, 5, 52, 53, 54, 55, 56, 57, 58, 59, 60, 61, 62] (by decide +kernel) (by decide +kernel)
set_option maxRecDepth 20000 in
theorem gX2_aheadTold_X2_sign : GoodIn wsX2_aheadTold (wsV RX2 125 RX2 yX2_sign wsX2_sign) := goodIn_app (goodIn_of _ (by decide +kernel)) ggX2_aheadTold_X2_sign
theorem dX2_aheadTold_0 : decode cX2_aheadTold 0 = .ok (.aload_n 0, 1) := by decide +kernel
theorem dX2_aheadTold_1 : decode cX2_aheadTold 1 = .ok (.invokevirtual 131, 3) := by decide +kernel
theorem dX2_aheadTold_4 : decode cX2_aheadTold 4 = .ok (.aload_n 0, 1) := by decide +kernel
theorem dX2_aheadTold_5 : decode cX2_aheadTold 5 = .ok (.invokevirtual 122, 3) := by decide +kernel
theorem dX2_aheadTold_8 : decode cX2_aheadTold 8 = .ok (.aload_n 0, 1) := by decide +kernel
theorem dX2_aheadTold_9 : decode cX2_aheadTold 9 = .ok (.getfield 65, 3) := by decide +kernel
theorem dX2_aheadTold_12 : decode cX2_aheadTold 12 = .ok (.ifCond .eq 8, 3) := by decide +kernel
theorem dX2_aheadTold_15 : decode cX2_aheadTold 15 = .ok (.bipush (-9), 2) := by decide +kernel
theorem dX2_aheadTold_17 : decode cX2_aheadTold 17 = .ok (.goto 7, 3) := by decide +kernel
theorem dX2_aheadTold_20 : decode cX2_aheadTold 20 = .ok (.aload_n 0, 1) := by decide +kernel
theorem dX2_aheadTold_21 : decode cX2_aheadTold 21 = .ok (.invokevirtual 125, 3) := by decide +kernel
theorem dX2_aheadTold_24 : decode cX2_aheadTold 24 = .ok (.ireturn, 1) := by decide +kernel
set_option maxRecDepth 20000 in
theorem ggX2_ahead_X2_aheadTold : GoodIn wsX2_ahead wsX2_aheadTold := goodIn_r _ [6, 7, 8, 9, 10, 5, 11, 12, 13, 14, 15, 16, 17, 18, 19, 20, 21, 22, 23, 24, 25, 26, 27, 28, 29, 30, 31, 32, 33, 34, 35, 36, 37, 38, 39, 40, 41, 42, 43, 44, 45, 46, 47, 48, 49, 50, 51, 52, 53, 54, 55, 56, 57, 58, 59, 60, 61, 62, 63, 64, 65, 66, 67] (by decide +kernel) (by decide +kernel)
set_option maxRecDepth 20000 in
theorem gX2_ahead_X2_aheadTold : GoodIn wsX2_ahead (wsV RX2 137 RX2 yX2_aheadTold wsX2_aheadTold) := goodIn_app (goodIn_of _ (by decide +kernel)) ggX2_ahead_X2_aheadTold
theorem dX2_ahead_0 : decode cX2_ahead 0 = .ok (.aload_n 0, 1) := by decide +kernel
theorem dX2_ahead_1 : decode cX2_ahead 1 = .ok (.iconst 0, 1) := by decide +kernel
theorem dX2_ahead_2 : decode cX2_ahead 2 = .ok (.putfield 29, 3) := by decide +kernel
theorem dX2_ahead_5 : decode cX2_ahead 5 = .ok (.aload_n 0, 1) := by decide +kernel
theorem dX2_ahead_6 : decode cX2_ahead 6 = .ok (.invokevirtual 137, 3) := by decide +kernel
theorem dX2_ahead_9 : decode cX2_ahead 9 = .ok (.ireturn, 1) := by decide +kernel
set_option maxRecDepth 20000 in
theorem ggX2_with_X2_load : GoodIn wsX2_with wsX2_load := goodIn_r _ [8, 2, 9, 10, 11, 7, 12, 13, 1, 14, 15, 16, 17, 18, 45, 46, 47, 48, 49, 50, 51, 52, 53, 54] (by decide +kernel) (by decide +kernel)
set_option maxRecDepth 20000 in
theorem gX2_with_X2_load : GoodIn wsX2_with (wsV RX2 97 RX2 yX2_load wsX2_load) := goodIn_app (goodIn_of _ (by decide +kernel)) ggX2_with_X2_load
set_option maxRecDepth 20000 in
theorem ggX2_with_X2_makePlain : GoodIn wsX2_with wsX2_makePlain := goodIn_r _ [22, 23, 3, 2, 24, 25, 26, 7, 27, 28, 29, 30, 31, 1, 32, 33, 34, 35, 36, 37, 38, 39, 40, 41, 42, 43, 44, 45, 46, 47, 48, 49, 50, 51, 52, 53, 54] (by decide +kernel) (by decide +kernel)
set_option maxRecDepth 20000 in
theorem gX2_with_X2_makePlain : GoodIn wsX2_with (wsV RX2 122 RX2 yX2_makePlain wsX2_makePlain) := goodIn_app (goodIn_of _ (by decide +kernel)) ggX2_with_X2_makePlain
theorem dX2_with_0 : decode cX2_with 0 = .ok (.aload_n 0, 1) := by decide +kernel
theorem dX2_with_1 : decode cX2_with 1 = .ok (.iload_n 1, 1) := by decide +kernel
theorem dX2_with_2 : decode cX2_with 2 = .ok (.invokevirtual 97, 3) := by decide +kernel
theorem dX2_with_5 : decode cX2_with 5 = .ok (.iload_n 2, 1) := by decide +kernel
theorem dX2_with_6 : decode cX2_with 6 = .ok (.ifCond .eq 23, 3) := by decide +kernel
theorem dX2_with_9 : decode cX2_with 9 = .ok (.aload_n 0, 1) := by decide +kernel
theorem dX2_with_10 : decode cX2_with 10 = .ok (.getfield 20, 3) := by decide +kernel
theorem dX2_with_13 : decode cX2_with 13 = .ok (.aload_n 0, 1) := by decide +kernel
theorem dX2_with_14 : decode cX2_with 14 = .ok (.getfield 36, 3) := by decide +kernel
theorem dX2_with_17 : decode cX2_with 17 = .ok (.iload_n 2, 1) := by decide +kernel
theorem dX2_with_18 : decode cX2_with 18 = .ok (.iastore, 1) := by decide +kernel
theorem dX2_with_19 : decode cX2_with 19 = .ok (.aload_n 0, 1) := by decide +kernel
theorem dX2_with_20 : decode cX2_with 20 = .ok (.dup, 1) := by decide +kernel
theorem dX2_with_21 : decode cX2_with 21 = .ok (.getfield 36, 3) := by decide +kernel
theorem dX2_with_24 : decode cX2_with 24 = .ok (.iconst 1, 1) := by decide +kernel
theorem dX2_with_25 : decode cX2_with 25 = .ok (.iadd, 1) := by decide +kernel
theorem dX2_with_26 : decode cX2_with 26 = .ok (.putfield 36, 3) := by decide +kernel
theorem dX2_with_29 : decode cX2_with 29 = .ok (.aload_n 0, 1) := by decide +kernel
theorem dX2_with_30 : decode cX2_with 30 = .ok (.invokevirtual 122, 3) := by decide +kernel
theorem dX2_with_33 : decode cX2_with 33 = .ok (.aload_n 0, 1) := by decide +kernel
theorem dX2_with_34 : decode cX2_with 34 = .ok (.getfield 65, 3) := by decide +kernel
theorem dX2_with_37 : decode cX2_with 37 = .ok (.ifCond .eq 8, 3) := by decide +kernel
theorem dX2_with_40 : decode cX2_with 40 = .ok (.bipush (-9), 2) := by decide +kernel
theorem dX2_with_42 : decode cX2_with 42 = .ok (.goto 7, 3) := by decide +kernel
theorem dX2_with_45 : decode cX2_with 45 = .ok (.aload_n 0, 1) := by decide +kernel
theorem dX2_with_46 : decode cX2_with 46 = .ok (.getfield 36, 3) := by decide +kernel
theorem dX2_with_49 : decode cX2_with 49 = .ok (.ireturn, 1) := by decide +kernel
set_option maxRecDepth 20000 in
theorem ggX2_advise_X2_isWord : GoodIn wsX2_advise wsX2_isWord := goodIn_r _ [6, 7, 8, 5, 9] (by decide +kernel) (by decide +kernel)
set_option maxRecDepth 20000 in
theorem gX2_advise_X2_isWord : GoodIn wsX2_advise (va_wsS RX2 83 yX2_isWord wsX2_isWord) := goodIn_app (goodIn_of _ (by decide +kernel)) ggX2_advise_X2_isWord
set_option maxRecDepth 20000 in
theorem ggX2_advise_X2_no : GoodIn wsX2_advise wsX2_no := goodIn_r _ [13, 1, 61, 62, 63, 64, 65, 66, 67, 68, 69, 70] (by decide +kernel) (by decide +kernel)
set_option maxRecDepth 20000 in
theorem gX2_advise_X2_no : GoodIn wsX2_advise (wsV RX2 80 RX2 yX2_no wsX2_no) := goodIn_app (goodIn_of _ (by decide +kernel)) ggX2_advise_X2_no
set_option maxRecDepth 20000 in
theorem ggX2_advise_X2_with : GoodIn wsX2_advise wsX2_with := goodIn_r _ [17, 18, 19, 20, 21, 22, 23, 5, 24, 25, 26, 27, 28, 29, 30, 31, 32, 33, 34, 35, 36, 37, 38, 39, 40, 41, 42, 43, 44, 45, 46, 47, 48, 49, 50, 51, 52, 53, 54, 55, 56, 57, 58, 59, 60, 61, 62, 63, 64, 65, 66, 67, 68, 69, 70] (by decide +kernel) (by decide +kernel)
set_option maxRecDepth 20000 in
theorem gX2_advise_X2_with : GoodIn wsX2_advise (wsV RX2 140 RX2 yX2_with wsX2_with) := goodIn_app (goodIn_of _ (by decide +kernel)) ggX2_advise_X2_with
theorem dX2_advise_0 : decode cX2_advise 0 = .ok (.aload_n 0, 1) := by decide +kernel
theorem dX2_advise_1 : decode cX2_advise 1 = .ok (.iconst 0, 1) := by decide +kernel
theorem dX2_advise_2 : decode cX2_advise 2 = .ok (.putfield 29, 3) := by decide +kernel
theorem dX2_advise_5 : decode cX2_advise 5 = .ok (.iload_n 1, 1) := by decide +kernel
theorem dX2_advise_6 : decode cX2_advise 6 = .ok (.invokestatic 83, 3) := by decide +kernel
theorem dX2_advise_9 : decode cX2_advise 9 = .ok (.ifCond .ne 9, 3) := by decide +kernel
theorem dX2_advise_12 : decode cX2_advise 12 = .ok (.aload_n 0, 1) := by decide +kernel
theorem dX2_advise_13 : decode cX2_advise 13 = .ok (.iconst 1, 1) := by decide +kernel
theorem dX2_advise_14 : decode cX2_advise 14 = .ok (.invokevirtual 80, 3) := by decide +kernel
theorem dX2_advise_17 : decode cX2_advise 17 = .ok (.ireturn, 1) := by decide +kernel
theorem dX2_advise_18 : decode cX2_advise 18 = .ok (.aload_n 0, 1) := by decide +kernel
theorem dX2_advise_19 : decode cX2_advise 19 = .ok (.iload_n 1, 1) := by decide +kernel
theorem dX2_advise_20 : decode cX2_advise 20 = .ok (.iconst 0, 1) := by decide +kernel
theorem dX2_advise_21 : decode cX2_advise 21 = .ok (.invokevirtual 140, 3) := by decide +kernel
theorem dX2_advise_24 : decode cX2_advise 24 = .ok (.istore_n 2, 1) := by decide +kernel
theorem dX2_advise_25 : decode cX2_advise 25 = .ok (.iload_n 2, 1) := by decide +kernel
theorem dX2_advise_26 : decode cX2_advise 26 = .ok (.bipush (-9), 2) := by decide +kernel
theorem dX2_advise_28 : decode cX2_advise 28 = .ok (.if_icmp .ne 9, 3) := by decide +kernel
theorem dX2_advise_31 : decode cX2_advise 31 = .ok (.aload_n 0, 1) := by decide +kernel
theorem dX2_advise_32 : decode cX2_advise 32 = .ok (.iconst 2, 1) := by decide +kernel
theorem dX2_advise_33 : decode cX2_advise 33 = .ok (.invokevirtual 80, 3) := by decide +kernel
theorem dX2_advise_36 : decode cX2_advise 36 = .ok (.ireturn, 1) := by decide +kernel
theorem dX2_advise_37 : decode cX2_advise 37 = .ok (.iconst 0, 1) := by decide +kernel
theorem dX2_advise_38 : decode cX2_advise 38 = .ok (.istore_n 3, 1) := by decide +kernel
theorem dX2_advise_39 : decode cX2_advise 39 = .ok (.iconst 0, 1) := by decide +kernel
theorem dX2_advise_40 : decode cX2_advise 40 = .ok (.istore 4, 2) := by decide +kernel
theorem dX2_advise_42 : decode cX2_advise 42 = .ok (.iload 4, 2) := by decide +kernel
theorem dX2_advise_44 : decode cX2_advise 44 = .ok (.iconst 2, 1) := by decide +kernel
theorem dX2_advise_45 : decode cX2_advise 45 = .ok (.aload_n 0, 1) := by decide +kernel
theorem dX2_advise_46 : decode cX2_advise 46 = .ok (.getfield 9, 3) := by decide +kernel
theorem dX2_advise_49 : decode cX2_advise 49 = .ok (.iconst 1, 1) := by decide +kernel
theorem dX2_advise_50 : decode cX2_advise 50 = .ok (.isub, 1) := by decide +kernel
theorem dX2_advise_51 : decode cX2_advise 51 = .ok (.imul, 1) := by decide +kernel
theorem dX2_advise_52 : decode cX2_advise 52 = .ok (.if_icmp .ge 65, 3) := by decide +kernel
theorem dX2_advise_55 : decode cX2_advise 55 = .ok (.iload 4, 2) := by decide +kernel
theorem dX2_advise_57 : decode cX2_advise 57 = .ok (.iconst 2, 1) := by decide +kernel
theorem dX2_advise_58 : decode cX2_advise 58 = .ok (.irem, 1) := by decide +kernel
theorem dX2_advise_59 : decode cX2_advise 59 = .ok (.ifCond .ne 12, 3) := by decide +kernel
theorem dX2_advise_62 : decode cX2_advise 62 = .ok (.iload 4, 2) := by decide +kernel
theorem dX2_advise_64 : decode cX2_advise 64 = .ok (.iconst 2, 1) := by decide +kernel
theorem dX2_advise_65 : decode cX2_advise 65 = .ok (.idiv, 1) := by decide +kernel
theorem dX2_advise_66 : decode cX2_advise 66 = .ok (.iconst 1, 1) := by decide +kernel
theorem dX2_advise_67 : decode cX2_advise 67 = .ok (.iadd, 1) := by decide +kernel
theorem dX2_advise_68 : decode cX2_advise 68 = .ok (.goto 10, 3) := by decide +kernel
theorem dX2_advise_71 : decode cX2_advise 71 = .ok (.iload 4, 2) := by decide +kernel
theorem dX2_advise_73 : decode cX2_advise 73 = .ok (.iconst 2, 1) := by decide +kernel
theorem dX2_advise_74 : decode cX2_advise 74 = .ok (.idiv, 1) := by decide +kernel
theorem dX2_advise_75 : decode cX2_advise 75 = .ok (.ineg, 1) := by decide +kernel
theorem dX2_advise_76 : decode cX2_advise 76 = .ok (.iconst 1, 1) := by decide +kernel
theorem dX2_advise_77 : decode cX2_advise 77 = .ok (.isub, 1) := by decide +kernel
theorem dX2_advise_78 : decode cX2_advise 78 = .ok (.istore 5, 2) := by decide +kernel
theorem dX2_advise_80 : decode cX2_advise 80 = .ok (.aload_n 0, 1) := by decide +kernel
theorem dX2_advise_81 : decode cX2_advise 81 = .ok (.iload_n 1, 1) := by decide +kernel
theorem dX2_advise_82 : decode cX2_advise 82 = .ok (.iload 5, 2) := by decide +kernel
theorem dX2_advise_84 : decode cX2_advise 84 = .ok (.invokevirtual 140, 3) := by decide +kernel
theorem dX2_advise_87 : decode cX2_advise 87 = .ok (.istore 6, 2) := by decide +kernel
theorem dX2_advise_89 : decode cX2_advise 89 = .ok (.iload 6, 2) := by decide +kernel
theorem dX2_advise_91 : decode cX2_advise 91 = .ok (.bipush (-9), 2) := by decide +kernel
theorem dX2_advise_93 : decode cX2_advise 93 = .ok (.if_icmp .eq 18, 3) := by decide +kernel
theorem dX2_advise_96 : decode cX2_advise 96 = .ok (.iload 6, 2) := by decide +kernel
theorem dX2_advise_98 : decode cX2_advise 98 = .ok (.iload_n 2, 1) := by decide +kernel
theorem dX2_advise_99 : decode cX2_advise 99 = .ok (.if_icmp .lt 6, 3) := by decide +kernel
theorem dX2_advise_102 : decode cX2_advise 102 = .ok (.goto 9, 3) := by decide +kernel
theorem dX2_advise_105 : decode cX2_advise 105 = .ok (.iload 5, 2) := by decide +kernel
theorem dX2_advise_107 : decode cX2_advise 107 = .ok (.istore_n 3, 1) := by decide +kernel
theorem dX2_advise_108 : decode cX2_advise 108 = .ok (.iload 6, 2) := by decide +kernel
theorem dX2_advise_110 : decode cX2_advise 110 = .ok (.istore_n 2, 1) := by decide +kernel
theorem dX2_advise_111 : decode cX2_advise 111 = .ok (.iinc 4 1, 3) := by decide +kernel
theorem dX2_advise_114 : decode cX2_advise 114 = .ok (.goto (-72), 3) := by decide +kernel
theorem dX2_advise_117 : decode cX2_advise 117 = .ok (.iload_n 3, 1) := by decide +kernel
theorem dX2_advise_118 : decode cX2_advise 118 = .ok (.ireturn, 1) := by decide +kernel
set_option maxRecDepth 20000 in
theorem ggX2_mean_X2_at : GoodIn wsX2_mean wsX2_at := goodIn_r _ [11, 12, 13, 14, 15, 16, 17, 18, 19, 20, 21, 22] (by decide +kernel) (by decide +kernel)
set_option maxRecDepth 20000 in
theorem gX2_mean_X2_at : GoodIn wsX2_mean (wsV RX2 39 RX2 yX2_at wsX2_at) := goodIn_app (goodIn_of _ (by decide +kernel)) ggX2_mean_X2_at
theorem dX2_mean_0 : decode cX2_mean 0 = .ok (.aload_n 0, 1) := by decide +kernel
theorem dX2_mean_1 : decode cX2_mean 1 = .ok (.iconst 0, 1) := by decide +kernel
theorem dX2_mean_2 : decode cX2_mean 2 = .ok (.putfield 29, 3) := by decide +kernel
theorem dX2_mean_5 : decode cX2_mean 5 = .ok (.iconst 0, 1) := by decide +kernel
theorem dX2_mean_6 : decode cX2_mean 6 = .ok (.istore_n 1, 1) := by decide +kernel
theorem dX2_mean_7 : decode cX2_mean 7 = .ok (.iconst 0, 1) := by decide +kernel
theorem dX2_mean_8 : decode cX2_mean 8 = .ok (.istore_n 2, 1) := by decide +kernel
theorem dX2_mean_9 : decode cX2_mean 9 = .ok (.iload_n 2, 1) := by decide +kernel
theorem dX2_mean_10 : decode cX2_mean 10 = .ok (.iconst 2, 1) := by decide +kernel
theorem dX2_mean_11 : decode cX2_mean 11 = .ok (.if_icmp .ge 39, 3) := by decide +kernel
theorem dX2_mean_14 : decode cX2_mean 14 = .ok (.iconst 0, 1) := by decide +kernel
theorem dX2_mean_15 : decode cX2_mean 15 = .ok (.istore_n 3, 1) := by decide +kernel
theorem dX2_mean_16 : decode cX2_mean 16 = .ok (.iload_n 3, 1) := by decide +kernel
theorem dX2_mean_17 : decode cX2_mean 17 = .ok (.aload_n 0, 1) := by decide +kernel
theorem dX2_mean_18 : decode cX2_mean 18 = .ok (.getfield 13, 3) := by decide +kernel
theorem dX2_mean_21 : decode cX2_mean 21 = .ok (.iload_n 2, 1) := by decide +kernel
theorem dX2_mean_22 : decode cX2_mean 22 = .ok (.iaload, 1) := by decide +kernel
theorem dX2_mean_23 : decode cX2_mean 23 = .ok (.if_icmp .ge 21, 3) := by decide +kernel
theorem dX2_mean_26 : decode cX2_mean 26 = .ok (.iload_n 1, 1) := by decide +kernel
theorem dX2_mean_27 : decode cX2_mean 27 = .ok (.aload_n 0, 1) := by decide +kernel
theorem dX2_mean_28 : decode cX2_mean 28 = .ok (.iload_n 2, 1) := by decide +kernel
theorem dX2_mean_29 : decode cX2_mean 29 = .ok (.iload_n 3, 1) := by decide +kernel
theorem dX2_mean_30 : decode cX2_mean 30 = .ok (.invokevirtual 39, 3) := by decide +kernel
theorem dX2_mean_33 : decode cX2_mean 33 = .ok (.invokestatic 47, 3) := by decide +kernel
theorem dX2_mean_36 : decode cX2_mean 36 = .ok (.iadd, 1) := by decide +kernel
theorem dX2_mean_37 : decode cX2_mean 37 = .ok (.istore_n 1, 1) := by decide +kernel
theorem dX2_mean_38 : decode cX2_mean 38 = .ok (.iinc 3 1, 3) := by decide +kernel
theorem dX2_mean_41 : decode cX2_mean 41 = .ok (.goto (-25), 3) := by decide +kernel
theorem dX2_mean_44 : decode cX2_mean 44 = .ok (.iinc 2 1, 3) := by decide +kernel
theorem dX2_mean_47 : decode cX2_mean 47 = .ok (.goto (-38), 3) := by decide +kernel
theorem dX2_mean_50 : decode cX2_mean 50 = .ok (.aload_n 0, 1) := by decide +kernel
theorem dX2_mean_51 : decode cX2_mean 51 = .ok (.getfield 13, 3) := by decide +kernel
theorem dX2_mean_54 : decode cX2_mean 54 = .ok (.iconst 0, 1) := by decide +kernel
theorem dX2_mean_55 : decode cX2_mean 55 = .ok (.iaload, 1) := by decide +kernel
theorem dX2_mean_56 : decode cX2_mean 56 = .ok (.aload_n 0, 1) := by decide +kernel
theorem dX2_mean_57 : decode cX2_mean 57 = .ok (.getfield 13, 3) := by decide +kernel
theorem dX2_mean_60 : decode cX2_mean 60 = .ok (.iconst 1, 1) := by decide +kernel
theorem dX2_mean_61 : decode cX2_mean 61 = .ok (.iaload, 1) := by decide +kernel
theorem dX2_mean_62 : decode cX2_mean 62 = .ok (.iadd, 1) := by decide +kernel
theorem dX2_mean_63 : decode cX2_mean 63 = .ok (.ifCond .ne 7, 3) := by decide +kernel
theorem dX2_mean_66 : decode cX2_mean 66 = .ok (.dconst 0, 1) := by decide +kernel
theorem dX2_mean_67 : decode cX2_mean 67 = .ok (.goto 20, 3) := by decide +kernel
theorem dX2_mean_70 : decode cX2_mean 70 = .ok (.iload_n 1, 1) := by decide +kernel
theorem dX2_mean_71 : decode cX2_mean 71 = .ok (.i2d, 1) := by decide +kernel
theorem dX2_mean_72 : decode cX2_mean 72 = .ok (.aload_n 0, 1) := by decide +kernel
theorem dX2_mean_73 : decode cX2_mean 73 = .ok (.getfield 13, 3) := by decide +kernel
theorem dX2_mean_76 : decode cX2_mean 76 = .ok (.iconst 0, 1) := by decide +kernel
theorem dX2_mean_77 : decode cX2_mean 77 = .ok (.iaload, 1) := by decide +kernel
theorem dX2_mean_78 : decode cX2_mean 78 = .ok (.aload_n 0, 1) := by decide +kernel
theorem dX2_mean_79 : decode cX2_mean 79 = .ok (.getfield 13, 3) := by decide +kernel
theorem dX2_mean_82 : decode cX2_mean 82 = .ok (.iconst 1, 1) := by decide +kernel
theorem dX2_mean_83 : decode cX2_mean 83 = .ok (.iaload, 1) := by decide +kernel
theorem dX2_mean_84 : decode cX2_mean 84 = .ok (.iadd, 1) := by decide +kernel
theorem dX2_mean_85 : decode cX2_mean 85 = .ok (.i2d, 1) := by decide +kernel
theorem dX2_mean_86 : decode cX2_mean 86 = .ok (.ddiv, 1) := by decide +kernel
theorem dX2_mean_87 : decode cX2_mean 87 = .ok (.dreturn, 1) := by decide +kernel
set_option maxRecDepth 20000 in
theorem ggX2_digest_X2_counted : GoodIn wsX2_digest wsX2_counted := goodIn_r _ [10, 5, 4, 11, 12, 13, 9, 14, 15, 16, 17, 18, 19, 98, 99, 100, 101, 102, 103, 104, 105, 106, 107] (by decide +kernel) (by decide +kernel)
set_option maxRecDepth 20000 in
theorem gX2_digest_X2_counted : GoodIn wsX2_digest (wsV RX2 106 RX2 yX2_counted wsX2_counted) := goodIn_app (goodIn_of _ (by decide +kernel)) ggX2_digest_X2_counted
set_option maxRecDepth 20000 in
theorem ggX2_digest_X2_at : GoodIn wsX2_digest wsX2_at := goodIn_r _ [18, 19, 98, 99, 100, 101, 102, 103, 104, 105, 106, 107] (by decide +kernel) (by decide +kernel)
set_option maxRecDepth 20000 in
theorem gX2_digest_X2_at : GoodIn wsX2_digest (wsV RX2 39 RX2 yX2_at wsX2_at) := goodIn_app (goodIn_of _ (by decide +kernel)) ggX2_digest_X2_at
set_option maxRecDepth 20000 in
theorem ggX2_digest_X2_endOf : GoodIn wsX2_digest wsX2_endOf := goodIn_r _ [23, 24, 25, 26, 27, 9, 28, 5, 4, 29, 30, 31, 32, 15, 16, 17, 18, 19, 98, 99, 100, 101, 102, 103, 104, 105, 106, 107] (by decide +kernel) (by decide +kernel)
set_option maxRecDepth 20000 in
theorem gX2_digest_X2_endOf : GoodIn wsX2_digest (wsV RX2 116 RX2 yX2_endOf wsX2_endOf) := goodIn_app (goodIn_of _ (by decide +kernel)) ggX2_digest_X2_endOf
set_option maxRecDepth 20000 in
theorem ggX2_digest_X2_handleTold : GoodIn wsX2_digest wsX2_handleTold := goodIn_r _ [36, 37, 38, 39, 9, 40, 41, 42, 43, 44, 45, 4, 46, 15, 16, 17, 18, 19, 47, 48, 49, 50, 51, 52, 53, 54, 29, 30, 31, 32, 55, 56, 57, 58, 98, 99, 100, 101, 102, 103, 104, 105, 106, 107] (by decide +kernel) (by decide +kernel)
set_option maxRecDepth 20000 in
theorem gX2_digest_X2_handleTold : GoodIn wsX2_digest (wsV RX2 119 RX2 yX2_handleTold wsX2_handleTold) := goodIn_app (goodIn_of _ (by decide +kernel)) ggX2_digest_X2_handleTold
set_option maxRecDepth 20000 in
theorem ggX2_digest_X2_plainTold : GoodIn wsX2_digest wsX2_plainTold := goodIn_r _ [62, 63, 41, 64, 37, 38, 39, 9, 40, 42, 43, 44, 45, 4, 46, 15, 16, 17, 18, 19, 65, 66, 67, 68, 47, 48, 49, 50, 51, 52, 53, 54, 29, 30, 31, 32, 69, 70, 71, 72, 73, 74, 75, 76, 77, 78, 79, 80, 81, 82, 83, 84, 85, 98, 99, 100, 101, 102, 103, 104, 105, 106, 107] (by decide +kernel) (by decide +kernel)
set_option maxRecDepth 20000 in
theorem gX2_digest_X2_plainTold : GoodIn wsX2_digest (wsV RX2 128 RX2 yX2_plainTold wsX2_plainTold) := goodIn_app (goodIn_of _ (by decide +kernel)) ggX2_digest_X2_plainTold
set_option maxRecDepth 20000 in
theorem ggX2_digest_X2_sameTold : GoodIn wsX2_digest wsX2_sameTold := goodIn_r _ [89, 63, 41, 90, 91, 92, 9, 93, 42, 43, 44, 45, 4, 46, 15, 16, 17, 18, 19, 65, 66, 67, 68, 64, 47, 48, 49, 50, 51, 52, 53, 54, 29, 30, 31, 32, 69, 70, 71, 72, 73, 74, 75, 76, 77, 98, 99, 100, 101, 102, 103, 104, 105, 106, 107] (by decide +kernel) (by decide +kernel)
set_option maxRecDepth 20000 in
theorem gX2_digest_X2_sameTold : GoodIn wsX2_digest (wsV RX2 134 RX2 yX2_sameTold wsX2_sameTold) := goodIn_app (goodIn_of _ (by decide +kernel)) ggX2_digest_X2_sameTold
set_option maxRecDepth 20000 in
theorem ggX2_digest_X2_aheadTold : GoodIn wsX2_digest wsX2_aheadTold := goodIn_r _ [97, 63, 90, 91, 92, 9, 93, 41, 42, 43, 44, 45, 4, 46, 15, 16, 17, 18, 19, 65, 66, 67, 68, 64, 47, 48, 49, 50, 51, 52, 53, 54, 29, 30, 31, 32, 69, 70, 71, 72, 73, 74, 75, 76, 77, 78, 79, 80, 81, 82, 83, 84, 85, 98, 99, 100, 101, 102, 103, 104, 105, 106, 107] (by decide +kernel) (by decide +kernel)
set_option maxRecDepth 20000 in
theorem gX2_digest_X2_aheadTold : GoodIn wsX2_digest (wsV RX2 137 RX2 yX2_aheadTold wsX2_aheadTold) := goodIn_app (goodIn_of _ (by decide +kernel)) ggX2_digest_X2_aheadTold
theorem dX2_digest_0 : decode cX2_digest 0 = .ok (.aload_n 0, 1) := by decide +kernel
theorem dX2_digest_1 : decode cX2_digest 1 = .ok (.iconst 0, 1) := by decide +kernel
theorem dX2_digest_2 : decode cX2_digest 2 = .ok (.putfield 29, 3) := by decide +kernel
theorem dX2_digest_5 : decode cX2_digest 5 = .ok (.ldc2_w 143, 3) := by decide +kernel
theorem dX2_digest_8 : decode cX2_digest 8 = .ok (.lstore_n 1, 1) := by decide +kernel
theorem dX2_digest_9 : decode cX2_digest 9 = .ok (.iconst 0, 1) := by decide +kernel
theorem dX2_digest_10 : decode cX2_digest 10 = .ok (.istore_n 3, 1) := by decide +kernel
theorem dX2_digest_11 : decode cX2_digest 11 = .ok (.iload_n 3, 1) := by decide +kernel
theorem dX2_digest_12 : decode cX2_digest 12 = .ok (.iconst 5, 1) := by decide +kernel
theorem dX2_digest_13 : decode cX2_digest 13 = .ok (.if_icmp .ge 22, 3) := by decide +kernel
theorem dX2_digest_16 : decode cX2_digest 16 = .ok (.lload_n 1, 1) := by decide +kernel
theorem dX2_digest_17 : decode cX2_digest 17 = .ok (.ldc2_w 145, 3) := by decide +kernel
theorem dX2_digest_20 : decode cX2_digest 20 = .ok (.lmul, 1) := by decide +kernel
theorem dX2_digest_21 : decode cX2_digest 21 = .ok (.aload_n 0, 1) := by decide +kernel
theorem dX2_digest_22 : decode cX2_digest 22 = .ok (.iload_n 3, 1) := by decide +kernel
theorem dX2_digest_23 : decode cX2_digest 23 = .ok (.invokevirtual 106, 3) := by decide +kernel
theorem dX2_digest_26 : decode cX2_digest 26 = .ok (.i2l, 1) := by decide +kernel
theorem dX2_digest_27 : decode cX2_digest 27 = .ok (.ladd, 1) := by decide +kernel
theorem dX2_digest_28 : decode cX2_digest 28 = .ok (.lstore_n 1, 1) := by decide +kernel
theorem dX2_digest_29 : decode cX2_digest 29 = .ok (.iinc 3 1, 3) := by decide +kernel
theorem dX2_digest_32 : decode cX2_digest 32 = .ok (.goto (-21), 3) := by decide +kernel
theorem dX2_digest_35 : decode cX2_digest 35 = .ok (.iconst 0, 1) := by decide +kernel
theorem dX2_digest_36 : decode cX2_digest 36 = .ok (.istore_n 3, 1) := by decide +kernel
theorem dX2_digest_37 : decode cX2_digest 37 = .ok (.iload_n 3, 1) := by decide +kernel
theorem dX2_digest_38 : decode cX2_digest 38 = .ok (.iconst 2, 1) := by decide +kernel
theorem dX2_digest_39 : decode cX2_digest 39 = .ok (.if_icmp .ge 137, 3) := by decide +kernel
theorem dX2_digest_42 : decode cX2_digest 42 = .ok (.iconst 0, 1) := by decide +kernel
theorem dX2_digest_43 : decode cX2_digest 43 = .ok (.istore 4, 2) := by decide +kernel
theorem dX2_digest_45 : decode cX2_digest 45 = .ok (.iload 4, 2) := by decide +kernel
theorem dX2_digest_47 : decode cX2_digest 47 = .ok (.aload_n 0, 1) := by decide +kernel
theorem dX2_digest_48 : decode cX2_digest 48 = .ok (.getfield 13, 3) := by decide +kernel
theorem dX2_digest_51 : decode cX2_digest 51 = .ok (.iload_n 3, 1) := by decide +kernel
theorem dX2_digest_52 : decode cX2_digest 52 = .ok (.iaload, 1) := by decide +kernel
theorem dX2_digest_53 : decode cX2_digest 53 = .ok (.if_icmp .ge 24, 3) := by decide +kernel
theorem dX2_digest_56 : decode cX2_digest 56 = .ok (.lload_n 1, 1) := by decide +kernel
theorem dX2_digest_57 : decode cX2_digest 57 = .ok (.ldc2_w 145, 3) := by decide +kernel
theorem dX2_digest_60 : decode cX2_digest 60 = .ok (.lmul, 1) := by decide +kernel
theorem dX2_digest_61 : decode cX2_digest 61 = .ok (.aload_n 0, 1) := by decide +kernel
theorem dX2_digest_62 : decode cX2_digest 62 = .ok (.iload_n 3, 1) := by decide +kernel
theorem dX2_digest_63 : decode cX2_digest 63 = .ok (.iload 4, 2) := by decide +kernel
theorem dX2_digest_65 : decode cX2_digest 65 = .ok (.invokevirtual 39, 3) := by decide +kernel
theorem dX2_digest_68 : decode cX2_digest 68 = .ok (.i2l, 1) := by decide +kernel
theorem dX2_digest_69 : decode cX2_digest 69 = .ok (.ladd, 1) := by decide +kernel
theorem dX2_digest_70 : decode cX2_digest 70 = .ok (.lstore_n 1, 1) := by decide +kernel
theorem dX2_digest_71 : decode cX2_digest 71 = .ok (.iinc 4 1, 3) := by decide +kernel
theorem dX2_digest_74 : decode cX2_digest 74 = .ok (.goto (-29), 3) := by decide +kernel
theorem dX2_digest_77 : decode cX2_digest 77 = .ok (.iconst 0, 1) := by decide +kernel
theorem dX2_digest_78 : decode cX2_digest 78 = .ok (.istore 4, 2) := by decide +kernel
theorem dX2_digest_80 : decode cX2_digest 80 = .ok (.iload 4, 2) := by decide +kernel
theorem dX2_digest_82 : decode cX2_digest 82 = .ok (.aload_n 0, 1) := by decide +kernel
theorem dX2_digest_83 : decode cX2_digest 83 = .ok (.getfield 9, 3) := by decide +kernel
theorem dX2_digest_86 : decode cX2_digest 86 = .ok (.if_icmp .ge 24, 3) := by decide +kernel
theorem dX2_digest_89 : decode cX2_digest 89 = .ok (.lload_n 1, 1) := by decide +kernel
theorem dX2_digest_90 : decode cX2_digest 90 = .ok (.ldc2_w 145, 3) := by decide +kernel
theorem dX2_digest_93 : decode cX2_digest 93 = .ok (.lmul, 1) := by decide +kernel
theorem dX2_digest_94 : decode cX2_digest 94 = .ok (.aload_n 0, 1) := by decide +kernel
theorem dX2_digest_95 : decode cX2_digest 95 = .ok (.iload_n 3, 1) := by decide +kernel
theorem dX2_digest_96 : decode cX2_digest 96 = .ok (.iload 4, 2) := by decide +kernel
theorem dX2_digest_98 : decode cX2_digest 98 = .ok (.invokevirtual 116, 3) := by decide +kernel
theorem dX2_digest_101 : decode cX2_digest 101 = .ok (.i2l, 1) := by decide +kernel
theorem dX2_digest_102 : decode cX2_digest 102 = .ok (.ladd, 1) := by decide +kernel
theorem dX2_digest_103 : decode cX2_digest 103 = .ok (.lstore_n 1, 1) := by decide +kernel
theorem dX2_digest_104 : decode cX2_digest 104 = .ok (.iinc 4 1, 3) := by decide +kernel
theorem dX2_digest_107 : decode cX2_digest 107 = .ok (.goto (-27), 3) := by decide +kernel
theorem dX2_digest_110 : decode cX2_digest 110 = .ok (.iconst 0, 1) := by decide +kernel
theorem dX2_digest_111 : decode cX2_digest 111 = .ok (.istore 4, 2) := by decide +kernel
theorem dX2_digest_113 : decode cX2_digest 113 = .ok (.iload 4, 2) := by decide +kernel
theorem dX2_digest_115 : decode cX2_digest 115 = .ok (.iconst 3, 1) := by decide +kernel
theorem dX2_digest_116 : decode cX2_digest 116 = .ok (.if_icmp .ge 24, 3) := by decide +kernel
theorem dX2_digest_119 : decode cX2_digest 119 = .ok (.lload_n 1, 1) := by decide +kernel
theorem dX2_digest_120 : decode cX2_digest 120 = .ok (.ldc2_w 145, 3) := by decide +kernel
theorem dX2_digest_123 : decode cX2_digest 123 = .ok (.lmul, 1) := by decide +kernel
theorem dX2_digest_124 : decode cX2_digest 124 = .ok (.aload_n 0, 1) := by decide +kernel
theorem dX2_digest_125 : decode cX2_digest 125 = .ok (.iload_n 3, 1) := by decide +kernel
theorem dX2_digest_126 : decode cX2_digest 126 = .ok (.iload 4, 2) := by decide +kernel
theorem dX2_digest_128 : decode cX2_digest 128 = .ok (.invokevirtual 119, 3) := by decide +kernel
theorem dX2_digest_131 : decode cX2_digest 131 = .ok (.i2l, 1) := by decide +kernel
theorem dX2_digest_132 : decode cX2_digest 132 = .ok (.ladd, 1) := by decide +kernel
theorem dX2_digest_133 : decode cX2_digest 133 = .ok (.lstore_n 1, 1) := by decide +kernel
theorem dX2_digest_134 : decode cX2_digest 134 = .ok (.iinc 4 1, 3) := by decide +kernel
theorem dX2_digest_137 : decode cX2_digest 137 = .ok (.goto (-24), 3) := by decide +kernel
theorem dX2_digest_140 : decode cX2_digest 140 = .ok (.iconst 0, 1) := by decide +kernel
theorem dX2_digest_141 : decode cX2_digest 141 = .ok (.istore 4, 2) := by decide +kernel
theorem dX2_digest_143 : decode cX2_digest 143 = .ok (.iload 4, 2) := by decide +kernel
theorem dX2_digest_145 : decode cX2_digest 145 = .ok (.iconst 4, 1) := by decide +kernel
theorem dX2_digest_146 : decode cX2_digest 146 = .ok (.if_icmp .ge 24, 3) := by decide +kernel
theorem dX2_digest_149 : decode cX2_digest 149 = .ok (.lload_n 1, 1) := by decide +kernel
theorem dX2_digest_150 : decode cX2_digest 150 = .ok (.ldc2_w 145, 3) := by decide +kernel
theorem dX2_digest_153 : decode cX2_digest 153 = .ok (.lmul, 1) := by decide +kernel
theorem dX2_digest_154 : decode cX2_digest 154 = .ok (.aload_n 0, 1) := by decide +kernel
theorem dX2_digest_155 : decode cX2_digest 155 = .ok (.iload_n 3, 1) := by decide +kernel
theorem dX2_digest_156 : decode cX2_digest 156 = .ok (.iload 4, 2) := by decide +kernel
theorem dX2_digest_158 : decode cX2_digest 158 = .ok (.invokevirtual 128, 3) := by decide +kernel
theorem dX2_digest_161 : decode cX2_digest 161 = .ok (.i2l, 1) := by decide +kernel
theorem dX2_digest_162 : decode cX2_digest 162 = .ok (.ladd, 1) := by decide +kernel
theorem dX2_digest_163 : decode cX2_digest 163 = .ok (.lstore_n 1, 1) := by decide +kernel
theorem dX2_digest_164 : decode cX2_digest 164 = .ok (.iinc 4 1, 3) := by decide +kernel
theorem dX2_digest_167 : decode cX2_digest 167 = .ok (.goto (-24), 3) := by decide +kernel
theorem dX2_digest_170 : decode cX2_digest 170 = .ok (.iinc 3 1, 3) := by decide +kernel
theorem dX2_digest_173 : decode cX2_digest 173 = .ok (.goto (-136), 3) := by decide +kernel
theorem dX2_digest_176 : decode cX2_digest 176 = .ok (.lload_n 1, 1) := by decide +kernel
theorem dX2_digest_177 : decode cX2_digest 177 = .ok (.ldc2_w 145, 3) := by decide +kernel
theorem dX2_digest_180 : decode cX2_digest 180 = .ok (.lmul, 1) := by decide +kernel
theorem dX2_digest_181 : decode cX2_digest 181 = .ok (.aload_n 0, 1) := by decide +kernel
theorem dX2_digest_182 : decode cX2_digest 182 = .ok (.invokevirtual 134, 3) := by decide +kernel
theorem dX2_digest_185 : decode cX2_digest 185 = .ok (.i2l, 1) := by decide +kernel
theorem dX2_digest_186 : decode cX2_digest 186 = .ok (.ladd, 1) := by decide +kernel
theorem dX2_digest_187 : decode cX2_digest 187 = .ok (.ldc2_w 145, 3) := by decide +kernel
theorem dX2_digest_190 : decode cX2_digest 190 = .ok (.lmul, 1) := by decide +kernel
theorem dX2_digest_191 : decode cX2_digest 191 = .ok (.aload_n 0, 1) := by decide +kernel
theorem dX2_digest_192 : decode cX2_digest 192 = .ok (.invokevirtual 137, 3) := by decide +kernel
theorem dX2_digest_195 : decode cX2_digest 195 = .ok (.i2l, 1) := by decide +kernel
theorem dX2_digest_196 : decode cX2_digest 196 = .ok (.ladd, 1) := by decide +kernel
theorem dX2_digest_197 : decode cX2_digest 197 = .ok (.lreturn, 1) := by decide +kernel
theorem dJ9_abs_0f7a4_0 : decode cJ9_abs_0f7a4 0 = .ok (.iload_n 0, 1) := by decide +kernel
theorem dJ9_abs_0f7a4_1 : decode cJ9_abs_0f7a4 1 = .ok (.ifCond .ge 8, 3) := by decide +kernel
theorem dJ9_abs_0f7a4_4 : decode cJ9_abs_0f7a4 4 = .ok (.iload_n 0, 1) := by decide +kernel
theorem dJ9_abs_0f7a4_5 : decode cJ9_abs_0f7a4 5 = .ok (.ineg, 1) := by decide +kernel
theorem dJ9_abs_0f7a4_6 : decode cJ9_abs_0f7a4 6 = .ok (.goto 4, 3) := by decide +kernel
theorem dJ9_abs_0f7a4_9 : decode cJ9_abs_0f7a4 9 = .ok (.iload_n 0, 1) := by decide +kernel
theorem dJ9_abs_0f7a4_10 : decode cJ9_abs_0f7a4 10 = .ok (.ireturn, 1) := by decide +kernel
