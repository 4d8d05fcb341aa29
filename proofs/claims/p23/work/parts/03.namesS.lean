theorem dX2_init_0 : decode cX2_init 0 = .ok (.aload_n 0, 1) := by decide +kernel
theorem dX2_init_1 : decode cX2_init 1 = .ok (.invokespecial 1, 3) := by decide +kernel
theorem dX2_init_4 : decode cX2_init 4 = .ok (.aload_n 0, 1) := by decide +kernel
theorem dX2_init_5 : decode cX2_init 5 = .ok (.iconst 3, 1) := by decide +kernel
theorem dX2_init_6 : decode cX2_init 6 = .ok (.putfield 7, 3) := by decide +kernel
theorem dX2_init_9 : decode cX2_init 9 = .ok (.aload_n 0, 1) := by decide +kernel
theorem dX2_init_10 : decode cX2_init 10 = .ok (.iconst 2, 1) := by decide +kernel
theorem dX2_init_11 : decode cX2_init 11 = .ok (.anewarray 13, 3) := by decide +kernel
theorem dX2_init_14 : decode cX2_init 14 = .ok (.dup, 1) := by decide +kernel
theorem dX2_init_15 : decode cX2_init 15 = .ok (.iconst 0, 1) := by decide +kernel
theorem dX2_init_16 : decode cX2_init 16 = .ok (.iconst 0, 1) := by decide +kernel
theorem dX2_init_17 : decode cX2_init 17 = .ok (.newarray .int, 2) := by decide +kernel
theorem dX2_init_19 : decode cX2_init 19 = .ok (.aastore, 1) := by decide +kernel
theorem dX2_init_20 : decode cX2_init 20 = .ok (.dup, 1) := by decide +kernel
theorem dX2_init_21 : decode cX2_init 21 = .ok (.iconst 1, 1) := by decide +kernel
theorem dX2_init_22 : decode cX2_init 22 = .ok (.iconst 0, 1) := by decide +kernel
theorem dX2_init_23 : decode cX2_init 23 = .ok (.newarray .int, 2) := by decide +kernel
theorem dX2_init_25 : decode cX2_init 25 = .ok (.aastore, 1) := by decide +kernel
theorem dX2_init_26 : decode cX2_init 26 = .ok (.putfield 15, 3) := by decide +kernel
theorem dX2_init_29 : decode cX2_init 29 = .ok (.return_, 1) := by decide +kernel
theorem dX2_cat_0 : decode cX2_cat 0 = .ok (.aload_n 0, 1) := by decide +kernel
theorem dX2_cat_1 : decode cX2_cat 1 = .ok (.arraylength, 1) := by decide +kernel
theorem dX2_cat_2 : decode cX2_cat 2 = .ok (.aload_n 1, 1) := by decide +kernel
theorem dX2_cat_3 : decode cX2_cat 3 = .ok (.arraylength, 1) := by decide +kernel
theorem dX2_cat_4 : decode cX2_cat 4 = .ok (.iadd, 1) := by decide +kernel
theorem dX2_cat_5 : decode cX2_cat 5 = .ok (.newarray .int, 2) := by decide +kernel
theorem dX2_cat_7 : decode cX2_cat 7 = .ok (.astore_n 2, 1) := by decide +kernel
theorem dX2_cat_8 : decode cX2_cat 8 = .ok (.iconst 0, 1) := by decide +kernel
theorem dX2_cat_9 : decode cX2_cat 9 = .ok (.istore_n 3, 1) := by decide +kernel
theorem dX2_cat_10 : decode cX2_cat 10 = .ok (.iload_n 3, 1) := by decide +kernel
theorem dX2_cat_11 : decode cX2_cat 11 = .ok (.aload_n 2, 1) := by decide +kernel
theorem dX2_cat_12 : decode cX2_cat 12 = .ok (.arraylength, 1) := by decide +kernel
theorem dX2_cat_13 : decode cX2_cat 13 = .ok (.if_icmp .ge 30, 3) := by decide +kernel
theorem dX2_cat_16 : decode cX2_cat 16 = .ok (.aload_n 2, 1) := by decide +kernel
theorem dX2_cat_17 : decode cX2_cat 17 = .ok (.iload_n 3, 1) := by decide +kernel
theorem dX2_cat_18 : decode cX2_cat 18 = .ok (.iload_n 3, 1) := by decide +kernel
theorem dX2_cat_19 : decode cX2_cat 19 = .ok (.aload_n 0, 1) := by decide +kernel
theorem dX2_cat_20 : decode cX2_cat 20 = .ok (.arraylength, 1) := by decide +kernel
theorem dX2_cat_21 : decode cX2_cat 21 = .ok (.if_icmp .ge 9, 3) := by decide +kernel
theorem dX2_cat_24 : decode cX2_cat 24 = .ok (.aload_n 0, 1) := by decide +kernel
theorem dX2_cat_25 : decode cX2_cat 25 = .ok (.iload_n 3, 1) := by decide +kernel
theorem dX2_cat_26 : decode cX2_cat 26 = .ok (.iaload, 1) := by decide +kernel
theorem dX2_cat_27 : decode cX2_cat 27 = .ok (.goto 9, 3) := by decide +kernel
theorem dX2_cat_30 : decode cX2_cat 30 = .ok (.aload_n 1, 1) := by decide +kernel
theorem dX2_cat_31 : decode cX2_cat 31 = .ok (.iload_n 3, 1) := by decide +kernel
theorem dX2_cat_32 : decode cX2_cat 32 = .ok (.aload_n 0, 1) := by decide +kernel
theorem dX2_cat_33 : decode cX2_cat 33 = .ok (.arraylength, 1) := by decide +kernel
theorem dX2_cat_34 : decode cX2_cat 34 = .ok (.isub, 1) := by decide +kernel
theorem dX2_cat_35 : decode cX2_cat 35 = .ok (.iaload, 1) := by decide +kernel
theorem dX2_cat_36 : decode cX2_cat 36 = .ok (.iastore, 1) := by decide +kernel
theorem dX2_cat_37 : decode cX2_cat 37 = .ok (.iinc 3 1, 3) := by decide +kernel
theorem dX2_cat_40 : decode cX2_cat 40 = .ok (.goto (-30), 3) := by decide +kernel
theorem dX2_cat_43 : decode cX2_cat 43 = .ok (.aload_n 2, 1) := by decide +kernel
theorem dX2_cat_44 : decode cX2_cat 44 = .ok (.areturn, 1) := by decide +kernel
theorem dX2_piece_0 : decode cX2_piece 0 = .ok (.iload_n 2, 1) := by decide +kernel
theorem dX2_piece_1 : decode cX2_piece 1 = .ok (.iload_n 1, 1) := by decide +kernel
theorem dX2_piece_2 : decode cX2_piece 2 = .ok (.isub, 1) := by decide +kernel
theorem dX2_piece_3 : decode cX2_piece 3 = .ok (.newarray .int, 2) := by decide +kernel
theorem dX2_piece_5 : decode cX2_piece 5 = .ok (.astore_n 3, 1) := by decide +kernel
theorem dX2_piece_6 : decode cX2_piece 6 = .ok (.iload_n 1, 1) := by decide +kernel
theorem dX2_piece_7 : decode cX2_piece 7 = .ok (.istore 4, 2) := by decide +kernel
theorem dX2_piece_9 : decode cX2_piece 9 = .ok (.iload 4, 2) := by decide +kernel
theorem dX2_piece_11 : decode cX2_piece 11 = .ok (.iload_n 2, 1) := by decide +kernel
theorem dX2_piece_12 : decode cX2_piece 12 = .ok (.if_icmp .ge 19, 3) := by decide +kernel
theorem dX2_piece_15 : decode cX2_piece 15 = .ok (.aload_n 3, 1) := by decide +kernel
theorem dX2_piece_16 : decode cX2_piece 16 = .ok (.iload 4, 2) := by decide +kernel
theorem dX2_piece_18 : decode cX2_piece 18 = .ok (.iload_n 1, 1) := by decide +kernel
theorem dX2_piece_19 : decode cX2_piece 19 = .ok (.isub, 1) := by decide +kernel
theorem dX2_piece_20 : decode cX2_piece 20 = .ok (.aload_n 0, 1) := by decide +kernel
theorem dX2_piece_21 : decode cX2_piece 21 = .ok (.iload 4, 2) := by decide +kernel
theorem dX2_piece_23 : decode cX2_piece 23 = .ok (.iaload, 1) := by decide +kernel
theorem dX2_piece_24 : decode cX2_piece 24 = .ok (.iastore, 1) := by decide +kernel
theorem dX2_piece_25 : decode cX2_piece 25 = .ok (.iinc 4 1, 3) := by decide +kernel
theorem dX2_piece_28 : decode cX2_piece 28 = .ok (.goto (-19), 3) := by decide +kernel
theorem dX2_piece_31 : decode cX2_piece 31 = .ok (.aload_n 3, 1) := by decide +kernel
theorem dX2_piece_32 : decode cX2_piece 32 = .ok (.areturn, 1) := by decide +kernel
theorem dX2_turned_0 : decode cX2_turned 0 = .ok (.aload_n 0, 1) := by decide +kernel
theorem dX2_turned_1 : decode cX2_turned 1 = .ok (.arraylength, 1) := by decide +kernel
theorem dX2_turned_2 : decode cX2_turned 2 = .ok (.newarray .int, 2) := by decide +kernel
theorem dX2_turned_4 : decode cX2_turned 4 = .ok (.astore_n 1, 1) := by decide +kernel
theorem dX2_turned_5 : decode cX2_turned 5 = .ok (.iconst 0, 1) := by decide +kernel
theorem dX2_turned_6 : decode cX2_turned 6 = .ok (.istore_n 2, 1) := by decide +kernel
theorem dX2_turned_7 : decode cX2_turned 7 = .ok (.iload_n 2, 1) := by decide +kernel
theorem dX2_turned_8 : decode cX2_turned 8 = .ok (.aload_n 1, 1) := by decide +kernel
theorem dX2_turned_9 : decode cX2_turned 9 = .ok (.arraylength, 1) := by decide +kernel
theorem dX2_turned_10 : decode cX2_turned 10 = .ok (.if_icmp .ge 21, 3) := by decide +kernel
theorem dX2_turned_13 : decode cX2_turned 13 = .ok (.aload_n 1, 1) := by decide +kernel
theorem dX2_turned_14 : decode cX2_turned 14 = .ok (.aload_n 1, 1) := by decide +kernel
theorem dX2_turned_15 : decode cX2_turned 15 = .ok (.arraylength, 1) := by decide +kernel
theorem dX2_turned_16 : decode cX2_turned 16 = .ok (.iconst 1, 1) := by decide +kernel
theorem dX2_turned_17 : decode cX2_turned 17 = .ok (.isub, 1) := by decide +kernel
theorem dX2_turned_18 : decode cX2_turned 18 = .ok (.iload_n 2, 1) := by decide +kernel
theorem dX2_turned_19 : decode cX2_turned 19 = .ok (.isub, 1) := by decide +kernel
theorem dX2_turned_20 : decode cX2_turned 20 = .ok (.aload_n 0, 1) := by decide +kernel
theorem dX2_turned_21 : decode cX2_turned 21 = .ok (.iload_n 2, 1) := by decide +kernel
theorem dX2_turned_22 : decode cX2_turned 22 = .ok (.iaload, 1) := by decide +kernel
theorem dX2_turned_23 : decode cX2_turned 23 = .ok (.ineg, 1) := by decide +kernel
theorem dX2_turned_24 : decode cX2_turned 24 = .ok (.iastore, 1) := by decide +kernel
theorem dX2_turned_25 : decode cX2_turned 25 = .ok (.iinc 2 1, 3) := by decide +kernel
theorem dX2_turned_28 : decode cX2_turned 28 = .ok (.goto (-21), 3) := by decide +kernel
theorem dX2_turned_31 : decode cX2_turned 31 = .ok (.aload_n 1, 1) := by decide +kernel
theorem dX2_turned_32 : decode cX2_turned 32 = .ok (.areturn, 1) := by decide +kernel
theorem dX2_handle_0 : decode cX2_handle 0 = .ok (.bipush 7, 2) := by decide +kernel
theorem dX2_handle_2 : decode cX2_handle 2 = .ok (.newarray .int, 2) := by decide +kernel
theorem dX2_handle_4 : decode cX2_handle 4 = .ok (.dup, 1) := by decide +kernel
theorem dX2_handle_5 : decode cX2_handle 5 = .ok (.iconst 0, 1) := by decide +kernel
theorem dX2_handle_6 : decode cX2_handle 6 = .ok (.iconst (-1), 1) := by decide +kernel
theorem dX2_handle_7 : decode cX2_handle 7 = .ok (.iastore, 1) := by decide +kernel
theorem dX2_handle_8 : decode cX2_handle 8 = .ok (.dup, 1) := by decide +kernel
theorem dX2_handle_9 : decode cX2_handle 9 = .ok (.iconst 1, 1) := by decide +kernel
theorem dX2_handle_10 : decode cX2_handle 10 = .ok (.iconst (-1), 1) := by decide +kernel
theorem dX2_handle_11 : decode cX2_handle 11 = .ok (.iastore, 1) := by decide +kernel
theorem dX2_handle_12 : decode cX2_handle 12 = .ok (.dup, 1) := by decide +kernel
theorem dX2_handle_13 : decode cX2_handle 13 = .ok (.iconst 2, 1) := by decide +kernel
theorem dX2_handle_14 : decode cX2_handle 14 = .ok (.iconst (-1), 1) := by decide +kernel
theorem dX2_handle_15 : decode cX2_handle 15 = .ok (.iastore, 1) := by decide +kernel
theorem dX2_handle_16 : decode cX2_handle 16 = .ok (.dup, 1) := by decide +kernel
theorem dX2_handle_17 : decode cX2_handle 17 = .ok (.iconst 3, 1) := by decide +kernel
theorem dX2_handle_18 : decode cX2_handle 18 = .ok (.iconst (-1), 1) := by decide +kernel
theorem dX2_handle_19 : decode cX2_handle 19 = .ok (.iastore, 1) := by decide +kernel
theorem dX2_handle_20 : decode cX2_handle 20 = .ok (.dup, 1) := by decide +kernel
theorem dX2_handle_21 : decode cX2_handle 21 = .ok (.iconst 4, 1) := by decide +kernel
theorem dX2_handle_22 : decode cX2_handle 22 = .ok (.iconst (-1), 1) := by decide +kernel
theorem dX2_handle_23 : decode cX2_handle 23 = .ok (.iastore, 1) := by decide +kernel
theorem dX2_handle_24 : decode cX2_handle 24 = .ok (.dup, 1) := by decide +kernel
theorem dX2_handle_25 : decode cX2_handle 25 = .ok (.iconst 5, 1) := by decide +kernel
theorem dX2_handle_26 : decode cX2_handle 26 = .ok (.iconst (-1), 1) := by decide +kernel
theorem dX2_handle_27 : decode cX2_handle 27 = .ok (.iastore, 1) := by decide +kernel
theorem dX2_handle_28 : decode cX2_handle 28 = .ok (.dup, 1) := by decide +kernel
theorem dX2_handle_29 : decode cX2_handle 29 = .ok (.bipush 6, 2) := by decide +kernel
theorem dX2_handle_31 : decode cX2_handle 31 = .ok (.iconst (-1), 1) := by decide +kernel
theorem dX2_handle_32 : decode cX2_handle 32 = .ok (.iastore, 1) := by decide +kernel
theorem dX2_handle_33 : decode cX2_handle 33 = .ok (.astore_n 1, 1) := by decide +kernel
theorem dX2_handle_34 : decode cX2_handle 34 = .ok (.iconst 0, 1) := by decide +kernel
theorem dX2_handle_35 : decode cX2_handle 35 = .ok (.istore_n 2, 1) := by decide +kernel
theorem dX2_handle_36 : decode cX2_handle 36 = .ok (.iload_n 2, 1) := by decide +kernel
theorem dX2_handle_37 : decode cX2_handle 37 = .ok (.aload_n 0, 1) := by decide +kernel
theorem dX2_handle_38 : decode cX2_handle 38 = .ok (.arraylength, 1) := by decide +kernel
theorem dX2_handle_39 : decode cX2_handle 39 = .ok (.if_icmp .ge 64, 3) := by decide +kernel
theorem dX2_handle_42 : decode cX2_handle 42 = .ok (.aload_n 0, 1) := by decide +kernel
theorem dX2_handle_43 : decode cX2_handle 43 = .ok (.iload_n 2, 1) := by decide +kernel
theorem dX2_handle_44 : decode cX2_handle 44 = .ok (.iaload, 1) := by decide +kernel
theorem dX2_handle_45 : decode cX2_handle 45 = .ok (.invokestatic 19, 3) := by decide +kernel
theorem dX2_handle_48 : decode cX2_handle 48 = .ok (.istore_n 3, 1) := by decide +kernel
theorem dX2_handle_49 : decode cX2_handle 49 = .ok (.aload_n 1, 1) := by decide +kernel
theorem dX2_handle_50 : decode cX2_handle 50 = .ok (.iload_n 3, 1) := by decide +kernel
theorem dX2_handle_51 : decode cX2_handle 51 = .ok (.iaload, 1) := by decide +kernel
theorem dX2_handle_52 : decode cX2_handle 52 = .ok (.istore 4, 2) := by decide +kernel
theorem dX2_handle_54 : decode cX2_handle 54 = .ok (.iload 4, 2) := by decide +kernel
theorem dX2_handle_56 : decode cX2_handle 56 = .ok (.ifCond .lt 37, 3) := by decide +kernel
theorem dX2_handle_59 : decode cX2_handle 59 = .ok (.aload_n 0, 1) := by decide +kernel
theorem dX2_handle_60 : decode cX2_handle 60 = .ok (.iload 4, 2) := by decide +kernel
theorem dX2_handle_62 : decode cX2_handle 62 = .ok (.iaload, 1) := by decide +kernel
theorem dX2_handle_63 : decode cX2_handle 63 = .ok (.aload_n 0, 1) := by decide +kernel
theorem dX2_handle_64 : decode cX2_handle 64 = .ok (.iload_n 2, 1) := by decide +kernel
theorem dX2_handle_65 : decode cX2_handle 65 = .ok (.iaload, 1) := by decide +kernel
theorem dX2_handle_66 : decode cX2_handle 66 = .ok (.iadd, 1) := by decide +kernel
theorem dX2_handle_67 : decode cX2_handle 67 = .ok (.ifCond .ne 26, 3) := by decide +kernel
theorem dX2_handle_70 : decode cX2_handle 70 = .ok (.aload_n 1, 1) := by decide +kernel
theorem dX2_handle_71 : decode cX2_handle 71 = .ok (.iload_n 3, 1) := by decide +kernel
theorem dX2_handle_72 : decode cX2_handle 72 = .ok (.iconst 1, 1) := by decide +kernel
theorem dX2_handle_73 : decode cX2_handle 73 = .ok (.isub, 1) := by decide +kernel
theorem dX2_handle_74 : decode cX2_handle 74 = .ok (.iaload, 1) := by decide +kernel
theorem dX2_handle_75 : decode cX2_handle 75 = .ok (.iload 4, 2) := by decide +kernel
theorem dX2_handle_77 : decode cX2_handle 77 = .ok (.if_icmp .ge 16, 3) := by decide +kernel
theorem dX2_handle_80 : decode cX2_handle 80 = .ok (.iconst 2, 1) := by decide +kernel
theorem dX2_handle_81 : decode cX2_handle 81 = .ok (.newarray .int, 2) := by decide +kernel
theorem dX2_handle_83 : decode cX2_handle 83 = .ok (.dup, 1) := by decide +kernel
theorem dX2_handle_84 : decode cX2_handle 84 = .ok (.iconst 0, 1) := by decide +kernel
theorem dX2_handle_85 : decode cX2_handle 85 = .ok (.iload 4, 2) := by decide +kernel
theorem dX2_handle_87 : decode cX2_handle 87 = .ok (.iastore, 1) := by decide +kernel
theorem dX2_handle_88 : decode cX2_handle 88 = .ok (.dup, 1) := by decide +kernel
theorem dX2_handle_89 : decode cX2_handle 89 = .ok (.iconst 1, 1) := by decide +kernel
theorem dX2_handle_90 : decode cX2_handle 90 = .ok (.iload_n 2, 1) := by decide +kernel
theorem dX2_handle_91 : decode cX2_handle 91 = .ok (.iastore, 1) := by decide +kernel
theorem dX2_handle_92 : decode cX2_handle 92 = .ok (.areturn, 1) := by decide +kernel
theorem dX2_handle_93 : decode cX2_handle 93 = .ok (.aload_n 1, 1) := by decide +kernel
theorem dX2_handle_94 : decode cX2_handle 94 = .ok (.iload_n 3, 1) := by decide +kernel
theorem dX2_handle_95 : decode cX2_handle 95 = .ok (.iload_n 2, 1) := by decide +kernel
theorem dX2_handle_96 : decode cX2_handle 96 = .ok (.iastore, 1) := by decide +kernel
theorem dX2_handle_97 : decode cX2_handle 97 = .ok (.iinc 2 1, 3) := by decide +kernel
theorem dX2_handle_100 : decode cX2_handle 100 = .ok (.goto (-64), 3) := by decide +kernel
theorem dX2_handle_103 : decode cX2_handle 103 = .ok (.aconst_null, 1) := by decide +kernel
theorem dX2_handle_104 : decode cX2_handle 104 = .ok (.areturn, 1) := by decide +kernel
set_option maxRecDepth 20000 in
theorem ggX2_cut_X2_piece : GoodIn wsX2_cut wsX2_piece := goodIn_r _ [9, 5] (by decide +kernel) (by decide +kernel)
set_option maxRecDepth 20000 in
theorem gX2_cut_X2_piece : GoodIn wsX2_cut (va_wsS RX2 25 yX2_piece wsX2_piece) := goodIn_app (goodIn_of _ (by decide +kernel)) ggX2_cut_X2_piece
set_option maxRecDepth 20000 in
theorem ggX2_cut_X2_cat : GoodIn wsX2_cut wsX2_cat := goodIn_r _ [12, 5] (by decide +kernel) (by decide +kernel)
set_option maxRecDepth 20000 in
theorem gX2_cut_X2_cat : GoodIn wsX2_cut (va_wsS RX2 29 yX2_cat wsX2_cat) := goodIn_app (goodIn_of _ (by decide +kernel)) ggX2_cut_X2_cat
theorem dX2_cut_0 : decode cX2_cut 0 = .ok (.aload_n 0, 1) := by decide +kernel
theorem dX2_cut_1 : decode cX2_cut 1 = .ok (.aload_n 1, 1) := by decide +kernel
theorem dX2_cut_2 : decode cX2_cut 2 = .ok (.iconst 0, 1) := by decide +kernel
theorem dX2_cut_3 : decode cX2_cut 3 = .ok (.iaload, 1) := by decide +kernel
theorem dX2_cut_4 : decode cX2_cut 4 = .ok (.iaload, 1) := by decide +kernel
theorem dX2_cut_5 : decode cX2_cut 5 = .ok (.istore_n 2, 1) := by decide +kernel
theorem dX2_cut_6 : decode cX2_cut 6 = .ok (.iload_n 2, 1) := by decide +kernel
theorem dX2_cut_7 : decode cX2_cut 7 = .ok (.invokestatic 19, 3) := by decide +kernel
theorem dX2_cut_10 : decode cX2_cut 10 = .ok (.iconst 1, 1) := by decide +kernel
theorem dX2_cut_11 : decode cX2_cut 11 = .ok (.iadd, 1) := by decide +kernel
theorem dX2_cut_12 : decode cX2_cut 12 = .ok (.istore_n 3, 1) := by decide +kernel
theorem dX2_cut_13 : decode cX2_cut 13 = .ok (.aload_n 0, 1) := by decide +kernel
theorem dX2_cut_14 : decode cX2_cut 14 = .ok (.iconst 0, 1) := by decide +kernel
theorem dX2_cut_15 : decode cX2_cut 15 = .ok (.aload_n 1, 1) := by decide +kernel
theorem dX2_cut_16 : decode cX2_cut 16 = .ok (.iconst 0, 1) := by decide +kernel
theorem dX2_cut_17 : decode cX2_cut 17 = .ok (.iaload, 1) := by decide +kernel
theorem dX2_cut_18 : decode cX2_cut 18 = .ok (.invokestatic 25, 3) := by decide +kernel
theorem dX2_cut_21 : decode cX2_cut 21 = .ok (.astore 4, 2) := by decide +kernel
theorem dX2_cut_23 : decode cX2_cut 23 = .ok (.aload_n 1, 1) := by decide +kernel
theorem dX2_cut_24 : decode cX2_cut 24 = .ok (.iconst 0, 1) := by decide +kernel
theorem dX2_cut_25 : decode cX2_cut 25 = .ok (.iaload, 1) := by decide +kernel
theorem dX2_cut_26 : decode cX2_cut 26 = .ok (.iconst 1, 1) := by decide +kernel
theorem dX2_cut_27 : decode cX2_cut 27 = .ok (.iadd, 1) := by decide +kernel
theorem dX2_cut_28 : decode cX2_cut 28 = .ok (.istore 5, 2) := by decide +kernel
theorem dX2_cut_30 : decode cX2_cut 30 = .ok (.iload 5, 2) := by decide +kernel
theorem dX2_cut_32 : decode cX2_cut 32 = .ok (.aload_n 1, 1) := by decide +kernel
theorem dX2_cut_33 : decode cX2_cut 33 = .ok (.iconst 1, 1) := by decide +kernel
theorem dX2_cut_34 : decode cX2_cut 34 = .ok (.iaload, 1) := by decide +kernel
theorem dX2_cut_35 : decode cX2_cut 35 = .ok (.if_icmp .ge 117, 3) := by decide +kernel
theorem dX2_cut_38 : decode cX2_cut 38 = .ok (.aload_n 0, 1) := by decide +kernel
theorem dX2_cut_39 : decode cX2_cut 39 = .ok (.iload 5, 2) := by decide +kernel
theorem dX2_cut_41 : decode cX2_cut 41 = .ok (.iaload, 1) := by decide +kernel
theorem dX2_cut_42 : decode cX2_cut 42 = .ok (.istore 6, 2) := by decide +kernel
theorem dX2_cut_44 : decode cX2_cut 44 = .ok (.iload 6, 2) := by decide +kernel
theorem dX2_cut_46 : decode cX2_cut 46 = .ok (.iload_n 3, 1) := by decide +kernel
theorem dX2_cut_47 : decode cX2_cut 47 = .ok (.if_icmp .eq 28, 3) := by decide +kernel
theorem dX2_cut_50 : decode cX2_cut 50 = .ok (.iload 6, 2) := by decide +kernel
theorem dX2_cut_52 : decode cX2_cut 52 = .ok (.iload_n 3, 1) := by decide +kernel
theorem dX2_cut_53 : decode cX2_cut 53 = .ok (.ineg, 1) := by decide +kernel
theorem dX2_cut_54 : decode cX2_cut 54 = .ok (.if_icmp .eq 21, 3) := by decide +kernel
theorem dX2_cut_57 : decode cX2_cut 57 = .ok (.aload 4, 2) := by decide +kernel
theorem dX2_cut_59 : decode cX2_cut 59 = .ok (.iconst 1, 1) := by decide +kernel
theorem dX2_cut_60 : decode cX2_cut 60 = .ok (.newarray .int, 2) := by decide +kernel
theorem dX2_cut_62 : decode cX2_cut 62 = .ok (.dup, 1) := by decide +kernel
theorem dX2_cut_63 : decode cX2_cut 63 = .ok (.iconst 0, 1) := by decide +kernel
theorem dX2_cut_64 : decode cX2_cut 64 = .ok (.iload 6, 2) := by decide +kernel
theorem dX2_cut_66 : decode cX2_cut 66 = .ok (.iastore, 1) := by decide +kernel
theorem dX2_cut_67 : decode cX2_cut 67 = .ok (.invokestatic 29, 3) := by decide +kernel
theorem dX2_cut_70 : decode cX2_cut 70 = .ok (.astore 4, 2) := by decide +kernel
theorem dX2_cut_72 : decode cX2_cut 72 = .ok (.goto 74, 3) := by decide +kernel
theorem dX2_cut_75 : decode cX2_cut 75 = .ok (.iload_n 2, 1) := by decide +kernel
theorem dX2_cut_76 : decode cX2_cut 76 = .ok (.ifCond .le 37, 3) := by decide +kernel
theorem dX2_cut_79 : decode cX2_cut 79 = .ok (.aload 4, 2) := by decide +kernel
theorem dX2_cut_81 : decode cX2_cut 81 = .ok (.iconst 3, 1) := by decide +kernel
theorem dX2_cut_82 : decode cX2_cut 82 = .ok (.newarray .int, 2) := by decide +kernel
theorem dX2_cut_84 : decode cX2_cut 84 = .ok (.dup, 1) := by decide +kernel
theorem dX2_cut_85 : decode cX2_cut 85 = .ok (.iconst 0, 1) := by decide +kernel
theorem dX2_cut_86 : decode cX2_cut 86 = .ok (.iload_n 3, 1) := by decide +kernel
theorem dX2_cut_87 : decode cX2_cut 87 = .ok (.ineg, 1) := by decide +kernel
theorem dX2_cut_88 : decode cX2_cut 88 = .ok (.iastore, 1) := by decide +kernel
theorem dX2_cut_89 : decode cX2_cut 89 = .ok (.dup, 1) := by decide +kernel
theorem dX2_cut_90 : decode cX2_cut 90 = .ok (.iconst 1, 1) := by decide +kernel
theorem dX2_cut_91 : decode cX2_cut 91 = .ok (.iload 6, 2) := by decide +kernel
theorem dX2_cut_93 : decode cX2_cut 93 = .ok (.ifCond .le 7, 3) := by decide +kernel
theorem dX2_cut_96 : decode cX2_cut 96 = .ok (.iload_n 2, 1) := by decide +kernel
theorem dX2_cut_97 : decode cX2_cut 97 = .ok (.goto 5, 3) := by decide +kernel
theorem dX2_cut_100 : decode cX2_cut 100 = .ok (.iload_n 2, 1) := by decide +kernel
theorem dX2_cut_101 : decode cX2_cut 101 = .ok (.ineg, 1) := by decide +kernel
theorem dX2_cut_102 : decode cX2_cut 102 = .ok (.iastore, 1) := by decide +kernel
theorem dX2_cut_103 : decode cX2_cut 103 = .ok (.dup, 1) := by decide +kernel
theorem dX2_cut_104 : decode cX2_cut 104 = .ok (.iconst 2, 1) := by decide +kernel
theorem dX2_cut_105 : decode cX2_cut 105 = .ok (.iload_n 3, 1) := by decide +kernel
theorem dX2_cut_106 : decode cX2_cut 106 = .ok (.iastore, 1) := by decide +kernel
theorem dX2_cut_107 : decode cX2_cut 107 = .ok (.invokestatic 29, 3) := by decide +kernel
theorem dX2_cut_110 : decode cX2_cut 110 = .ok (.goto 34, 3) := by decide +kernel
theorem dX2_cut_113 : decode cX2_cut 113 = .ok (.aload 4, 2) := by decide +kernel
theorem dX2_cut_115 : decode cX2_cut 115 = .ok (.iconst 3, 1) := by decide +kernel
theorem dX2_cut_116 : decode cX2_cut 116 = .ok (.newarray .int, 2) := by decide +kernel
theorem dX2_cut_118 : decode cX2_cut 118 = .ok (.dup, 1) := by decide +kernel
theorem dX2_cut_119 : decode cX2_cut 119 = .ok (.iconst 0, 1) := by decide +kernel
theorem dX2_cut_120 : decode cX2_cut 120 = .ok (.iload_n 3, 1) := by decide +kernel
theorem dX2_cut_121 : decode cX2_cut 121 = .ok (.iastore, 1) := by decide +kernel
theorem dX2_cut_122 : decode cX2_cut 122 = .ok (.dup, 1) := by decide +kernel
theorem dX2_cut_123 : decode cX2_cut 123 = .ok (.iconst 1, 1) := by decide +kernel
theorem dX2_cut_124 : decode cX2_cut 124 = .ok (.iload 6, 2) := by decide +kernel
theorem dX2_cut_126 : decode cX2_cut 126 = .ok (.ifCond .le 8, 3) := by decide +kernel
theorem dX2_cut_129 : decode cX2_cut 129 = .ok (.iload_n 2, 1) := by decide +kernel
theorem dX2_cut_130 : decode cX2_cut 130 = .ok (.ineg, 1) := by decide +kernel
theorem dX2_cut_131 : decode cX2_cut 131 = .ok (.goto 4, 3) := by decide +kernel
theorem dX2_cut_134 : decode cX2_cut 134 = .ok (.iload_n 2, 1) := by decide +kernel
theorem dX2_cut_135 : decode cX2_cut 135 = .ok (.iastore, 1) := by decide +kernel
theorem dX2_cut_136 : decode cX2_cut 136 = .ok (.dup, 1) := by decide +kernel
theorem dX2_cut_137 : decode cX2_cut 137 = .ok (.iconst 2, 1) := by decide +kernel
theorem dX2_cut_138 : decode cX2_cut 138 = .ok (.iload_n 3, 1) := by decide +kernel
theorem dX2_cut_139 : decode cX2_cut 139 = .ok (.ineg, 1) := by decide +kernel
theorem dX2_cut_140 : decode cX2_cut 140 = .ok (.iastore, 1) := by decide +kernel
theorem dX2_cut_141 : decode cX2_cut 141 = .ok (.invokestatic 29, 3) := by decide +kernel
theorem dX2_cut_144 : decode cX2_cut 144 = .ok (.astore 4, 2) := by decide +kernel
theorem dX2_cut_146 : decode cX2_cut 146 = .ok (.iinc 5 1, 3) := by decide +kernel
theorem dX2_cut_149 : decode cX2_cut 149 = .ok (.goto (-119), 3) := by decide +kernel
theorem dX2_cut_152 : decode cX2_cut 152 = .ok (.aload 4, 2) := by decide +kernel
theorem dX2_cut_154 : decode cX2_cut 154 = .ok (.aload_n 0, 1) := by decide +kernel
theorem dX2_cut_155 : decode cX2_cut 155 = .ok (.aload_n 1, 1) := by decide +kernel
theorem dX2_cut_156 : decode cX2_cut 156 = .ok (.iconst 1, 1) := by decide +kernel
theorem dX2_cut_157 : decode cX2_cut 157 = .ok (.iaload, 1) := by decide +kernel
theorem dX2_cut_158 : decode cX2_cut 158 = .ok (.iconst 1, 1) := by decide +kernel
theorem dX2_cut_159 : decode cX2_cut 159 = .ok (.iadd, 1) := by decide +kernel
theorem dX2_cut_160 : decode cX2_cut 160 = .ok (.aload_n 0, 1) := by decide +kernel
theorem dX2_cut_161 : decode cX2_cut 161 = .ok (.arraylength, 1) := by decide +kernel
theorem dX2_cut_162 : decode cX2_cut 162 = .ok (.invokestatic 25, 3) := by decide +kernel
theorem dX2_cut_165 : decode cX2_cut 165 = .ok (.invokestatic 29, 3) := by decide +kernel
theorem dX2_cut_168 : decode cX2_cut 168 = .ok (.areturn, 1) := by decide +kernel
set_option maxRecDepth 20000 in
theorem ggX2_plain_X2_handle : GoodIn wsX2_plain wsX2_handle := goodIn_r _ [5, 1, 6, 7, 8, 9] (by decide +kernel) (by decide +kernel)
set_option maxRecDepth 20000 in
theorem gX2_plain_X2_handle : GoodIn wsX2_plain (va_wsS RX2 33 yX2_handle wsX2_handle) := goodIn_app (goodIn_of _ (by decide +kernel)) ggX2_plain_X2_handle
set_option maxRecDepth 20000 in
theorem ggX2_plain_X2_cat : GoodIn wsX2_plain wsX2_cat := goodIn_r _ [12, 1] (by decide +kernel) (by decide +kernel)
set_option maxRecDepth 20000 in
theorem gX2_plain_X2_cat : GoodIn wsX2_plain (va_wsS RX2 29 yX2_cat wsX2_cat) := goodIn_app (goodIn_of _ (by decide +kernel)) ggX2_plain_X2_cat
set_option maxRecDepth 20000 in
theorem ggX2_plain_X2_cut : GoodIn wsX2_plain wsX2_cut := goodIn_r _ [15, 6, 7, 8, 9, 1, 16, 17, 4, 18, 10, 11, 12] (by decide +kernel) (by decide +kernel)
set_option maxRecDepth 20000 in
theorem gX2_plain_X2_cut : GoodIn wsX2_plain (va_wsS RX2 37 yX2_cut wsX2_cut) := goodIn_app (goodIn_of _ (by decide +kernel)) ggX2_plain_X2_cut
theorem dX2_plain_0 : decode cX2_plain 0 = .ok (.aload_n 0, 1) := by decide +kernel
theorem dX2_plain_1 : decode cX2_plain 1 = .ok (.astore_n 1, 1) := by decide +kernel
theorem dX2_plain_2 : decode cX2_plain 2 = .ok (.iconst 0, 1) := by decide +kernel
theorem dX2_plain_3 : decode cX2_plain 3 = .ok (.istore_n 2, 1) := by decide +kernel
theorem dX2_plain_4 : decode cX2_plain 4 = .ok (.iload_n 2, 1) := by decide +kernel
theorem dX2_plain_5 : decode cX2_plain 5 = .ok (.bipush 100, 2) := by decide +kernel
theorem dX2_plain_7 : decode cX2_plain 7 = .ok (.if_icmp .gt 45, 3) := by decide +kernel
theorem dX2_plain_10 : decode cX2_plain 10 = .ok (.aload_n 1, 1) := by decide +kernel
theorem dX2_plain_11 : decode cX2_plain 11 = .ok (.invokestatic 33, 3) := by decide +kernel
theorem dX2_plain_14 : decode cX2_plain 14 = .ok (.astore_n 3, 1) := by decide +kernel
theorem dX2_plain_15 : decode cX2_plain 15 = .ok (.aload_n 3, 1) := by decide +kernel
theorem dX2_plain_16 : decode cX2_plain 16 = .ok (.ifnonnull 15, 3) := by decide +kernel
theorem dX2_plain_19 : decode cX2_plain 19 = .ok (.aload_n 1, 1) := by decide +kernel
theorem dX2_plain_20 : decode cX2_plain 20 = .ok (.iconst 1, 1) := by decide +kernel
theorem dX2_plain_21 : decode cX2_plain 21 = .ok (.newarray .int, 2) := by decide +kernel
theorem dX2_plain_23 : decode cX2_plain 23 = .ok (.dup, 1) := by decide +kernel
theorem dX2_plain_24 : decode cX2_plain 24 = .ok (.iconst 0, 1) := by decide +kernel
theorem dX2_plain_25 : decode cX2_plain 25 = .ok (.iload_n 2, 1) := by decide +kernel
theorem dX2_plain_26 : decode cX2_plain 26 = .ok (.iastore, 1) := by decide +kernel
theorem dX2_plain_27 : decode cX2_plain 27 = .ok (.invokestatic 29, 3) := by decide +kernel
theorem dX2_plain_30 : decode cX2_plain 30 = .ok (.areturn, 1) := by decide +kernel
theorem dX2_plain_31 : decode cX2_plain 31 = .ok (.aload_n 1, 1) := by decide +kernel
theorem dX2_plain_32 : decode cX2_plain 32 = .ok (.aload_n 3, 1) := by decide +kernel
theorem dX2_plain_33 : decode cX2_plain 33 = .ok (.invokestatic 37, 3) := by decide +kernel
theorem dX2_plain_36 : decode cX2_plain 36 = .ok (.astore_n 1, 1) := by decide +kernel
theorem dX2_plain_37 : decode cX2_plain 37 = .ok (.aload_n 1, 1) := by decide +kernel
theorem dX2_plain_38 : decode cX2_plain 38 = .ok (.arraylength, 1) := by decide +kernel
theorem dX2_plain_39 : decode cX2_plain 39 = .ok (.bipush 100, 2) := by decide +kernel
theorem dX2_plain_41 : decode cX2_plain 41 = .ok (.if_icmp .le 5, 3) := by decide +kernel
theorem dX2_plain_44 : decode cX2_plain 44 = .ok (.aconst_null, 1) := by decide +kernel
theorem dX2_plain_45 : decode cX2_plain 45 = .ok (.areturn, 1) := by decide +kernel
theorem dX2_plain_46 : decode cX2_plain 46 = .ok (.iinc 2 1, 3) := by decide +kernel
theorem dX2_plain_49 : decode cX2_plain 49 = .ok (.goto (-45), 3) := by decide +kernel
theorem dX2_plain_52 : decode cX2_plain 52 = .ok (.aconst_null, 1) := by decide +kernel
theorem dX2_plain_53 : decode cX2_plain 53 = .ok (.areturn, 1) := by decide +kernel
theorem dX2_told_0 : decode cX2_told 0 = .ok (.aload_n 0, 1) := by decide +kernel
theorem dX2_told_1 : decode cX2_told 1 = .ok (.ifnonnull 6, 3) := by decide +kernel
theorem dX2_told_4 : decode cX2_told 4 = .ok (.bipush (-9), 2) := by decide +kernel
theorem dX2_told_6 : decode cX2_told 6 = .ok (.ireturn, 1) := by decide +kernel
theorem dX2_told_7 : decode cX2_told 7 = .ok (.aload_n 0, 1) := by decide +kernel
theorem dX2_told_8 : decode cX2_told 8 = .ok (.arraylength, 1) := by decide +kernel
theorem dX2_told_9 : decode cX2_told 9 = .ok (.iconst 1, 1) := by decide +kernel
theorem dX2_told_10 : decode cX2_told 10 = .ok (.isub, 1) := by decide +kernel
theorem dX2_told_11 : decode cX2_told 11 = .ok (.istore_n 2, 1) := by decide +kernel
theorem dX2_told_12 : decode cX2_told 12 = .ok (.iload_n 1, 1) := by decide +kernel
theorem dX2_told_13 : decode cX2_told 13 = .ok (.iconst 2, 1) := by decide +kernel
theorem dX2_told_14 : decode cX2_told 14 = .ok (.if_icmp .ge 15, 3) := by decide +kernel
theorem dX2_told_17 : decode cX2_told 17 = .ok (.iload_n 1, 1) := by decide +kernel
theorem dX2_told_18 : decode cX2_told 18 = .ok (.ifCond .ne 7, 3) := by decide +kernel
theorem dX2_told_21 : decode cX2_told 21 = .ok (.iload_n 2, 1) := by decide +kernel
theorem dX2_told_22 : decode cX2_told 22 = .ok (.goto 6, 3) := by decide +kernel
theorem dX2_told_25 : decode cX2_told 25 = .ok (.aload_n 0, 1) := by decide +kernel
theorem dX2_told_26 : decode cX2_told 26 = .ok (.iload_n 2, 1) := by decide +kernel
theorem dX2_told_27 : decode cX2_told 27 = .ok (.iaload, 1) := by decide +kernel
theorem dX2_told_28 : decode cX2_told 28 = .ok (.ireturn, 1) := by decide +kernel
theorem dX2_told_29 : decode cX2_told 29 = .ok (.iconst 0, 1) := by decide +kernel
theorem dX2_told_30 : decode cX2_told 30 = .ok (.istore_n 3, 1) := by decide +kernel
theorem dX2_told_31 : decode cX2_told 31 = .ok (.iconst 0, 1) := by decide +kernel
theorem dX2_told_32 : decode cX2_told 32 = .ok (.istore 4, 2) := by decide +kernel
theorem dX2_told_34 : decode cX2_told 34 = .ok (.bipush 6, 2) := by decide +kernel
theorem dX2_told_36 : decode cX2_told 36 = .ok (.istore 5, 2) := by decide +kernel
theorem dX2_told_38 : decode cX2_told 38 = .ok (.iload 5, 2) := by decide +kernel
theorem dX2_told_40 : decode cX2_told 40 = .ok (.ifCond .le 56, 3) := by decide +kernel
theorem dX2_told_43 : decode cX2_told 43 = .ok (.iconst 0, 1) := by decide +kernel
theorem dX2_told_44 : decode cX2_told 44 = .ok (.istore 6, 2) := by decide +kernel
theorem dX2_told_46 : decode cX2_told 46 = .ok (.iload 6, 2) := by decide +kernel
theorem dX2_told_48 : decode cX2_told 48 = .ok (.iload_n 2, 1) := by decide +kernel
theorem dX2_told_49 : decode cX2_told 49 = .ok (.if_icmp .ge 41, 3) := by decide +kernel
theorem dX2_told_52 : decode cX2_told 52 = .ok (.aload_n 0, 1) := by decide +kernel
theorem dX2_told_53 : decode cX2_told 53 = .ok (.iload 6, 2) := by decide +kernel
theorem dX2_told_55 : decode cX2_told 55 = .ok (.iaload, 1) := by decide +kernel
theorem dX2_told_56 : decode cX2_told 56 = .ok (.invokestatic 19, 3) := by decide +kernel
theorem dX2_told_59 : decode cX2_told 59 = .ok (.iload 5, 2) := by decide +kernel
theorem dX2_told_61 : decode cX2_told 61 = .ok (.if_icmp .eq 6, 3) := by decide +kernel
theorem dX2_told_64 : decode cX2_told 64 = .ok (.goto 20, 3) := by decide +kernel
theorem dX2_told_67 : decode cX2_told 67 = .ok (.iload 5, 2) := by decide +kernel
theorem dX2_told_69 : decode cX2_told 69 = .ok (.istore_n 3, 1) := by decide +kernel
theorem dX2_told_70 : decode cX2_told 70 = .ok (.aload_n 0, 1) := by decide +kernel
theorem dX2_told_71 : decode cX2_told 71 = .ok (.iload 6, 2) := by decide +kernel
theorem dX2_told_73 : decode cX2_told 73 = .ok (.iaload, 1) := by decide +kernel
theorem dX2_told_74 : decode cX2_told 74 = .ok (.ifCond .le 7, 3) := by decide +kernel
theorem dX2_told_77 : decode cX2_told 77 = .ok (.iconst 1, 1) := by decide +kernel
theorem dX2_told_78 : decode cX2_told 78 = .ok (.goto 4, 3) := by decide +kernel
theorem dX2_told_81 : decode cX2_told 81 = .ok (.iconst (-1), 1) := by decide +kernel
theorem dX2_told_82 : decode cX2_told 82 = .ok (.istore 4, 2) := by decide +kernel
theorem dX2_told_84 : decode cX2_told 84 = .ok (.iinc 6 1, 3) := by decide +kernel
theorem dX2_told_87 : decode cX2_told 87 = .ok (.goto (-41), 3) := by decide +kernel
theorem dX2_told_90 : decode cX2_told 90 = .ok (.iinc 5 (-1), 3) := by decide +kernel
theorem dX2_told_93 : decode cX2_told 93 = .ok (.goto (-55), 3) := by decide +kernel
theorem dX2_told_96 : decode cX2_told 96 = .ok (.iload_n 1, 1) := by decide +kernel
theorem dX2_told_97 : decode cX2_told 97 = .ok (.iconst 2, 1) := by decide +kernel
theorem dX2_told_98 : decode cX2_told 98 = .ok (.if_icmp .ne 8, 3) := by decide +kernel
theorem dX2_told_101 : decode cX2_told 101 = .ok (.iload 4, 2) := by decide +kernel
theorem dX2_told_103 : decode cX2_told 103 = .ok (.goto 4, 3) := by decide +kernel
theorem dX2_told_106 : decode cX2_told 106 = .ok (.iload_n 3, 1) := by decide +kernel
theorem dX2_told_107 : decode cX2_told 107 = .ok (.ireturn, 1) := by decide +kernel
theorem dX2_ends_0 : decode cX2_ends 0 = .ok (.aload_n 0, 1) := by decide +kernel
theorem dX2_ends_1 : decode cX2_ends 1 = .ok (.getfield 7, 3) := by decide +kernel
theorem dX2_ends_4 : decode cX2_ends 4 = .ok (.newarray .int, 2) := by decide +kernel
theorem dX2_ends_6 : decode cX2_ends 6 = .ok (.astore_n 2, 1) := by decide +kernel
theorem dX2_ends_7 : decode cX2_ends 7 = .ok (.iconst 0, 1) := by decide +kernel
theorem dX2_ends_8 : decode cX2_ends 8 = .ok (.istore_n 3, 1) := by decide +kernel
theorem dX2_ends_9 : decode cX2_ends 9 = .ok (.iload_n 3, 1) := by decide +kernel
theorem dX2_ends_10 : decode cX2_ends 10 = .ok (.aload_n 0, 1) := by decide +kernel
theorem dX2_ends_11 : decode cX2_ends 11 = .ok (.getfield 7, 3) := by decide +kernel
theorem dX2_ends_14 : decode cX2_ends 14 = .ok (.if_icmp .ge 87, 3) := by decide +kernel
theorem dX2_ends_17 : decode cX2_ends 17 = .ok (.iload_n 3, 1) := by decide +kernel
theorem dX2_ends_18 : decode cX2_ends 18 = .ok (.istore 4, 2) := by decide +kernel
theorem dX2_ends_20 : decode cX2_ends 20 = .ok (.aload_n 1, 1) := by decide +kernel
theorem dX2_ends_21 : decode cX2_ends 21 = .ok (.astore 5, 2) := by decide +kernel
theorem dX2_ends_23 : decode cX2_ends 23 = .ok (.aload 5, 2) := by decide +kernel
theorem dX2_ends_25 : decode cX2_ends 25 = .ok (.arraylength, 1) := by decide +kernel
theorem dX2_ends_26 : decode cX2_ends 26 = .ok (.istore 6, 2) := by decide +kernel
theorem dX2_ends_28 : decode cX2_ends 28 = .ok (.iconst 0, 1) := by decide +kernel
theorem dX2_ends_29 : decode cX2_ends 29 = .ok (.istore 7, 2) := by decide +kernel
theorem dX2_ends_31 : decode cX2_ends 31 = .ok (.iload 7, 2) := by decide +kernel
theorem dX2_ends_33 : decode cX2_ends 33 = .ok (.iload 6, 2) := by decide +kernel
theorem dX2_ends_35 : decode cX2_ends 35 = .ok (.if_icmp .ge 55, 3) := by decide +kernel
theorem dX2_ends_38 : decode cX2_ends 38 = .ok (.aload 5, 2) := by decide +kernel
theorem dX2_ends_40 : decode cX2_ends 40 = .ok (.iload 7, 2) := by decide +kernel
theorem dX2_ends_42 : decode cX2_ends 42 = .ok (.iaload, 1) := by decide +kernel
theorem dX2_ends_43 : decode cX2_ends 43 = .ok (.istore 8, 2) := by decide +kernel
theorem dX2_ends_45 : decode cX2_ends 45 = .ok (.iload 8, 2) := by decide +kernel
theorem dX2_ends_47 : decode cX2_ends 47 = .ok (.invokestatic 19, 3) := by decide +kernel
theorem dX2_ends_50 : decode cX2_ends 50 = .ok (.istore 9, 2) := by decide +kernel
theorem dX2_ends_52 : decode cX2_ends 52 = .ok (.iload 4, 2) := by decide +kernel
theorem dX2_ends_54 : decode cX2_ends 54 = .ok (.iload 9, 2) := by decide +kernel
theorem dX2_ends_56 : decode cX2_ends 56 = .ok (.if_icmp .ne 10, 3) := by decide +kernel
theorem dX2_ends_59 : decode cX2_ends 59 = .ok (.iload 9, 2) := by decide +kernel
theorem dX2_ends_61 : decode cX2_ends 61 = .ok (.iconst 1, 1) := by decide +kernel
theorem dX2_ends_62 : decode cX2_ends 62 = .ok (.isub, 1) := by decide +kernel
theorem dX2_ends_63 : decode cX2_ends 63 = .ok (.goto 19, 3) := by decide +kernel
theorem dX2_ends_66 : decode cX2_ends 66 = .ok (.iload 4, 2) := by decide +kernel
theorem dX2_ends_68 : decode cX2_ends 68 = .ok (.iload 9, 2) := by decide +kernel
theorem dX2_ends_70 : decode cX2_ends 70 = .ok (.iconst 1, 1) := by decide +kernel
theorem dX2_ends_71 : decode cX2_ends 71 = .ok (.isub, 1) := by decide +kernel
theorem dX2_ends_72 : decode cX2_ends 72 = .ok (.if_icmp .ne 8, 3) := by decide +kernel
theorem dX2_ends_75 : decode cX2_ends 75 = .ok (.iload 9, 2) := by decide +kernel
theorem dX2_ends_77 : decode cX2_ends 77 = .ok (.goto 5, 3) := by decide +kernel
theorem dX2_ends_80 : decode cX2_ends 80 = .ok (.iload 4, 2) := by decide +kernel
theorem dX2_ends_82 : decode cX2_ends 82 = .ok (.istore 4, 2) := by decide +kernel
theorem dX2_ends_84 : decode cX2_ends 84 = .ok (.iinc 7 1, 3) := by decide +kernel
theorem dX2_ends_87 : decode cX2_ends 87 = .ok (.goto (-56), 3) := by decide +kernel
theorem dX2_ends_90 : decode cX2_ends 90 = .ok (.aload_n 2, 1) := by decide +kernel
theorem dX2_ends_91 : decode cX2_ends 91 = .ok (.iload_n 3, 1) := by decide +kernel
theorem dX2_ends_92 : decode cX2_ends 92 = .ok (.iload 4, 2) := by decide +kernel
theorem dX2_ends_94 : decode cX2_ends 94 = .ok (.iastore, 1) := by decide +kernel
theorem dX2_ends_95 : decode cX2_ends 95 = .ok (.iinc 3 1, 3) := by decide +kernel
theorem dX2_ends_98 : decode cX2_ends 98 = .ok (.goto (-89), 3) := by decide +kernel
theorem dX2_ends_101 : decode cX2_ends 101 = .ok (.aload_n 2, 1) := by decide +kernel
theorem dX2_ends_102 : decode cX2_ends 102 = .ok (.areturn, 1) := by decide +kernel
theorem dX2_crosses_0 : decode cX2_crosses 0 = .ok (.iload_n 2, 1) := by decide +kernel
theorem dX2_crosses_1 : decode cX2_crosses 1 = .ok (.istore 4, 2) := by decide +kernel
theorem dX2_crosses_3 : decode cX2_crosses 3 = .ok (.iload_n 3, 1) := by decide +kernel
theorem dX2_crosses_4 : decode cX2_crosses 4 = .ok (.istore 5, 2) := by decide +kernel
theorem dX2_crosses_6 : decode cX2_crosses 6 = .ok (.iconst 0, 1) := by decide +kernel
theorem dX2_crosses_7 : decode cX2_crosses 7 = .ok (.istore 6, 2) := by decide +kernel
theorem dX2_crosses_9 : decode cX2_crosses 9 = .ok (.aload_n 1, 1) := by decide +kernel
theorem dX2_crosses_10 : decode cX2_crosses 10 = .ok (.astore 7, 2) := by decide +kernel
theorem dX2_crosses_12 : decode cX2_crosses 12 = .ok (.aload 7, 2) := by decide +kernel
theorem dX2_crosses_14 : decode cX2_crosses 14 = .ok (.arraylength, 1) := by decide +kernel
theorem dX2_crosses_15 : decode cX2_crosses 15 = .ok (.istore 8, 2) := by decide +kernel
theorem dX2_crosses_17 : decode cX2_crosses 17 = .ok (.iconst 0, 1) := by decide +kernel
theorem dX2_crosses_18 : decode cX2_crosses 18 = .ok (.istore 9, 2) := by decide +kernel
theorem dX2_crosses_20 : decode cX2_crosses 20 = .ok (.iload 9, 2) := by decide +kernel
theorem dX2_crosses_22 : decode cX2_crosses 22 = .ok (.iload 8, 2) := by decide +kernel
theorem dX2_crosses_24 : decode cX2_crosses 24 = .ok (.if_icmp .ge 128, 3) := by decide +kernel
theorem dX2_crosses_27 : decode cX2_crosses 27 = .ok (.aload 7, 2) := by decide +kernel
theorem dX2_crosses_29 : decode cX2_crosses 29 = .ok (.iload 9, 2) := by decide +kernel
theorem dX2_crosses_31 : decode cX2_crosses 31 = .ok (.iaload, 1) := by decide +kernel
theorem dX2_crosses_32 : decode cX2_crosses 32 = .ok (.istore 10, 2) := by decide +kernel
theorem dX2_crosses_34 : decode cX2_crosses 34 = .ok (.iload 10, 2) := by decide +kernel
theorem dX2_crosses_36 : decode cX2_crosses 36 = .ok (.invokestatic 19, 3) := by decide +kernel
theorem dX2_crosses_39 : decode cX2_crosses 39 = .ok (.istore 11, 2) := by decide +kernel
theorem dX2_crosses_41 : decode cX2_crosses 41 = .ok (.iload 4, 2) := by decide +kernel
theorem dX2_crosses_43 : decode cX2_crosses 43 = .ok (.iload 5, 2) := by decide +kernel
theorem dX2_crosses_45 : decode cX2_crosses 45 = .ok (.iadd, 1) := by decide +kernel
theorem dX2_crosses_46 : decode cX2_crosses 46 = .ok (.iconst 2, 1) := by decide +kernel
theorem dX2_crosses_47 : decode cX2_crosses 47 = .ok (.iload 11, 2) := by decide +kernel
theorem dX2_crosses_49 : decode cX2_crosses 49 = .ok (.imul, 1) := by decide +kernel
theorem dX2_crosses_50 : decode cX2_crosses 50 = .ok (.iconst 1, 1) := by decide +kernel
theorem dX2_crosses_51 : decode cX2_crosses 51 = .ok (.isub, 1) := by decide +kernel
theorem dX2_crosses_52 : decode cX2_crosses 52 = .ok (.if_icmp .ne 30, 3) := by decide +kernel
theorem dX2_crosses_55 : decode cX2_crosses 55 = .ok (.iload 4, 2) := by decide +kernel
theorem dX2_crosses_57 : decode cX2_crosses 57 = .ok (.iload 5, 2) := by decide +kernel
theorem dX2_crosses_59 : decode cX2_crosses 59 = .ok (.isub, 1) := by decide +kernel
theorem dX2_crosses_60 : decode cX2_crosses 60 = .ok (.invokestatic 19, 3) := by decide +kernel
theorem dX2_crosses_63 : decode cX2_crosses 63 = .ok (.iconst 1, 1) := by decide +kernel
theorem dX2_crosses_64 : decode cX2_crosses 64 = .ok (.if_icmp .ne 18, 3) := by decide +kernel
theorem dX2_crosses_67 : decode cX2_crosses 67 = .ok (.iload 6, 2) := by decide +kernel
theorem dX2_crosses_69 : decode cX2_crosses 69 = .ok (.iload 10, 2) := by decide +kernel
theorem dX2_crosses_71 : decode cX2_crosses 71 = .ok (.ifCond .le 7, 3) := by decide +kernel
theorem dX2_crosses_74 : decode cX2_crosses 74 = .ok (.iconst 1, 1) := by decide +kernel
theorem dX2_crosses_75 : decode cX2_crosses 75 = .ok (.goto 4, 3) := by decide +kernel
theorem dX2_crosses_78 : decode cX2_crosses 78 = .ok (.iconst (-1), 1) := by decide +kernel
theorem dX2_crosses_79 : decode cX2_crosses 79 = .ok (.iadd, 1) := by decide +kernel
theorem dX2_crosses_80 : decode cX2_crosses 80 = .ok (.istore 6, 2) := by decide +kernel
theorem dX2_crosses_82 : decode cX2_crosses 82 = .ok (.iload 4, 2) := by decide +kernel
theorem dX2_crosses_84 : decode cX2_crosses 84 = .ok (.iload 11, 2) := by decide +kernel
theorem dX2_crosses_86 : decode cX2_crosses 86 = .ok (.if_icmp .ne 10, 3) := by decide +kernel
theorem dX2_crosses_89 : decode cX2_crosses 89 = .ok (.iload 11, 2) := by decide +kernel
theorem dX2_crosses_91 : decode cX2_crosses 91 = .ok (.iconst 1, 1) := by decide +kernel
theorem dX2_crosses_92 : decode cX2_crosses 92 = .ok (.isub, 1) := by decide +kernel
theorem dX2_crosses_93 : decode cX2_crosses 93 = .ok (.goto 19, 3) := by decide +kernel
theorem dX2_crosses_96 : decode cX2_crosses 96 = .ok (.iload 4, 2) := by decide +kernel
theorem dX2_crosses_98 : decode cX2_crosses 98 = .ok (.iload 11, 2) := by decide +kernel
theorem dX2_crosses_100 : decode cX2_crosses 100 = .ok (.iconst 1, 1) := by decide +kernel
theorem dX2_crosses_101 : decode cX2_crosses 101 = .ok (.isub, 1) := by decide +kernel
theorem dX2_crosses_102 : decode cX2_crosses 102 = .ok (.if_icmp .ne 8, 3) := by decide +kernel
theorem dX2_crosses_105 : decode cX2_crosses 105 = .ok (.iload 11, 2) := by decide +kernel
theorem dX2_crosses_107 : decode cX2_crosses 107 = .ok (.goto 5, 3) := by decide +kernel
theorem dX2_crosses_110 : decode cX2_crosses 110 = .ok (.iload 4, 2) := by decide +kernel
theorem dX2_crosses_112 : decode cX2_crosses 112 = .ok (.istore 4, 2) := by decide +kernel
theorem dX2_crosses_114 : decode cX2_crosses 114 = .ok (.iload 5, 2) := by decide +kernel
theorem dX2_crosses_116 : decode cX2_crosses 116 = .ok (.iload 11, 2) := by decide +kernel
theorem dX2_crosses_118 : decode cX2_crosses 118 = .ok (.if_icmp .ne 10, 3) := by decide +kernel
theorem dX2_crosses_121 : decode cX2_crosses 121 = .ok (.iload 11, 2) := by decide +kernel
theorem dX2_crosses_123 : decode cX2_crosses 123 = .ok (.iconst 1, 1) := by decide +kernel
theorem dX2_crosses_124 : decode cX2_crosses 124 = .ok (.isub, 1) := by decide +kernel
theorem dX2_crosses_125 : decode cX2_crosses 125 = .ok (.goto 19, 3) := by decide +kernel
theorem dX2_crosses_128 : decode cX2_crosses 128 = .ok (.iload 5, 2) := by decide +kernel
theorem dX2_crosses_130 : decode cX2_crosses 130 = .ok (.iload 11, 2) := by decide +kernel
theorem dX2_crosses_132 : decode cX2_crosses 132 = .ok (.iconst 1, 1) := by decide +kernel
theorem dX2_crosses_133 : decode cX2_crosses 133 = .ok (.isub, 1) := by decide +kernel
theorem dX2_crosses_134 : decode cX2_crosses 134 = .ok (.if_icmp .ne 8, 3) := by decide +kernel
theorem dX2_crosses_137 : decode cX2_crosses 137 = .ok (.iload 11, 2) := by decide +kernel
theorem dX2_crosses_139 : decode cX2_crosses 139 = .ok (.goto 5, 3) := by decide +kernel
theorem dX2_crosses_142 : decode cX2_crosses 142 = .ok (.iload 5, 2) := by decide +kernel
theorem dX2_crosses_144 : decode cX2_crosses 144 = .ok (.istore 5, 2) := by decide +kernel
theorem dX2_crosses_146 : decode cX2_crosses 146 = .ok (.iinc 9 1, 3) := by decide +kernel
theorem dX2_crosses_149 : decode cX2_crosses 149 = .ok (.goto (-129), 3) := by decide +kernel
theorem dX2_crosses_152 : decode cX2_crosses 152 = .ok (.iload 6, 2) := by decide +kernel
theorem dX2_crosses_154 : decode cX2_crosses 154 = .ok (.ireturn, 1) := by decide +kernel
theorem dX2_signs_0 : decode cX2_signs 0 = .ok (.iconst 0, 1) := by decide +kernel
theorem dX2_signs_1 : decode cX2_signs 1 = .ok (.istore_n 1, 1) := by decide +kernel
theorem dX2_signs_2 : decode cX2_signs 2 = .ok (.aload_n 0, 1) := by decide +kernel
theorem dX2_signs_3 : decode cX2_signs 3 = .ok (.astore_n 2, 1) := by decide +kernel
theorem dX2_signs_4 : decode cX2_signs 4 = .ok (.aload_n 2, 1) := by decide +kernel
theorem dX2_signs_5 : decode cX2_signs 5 = .ok (.arraylength, 1) := by decide +kernel
theorem dX2_signs_6 : decode cX2_signs 6 = .ok (.istore_n 3, 1) := by decide +kernel
theorem dX2_signs_7 : decode cX2_signs 7 = .ok (.iconst 0, 1) := by decide +kernel
theorem dX2_signs_8 : decode cX2_signs 8 = .ok (.istore 4, 2) := by decide +kernel
theorem dX2_signs_10 : decode cX2_signs 10 = .ok (.iload 4, 2) := by decide +kernel
theorem dX2_signs_12 : decode cX2_signs 12 = .ok (.iload_n 3, 1) := by decide +kernel
theorem dX2_signs_13 : decode cX2_signs 13 = .ok (.if_icmp .ge 28, 3) := by decide +kernel
theorem dX2_signs_16 : decode cX2_signs 16 = .ok (.aload_n 2, 1) := by decide +kernel
theorem dX2_signs_17 : decode cX2_signs 17 = .ok (.iload 4, 2) := by decide +kernel
theorem dX2_signs_19 : decode cX2_signs 19 = .ok (.iaload, 1) := by decide +kernel
theorem dX2_signs_20 : decode cX2_signs 20 = .ok (.istore 5, 2) := by decide +kernel
theorem dX2_signs_22 : decode cX2_signs 22 = .ok (.iload_n 1, 1) := by decide +kernel
theorem dX2_signs_23 : decode cX2_signs 23 = .ok (.iload 5, 2) := by decide +kernel
theorem dX2_signs_25 : decode cX2_signs 25 = .ok (.ifCond .le 7, 3) := by decide +kernel
theorem dX2_signs_28 : decode cX2_signs 28 = .ok (.iconst 1, 1) := by decide +kernel
theorem dX2_signs_29 : decode cX2_signs 29 = .ok (.goto 4, 3) := by decide +kernel
theorem dX2_signs_32 : decode cX2_signs 32 = .ok (.iconst (-1), 1) := by decide +kernel
theorem dX2_signs_33 : decode cX2_signs 33 = .ok (.iadd, 1) := by decide +kernel
theorem dX2_signs_34 : decode cX2_signs 34 = .ok (.istore_n 1, 1) := by decide +kernel
theorem dX2_signs_35 : decode cX2_signs 35 = .ok (.iinc 4 1, 3) := by decide +kernel
theorem dX2_signs_38 : decode cX2_signs 38 = .ok (.goto (-28), 3) := by decide +kernel
theorem dX2_signs_41 : decode cX2_signs 41 = .ok (.iload_n 1, 1) := by decide +kernel
theorem dX2_signs_42 : decode cX2_signs 42 = .ok (.ireturn, 1) := by decide +kernel
set_option maxRecDepth 20000 in
theorem ggX2_isSame_X2_signs : GoodIn wsX2_isSame wsX2_signs := goodIn_r _ [11] (by decide +kernel) (by decide +kernel)
set_option maxRecDepth 20000 in
theorem gX2_isSame_X2_signs : GoodIn wsX2_isSame (va_wsS RX2 40 yX2_signs wsX2_signs) := goodIn_app (goodIn_of _ (by decide +kernel)) ggX2_isSame_X2_signs
set_option maxRecDepth 20000 in
theorem ggX2_isSame_X1_count : GoodIn wsX2_isSame wsX1_count := goodIn_ca (goodIn_r _ [16, 17, 18, 15, 19, 20, 21, 22, 23, 24, 25, 26, 27, 28, 29, 30, 31, 32, 33, 34, 35, 36, 37, 38, 39, 40, 41, 42, 43, 44, 45, 131, 132, 133, 134, 135, 136, 137] (by decide +kernel) (by decide +kernel)) (goodIn_sub (fun _ h => List.mem_cons_of_mem _ (List.mem_append_left _ (List.mem_append_right _ h))) (by decide +kernel))
set_option maxRecDepth 20000 in
theorem gX2_isSame_X1_count : GoodIn wsX2_isSame (wsV RX2 44 RX1 yX1_count wsX1_count) := goodIn_app (goodIn_of _ (by decide +kernel)) ggX2_isSame_X1_count
set_option maxRecDepth 20000 in
theorem ggX2_isSame_X1_letter : GoodIn wsX2_isSame wsX1_letter := goodIn_ca (goodIn_r _ [49, 50, 51, 15, 52, 20, 21, 53, 54, 55, 56, 27, 28, 29, 30, 31, 32, 33, 34, 57, 58, 59, 38, 39, 40, 41, 42, 131, 132, 133, 134, 135, 136, 137] (by decide +kernel) (by decide +kernel)) (goodIn_sub (fun _ h => List.mem_cons_of_mem _ (List.mem_append_left _ (List.mem_append_right _ h))) (by decide +kernel))
set_option maxRecDepth 20000 in
theorem gX2_isSame_X1_letter : GoodIn wsX2_isSame (wsV RX2 49 RX1 yX1_letter wsX1_letter) := goodIn_app (goodIn_of _ (by decide +kernel)) ggX2_isSame_X1_letter
set_option maxRecDepth 20000 in
theorem ggX2_isSame_X2_ends : GoodIn wsX2_isSame wsX2_ends := goodIn_r _ [63, 2, 1, 4, 5, 6, 7, 129, 130] (by decide +kernel) (by decide +kernel)
set_option maxRecDepth 20000 in
theorem gX2_isSame_X2_ends : GoodIn wsX2_isSame (wsV RX2 53 RX2 yX2_ends wsX2_ends) := goodIn_app (goodIn_of _ (by decide +kernel)) ggX2_isSame_X2_ends
set_option maxRecDepth 20000 in
theorem ggX2_isSame_X1_end : GoodIn wsX2_isSame wsX1_end := goodIn_ca (goodIn_r _ [67, 50, 51, 15, 52, 20, 21, 68, 69, 70, 71, 26, 53, 54, 55, 56, 27, 28, 72, 73, 74, 29, 30, 31, 32, 33, 34, 38, 39, 40, 41, 42, 75, 76, 77, 78, 79, 80, 131, 132, 133, 134, 135, 136, 137] (by decide +kernel) (by decide +kernel)) (goodIn_sub (fun _ h => List.mem_cons_of_mem _ (List.mem_append_left _ (List.mem_append_right _ h))) (by decide +kernel))
set_option maxRecDepth 20000 in
theorem gX2_isSame_X1_end : GoodIn wsX2_isSame (wsV RX2 56 RX1 yX1_end wsX1_end) := goodIn_app (goodIn_of _ (by decide +kernel)) ggX2_isSame_X1_end
set_option maxRecDepth 20000 in
theorem ggX2_isSame_X1_crosses : GoodIn wsX2_isSame wsX1_crosses := goodIn_ca (goodIn_ca (goodIn_r _ [84, 85, 86, 50, 51, 15, 52, 20, 21, 68, 69, 70, 71, 26, 53, 54, 55, 56, 27, 28, 87, 88, 89, 29, 30, 31, 32, 33, 34, 38, 39, 40, 41, 42, 75, 76, 77, 78, 79, 80, 43, 44, 45, 131, 132, 133, 134, 135, 136, 137] (by decide +kernel) (by decide +kernel)) (goodIn_sub (fun _ h => List.mem_cons_of_mem _ (List.mem_append_right _ h)) (by decide +kernel))) (goodIn_sub (fun _ h => List.mem_cons_of_mem _ (List.mem_append_left _ (List.mem_append_right _ h))) (by decide +kernel))
set_option maxRecDepth 20000 in
theorem gX2_isSame_X1_crosses : GoodIn wsX2_isSame (wsV RX2 59 RX1 yX1_crosses wsX1_crosses) := goodIn_app (goodIn_of _ (by decide +kernel)) ggX2_isSame_X1_crosses
set_option maxRecDepth 20000 in
theorem ggX2_isSame_X2_crosses : GoodIn wsX2_isSame wsX2_crosses := goodIn_r _ [93, 4, 5, 6, 7] (by decide +kernel) (by decide +kernel)
set_option maxRecDepth 20000 in
theorem gX2_isSame_X2_crosses : GoodIn wsX2_isSame (wsV RX2 63 RX2 yX2_crosses wsX2_crosses) := goodIn_app (goodIn_of _ (by decide +kernel)) ggX2_isSame_X2_crosses
set_option maxRecDepth 20000 in
theorem ggX2_isSame_X2_handle : GoodIn wsX2_isSame wsX2_handle := goodIn_r _ [96, 1, 4, 5, 6, 7] (by decide +kernel) (by decide +kernel)
set_option maxRecDepth 20000 in
theorem gX2_isSame_X2_handle : GoodIn wsX2_isSame (va_wsS RX2 33 yX2_handle wsX2_handle) := goodIn_app (goodIn_of _ (by decide +kernel)) ggX2_isSame_X2_handle
set_option maxRecDepth 20000 in
theorem ggX2_isSame_X1_handle : GoodIn wsX2_isSame wsX1_handle := goodIn_ca (goodIn_r _ [100, 50, 51, 15, 52, 20, 21, 17, 18, 19, 53, 54, 55, 56, 27, 28, 101, 102, 103, 104, 105, 106, 29, 30, 31, 32, 33, 34, 107, 108, 109, 38, 39, 40, 41, 42, 78, 79, 80, 110, 111, 112, 131, 132, 133, 134, 135, 136, 137] (by decide +kernel) (by decide +kernel)) (goodIn_sub (fun _ h => List.mem_cons_of_mem _ (List.mem_append_left _ (List.mem_append_right _ h))) (by decide +kernel))
set_option maxRecDepth 20000 in
theorem gX2_isSame_X1_handle : GoodIn wsX2_isSame (wsV RX2 66 RX1 yX1_handle wsX1_handle) := goodIn_app (goodIn_of _ (by decide +kernel)) ggX2_isSame_X1_handle
set_option maxRecDepth 20000 in
theorem ggX2_isSame_X2_cut : GoodIn wsX2_isSame wsX2_cut := goodIn_r _ [115, 4, 5, 6, 7, 1, 116, 117, 10, 118, 119, 120, 121] (by decide +kernel) (by decide +kernel)
set_option maxRecDepth 20000 in
theorem gX2_isSame_X2_cut : GoodIn wsX2_isSame (va_wsS RX2 37 yX2_cut wsX2_cut) := goodIn_app (goodIn_of _ (by decide +kernel)) ggX2_isSame_X2_cut
set_option maxRecDepth 20000 in
theorem ggX2_isSame_X1_mean : GoodIn wsX2_isSame wsX1_mean := goodIn_r _ [125, 27, 28, 29, 30, 31, 32, 33, 34, 126, 127, 15, 128, 38, 39, 40, 41, 42, 78, 79, 80, 131, 132, 133, 134, 135, 136, 137] (by decide +kernel) (by decide +kernel)
set_option maxRecDepth 20000 in
theorem gX2_isSame_X1_mean : GoodIn wsX2_isSame (wsV RX2 68 RX1 yX1_mean wsX1_mean) := goodIn_app (goodIn_of _ (by decide +kernel)) ggX2_isSame_X1_mean
theorem dX2_isSame_0 : decode cX2_isSame 0 = .ok (.iconst 0, 1) := by decide +kernel
theorem dX2_isSame_1 : decode cX2_isSame 1 = .ok (.istore_n 2, 1) := by decide +kernel
theorem dX2_isSame_2 : decode cX2_isSame 2 = .ok (.iconst 5, 1) := by decide +kernel
theorem dX2_isSame_3 : decode cX2_isSame 3 = .ok (.newarray .int, 2) := by decide +kernel
theorem dX2_isSame_5 : decode cX2_isSame 5 = .ok (.dup, 1) := by decide +kernel
theorem dX2_isSame_6 : decode cX2_isSame 6 = .ok (.iconst 0, 1) := by decide +kernel
theorem dX2_isSame_7 : decode cX2_isSame 7 = .ok (.aload_n 0, 1) := by decide +kernel
theorem dX2_isSame_8 : decode cX2_isSame 8 = .ok (.getfield 7, 3) := by decide +kernel
theorem dX2_isSame_11 : decode cX2_isSame 11 = .ok (.iastore, 1) := by decide +kernel
theorem dX2_isSame_12 : decode cX2_isSame 12 = .ok (.dup, 1) := by decide +kernel
theorem dX2_isSame_13 : decode cX2_isSame 13 = .ok (.iconst 1, 1) := by decide +kernel
theorem dX2_isSame_14 : decode cX2_isSame 14 = .ok (.aload_n 0, 1) := by decide +kernel
theorem dX2_isSame_15 : decode cX2_isSame 15 = .ok (.getfield 15, 3) := by decide +kernel
theorem dX2_isSame_18 : decode cX2_isSame 18 = .ok (.iconst 0, 1) := by decide +kernel
theorem dX2_isSame_19 : decode cX2_isSame 19 = .ok (.aaload, 1) := by decide +kernel
theorem dX2_isSame_20 : decode cX2_isSame 20 = .ok (.arraylength, 1) := by decide +kernel
theorem dX2_isSame_21 : decode cX2_isSame 21 = .ok (.iastore, 1) := by decide +kernel
theorem dX2_isSame_22 : decode cX2_isSame 22 = .ok (.dup, 1) := by decide +kernel
theorem dX2_isSame_23 : decode cX2_isSame 23 = .ok (.iconst 2, 1) := by decide +kernel
theorem dX2_isSame_24 : decode cX2_isSame 24 = .ok (.aload_n 0, 1) := by decide +kernel
theorem dX2_isSame_25 : decode cX2_isSame 25 = .ok (.getfield 15, 3) := by decide +kernel
theorem dX2_isSame_28 : decode cX2_isSame 28 = .ok (.iconst 1, 1) := by decide +kernel
theorem dX2_isSame_29 : decode cX2_isSame 29 = .ok (.aaload, 1) := by decide +kernel
theorem dX2_isSame_30 : decode cX2_isSame 30 = .ok (.arraylength, 1) := by decide +kernel
theorem dX2_isSame_31 : decode cX2_isSame 31 = .ok (.iastore, 1) := by decide +kernel
theorem dX2_isSame_32 : decode cX2_isSame 32 = .ok (.dup, 1) := by decide +kernel
theorem dX2_isSame_33 : decode cX2_isSame 33 = .ok (.iconst 3, 1) := by decide +kernel
theorem dX2_isSame_34 : decode cX2_isSame 34 = .ok (.aload_n 0, 1) := by decide +kernel
theorem dX2_isSame_35 : decode cX2_isSame 35 = .ok (.getfield 15, 3) := by decide +kernel
theorem dX2_isSame_38 : decode cX2_isSame 38 = .ok (.iconst 0, 1) := by decide +kernel
theorem dX2_isSame_39 : decode cX2_isSame 39 = .ok (.aaload, 1) := by decide +kernel
theorem dX2_isSame_40 : decode cX2_isSame 40 = .ok (.invokestatic 40, 3) := by decide +kernel
theorem dX2_isSame_43 : decode cX2_isSame 43 = .ok (.iastore, 1) := by decide +kernel
theorem dX2_isSame_44 : decode cX2_isSame 44 = .ok (.dup, 1) := by decide +kernel
theorem dX2_isSame_45 : decode cX2_isSame 45 = .ok (.iconst 4, 1) := by decide +kernel
theorem dX2_isSame_46 : decode cX2_isSame 46 = .ok (.aload_n 0, 1) := by decide +kernel
theorem dX2_isSame_47 : decode cX2_isSame 47 = .ok (.getfield 15, 3) := by decide +kernel
theorem dX2_isSame_50 : decode cX2_isSame 50 = .ok (.iconst 1, 1) := by decide +kernel
theorem dX2_isSame_51 : decode cX2_isSame 51 = .ok (.aaload, 1) := by decide +kernel
theorem dX2_isSame_52 : decode cX2_isSame 52 = .ok (.invokestatic 40, 3) := by decide +kernel
theorem dX2_isSame_55 : decode cX2_isSame 55 = .ok (.iastore, 1) := by decide +kernel
theorem dX2_isSame_56 : decode cX2_isSame 56 = .ok (.astore_n 3, 1) := by decide +kernel
theorem dX2_isSame_57 : decode cX2_isSame 57 = .ok (.iconst 0, 1) := by decide +kernel
theorem dX2_isSame_58 : decode cX2_isSame 58 = .ok (.istore 4, 2) := by decide +kernel
theorem dX2_isSame_60 : decode cX2_isSame 60 = .ok (.iload 4, 2) := by decide +kernel
theorem dX2_isSame_62 : decode cX2_isSame 62 = .ok (.iconst 5, 1) := by decide +kernel
theorem dX2_isSame_63 : decode cX2_isSame 63 = .ok (.if_icmp .ge 24, 3) := by decide +kernel
theorem dX2_isSame_66 : decode cX2_isSame 66 = .ok (.aload_n 1, 1) := by decide +kernel
theorem dX2_isSame_67 : decode cX2_isSame 67 = .ok (.iload 4, 2) := by decide +kernel
theorem dX2_isSame_69 : decode cX2_isSame 69 = .ok (.invokevirtual 44, 3) := by decide +kernel
theorem dX2_isSame_72 : decode cX2_isSame 72 = .ok (.aload_n 3, 1) := by decide +kernel
theorem dX2_isSame_73 : decode cX2_isSame 73 = .ok (.iload 4, 2) := by decide +kernel
theorem dX2_isSame_75 : decode cX2_isSame 75 = .ok (.iaload, 1) := by decide +kernel
theorem dX2_isSame_76 : decode cX2_isSame 76 = .ok (.if_icmp .eq 5, 3) := by decide +kernel
theorem dX2_isSame_79 : decode cX2_isSame 79 = .ok (.iconst 0, 1) := by decide +kernel
theorem dX2_isSame_80 : decode cX2_isSame 80 = .ok (.ireturn, 1) := by decide +kernel
theorem dX2_isSame_81 : decode cX2_isSame 81 = .ok (.iinc 4 1, 3) := by decide +kernel
theorem dX2_isSame_84 : decode cX2_isSame 84 = .ok (.goto (-24), 3) := by decide +kernel
theorem dX2_isSame_87 : decode cX2_isSame 87 = .ok (.iconst 0, 1) := by decide +kernel
theorem dX2_isSame_88 : decode cX2_isSame 88 = .ok (.istore 4, 2) := by decide +kernel
theorem dX2_isSame_90 : decode cX2_isSame 90 = .ok (.iload 4, 2) := by decide +kernel
theorem dX2_isSame_92 : decode cX2_isSame 92 = .ok (.iconst 2, 1) := by decide +kernel
theorem dX2_isSame_93 : decode cX2_isSame 93 = .ok (.if_icmp .ge 257, 3) := by decide +kernel
theorem dX2_isSame_96 : decode cX2_isSame 96 = .ok (.aload_n 0, 1) := by decide +kernel
theorem dX2_isSame_97 : decode cX2_isSame 97 = .ok (.getfield 15, 3) := by decide +kernel
theorem dX2_isSame_100 : decode cX2_isSame 100 = .ok (.iload 4, 2) := by decide +kernel
theorem dX2_isSame_102 : decode cX2_isSame 102 = .ok (.aaload, 1) := by decide +kernel
theorem dX2_isSame_103 : decode cX2_isSame 103 = .ok (.astore 5, 2) := by decide +kernel
theorem dX2_isSame_105 : decode cX2_isSame 105 = .ok (.iconst 0, 1) := by decide +kernel
theorem dX2_isSame_106 : decode cX2_isSame 106 = .ok (.istore 6, 2) := by decide +kernel
theorem dX2_isSame_108 : decode cX2_isSame 108 = .ok (.iload 6, 2) := by decide +kernel
theorem dX2_isSame_110 : decode cX2_isSame 110 = .ok (.aload 5, 2) := by decide +kernel
theorem dX2_isSame_112 : decode cX2_isSame 112 = .ok (.arraylength, 1) := by decide +kernel
theorem dX2_isSame_113 : decode cX2_isSame 113 = .ok (.if_icmp .ge 38, 3) := by decide +kernel
theorem dX2_isSame_116 : decode cX2_isSame 116 = .ok (.aload_n 1, 1) := by decide +kernel
theorem dX2_isSame_117 : decode cX2_isSame 117 = .ok (.iload 4, 2) := by decide +kernel
theorem dX2_isSame_119 : decode cX2_isSame 119 = .ok (.iload 6, 2) := by decide +kernel
theorem dX2_isSame_121 : decode cX2_isSame 121 = .ok (.invokevirtual 49, 3) := by decide +kernel
theorem dX2_isSame_124 : decode cX2_isSame 124 = .ok (.aload 5, 2) := by decide +kernel
theorem dX2_isSame_126 : decode cX2_isSame 126 = .ok (.iload 6, 2) := by decide +kernel
theorem dX2_isSame_128 : decode cX2_isSame 128 = .ok (.iaload, 1) := by decide +kernel
theorem dX2_isSame_129 : decode cX2_isSame 129 = .ok (.if_icmp .eq 5, 3) := by decide +kernel
theorem dX2_isSame_132 : decode cX2_isSame 132 = .ok (.iconst 0, 1) := by decide +kernel
theorem dX2_isSame_133 : decode cX2_isSame 133 = .ok (.ireturn, 1) := by decide +kernel
theorem dX2_isSame_134 : decode cX2_isSame 134 = .ok (.iload_n 2, 1) := by decide +kernel
theorem dX2_isSame_135 : decode cX2_isSame 135 = .ok (.aload 5, 2) := by decide +kernel
theorem dX2_isSame_137 : decode cX2_isSame 137 = .ok (.iload 6, 2) := by decide +kernel
theorem dX2_isSame_139 : decode cX2_isSame 139 = .ok (.iaload, 1) := by decide +kernel
theorem dX2_isSame_140 : decode cX2_isSame 140 = .ok (.invokestatic 19, 3) := by decide +kernel
theorem dX2_isSame_143 : decode cX2_isSame 143 = .ok (.iadd, 1) := by decide +kernel
theorem dX2_isSame_144 : decode cX2_isSame 144 = .ok (.istore_n 2, 1) := by decide +kernel
theorem dX2_isSame_145 : decode cX2_isSame 145 = .ok (.iinc 6 1, 3) := by decide +kernel
theorem dX2_isSame_148 : decode cX2_isSame 148 = .ok (.goto (-40), 3) := by decide +kernel
theorem dX2_isSame_151 : decode cX2_isSame 151 = .ok (.aload_n 0, 1) := by decide +kernel
theorem dX2_isSame_152 : decode cX2_isSame 152 = .ok (.aload 5, 2) := by decide +kernel
theorem dX2_isSame_154 : decode cX2_isSame 154 = .ok (.invokevirtual 53, 3) := by decide +kernel
theorem dX2_isSame_157 : decode cX2_isSame 157 = .ok (.astore 6, 2) := by decide +kernel
theorem dX2_isSame_159 : decode cX2_isSame 159 = .ok (.iconst 0, 1) := by decide +kernel
theorem dX2_isSame_160 : decode cX2_isSame 160 = .ok (.istore 7, 2) := by decide +kernel
theorem dX2_isSame_162 : decode cX2_isSame 162 = .ok (.iload 7, 2) := by decide +kernel
theorem dX2_isSame_164 : decode cX2_isSame 164 = .ok (.aload_n 0, 1) := by decide +kernel
theorem dX2_isSame_165 : decode cX2_isSame 165 = .ok (.getfield 7, 3) := by decide +kernel
theorem dX2_isSame_168 : decode cX2_isSame 168 = .ok (.if_icmp .ge 77, 3) := by decide +kernel
theorem dX2_isSame_171 : decode cX2_isSame 171 = .ok (.aload_n 1, 1) := by decide +kernel
theorem dX2_isSame_172 : decode cX2_isSame 172 = .ok (.iload 4, 2) := by decide +kernel
theorem dX2_isSame_174 : decode cX2_isSame 174 = .ok (.iload 7, 2) := by decide +kernel
theorem dX2_isSame_176 : decode cX2_isSame 176 = .ok (.invokevirtual 56, 3) := by decide +kernel
theorem dX2_isSame_179 : decode cX2_isSame 179 = .ok (.aload 6, 2) := by decide +kernel
theorem dX2_isSame_181 : decode cX2_isSame 181 = .ok (.iload 7, 2) := by decide +kernel
theorem dX2_isSame_183 : decode cX2_isSame 183 = .ok (.iaload, 1) := by decide +kernel
theorem dX2_isSame_184 : decode cX2_isSame 184 = .ok (.if_icmp .eq 5, 3) := by decide +kernel
theorem dX2_isSame_187 : decode cX2_isSame 187 = .ok (.iconst 0, 1) := by decide +kernel
theorem dX2_isSame_188 : decode cX2_isSame 188 = .ok (.ireturn, 1) := by decide +kernel
theorem dX2_isSame_189 : decode cX2_isSame 189 = .ok (.iconst 0, 1) := by decide +kernel
theorem dX2_isSame_190 : decode cX2_isSame 190 = .ok (.istore 8, 2) := by decide +kernel
theorem dX2_isSame_192 : decode cX2_isSame 192 = .ok (.iload 8, 2) := by decide +kernel
theorem dX2_isSame_194 : decode cX2_isSame 194 = .ok (.aload_n 0, 1) := by decide +kernel
theorem dX2_isSame_195 : decode cX2_isSame 195 = .ok (.getfield 7, 3) := by decide +kernel
theorem dX2_isSame_198 : decode cX2_isSame 198 = .ok (.if_icmp .ge 41, 3) := by decide +kernel
theorem dX2_isSame_201 : decode cX2_isSame 201 = .ok (.iload 8, 2) := by decide +kernel
theorem dX2_isSame_203 : decode cX2_isSame 203 = .ok (.iload 7, 2) := by decide +kernel
theorem dX2_isSame_205 : decode cX2_isSame 205 = .ok (.if_icmp .eq 28, 3) := by decide +kernel
theorem dX2_isSame_208 : decode cX2_isSame 208 = .ok (.aload_n 1, 1) := by decide +kernel
theorem dX2_isSame_209 : decode cX2_isSame 209 = .ok (.iload 4, 2) := by decide +kernel
theorem dX2_isSame_211 : decode cX2_isSame 211 = .ok (.iload 7, 2) := by decide +kernel
theorem dX2_isSame_213 : decode cX2_isSame 213 = .ok (.iload 8, 2) := by decide +kernel
theorem dX2_isSame_215 : decode cX2_isSame 215 = .ok (.invokevirtual 59, 3) := by decide +kernel
theorem dX2_isSame_218 : decode cX2_isSame 218 = .ok (.aload_n 0, 1) := by decide +kernel
theorem dX2_isSame_219 : decode cX2_isSame 219 = .ok (.aload 5, 2) := by decide +kernel
theorem dX2_isSame_221 : decode cX2_isSame 221 = .ok (.iload 7, 2) := by decide +kernel
theorem dX2_isSame_223 : decode cX2_isSame 223 = .ok (.iload 8, 2) := by decide +kernel
theorem dX2_isSame_225 : decode cX2_isSame 225 = .ok (.invokevirtual 63, 3) := by decide +kernel
theorem dX2_isSame_228 : decode cX2_isSame 228 = .ok (.if_icmp .eq 5, 3) := by decide +kernel
theorem dX2_isSame_231 : decode cX2_isSame 231 = .ok (.iconst 0, 1) := by decide +kernel
theorem dX2_isSame_232 : decode cX2_isSame 232 = .ok (.ireturn, 1) := by decide +kernel
theorem dX2_isSame_233 : decode cX2_isSame 233 = .ok (.iinc 8 1, 3) := by decide +kernel
theorem dX2_isSame_236 : decode cX2_isSame 236 = .ok (.goto (-44), 3) := by decide +kernel
theorem dX2_isSame_239 : decode cX2_isSame 239 = .ok (.iinc 7 1, 3) := by decide +kernel
theorem dX2_isSame_242 : decode cX2_isSame 242 = .ok (.goto (-80), 3) := by decide +kernel
theorem dX2_isSame_245 : decode cX2_isSame 245 = .ok (.aload 5, 2) := by decide +kernel
theorem dX2_isSame_247 : decode cX2_isSame 247 = .ok (.invokestatic 33, 3) := by decide +kernel
theorem dX2_isSame_250 : decode cX2_isSame 250 = .ok (.astore 7, 2) := by decide +kernel
theorem dX2_isSame_252 : decode cX2_isSame 252 = .ok (.aload 7, 2) := by decide +kernel
theorem dX2_isSame_254 : decode cX2_isSame 254 = .ok (.ifnonnull 38, 3) := by decide +kernel
theorem dX2_isSame_257 : decode cX2_isSame 257 = .ok (.aload_n 1, 1) := by decide +kernel
theorem dX2_isSame_258 : decode cX2_isSame 258 = .ok (.iload 4, 2) := by decide +kernel
theorem dX2_isSame_260 : decode cX2_isSame 260 = .ok (.iconst 0, 1) := by decide +kernel
theorem dX2_isSame_261 : decode cX2_isSame 261 = .ok (.invokevirtual 66, 3) := by decide +kernel
theorem dX2_isSame_264 : decode cX2_isSame 264 = .ok (.iconst (-1), 1) := by decide +kernel
theorem dX2_isSame_265 : decode cX2_isSame 265 = .ok (.if_icmp .ne 77, 3) := by decide +kernel
theorem dX2_isSame_268 : decode cX2_isSame 268 = .ok (.aload_n 1, 1) := by decide +kernel
theorem dX2_isSame_269 : decode cX2_isSame 269 = .ok (.iload 4, 2) := by decide +kernel
theorem dX2_isSame_271 : decode cX2_isSame 271 = .ok (.iconst 1, 1) := by decide +kernel
theorem dX2_isSame_272 : decode cX2_isSame 272 = .ok (.invokevirtual 66, 3) := by decide +kernel
theorem dX2_isSame_275 : decode cX2_isSame 275 = .ok (.iconst (-1), 1) := by decide +kernel
theorem dX2_isSame_276 : decode cX2_isSame 276 = .ok (.if_icmp .ne 66, 3) := by decide +kernel
theorem dX2_isSame_279 : decode cX2_isSame 279 = .ok (.aload_n 1, 1) := by decide +kernel
theorem dX2_isSame_280 : decode cX2_isSame 280 = .ok (.iload 4, 2) := by decide +kernel
theorem dX2_isSame_282 : decode cX2_isSame 282 = .ok (.iconst 2, 1) := by decide +kernel
theorem dX2_isSame_283 : decode cX2_isSame 283 = .ok (.invokevirtual 66, 3) := by decide +kernel
theorem dX2_isSame_286 : decode cX2_isSame 286 = .ok (.ifCond .eq 58, 3) := by decide +kernel
theorem dX2_isSame_289 : decode cX2_isSame 289 = .ok (.goto 53, 3) := by decide +kernel
theorem dX2_isSame_292 : decode cX2_isSame 292 = .ok (.aload_n 1, 1) := by decide +kernel
theorem dX2_isSame_293 : decode cX2_isSame 293 = .ok (.iload 4, 2) := by decide +kernel
theorem dX2_isSame_295 : decode cX2_isSame 295 = .ok (.iconst 0, 1) := by decide +kernel
theorem dX2_isSame_296 : decode cX2_isSame 296 = .ok (.invokevirtual 66, 3) := by decide +kernel
theorem dX2_isSame_299 : decode cX2_isSame 299 = .ok (.aload 7, 2) := by decide +kernel
theorem dX2_isSame_301 : decode cX2_isSame 301 = .ok (.iconst 0, 1) := by decide +kernel
theorem dX2_isSame_302 : decode cX2_isSame 302 = .ok (.iaload, 1) := by decide +kernel
theorem dX2_isSame_303 : decode cX2_isSame 303 = .ok (.if_icmp .ne 39, 3) := by decide +kernel
theorem dX2_isSame_306 : decode cX2_isSame 306 = .ok (.aload_n 1, 1) := by decide +kernel
theorem dX2_isSame_307 : decode cX2_isSame 307 = .ok (.iload 4, 2) := by decide +kernel
theorem dX2_isSame_309 : decode cX2_isSame 309 = .ok (.iconst 1, 1) := by decide +kernel
theorem dX2_isSame_310 : decode cX2_isSame 310 = .ok (.invokevirtual 66, 3) := by decide +kernel
theorem dX2_isSame_313 : decode cX2_isSame 313 = .ok (.aload 7, 2) := by decide +kernel
theorem dX2_isSame_315 : decode cX2_isSame 315 = .ok (.iconst 1, 1) := by decide +kernel
theorem dX2_isSame_316 : decode cX2_isSame 316 = .ok (.iaload, 1) := by decide +kernel
theorem dX2_isSame_317 : decode cX2_isSame 317 = .ok (.if_icmp .ne 25, 3) := by decide +kernel
theorem dX2_isSame_320 : decode cX2_isSame 320 = .ok (.aload_n 1, 1) := by decide +kernel
theorem dX2_isSame_321 : decode cX2_isSame 321 = .ok (.iload 4, 2) := by decide +kernel
theorem dX2_isSame_323 : decode cX2_isSame 323 = .ok (.iconst 2, 1) := by decide +kernel
theorem dX2_isSame_324 : decode cX2_isSame 324 = .ok (.invokevirtual 66, 3) := by decide +kernel
theorem dX2_isSame_327 : decode cX2_isSame 327 = .ok (.aload 5, 2) := by decide +kernel
theorem dX2_isSame_329 : decode cX2_isSame 329 = .ok (.aload 7, 2) := by decide +kernel
theorem dX2_isSame_331 : decode cX2_isSame 331 = .ok (.invokestatic 37, 3) := by decide +kernel
theorem dX2_isSame_334 : decode cX2_isSame 334 = .ok (.arraylength, 1) := by decide +kernel
theorem dX2_isSame_335 : decode cX2_isSame 335 = .ok (.aload 5, 2) := by decide +kernel
theorem dX2_isSame_337 : decode cX2_isSame 337 = .ok (.arraylength, 1) := by decide +kernel
theorem dX2_isSame_338 : decode cX2_isSame 338 = .ok (.isub, 1) := by decide +kernel
theorem dX2_isSame_339 : decode cX2_isSame 339 = .ok (.if_icmp .eq 5, 3) := by decide +kernel
theorem dX2_isSame_342 : decode cX2_isSame 342 = .ok (.iconst 0, 1) := by decide +kernel
theorem dX2_isSame_343 : decode cX2_isSame 343 = .ok (.ireturn, 1) := by decide +kernel
theorem dX2_isSame_344 : decode cX2_isSame 344 = .ok (.iinc 4 1, 3) := by decide +kernel
theorem dX2_isSame_347 : decode cX2_isSame 347 = .ok (.goto (-257), 3) := by decide +kernel
theorem dX2_isSame_350 : decode cX2_isSame 350 = .ok (.aload_n 0, 1) := by decide +kernel
theorem dX2_isSame_351 : decode cX2_isSame 351 = .ok (.getfield 15, 3) := by decide +kernel
theorem dX2_isSame_354 : decode cX2_isSame 354 = .ok (.iconst 0, 1) := by decide +kernel
theorem dX2_isSame_355 : decode cX2_isSame 355 = .ok (.aaload, 1) := by decide +kernel
theorem dX2_isSame_356 : decode cX2_isSame 356 = .ok (.arraylength, 1) := by decide +kernel
theorem dX2_isSame_357 : decode cX2_isSame 357 = .ok (.aload_n 0, 1) := by decide +kernel
theorem dX2_isSame_358 : decode cX2_isSame 358 = .ok (.getfield 15, 3) := by decide +kernel
theorem dX2_isSame_361 : decode cX2_isSame 361 = .ok (.iconst 1, 1) := by decide +kernel
theorem dX2_isSame_362 : decode cX2_isSame 362 = .ok (.aaload, 1) := by decide +kernel
theorem dX2_isSame_363 : decode cX2_isSame 363 = .ok (.arraylength, 1) := by decide +kernel
theorem dX2_isSame_364 : decode cX2_isSame 364 = .ok (.iadd, 1) := by decide +kernel
theorem dX2_isSame_365 : decode cX2_isSame 365 = .ok (.istore 4, 2) := by decide +kernel
theorem dX2_isSame_367 : decode cX2_isSame 367 = .ok (.aload_n 1, 1) := by decide +kernel
theorem dX2_isSame_368 : decode cX2_isSame 368 = .ok (.invokevirtual 68, 3) := by decide +kernel
theorem dX2_isSame_371 : decode cX2_isSame 371 = .ok (.iload 4, 2) := by decide +kernel
theorem dX2_isSame_373 : decode cX2_isSame 373 = .ok (.ifCond .ne 7, 3) := by decide +kernel
theorem dX2_isSame_376 : decode cX2_isSame 376 = .ok (.dconst 0, 1) := by decide +kernel
theorem dX2_isSame_377 : decode cX2_isSame 377 = .ok (.goto 9, 3) := by decide +kernel
theorem dX2_isSame_380 : decode cX2_isSame 380 = .ok (.iload_n 2, 1) := by decide +kernel
theorem dX2_isSame_381 : decode cX2_isSame 381 = .ok (.i2d, 1) := by decide +kernel
theorem dX2_isSame_382 : decode cX2_isSame 382 = .ok (.iload 4, 2) := by decide +kernel
theorem dX2_isSame_384 : decode cX2_isSame 384 = .ok (.i2d, 1) := by decide +kernel
theorem dX2_isSame_385 : decode cX2_isSame 385 = .ok (.ddiv, 1) := by decide +kernel
theorem dX2_isSame_386 : decode cX2_isSame 386 = .ok (.dcmp .l, 1) := by decide +kernel
theorem dX2_isSame_387 : decode cX2_isSame 387 = .ok (.ifCond .ne 7, 3) := by decide +kernel
theorem dX2_isSame_390 : decode cX2_isSame 390 = .ok (.iconst 1, 1) := by decide +kernel
theorem dX2_isSame_391 : decode cX2_isSame 391 = .ok (.goto 4, 3) := by decide +kernel
theorem dX2_isSame_394 : decode cX2_isSame 394 = .ok (.iconst 0, 1) := by decide +kernel
theorem dX2_isSame_395 : decode cX2_isSame 395 = .ok (.ireturn, 1) := by decide +kernel
set_option maxRecDepth 20000 in
theorem ggX2_isPlain_X2_plain : GoodIn wsX2_isPlain wsX2_plain := goodIn_r _ [5, 6, 7, 8, 4, 9, 10, 11, 12, 13, 14, 15, 16, 17, 18, 19, 20, 21, 22] (by decide +kernel) (by decide +kernel)
set_option maxRecDepth 20000 in
theorem gX2_isPlain_X2_plain : GoodIn wsX2_isPlain (va_wsS RX2 72 yX2_plain wsX2_plain) := goodIn_app (goodIn_of _ (by decide +kernel)) ggX2_isPlain_X2_plain
set_option maxRecDepth 20000 in
theorem ggX2_isPlain_X1_plain : GoodIn wsX2_isPlain wsX1_plain := goodIn_ca (goodIn_r _ [27, 28, 29, 30, 26, 31, 32, 33, 34, 35, 36, 37, 38, 39, 40, 41, 42, 43, 44, 45, 46, 47, 48, 49, 50, 51, 52, 53, 54, 55, 56, 57, 58, 59, 60, 61, 62, 63, 64, 65, 66, 67, 68, 69, 70, 71, 72, 73, 74, 75, 76, 77, 78, 79, 80, 81, 82, 83, 84, 85, 86, 87, 88, 89, 90, 91, 92, 93, 94, 95, 96, 97, 98, 99, 136, 137, 138, 139, 140, 141, 142] (by decide +kernel) (by decide +kernel)) (goodIn_sub (fun _ h => List.mem_cons_of_mem _ (List.mem_append_right _ h)) (by decide +kernel))
set_option maxRecDepth 20000 in
theorem gX2_isPlain_X1_plain : GoodIn wsX2_isPlain (wsV RX2 75 RX1 yX1_plain wsX1_plain) := goodIn_app (goodIn_of _ (by decide +kernel)) ggX2_isPlain_X1_plain
set_option maxRecDepth 20000 in
theorem ggX2_isPlain_X2_told : GoodIn wsX2_isPlain wsX2_told := goodIn_r _ [102, 10, 11, 12, 13] (by decide +kernel) (by decide +kernel)
set_option maxRecDepth 20000 in
theorem gX2_isPlain_X2_told : GoodIn wsX2_isPlain (va_wsS RX2 77 yX2_told wsX2_told) := goodIn_app (goodIn_of _ (by decide +kernel)) ggX2_isPlain_X2_told
set_option maxRecDepth 20000 in
theorem ggX2_isPlain_X2_turned : GoodIn wsX2_isPlain wsX2_turned := goodIn_r _ [105, 6] (by decide +kernel) (by decide +kernel)
set_option maxRecDepth 20000 in
theorem gX2_isPlain_X2_turned : GoodIn wsX2_isPlain (va_wsS RX2 81 yX2_turned wsX2_turned) := goodIn_app (goodIn_of _ (by decide +kernel)) ggX2_isPlain_X2_turned
set_option maxRecDepth 20000 in
theorem ggX2_isPlain_X2_cat : GoodIn wsX2_isPlain wsX2_cat := goodIn_r _ [16, 6] (by decide +kernel) (by decide +kernel)
set_option maxRecDepth 20000 in
theorem gX2_isPlain_X2_cat : GoodIn wsX2_isPlain (va_wsS RX2 29 yX2_cat wsX2_cat) := goodIn_app (goodIn_of _ (by decide +kernel)) ggX2_isPlain_X2_cat
set_option maxRecDepth 20000 in
theorem ggX2_isPlain_X1_ahead : GoodIn wsX2_isPlain wsX1_ahead := goodIn_r _ [109, 110, 111, 112, 26, 113, 28, 41, 42, 85, 86, 87, 46, 88, 48, 114, 115, 116, 117, 49, 50, 51, 52, 53, 54, 55, 56, 57, 58, 59, 60, 61, 118, 119, 120, 121, 62, 63, 64, 65, 66, 67, 68, 69, 70, 71, 72, 73, 74, 75, 76, 77, 78, 79, 80, 81, 82, 83, 84, 89, 90, 91, 92, 43, 44, 45, 47, 122, 123, 124, 125, 93, 94, 95, 96, 97, 98, 99, 136, 137, 138, 139, 140, 141, 142] (by decide +kernel) (by decide +kernel)
set_option maxRecDepth 20000 in
theorem gX2_isPlain_X1_ahead : GoodIn wsX2_isPlain (wsV RX2 84 RX1 yX1_ahead wsX1_ahead) := goodIn_app (goodIn_of _ (by decide +kernel)) ggX2_isPlain_X1_ahead
set_option maxRecDepth 20000 in
theorem ggX2_isPlain_X1_same : GoodIn wsX2_isPlain wsX1_same := goodIn_r _ [129, 110, 111, 112, 26, 113, 28, 41, 42, 85, 86, 87, 46, 88, 48, 114, 115, 116, 117, 49, 50, 51, 52, 53, 54, 55, 56, 57, 58, 59, 60, 61, 118, 119, 120, 121, 62, 63, 64, 65, 66, 67, 68, 69, 70, 71, 72, 73, 74, 75, 76, 77, 78, 79, 80, 81, 82, 83, 84, 89, 90, 91, 92, 43, 44, 45, 47, 130, 131, 132, 133, 136, 137, 138, 139, 140, 141, 142] (by decide +kernel) (by decide +kernel)
set_option maxRecDepth 20000 in
theorem gX2_isPlain_X1_same : GoodIn wsX2_isPlain (wsV RX2 88 RX1 yX1_same wsX1_same) := goodIn_app (goodIn_of _ (by decide +kernel)) ggX2_isPlain_X1_same
theorem dX2_isPlain_0 : decode cX2_isPlain 0 = .ok (.iconst 0, 1) := by decide +kernel
theorem dX2_isPlain_1 : decode cX2_isPlain 1 = .ok (.istore_n 2, 1) := by decide +kernel
theorem dX2_isPlain_2 : decode cX2_isPlain 2 = .ok (.iload_n 2, 1) := by decide +kernel
theorem dX2_isPlain_3 : decode cX2_isPlain 3 = .ok (.iconst 2, 1) := by decide +kernel
theorem dX2_isPlain_4 : decode cX2_isPlain 4 = .ok (.if_icmp .ge 52, 3) := by decide +kernel
theorem dX2_isPlain_7 : decode cX2_isPlain 7 = .ok (.aload_n 0, 1) := by decide +kernel
theorem dX2_isPlain_8 : decode cX2_isPlain 8 = .ok (.getfield 15, 3) := by decide +kernel
theorem dX2_isPlain_11 : decode cX2_isPlain 11 = .ok (.iload_n 2, 1) := by decide +kernel
theorem dX2_isPlain_12 : decode cX2_isPlain 12 = .ok (.aaload, 1) := by decide +kernel
theorem dX2_isPlain_13 : decode cX2_isPlain 13 = .ok (.invokestatic 72, 3) := by decide +kernel
theorem dX2_isPlain_16 : decode cX2_isPlain 16 = .ok (.astore_n 3, 1) := by decide +kernel
theorem dX2_isPlain_17 : decode cX2_isPlain 17 = .ok (.iconst 0, 1) := by decide +kernel
theorem dX2_isPlain_18 : decode cX2_isPlain 18 = .ok (.istore 4, 2) := by decide +kernel
theorem dX2_isPlain_20 : decode cX2_isPlain 20 = .ok (.iload 4, 2) := by decide +kernel
theorem dX2_isPlain_22 : decode cX2_isPlain 22 = .ok (.iconst 4, 1) := by decide +kernel
theorem dX2_isPlain_23 : decode cX2_isPlain 23 = .ok (.if_icmp .ge 27, 3) := by decide +kernel
theorem dX2_isPlain_26 : decode cX2_isPlain 26 = .ok (.aload_n 1, 1) := by decide +kernel
theorem dX2_isPlain_27 : decode cX2_isPlain 27 = .ok (.iload_n 2, 1) := by decide +kernel
theorem dX2_isPlain_28 : decode cX2_isPlain 28 = .ok (.iload 4, 2) := by decide +kernel
theorem dX2_isPlain_30 : decode cX2_isPlain 30 = .ok (.invokevirtual 75, 3) := by decide +kernel
theorem dX2_isPlain_33 : decode cX2_isPlain 33 = .ok (.aload_n 3, 1) := by decide +kernel
theorem dX2_isPlain_34 : decode cX2_isPlain 34 = .ok (.iload 4, 2) := by decide +kernel
theorem dX2_isPlain_36 : decode cX2_isPlain 36 = .ok (.invokestatic 77, 3) := by decide +kernel
theorem dX2_isPlain_39 : decode cX2_isPlain 39 = .ok (.if_icmp .eq 5, 3) := by decide +kernel
theorem dX2_isPlain_42 : decode cX2_isPlain 42 = .ok (.iconst 0, 1) := by decide +kernel
theorem dX2_isPlain_43 : decode cX2_isPlain 43 = .ok (.ireturn, 1) := by decide +kernel
theorem dX2_isPlain_44 : decode cX2_isPlain 44 = .ok (.iinc 4 1, 3) := by decide +kernel
theorem dX2_isPlain_47 : decode cX2_isPlain 47 = .ok (.goto (-27), 3) := by decide +kernel
theorem dX2_isPlain_50 : decode cX2_isPlain 50 = .ok (.iinc 2 1, 3) := by decide +kernel
theorem dX2_isPlain_53 : decode cX2_isPlain 53 = .ok (.goto (-51), 3) := by decide +kernel
theorem dX2_isPlain_56 : decode cX2_isPlain 56 = .ok (.aload_n 0, 1) := by decide +kernel
theorem dX2_isPlain_57 : decode cX2_isPlain 57 = .ok (.getfield 15, 3) := by decide +kernel
theorem dX2_isPlain_60 : decode cX2_isPlain 60 = .ok (.iconst 0, 1) := by decide +kernel
theorem dX2_isPlain_61 : decode cX2_isPlain 61 = .ok (.aaload, 1) := by decide +kernel
theorem dX2_isPlain_62 : decode cX2_isPlain 62 = .ok (.invokestatic 81, 3) := by decide +kernel
theorem dX2_isPlain_65 : decode cX2_isPlain 65 = .ok (.aload_n 0, 1) := by decide +kernel
theorem dX2_isPlain_66 : decode cX2_isPlain 66 = .ok (.getfield 15, 3) := by decide +kernel
theorem dX2_isPlain_69 : decode cX2_isPlain 69 = .ok (.iconst 1, 1) := by decide +kernel
theorem dX2_isPlain_70 : decode cX2_isPlain 70 = .ok (.aaload, 1) := by decide +kernel
theorem dX2_isPlain_71 : decode cX2_isPlain 71 = .ok (.invokestatic 29, 3) := by decide +kernel
theorem dX2_isPlain_74 : decode cX2_isPlain 74 = .ok (.invokestatic 72, 3) := by decide +kernel
theorem dX2_isPlain_77 : decode cX2_isPlain 77 = .ok (.astore_n 2, 1) := by decide +kernel
theorem dX2_isPlain_78 : decode cX2_isPlain 78 = .ok (.aload_n 1, 1) := by decide +kernel
theorem dX2_isPlain_79 : decode cX2_isPlain 79 = .ok (.invokevirtual 84, 3) := by decide +kernel
theorem dX2_isPlain_82 : decode cX2_isPlain 82 = .ok (.aload_n 2, 1) := by decide +kernel
theorem dX2_isPlain_83 : decode cX2_isPlain 83 = .ok (.iconst 2, 1) := by decide +kernel
theorem dX2_isPlain_84 : decode cX2_isPlain 84 = .ok (.invokestatic 77, 3) := by decide +kernel
theorem dX2_isPlain_87 : decode cX2_isPlain 87 = .ok (.if_icmp .ne 34, 3) := by decide +kernel
theorem dX2_isPlain_90 : decode cX2_isPlain 90 = .ok (.aload_n 1, 1) := by decide +kernel
theorem dX2_isPlain_91 : decode cX2_isPlain 91 = .ok (.invokevirtual 88, 3) := by decide +kernel
theorem dX2_isPlain_94 : decode cX2_isPlain 94 = .ok (.aload_n 2, 1) := by decide +kernel
theorem dX2_isPlain_95 : decode cX2_isPlain 95 = .ok (.ifnonnull 8, 3) := by decide +kernel
theorem dX2_isPlain_98 : decode cX2_isPlain 98 = .ok (.bipush (-9), 2) := by decide +kernel
theorem dX2_isPlain_100 : decode cX2_isPlain 100 = .ok (.goto 14, 3) := by decide +kernel
theorem dX2_isPlain_103 : decode cX2_isPlain 103 = .ok (.aload_n 2, 1) := by decide +kernel
theorem dX2_isPlain_104 : decode cX2_isPlain 104 = .ok (.arraylength, 1) := by decide +kernel
theorem dX2_isPlain_105 : decode cX2_isPlain 105 = .ok (.iconst 1, 1) := by decide +kernel
theorem dX2_isPlain_106 : decode cX2_isPlain 106 = .ok (.if_icmp .ne 7, 3) := by decide +kernel
theorem dX2_isPlain_109 : decode cX2_isPlain 109 = .ok (.iconst 1, 1) := by decide +kernel
theorem dX2_isPlain_110 : decode cX2_isPlain 110 = .ok (.goto 4, 3) := by decide +kernel
theorem dX2_isPlain_113 : decode cX2_isPlain 113 = .ok (.iconst 0, 1) := by decide +kernel
theorem dX2_isPlain_114 : decode cX2_isPlain 114 = .ok (.if_icmp .ne 7, 3) := by decide +kernel
theorem dX2_isPlain_117 : decode cX2_isPlain 117 = .ok (.iconst 1, 1) := by decide +kernel
theorem dX2_isPlain_118 : decode cX2_isPlain 118 = .ok (.goto 4, 3) := by decide +kernel
theorem dX2_isPlain_121 : decode cX2_isPlain 121 = .ok (.iconst 0, 1) := by decide +kernel
theorem dX2_isPlain_122 : decode cX2_isPlain 122 = .ok (.ireturn, 1) := by decide +kernel
theorem dJ9_abs_0f7a4_0 : decode cJ9_abs_0f7a4 0 = .ok (.iload_n 0, 1) := by decide +kernel
theorem dJ9_abs_0f7a4_1 : decode cJ9_abs_0f7a4 1 = .ok (.ifCond .ge 8, 3) := by decide +kernel
theorem dJ9_abs_0f7a4_4 : decode cJ9_abs_0f7a4 4 = .ok (.iload_n 0, 1) := by decide +kernel
theorem dJ9_abs_0f7a4_5 : decode cJ9_abs_0f7a4 5 = .ok (.ineg, 1) := by decide +kernel
theorem dJ9_abs_0f7a4_6 : decode cJ9_abs_0f7a4 6 = .ok (.goto 4, 3) := by decide +kernel
theorem dJ9_abs_0f7a4_9 : decode cJ9_abs_0f7a4 9 = .ok (.iload_n 0, 1) := by decide +kernel
theorem dJ9_abs_0f7a4_10 : decode cJ9_abs_0f7a4 10 = .ok (.ireturn, 1) := by decide +kernel
