theorem dX0_init_0 : decode cX0_init 0 = .ok (.aload_n 0, 1) := by decide +kernel
theorem dX0_init_1 : decode cX0_init 1 = .ok (.invokespecial 3, 3) := by decide +kernel
theorem dX0_init_4 : decode cX0_init 4 = .ok (.aload_n 0, 1) := by decide +kernel
theorem dX0_init_5 : decode cX0_init 5 = .ok (.bipush 100, 2) := by decide +kernel
theorem dX0_init_7 : decode cX0_init 7 = .ok (.newarray .int, 2) := by decide +kernel
theorem dX0_init_9 : decode cX0_init 9 = .ok (.putfield 9, 3) := by decide +kernel
theorem dX0_init_12 : decode cX0_init 12 = .ok (.aload_n 0, 1) := by decide +kernel
theorem dX0_init_13 : decode cX0_init 13 = .ok (.iconst 0, 1) := by decide +kernel
theorem dX0_init_14 : decode cX0_init 14 = .ok (.putfield 15, 3) := by decide +kernel
theorem dX0_init_17 : decode cX0_init 17 = .ok (.return_, 1) := by decide +kernel
theorem dX0_size_0 : decode cX0_size 0 = .ok (.aload_n 0, 1) := by decide +kernel
theorem dX0_size_1 : decode cX0_size 1 = .ok (.getfield 15, 3) := by decide +kernel
theorem dX0_size_4 : decode cX0_size 4 = .ok (.ireturn, 1) := by decide +kernel
theorem dX0_at_0 : decode cX0_at 0 = .ok (.iload_n 1, 1) := by decide +kernel
theorem dX0_at_1 : decode cX0_at 1 = .ok (.ifCond .lt 20, 3) := by decide +kernel
theorem dX0_at_4 : decode cX0_at 4 = .ok (.iload_n 1, 1) := by decide +kernel
theorem dX0_at_5 : decode cX0_at 5 = .ok (.aload_n 0, 1) := by decide +kernel
theorem dX0_at_6 : decode cX0_at 6 = .ok (.getfield 15, 3) := by decide +kernel
theorem dX0_at_9 : decode cX0_at 9 = .ok (.if_icmp .ge 12, 3) := by decide +kernel
theorem dX0_at_12 : decode cX0_at 12 = .ok (.iload_n 1, 1) := by decide +kernel
theorem dX0_at_13 : decode cX0_at 13 = .ok (.aload_n 0, 1) := by decide +kernel
theorem dX0_at_14 : decode cX0_at 14 = .ok (.getfield 9, 3) := by decide +kernel
theorem dX0_at_17 : decode cX0_at 17 = .ok (.arraylength, 1) := by decide +kernel
theorem dX0_at_18 : decode cX0_at 18 = .ok (.if_icmp .lt 5, 3) := by decide +kernel
theorem dX0_at_21 : decode cX0_at 21 = .ok (.iconst 0, 1) := by decide +kernel
theorem dX0_at_22 : decode cX0_at 22 = .ok (.ireturn, 1) := by decide +kernel
theorem dX0_at_23 : decode cX0_at 23 = .ok (.aload_n 0, 1) := by decide +kernel
theorem dX0_at_24 : decode cX0_at 24 = .ok (.getfield 9, 3) := by decide +kernel
theorem dX0_at_27 : decode cX0_at 27 = .ok (.iload_n 1, 1) := by decide +kernel
theorem dX0_at_28 : decode cX0_at 28 = .ok (.iaload, 1) := by decide +kernel
theorem dX0_at_29 : decode cX0_at 29 = .ok (.ireturn, 1) := by decide +kernel
theorem dX0_set_0 : decode cX0_set 0 = .ok (.iload_n 1, 1) := by decide +kernel
theorem dX0_set_1 : decode cX0_set 1 = .ok (.ifCond .lt 27, 3) := by decide +kernel
theorem dX0_set_4 : decode cX0_set 4 = .ok (.iload_n 1, 1) := by decide +kernel
theorem dX0_set_5 : decode cX0_set 5 = .ok (.aload_n 0, 1) := by decide +kernel
theorem dX0_set_6 : decode cX0_set 6 = .ok (.getfield 15, 3) := by decide +kernel
theorem dX0_set_9 : decode cX0_set 9 = .ok (.if_icmp .ge 19, 3) := by decide +kernel
theorem dX0_set_12 : decode cX0_set 12 = .ok (.iload_n 1, 1) := by decide +kernel
theorem dX0_set_13 : decode cX0_set 13 = .ok (.aload_n 0, 1) := by decide +kernel
theorem dX0_set_14 : decode cX0_set 14 = .ok (.getfield 9, 3) := by decide +kernel
theorem dX0_set_17 : decode cX0_set 17 = .ok (.arraylength, 1) := by decide +kernel
theorem dX0_set_18 : decode cX0_set 18 = .ok (.if_icmp .ge 10, 3) := by decide +kernel
theorem dX0_set_21 : decode cX0_set 21 = .ok (.aload_n 0, 1) := by decide +kernel
theorem dX0_set_22 : decode cX0_set 22 = .ok (.getfield 9, 3) := by decide +kernel
theorem dX0_set_25 : decode cX0_set 25 = .ok (.iload_n 1, 1) := by decide +kernel
theorem dX0_set_26 : decode cX0_set 26 = .ok (.iload_n 2, 1) := by decide +kernel
theorem dX0_set_27 : decode cX0_set 27 = .ok (.iastore, 1) := by decide +kernel
theorem dX0_set_28 : decode cX0_set 28 = .ok (.return_, 1) := by decide +kernel
theorem dX0_add_0 : decode cX0_add 0 = .ok (.aload_n 0, 1) := by decide +kernel
theorem dX0_add_1 : decode cX0_add 1 = .ok (.getfield 15, 3) := by decide +kernel
theorem dX0_add_4 : decode cX0_add 4 = .ok (.ifCond .lt 35, 3) := by decide +kernel
theorem dX0_add_7 : decode cX0_add 7 = .ok (.aload_n 0, 1) := by decide +kernel
theorem dX0_add_8 : decode cX0_add 8 = .ok (.getfield 15, 3) := by decide +kernel
theorem dX0_add_11 : decode cX0_add 11 = .ok (.aload_n 0, 1) := by decide +kernel
theorem dX0_add_12 : decode cX0_add 12 = .ok (.getfield 9, 3) := by decide +kernel
theorem dX0_add_15 : decode cX0_add 15 = .ok (.arraylength, 1) := by decide +kernel
theorem dX0_add_16 : decode cX0_add 16 = .ok (.if_icmp .ge 23, 3) := by decide +kernel
theorem dX0_add_19 : decode cX0_add 19 = .ok (.aload_n 0, 1) := by decide +kernel
theorem dX0_add_20 : decode cX0_add 20 = .ok (.getfield 9, 3) := by decide +kernel
theorem dX0_add_23 : decode cX0_add 23 = .ok (.aload_n 0, 1) := by decide +kernel
theorem dX0_add_24 : decode cX0_add 24 = .ok (.getfield 15, 3) := by decide +kernel
theorem dX0_add_27 : decode cX0_add 27 = .ok (.iload_n 1, 1) := by decide +kernel
theorem dX0_add_28 : decode cX0_add 28 = .ok (.iastore, 1) := by decide +kernel
theorem dX0_add_29 : decode cX0_add 29 = .ok (.aload_n 0, 1) := by decide +kernel
theorem dX0_add_30 : decode cX0_add 30 = .ok (.dup, 1) := by decide +kernel
theorem dX0_add_31 : decode cX0_add 31 = .ok (.getfield 15, 3) := by decide +kernel
theorem dX0_add_34 : decode cX0_add 34 = .ok (.iconst 1, 1) := by decide +kernel
theorem dX0_add_35 : decode cX0_add 35 = .ok (.iadd, 1) := by decide +kernel
theorem dX0_add_36 : decode cX0_add 36 = .ok (.putfield 15, 3) := by decide +kernel
theorem dX0_add_39 : decode cX0_add 39 = .ok (.return_, 1) := by decide +kernel
set_option maxRecDepth 20000 in
theorem ggX0_putIn_X0_add : GoodIn wsX0_putIn wsX0_add := goodIn_r _ [6, 1, 7, 16, 17] (by decide +kernel) (by decide +kernel)
set_option maxRecDepth 20000 in
theorem gX0_putIn_X0_add : GoodIn wsX0_putIn (wsV RX0 19 RX0 yX0_add wsX0_add) := goodIn_app (goodIn_of _ (by decide +kernel)) ggX0_putIn_X0_add
set_option maxRecDepth 20000 in
theorem ggX0_putIn_X0_at : GoodIn wsX0_putIn wsX0_at := goodIn_r _ [11, 1, 7, 16, 17] (by decide +kernel) (by decide +kernel)
set_option maxRecDepth 20000 in
theorem gX0_putIn_X0_at : GoodIn wsX0_putIn (wsV RX0 23 RX0 yX0_at wsX0_at) := goodIn_app (goodIn_of _ (by decide +kernel)) ggX0_putIn_X0_at
set_option maxRecDepth 20000 in
theorem ggX0_putIn_X0_set : GoodIn wsX0_putIn wsX0_set := goodIn_r _ [15, 1, 7, 16, 17] (by decide +kernel) (by decide +kernel)
set_option maxRecDepth 20000 in
theorem gX0_putIn_X0_set : GoodIn wsX0_putIn (wsV RX0 27 RX0 yX0_set wsX0_set) := goodIn_app (goodIn_of _ (by decide +kernel)) ggX0_putIn_X0_set
theorem dX0_putIn_0 : decode cX0_putIn 0 = .ok (.aload_n 0, 1) := by decide +kernel
theorem dX0_putIn_1 : decode cX0_putIn 1 = .ok (.iload_n 2, 1) := by decide +kernel
theorem dX0_putIn_2 : decode cX0_putIn 2 = .ok (.invokevirtual 19, 3) := by decide +kernel
theorem dX0_putIn_5 : decode cX0_putIn 5 = .ok (.aload_n 0, 1) := by decide +kernel
theorem dX0_putIn_6 : decode cX0_putIn 6 = .ok (.getfield 15, 3) := by decide +kernel
theorem dX0_putIn_9 : decode cX0_putIn 9 = .ok (.iconst 1, 1) := by decide +kernel
theorem dX0_putIn_10 : decode cX0_putIn 10 = .ok (.isub, 1) := by decide +kernel
theorem dX0_putIn_11 : decode cX0_putIn 11 = .ok (.istore_n 3, 1) := by decide +kernel
theorem dX0_putIn_12 : decode cX0_putIn 12 = .ok (.iload_n 3, 1) := by decide +kernel
theorem dX0_putIn_13 : decode cX0_putIn 13 = .ok (.iload_n 1, 1) := by decide +kernel
theorem dX0_putIn_14 : decode cX0_putIn 14 = .ok (.if_icmp .le 21, 3) := by decide +kernel
theorem dX0_putIn_17 : decode cX0_putIn 17 = .ok (.aload_n 0, 1) := by decide +kernel
theorem dX0_putIn_18 : decode cX0_putIn 18 = .ok (.iload_n 3, 1) := by decide +kernel
theorem dX0_putIn_19 : decode cX0_putIn 19 = .ok (.aload_n 0, 1) := by decide +kernel
theorem dX0_putIn_20 : decode cX0_putIn 20 = .ok (.iload_n 3, 1) := by decide +kernel
theorem dX0_putIn_21 : decode cX0_putIn 21 = .ok (.iconst 1, 1) := by decide +kernel
theorem dX0_putIn_22 : decode cX0_putIn 22 = .ok (.isub, 1) := by decide +kernel
theorem dX0_putIn_23 : decode cX0_putIn 23 = .ok (.invokevirtual 23, 3) := by decide +kernel
theorem dX0_putIn_26 : decode cX0_putIn 26 = .ok (.invokevirtual 27, 3) := by decide +kernel
theorem dX0_putIn_29 : decode cX0_putIn 29 = .ok (.iinc 3 (-1), 3) := by decide +kernel
theorem dX0_putIn_32 : decode cX0_putIn 32 = .ok (.goto (-20), 3) := by decide +kernel
theorem dX0_putIn_35 : decode cX0_putIn 35 = .ok (.aload_n 0, 1) := by decide +kernel
theorem dX0_putIn_36 : decode cX0_putIn 36 = .ok (.iload_n 1, 1) := by decide +kernel
theorem dX0_putIn_37 : decode cX0_putIn 37 = .ok (.iload_n 2, 1) := by decide +kernel
theorem dX0_putIn_38 : decode cX0_putIn 38 = .ok (.invokevirtual 27, 3) := by decide +kernel
theorem dX0_putIn_41 : decode cX0_putIn 41 = .ok (.return_, 1) := by decide +kernel
theorem dX0_dropLast_0 : decode cX0_dropLast 0 = .ok (.aload_n 0, 1) := by decide +kernel
theorem dX0_dropLast_1 : decode cX0_dropLast 1 = .ok (.getfield 15, 3) := by decide +kernel
theorem dX0_dropLast_4 : decode cX0_dropLast 4 = .ok (.ifCond .le 13, 3) := by decide +kernel
theorem dX0_dropLast_7 : decode cX0_dropLast 7 = .ok (.aload_n 0, 1) := by decide +kernel
theorem dX0_dropLast_8 : decode cX0_dropLast 8 = .ok (.dup, 1) := by decide +kernel
theorem dX0_dropLast_9 : decode cX0_dropLast 9 = .ok (.getfield 15, 3) := by decide +kernel
theorem dX0_dropLast_12 : decode cX0_dropLast 12 = .ok (.iconst 1, 1) := by decide +kernel
theorem dX0_dropLast_13 : decode cX0_dropLast 13 = .ok (.isub, 1) := by decide +kernel
theorem dX0_dropLast_14 : decode cX0_dropLast 14 = .ok (.putfield 15, 3) := by decide +kernel
theorem dX0_dropLast_17 : decode cX0_dropLast 17 = .ok (.return_, 1) := by decide +kernel
theorem dX0_clear_0 : decode cX0_clear 0 = .ok (.aload_n 0, 1) := by decide +kernel
theorem dX0_clear_1 : decode cX0_clear 1 = .ok (.iconst 0, 1) := by decide +kernel
theorem dX0_clear_2 : decode cX0_clear 2 = .ok (.putfield 15, 3) := by decide +kernel
theorem dX0_clear_5 : decode cX0_clear 5 = .ok (.return_, 1) := by decide +kernel
set_option maxRecDepth 20000 in
theorem ggX0_addAll_X0_size : GoodIn wsX0_addAll wsX0_size := goodIn_r _ [5, 6, 16, 17] (by decide +kernel) (by decide +kernel)
set_option maxRecDepth 20000 in
theorem gX0_addAll_X0_size : GoodIn wsX0_addAll (wsV RX0 31 RX0 yX0_size wsX0_size) := goodIn_app (goodIn_of _ (by decide +kernel)) ggX0_addAll_X0_size
set_option maxRecDepth 20000 in
theorem ggX0_addAll_X0_at : GoodIn wsX0_addAll wsX0_at := goodIn_r _ [10, 6, 11, 16, 17] (by decide +kernel) (by decide +kernel)
set_option maxRecDepth 20000 in
theorem gX0_addAll_X0_at : GoodIn wsX0_addAll (wsV RX0 23 RX0 yX0_at wsX0_at) := goodIn_app (goodIn_of _ (by decide +kernel)) ggX0_addAll_X0_at
set_option maxRecDepth 20000 in
theorem ggX0_addAll_X0_add : GoodIn wsX0_addAll wsX0_add := goodIn_r _ [15, 6, 11, 16, 17] (by decide +kernel) (by decide +kernel)
set_option maxRecDepth 20000 in
theorem gX0_addAll_X0_add : GoodIn wsX0_addAll (wsV RX0 19 RX0 yX0_add wsX0_add) := goodIn_app (goodIn_of _ (by decide +kernel)) ggX0_addAll_X0_add
theorem dX0_addAll_0 : decode cX0_addAll 0 = .ok (.aload_n 1, 1) := by decide +kernel
theorem dX0_addAll_1 : decode cX0_addAll 1 = .ok (.invokevirtual 31, 3) := by decide +kernel
theorem dX0_addAll_4 : decode cX0_addAll 4 = .ok (.istore_n 2, 1) := by decide +kernel
theorem dX0_addAll_5 : decode cX0_addAll 5 = .ok (.iconst 0, 1) := by decide +kernel
theorem dX0_addAll_6 : decode cX0_addAll 6 = .ok (.istore_n 3, 1) := by decide +kernel
theorem dX0_addAll_7 : decode cX0_addAll 7 = .ok (.iload_n 3, 1) := by decide +kernel
theorem dX0_addAll_8 : decode cX0_addAll 8 = .ok (.iload_n 2, 1) := by decide +kernel
theorem dX0_addAll_9 : decode cX0_addAll 9 = .ok (.if_icmp .ge 18, 3) := by decide +kernel
theorem dX0_addAll_12 : decode cX0_addAll 12 = .ok (.aload_n 0, 1) := by decide +kernel
theorem dX0_addAll_13 : decode cX0_addAll 13 = .ok (.aload_n 1, 1) := by decide +kernel
theorem dX0_addAll_14 : decode cX0_addAll 14 = .ok (.iload_n 3, 1) := by decide +kernel
theorem dX0_addAll_15 : decode cX0_addAll 15 = .ok (.invokevirtual 23, 3) := by decide +kernel
theorem dX0_addAll_18 : decode cX0_addAll 18 = .ok (.invokevirtual 19, 3) := by decide +kernel
theorem dX0_addAll_21 : decode cX0_addAll 21 = .ok (.iinc 3 1, 3) := by decide +kernel
theorem dX0_addAll_24 : decode cX0_addAll 24 = .ok (.goto (-17), 3) := by decide +kernel
theorem dX0_addAll_27 : decode cX0_addAll 27 = .ok (.return_, 1) := by decide +kernel
set_option maxRecDepth 20000 in
theorem ggX0_addTurnedRound_X0_size : GoodIn wsX0_addTurnedRound wsX0_size := goodIn_r _ [5, 6, 16, 17] (by decide +kernel) (by decide +kernel)
set_option maxRecDepth 20000 in
theorem gX0_addTurnedRound_X0_size : GoodIn wsX0_addTurnedRound (wsV RX0 31 RX0 yX0_size wsX0_size) := goodIn_app (goodIn_of _ (by decide +kernel)) ggX0_addTurnedRound_X0_size
set_option maxRecDepth 20000 in
theorem ggX0_addTurnedRound_X0_at : GoodIn wsX0_addTurnedRound wsX0_at := goodIn_r _ [10, 6, 11, 16, 17] (by decide +kernel) (by decide +kernel)
set_option maxRecDepth 20000 in
theorem gX0_addTurnedRound_X0_at : GoodIn wsX0_addTurnedRound (wsV RX0 23 RX0 yX0_at wsX0_at) := goodIn_app (goodIn_of _ (by decide +kernel)) ggX0_addTurnedRound_X0_at
set_option maxRecDepth 20000 in
theorem ggX0_addTurnedRound_X0_add : GoodIn wsX0_addTurnedRound wsX0_add := goodIn_r _ [15, 6, 11, 16, 17] (by decide +kernel) (by decide +kernel)
set_option maxRecDepth 20000 in
theorem gX0_addTurnedRound_X0_add : GoodIn wsX0_addTurnedRound (wsV RX0 19 RX0 yX0_add wsX0_add) := goodIn_app (goodIn_of _ (by decide +kernel)) ggX0_addTurnedRound_X0_add
theorem dX0_addTurnedRound_0 : decode cX0_addTurnedRound 0 = .ok (.aload_n 1, 1) := by decide +kernel
theorem dX0_addTurnedRound_1 : decode cX0_addTurnedRound 1 = .ok (.invokevirtual 31, 3) := by decide +kernel
theorem dX0_addTurnedRound_4 : decode cX0_addTurnedRound 4 = .ok (.iconst 1, 1) := by decide +kernel
theorem dX0_addTurnedRound_5 : decode cX0_addTurnedRound 5 = .ok (.isub, 1) := by decide +kernel
theorem dX0_addTurnedRound_6 : decode cX0_addTurnedRound 6 = .ok (.istore_n 2, 1) := by decide +kernel
theorem dX0_addTurnedRound_7 : decode cX0_addTurnedRound 7 = .ok (.iload_n 2, 1) := by decide +kernel
theorem dX0_addTurnedRound_8 : decode cX0_addTurnedRound 8 = .ok (.ifCond .lt 19, 3) := by decide +kernel
theorem dX0_addTurnedRound_11 : decode cX0_addTurnedRound 11 = .ok (.aload_n 0, 1) := by decide +kernel
theorem dX0_addTurnedRound_12 : decode cX0_addTurnedRound 12 = .ok (.aload_n 1, 1) := by decide +kernel
theorem dX0_addTurnedRound_13 : decode cX0_addTurnedRound 13 = .ok (.iload_n 2, 1) := by decide +kernel
theorem dX0_addTurnedRound_14 : decode cX0_addTurnedRound 14 = .ok (.invokevirtual 23, 3) := by decide +kernel
theorem dX0_addTurnedRound_17 : decode cX0_addTurnedRound 17 = .ok (.ineg, 1) := by decide +kernel
theorem dX0_addTurnedRound_18 : decode cX0_addTurnedRound 18 = .ok (.invokevirtual 19, 3) := by decide +kernel
theorem dX0_addTurnedRound_21 : decode cX0_addTurnedRound 21 = .ok (.iinc 2 (-1), 3) := by decide +kernel
theorem dX0_addTurnedRound_24 : decode cX0_addTurnedRound 24 = .ok (.goto (-17), 3) := by decide +kernel
theorem dX0_addTurnedRound_27 : decode cX0_addTurnedRound 27 = .ok (.return_, 1) := by decide +kernel
set_option maxRecDepth 20000 in
theorem ggX0_copy_X0_size : GoodIn wsX0_copy wsX0_size := goodIn_r _ [6, 1, 16, 17] (by decide +kernel) (by decide +kernel)
set_option maxRecDepth 20000 in
theorem gX0_copy_X0_size : GoodIn wsX0_copy (wsV RX0 31 RX0 yX0_size wsX0_size) := goodIn_app (goodIn_of _ (by decide +kernel)) ggX0_copy_X0_size
set_option maxRecDepth 20000 in
theorem ggX0_copy_X0_at : GoodIn wsX0_copy wsX0_at := goodIn_r _ [10, 1, 11, 16, 17] (by decide +kernel) (by decide +kernel)
set_option maxRecDepth 20000 in
theorem gX0_copy_X0_at : GoodIn wsX0_copy (wsV RX0 23 RX0 yX0_at wsX0_at) := goodIn_app (goodIn_of _ (by decide +kernel)) ggX0_copy_X0_at
set_option maxRecDepth 20000 in
theorem ggX0_copy_X0_add : GoodIn wsX0_copy wsX0_add := goodIn_r _ [15, 1, 11, 16, 17] (by decide +kernel) (by decide +kernel)
set_option maxRecDepth 20000 in
theorem gX0_copy_X0_add : GoodIn wsX0_copy (wsV RX0 19 RX0 yX0_add wsX0_add) := goodIn_app (goodIn_of _ (by decide +kernel)) ggX0_copy_X0_add
theorem dX0_copy_0 : decode cX0_copy 0 = .ok (.aload_n 0, 1) := by decide +kernel
theorem dX0_copy_1 : decode cX0_copy 1 = .ok (.iconst 0, 1) := by decide +kernel
theorem dX0_copy_2 : decode cX0_copy 2 = .ok (.putfield 15, 3) := by decide +kernel
theorem dX0_copy_5 : decode cX0_copy 5 = .ok (.aload_n 1, 1) := by decide +kernel
theorem dX0_copy_6 : decode cX0_copy 6 = .ok (.invokevirtual 31, 3) := by decide +kernel
theorem dX0_copy_9 : decode cX0_copy 9 = .ok (.istore_n 2, 1) := by decide +kernel
theorem dX0_copy_10 : decode cX0_copy 10 = .ok (.iconst 0, 1) := by decide +kernel
theorem dX0_copy_11 : decode cX0_copy 11 = .ok (.istore_n 3, 1) := by decide +kernel
theorem dX0_copy_12 : decode cX0_copy 12 = .ok (.iload_n 3, 1) := by decide +kernel
theorem dX0_copy_13 : decode cX0_copy 13 = .ok (.iload_n 2, 1) := by decide +kernel
theorem dX0_copy_14 : decode cX0_copy 14 = .ok (.if_icmp .ge 18, 3) := by decide +kernel
theorem dX0_copy_17 : decode cX0_copy 17 = .ok (.aload_n 0, 1) := by decide +kernel
theorem dX0_copy_18 : decode cX0_copy 18 = .ok (.aload_n 1, 1) := by decide +kernel
theorem dX0_copy_19 : decode cX0_copy 19 = .ok (.iload_n 3, 1) := by decide +kernel
theorem dX0_copy_20 : decode cX0_copy 20 = .ok (.invokevirtual 23, 3) := by decide +kernel
theorem dX0_copy_23 : decode cX0_copy 23 = .ok (.invokevirtual 19, 3) := by decide +kernel
theorem dX0_copy_26 : decode cX0_copy 26 = .ok (.iinc 3 1, 3) := by decide +kernel
theorem dX0_copy_29 : decode cX0_copy 29 = .ok (.goto (-17), 3) := by decide +kernel
theorem dX0_copy_32 : decode cX0_copy 32 = .ok (.return_, 1) := by decide +kernel
set_option maxRecDepth 20000 in
theorem ggX1_init_X0_init : GoodIn wsX1_init wsX0_init := goodIn_r _ [14, 15, 2, 3, 16, 17, 18, 19, 20] (by decide +kernel) (by decide +kernel)
set_option maxRecDepth 20000 in
theorem gX1_init_X0_init : GoodIn wsX1_init (wsX0_init) := ggX1_init_X0_init
theorem dX1_init_0 : decode cX1_init 0 = .ok (.aload_n 0, 1) := by decide +kernel
theorem dX1_init_1 : decode cX1_init 1 = .ok (.invokespecial 1, 3) := by decide +kernel
theorem dX1_init_4 : decode cX1_init 4 = .ok (.aload_n 0, 1) := by decide +kernel
theorem dX1_init_5 : decode cX1_init 5 = .ok (.new 7, 3) := by decide +kernel
theorem dX1_init_8 : decode cX1_init 8 = .ok (.dup, 1) := by decide +kernel
theorem dX1_init_9 : decode cX1_init 9 = .ok (.invokespecial 9, 3) := by decide +kernel
theorem dX1_init_12 : decode cX1_init 12 = .ok (.putfield 10, 3) := by decide +kernel
theorem dX1_init_15 : decode cX1_init 15 = .ok (.aload_n 0, 1) := by decide +kernel
theorem dX1_init_16 : decode cX1_init 16 = .ok (.new 7, 3) := by decide +kernel
theorem dX1_init_19 : decode cX1_init 19 = .ok (.dup, 1) := by decide +kernel
theorem dX1_init_20 : decode cX1_init 20 = .ok (.invokespecial 9, 3) := by decide +kernel
theorem dX1_init_23 : decode cX1_init 23 = .ok (.putfield 16, 3) := by decide +kernel
theorem dX1_init_26 : decode cX1_init 26 = .ok (.aload_n 0, 1) := by decide +kernel
theorem dX1_init_27 : decode cX1_init 27 = .ok (.new 7, 3) := by decide +kernel
theorem dX1_init_30 : decode cX1_init 30 = .ok (.dup, 1) := by decide +kernel
theorem dX1_init_31 : decode cX1_init 31 = .ok (.invokespecial 9, 3) := by decide +kernel
theorem dX1_init_34 : decode cX1_init 34 = .ok (.putfield 19, 3) := by decide +kernel
theorem dX1_init_37 : decode cX1_init 37 = .ok (.aload_n 0, 1) := by decide +kernel
theorem dX1_init_38 : decode cX1_init 38 = .ok (.new 7, 3) := by decide +kernel
theorem dX1_init_41 : decode cX1_init 41 = .ok (.dup, 1) := by decide +kernel
theorem dX1_init_42 : decode cX1_init 42 = .ok (.invokespecial 9, 3) := by decide +kernel
theorem dX1_init_45 : decode cX1_init 45 = .ok (.putfield 22, 3) := by decide +kernel
theorem dX1_init_48 : decode cX1_init 48 = .ok (.aload_n 0, 1) := by decide +kernel
theorem dX1_init_49 : decode cX1_init 49 = .ok (.iconst 3, 1) := by decide +kernel
theorem dX1_init_50 : decode cX1_init 50 = .ok (.putfield 25, 3) := by decide +kernel
theorem dX1_init_53 : decode cX1_init 53 = .ok (.return_, 1) := by decide +kernel
set_option maxRecDepth 20000 in
theorem ggX1_setRopes_X0_clear : GoodIn wsX1_setRopes wsX0_clear := goodIn_r _ [10, 11, 17, 18] (by decide +kernel) (by decide +kernel)
set_option maxRecDepth 20000 in
theorem gX1_setRopes_X0_clear : GoodIn wsX1_setRopes (wsV RX1 36 RX0 yX0_clear wsX0_clear) := goodIn_app (goodIn_of _ (by decide +kernel)) ggX1_setRopes_X0_clear
theorem dX1_setRopes_0 : decode cX1_setRopes 0 = .ok (.iload_n 1, 1) := by decide +kernel
theorem dX1_setRopes_1 : decode cX1_setRopes 1 = .ok (.iconst 3, 1) := by decide +kernel
theorem dX1_setRopes_2 : decode cX1_setRopes 2 = .ok (.if_icmp .lt 9, 3) := by decide +kernel
theorem dX1_setRopes_5 : decode cX1_setRopes 5 = .ok (.iload_n 1, 1) := by decide +kernel
theorem dX1_setRopes_6 : decode cX1_setRopes 6 = .ok (.bipush 6, 2) := by decide +kernel
theorem dX1_setRopes_8 : decode cX1_setRopes 8 = .ok (.if_icmp .le 13, 3) := by decide +kernel
theorem dX1_setRopes_11 : decode cX1_setRopes 11 = .ok (.new 29, 3) := by decide +kernel
theorem dX1_setRopes_14 : decode cX1_setRopes 14 = .ok (.dup, 1) := by decide +kernel
theorem dX1_setRopes_15 : decode cX1_setRopes 15 = .ok (.ldc 31, 2) := by decide +kernel
theorem dX1_setRopes_17 : decode cX1_setRopes 17 = .ok (.invokespecial 33, 3) := by decide +kernel
theorem dX1_setRopes_20 : decode cX1_setRopes 20 = .ok (.athrow, 1) := by decide +kernel
theorem dX1_setRopes_21 : decode cX1_setRopes 21 = .ok (.aload_n 0, 1) := by decide +kernel
theorem dX1_setRopes_22 : decode cX1_setRopes 22 = .ok (.getfield 25, 3) := by decide +kernel
theorem dX1_setRopes_25 : decode cX1_setRopes 25 = .ok (.istore_n 2, 1) := by decide +kernel
theorem dX1_setRopes_26 : decode cX1_setRopes 26 = .ok (.aload_n 0, 1) := by decide +kernel
theorem dX1_setRopes_27 : decode cX1_setRopes 27 = .ok (.iload_n 1, 1) := by decide +kernel
theorem dX1_setRopes_28 : decode cX1_setRopes 28 = .ok (.putfield 25, 3) := by decide +kernel
theorem dX1_setRopes_31 : decode cX1_setRopes 31 = .ok (.aload_n 0, 1) := by decide +kernel
theorem dX1_setRopes_32 : decode cX1_setRopes 32 = .ok (.getfield 10, 3) := by decide +kernel
theorem dX1_setRopes_35 : decode cX1_setRopes 35 = .ok (.invokevirtual 36, 3) := by decide +kernel
theorem dX1_setRopes_38 : decode cX1_setRopes 38 = .ok (.aload_n 0, 1) := by decide +kernel
theorem dX1_setRopes_39 : decode cX1_setRopes 39 = .ok (.getfield 16, 3) := by decide +kernel
theorem dX1_setRopes_42 : decode cX1_setRopes 42 = .ok (.invokevirtual 36, 3) := by decide +kernel
theorem dX1_setRopes_45 : decode cX1_setRopes 45 = .ok (.iload_n 2, 1) := by decide +kernel
theorem dX1_setRopes_46 : decode cX1_setRopes 46 = .ok (.ireturn, 1) := by decide +kernel
set_option maxRecDepth 20000 in
theorem ggX1_twist_X1_requireWord : GoodIn wsX1_twist wsX1_requireWord := goodIn_ca (goodIn_r _ [4, 5, 6] (by decide +kernel) (by decide +kernel)) (goodIn_sub (fun _ h => List.mem_cons_of_mem _ (List.mem_append_left _ (List.mem_append_left _ (List.mem_append_right _ h)))) (by decide +kernel))
set_option maxRecDepth 20000 in
theorem gX1_twist_X1_requireWord : GoodIn wsX1_twist (va_wsS RX1 39 yX1_requireWord wsX1_requireWord) := goodIn_app (goodIn_of _ (by decide +kernel)) ggX1_twist_X1_requireWord
set_option maxRecDepth 20000 in
theorem ggX1_twist_X1_requireLetter : GoodIn wsX1_twist wsX1_requireLetter := goodIn_ca (goodIn_r _ [10, 11, 12, 13, 36, 37, 38, 39, 40] (by decide +kernel) (by decide +kernel)) (goodIn_sub (fun _ h => List.mem_cons_of_mem _ (List.mem_append_left _ (List.mem_append_right _ h))) (by decide +kernel))
set_option maxRecDepth 20000 in
theorem gX1_twist_X1_requireLetter : GoodIn wsX1_twist (wsV RX1 43 RX1 yX1_requireLetter wsX1_requireLetter) := goodIn_app (goodIn_of _ (by decide +kernel)) ggX1_twist_X1_requireLetter
set_option maxRecDepth 20000 in
theorem ggX1_twist_X1_rowOf : GoodIn wsX1_twist wsX1_rowOf := goodIn_r _ [17, 18, 19, 36, 37, 38, 39, 40] (by decide +kernel) (by decide +kernel)
set_option maxRecDepth 20000 in
theorem gX1_twist_X1_rowOf : GoodIn wsX1_twist (wsV RX1 46 RX1 yX1_rowOf wsX1_rowOf) := goodIn_app (goodIn_of _ (by decide +kernel)) ggX1_twist_X1_rowOf
set_option maxRecDepth 20000 in
theorem ggX1_twist_X1_requireRoom : GoodIn wsX1_twist wsX1_requireRoom := goodIn_ca (goodIn_r _ [22, 23, 24, 25, 26, 27, 28, 29, 30, 41, 42] (by decide +kernel) (by decide +kernel)) (goodIn_sub (fun _ h => List.mem_cons_of_mem _ (List.mem_append_right _ h)) (by decide +kernel))
set_option maxRecDepth 20000 in
theorem gX1_twist_X1_requireRoom : GoodIn wsX1_twist (va_wsS RX1 50 yX1_requireRoom wsX1_requireRoom) := goodIn_app (goodIn_of _ (by decide +kernel)) ggX1_twist_X1_requireRoom
set_option maxRecDepth 20000 in
theorem ggX1_twist_X0_add : GoodIn wsX1_twist wsX0_add := goodIn_r _ [34, 30, 35, 41, 42] (by decide +kernel) (by decide +kernel)
set_option maxRecDepth 20000 in
theorem gX1_twist_X0_add : GoodIn wsX1_twist (wsV RX1 54 RX0 yX0_add wsX0_add) := goodIn_app (goodIn_of _ (by decide +kernel)) ggX1_twist_X0_add
set_option maxRecDepth 20000 in
theorem ggX1_twist_X0_size : GoodIn wsX1_twist wsX0_size := goodIn_r _ [29, 30, 41, 42] (by decide +kernel) (by decide +kernel)
set_option maxRecDepth 20000 in
theorem gX1_twist_X0_size : GoodIn wsX1_twist (wsV RX1 57 RX0 yX0_size wsX0_size) := goodIn_app (goodIn_of _ (by decide +kernel)) ggX1_twist_X0_size
theorem dX1_twist_0 : decode cX1_twist 0 = .ok (.iload_n 1, 1) := by decide +kernel
theorem dX1_twist_1 : decode cX1_twist 1 = .ok (.invokestatic 39, 3) := by decide +kernel
theorem dX1_twist_4 : decode cX1_twist 4 = .ok (.aload_n 0, 1) := by decide +kernel
theorem dX1_twist_5 : decode cX1_twist 5 = .ok (.iload_n 2, 1) := by decide +kernel
theorem dX1_twist_6 : decode cX1_twist 6 = .ok (.invokevirtual 43, 3) := by decide +kernel
theorem dX1_twist_9 : decode cX1_twist 9 = .ok (.aload_n 0, 1) := by decide +kernel
theorem dX1_twist_10 : decode cX1_twist 10 = .ok (.iload_n 1, 1) := by decide +kernel
theorem dX1_twist_11 : decode cX1_twist 11 = .ok (.invokevirtual 46, 3) := by decide +kernel
theorem dX1_twist_14 : decode cX1_twist 14 = .ok (.astore_n 3, 1) := by decide +kernel
theorem dX1_twist_15 : decode cX1_twist 15 = .ok (.aload_n 3, 1) := by decide +kernel
theorem dX1_twist_16 : decode cX1_twist 16 = .ok (.iconst 1, 1) := by decide +kernel
theorem dX1_twist_17 : decode cX1_twist 17 = .ok (.invokestatic 50, 3) := by decide +kernel
theorem dX1_twist_20 : decode cX1_twist 20 = .ok (.aload_n 3, 1) := by decide +kernel
theorem dX1_twist_21 : decode cX1_twist 21 = .ok (.iload_n 2, 1) := by decide +kernel
theorem dX1_twist_22 : decode cX1_twist 22 = .ok (.invokevirtual 54, 3) := by decide +kernel
theorem dX1_twist_25 : decode cX1_twist 25 = .ok (.aload_n 3, 1) := by decide +kernel
theorem dX1_twist_26 : decode cX1_twist 26 = .ok (.invokevirtual 57, 3) := by decide +kernel
theorem dX1_twist_29 : decode cX1_twist 29 = .ok (.ireturn, 1) := by decide +kernel
set_option maxRecDepth 20000 in
theorem ggX1_untwist_X1_requireWord : GoodIn wsX1_untwist wsX1_requireWord := goodIn_ca (goodIn_r _ [6, 7, 8] (by decide +kernel) (by decide +kernel)) (goodIn_sub (fun _ h => List.mem_cons_of_mem _ (List.mem_append_right _ h)) (by decide +kernel))
set_option maxRecDepth 20000 in
theorem gX1_untwist_X1_requireWord : GoodIn wsX1_untwist (va_wsS RX1 39 yX1_requireWord wsX1_requireWord) := goodIn_app (goodIn_of _ (by decide +kernel)) ggX1_untwist_X1_requireWord
set_option maxRecDepth 20000 in
theorem ggX1_untwist_X1_rowOf : GoodIn wsX1_untwist wsX1_rowOf := goodIn_r _ [12, 13, 14, 30, 31, 32, 33, 34] (by decide +kernel) (by decide +kernel)
set_option maxRecDepth 20000 in
theorem gX1_untwist_X1_rowOf : GoodIn wsX1_untwist (wsV RX1 46 RX1 yX1_rowOf wsX1_rowOf) := goodIn_app (goodIn_of _ (by decide +kernel)) ggX1_untwist_X1_rowOf
set_option maxRecDepth 20000 in
theorem ggX1_untwist_X0_size : GoodIn wsX1_untwist wsX0_size := goodIn_r _ [19, 20, 35, 36] (by decide +kernel) (by decide +kernel)
set_option maxRecDepth 20000 in
theorem gX1_untwist_X0_size : GoodIn wsX1_untwist (wsV RX1 57 RX0 yX0_size wsX0_size) := goodIn_app (goodIn_of _ (by decide +kernel)) ggX1_untwist_X0_size
set_option maxRecDepth 20000 in
theorem ggX1_untwist_X0_at : GoodIn wsX1_untwist wsX0_at := goodIn_r _ [24, 20, 25, 35, 36] (by decide +kernel) (by decide +kernel)
set_option maxRecDepth 20000 in
theorem gX1_untwist_X0_at : GoodIn wsX1_untwist (wsV RX1 66 RX0 yX0_at wsX0_at) := goodIn_app (goodIn_of _ (by decide +kernel)) ggX1_untwist_X0_at
set_option maxRecDepth 20000 in
theorem ggX1_untwist_X0_dropLast : GoodIn wsX1_untwist wsX0_dropLast := goodIn_r _ [29, 20, 35, 36] (by decide +kernel) (by decide +kernel)
set_option maxRecDepth 20000 in
theorem gX1_untwist_X0_dropLast : GoodIn wsX1_untwist (wsV RX1 70 RX0 yX0_dropLast wsX0_dropLast) := goodIn_app (goodIn_of _ (by decide +kernel)) ggX1_untwist_X0_dropLast
theorem dX1_untwist_0 : decode cX1_untwist 0 = .ok (.iload_n 1, 1) := by decide +kernel
theorem dX1_untwist_1 : decode cX1_untwist 1 = .ok (.invokestatic 39, 3) := by decide +kernel
theorem dX1_untwist_4 : decode cX1_untwist 4 = .ok (.aload_n 0, 1) := by decide +kernel
theorem dX1_untwist_5 : decode cX1_untwist 5 = .ok (.iload_n 1, 1) := by decide +kernel
theorem dX1_untwist_6 : decode cX1_untwist 6 = .ok (.invokevirtual 46, 3) := by decide +kernel
theorem dX1_untwist_9 : decode cX1_untwist 9 = .ok (.astore_n 2, 1) := by decide +kernel
theorem dX1_untwist_10 : decode cX1_untwist 10 = .ok (.aload_n 2, 1) := by decide +kernel
theorem dX1_untwist_11 : decode cX1_untwist 11 = .ok (.invokevirtual 57, 3) := by decide +kernel
theorem dX1_untwist_14 : decode cX1_untwist 14 = .ok (.ifCond .ne 13, 3) := by decide +kernel
theorem dX1_untwist_17 : decode cX1_untwist 17 = .ok (.new 61, 3) := by decide +kernel
theorem dX1_untwist_20 : decode cX1_untwist 20 = .ok (.dup, 1) := by decide +kernel
theorem dX1_untwist_21 : decode cX1_untwist 21 = .ok (.ldc 63, 2) := by decide +kernel
theorem dX1_untwist_23 : decode cX1_untwist 23 = .ok (.invokespecial 65, 3) := by decide +kernel
theorem dX1_untwist_26 : decode cX1_untwist 26 = .ok (.athrow, 1) := by decide +kernel
theorem dX1_untwist_27 : decode cX1_untwist 27 = .ok (.aload_n 2, 1) := by decide +kernel
theorem dX1_untwist_28 : decode cX1_untwist 28 = .ok (.aload_n 2, 1) := by decide +kernel
theorem dX1_untwist_29 : decode cX1_untwist 29 = .ok (.invokevirtual 57, 3) := by decide +kernel
theorem dX1_untwist_32 : decode cX1_untwist 32 = .ok (.iconst 1, 1) := by decide +kernel
theorem dX1_untwist_33 : decode cX1_untwist 33 = .ok (.isub, 1) := by decide +kernel
theorem dX1_untwist_34 : decode cX1_untwist 34 = .ok (.invokevirtual 66, 3) := by decide +kernel
theorem dX1_untwist_37 : decode cX1_untwist 37 = .ok (.istore_n 3, 1) := by decide +kernel
theorem dX1_untwist_38 : decode cX1_untwist 38 = .ok (.aload_n 2, 1) := by decide +kernel
theorem dX1_untwist_39 : decode cX1_untwist 39 = .ok (.invokevirtual 70, 3) := by decide +kernel
theorem dX1_untwist_42 : decode cX1_untwist 42 = .ok (.iload_n 3, 1) := by decide +kernel
theorem dX1_untwist_43 : decode cX1_untwist 43 = .ok (.ireturn, 1) := by decide +kernel
set_option maxRecDepth 20000 in
theorem ggX1_turn_X1_requireWord : GoodIn wsX1_turn wsX1_requireWord := goodIn_ca (goodIn_r _ [5, 6, 7] (by decide +kernel) (by decide +kernel)) (goodIn_sub (fun _ h => List.mem_cons_of_mem _ (List.mem_append_right _ h)) (by decide +kernel))
set_option maxRecDepth 20000 in
theorem gX1_turn_X1_requireWord : GoodIn wsX1_turn (va_wsS RX1 39 yX1_requireWord wsX1_requireWord) := goodIn_app (goodIn_of _ (by decide +kernel)) ggX1_turn_X1_requireWord
set_option maxRecDepth 20000 in
theorem ggX1_turn_X1_rowOf : GoodIn wsX1_turn wsX1_rowOf := goodIn_r _ [11, 12, 13, 42, 43, 44, 45, 46] (by decide +kernel) (by decide +kernel)
set_option maxRecDepth 20000 in
theorem gX1_turn_X1_rowOf : GoodIn wsX1_turn (wsV RX1 46 RX1 yX1_rowOf wsX1_rowOf) := goodIn_app (goodIn_of _ (by decide +kernel)) ggX1_turn_X1_rowOf
set_option maxRecDepth 20000 in
theorem ggX1_turn_X0_clear : GoodIn wsX1_turn wsX0_clear := goodIn_r _ [18, 19, 47, 48] (by decide +kernel) (by decide +kernel)
set_option maxRecDepth 20000 in
theorem gX1_turn_X0_clear : GoodIn wsX1_turn (wsV RX1 36 RX0 yX0_clear wsX0_clear) := goodIn_app (goodIn_of _ (by decide +kernel)) ggX1_turn_X0_clear
set_option maxRecDepth 20000 in
theorem ggX1_turn_X0_addTurnedRound : GoodIn wsX1_turn wsX0_addTurnedRound := goodIn_r _ [23, 24, 25, 26, 17, 27, 19, 28, 29, 30, 31, 32, 33, 34, 35, 36, 47, 48] (by decide +kernel) (by decide +kernel)
set_option maxRecDepth 20000 in
theorem gX1_turn_X0_addTurnedRound : GoodIn wsX1_turn (wsV RX1 73 RX0 yX0_addTurnedRound wsX0_addTurnedRound) := goodIn_app (goodIn_of _ (by decide +kernel)) ggX1_turn_X0_addTurnedRound
set_option maxRecDepth 20000 in
theorem ggX1_turn_X0_copy : GoodIn wsX1_turn wsX0_copy := goodIn_r _ [40, 19, 24, 25, 26, 17, 27, 28, 29, 30, 31, 32, 33, 34, 35, 36, 47, 48] (by decide +kernel) (by decide +kernel)
set_option maxRecDepth 20000 in
theorem gX1_turn_X0_copy : GoodIn wsX1_turn (wsV RX1 77 RX0 yX0_copy wsX0_copy) := goodIn_app (goodIn_of _ (by decide +kernel)) ggX1_turn_X0_copy
set_option maxRecDepth 20000 in
theorem ggX1_turn_X0_size : GoodIn wsX1_turn wsX0_size := goodIn_r _ [27, 19, 47, 48] (by decide +kernel) (by decide +kernel)
set_option maxRecDepth 20000 in
theorem gX1_turn_X0_size : GoodIn wsX1_turn (wsV RX1 57 RX0 yX0_size wsX0_size) := goodIn_app (goodIn_of _ (by decide +kernel)) ggX1_turn_X0_size
theorem dX1_turn_0 : decode cX1_turn 0 = .ok (.iload_n 1, 1) := by decide +kernel
theorem dX1_turn_1 : decode cX1_turn 1 = .ok (.invokestatic 39, 3) := by decide +kernel
theorem dX1_turn_4 : decode cX1_turn 4 = .ok (.aload_n 0, 1) := by decide +kernel
theorem dX1_turn_5 : decode cX1_turn 5 = .ok (.iload_n 1, 1) := by decide +kernel
theorem dX1_turn_6 : decode cX1_turn 6 = .ok (.invokevirtual 46, 3) := by decide +kernel
theorem dX1_turn_9 : decode cX1_turn 9 = .ok (.astore_n 2, 1) := by decide +kernel
theorem dX1_turn_10 : decode cX1_turn 10 = .ok (.aload_n 0, 1) := by decide +kernel
theorem dX1_turn_11 : decode cX1_turn 11 = .ok (.getfield 22, 3) := by decide +kernel
theorem dX1_turn_14 : decode cX1_turn 14 = .ok (.invokevirtual 36, 3) := by decide +kernel
theorem dX1_turn_17 : decode cX1_turn 17 = .ok (.aload_n 0, 1) := by decide +kernel
theorem dX1_turn_18 : decode cX1_turn 18 = .ok (.getfield 22, 3) := by decide +kernel
theorem dX1_turn_21 : decode cX1_turn 21 = .ok (.aload_n 2, 1) := by decide +kernel
theorem dX1_turn_22 : decode cX1_turn 22 = .ok (.invokevirtual 73, 3) := by decide +kernel
theorem dX1_turn_25 : decode cX1_turn 25 = .ok (.aload_n 2, 1) := by decide +kernel
theorem dX1_turn_26 : decode cX1_turn 26 = .ok (.aload_n 0, 1) := by decide +kernel
theorem dX1_turn_27 : decode cX1_turn 27 = .ok (.getfield 22, 3) := by decide +kernel
theorem dX1_turn_30 : decode cX1_turn 30 = .ok (.invokevirtual 77, 3) := by decide +kernel
theorem dX1_turn_33 : decode cX1_turn 33 = .ok (.aload_n 2, 1) := by decide +kernel
theorem dX1_turn_34 : decode cX1_turn 34 = .ok (.invokevirtual 57, 3) := by decide +kernel
theorem dX1_turn_37 : decode cX1_turn 37 = .ok (.ireturn, 1) := by decide +kernel
set_option maxRecDepth 20000 in
theorem ggX1_join_X1_requireWord : GoodIn wsX1_join wsX1_requireWord := goodIn_ca (goodIn_r _ [4, 5, 6] (by decide +kernel) (by decide +kernel)) (goodIn_sub (fun _ h => List.mem_cons_of_mem _ (List.mem_append_left _ (List.mem_append_right _ h))) (by decide +kernel))
set_option maxRecDepth 20000 in
theorem gX1_join_X1_requireWord : GoodIn wsX1_join (va_wsS RX1 39 yX1_requireWord wsX1_requireWord) := goodIn_app (goodIn_of _ (by decide +kernel)) ggX1_join_X1_requireWord
set_option maxRecDepth 20000 in
theorem ggX1_join_X1_rowOf : GoodIn wsX1_join wsX1_rowOf := goodIn_r _ [10, 11, 12, 38, 39, 40, 41, 42] (by decide +kernel) (by decide +kernel)
set_option maxRecDepth 20000 in
theorem gX1_join_X1_rowOf : GoodIn wsX1_join (wsV RX1 46 RX1 yX1_rowOf wsX1_rowOf) := goodIn_app (goodIn_of _ (by decide +kernel)) ggX1_join_X1_rowOf
set_option maxRecDepth 20000 in
theorem ggX1_join_X0_size : GoodIn wsX1_join wsX0_size := goodIn_r _ [17, 18, 43, 44] (by decide +kernel) (by decide +kernel)
set_option maxRecDepth 20000 in
theorem gX1_join_X0_size : GoodIn wsX1_join (wsV RX1 57 RX0 yX0_size wsX0_size) := goodIn_app (goodIn_of _ (by decide +kernel)) ggX1_join_X0_size
set_option maxRecDepth 20000 in
theorem ggX1_join_X1_requireRoom : GoodIn wsX1_join wsX1_requireRoom := goodIn_ca (goodIn_r _ [21, 22, 23, 13, 14, 15, 16, 17, 18, 43, 44] (by decide +kernel) (by decide +kernel)) (goodIn_sub (fun _ h => List.mem_cons_of_mem _ (List.mem_append_right _ h)) (by decide +kernel))
set_option maxRecDepth 20000 in
theorem gX1_join_X1_requireRoom : GoodIn wsX1_join (va_wsS RX1 50 yX1_requireRoom wsX1_requireRoom) := goodIn_app (goodIn_of _ (by decide +kernel)) ggX1_join_X1_requireRoom
set_option maxRecDepth 20000 in
theorem ggX1_join_X0_addAll : GoodIn wsX1_join wsX0_addAll := goodIn_r _ [27, 28, 14, 15, 16, 17, 18, 29, 30, 31, 32, 33, 34, 35, 36, 37, 43, 44] (by decide +kernel) (by decide +kernel)
set_option maxRecDepth 20000 in
theorem gX1_join_X0_addAll : GoodIn wsX1_join (wsV RX1 80 RX0 yX0_addAll wsX0_addAll) := goodIn_app (goodIn_of _ (by decide +kernel)) ggX1_join_X0_addAll
theorem dX1_join_0 : decode cX1_join 0 = .ok (.iload_n 1, 1) := by decide +kernel
theorem dX1_join_1 : decode cX1_join 1 = .ok (.invokestatic 39, 3) := by decide +kernel
theorem dX1_join_4 : decode cX1_join 4 = .ok (.aload_n 0, 1) := by decide +kernel
theorem dX1_join_5 : decode cX1_join 5 = .ok (.iload_n 1, 1) := by decide +kernel
theorem dX1_join_6 : decode cX1_join 6 = .ok (.invokevirtual 46, 3) := by decide +kernel
theorem dX1_join_9 : decode cX1_join 9 = .ok (.astore_n 2, 1) := by decide +kernel
theorem dX1_join_10 : decode cX1_join 10 = .ok (.aload_n 0, 1) := by decide +kernel
theorem dX1_join_11 : decode cX1_join 11 = .ok (.iconst 1, 1) := by decide +kernel
theorem dX1_join_12 : decode cX1_join 12 = .ok (.iload_n 1, 1) := by decide +kernel
theorem dX1_join_13 : decode cX1_join 13 = .ok (.isub, 1) := by decide +kernel
theorem dX1_join_14 : decode cX1_join 14 = .ok (.invokevirtual 46, 3) := by decide +kernel
theorem dX1_join_17 : decode cX1_join 17 = .ok (.astore_n 3, 1) := by decide +kernel
theorem dX1_join_18 : decode cX1_join 18 = .ok (.aload_n 2, 1) := by decide +kernel
theorem dX1_join_19 : decode cX1_join 19 = .ok (.aload_n 3, 1) := by decide +kernel
theorem dX1_join_20 : decode cX1_join 20 = .ok (.invokevirtual 57, 3) := by decide +kernel
theorem dX1_join_23 : decode cX1_join 23 = .ok (.invokestatic 50, 3) := by decide +kernel
theorem dX1_join_26 : decode cX1_join 26 = .ok (.aload_n 2, 1) := by decide +kernel
theorem dX1_join_27 : decode cX1_join 27 = .ok (.aload_n 3, 1) := by decide +kernel
theorem dX1_join_28 : decode cX1_join 28 = .ok (.invokevirtual 80, 3) := by decide +kernel
theorem dX1_join_31 : decode cX1_join 31 = .ok (.aload_n 2, 1) := by decide +kernel
theorem dX1_join_32 : decode cX1_join 32 = .ok (.invokevirtual 57, 3) := by decide +kernel
theorem dX1_join_35 : decode cX1_join 35 = .ok (.ireturn, 1) := by decide +kernel
set_option maxRecDepth 20000 in
theorem ggX1_swap_X1_requireWord : GoodIn wsX1_swap wsX1_requireWord := goodIn_ca (goodIn_r _ [6, 7, 8] (by decide +kernel) (by decide +kernel)) (goodIn_sub (fun _ h => List.mem_cons_of_mem _ (List.mem_append_right _ h)) (by decide +kernel))
set_option maxRecDepth 20000 in
theorem gX1_swap_X1_requireWord : GoodIn wsX1_swap (va_wsS RX1 39 yX1_requireWord wsX1_requireWord) := goodIn_app (goodIn_of _ (by decide +kernel)) ggX1_swap_X1_requireWord
set_option maxRecDepth 20000 in
theorem ggX1_swap_X1_rowOf : GoodIn wsX1_swap wsX1_rowOf := goodIn_r _ [12, 13, 14, 39, 40, 41, 42, 43] (by decide +kernel) (by decide +kernel)
set_option maxRecDepth 20000 in
theorem gX1_swap_X1_rowOf : GoodIn wsX1_swap (wsV RX1 46 RX1 yX1_rowOf wsX1_rowOf) := goodIn_app (goodIn_of _ (by decide +kernel)) ggX1_swap_X1_rowOf
set_option maxRecDepth 20000 in
theorem ggX1_swap_X0_size : GoodIn wsX1_swap wsX0_size := goodIn_r _ [19, 20, 44, 45] (by decide +kernel) (by decide +kernel)
set_option maxRecDepth 20000 in
theorem gX1_swap_X0_size : GoodIn wsX1_swap (wsV RX1 57 RX0 yX0_size wsX0_size) := goodIn_app (goodIn_of _ (by decide +kernel)) ggX1_swap_X0_size
set_option maxRecDepth 20000 in
theorem ggX1_swap_X1_requirePlace : GoodIn wsX1_swap wsX1_requirePlace := goodIn_ca (goodIn_r _ [23, 7, 8] (by decide +kernel) (by decide +kernel)) (goodIn_sub (fun _ h => List.mem_cons_of_mem _ (List.mem_append_right _ h)) (by decide +kernel))
set_option maxRecDepth 20000 in
theorem gX1_swap_X1_requirePlace : GoodIn wsX1_swap (va_wsS RX1 83 yX1_requirePlace wsX1_requirePlace) := goodIn_app (goodIn_of _ (by decide +kernel)) ggX1_swap_X1_requirePlace
set_option maxRecDepth 20000 in
theorem ggX1_swap_X0_at : GoodIn wsX1_swap wsX0_at := goodIn_r _ [27, 20, 28, 44, 45] (by decide +kernel) (by decide +kernel)
set_option maxRecDepth 20000 in
theorem gX1_swap_X0_at : GoodIn wsX1_swap (wsV RX1 66 RX0 yX0_at wsX0_at) := goodIn_app (goodIn_of _ (by decide +kernel)) ggX1_swap_X0_at
set_option maxRecDepth 20000 in
theorem ggX1_swap_X1_heightsApart : GoodIn wsX1_swap wsX1_heightsApart := goodIn_r _ [31, 32, 33, 5, 34] (by decide +kernel) (by decide +kernel)
set_option maxRecDepth 20000 in
theorem gX1_swap_X1_heightsApart : GoodIn wsX1_swap (va_wsS RX1 87 yX1_heightsApart wsX1_heightsApart) := goodIn_app (goodIn_of _ (by decide +kernel)) ggX1_swap_X1_heightsApart
set_option maxRecDepth 20000 in
theorem ggX1_swap_X0_set : GoodIn wsX1_swap wsX0_set := goodIn_r _ [38, 20, 28, 44, 45] (by decide +kernel) (by decide +kernel)
set_option maxRecDepth 20000 in
theorem gX1_swap_X0_set : GoodIn wsX1_swap (wsV RX1 93 RX0 yX0_set wsX0_set) := goodIn_app (goodIn_of _ (by decide +kernel)) ggX1_swap_X0_set
theorem dX1_swap_0 : decode cX1_swap 0 = .ok (.iload_n 1, 1) := by decide +kernel
theorem dX1_swap_1 : decode cX1_swap 1 = .ok (.invokestatic 39, 3) := by decide +kernel
theorem dX1_swap_4 : decode cX1_swap 4 = .ok (.aload_n 0, 1) := by decide +kernel
theorem dX1_swap_5 : decode cX1_swap 5 = .ok (.iload_n 1, 1) := by decide +kernel
theorem dX1_swap_6 : decode cX1_swap 6 = .ok (.invokevirtual 46, 3) := by decide +kernel
theorem dX1_swap_9 : decode cX1_swap 9 = .ok (.astore_n 3, 1) := by decide +kernel
theorem dX1_swap_10 : decode cX1_swap 10 = .ok (.iload_n 2, 1) := by decide +kernel
theorem dX1_swap_11 : decode cX1_swap 11 = .ok (.aload_n 3, 1) := by decide +kernel
theorem dX1_swap_12 : decode cX1_swap 12 = .ok (.invokevirtual 57, 3) := by decide +kernel
theorem dX1_swap_15 : decode cX1_swap 15 = .ok (.iconst 1, 1) := by decide +kernel
theorem dX1_swap_16 : decode cX1_swap 16 = .ok (.isub, 1) := by decide +kernel
theorem dX1_swap_17 : decode cX1_swap 17 = .ok (.invokestatic 83, 3) := by decide +kernel
theorem dX1_swap_20 : decode cX1_swap 20 = .ok (.aload_n 3, 1) := by decide +kernel
theorem dX1_swap_21 : decode cX1_swap 21 = .ok (.iload_n 2, 1) := by decide +kernel
theorem dX1_swap_22 : decode cX1_swap 22 = .ok (.invokevirtual 66, 3) := by decide +kernel
theorem dX1_swap_25 : decode cX1_swap 25 = .ok (.istore 4, 2) := by decide +kernel
theorem dX1_swap_27 : decode cX1_swap 27 = .ok (.aload_n 3, 1) := by decide +kernel
theorem dX1_swap_28 : decode cX1_swap 28 = .ok (.iload_n 2, 1) := by decide +kernel
theorem dX1_swap_29 : decode cX1_swap 29 = .ok (.iconst 1, 1) := by decide +kernel
theorem dX1_swap_30 : decode cX1_swap 30 = .ok (.iadd, 1) := by decide +kernel
theorem dX1_swap_31 : decode cX1_swap 31 = .ok (.invokevirtual 66, 3) := by decide +kernel
theorem dX1_swap_34 : decode cX1_swap 34 = .ok (.istore 5, 2) := by decide +kernel
theorem dX1_swap_36 : decode cX1_swap 36 = .ok (.iload 4, 2) := by decide +kernel
theorem dX1_swap_38 : decode cX1_swap 38 = .ok (.iload 5, 2) := by decide +kernel
theorem dX1_swap_40 : decode cX1_swap 40 = .ok (.invokestatic 87, 3) := by decide +kernel
theorem dX1_swap_43 : decode cX1_swap 43 = .ok (.iconst 2, 1) := by decide +kernel
theorem dX1_swap_44 : decode cX1_swap 44 = .ok (.if_icmp .ge 13, 3) := by decide +kernel
theorem dX1_swap_47 : decode cX1_swap 47 = .ok (.new 61, 3) := by decide +kernel
theorem dX1_swap_50 : decode cX1_swap 50 = .ok (.dup, 1) := by decide +kernel
theorem dX1_swap_51 : decode cX1_swap 51 = .ok (.ldc 91, 2) := by decide +kernel
theorem dX1_swap_53 : decode cX1_swap 53 = .ok (.invokespecial 65, 3) := by decide +kernel
theorem dX1_swap_56 : decode cX1_swap 56 = .ok (.athrow, 1) := by decide +kernel
theorem dX1_swap_57 : decode cX1_swap 57 = .ok (.aload_n 3, 1) := by decide +kernel
theorem dX1_swap_58 : decode cX1_swap 58 = .ok (.iload_n 2, 1) := by decide +kernel
theorem dX1_swap_59 : decode cX1_swap 59 = .ok (.iload 5, 2) := by decide +kernel
theorem dX1_swap_61 : decode cX1_swap 61 = .ok (.invokevirtual 93, 3) := by decide +kernel
theorem dX1_swap_64 : decode cX1_swap 64 = .ok (.aload_n 3, 1) := by decide +kernel
theorem dX1_swap_65 : decode cX1_swap 65 = .ok (.iload_n 2, 1) := by decide +kernel
theorem dX1_swap_66 : decode cX1_swap 66 = .ok (.iconst 1, 1) := by decide +kernel
theorem dX1_swap_67 : decode cX1_swap 67 = .ok (.iadd, 1) := by decide +kernel
theorem dX1_swap_68 : decode cX1_swap 68 = .ok (.iload 4, 2) := by decide +kernel
theorem dX1_swap_70 : decode cX1_swap 70 = .ok (.invokevirtual 93, 3) := by decide +kernel
theorem dX1_swap_73 : decode cX1_swap 73 = .ok (.iload 5, 2) := by decide +kernel
theorem dX1_swap_75 : decode cX1_swap 75 = .ok (.ireturn, 1) := by decide +kernel
set_option maxRecDepth 20000 in
theorem ggX1_about_X1_requireWord : GoodIn wsX1_about wsX1_requireWord := goodIn_ca (goodIn_r _ [6, 7, 8] (by decide +kernel) (by decide +kernel)) (goodIn_sub (fun _ h => List.mem_cons_of_mem _ (List.mem_append_right _ h)) (by decide +kernel))
set_option maxRecDepth 20000 in
theorem gX1_about_X1_requireWord : GoodIn wsX1_about (va_wsS RX1 39 yX1_requireWord wsX1_requireWord) := goodIn_app (goodIn_of _ (by decide +kernel)) ggX1_about_X1_requireWord
set_option maxRecDepth 20000 in
theorem ggX1_about_X1_rowOf : GoodIn wsX1_about wsX1_rowOf := goodIn_r _ [12, 13, 14, 42, 43, 44, 45, 46] (by decide +kernel) (by decide +kernel)
set_option maxRecDepth 20000 in
theorem gX1_about_X1_rowOf : GoodIn wsX1_about (wsV RX1 46 RX1 yX1_rowOf wsX1_rowOf) := goodIn_app (goodIn_of _ (by decide +kernel)) ggX1_about_X1_rowOf
set_option maxRecDepth 20000 in
theorem ggX1_about_X0_size : GoodIn wsX1_about wsX0_size := goodIn_r _ [19, 20, 47, 48] (by decide +kernel) (by decide +kernel)
set_option maxRecDepth 20000 in
theorem gX1_about_X0_size : GoodIn wsX1_about (wsV RX1 57 RX0 yX0_size wsX0_size) := goodIn_app (goodIn_of _ (by decide +kernel)) ggX1_about_X0_size
set_option maxRecDepth 20000 in
theorem ggX1_about_X1_requirePlace : GoodIn wsX1_about wsX1_requirePlace := goodIn_ca (goodIn_r _ [23, 7, 8] (by decide +kernel) (by decide +kernel)) (goodIn_sub (fun _ h => List.mem_cons_of_mem _ (List.mem_append_right _ h)) (by decide +kernel))
set_option maxRecDepth 20000 in
theorem gX1_about_X1_requirePlace : GoodIn wsX1_about (va_wsS RX1 83 yX1_requirePlace wsX1_requirePlace) := goodIn_app (goodIn_of _ (by decide +kernel)) ggX1_about_X1_requirePlace
set_option maxRecDepth 20000 in
theorem ggX1_about_X0_at : GoodIn wsX1_about wsX0_at := goodIn_r _ [27, 20, 28, 47, 48] (by decide +kernel) (by decide +kernel)
set_option maxRecDepth 20000 in
theorem gX1_about_X0_at : GoodIn wsX1_about (wsV RX1 66 RX0 yX0_at wsX0_at) := goodIn_app (goodIn_of _ (by decide +kernel)) ggX1_about_X0_at
set_option maxRecDepth 20000 in
theorem ggX1_about_X1_signOf : GoodIn wsX1_about wsX1_signOf := goodIn_r _ [31] (by decide +kernel) (by decide +kernel)
set_option maxRecDepth 20000 in
theorem gX1_about_X1_signOf : GoodIn wsX1_about (va_wsS RX1 96 yX1_signOf wsX1_signOf) := goodIn_app (goodIn_of _ (by decide +kernel)) ggX1_about_X1_signOf
set_option maxRecDepth 20000 in
theorem ggX1_about_X1_heightsApart : GoodIn wsX1_about wsX1_heightsApart := goodIn_r _ [34, 35, 36, 5, 37] (by decide +kernel) (by decide +kernel)
set_option maxRecDepth 20000 in
theorem gX1_about_X1_heightsApart : GoodIn wsX1_about (va_wsS RX1 87 yX1_heightsApart wsX1_heightsApart) := goodIn_app (goodIn_of _ (by decide +kernel)) ggX1_about_X1_heightsApart
set_option maxRecDepth 20000 in
theorem ggX1_about_X0_set : GoodIn wsX1_about wsX0_set := goodIn_r _ [41, 20, 28, 47, 48] (by decide +kernel) (by decide +kernel)
set_option maxRecDepth 20000 in
theorem gX1_about_X0_set : GoodIn wsX1_about (wsV RX1 93 RX0 yX0_set wsX0_set) := goodIn_app (goodIn_of _ (by decide +kernel)) ggX1_about_X0_set
theorem dX1_about_0 : decode cX1_about 0 = .ok (.iload_n 1, 1) := by decide +kernel
theorem dX1_about_1 : decode cX1_about 1 = .ok (.invokestatic 39, 3) := by decide +kernel
theorem dX1_about_4 : decode cX1_about 4 = .ok (.aload_n 0, 1) := by decide +kernel
theorem dX1_about_5 : decode cX1_about 5 = .ok (.iload_n 1, 1) := by decide +kernel
theorem dX1_about_6 : decode cX1_about 6 = .ok (.invokevirtual 46, 3) := by decide +kernel
theorem dX1_about_9 : decode cX1_about 9 = .ok (.astore_n 3, 1) := by decide +kernel
theorem dX1_about_10 : decode cX1_about 10 = .ok (.iload_n 2, 1) := by decide +kernel
theorem dX1_about_11 : decode cX1_about 11 = .ok (.aload_n 3, 1) := by decide +kernel
theorem dX1_about_12 : decode cX1_about 12 = .ok (.invokevirtual 57, 3) := by decide +kernel
theorem dX1_about_15 : decode cX1_about 15 = .ok (.iconst 2, 1) := by decide +kernel
theorem dX1_about_16 : decode cX1_about 16 = .ok (.isub, 1) := by decide +kernel
theorem dX1_about_17 : decode cX1_about 17 = .ok (.invokestatic 83, 3) := by decide +kernel
theorem dX1_about_20 : decode cX1_about 20 = .ok (.aload_n 3, 1) := by decide +kernel
theorem dX1_about_21 : decode cX1_about 21 = .ok (.iload_n 2, 1) := by decide +kernel
theorem dX1_about_22 : decode cX1_about 22 = .ok (.invokevirtual 66, 3) := by decide +kernel
theorem dX1_about_25 : decode cX1_about 25 = .ok (.istore 4, 2) := by decide +kernel
theorem dX1_about_27 : decode cX1_about 27 = .ok (.aload_n 3, 1) := by decide +kernel
theorem dX1_about_28 : decode cX1_about 28 = .ok (.iload_n 2, 1) := by decide +kernel
theorem dX1_about_29 : decode cX1_about 29 = .ok (.iconst 1, 1) := by decide +kernel
theorem dX1_about_30 : decode cX1_about 30 = .ok (.iadd, 1) := by decide +kernel
theorem dX1_about_31 : decode cX1_about 31 = .ok (.invokevirtual 66, 3) := by decide +kernel
theorem dX1_about_34 : decode cX1_about 34 = .ok (.istore 5, 2) := by decide +kernel
theorem dX1_about_36 : decode cX1_about 36 = .ok (.aload_n 3, 1) := by decide +kernel
theorem dX1_about_37 : decode cX1_about 37 = .ok (.iload_n 2, 1) := by decide +kernel
theorem dX1_about_38 : decode cX1_about 38 = .ok (.iconst 2, 1) := by decide +kernel
theorem dX1_about_39 : decode cX1_about 39 = .ok (.iadd, 1) := by decide +kernel
theorem dX1_about_40 : decode cX1_about 40 = .ok (.invokevirtual 66, 3) := by decide +kernel
theorem dX1_about_43 : decode cX1_about 43 = .ok (.iload 4, 2) := by decide +kernel
theorem dX1_about_45 : decode cX1_about 45 = .ok (.if_icmp .ne 27, 3) := by decide +kernel
theorem dX1_about_48 : decode cX1_about 48 = .ok (.iload 5, 2) := by decide +kernel
theorem dX1_about_50 : decode cX1_about 50 = .ok (.invokestatic 96, 3) := by decide +kernel
theorem dX1_about_53 : decode cX1_about 53 = .ok (.iload 4, 2) := by decide +kernel
theorem dX1_about_55 : decode cX1_about 55 = .ok (.invokestatic 96, 3) := by decide +kernel
theorem dX1_about_58 : decode cX1_about 58 = .ok (.if_icmp .ne 14, 3) := by decide +kernel
theorem dX1_about_61 : decode cX1_about 61 = .ok (.iload 5, 2) := by decide +kernel
theorem dX1_about_63 : decode cX1_about 63 = .ok (.iload 4, 2) := by decide +kernel
theorem dX1_about_65 : decode cX1_about 65 = .ok (.invokestatic 87, 3) := by decide +kernel
theorem dX1_about_68 : decode cX1_about 68 = .ok (.iconst 1, 1) := by decide +kernel
theorem dX1_about_69 : decode cX1_about 69 = .ok (.if_icmp .eq 13, 3) := by decide +kernel
theorem dX1_about_72 : decode cX1_about 72 = .ok (.new 61, 3) := by decide +kernel
theorem dX1_about_75 : decode cX1_about 75 = .ok (.dup, 1) := by decide +kernel
theorem dX1_about_76 : decode cX1_about 76 = .ok (.ldc 99, 2) := by decide +kernel
theorem dX1_about_78 : decode cX1_about 78 = .ok (.invokespecial 65, 3) := by decide +kernel
theorem dX1_about_81 : decode cX1_about 81 = .ok (.athrow, 1) := by decide +kernel
theorem dX1_about_82 : decode cX1_about 82 = .ok (.aload_n 3, 1) := by decide +kernel
theorem dX1_about_83 : decode cX1_about 83 = .ok (.iload_n 2, 1) := by decide +kernel
theorem dX1_about_84 : decode cX1_about 84 = .ok (.iload 5, 2) := by decide +kernel
theorem dX1_about_86 : decode cX1_about 86 = .ok (.invokevirtual 93, 3) := by decide +kernel
theorem dX1_about_89 : decode cX1_about 89 = .ok (.aload_n 3, 1) := by decide +kernel
theorem dX1_about_90 : decode cX1_about 90 = .ok (.iload_n 2, 1) := by decide +kernel
theorem dX1_about_91 : decode cX1_about 91 = .ok (.iconst 1, 1) := by decide +kernel
theorem dX1_about_92 : decode cX1_about 92 = .ok (.iadd, 1) := by decide +kernel
theorem dX1_about_93 : decode cX1_about 93 = .ok (.iload 4, 2) := by decide +kernel
theorem dX1_about_95 : decode cX1_about 95 = .ok (.invokevirtual 93, 3) := by decide +kernel
theorem dX1_about_98 : decode cX1_about 98 = .ok (.aload_n 3, 1) := by decide +kernel
theorem dX1_about_99 : decode cX1_about 99 = .ok (.iload_n 2, 1) := by decide +kernel
theorem dX1_about_100 : decode cX1_about 100 = .ok (.iconst 2, 1) := by decide +kernel
theorem dX1_about_101 : decode cX1_about 101 = .ok (.iadd, 1) := by decide +kernel
theorem dX1_about_102 : decode cX1_about 102 = .ok (.iload 5, 2) := by decide +kernel
theorem dX1_about_104 : decode cX1_about 104 = .ok (.invokevirtual 93, 3) := by decide +kernel
theorem dX1_about_107 : decode cX1_about 107 = .ok (.iload 5, 2) := by decide +kernel
theorem dX1_about_109 : decode cX1_about 109 = .ok (.ireturn, 1) := by decide +kernel
set_option maxRecDepth 20000 in
theorem ggX1_insert_X1_requireWord : GoodIn wsX1_insert wsX1_requireWord := goodIn_ca (goodIn_r _ [4, 5, 6] (by decide +kernel) (by decide +kernel)) (goodIn_sub (fun _ h => List.mem_cons_of_mem _ (List.mem_append_left _ (List.mem_append_left _ (List.mem_append_right _ h)))) (by decide +kernel))
set_option maxRecDepth 20000 in
theorem gX1_insert_X1_requireWord : GoodIn wsX1_insert (va_wsS RX1 39 yX1_requireWord wsX1_requireWord) := goodIn_app (goodIn_of _ (by decide +kernel)) ggX1_insert_X1_requireWord
set_option maxRecDepth 20000 in
theorem ggX1_insert_X1_rowOf : GoodIn wsX1_insert wsX1_rowOf := goodIn_r _ [10, 11, 12, 51, 52, 53, 54, 55] (by decide +kernel) (by decide +kernel)
set_option maxRecDepth 20000 in
theorem gX1_insert_X1_rowOf : GoodIn wsX1_insert (wsV RX1 46 RX1 yX1_rowOf wsX1_rowOf) := goodIn_app (goodIn_of _ (by decide +kernel)) ggX1_insert_X1_rowOf
set_option maxRecDepth 20000 in
theorem ggX1_insert_X0_size : GoodIn wsX1_insert wsX0_size := goodIn_r _ [17, 18, 56, 57] (by decide +kernel) (by decide +kernel)
set_option maxRecDepth 20000 in
theorem gX1_insert_X0_size : GoodIn wsX1_insert (wsV RX1 57 RX0 yX0_size wsX0_size) := goodIn_app (goodIn_of _ (by decide +kernel)) ggX1_insert_X0_size
set_option maxRecDepth 20000 in
theorem ggX1_insert_X1_requirePlace : GoodIn wsX1_insert wsX1_requirePlace := goodIn_ca (goodIn_r _ [21, 5, 6] (by decide +kernel) (by decide +kernel)) (goodIn_sub (fun _ h => List.mem_cons_of_mem _ (List.mem_append_left _ (List.mem_append_left _ (List.mem_append_right _ h)))) (by decide +kernel))
set_option maxRecDepth 20000 in
theorem gX1_insert_X1_requirePlace : GoodIn wsX1_insert (va_wsS RX1 83 yX1_requirePlace wsX1_requirePlace) := goodIn_app (goodIn_of _ (by decide +kernel)) ggX1_insert_X1_requirePlace
set_option maxRecDepth 20000 in
theorem ggX1_insert_X1_requireLetter : GoodIn wsX1_insert wsX1_requireLetter := goodIn_ca (goodIn_r _ [25, 26, 27, 28, 51, 52, 53, 54, 55] (by decide +kernel) (by decide +kernel)) (goodIn_sub (fun _ h => List.mem_cons_of_mem _ (List.mem_append_left _ (List.mem_append_right _ h))) (by decide +kernel))
set_option maxRecDepth 20000 in
theorem gX1_insert_X1_requireLetter : GoodIn wsX1_insert (wsV RX1 43 RX1 yX1_requireLetter wsX1_requireLetter) := goodIn_app (goodIn_of _ (by decide +kernel)) ggX1_insert_X1_requireLetter
set_option maxRecDepth 20000 in
theorem ggX1_insert_X1_requireRoom : GoodIn wsX1_insert wsX1_requireRoom := goodIn_ca (goodIn_r _ [31, 32, 33, 13, 14, 15, 16, 17, 18, 56, 57] (by decide +kernel) (by decide +kernel)) (goodIn_sub (fun _ h => List.mem_cons_of_mem _ (List.mem_append_right _ h)) (by decide +kernel))
set_option maxRecDepth 20000 in
theorem gX1_insert_X1_requireRoom : GoodIn wsX1_insert (va_wsS RX1 50 yX1_requireRoom wsX1_requireRoom) := goodIn_app (goodIn_of _ (by decide +kernel)) ggX1_insert_X1_requireRoom
set_option maxRecDepth 20000 in
theorem ggX1_insert_X0_putIn : GoodIn wsX1_insert wsX0_putIn := goodIn_r _ [37, 18, 38, 39, 40, 16, 41, 42, 43, 44, 45, 46, 47, 48, 49, 50, 56, 57] (by decide +kernel) (by decide +kernel)
set_option maxRecDepth 20000 in
theorem gX1_insert_X0_putIn : GoodIn wsX1_insert (wsV RX1 101 RX0 yX0_putIn wsX0_putIn) := goodIn_app (goodIn_of _ (by decide +kernel)) ggX1_insert_X0_putIn
theorem dX1_insert_0 : decode cX1_insert 0 = .ok (.iload_n 1, 1) := by decide +kernel
theorem dX1_insert_1 : decode cX1_insert 1 = .ok (.invokestatic 39, 3) := by decide +kernel
theorem dX1_insert_4 : decode cX1_insert 4 = .ok (.aload_n 0, 1) := by decide +kernel
theorem dX1_insert_5 : decode cX1_insert 5 = .ok (.iload_n 1, 1) := by decide +kernel
theorem dX1_insert_6 : decode cX1_insert 6 = .ok (.invokevirtual 46, 3) := by decide +kernel
theorem dX1_insert_9 : decode cX1_insert 9 = .ok (.astore 4, 2) := by decide +kernel
theorem dX1_insert_11 : decode cX1_insert 11 = .ok (.iload_n 2, 1) := by decide +kernel
theorem dX1_insert_12 : decode cX1_insert 12 = .ok (.aload 4, 2) := by decide +kernel
theorem dX1_insert_14 : decode cX1_insert 14 = .ok (.invokevirtual 57, 3) := by decide +kernel
theorem dX1_insert_17 : decode cX1_insert 17 = .ok (.iconst 1, 1) := by decide +kernel
theorem dX1_insert_18 : decode cX1_insert 18 = .ok (.iadd, 1) := by decide +kernel
theorem dX1_insert_19 : decode cX1_insert 19 = .ok (.invokestatic 83, 3) := by decide +kernel
theorem dX1_insert_22 : decode cX1_insert 22 = .ok (.aload_n 0, 1) := by decide +kernel
theorem dX1_insert_23 : decode cX1_insert 23 = .ok (.iload_n 3, 1) := by decide +kernel
theorem dX1_insert_24 : decode cX1_insert 24 = .ok (.invokevirtual 43, 3) := by decide +kernel
theorem dX1_insert_27 : decode cX1_insert 27 = .ok (.aload 4, 2) := by decide +kernel
theorem dX1_insert_29 : decode cX1_insert 29 = .ok (.iconst 2, 1) := by decide +kernel
theorem dX1_insert_30 : decode cX1_insert 30 = .ok (.invokestatic 50, 3) := by decide +kernel
theorem dX1_insert_33 : decode cX1_insert 33 = .ok (.aload 4, 2) := by decide +kernel
theorem dX1_insert_35 : decode cX1_insert 35 = .ok (.iload_n 2, 1) := by decide +kernel
theorem dX1_insert_36 : decode cX1_insert 36 = .ok (.iload_n 3, 1) := by decide +kernel
theorem dX1_insert_37 : decode cX1_insert 37 = .ok (.ineg, 1) := by decide +kernel
theorem dX1_insert_38 : decode cX1_insert 38 = .ok (.invokevirtual 101, 3) := by decide +kernel
theorem dX1_insert_41 : decode cX1_insert 41 = .ok (.aload 4, 2) := by decide +kernel
theorem dX1_insert_43 : decode cX1_insert 43 = .ok (.iload_n 2, 1) := by decide +kernel
theorem dX1_insert_44 : decode cX1_insert 44 = .ok (.iload_n 3, 1) := by decide +kernel
theorem dX1_insert_45 : decode cX1_insert 45 = .ok (.invokevirtual 101, 3) := by decide +kernel
theorem dX1_insert_48 : decode cX1_insert 48 = .ok (.aload 4, 2) := by decide +kernel
theorem dX1_insert_50 : decode cX1_insert 50 = .ok (.invokevirtual 57, 3) := by decide +kernel
theorem dX1_insert_53 : decode cX1_insert 53 = .ok (.ireturn, 1) := by decide +kernel
set_option maxRecDepth 20000 in
theorem ggX1_cut_X1_requireWord : GoodIn wsX1_cut wsX1_requireWord := goodIn_ca (goodIn_r _ [6, 7, 8] (by decide +kernel) (by decide +kernel)) (goodIn_sub (fun _ h => List.mem_cons_of_mem _ (List.mem_append_right _ h)) (by decide +kernel))
set_option maxRecDepth 20000 in
theorem gX1_cut_X1_requireWord : GoodIn wsX1_cut (va_wsS RX1 39 yX1_requireWord wsX1_requireWord) := goodIn_app (goodIn_of _ (by decide +kernel)) ggX1_cut_X1_requireWord
set_option maxRecDepth 20000 in
theorem ggX1_cut_X1_rowOf : GoodIn wsX1_cut wsX1_rowOf := goodIn_r _ [12, 13, 14, 64, 65, 66, 67, 68] (by decide +kernel) (by decide +kernel)
set_option maxRecDepth 20000 in
theorem gX1_cut_X1_rowOf : GoodIn wsX1_cut (wsV RX1 46 RX1 yX1_rowOf wsX1_rowOf) := goodIn_app (goodIn_of _ (by decide +kernel)) ggX1_cut_X1_rowOf
set_option maxRecDepth 20000 in
theorem ggX1_cut_X1_lastOfFirstHandle : GoodIn wsX1_cut wsX1_lastOfFirstHandle := goodIn_r _ [17, 18, 19, 20, 21, 22, 23, 24, 25, 5, 26, 27, 28, 29, 30, 31, 32, 33, 34, 69, 70] (by decide +kernel) (by decide +kernel)
set_option maxRecDepth 20000 in
theorem gX1_cut_X1_lastOfFirstHandle : GoodIn wsX1_cut (va_wsS RX1 104 yX1_lastOfFirstHandle wsX1_lastOfFirstHandle) := goodIn_app (goodIn_of _ (by decide +kernel)) ggX1_cut_X1_lastOfFirstHandle
set_option maxRecDepth 20000 in
theorem ggX1_cut_X1_firstOfHandle : GoodIn wsX1_cut wsX1_firstOfHandle := goodIn_r _ [26, 27, 28, 29, 21, 30, 23, 31, 32, 33, 5, 34, 69, 70] (by decide +kernel) (by decide +kernel)
set_option maxRecDepth 20000 in
theorem gX1_cut_X1_firstOfHandle : GoodIn wsX1_cut (va_wsS RX1 110 yX1_firstOfHandle wsX1_firstOfHandle) := goodIn_app (goodIn_of _ (by decide +kernel)) ggX1_cut_X1_firstOfHandle
set_option maxRecDepth 20000 in
theorem ggX1_cut_X1_moreByCutting : GoodIn wsX1_cut wsX1_moreByCutting := goodIn_r _ [37, 27, 28, 29, 21, 30, 23, 31, 32, 33, 5, 34, 69, 70] (by decide +kernel) (by decide +kernel)
set_option maxRecDepth 20000 in
theorem gX1_cut_X1_moreByCutting : GoodIn wsX1_cut (va_wsS RX1 113 yX1_moreByCutting wsX1_moreByCutting) := goodIn_app (goodIn_of _ (by decide +kernel)) ggX1_cut_X1_moreByCutting
set_option maxRecDepth 20000 in
theorem ggX1_cut_X1_requireRoom : GoodIn wsX1_cut wsX1_requireRoom := goodIn_ca (goodIn_r _ [40, 1, 2, 18, 19, 20, 21, 22, 23, 69, 70] (by decide +kernel) (by decide +kernel)) (goodIn_sub (fun _ h => List.mem_cons_of_mem _ (List.mem_append_left _ (List.mem_append_right _ h))) (by decide +kernel))
set_option maxRecDepth 20000 in
theorem gX1_cut_X1_requireRoom : GoodIn wsX1_cut (va_wsS RX1 50 yX1_requireRoom wsX1_requireRoom) := goodIn_app (goodIn_of _ (by decide +kernel)) ggX1_cut_X1_requireRoom
set_option maxRecDepth 20000 in
theorem ggX1_cut_X1_cutHandle : GoodIn wsX1_cut wsX1_cutHandle := goodIn_r _ [44, 45, 27, 28, 29, 21, 30, 23, 31, 32, 33, 5, 34, 46, 47, 48, 49, 18, 19, 20, 22, 50, 51, 52, 53, 54, 55, 56, 57, 58, 59, 60, 61, 62, 63, 64, 65, 66, 67, 68, 69, 70] (by decide +kernel) (by decide +kernel)
set_option maxRecDepth 20000 in
theorem gX1_cut_X1_cutHandle : GoodIn wsX1_cut (wsV RX1 117 RX1 yX1_cutHandle wsX1_cutHandle) := goodIn_app (goodIn_of _ (by decide +kernel)) ggX1_cut_X1_cutHandle
set_option maxRecDepth 20000 in
theorem ggX1_cut_X0_size : GoodIn wsX1_cut wsX0_size := goodIn_r _ [22, 23, 69, 70] (by decide +kernel) (by decide +kernel)
set_option maxRecDepth 20000 in
theorem gX1_cut_X0_size : GoodIn wsX1_cut (wsV RX1 57 RX0 yX0_size wsX0_size) := goodIn_app (goodIn_of _ (by decide +kernel)) ggX1_cut_X0_size
theorem dX1_cut_0 : decode cX1_cut 0 = .ok (.iload_n 1, 1) := by decide +kernel
theorem dX1_cut_1 : decode cX1_cut 1 = .ok (.invokestatic 39, 3) := by decide +kernel
theorem dX1_cut_4 : decode cX1_cut 4 = .ok (.aload_n 0, 1) := by decide +kernel
theorem dX1_cut_5 : decode cX1_cut 5 = .ok (.iload_n 1, 1) := by decide +kernel
theorem dX1_cut_6 : decode cX1_cut 6 = .ok (.invokevirtual 46, 3) := by decide +kernel
theorem dX1_cut_9 : decode cX1_cut 9 = .ok (.astore_n 2, 1) := by decide +kernel
theorem dX1_cut_10 : decode cX1_cut 10 = .ok (.aload_n 2, 1) := by decide +kernel
theorem dX1_cut_11 : decode cX1_cut 11 = .ok (.iconst 0, 1) := by decide +kernel
theorem dX1_cut_12 : decode cX1_cut 12 = .ok (.invokestatic 104, 3) := by decide +kernel
theorem dX1_cut_15 : decode cX1_cut 15 = .ok (.istore_n 3, 1) := by decide +kernel
theorem dX1_cut_16 : decode cX1_cut 16 = .ok (.iload_n 3, 1) := by decide +kernel
theorem dX1_cut_17 : decode cX1_cut 17 = .ok (.iconst (-1), 1) := by decide +kernel
theorem dX1_cut_18 : decode cX1_cut 18 = .ok (.if_icmp .ne 13, 3) := by decide +kernel
theorem dX1_cut_21 : decode cX1_cut 21 = .ok (.new 61, 3) := by decide +kernel
theorem dX1_cut_24 : decode cX1_cut 24 = .ok (.dup, 1) := by decide +kernel
theorem dX1_cut_25 : decode cX1_cut 25 = .ok (.ldc 108, 2) := by decide +kernel
theorem dX1_cut_27 : decode cX1_cut 27 = .ok (.invokespecial 65, 3) := by decide +kernel
theorem dX1_cut_30 : decode cX1_cut 30 = .ok (.athrow, 1) := by decide +kernel
theorem dX1_cut_31 : decode cX1_cut 31 = .ok (.aload_n 2, 1) := by decide +kernel
theorem dX1_cut_32 : decode cX1_cut 32 = .ok (.iload_n 3, 1) := by decide +kernel
theorem dX1_cut_33 : decode cX1_cut 33 = .ok (.invokestatic 110, 3) := by decide +kernel
theorem dX1_cut_36 : decode cX1_cut 36 = .ok (.istore 4, 2) := by decide +kernel
theorem dX1_cut_38 : decode cX1_cut 38 = .ok (.aload_n 2, 1) := by decide +kernel
theorem dX1_cut_39 : decode cX1_cut 39 = .ok (.aload_n 2, 1) := by decide +kernel
theorem dX1_cut_40 : decode cX1_cut 40 = .ok (.iload 4, 2) := by decide +kernel
theorem dX1_cut_42 : decode cX1_cut 42 = .ok (.iload_n 3, 1) := by decide +kernel
theorem dX1_cut_43 : decode cX1_cut 43 = .ok (.invokestatic 113, 3) := by decide +kernel
theorem dX1_cut_46 : decode cX1_cut 46 = .ok (.invokestatic 50, 3) := by decide +kernel
theorem dX1_cut_49 : decode cX1_cut 49 = .ok (.aload_n 0, 1) := by decide +kernel
theorem dX1_cut_50 : decode cX1_cut 50 = .ok (.aload_n 2, 1) := by decide +kernel
theorem dX1_cut_51 : decode cX1_cut 51 = .ok (.iload 4, 2) := by decide +kernel
theorem dX1_cut_53 : decode cX1_cut 53 = .ok (.iload_n 3, 1) := by decide +kernel
theorem dX1_cut_54 : decode cX1_cut 54 = .ok (.invokevirtual 117, 3) := by decide +kernel
theorem dX1_cut_57 : decode cX1_cut 57 = .ok (.aload_n 2, 1) := by decide +kernel
theorem dX1_cut_58 : decode cX1_cut 58 = .ok (.invokevirtual 57, 3) := by decide +kernel
theorem dX1_cut_61 : decode cX1_cut 61 = .ok (.ireturn, 1) := by decide +kernel
set_option maxRecDepth 20000 in
theorem ggX1_letter_X1_requireWord : GoodIn wsX1_letter wsX1_requireWord := goodIn_ca (goodIn_r _ [4, 5, 6] (by decide +kernel) (by decide +kernel)) (goodIn_sub (fun _ h => List.mem_cons_of_mem _ (List.mem_append_right _ h)) (by decide +kernel))
set_option maxRecDepth 20000 in
theorem gX1_letter_X1_requireWord : GoodIn wsX1_letter (va_wsS RX1 39 yX1_requireWord wsX1_requireWord) := goodIn_app (goodIn_of _ (by decide +kernel)) ggX1_letter_X1_requireWord
set_option maxRecDepth 20000 in
theorem ggX1_letter_X1_rowOf : GoodIn wsX1_letter wsX1_rowOf := goodIn_r _ [10, 11, 12, 27, 28, 29, 30, 31] (by decide +kernel) (by decide +kernel)
set_option maxRecDepth 20000 in
theorem gX1_letter_X1_rowOf : GoodIn wsX1_letter (wsV RX1 46 RX1 yX1_rowOf wsX1_rowOf) := goodIn_app (goodIn_of _ (by decide +kernel)) ggX1_letter_X1_rowOf
set_option maxRecDepth 20000 in
theorem ggX1_letter_X0_size : GoodIn wsX1_letter wsX0_size := goodIn_r _ [17, 18, 32, 33] (by decide +kernel) (by decide +kernel)
set_option maxRecDepth 20000 in
theorem gX1_letter_X0_size : GoodIn wsX1_letter (wsV RX1 57 RX0 yX0_size wsX0_size) := goodIn_app (goodIn_of _ (by decide +kernel)) ggX1_letter_X0_size
set_option maxRecDepth 20000 in
theorem ggX1_letter_X1_requirePlace : GoodIn wsX1_letter wsX1_requirePlace := goodIn_ca (goodIn_r _ [21, 5, 6] (by decide +kernel) (by decide +kernel)) (goodIn_sub (fun _ h => List.mem_cons_of_mem _ (List.mem_append_right _ h)) (by decide +kernel))
set_option maxRecDepth 20000 in
theorem gX1_letter_X1_requirePlace : GoodIn wsX1_letter (va_wsS RX1 83 yX1_requirePlace wsX1_requirePlace) := goodIn_app (goodIn_of _ (by decide +kernel)) ggX1_letter_X1_requirePlace
set_option maxRecDepth 20000 in
theorem ggX1_letter_X0_at : GoodIn wsX1_letter wsX0_at := goodIn_r _ [25, 18, 26, 32, 33] (by decide +kernel) (by decide +kernel)
set_option maxRecDepth 20000 in
theorem gX1_letter_X0_at : GoodIn wsX1_letter (wsV RX1 66 RX0 yX0_at wsX0_at) := goodIn_app (goodIn_of _ (by decide +kernel)) ggX1_letter_X0_at
theorem dX1_letter_0 : decode cX1_letter 0 = .ok (.iload_n 1, 1) := by decide +kernel
theorem dX1_letter_1 : decode cX1_letter 1 = .ok (.invokestatic 39, 3) := by decide +kernel
theorem dX1_letter_4 : decode cX1_letter 4 = .ok (.aload_n 0, 1) := by decide +kernel
theorem dX1_letter_5 : decode cX1_letter 5 = .ok (.iload_n 1, 1) := by decide +kernel
theorem dX1_letter_6 : decode cX1_letter 6 = .ok (.invokevirtual 46, 3) := by decide +kernel
theorem dX1_letter_9 : decode cX1_letter 9 = .ok (.astore_n 3, 1) := by decide +kernel
theorem dX1_letter_10 : decode cX1_letter 10 = .ok (.iload_n 2, 1) := by decide +kernel
theorem dX1_letter_11 : decode cX1_letter 11 = .ok (.aload_n 3, 1) := by decide +kernel
theorem dX1_letter_12 : decode cX1_letter 12 = .ok (.invokevirtual 57, 3) := by decide +kernel
theorem dX1_letter_15 : decode cX1_letter 15 = .ok (.invokestatic 83, 3) := by decide +kernel
theorem dX1_letter_18 : decode cX1_letter 18 = .ok (.aload_n 3, 1) := by decide +kernel
theorem dX1_letter_19 : decode cX1_letter 19 = .ok (.iload_n 2, 1) := by decide +kernel
theorem dX1_letter_20 : decode cX1_letter 20 = .ok (.invokevirtual 66, 3) := by decide +kernel
theorem dX1_letter_23 : decode cX1_letter 23 = .ok (.ireturn, 1) := by decide +kernel
set_option maxRecDepth 20000 in
theorem ggX1_count_X1_requireAnswer : GoodIn wsX1_count wsX1_requireAnswer := goodIn_ca (goodIn_r _ [4, 5, 6] (by decide +kernel) (by decide +kernel)) (goodIn_sub (fun _ h => List.mem_cons_of_mem _ (List.mem_append_right _ h)) (by decide +kernel))
set_option maxRecDepth 20000 in
theorem gX1_count_X1_requireAnswer : GoodIn wsX1_count (va_wsS RX1 121 yX1_requireAnswer wsX1_requireAnswer) := goodIn_app (goodIn_of _ (by decide +kernel)) ggX1_count_X1_requireAnswer
set_option maxRecDepth 20000 in
theorem ggX1_count_X1_countAnswer : GoodIn wsX1_count wsX1_countAnswer := goodIn_r _ [10, 11, 12, 13, 14, 15, 16, 17, 18, 19, 20, 21, 3, 22, 23, 24, 25, 26, 27, 28, 29, 30, 31, 32, 33, 34, 35, 36, 37] (by decide +kernel) (by decide +kernel)
set_option maxRecDepth 20000 in
theorem gX1_count_X1_countAnswer : GoodIn wsX1_count (wsV RX1 124 RX1 yX1_countAnswer wsX1_countAnswer) := goodIn_app (goodIn_of _ (by decide +kernel)) ggX1_count_X1_countAnswer
theorem dX1_count_0 : decode cX1_count 0 = .ok (.iload_n 1, 1) := by decide +kernel
theorem dX1_count_1 : decode cX1_count 1 = .ok (.iconst 5, 1) := by decide +kernel
theorem dX1_count_2 : decode cX1_count 2 = .ok (.invokestatic 121, 3) := by decide +kernel
theorem dX1_count_5 : decode cX1_count 5 = .ok (.aload_n 0, 1) := by decide +kernel
theorem dX1_count_6 : decode cX1_count 6 = .ok (.iload_n 1, 1) := by decide +kernel
theorem dX1_count_7 : decode cX1_count 7 = .ok (.invokevirtual 124, 3) := by decide +kernel
theorem dX1_count_10 : decode cX1_count 10 = .ok (.ireturn, 1) := by decide +kernel
set_option maxRecDepth 20000 in
theorem ggX1_end_X1_requireWord : GoodIn wsX1_end wsX1_requireWord := goodIn_ca (goodIn_r _ [4, 5, 6] (by decide +kernel) (by decide +kernel)) (goodIn_sub (fun _ h => List.mem_cons_of_mem _ (List.mem_append_right _ h)) (by decide +kernel))
set_option maxRecDepth 20000 in
theorem gX1_end_X1_requireWord : GoodIn wsX1_end (va_wsS RX1 39 yX1_requireWord wsX1_requireWord) := goodIn_app (goodIn_of _ (by decide +kernel)) ggX1_end_X1_requireWord
set_option maxRecDepth 20000 in
theorem ggX1_end_X1_requireRope : GoodIn wsX1_end wsX1_requireRope := goodIn_ca (goodIn_r _ [10, 5, 6, 11, 38, 39, 40, 41, 42] (by decide +kernel) (by decide +kernel)) (goodIn_sub (fun _ h => List.mem_cons_of_mem _ (List.mem_append_right _ h)) (by decide +kernel))
set_option maxRecDepth 20000 in
theorem gX1_end_X1_requireRope : GoodIn wsX1_end (wsV RX1 127 RX1 yX1_requireRope wsX1_requireRope) := goodIn_app (goodIn_of _ (by decide +kernel)) ggX1_end_X1_requireRope
set_option maxRecDepth 20000 in
theorem ggX1_end_X1_rowOf : GoodIn wsX1_end wsX1_rowOf := goodIn_r _ [15, 16, 17, 38, 39, 40, 41, 42] (by decide +kernel) (by decide +kernel)
set_option maxRecDepth 20000 in
theorem gX1_end_X1_rowOf : GoodIn wsX1_end (wsV RX1 46 RX1 yX1_rowOf wsX1_rowOf) := goodIn_app (goodIn_of _ (by decide +kernel)) ggX1_end_X1_rowOf
set_option maxRecDepth 20000 in
theorem ggX1_end_X1_placeAtEnd : GoodIn wsX1_end wsX1_placeAtEnd := goodIn_r _ [20, 21, 22, 23, 24, 25, 26, 27, 28, 29, 30, 31, 32, 33, 3, 34, 35, 36, 37, 43, 44] (by decide +kernel) (by decide +kernel)
set_option maxRecDepth 20000 in
theorem gX1_end_X1_placeAtEnd : GoodIn wsX1_end (va_wsS RX1 130 yX1_placeAtEnd wsX1_placeAtEnd) := goodIn_app (goodIn_of _ (by decide +kernel)) ggX1_end_X1_placeAtEnd
theorem dX1_end_0 : decode cX1_end 0 = .ok (.iload_n 1, 1) := by decide +kernel
theorem dX1_end_1 : decode cX1_end 1 = .ok (.invokestatic 39, 3) := by decide +kernel
theorem dX1_end_4 : decode cX1_end 4 = .ok (.aload_n 0, 1) := by decide +kernel
theorem dX1_end_5 : decode cX1_end 5 = .ok (.iload_n 2, 1) := by decide +kernel
theorem dX1_end_6 : decode cX1_end 6 = .ok (.invokevirtual 127, 3) := by decide +kernel
theorem dX1_end_9 : decode cX1_end 9 = .ok (.aload_n 0, 1) := by decide +kernel
theorem dX1_end_10 : decode cX1_end 10 = .ok (.iload_n 1, 1) := by decide +kernel
theorem dX1_end_11 : decode cX1_end 11 = .ok (.invokevirtual 46, 3) := by decide +kernel
theorem dX1_end_14 : decode cX1_end 14 = .ok (.iload_n 2, 1) := by decide +kernel
theorem dX1_end_15 : decode cX1_end 15 = .ok (.invokestatic 130, 3) := by decide +kernel
theorem dX1_end_18 : decode cX1_end 18 = .ok (.ireturn, 1) := by decide +kernel
set_option maxRecDepth 20000 in
theorem ggX1_crosses_X1_requireWord : GoodIn wsX1_crosses wsX1_requireWord := goodIn_ca (goodIn_r _ [6, 7, 8] (by decide +kernel) (by decide +kernel)) (goodIn_sub (fun _ h => List.mem_cons_of_mem _ (List.mem_append_right _ h)) (by decide +kernel))
set_option maxRecDepth 20000 in
theorem gX1_crosses_X1_requireWord : GoodIn wsX1_crosses (va_wsS RX1 39 yX1_requireWord wsX1_requireWord) := goodIn_app (goodIn_of _ (by decide +kernel)) ggX1_crosses_X1_requireWord
set_option maxRecDepth 20000 in
theorem ggX1_crosses_X1_requireRope : GoodIn wsX1_crosses wsX1_requireRope := goodIn_ca (goodIn_r _ [12, 7, 8, 13, 43, 44, 45, 46, 47] (by decide +kernel) (by decide +kernel)) (goodIn_sub (fun _ h => List.mem_cons_of_mem _ (List.mem_append_right _ h)) (by decide +kernel))
set_option maxRecDepth 20000 in
theorem gX1_crosses_X1_requireRope : GoodIn wsX1_crosses (wsV RX1 127 RX1 yX1_requireRope wsX1_requireRope) := goodIn_app (goodIn_of _ (by decide +kernel)) ggX1_crosses_X1_requireRope
set_option maxRecDepth 20000 in
theorem ggX1_crosses_X1_rowOf : GoodIn wsX1_crosses wsX1_rowOf := goodIn_r _ [17, 18, 19, 43, 44, 45, 46, 47] (by decide +kernel) (by decide +kernel)
set_option maxRecDepth 20000 in
theorem gX1_crosses_X1_rowOf : GoodIn wsX1_crosses (wsV RX1 46 RX1 yX1_rowOf wsX1_rowOf) := goodIn_app (goodIn_of _ (by decide +kernel)) ggX1_crosses_X1_rowOf
set_option maxRecDepth 20000 in
theorem ggX1_crosses_X1_signsOfCrossings : GoodIn wsX1_crosses wsX1_signsOfCrossings := goodIn_r _ [22, 23, 24, 25, 26, 27, 28, 29, 30, 31, 32, 33, 34, 35, 5, 36, 37, 38, 39, 40, 41, 42, 48, 49] (by decide +kernel) (by decide +kernel)
set_option maxRecDepth 20000 in
theorem gX1_crosses_X1_signsOfCrossings : GoodIn wsX1_crosses (va_wsS RX1 135 yX1_signsOfCrossings wsX1_signsOfCrossings) := goodIn_app (goodIn_of _ (by decide +kernel)) ggX1_crosses_X1_signsOfCrossings
theorem dX1_crosses_0 : decode cX1_crosses 0 = .ok (.iload_n 1, 1) := by decide +kernel
theorem dX1_crosses_1 : decode cX1_crosses 1 = .ok (.invokestatic 39, 3) := by decide +kernel
theorem dX1_crosses_4 : decode cX1_crosses 4 = .ok (.aload_n 0, 1) := by decide +kernel
theorem dX1_crosses_5 : decode cX1_crosses 5 = .ok (.iload_n 2, 1) := by decide +kernel
theorem dX1_crosses_6 : decode cX1_crosses 6 = .ok (.invokevirtual 127, 3) := by decide +kernel
theorem dX1_crosses_9 : decode cX1_crosses 9 = .ok (.aload_n 0, 1) := by decide +kernel
theorem dX1_crosses_10 : decode cX1_crosses 10 = .ok (.iload_n 3, 1) := by decide +kernel
theorem dX1_crosses_11 : decode cX1_crosses 11 = .ok (.invokevirtual 127, 3) := by decide +kernel
theorem dX1_crosses_14 : decode cX1_crosses 14 = .ok (.iload_n 2, 1) := by decide +kernel
theorem dX1_crosses_15 : decode cX1_crosses 15 = .ok (.iload_n 3, 1) := by decide +kernel
theorem dX1_crosses_16 : decode cX1_crosses 16 = .ok (.if_icmp .ne 13, 3) := by decide +kernel
theorem dX1_crosses_19 : decode cX1_crosses 19 = .ok (.new 29, 3) := by decide +kernel
theorem dX1_crosses_22 : decode cX1_crosses 22 = .ok (.dup, 1) := by decide +kernel
theorem dX1_crosses_23 : decode cX1_crosses 23 = .ok (.ldc 133, 2) := by decide +kernel
theorem dX1_crosses_25 : decode cX1_crosses 25 = .ok (.invokespecial 33, 3) := by decide +kernel
theorem dX1_crosses_28 : decode cX1_crosses 28 = .ok (.athrow, 1) := by decide +kernel
theorem dX1_crosses_29 : decode cX1_crosses 29 = .ok (.aload_n 0, 1) := by decide +kernel
theorem dX1_crosses_30 : decode cX1_crosses 30 = .ok (.iload_n 1, 1) := by decide +kernel
theorem dX1_crosses_31 : decode cX1_crosses 31 = .ok (.invokevirtual 46, 3) := by decide +kernel
theorem dX1_crosses_34 : decode cX1_crosses 34 = .ok (.iload_n 2, 1) := by decide +kernel
theorem dX1_crosses_35 : decode cX1_crosses 35 = .ok (.iload_n 3, 1) := by decide +kernel
theorem dX1_crosses_36 : decode cX1_crosses 36 = .ok (.invokestatic 135, 3) := by decide +kernel
theorem dX1_crosses_39 : decode cX1_crosses 39 = .ok (.ireturn, 1) := by decide +kernel
set_option maxRecDepth 20000 in
theorem ggX1_handle_X1_requireWord : GoodIn wsX1_handle wsX1_requireWord := goodIn_ca (goodIn_r _ [4, 5, 6] (by decide +kernel) (by decide +kernel)) (goodIn_sub (fun _ h => List.mem_cons_of_mem _ (List.mem_append_right _ h)) (by decide +kernel))
set_option maxRecDepth 20000 in
theorem gX1_handle_X1_requireWord : GoodIn wsX1_handle (va_wsS RX1 39 yX1_requireWord wsX1_requireWord) := goodIn_app (goodIn_of _ (by decide +kernel)) ggX1_handle_X1_requireWord
set_option maxRecDepth 20000 in
theorem ggX1_handle_X1_requireAnswer : GoodIn wsX1_handle wsX1_requireAnswer := goodIn_ca (goodIn_r _ [9, 5, 6] (by decide +kernel) (by decide +kernel)) (goodIn_sub (fun _ h => List.mem_cons_of_mem _ (List.mem_append_right _ h)) (by decide +kernel))
set_option maxRecDepth 20000 in
theorem gX1_handle_X1_requireAnswer : GoodIn wsX1_handle (va_wsS RX1 121 yX1_requireAnswer wsX1_requireAnswer) := goodIn_app (goodIn_of _ (by decide +kernel)) ggX1_handle_X1_requireAnswer
set_option maxRecDepth 20000 in
theorem ggX1_handle_X1_rowOf : GoodIn wsX1_handle wsX1_rowOf := goodIn_r _ [13, 14, 15, 42, 43, 44, 45, 46] (by decide +kernel) (by decide +kernel)
set_option maxRecDepth 20000 in
theorem gX1_handle_X1_rowOf : GoodIn wsX1_handle (wsV RX1 46 RX1 yX1_rowOf wsX1_rowOf) := goodIn_app (goodIn_of _ (by decide +kernel)) ggX1_handle_X1_rowOf
set_option maxRecDepth 20000 in
theorem ggX1_handle_X1_handleAnswer : GoodIn wsX1_handle wsX1_handleAnswer := goodIn_r _ [18, 19, 20, 3, 21, 22, 23, 24, 25, 26, 27, 28, 29, 30, 31, 32, 33, 34, 35, 36, 37, 38, 39, 40, 41, 47, 48] (by decide +kernel) (by decide +kernel)
set_option maxRecDepth 20000 in
theorem gX1_handle_X1_handleAnswer : GoodIn wsX1_handle (va_wsS RX1 138 yX1_handleAnswer wsX1_handleAnswer) := goodIn_app (goodIn_of _ (by decide +kernel)) ggX1_handle_X1_handleAnswer
theorem dX1_handle_0 : decode cX1_handle 0 = .ok (.iload_n 1, 1) := by decide +kernel
theorem dX1_handle_1 : decode cX1_handle 1 = .ok (.invokestatic 39, 3) := by decide +kernel
theorem dX1_handle_4 : decode cX1_handle 4 = .ok (.iload_n 2, 1) := by decide +kernel
theorem dX1_handle_5 : decode cX1_handle 5 = .ok (.iconst 3, 1) := by decide +kernel
theorem dX1_handle_6 : decode cX1_handle 6 = .ok (.invokestatic 121, 3) := by decide +kernel
theorem dX1_handle_9 : decode cX1_handle 9 = .ok (.aload_n 0, 1) := by decide +kernel
theorem dX1_handle_10 : decode cX1_handle 10 = .ok (.iload_n 1, 1) := by decide +kernel
theorem dX1_handle_11 : decode cX1_handle 11 = .ok (.invokevirtual 46, 3) := by decide +kernel
theorem dX1_handle_14 : decode cX1_handle 14 = .ok (.iload_n 2, 1) := by decide +kernel
theorem dX1_handle_15 : decode cX1_handle 15 = .ok (.invokestatic 138, 3) := by decide +kernel
theorem dX1_handle_18 : decode cX1_handle 18 = .ok (.ireturn, 1) := by decide +kernel
set_option maxRecDepth 20000 in
theorem ggX1_plain_X1_requireWord : GoodIn wsX1_plain wsX1_requireWord := goodIn_ca (goodIn_r _ [5, 6, 7] (by decide +kernel) (by decide +kernel)) (goodIn_sub (fun _ h => List.mem_cons_of_mem _ (List.mem_append_right _ h)) (by decide +kernel))
set_option maxRecDepth 20000 in
theorem gX1_plain_X1_requireWord : GoodIn wsX1_plain (va_wsS RX1 39 yX1_requireWord wsX1_requireWord) := goodIn_app (goodIn_of _ (by decide +kernel)) ggX1_plain_X1_requireWord
set_option maxRecDepth 20000 in
theorem ggX1_plain_X1_requireAnswer : GoodIn wsX1_plain wsX1_requireAnswer := goodIn_ca (goodIn_r _ [10, 6, 7] (by decide +kernel) (by decide +kernel)) (goodIn_sub (fun _ h => List.mem_cons_of_mem _ (List.mem_append_right _ h)) (by decide +kernel))
set_option maxRecDepth 20000 in
theorem gX1_plain_X1_requireAnswer : GoodIn wsX1_plain (va_wsS RX1 121 yX1_requireAnswer wsX1_requireAnswer) := goodIn_app (goodIn_of _ (by decide +kernel)) ggX1_plain_X1_requireAnswer
set_option maxRecDepth 20000 in
theorem ggX1_plain_X1_rowOf : GoodIn wsX1_plain wsX1_rowOf := goodIn_r _ [14, 15, 16, 74, 75, 76, 77, 78] (by decide +kernel) (by decide +kernel)
set_option maxRecDepth 20000 in
theorem gX1_plain_X1_rowOf : GoodIn wsX1_plain (wsV RX1 46 RX1 yX1_rowOf wsX1_rowOf) := goodIn_app (goodIn_of _ (by decide +kernel)) ggX1_plain_X1_rowOf
set_option maxRecDepth 20000 in
theorem ggX1_plain_X0_copy : GoodIn wsX1_plain wsX0_copy := goodIn_r _ [21, 22, 23, 24, 25, 20, 26, 27, 28, 29, 30, 31, 32, 33, 34, 35, 79, 80] (by decide +kernel) (by decide +kernel)
set_option maxRecDepth 20000 in
theorem gX1_plain_X0_copy : GoodIn wsX1_plain (wsV RX1 77 RX0 yX0_copy wsX0_copy) := goodIn_app (goodIn_of _ (by decide +kernel)) ggX1_plain_X0_copy
set_option maxRecDepth 20000 in
theorem ggX1_plain_X1_makeThoughtPlain : GoodIn wsX1_plain wsX1_makeThoughtPlain := goodIn_r _ [39, 1, 40, 41, 4, 42, 43, 24, 25, 20, 26, 22, 44, 45, 46, 47, 28, 29, 30, 31, 48, 49, 50, 51, 52, 53, 54, 55, 56, 57, 58, 59, 60, 61, 62, 63, 64, 65, 66, 33, 34, 35, 17, 18, 19, 21, 23, 27, 32, 74, 75, 76, 77, 78, 79, 80] (by decide +kernel) (by decide +kernel)
set_option maxRecDepth 20000 in
theorem gX1_plain_X1_makeThoughtPlain : GoodIn wsX1_plain (wsV RX1 141 RX1 yX1_makeThoughtPlain wsX1_makeThoughtPlain) := goodIn_app (goodIn_of _ (by decide +kernel)) ggX1_plain_X1_makeThoughtPlain
set_option maxRecDepth 20000 in
theorem ggX1_plain_X1_plainAnswer : GoodIn wsX1_plain wsX1_plainAnswer := goodIn_r _ [70, 1, 43, 24, 25, 20, 26, 22, 71, 72, 4, 73, 47, 28, 29, 30, 31, 48, 49, 50, 63, 64, 65, 74, 75, 76, 77, 78, 79, 80] (by decide +kernel) (by decide +kernel)
set_option maxRecDepth 20000 in
theorem gX1_plain_X1_plainAnswer : GoodIn wsX1_plain (wsV RX1 144 RX1 yX1_plainAnswer wsX1_plainAnswer) := goodIn_app (goodIn_of _ (by decide +kernel)) ggX1_plain_X1_plainAnswer
theorem dX1_plain_0 : decode cX1_plain 0 = .ok (.iload_n 1, 1) := by decide +kernel
theorem dX1_plain_1 : decode cX1_plain 1 = .ok (.invokestatic 39, 3) := by decide +kernel
theorem dX1_plain_4 : decode cX1_plain 4 = .ok (.iload_n 2, 1) := by decide +kernel
theorem dX1_plain_5 : decode cX1_plain 5 = .ok (.iconst 4, 1) := by decide +kernel
theorem dX1_plain_6 : decode cX1_plain 6 = .ok (.invokestatic 121, 3) := by decide +kernel
theorem dX1_plain_9 : decode cX1_plain 9 = .ok (.aload_n 0, 1) := by decide +kernel
theorem dX1_plain_10 : decode cX1_plain 10 = .ok (.getfield 19, 3) := by decide +kernel
theorem dX1_plain_13 : decode cX1_plain 13 = .ok (.aload_n 0, 1) := by decide +kernel
theorem dX1_plain_14 : decode cX1_plain 14 = .ok (.iload_n 1, 1) := by decide +kernel
theorem dX1_plain_15 : decode cX1_plain 15 = .ok (.invokevirtual 46, 3) := by decide +kernel
theorem dX1_plain_18 : decode cX1_plain 18 = .ok (.invokevirtual 77, 3) := by decide +kernel
theorem dX1_plain_21 : decode cX1_plain 21 = .ok (.aload_n 0, 1) := by decide +kernel
theorem dX1_plain_22 : decode cX1_plain 22 = .ok (.aload_n 0, 1) := by decide +kernel
theorem dX1_plain_23 : decode cX1_plain 23 = .ok (.invokevirtual 141, 3) := by decide +kernel
theorem dX1_plain_26 : decode cX1_plain 26 = .ok (.iload_n 2, 1) := by decide +kernel
theorem dX1_plain_27 : decode cX1_plain 27 = .ok (.invokevirtual 144, 3) := by decide +kernel
theorem dX1_plain_30 : decode cX1_plain 30 = .ok (.ireturn, 1) := by decide +kernel
set_option maxRecDepth 20000 in
theorem ggX1_same_X1_thinkOfDifference : GoodIn wsX1_same wsX1_thinkOfDifference := goodIn_r _ [5, 6, 7, 8, 9, 10, 11, 12, 13, 14, 15, 16, 17, 18, 19, 20, 21, 22, 23, 24, 25, 26, 27, 28, 29, 30, 31, 32, 33, 34, 35, 71, 72, 73, 74, 75, 76, 77] (by decide +kernel) (by decide +kernel)
set_option maxRecDepth 20000 in
theorem gX1_same_X1_thinkOfDifference : GoodIn wsX1_same (wsV RX1 147 RX1 yX1_thinkOfDifference wsX1_thinkOfDifference) := goodIn_app (goodIn_of _ (by decide +kernel)) ggX1_same_X1_thinkOfDifference
set_option maxRecDepth 20000 in
theorem ggX1_same_X1_makeThoughtPlain : GoodIn wsX1_same wsX1_makeThoughtPlain := goodIn_r _ [39, 6, 40, 41, 4, 42, 43, 20, 21, 12, 22, 14, 44, 45, 46, 47, 24, 25, 26, 27, 48, 49, 50, 51, 52, 53, 54, 55, 56, 57, 58, 9, 10, 11, 13, 59, 60, 61, 62, 29, 30, 31, 63, 64, 65, 66, 19, 23, 28, 71, 72, 73, 74, 75, 76, 77] (by decide +kernel) (by decide +kernel)
set_option maxRecDepth 20000 in
theorem gX1_same_X1_makeThoughtPlain : GoodIn wsX1_same (wsV RX1 141 RX1 yX1_makeThoughtPlain wsX1_makeThoughtPlain) := goodIn_app (goodIn_of _ (by decide +kernel)) ggX1_same_X1_makeThoughtPlain
set_option maxRecDepth 20000 in
theorem ggX1_same_X1_sameAnswer : GoodIn wsX1_same wsX1_sameAnswer := goodIn_r _ [70, 6, 43, 20, 21, 12, 22, 14, 71, 72, 73, 74, 75, 76, 77] (by decide +kernel) (by decide +kernel)
set_option maxRecDepth 20000 in
theorem gX1_same_X1_sameAnswer : GoodIn wsX1_same (wsV RX1 150 RX1 yX1_sameAnswer wsX1_sameAnswer) := goodIn_app (goodIn_of _ (by decide +kernel)) ggX1_same_X1_sameAnswer
theorem dX1_same_0 : decode cX1_same 0 = .ok (.aload_n 0, 1) := by decide +kernel
theorem dX1_same_1 : decode cX1_same 1 = .ok (.invokevirtual 147, 3) := by decide +kernel
theorem dX1_same_4 : decode cX1_same 4 = .ok (.aload_n 0, 1) := by decide +kernel
theorem dX1_same_5 : decode cX1_same 5 = .ok (.aload_n 0, 1) := by decide +kernel
theorem dX1_same_6 : decode cX1_same 6 = .ok (.invokevirtual 141, 3) := by decide +kernel
theorem dX1_same_9 : decode cX1_same 9 = .ok (.invokevirtual 150, 3) := by decide +kernel
theorem dX1_same_12 : decode cX1_same 12 = .ok (.ireturn, 1) := by decide +kernel
set_option maxRecDepth 20000 in
theorem ggX1_ahead_X1_thinkOfDifference : GoodIn wsX1_ahead wsX1_thinkOfDifference := goodIn_r _ [5, 6, 7, 8, 9, 10, 11, 12, 13, 14, 15, 16, 17, 18, 19, 20, 21, 22, 23, 24, 25, 26, 27, 28, 29, 30, 31, 32, 33, 34, 35, 78, 79, 80, 81, 82, 83, 84] (by decide +kernel) (by decide +kernel)
set_option maxRecDepth 20000 in
theorem gX1_ahead_X1_thinkOfDifference : GoodIn wsX1_ahead (wsV RX1 147 RX1 yX1_thinkOfDifference wsX1_thinkOfDifference) := goodIn_app (goodIn_of _ (by decide +kernel)) ggX1_ahead_X1_thinkOfDifference
set_option maxRecDepth 20000 in
theorem ggX1_ahead_X1_makeThoughtPlain : GoodIn wsX1_ahead wsX1_makeThoughtPlain := goodIn_r _ [39, 6, 40, 41, 4, 42, 43, 20, 21, 12, 22, 14, 44, 45, 46, 47, 24, 25, 26, 27, 48, 49, 50, 51, 52, 53, 54, 55, 56, 57, 58, 9, 10, 11, 13, 59, 60, 61, 62, 29, 30, 31, 63, 64, 65, 66, 19, 23, 28, 78, 79, 80, 81, 82, 83, 84] (by decide +kernel) (by decide +kernel)
set_option maxRecDepth 20000 in
theorem gX1_ahead_X1_makeThoughtPlain : GoodIn wsX1_ahead (wsV RX1 141 RX1 yX1_makeThoughtPlain wsX1_makeThoughtPlain) := goodIn_app (goodIn_of _ (by decide +kernel)) ggX1_ahead_X1_makeThoughtPlain
set_option maxRecDepth 20000 in
theorem ggX1_ahead_X1_signAnswer : GoodIn wsX1_ahead wsX1_signAnswer := goodIn_r _ [70, 71, 72, 73, 4, 74, 6, 43, 20, 21, 12, 22, 14, 75, 76, 77, 47, 24, 25, 26, 27, 48, 49, 50, 59, 60, 61, 78, 79, 80, 81, 82, 83, 84] (by decide +kernel) (by decide +kernel)
set_option maxRecDepth 20000 in
theorem gX1_ahead_X1_signAnswer : GoodIn wsX1_ahead (wsV RX1 153 RX1 yX1_signAnswer wsX1_signAnswer) := goodIn_app (goodIn_of _ (by decide +kernel)) ggX1_ahead_X1_signAnswer
theorem dX1_ahead_0 : decode cX1_ahead 0 = .ok (.aload_n 0, 1) := by decide +kernel
theorem dX1_ahead_1 : decode cX1_ahead 1 = .ok (.invokevirtual 147, 3) := by decide +kernel
theorem dX1_ahead_4 : decode cX1_ahead 4 = .ok (.aload_n 0, 1) := by decide +kernel
theorem dX1_ahead_5 : decode cX1_ahead 5 = .ok (.aload_n 0, 1) := by decide +kernel
theorem dX1_ahead_6 : decode cX1_ahead 6 = .ok (.invokevirtual 141, 3) := by decide +kernel
theorem dX1_ahead_9 : decode cX1_ahead 9 = .ok (.invokevirtual 153, 3) := by decide +kernel
theorem dX1_ahead_12 : decode cX1_ahead 12 = .ok (.ireturn, 1) := by decide +kernel
set_option maxRecDepth 20000 in
theorem ggX1_mean_X0_size : GoodIn wsX1_mean wsX0_size := goodIn_r _ [7, 8, 26, 27] (by decide +kernel) (by decide +kernel)
set_option maxRecDepth 20000 in
theorem gX1_mean_X0_size : GoodIn wsX1_mean (wsV RX1 57 RX0 yX0_size wsX0_size) := goodIn_app (goodIn_of _ (by decide +kernel)) ggX1_mean_X0_size
set_option maxRecDepth 20000 in
theorem ggX1_mean_X1_heightsAdded : GoodIn wsX1_mean wsX1_heightsAdded := goodIn_r _ [12, 3, 4, 5, 6, 7, 8, 13, 14, 15, 16, 17, 18, 19, 11, 20, 26, 27] (by decide +kernel) (by decide +kernel)
set_option maxRecDepth 20000 in
theorem gX1_mean_X1_heightsAdded : GoodIn wsX1_mean (va_wsS RX1 161 yX1_heightsAdded wsX1_heightsAdded) := goodIn_app (goodIn_of _ (by decide +kernel)) ggX1_mean_X1_heightsAdded
theorem dX1_mean_0 : decode cX1_mean 0 = .ok (.aload_n 0, 1) := by decide +kernel
theorem dX1_mean_1 : decode cX1_mean 1 = .ok (.getfield 10, 3) := by decide +kernel
theorem dX1_mean_4 : decode cX1_mean 4 = .ok (.invokevirtual 57, 3) := by decide +kernel
theorem dX1_mean_7 : decode cX1_mean 7 = .ok (.aload_n 0, 1) := by decide +kernel
theorem dX1_mean_8 : decode cX1_mean 8 = .ok (.getfield 16, 3) := by decide +kernel
theorem dX1_mean_11 : decode cX1_mean 11 = .ok (.invokevirtual 57, 3) := by decide +kernel
theorem dX1_mean_14 : decode cX1_mean 14 = .ok (.iadd, 1) := by decide +kernel
theorem dX1_mean_15 : decode cX1_mean 15 = .ok (.istore_n 1, 1) := by decide +kernel
theorem dX1_mean_16 : decode cX1_mean 16 = .ok (.iload_n 1, 1) := by decide +kernel
theorem dX1_mean_17 : decode cX1_mean 17 = .ok (.ifCond .ne 5, 3) := by decide +kernel
theorem dX1_mean_20 : decode cX1_mean 20 = .ok (.dconst 0, 1) := by decide +kernel
theorem dX1_mean_21 : decode cX1_mean 21 = .ok (.dreturn, 1) := by decide +kernel
theorem dX1_mean_22 : decode cX1_mean 22 = .ok (.aload_n 0, 1) := by decide +kernel
theorem dX1_mean_23 : decode cX1_mean 23 = .ok (.getfield 10, 3) := by decide +kernel
theorem dX1_mean_26 : decode cX1_mean 26 = .ok (.invokestatic 161, 3) := by decide +kernel
theorem dX1_mean_29 : decode cX1_mean 29 = .ok (.aload_n 0, 1) := by decide +kernel
theorem dX1_mean_30 : decode cX1_mean 30 = .ok (.getfield 16, 3) := by decide +kernel
theorem dX1_mean_33 : decode cX1_mean 33 = .ok (.invokestatic 161, 3) := by decide +kernel
theorem dX1_mean_36 : decode cX1_mean 36 = .ok (.iadd, 1) := by decide +kernel
theorem dX1_mean_37 : decode cX1_mean 37 = .ok (.i2d, 1) := by decide +kernel
theorem dX1_mean_38 : decode cX1_mean 38 = .ok (.iload_n 1, 1) := by decide +kernel
theorem dX1_mean_39 : decode cX1_mean 39 = .ok (.i2d, 1) := by decide +kernel
theorem dX1_mean_40 : decode cX1_mean 40 = .ok (.ddiv, 1) := by decide +kernel
theorem dX1_mean_41 : decode cX1_mean 41 = .ok (.dreturn, 1) := by decide +kernel
theorem dX1_requireWord_0 : decode cX1_requireWord 0 = .ok (.iload_n 0, 1) := by decide +kernel
theorem dX1_requireWord_1 : decode cX1_requireWord 1 = .ok (.ifCond .lt 8, 3) := by decide +kernel
theorem dX1_requireWord_4 : decode cX1_requireWord 4 = .ok (.iload_n 0, 1) := by decide +kernel
theorem dX1_requireWord_5 : decode cX1_requireWord 5 = .ok (.iconst 1, 1) := by decide +kernel
theorem dX1_requireWord_6 : decode cX1_requireWord 6 = .ok (.if_icmp .le 13, 3) := by decide +kernel
theorem dX1_requireWord_9 : decode cX1_requireWord 9 = .ok (.new 175, 3) := by decide +kernel
theorem dX1_requireWord_12 : decode cX1_requireWord 12 = .ok (.dup, 1) := by decide +kernel
theorem dX1_requireWord_13 : decode cX1_requireWord 13 = .ok (.ldc 177, 2) := by decide +kernel
theorem dX1_requireWord_15 : decode cX1_requireWord 15 = .ok (.invokespecial 179, 3) := by decide +kernel
theorem dX1_requireWord_18 : decode cX1_requireWord 18 = .ok (.athrow, 1) := by decide +kernel
theorem dX1_requireWord_19 : decode cX1_requireWord 19 = .ok (.return_, 1) := by decide +kernel
theorem dX1_requirePlace_0 : decode cX1_requirePlace 0 = .ok (.iload_n 0, 1) := by decide +kernel
theorem dX1_requirePlace_1 : decode cX1_requirePlace 1 = .ok (.ifCond .lt 8, 3) := by decide +kernel
theorem dX1_requirePlace_4 : decode cX1_requirePlace 4 = .ok (.iload_n 0, 1) := by decide +kernel
theorem dX1_requirePlace_5 : decode cX1_requirePlace 5 = .ok (.iload_n 1, 1) := by decide +kernel
theorem dX1_requirePlace_6 : decode cX1_requirePlace 6 = .ok (.if_icmp .lt 13, 3) := by decide +kernel
theorem dX1_requirePlace_9 : decode cX1_requirePlace 9 = .ok (.new 175, 3) := by decide +kernel
theorem dX1_requirePlace_12 : decode cX1_requirePlace 12 = .ok (.dup, 1) := by decide +kernel
theorem dX1_requirePlace_13 : decode cX1_requirePlace 13 = .ok (.ldc 180, 2) := by decide +kernel
theorem dX1_requirePlace_15 : decode cX1_requirePlace 15 = .ok (.invokespecial 179, 3) := by decide +kernel
theorem dX1_requirePlace_18 : decode cX1_requirePlace 18 = .ok (.athrow, 1) := by decide +kernel
theorem dX1_requirePlace_19 : decode cX1_requirePlace 19 = .ok (.return_, 1) := by decide +kernel
theorem dX1_requireAnswer_0 : decode cX1_requireAnswer 0 = .ok (.iload_n 0, 1) := by decide +kernel
theorem dX1_requireAnswer_1 : decode cX1_requireAnswer 1 = .ok (.ifCond .lt 8, 3) := by decide +kernel
theorem dX1_requireAnswer_4 : decode cX1_requireAnswer 4 = .ok (.iload_n 0, 1) := by decide +kernel
theorem dX1_requireAnswer_5 : decode cX1_requireAnswer 5 = .ok (.iload_n 1, 1) := by decide +kernel
theorem dX1_requireAnswer_6 : decode cX1_requireAnswer 6 = .ok (.if_icmp .lt 13, 3) := by decide +kernel
theorem dX1_requireAnswer_9 : decode cX1_requireAnswer 9 = .ok (.new 175, 3) := by decide +kernel
theorem dX1_requireAnswer_12 : decode cX1_requireAnswer 12 = .ok (.dup, 1) := by decide +kernel
theorem dX1_requireAnswer_13 : decode cX1_requireAnswer 13 = .ok (.ldc 182, 2) := by decide +kernel
theorem dX1_requireAnswer_15 : decode cX1_requireAnswer 15 = .ok (.invokespecial 179, 3) := by decide +kernel
theorem dX1_requireAnswer_18 : decode cX1_requireAnswer 18 = .ok (.athrow, 1) := by decide +kernel
theorem dX1_requireAnswer_19 : decode cX1_requireAnswer 19 = .ok (.return_, 1) := by decide +kernel
theorem dX1_requireRope_0 : decode cX1_requireRope 0 = .ok (.iload_n 1, 1) := by decide +kernel
theorem dX1_requireRope_1 : decode cX1_requireRope 1 = .ok (.ifCond .lt 11, 3) := by decide +kernel
theorem dX1_requireRope_4 : decode cX1_requireRope 4 = .ok (.iload_n 1, 1) := by decide +kernel
theorem dX1_requireRope_5 : decode cX1_requireRope 5 = .ok (.aload_n 0, 1) := by decide +kernel
theorem dX1_requireRope_6 : decode cX1_requireRope 6 = .ok (.getfield 25, 3) := by decide +kernel
theorem dX1_requireRope_9 : decode cX1_requireRope 9 = .ok (.if_icmp .lt 13, 3) := by decide +kernel
theorem dX1_requireRope_12 : decode cX1_requireRope 12 = .ok (.new 175, 3) := by decide +kernel
theorem dX1_requireRope_15 : decode cX1_requireRope 15 = .ok (.dup, 1) := by decide +kernel
theorem dX1_requireRope_16 : decode cX1_requireRope 16 = .ok (.ldc 184, 2) := by decide +kernel
theorem dX1_requireRope_18 : decode cX1_requireRope 18 = .ok (.invokespecial 179, 3) := by decide +kernel
theorem dX1_requireRope_21 : decode cX1_requireRope 21 = .ok (.athrow, 1) := by decide +kernel
theorem dX1_requireRope_22 : decode cX1_requireRope 22 = .ok (.return_, 1) := by decide +kernel
theorem dX1_requireLetter_0 : decode cX1_requireLetter 0 = .ok (.iload_n 1, 1) := by decide +kernel
theorem dX1_requireLetter_1 : decode cX1_requireLetter 1 = .ok (.ifCond .eq 20, 3) := by decide +kernel
theorem dX1_requireLetter_4 : decode cX1_requireLetter 4 = .ok (.iload_n 1, 1) := by decide +kernel
theorem dX1_requireLetter_5 : decode cX1_requireLetter 5 = .ok (.aload_n 0, 1) := by decide +kernel
theorem dX1_requireLetter_6 : decode cX1_requireLetter 6 = .ok (.getfield 25, 3) := by decide +kernel
theorem dX1_requireLetter_9 : decode cX1_requireLetter 9 = .ok (.ineg, 1) := by decide +kernel
theorem dX1_requireLetter_10 : decode cX1_requireLetter 10 = .ok (.if_icmp .le 11, 3) := by decide +kernel
theorem dX1_requireLetter_13 : decode cX1_requireLetter 13 = .ok (.iload_n 1, 1) := by decide +kernel
theorem dX1_requireLetter_14 : decode cX1_requireLetter 14 = .ok (.aload_n 0, 1) := by decide +kernel
theorem dX1_requireLetter_15 : decode cX1_requireLetter 15 = .ok (.getfield 25, 3) := by decide +kernel
theorem dX1_requireLetter_18 : decode cX1_requireLetter 18 = .ok (.if_icmp .lt 13, 3) := by decide +kernel
theorem dX1_requireLetter_21 : decode cX1_requireLetter 21 = .ok (.new 29, 3) := by decide +kernel
theorem dX1_requireLetter_24 : decode cX1_requireLetter 24 = .ok (.dup, 1) := by decide +kernel
theorem dX1_requireLetter_25 : decode cX1_requireLetter 25 = .ok (.ldc 186, 2) := by decide +kernel
theorem dX1_requireLetter_27 : decode cX1_requireLetter 27 = .ok (.invokespecial 33, 3) := by decide +kernel
theorem dX1_requireLetter_30 : decode cX1_requireLetter 30 = .ok (.athrow, 1) := by decide +kernel
theorem dX1_requireLetter_31 : decode cX1_requireLetter 31 = .ok (.return_, 1) := by decide +kernel
set_option maxRecDepth 20000 in
theorem ggX1_requireRoom_X0_size : GoodIn wsX1_requireRoom wsX0_size := goodIn_r _ [7, 8, 9, 10] (by decide +kernel) (by decide +kernel)
set_option maxRecDepth 20000 in
theorem gX1_requireRoom_X0_size : GoodIn wsX1_requireRoom (wsV RX1 57 RX0 yX0_size wsX0_size) := goodIn_app (goodIn_of _ (by decide +kernel)) ggX1_requireRoom_X0_size
theorem dX1_requireRoom_0 : decode cX1_requireRoom 0 = .ok (.aload_n 0, 1) := by decide +kernel
theorem dX1_requireRoom_1 : decode cX1_requireRoom 1 = .ok (.invokevirtual 57, 3) := by decide +kernel
theorem dX1_requireRoom_4 : decode cX1_requireRoom 4 = .ok (.iload_n 1, 1) := by decide +kernel
theorem dX1_requireRoom_5 : decode cX1_requireRoom 5 = .ok (.iadd, 1) := by decide +kernel
theorem dX1_requireRoom_6 : decode cX1_requireRoom 6 = .ok (.bipush 30, 2) := by decide +kernel
theorem dX1_requireRoom_8 : decode cX1_requireRoom 8 = .ok (.if_icmp .le 13, 3) := by decide +kernel
theorem dX1_requireRoom_11 : decode cX1_requireRoom 11 = .ok (.new 61, 3) := by decide +kernel
theorem dX1_requireRoom_14 : decode cX1_requireRoom 14 = .ok (.dup, 1) := by decide +kernel
theorem dX1_requireRoom_15 : decode cX1_requireRoom 15 = .ok (.ldc 188, 2) := by decide +kernel
theorem dX1_requireRoom_17 : decode cX1_requireRoom 17 = .ok (.invokespecial 65, 3) := by decide +kernel
theorem dX1_requireRoom_20 : decode cX1_requireRoom 20 = .ok (.athrow, 1) := by decide +kernel
theorem dX1_requireRoom_21 : decode cX1_requireRoom 21 = .ok (.return_, 1) := by decide +kernel
theorem dX1_rowOf_0 : decode cX1_rowOf 0 = .ok (.iload_n 1, 1) := by decide +kernel
theorem dX1_rowOf_1 : decode cX1_rowOf 1 = .ok (.ifCond .ne 10, 3) := by decide +kernel
theorem dX1_rowOf_4 : decode cX1_rowOf 4 = .ok (.aload_n 0, 1) := by decide +kernel
theorem dX1_rowOf_5 : decode cX1_rowOf 5 = .ok (.getfield 10, 3) := by decide +kernel
theorem dX1_rowOf_8 : decode cX1_rowOf 8 = .ok (.goto 7, 3) := by decide +kernel
theorem dX1_rowOf_11 : decode cX1_rowOf 11 = .ok (.aload_n 0, 1) := by decide +kernel
theorem dX1_rowOf_12 : decode cX1_rowOf 12 = .ok (.getfield 16, 3) := by decide +kernel
theorem dX1_rowOf_15 : decode cX1_rowOf 15 = .ok (.areturn, 1) := by decide +kernel
theorem dX1_heightOf_0 : decode cX1_heightOf 0 = .ok (.iload_n 0, 1) := by decide +kernel
theorem dX1_heightOf_1 : decode cX1_heightOf 1 = .ok (.ifCond .ge 8, 3) := by decide +kernel
theorem dX1_heightOf_4 : decode cX1_heightOf 4 = .ok (.iload_n 0, 1) := by decide +kernel
theorem dX1_heightOf_5 : decode cX1_heightOf 5 = .ok (.ineg, 1) := by decide +kernel
theorem dX1_heightOf_6 : decode cX1_heightOf 6 = .ok (.goto 4, 3) := by decide +kernel
theorem dX1_heightOf_9 : decode cX1_heightOf 9 = .ok (.iload_n 0, 1) := by decide +kernel
theorem dX1_heightOf_10 : decode cX1_heightOf 10 = .ok (.ireturn, 1) := by decide +kernel
theorem dX1_signOf_0 : decode cX1_signOf 0 = .ok (.iload_n 0, 1) := by decide +kernel
theorem dX1_signOf_1 : decode cX1_signOf 1 = .ok (.ifCond .ge 7, 3) := by decide +kernel
theorem dX1_signOf_4 : decode cX1_signOf 4 = .ok (.iconst (-1), 1) := by decide +kernel
theorem dX1_signOf_5 : decode cX1_signOf 5 = .ok (.goto 12, 3) := by decide +kernel
theorem dX1_signOf_8 : decode cX1_signOf 8 = .ok (.iload_n 0, 1) := by decide +kernel
theorem dX1_signOf_9 : decode cX1_signOf 9 = .ok (.ifCond .le 7, 3) := by decide +kernel
theorem dX1_signOf_12 : decode cX1_signOf 12 = .ok (.iconst 1, 1) := by decide +kernel
theorem dX1_signOf_13 : decode cX1_signOf 13 = .ok (.goto 4, 3) := by decide +kernel
theorem dX1_signOf_16 : decode cX1_signOf 16 = .ok (.iconst 0, 1) := by decide +kernel
theorem dX1_signOf_17 : decode cX1_signOf 17 = .ok (.ireturn, 1) := by decide +kernel
set_option maxRecDepth 20000 in
theorem ggX1_heightsApart_X1_heightOf : GoodIn wsX1_heightsApart wsX1_heightOf := goodIn_r _ [4] (by decide +kernel) (by decide +kernel)
set_option maxRecDepth 20000 in
theorem gX1_heightsApart_X1_heightOf : GoodIn wsX1_heightsApart (va_wsS RX1 190 yX1_heightOf wsX1_heightOf) := goodIn_app (goodIn_of _ (by decide +kernel)) ggX1_heightsApart_X1_heightOf
theorem dX1_heightsApart_0 : decode cX1_heightsApart 0 = .ok (.iload_n 0, 1) := by decide +kernel
theorem dX1_heightsApart_1 : decode cX1_heightsApart 1 = .ok (.invokestatic 190, 3) := by decide +kernel
theorem dX1_heightsApart_4 : decode cX1_heightsApart 4 = .ok (.iload_n 1, 1) := by decide +kernel
theorem dX1_heightsApart_5 : decode cX1_heightsApart 5 = .ok (.invokestatic 190, 3) := by decide +kernel
theorem dX1_heightsApart_8 : decode cX1_heightsApart 8 = .ok (.isub, 1) := by decide +kernel
theorem dX1_heightsApart_9 : decode cX1_heightsApart 9 = .ok (.invokestatic 190, 3) := by decide +kernel
theorem dX1_heightsApart_12 : decode cX1_heightsApart 12 = .ok (.ireturn, 1) := by decide +kernel
set_option maxRecDepth 20000 in
theorem ggX1_heightsAdded_X0_size : GoodIn wsX1_heightsAdded wsX0_size := goodIn_r _ [5, 6, 16, 17] (by decide +kernel) (by decide +kernel)
set_option maxRecDepth 20000 in
theorem gX1_heightsAdded_X0_size : GoodIn wsX1_heightsAdded (wsV RX1 57 RX0 yX0_size wsX0_size) := goodIn_app (goodIn_of _ (by decide +kernel)) ggX1_heightsAdded_X0_size
set_option maxRecDepth 20000 in
theorem ggX1_heightsAdded_X0_at : GoodIn wsX1_heightsAdded wsX0_at := goodIn_r _ [10, 6, 11, 16, 17] (by decide +kernel) (by decide +kernel)
set_option maxRecDepth 20000 in
theorem gX1_heightsAdded_X0_at : GoodIn wsX1_heightsAdded (wsV RX1 66 RX0 yX0_at wsX0_at) := goodIn_app (goodIn_of _ (by decide +kernel)) ggX1_heightsAdded_X0_at
set_option maxRecDepth 20000 in
theorem ggX1_heightsAdded_X1_heightOf : GoodIn wsX1_heightsAdded wsX1_heightOf := goodIn_r _ [15] (by decide +kernel) (by decide +kernel)
set_option maxRecDepth 20000 in
theorem gX1_heightsAdded_X1_heightOf : GoodIn wsX1_heightsAdded (va_wsS RX1 190 yX1_heightOf wsX1_heightOf) := goodIn_app (goodIn_of _ (by decide +kernel)) ggX1_heightsAdded_X1_heightOf
theorem dX1_heightsAdded_0 : decode cX1_heightsAdded 0 = .ok (.iconst 0, 1) := by decide +kernel
theorem dX1_heightsAdded_1 : decode cX1_heightsAdded 1 = .ok (.istore_n 1, 1) := by decide +kernel
theorem dX1_heightsAdded_2 : decode cX1_heightsAdded 2 = .ok (.iconst 0, 1) := by decide +kernel
theorem dX1_heightsAdded_3 : decode cX1_heightsAdded 3 = .ok (.istore_n 2, 1) := by decide +kernel
theorem dX1_heightsAdded_4 : decode cX1_heightsAdded 4 = .ok (.iload_n 2, 1) := by decide +kernel
theorem dX1_heightsAdded_5 : decode cX1_heightsAdded 5 = .ok (.aload_n 0, 1) := by decide +kernel
theorem dX1_heightsAdded_6 : decode cX1_heightsAdded 6 = .ok (.invokevirtual 57, 3) := by decide +kernel
theorem dX1_heightsAdded_9 : decode cX1_heightsAdded 9 = .ok (.if_icmp .ge 20, 3) := by decide +kernel
theorem dX1_heightsAdded_12 : decode cX1_heightsAdded 12 = .ok (.iload_n 1, 1) := by decide +kernel
theorem dX1_heightsAdded_13 : decode cX1_heightsAdded 13 = .ok (.aload_n 0, 1) := by decide +kernel
theorem dX1_heightsAdded_14 : decode cX1_heightsAdded 14 = .ok (.iload_n 2, 1) := by decide +kernel
theorem dX1_heightsAdded_15 : decode cX1_heightsAdded 15 = .ok (.invokevirtual 66, 3) := by decide +kernel
theorem dX1_heightsAdded_18 : decode cX1_heightsAdded 18 = .ok (.invokestatic 190, 3) := by decide +kernel
theorem dX1_heightsAdded_21 : decode cX1_heightsAdded 21 = .ok (.iadd, 1) := by decide +kernel
theorem dX1_heightsAdded_22 : decode cX1_heightsAdded 22 = .ok (.istore_n 1, 1) := by decide +kernel
theorem dX1_heightsAdded_23 : decode cX1_heightsAdded 23 = .ok (.iinc 2 1, 3) := by decide +kernel
theorem dX1_heightsAdded_26 : decode cX1_heightsAdded 26 = .ok (.goto (-22), 3) := by decide +kernel
theorem dX1_heightsAdded_29 : decode cX1_heightsAdded 29 = .ok (.iload_n 1, 1) := by decide +kernel
theorem dX1_heightsAdded_30 : decode cX1_heightsAdded 30 = .ok (.ireturn, 1) := by decide +kernel
set_option maxRecDepth 20000 in
theorem ggX1_signsAdded_X0_size : GoodIn wsX1_signsAdded wsX0_size := goodIn_r _ [5, 6, 16, 17] (by decide +kernel) (by decide +kernel)
set_option maxRecDepth 20000 in
theorem gX1_signsAdded_X0_size : GoodIn wsX1_signsAdded (wsV RX1 57 RX0 yX0_size wsX0_size) := goodIn_app (goodIn_of _ (by decide +kernel)) ggX1_signsAdded_X0_size
set_option maxRecDepth 20000 in
theorem ggX1_signsAdded_X0_at : GoodIn wsX1_signsAdded wsX0_at := goodIn_r _ [10, 6, 11, 16, 17] (by decide +kernel) (by decide +kernel)
set_option maxRecDepth 20000 in
theorem gX1_signsAdded_X0_at : GoodIn wsX1_signsAdded (wsV RX1 66 RX0 yX0_at wsX0_at) := goodIn_app (goodIn_of _ (by decide +kernel)) ggX1_signsAdded_X0_at
set_option maxRecDepth 20000 in
theorem ggX1_signsAdded_X1_signOf : GoodIn wsX1_signsAdded wsX1_signOf := goodIn_r _ [15] (by decide +kernel) (by decide +kernel)
set_option maxRecDepth 20000 in
theorem gX1_signsAdded_X1_signOf : GoodIn wsX1_signsAdded (va_wsS RX1 96 yX1_signOf wsX1_signOf) := goodIn_app (goodIn_of _ (by decide +kernel)) ggX1_signsAdded_X1_signOf
theorem dX1_signsAdded_0 : decode cX1_signsAdded 0 = .ok (.iconst 0, 1) := by decide +kernel
theorem dX1_signsAdded_1 : decode cX1_signsAdded 1 = .ok (.istore_n 1, 1) := by decide +kernel
theorem dX1_signsAdded_2 : decode cX1_signsAdded 2 = .ok (.iconst 0, 1) := by decide +kernel
theorem dX1_signsAdded_3 : decode cX1_signsAdded 3 = .ok (.istore_n 2, 1) := by decide +kernel
theorem dX1_signsAdded_4 : decode cX1_signsAdded 4 = .ok (.iload_n 2, 1) := by decide +kernel
theorem dX1_signsAdded_5 : decode cX1_signsAdded 5 = .ok (.aload_n 0, 1) := by decide +kernel
theorem dX1_signsAdded_6 : decode cX1_signsAdded 6 = .ok (.invokevirtual 57, 3) := by decide +kernel
theorem dX1_signsAdded_9 : decode cX1_signsAdded 9 = .ok (.if_icmp .ge 20, 3) := by decide +kernel
theorem dX1_signsAdded_12 : decode cX1_signsAdded 12 = .ok (.iload_n 1, 1) := by decide +kernel
theorem dX1_signsAdded_13 : decode cX1_signsAdded 13 = .ok (.aload_n 0, 1) := by decide +kernel
theorem dX1_signsAdded_14 : decode cX1_signsAdded 14 = .ok (.iload_n 2, 1) := by decide +kernel
theorem dX1_signsAdded_15 : decode cX1_signsAdded 15 = .ok (.invokevirtual 66, 3) := by decide +kernel
theorem dX1_signsAdded_18 : decode cX1_signsAdded 18 = .ok (.invokestatic 96, 3) := by decide +kernel
theorem dX1_signsAdded_21 : decode cX1_signsAdded 21 = .ok (.iadd, 1) := by decide +kernel
theorem dX1_signsAdded_22 : decode cX1_signsAdded 22 = .ok (.istore_n 1, 1) := by decide +kernel
theorem dX1_signsAdded_23 : decode cX1_signsAdded 23 = .ok (.iinc 2 1, 3) := by decide +kernel
theorem dX1_signsAdded_26 : decode cX1_signsAdded 26 = .ok (.goto (-22), 3) := by decide +kernel
theorem dX1_signsAdded_29 : decode cX1_signsAdded 29 = .ok (.iload_n 1, 1) := by decide +kernel
theorem dX1_signsAdded_30 : decode cX1_signsAdded 30 = .ok (.ireturn, 1) := by decide +kernel
set_option maxRecDepth 20000 in
theorem ggX1_countAnswer_X0_size : GoodIn wsX1_countAnswer wsX0_size := goodIn_r _ [8, 9, 27, 28] (by decide +kernel) (by decide +kernel)
set_option maxRecDepth 20000 in
theorem gX1_countAnswer_X0_size : GoodIn wsX1_countAnswer (wsV RX1 57 RX0 yX0_size wsX0_size) := goodIn_app (goodIn_of _ (by decide +kernel)) ggX1_countAnswer_X0_size
set_option maxRecDepth 20000 in
theorem ggX1_countAnswer_X1_signsAdded : GoodIn wsX1_countAnswer wsX1_signsAdded := goodIn_r _ [13, 4, 5, 6, 7, 8, 9, 14, 15, 16, 17, 18, 19, 20, 12, 21, 27, 28] (by decide +kernel) (by decide +kernel)
set_option maxRecDepth 20000 in
theorem gX1_countAnswer_X1_signsAdded : GoodIn wsX1_countAnswer (va_wsS RX1 193 yX1_signsAdded wsX1_signsAdded) := goodIn_app (goodIn_of _ (by decide +kernel)) ggX1_countAnswer_X1_signsAdded
theorem dX1_countAnswer_0 : decode cX1_countAnswer 0 = .ok (.iload_n 1, 1) := by decide +kernel
theorem dX1_countAnswer_1 : decode cX1_countAnswer 1 = .ok (.tableswitch 60 0 3 #[31, 36, 44, 52], 31) := by decide +kernel
theorem dX1_countAnswer_32 : decode cX1_countAnswer 32 = .ok (.aload_n 0, 1) := by decide +kernel
theorem dX1_countAnswer_33 : decode cX1_countAnswer 33 = .ok (.getfield 25, 3) := by decide +kernel
theorem dX1_countAnswer_36 : decode cX1_countAnswer 36 = .ok (.ireturn, 1) := by decide +kernel
theorem dX1_countAnswer_37 : decode cX1_countAnswer 37 = .ok (.aload_n 0, 1) := by decide +kernel
theorem dX1_countAnswer_38 : decode cX1_countAnswer 38 = .ok (.getfield 10, 3) := by decide +kernel
theorem dX1_countAnswer_41 : decode cX1_countAnswer 41 = .ok (.invokevirtual 57, 3) := by decide +kernel
theorem dX1_countAnswer_44 : decode cX1_countAnswer 44 = .ok (.ireturn, 1) := by decide +kernel
theorem dX1_countAnswer_45 : decode cX1_countAnswer 45 = .ok (.aload_n 0, 1) := by decide +kernel
theorem dX1_countAnswer_46 : decode cX1_countAnswer 46 = .ok (.getfield 16, 3) := by decide +kernel
theorem dX1_countAnswer_49 : decode cX1_countAnswer 49 = .ok (.invokevirtual 57, 3) := by decide +kernel
theorem dX1_countAnswer_52 : decode cX1_countAnswer 52 = .ok (.ireturn, 1) := by decide +kernel
theorem dX1_countAnswer_53 : decode cX1_countAnswer 53 = .ok (.aload_n 0, 1) := by decide +kernel
theorem dX1_countAnswer_54 : decode cX1_countAnswer 54 = .ok (.getfield 10, 3) := by decide +kernel
theorem dX1_countAnswer_57 : decode cX1_countAnswer 57 = .ok (.invokestatic 193, 3) := by decide +kernel
theorem dX1_countAnswer_60 : decode cX1_countAnswer 60 = .ok (.ireturn, 1) := by decide +kernel
theorem dX1_countAnswer_61 : decode cX1_countAnswer 61 = .ok (.aload_n 0, 1) := by decide +kernel
theorem dX1_countAnswer_62 : decode cX1_countAnswer 62 = .ok (.getfield 16, 3) := by decide +kernel
theorem dX1_countAnswer_65 : decode cX1_countAnswer 65 = .ok (.invokestatic 193, 3) := by decide +kernel
theorem dX1_countAnswer_68 : decode cX1_countAnswer 68 = .ok (.ireturn, 1) := by decide +kernel
set_option maxRecDepth 20000 in
theorem ggX1_placeBehind_X1_heightOf : GoodIn wsX1_placeBehind wsX1_heightOf := goodIn_r _ [4] (by decide +kernel) (by decide +kernel)
set_option maxRecDepth 20000 in
theorem gX1_placeBehind_X1_heightOf : GoodIn wsX1_placeBehind (va_wsS RX1 190 yX1_heightOf wsX1_heightOf) := goodIn_app (goodIn_of _ (by decide +kernel)) ggX1_placeBehind_X1_heightOf
theorem dX1_placeBehind_0 : decode cX1_placeBehind 0 = .ok (.iload_n 0, 1) := by decide +kernel
theorem dX1_placeBehind_1 : decode cX1_placeBehind 1 = .ok (.invokestatic 190, 3) := by decide +kernel
theorem dX1_placeBehind_4 : decode cX1_placeBehind 4 = .ok (.istore_n 2, 1) := by decide +kernel
theorem dX1_placeBehind_5 : decode cX1_placeBehind 5 = .ok (.iload_n 1, 1) := by decide +kernel
theorem dX1_placeBehind_6 : decode cX1_placeBehind 6 = .ok (.iload_n 2, 1) := by decide +kernel
theorem dX1_placeBehind_7 : decode cX1_placeBehind 7 = .ok (.iconst 1, 1) := by decide +kernel
theorem dX1_placeBehind_8 : decode cX1_placeBehind 8 = .ok (.isub, 1) := by decide +kernel
theorem dX1_placeBehind_9 : decode cX1_placeBehind 9 = .ok (.if_icmp .ne 5, 3) := by decide +kernel
theorem dX1_placeBehind_12 : decode cX1_placeBehind 12 = .ok (.iload_n 2, 1) := by decide +kernel
theorem dX1_placeBehind_13 : decode cX1_placeBehind 13 = .ok (.ireturn, 1) := by decide +kernel
theorem dX1_placeBehind_14 : decode cX1_placeBehind 14 = .ok (.iload_n 1, 1) := by decide +kernel
theorem dX1_placeBehind_15 : decode cX1_placeBehind 15 = .ok (.iload_n 2, 1) := by decide +kernel
theorem dX1_placeBehind_16 : decode cX1_placeBehind 16 = .ok (.if_icmp .ne 9, 3) := by decide +kernel
theorem dX1_placeBehind_19 : decode cX1_placeBehind 19 = .ok (.iload_n 2, 1) := by decide +kernel
theorem dX1_placeBehind_20 : decode cX1_placeBehind 20 = .ok (.iconst 1, 1) := by decide +kernel
theorem dX1_placeBehind_21 : decode cX1_placeBehind 21 = .ok (.isub, 1) := by decide +kernel
theorem dX1_placeBehind_22 : decode cX1_placeBehind 22 = .ok (.goto 4, 3) := by decide +kernel
theorem dX1_placeBehind_25 : decode cX1_placeBehind 25 = .ok (.iload_n 1, 1) := by decide +kernel
theorem dX1_placeBehind_26 : decode cX1_placeBehind 26 = .ok (.ireturn, 1) := by decide +kernel
set_option maxRecDepth 20000 in
theorem ggX1_placeAtEnd_X0_size : GoodIn wsX1_placeAtEnd wsX0_size := goodIn_r _ [5, 6, 19, 20] (by decide +kernel) (by decide +kernel)
set_option maxRecDepth 20000 in
theorem gX1_placeAtEnd_X0_size : GoodIn wsX1_placeAtEnd (wsV RX1 57 RX0 yX0_size wsX0_size) := goodIn_app (goodIn_of _ (by decide +kernel)) ggX1_placeAtEnd_X0_size
set_option maxRecDepth 20000 in
theorem ggX1_placeAtEnd_X0_at : GoodIn wsX1_placeAtEnd wsX0_at := goodIn_r _ [10, 6, 11, 19, 20] (by decide +kernel) (by decide +kernel)
set_option maxRecDepth 20000 in
theorem gX1_placeAtEnd_X0_at : GoodIn wsX1_placeAtEnd (wsV RX1 66 RX0 yX0_at wsX0_at) := goodIn_app (goodIn_of _ (by decide +kernel)) ggX1_placeAtEnd_X0_at
set_option maxRecDepth 20000 in
theorem ggX1_placeAtEnd_X1_placeBehind : GoodIn wsX1_placeAtEnd wsX1_placeBehind := goodIn_r _ [15, 16, 17, 14, 18] (by decide +kernel) (by decide +kernel)
set_option maxRecDepth 20000 in
theorem gX1_placeAtEnd_X1_placeBehind : GoodIn wsX1_placeAtEnd (va_wsS RX1 196 yX1_placeBehind wsX1_placeBehind) := goodIn_app (goodIn_of _ (by decide +kernel)) ggX1_placeAtEnd_X1_placeBehind
theorem dX1_placeAtEnd_0 : decode cX1_placeAtEnd 0 = .ok (.iload_n 1, 1) := by decide +kernel
theorem dX1_placeAtEnd_1 : decode cX1_placeAtEnd 1 = .ok (.istore_n 2, 1) := by decide +kernel
theorem dX1_placeAtEnd_2 : decode cX1_placeAtEnd 2 = .ok (.iconst 0, 1) := by decide +kernel
theorem dX1_placeAtEnd_3 : decode cX1_placeAtEnd 3 = .ok (.istore_n 3, 1) := by decide +kernel
theorem dX1_placeAtEnd_4 : decode cX1_placeAtEnd 4 = .ok (.iload_n 3, 1) := by decide +kernel
theorem dX1_placeAtEnd_5 : decode cX1_placeAtEnd 5 = .ok (.aload_n 0, 1) := by decide +kernel
theorem dX1_placeAtEnd_6 : decode cX1_placeAtEnd 6 = .ok (.invokevirtual 57, 3) := by decide +kernel
theorem dX1_placeAtEnd_9 : decode cX1_placeAtEnd 9 = .ok (.if_icmp .ge 19, 3) := by decide +kernel
theorem dX1_placeAtEnd_12 : decode cX1_placeAtEnd 12 = .ok (.aload_n 0, 1) := by decide +kernel
theorem dX1_placeAtEnd_13 : decode cX1_placeAtEnd 13 = .ok (.iload_n 3, 1) := by decide +kernel
theorem dX1_placeAtEnd_14 : decode cX1_placeAtEnd 14 = .ok (.invokevirtual 66, 3) := by decide +kernel
theorem dX1_placeAtEnd_17 : decode cX1_placeAtEnd 17 = .ok (.iload_n 2, 1) := by decide +kernel
theorem dX1_placeAtEnd_18 : decode cX1_placeAtEnd 18 = .ok (.invokestatic 196, 3) := by decide +kernel
theorem dX1_placeAtEnd_21 : decode cX1_placeAtEnd 21 = .ok (.istore_n 2, 1) := by decide +kernel
theorem dX1_placeAtEnd_22 : decode cX1_placeAtEnd 22 = .ok (.iinc 3 1, 3) := by decide +kernel
theorem dX1_placeAtEnd_25 : decode cX1_placeAtEnd 25 = .ok (.goto (-21), 3) := by decide +kernel
theorem dX1_placeAtEnd_28 : decode cX1_placeAtEnd 28 = .ok (.iload_n 2, 1) := by decide +kernel
theorem dX1_placeAtEnd_29 : decode cX1_placeAtEnd 29 = .ok (.ireturn, 1) := by decide +kernel
set_option maxRecDepth 20000 in
theorem ggX1_signsOfCrossings_X0_size : GoodIn wsX1_signsOfCrossings wsX0_size := goodIn_r _ [5, 6, 22, 23] (by decide +kernel) (by decide +kernel)
set_option maxRecDepth 20000 in
theorem gX1_signsOfCrossings_X0_size : GoodIn wsX1_signsOfCrossings (wsV RX1 57 RX0 yX0_size wsX0_size) := goodIn_app (goodIn_of _ (by decide +kernel)) ggX1_signsOfCrossings_X0_size
set_option maxRecDepth 20000 in
theorem ggX1_signsOfCrossings_X0_at : GoodIn wsX1_signsOfCrossings wsX0_at := goodIn_r _ [10, 6, 11, 22, 23] (by decide +kernel) (by decide +kernel)
set_option maxRecDepth 20000 in
theorem gX1_signsOfCrossings_X0_at : GoodIn wsX1_signsOfCrossings (wsV RX1 66 RX0 yX0_at wsX0_at) := goodIn_app (goodIn_of _ (by decide +kernel)) ggX1_signsOfCrossings_X0_at
set_option maxRecDepth 20000 in
theorem ggX1_signsOfCrossings_X1_placeBehind : GoodIn wsX1_signsOfCrossings wsX1_placeBehind := goodIn_r _ [15, 16, 17, 14, 18] (by decide +kernel) (by decide +kernel)
set_option maxRecDepth 20000 in
theorem gX1_signsOfCrossings_X1_placeBehind : GoodIn wsX1_signsOfCrossings (va_wsS RX1 196 yX1_placeBehind wsX1_placeBehind) := goodIn_app (goodIn_of _ (by decide +kernel)) ggX1_signsOfCrossings_X1_placeBehind
set_option maxRecDepth 20000 in
theorem ggX1_signsOfCrossings_X1_signOf : GoodIn wsX1_signsOfCrossings wsX1_signOf := goodIn_r _ [21] (by decide +kernel) (by decide +kernel)
set_option maxRecDepth 20000 in
theorem gX1_signsOfCrossings_X1_signOf : GoodIn wsX1_signsOfCrossings (va_wsS RX1 96 yX1_signOf wsX1_signOf) := goodIn_app (goodIn_of _ (by decide +kernel)) ggX1_signsOfCrossings_X1_signOf
theorem dX1_signsOfCrossings_0 : decode cX1_signsOfCrossings 0 = .ok (.iconst 0, 1) := by decide +kernel
theorem dX1_signsOfCrossings_1 : decode cX1_signsOfCrossings 1 = .ok (.istore_n 3, 1) := by decide +kernel
theorem dX1_signsOfCrossings_2 : decode cX1_signsOfCrossings 2 = .ok (.iload_n 1, 1) := by decide +kernel
theorem dX1_signsOfCrossings_3 : decode cX1_signsOfCrossings 3 = .ok (.istore 4, 2) := by decide +kernel
theorem dX1_signsOfCrossings_5 : decode cX1_signsOfCrossings 5 = .ok (.iload_n 2, 1) := by decide +kernel
theorem dX1_signsOfCrossings_6 : decode cX1_signsOfCrossings 6 = .ok (.istore 5, 2) := by decide +kernel
theorem dX1_signsOfCrossings_8 : decode cX1_signsOfCrossings 8 = .ok (.iconst 0, 1) := by decide +kernel
theorem dX1_signsOfCrossings_9 : decode cX1_signsOfCrossings 9 = .ok (.istore 6, 2) := by decide +kernel
theorem dX1_signsOfCrossings_11 : decode cX1_signsOfCrossings 11 = .ok (.iload 6, 2) := by decide +kernel
theorem dX1_signsOfCrossings_13 : decode cX1_signsOfCrossings 13 = .ok (.aload_n 0, 1) := by decide +kernel
theorem dX1_signsOfCrossings_14 : decode cX1_signsOfCrossings 14 = .ok (.invokevirtual 57, 3) := by decide +kernel
theorem dX1_signsOfCrossings_17 : decode cX1_signsOfCrossings 17 = .ok (.if_icmp .ge 65, 3) := by decide +kernel
theorem dX1_signsOfCrossings_20 : decode cX1_signsOfCrossings 20 = .ok (.aload_n 0, 1) := by decide +kernel
theorem dX1_signsOfCrossings_21 : decode cX1_signsOfCrossings 21 = .ok (.iload 6, 2) := by decide +kernel
theorem dX1_signsOfCrossings_23 : decode cX1_signsOfCrossings 23 = .ok (.invokevirtual 66, 3) := by decide +kernel
theorem dX1_signsOfCrossings_26 : decode cX1_signsOfCrossings 26 = .ok (.istore 7, 2) := by decide +kernel
theorem dX1_signsOfCrossings_28 : decode cX1_signsOfCrossings 28 = .ok (.iload 7, 2) := by decide +kernel
theorem dX1_signsOfCrossings_30 : decode cX1_signsOfCrossings 30 = .ok (.iload 4, 2) := by decide +kernel
theorem dX1_signsOfCrossings_32 : decode cX1_signsOfCrossings 32 = .ok (.invokestatic 196, 3) := by decide +kernel
theorem dX1_signsOfCrossings_35 : decode cX1_signsOfCrossings 35 = .ok (.istore 8, 2) := by decide +kernel
theorem dX1_signsOfCrossings_37 : decode cX1_signsOfCrossings 37 = .ok (.iload 7, 2) := by decide +kernel
theorem dX1_signsOfCrossings_39 : decode cX1_signsOfCrossings 39 = .ok (.iload 5, 2) := by decide +kernel
theorem dX1_signsOfCrossings_41 : decode cX1_signsOfCrossings 41 = .ok (.invokestatic 196, 3) := by decide +kernel
theorem dX1_signsOfCrossings_44 : decode cX1_signsOfCrossings 44 = .ok (.istore 9, 2) := by decide +kernel
theorem dX1_signsOfCrossings_46 : decode cX1_signsOfCrossings 46 = .ok (.iload 8, 2) := by decide +kernel
theorem dX1_signsOfCrossings_48 : decode cX1_signsOfCrossings 48 = .ok (.iload 4, 2) := by decide +kernel
theorem dX1_signsOfCrossings_50 : decode cX1_signsOfCrossings 50 = .ok (.if_icmp .eq 18, 3) := by decide +kernel
theorem dX1_signsOfCrossings_53 : decode cX1_signsOfCrossings 53 = .ok (.iload 9, 2) := by decide +kernel
theorem dX1_signsOfCrossings_55 : decode cX1_signsOfCrossings 55 = .ok (.iload 5, 2) := by decide +kernel
theorem dX1_signsOfCrossings_57 : decode cX1_signsOfCrossings 57 = .ok (.if_icmp .eq 11, 3) := by decide +kernel
theorem dX1_signsOfCrossings_60 : decode cX1_signsOfCrossings 60 = .ok (.iload_n 3, 1) := by decide +kernel
theorem dX1_signsOfCrossings_61 : decode cX1_signsOfCrossings 61 = .ok (.iload 7, 2) := by decide +kernel
theorem dX1_signsOfCrossings_63 : decode cX1_signsOfCrossings 63 = .ok (.invokestatic 96, 3) := by decide +kernel
theorem dX1_signsOfCrossings_66 : decode cX1_signsOfCrossings 66 = .ok (.iadd, 1) := by decide +kernel
theorem dX1_signsOfCrossings_67 : decode cX1_signsOfCrossings 67 = .ok (.istore_n 3, 1) := by decide +kernel
theorem dX1_signsOfCrossings_68 : decode cX1_signsOfCrossings 68 = .ok (.iload 8, 2) := by decide +kernel
theorem dX1_signsOfCrossings_70 : decode cX1_signsOfCrossings 70 = .ok (.istore 4, 2) := by decide +kernel
theorem dX1_signsOfCrossings_72 : decode cX1_signsOfCrossings 72 = .ok (.iload 9, 2) := by decide +kernel
theorem dX1_signsOfCrossings_74 : decode cX1_signsOfCrossings 74 = .ok (.istore 5, 2) := by decide +kernel
theorem dX1_signsOfCrossings_76 : decode cX1_signsOfCrossings 76 = .ok (.iinc 6 1, 3) := by decide +kernel
theorem dX1_signsOfCrossings_79 : decode cX1_signsOfCrossings 79 = .ok (.goto (-68), 3) := by decide +kernel
theorem dX1_signsOfCrossings_82 : decode cX1_signsOfCrossings 82 = .ok (.iload_n 3, 1) := by decide +kernel
theorem dX1_signsOfCrossings_83 : decode cX1_signsOfCrossings 83 = .ok (.ireturn, 1) := by decide +kernel
set_option maxRecDepth 20000 in
theorem ggX1_lastOfFirstHandle_X0_size : GoodIn wsX1_lastOfFirstHandle wsX0_size := goodIn_r _ [5, 6, 19, 20] (by decide +kernel) (by decide +kernel)
set_option maxRecDepth 20000 in
theorem gX1_lastOfFirstHandle_X0_size : GoodIn wsX1_lastOfFirstHandle (wsV RX1 57 RX0 yX0_size wsX0_size) := goodIn_app (goodIn_of _ (by decide +kernel)) ggX1_lastOfFirstHandle_X0_size
set_option maxRecDepth 20000 in
theorem ggX1_lastOfFirstHandle_X1_firstOfHandle : GoodIn wsX1_lastOfFirstHandle wsX1_firstOfHandle := goodIn_r _ [10, 11, 12, 13, 4, 14, 6, 15, 16, 17, 9, 18, 19, 20] (by decide +kernel) (by decide +kernel)
set_option maxRecDepth 20000 in
theorem gX1_lastOfFirstHandle_X1_firstOfHandle : GoodIn wsX1_lastOfFirstHandle (va_wsS RX1 110 yX1_firstOfHandle wsX1_firstOfHandle) := goodIn_app (goodIn_of _ (by decide +kernel)) ggX1_lastOfFirstHandle_X1_firstOfHandle
theorem dX1_lastOfFirstHandle_0 : decode cX1_lastOfFirstHandle 0 = .ok (.iload_n 1, 1) := by decide +kernel
theorem dX1_lastOfFirstHandle_1 : decode cX1_lastOfFirstHandle 1 = .ok (.istore_n 2, 1) := by decide +kernel
theorem dX1_lastOfFirstHandle_2 : decode cX1_lastOfFirstHandle 2 = .ok (.iload_n 2, 1) := by decide +kernel
theorem dX1_lastOfFirstHandle_3 : decode cX1_lastOfFirstHandle 3 = .ok (.aload_n 0, 1) := by decide +kernel
theorem dX1_lastOfFirstHandle_4 : decode cX1_lastOfFirstHandle 4 = .ok (.invokevirtual 57, 3) := by decide +kernel
theorem dX1_lastOfFirstHandle_7 : decode cX1_lastOfFirstHandle 7 = .ok (.if_icmp .ge 20, 3) := by decide +kernel
theorem dX1_lastOfFirstHandle_10 : decode cX1_lastOfFirstHandle 10 = .ok (.aload_n 0, 1) := by decide +kernel
theorem dX1_lastOfFirstHandle_11 : decode cX1_lastOfFirstHandle 11 = .ok (.iload_n 2, 1) := by decide +kernel
theorem dX1_lastOfFirstHandle_12 : decode cX1_lastOfFirstHandle 12 = .ok (.invokestatic 110, 3) := by decide +kernel
theorem dX1_lastOfFirstHandle_15 : decode cX1_lastOfFirstHandle 15 = .ok (.iconst (-1), 1) := by decide +kernel
theorem dX1_lastOfFirstHandle_16 : decode cX1_lastOfFirstHandle 16 = .ok (.if_icmp .eq 5, 3) := by decide +kernel
theorem dX1_lastOfFirstHandle_19 : decode cX1_lastOfFirstHandle 19 = .ok (.iload_n 2, 1) := by decide +kernel
theorem dX1_lastOfFirstHandle_20 : decode cX1_lastOfFirstHandle 20 = .ok (.ireturn, 1) := by decide +kernel
theorem dX1_lastOfFirstHandle_21 : decode cX1_lastOfFirstHandle 21 = .ok (.iinc 2 1, 3) := by decide +kernel
theorem dX1_lastOfFirstHandle_24 : decode cX1_lastOfFirstHandle 24 = .ok (.goto (-22), 3) := by decide +kernel
theorem dX1_lastOfFirstHandle_27 : decode cX1_lastOfFirstHandle 27 = .ok (.iconst (-1), 1) := by decide +kernel
theorem dX1_lastOfFirstHandle_28 : decode cX1_lastOfFirstHandle 28 = .ok (.ireturn, 1) := by decide +kernel
set_option maxRecDepth 20000 in
theorem ggX1_firstOfHandle_X0_at : GoodIn wsX1_firstOfHandle wsX0_at := goodIn_r _ [5, 6, 7, 12, 13] (by decide +kernel) (by decide +kernel)
set_option maxRecDepth 20000 in
theorem gX1_firstOfHandle_X0_at : GoodIn wsX1_firstOfHandle (wsV RX1 66 RX0 yX0_at wsX0_at) := goodIn_app (goodIn_of _ (by decide +kernel)) ggX1_firstOfHandle_X0_at
set_option maxRecDepth 20000 in
theorem ggX1_firstOfHandle_X1_heightOf : GoodIn wsX1_firstOfHandle wsX1_heightOf := goodIn_r _ [11] (by decide +kernel) (by decide +kernel)
set_option maxRecDepth 20000 in
theorem gX1_firstOfHandle_X1_heightOf : GoodIn wsX1_firstOfHandle (va_wsS RX1 190 yX1_heightOf wsX1_heightOf) := goodIn_app (goodIn_of _ (by decide +kernel)) ggX1_firstOfHandle_X1_heightOf
theorem dX1_firstOfHandle_0 : decode cX1_firstOfHandle 0 = .ok (.aload_n 0, 1) := by decide +kernel
theorem dX1_firstOfHandle_1 : decode cX1_firstOfHandle 1 = .ok (.iload_n 1, 1) := by decide +kernel
theorem dX1_firstOfHandle_2 : decode cX1_firstOfHandle 2 = .ok (.invokevirtual 66, 3) := by decide +kernel
theorem dX1_firstOfHandle_5 : decode cX1_firstOfHandle 5 = .ok (.istore_n 2, 1) := by decide +kernel
theorem dX1_firstOfHandle_6 : decode cX1_firstOfHandle 6 = .ok (.iload_n 2, 1) := by decide +kernel
theorem dX1_firstOfHandle_7 : decode cX1_firstOfHandle 7 = .ok (.invokestatic 190, 3) := by decide +kernel
theorem dX1_firstOfHandle_10 : decode cX1_firstOfHandle 10 = .ok (.istore_n 3, 1) := by decide +kernel
theorem dX1_firstOfHandle_11 : decode cX1_firstOfHandle 11 = .ok (.iload_n 1, 1) := by decide +kernel
theorem dX1_firstOfHandle_12 : decode cX1_firstOfHandle 12 = .ok (.iconst 1, 1) := by decide +kernel
theorem dX1_firstOfHandle_13 : decode cX1_firstOfHandle 13 = .ok (.isub, 1) := by decide +kernel
theorem dX1_firstOfHandle_14 : decode cX1_firstOfHandle 14 = .ok (.istore 4, 2) := by decide +kernel
theorem dX1_firstOfHandle_16 : decode cX1_firstOfHandle 16 = .ok (.iload 4, 2) := by decide +kernel
theorem dX1_firstOfHandle_18 : decode cX1_firstOfHandle 18 = .ok (.ifCond .lt 49, 3) := by decide +kernel
theorem dX1_firstOfHandle_21 : decode cX1_firstOfHandle 21 = .ok (.aload_n 0, 1) := by decide +kernel
theorem dX1_firstOfHandle_22 : decode cX1_firstOfHandle 22 = .ok (.iload 4, 2) := by decide +kernel
theorem dX1_firstOfHandle_24 : decode cX1_firstOfHandle 24 = .ok (.invokevirtual 66, 3) := by decide +kernel
theorem dX1_firstOfHandle_27 : decode cX1_firstOfHandle 27 = .ok (.istore 5, 2) := by decide +kernel
theorem dX1_firstOfHandle_29 : decode cX1_firstOfHandle 29 = .ok (.iload 5, 2) := by decide +kernel
theorem dX1_firstOfHandle_31 : decode cX1_firstOfHandle 31 = .ok (.iload_n 2, 1) := by decide +kernel
theorem dX1_firstOfHandle_32 : decode cX1_firstOfHandle 32 = .ok (.ineg, 1) := by decide +kernel
theorem dX1_firstOfHandle_33 : decode cX1_firstOfHandle 33 = .ok (.if_icmp .ne 6, 3) := by decide +kernel
theorem dX1_firstOfHandle_36 : decode cX1_firstOfHandle 36 = .ok (.iload 4, 2) := by decide +kernel
theorem dX1_firstOfHandle_38 : decode cX1_firstOfHandle 38 = .ok (.ireturn, 1) := by decide +kernel
theorem dX1_firstOfHandle_39 : decode cX1_firstOfHandle 39 = .ok (.iload 5, 2) := by decide +kernel
theorem dX1_firstOfHandle_41 : decode cX1_firstOfHandle 41 = .ok (.invokestatic 190, 3) := by decide +kernel
theorem dX1_firstOfHandle_44 : decode cX1_firstOfHandle 44 = .ok (.iload_n 3, 1) := by decide +kernel
theorem dX1_firstOfHandle_45 : decode cX1_firstOfHandle 45 = .ok (.if_icmp .eq 14, 3) := by decide +kernel
theorem dX1_firstOfHandle_48 : decode cX1_firstOfHandle 48 = .ok (.iload 5, 2) := by decide +kernel
theorem dX1_firstOfHandle_50 : decode cX1_firstOfHandle 50 = .ok (.invokestatic 190, 3) := by decide +kernel
theorem dX1_firstOfHandle_53 : decode cX1_firstOfHandle 53 = .ok (.iload_n 3, 1) := by decide +kernel
theorem dX1_firstOfHandle_54 : decode cX1_firstOfHandle 54 = .ok (.iconst 1, 1) := by decide +kernel
theorem dX1_firstOfHandle_55 : decode cX1_firstOfHandle 55 = .ok (.isub, 1) := by decide +kernel
theorem dX1_firstOfHandle_56 : decode cX1_firstOfHandle 56 = .ok (.if_icmp .ne 5, 3) := by decide +kernel
theorem dX1_firstOfHandle_59 : decode cX1_firstOfHandle 59 = .ok (.iconst (-1), 1) := by decide +kernel
theorem dX1_firstOfHandle_60 : decode cX1_firstOfHandle 60 = .ok (.ireturn, 1) := by decide +kernel
theorem dX1_firstOfHandle_61 : decode cX1_firstOfHandle 61 = .ok (.iinc 4 (-1), 3) := by decide +kernel
theorem dX1_firstOfHandle_64 : decode cX1_firstOfHandle 64 = .ok (.goto (-48), 3) := by decide +kernel
theorem dX1_firstOfHandle_67 : decode cX1_firstOfHandle 67 = .ok (.iconst (-1), 1) := by decide +kernel
theorem dX1_firstOfHandle_68 : decode cX1_firstOfHandle 68 = .ok (.ireturn, 1) := by decide +kernel
set_option maxRecDepth 20000 in
theorem ggX1_moreByCutting_X0_at : GoodIn wsX1_moreByCutting wsX0_at := goodIn_r _ [5, 6, 7, 12, 13] (by decide +kernel) (by decide +kernel)
set_option maxRecDepth 20000 in
theorem gX1_moreByCutting_X0_at : GoodIn wsX1_moreByCutting (wsV RX1 66 RX0 yX0_at wsX0_at) := goodIn_app (goodIn_of _ (by decide +kernel)) ggX1_moreByCutting_X0_at
set_option maxRecDepth 20000 in
theorem ggX1_moreByCutting_X1_heightOf : GoodIn wsX1_moreByCutting wsX1_heightOf := goodIn_r _ [11] (by decide +kernel) (by decide +kernel)
set_option maxRecDepth 20000 in
theorem gX1_moreByCutting_X1_heightOf : GoodIn wsX1_moreByCutting (va_wsS RX1 190 yX1_heightOf wsX1_heightOf) := goodIn_app (goodIn_of _ (by decide +kernel)) ggX1_moreByCutting_X1_heightOf
theorem dX1_moreByCutting_0 : decode cX1_moreByCutting 0 = .ok (.aload_n 0, 1) := by decide +kernel
theorem dX1_moreByCutting_1 : decode cX1_moreByCutting 1 = .ok (.iload_n 1, 1) := by decide +kernel
theorem dX1_moreByCutting_2 : decode cX1_moreByCutting 2 = .ok (.invokevirtual 66, 3) := by decide +kernel
theorem dX1_moreByCutting_5 : decode cX1_moreByCutting 5 = .ok (.invokestatic 190, 3) := by decide +kernel
theorem dX1_moreByCutting_8 : decode cX1_moreByCutting 8 = .ok (.iconst 1, 1) := by decide +kernel
theorem dX1_moreByCutting_9 : decode cX1_moreByCutting 9 = .ok (.iadd, 1) := by decide +kernel
theorem dX1_moreByCutting_10 : decode cX1_moreByCutting 10 = .ok (.istore_n 3, 1) := by decide +kernel
theorem dX1_moreByCutting_11 : decode cX1_moreByCutting 11 = .ok (.bipush (-2), 2) := by decide +kernel
theorem dX1_moreByCutting_13 : decode cX1_moreByCutting 13 = .ok (.istore 4, 2) := by decide +kernel
theorem dX1_moreByCutting_15 : decode cX1_moreByCutting 15 = .ok (.iload_n 1, 1) := by decide +kernel
theorem dX1_moreByCutting_16 : decode cX1_moreByCutting 16 = .ok (.iconst 1, 1) := by decide +kernel
theorem dX1_moreByCutting_17 : decode cX1_moreByCutting 17 = .ok (.iadd, 1) := by decide +kernel
theorem dX1_moreByCutting_18 : decode cX1_moreByCutting 18 = .ok (.istore 5, 2) := by decide +kernel
theorem dX1_moreByCutting_20 : decode cX1_moreByCutting 20 = .ok (.iload 5, 2) := by decide +kernel
theorem dX1_moreByCutting_22 : decode cX1_moreByCutting 22 = .ok (.iload_n 2, 1) := by decide +kernel
theorem dX1_moreByCutting_23 : decode cX1_moreByCutting 23 = .ok (.if_icmp .ge 25, 3) := by decide +kernel
theorem dX1_moreByCutting_26 : decode cX1_moreByCutting 26 = .ok (.aload_n 0, 1) := by decide +kernel
theorem dX1_moreByCutting_27 : decode cX1_moreByCutting 27 = .ok (.iload 5, 2) := by decide +kernel
theorem dX1_moreByCutting_29 : decode cX1_moreByCutting 29 = .ok (.invokevirtual 66, 3) := by decide +kernel
theorem dX1_moreByCutting_32 : decode cX1_moreByCutting 32 = .ok (.invokestatic 190, 3) := by decide +kernel
theorem dX1_moreByCutting_35 : decode cX1_moreByCutting 35 = .ok (.iload_n 3, 1) := by decide +kernel
theorem dX1_moreByCutting_36 : decode cX1_moreByCutting 36 = .ok (.if_icmp .ne 6, 3) := by decide +kernel
theorem dX1_moreByCutting_39 : decode cX1_moreByCutting 39 = .ok (.iinc 4 2, 3) := by decide +kernel
theorem dX1_moreByCutting_42 : decode cX1_moreByCutting 42 = .ok (.iinc 5 1, 3) := by decide +kernel
theorem dX1_moreByCutting_45 : decode cX1_moreByCutting 45 = .ok (.goto (-25), 3) := by decide +kernel
theorem dX1_moreByCutting_48 : decode cX1_moreByCutting 48 = .ok (.iload 4, 2) := by decide +kernel
theorem dX1_moreByCutting_50 : decode cX1_moreByCutting 50 = .ok (.ireturn, 1) := by decide +kernel
set_option maxRecDepth 20000 in
theorem ggX1_cutHandle_X0_at : GoodIn wsX1_cutHandle wsX0_at := goodIn_r _ [6, 7, 8, 40, 41] (by decide +kernel) (by decide +kernel)
set_option maxRecDepth 20000 in
theorem gX1_cutHandle_X0_at : GoodIn wsX1_cutHandle (wsV RX1 66 RX0 yX0_at wsX0_at) := goodIn_app (goodIn_of _ (by decide +kernel)) ggX1_cutHandle_X0_at
set_option maxRecDepth 20000 in
theorem ggX1_cutHandle_X1_heightOf : GoodIn wsX1_cutHandle wsX1_heightOf := goodIn_r _ [12] (by decide +kernel) (by decide +kernel)
set_option maxRecDepth 20000 in
theorem gX1_cutHandle_X1_heightOf : GoodIn wsX1_cutHandle (va_wsS RX1 190 yX1_heightOf wsX1_heightOf) := goodIn_app (goodIn_of _ (by decide +kernel)) ggX1_cutHandle_X1_heightOf
set_option maxRecDepth 20000 in
theorem ggX1_cutHandle_X0_clear : GoodIn wsX1_cutHandle wsX0_clear := goodIn_r _ [16, 7, 40, 41] (by decide +kernel) (by decide +kernel)
set_option maxRecDepth 20000 in
theorem gX1_cutHandle_X0_clear : GoodIn wsX1_cutHandle (wsV RX1 36 RX0 yX0_clear wsX0_clear) := goodIn_app (goodIn_of _ (by decide +kernel)) ggX1_cutHandle_X0_clear
set_option maxRecDepth 20000 in
theorem ggX1_cutHandle_X0_size : GoodIn wsX1_cutHandle wsX0_size := goodIn_r _ [20, 7, 40, 41] (by decide +kernel) (by decide +kernel)
set_option maxRecDepth 20000 in
theorem gX1_cutHandle_X0_size : GoodIn wsX1_cutHandle (wsV RX1 57 RX0 yX0_size wsX0_size) := goodIn_app (goodIn_of _ (by decide +kernel)) ggX1_cutHandle_X0_size
set_option maxRecDepth 20000 in
theorem ggX1_cutHandle_X1_signOf : GoodIn wsX1_cutHandle wsX1_signOf := goodIn_r _ [23] (by decide +kernel) (by decide +kernel)
set_option maxRecDepth 20000 in
theorem gX1_cutHandle_X1_signOf : GoodIn wsX1_cutHandle (va_wsS RX1 96 yX1_signOf wsX1_signOf) := goodIn_app (goodIn_of _ (by decide +kernel)) ggX1_cutHandle_X1_signOf
set_option maxRecDepth 20000 in
theorem ggX1_cutHandle_X0_add : GoodIn wsX1_cutHandle wsX0_add := goodIn_r _ [27, 7, 8, 40, 41] (by decide +kernel) (by decide +kernel)
set_option maxRecDepth 20000 in
theorem gX1_cutHandle_X0_add : GoodIn wsX1_cutHandle (wsV RX1 54 RX0 yX0_add wsX0_add) := goodIn_app (goodIn_of _ (by decide +kernel)) ggX1_cutHandle_X0_add
set_option maxRecDepth 20000 in
theorem ggX1_cutHandle_X0_copy : GoodIn wsX1_cutHandle wsX0_copy := goodIn_r _ [31, 7, 32, 18, 19, 5, 20, 33, 3, 4, 6, 8, 34, 25, 26, 27, 40, 41] (by decide +kernel) (by decide +kernel)
set_option maxRecDepth 20000 in
theorem gX1_cutHandle_X0_copy : GoodIn wsX1_cutHandle (wsV RX1 77 RX0 yX0_copy wsX0_copy) := goodIn_app (goodIn_of _ (by decide +kernel)) ggX1_cutHandle_X0_copy
theorem dX1_cutHandle_0 : decode cX1_cutHandle 0 = .ok (.aload_n 1, 1) := by decide +kernel
theorem dX1_cutHandle_1 : decode cX1_cutHandle 1 = .ok (.iload_n 2, 1) := by decide +kernel
theorem dX1_cutHandle_2 : decode cX1_cutHandle 2 = .ok (.invokevirtual 66, 3) := by decide +kernel
theorem dX1_cutHandle_5 : decode cX1_cutHandle 5 = .ok (.istore 4, 2) := by decide +kernel
theorem dX1_cutHandle_7 : decode cX1_cutHandle 7 = .ok (.iload 4, 2) := by decide +kernel
theorem dX1_cutHandle_9 : decode cX1_cutHandle 9 = .ok (.invokestatic 190, 3) := by decide +kernel
theorem dX1_cutHandle_12 : decode cX1_cutHandle 12 = .ok (.iconst 1, 1) := by decide +kernel
theorem dX1_cutHandle_13 : decode cX1_cutHandle 13 = .ok (.iadd, 1) := by decide +kernel
theorem dX1_cutHandle_14 : decode cX1_cutHandle 14 = .ok (.istore 5, 2) := by decide +kernel
theorem dX1_cutHandle_16 : decode cX1_cutHandle 16 = .ok (.aload_n 0, 1) := by decide +kernel
theorem dX1_cutHandle_17 : decode cX1_cutHandle 17 = .ok (.getfield 22, 3) := by decide +kernel
theorem dX1_cutHandle_20 : decode cX1_cutHandle 20 = .ok (.invokevirtual 36, 3) := by decide +kernel
theorem dX1_cutHandle_23 : decode cX1_cutHandle 23 = .ok (.iconst 0, 1) := by decide +kernel
theorem dX1_cutHandle_24 : decode cX1_cutHandle 24 = .ok (.istore 6, 2) := by decide +kernel
theorem dX1_cutHandle_26 : decode cX1_cutHandle 26 = .ok (.iload 6, 2) := by decide +kernel
theorem dX1_cutHandle_28 : decode cX1_cutHandle 28 = .ok (.aload_n 1, 1) := by decide +kernel
theorem dX1_cutHandle_29 : decode cX1_cutHandle 29 = .ok (.invokevirtual 57, 3) := by decide +kernel
theorem dX1_cutHandle_32 : decode cX1_cutHandle 32 = .ok (.if_icmp .ge 115, 3) := by decide +kernel
theorem dX1_cutHandle_35 : decode cX1_cutHandle 35 = .ok (.aload_n 1, 1) := by decide +kernel
theorem dX1_cutHandle_36 : decode cX1_cutHandle 36 = .ok (.iload 6, 2) := by decide +kernel
theorem dX1_cutHandle_38 : decode cX1_cutHandle 38 = .ok (.invokevirtual 66, 3) := by decide +kernel
theorem dX1_cutHandle_41 : decode cX1_cutHandle 41 = .ok (.istore 7, 2) := by decide +kernel
theorem dX1_cutHandle_43 : decode cX1_cutHandle 43 = .ok (.iload 6, 2) := by decide +kernel
theorem dX1_cutHandle_45 : decode cX1_cutHandle 45 = .ok (.iload_n 2, 1) := by decide +kernel
theorem dX1_cutHandle_46 : decode cX1_cutHandle 46 = .ok (.if_icmp .eq 95, 3) := by decide +kernel
theorem dX1_cutHandle_49 : decode cX1_cutHandle 49 = .ok (.iload 6, 2) := by decide +kernel
theorem dX1_cutHandle_51 : decode cX1_cutHandle 51 = .ok (.iload_n 3, 1) := by decide +kernel
theorem dX1_cutHandle_52 : decode cX1_cutHandle 52 = .ok (.if_icmp .ne 6, 3) := by decide +kernel
theorem dX1_cutHandle_55 : decode cX1_cutHandle 55 = .ok (.goto 86, 3) := by decide +kernel
theorem dX1_cutHandle_58 : decode cX1_cutHandle 58 = .ok (.iload 6, 2) := by decide +kernel
theorem dX1_cutHandle_60 : decode cX1_cutHandle 60 = .ok (.iload_n 2, 1) := by decide +kernel
theorem dX1_cutHandle_61 : decode cX1_cutHandle 61 = .ok (.if_icmp .le 71, 3) := by decide +kernel
theorem dX1_cutHandle_64 : decode cX1_cutHandle 64 = .ok (.iload 6, 2) := by decide +kernel
theorem dX1_cutHandle_66 : decode cX1_cutHandle 66 = .ok (.iload_n 3, 1) := by decide +kernel
theorem dX1_cutHandle_67 : decode cX1_cutHandle 67 = .ok (.if_icmp .ge 65, 3) := by decide +kernel
theorem dX1_cutHandle_70 : decode cX1_cutHandle 70 = .ok (.iload 7, 2) := by decide +kernel
theorem dX1_cutHandle_72 : decode cX1_cutHandle 72 = .ok (.invokestatic 190, 3) := by decide +kernel
theorem dX1_cutHandle_75 : decode cX1_cutHandle 75 = .ok (.iload 5, 2) := by decide +kernel
theorem dX1_cutHandle_77 : decode cX1_cutHandle 77 = .ok (.if_icmp .ne 55, 3) := by decide +kernel
theorem dX1_cutHandle_80 : decode cX1_cutHandle 80 = .ok (.aload_n 0, 1) := by decide +kernel
theorem dX1_cutHandle_81 : decode cX1_cutHandle 81 = .ok (.getfield 22, 3) := by decide +kernel
theorem dX1_cutHandle_84 : decode cX1_cutHandle 84 = .ok (.iload 4, 2) := by decide +kernel
theorem dX1_cutHandle_86 : decode cX1_cutHandle 86 = .ok (.invokestatic 96, 3) := by decide +kernel
theorem dX1_cutHandle_89 : decode cX1_cutHandle 89 = .ok (.ineg, 1) := by decide +kernel
theorem dX1_cutHandle_90 : decode cX1_cutHandle 90 = .ok (.iload 5, 2) := by decide +kernel
theorem dX1_cutHandle_92 : decode cX1_cutHandle 92 = .ok (.imul, 1) := by decide +kernel
theorem dX1_cutHandle_93 : decode cX1_cutHandle 93 = .ok (.invokevirtual 54, 3) := by decide +kernel
theorem dX1_cutHandle_96 : decode cX1_cutHandle 96 = .ok (.aload_n 0, 1) := by decide +kernel
theorem dX1_cutHandle_97 : decode cX1_cutHandle 97 = .ok (.getfield 22, 3) := by decide +kernel
theorem dX1_cutHandle_100 : decode cX1_cutHandle 100 = .ok (.iload 7, 2) := by decide +kernel
theorem dX1_cutHandle_102 : decode cX1_cutHandle 102 = .ok (.invokestatic 96, 3) := by decide +kernel
theorem dX1_cutHandle_105 : decode cX1_cutHandle 105 = .ok (.iload 4, 2) := by decide +kernel
theorem dX1_cutHandle_107 : decode cX1_cutHandle 107 = .ok (.invokestatic 190, 3) := by decide +kernel
theorem dX1_cutHandle_110 : decode cX1_cutHandle 110 = .ok (.imul, 1) := by decide +kernel
theorem dX1_cutHandle_111 : decode cX1_cutHandle 111 = .ok (.invokevirtual 54, 3) := by decide +kernel
theorem dX1_cutHandle_114 : decode cX1_cutHandle 114 = .ok (.aload_n 0, 1) := by decide +kernel
theorem dX1_cutHandle_115 : decode cX1_cutHandle 115 = .ok (.getfield 22, 3) := by decide +kernel
theorem dX1_cutHandle_118 : decode cX1_cutHandle 118 = .ok (.iload 4, 2) := by decide +kernel
theorem dX1_cutHandle_120 : decode cX1_cutHandle 120 = .ok (.invokestatic 96, 3) := by decide +kernel
theorem dX1_cutHandle_123 : decode cX1_cutHandle 123 = .ok (.iload 5, 2) := by decide +kernel
theorem dX1_cutHandle_125 : decode cX1_cutHandle 125 = .ok (.imul, 1) := by decide +kernel
theorem dX1_cutHandle_126 : decode cX1_cutHandle 126 = .ok (.invokevirtual 54, 3) := by decide +kernel
theorem dX1_cutHandle_129 : decode cX1_cutHandle 129 = .ok (.goto 12, 3) := by decide +kernel
theorem dX1_cutHandle_132 : decode cX1_cutHandle 132 = .ok (.aload_n 0, 1) := by decide +kernel
theorem dX1_cutHandle_133 : decode cX1_cutHandle 133 = .ok (.getfield 22, 3) := by decide +kernel
theorem dX1_cutHandle_136 : decode cX1_cutHandle 136 = .ok (.iload 7, 2) := by decide +kernel
theorem dX1_cutHandle_138 : decode cX1_cutHandle 138 = .ok (.invokevirtual 54, 3) := by decide +kernel
theorem dX1_cutHandle_141 : decode cX1_cutHandle 141 = .ok (.iinc 6 1, 3) := by decide +kernel
theorem dX1_cutHandle_144 : decode cX1_cutHandle 144 = .ok (.goto (-118), 3) := by decide +kernel
theorem dX1_cutHandle_147 : decode cX1_cutHandle 147 = .ok (.aload_n 1, 1) := by decide +kernel
theorem dX1_cutHandle_148 : decode cX1_cutHandle 148 = .ok (.aload_n 0, 1) := by decide +kernel
theorem dX1_cutHandle_149 : decode cX1_cutHandle 149 = .ok (.getfield 22, 3) := by decide +kernel
theorem dX1_cutHandle_152 : decode cX1_cutHandle 152 = .ok (.invokevirtual 77, 3) := by decide +kernel
theorem dX1_cutHandle_155 : decode cX1_cutHandle 155 = .ok (.return_, 1) := by decide +kernel
set_option maxRecDepth 20000 in
theorem ggX1_handleAnswer_X1_lastOfFirstHandle : GoodIn wsX1_handleAnswer wsX1_lastOfFirstHandle := goodIn_r _ [4, 5, 6, 7, 8, 9, 10, 11, 12, 3, 13, 14, 15, 16, 17, 18, 19, 20, 21, 25, 26] (by decide +kernel) (by decide +kernel)
set_option maxRecDepth 20000 in
theorem gX1_handleAnswer_X1_lastOfFirstHandle : GoodIn wsX1_handleAnswer (va_wsS RX1 104 yX1_lastOfFirstHandle wsX1_lastOfFirstHandle) := goodIn_app (goodIn_of _ (by decide +kernel)) ggX1_handleAnswer_X1_lastOfFirstHandle
set_option maxRecDepth 20000 in
theorem ggX1_handleAnswer_X1_firstOfHandle : GoodIn wsX1_handleAnswer wsX1_firstOfHandle := goodIn_r _ [13, 14, 15, 16, 8, 17, 10, 18, 19, 20, 3, 21, 25, 26] (by decide +kernel) (by decide +kernel)
set_option maxRecDepth 20000 in
theorem gX1_handleAnswer_X1_firstOfHandle : GoodIn wsX1_handleAnswer (va_wsS RX1 110 yX1_firstOfHandle wsX1_firstOfHandle) := goodIn_app (goodIn_of _ (by decide +kernel)) ggX1_handleAnswer_X1_firstOfHandle
set_option maxRecDepth 20000 in
theorem ggX1_handleAnswer_X1_moreByCutting : GoodIn wsX1_handleAnswer wsX1_moreByCutting := goodIn_r _ [24, 14, 15, 16, 8, 17, 10, 18, 19, 20, 3, 21, 25, 26] (by decide +kernel) (by decide +kernel)
set_option maxRecDepth 20000 in
theorem gX1_handleAnswer_X1_moreByCutting : GoodIn wsX1_handleAnswer (va_wsS RX1 113 yX1_moreByCutting wsX1_moreByCutting) := goodIn_app (goodIn_of _ (by decide +kernel)) ggX1_handleAnswer_X1_moreByCutting
theorem dX1_handleAnswer_0 : decode cX1_handleAnswer 0 = .ok (.aload_n 0, 1) := by decide +kernel
theorem dX1_handleAnswer_1 : decode cX1_handleAnswer 1 = .ok (.iconst 0, 1) := by decide +kernel
theorem dX1_handleAnswer_2 : decode cX1_handleAnswer 2 = .ok (.invokestatic 104, 3) := by decide +kernel
theorem dX1_handleAnswer_5 : decode cX1_handleAnswer 5 = .ok (.istore_n 2, 1) := by decide +kernel
theorem dX1_handleAnswer_6 : decode cX1_handleAnswer 6 = .ok (.iload_n 2, 1) := by decide +kernel
theorem dX1_handleAnswer_7 : decode cX1_handleAnswer 7 = .ok (.iconst (-1), 1) := by decide +kernel
theorem dX1_handleAnswer_8 : decode cX1_handleAnswer 8 = .ok (.if_icmp .ne 14, 3) := by decide +kernel
theorem dX1_handleAnswer_11 : decode cX1_handleAnswer 11 = .ok (.iload_n 1, 1) := by decide +kernel
theorem dX1_handleAnswer_12 : decode cX1_handleAnswer 12 = .ok (.iconst 2, 1) := by decide +kernel
theorem dX1_handleAnswer_13 : decode cX1_handleAnswer 13 = .ok (.if_icmp .ne 7, 3) := by decide +kernel
theorem dX1_handleAnswer_16 : decode cX1_handleAnswer 16 = .ok (.iconst 0, 1) := by decide +kernel
theorem dX1_handleAnswer_17 : decode cX1_handleAnswer 17 = .ok (.goto 4, 3) := by decide +kernel
theorem dX1_handleAnswer_20 : decode cX1_handleAnswer 20 = .ok (.iconst (-1), 1) := by decide +kernel
theorem dX1_handleAnswer_21 : decode cX1_handleAnswer 21 = .ok (.ireturn, 1) := by decide +kernel
theorem dX1_handleAnswer_22 : decode cX1_handleAnswer 22 = .ok (.aload_n 0, 1) := by decide +kernel
theorem dX1_handleAnswer_23 : decode cX1_handleAnswer 23 = .ok (.iload_n 2, 1) := by decide +kernel
theorem dX1_handleAnswer_24 : decode cX1_handleAnswer 24 = .ok (.invokestatic 110, 3) := by decide +kernel
theorem dX1_handleAnswer_27 : decode cX1_handleAnswer 27 = .ok (.istore_n 3, 1) := by decide +kernel
theorem dX1_handleAnswer_28 : decode cX1_handleAnswer 28 = .ok (.iload_n 1, 1) := by decide +kernel
theorem dX1_handleAnswer_29 : decode cX1_handleAnswer 29 = .ok (.lookupswitch 31 #[(0, 27), (1, 29)], 27) := by decide +kernel
theorem dX1_handleAnswer_56 : decode cX1_handleAnswer 56 = .ok (.iload_n 3, 1) := by decide +kernel
theorem dX1_handleAnswer_57 : decode cX1_handleAnswer 57 = .ok (.ireturn, 1) := by decide +kernel
theorem dX1_handleAnswer_58 : decode cX1_handleAnswer 58 = .ok (.iload_n 2, 1) := by decide +kernel
theorem dX1_handleAnswer_59 : decode cX1_handleAnswer 59 = .ok (.ireturn, 1) := by decide +kernel
theorem dX1_handleAnswer_60 : decode cX1_handleAnswer 60 = .ok (.aload_n 0, 1) := by decide +kernel
theorem dX1_handleAnswer_61 : decode cX1_handleAnswer 61 = .ok (.iload_n 3, 1) := by decide +kernel
theorem dX1_handleAnswer_62 : decode cX1_handleAnswer 62 = .ok (.iload_n 2, 1) := by decide +kernel
theorem dX1_handleAnswer_63 : decode cX1_handleAnswer 63 = .ok (.invokestatic 113, 3) := by decide +kernel
theorem dX1_handleAnswer_66 : decode cX1_handleAnswer 66 = .ok (.ireturn, 1) := by decide +kernel
set_option maxRecDepth 20000 in
theorem ggX1_makeThoughtPlain_X1_lastOfFirstHandle : GoodIn wsX1_makeThoughtPlain wsX1_lastOfFirstHandle := goodIn_r _ [5, 6, 7, 8, 9, 10, 11, 12, 13, 4, 14, 15, 16, 17, 18, 19, 20, 21, 22, 54, 55] (by decide +kernel) (by decide +kernel)
set_option maxRecDepth 20000 in
theorem gX1_makeThoughtPlain_X1_lastOfFirstHandle : GoodIn wsX1_makeThoughtPlain (va_wsS RX1 104 yX1_lastOfFirstHandle wsX1_lastOfFirstHandle) := goodIn_app (goodIn_of _ (by decide +kernel)) ggX1_makeThoughtPlain_X1_lastOfFirstHandle
set_option maxRecDepth 20000 in
theorem ggX1_makeThoughtPlain_X1_firstOfHandle : GoodIn wsX1_makeThoughtPlain wsX1_firstOfHandle := goodIn_r _ [14, 15, 16, 17, 9, 18, 11, 19, 20, 21, 4, 22, 54, 55] (by decide +kernel) (by decide +kernel)
set_option maxRecDepth 20000 in
theorem gX1_makeThoughtPlain_X1_firstOfHandle : GoodIn wsX1_makeThoughtPlain (va_wsS RX1 110 yX1_firstOfHandle wsX1_firstOfHandle) := goodIn_app (goodIn_of _ (by decide +kernel)) ggX1_makeThoughtPlain_X1_firstOfHandle
set_option maxRecDepth 20000 in
theorem ggX1_makeThoughtPlain_X0_size : GoodIn wsX1_makeThoughtPlain wsX0_size := goodIn_r _ [10, 11, 54, 55] (by decide +kernel) (by decide +kernel)
set_option maxRecDepth 20000 in
theorem gX1_makeThoughtPlain_X0_size : GoodIn wsX1_makeThoughtPlain (wsV RX1 57 RX0 yX0_size wsX0_size) := goodIn_app (goodIn_of _ (by decide +kernel)) ggX1_makeThoughtPlain_X0_size
set_option maxRecDepth 20000 in
theorem ggX1_makeThoughtPlain_X1_moreByCutting : GoodIn wsX1_makeThoughtPlain wsX1_moreByCutting := goodIn_r _ [25, 15, 16, 17, 9, 18, 11, 19, 20, 21, 4, 22, 54, 55] (by decide +kernel) (by decide +kernel)
set_option maxRecDepth 20000 in
theorem gX1_makeThoughtPlain_X1_moreByCutting : GoodIn wsX1_makeThoughtPlain (va_wsS RX1 113 yX1_moreByCutting wsX1_moreByCutting) := goodIn_app (goodIn_of _ (by decide +kernel)) ggX1_makeThoughtPlain_X1_moreByCutting
set_option maxRecDepth 20000 in
theorem ggX1_makeThoughtPlain_X1_cutHandle : GoodIn wsX1_makeThoughtPlain wsX1_cutHandle := goodIn_r _ [29, 30, 15, 16, 17, 9, 18, 11, 19, 20, 21, 4, 22, 31, 32, 33, 34, 6, 7, 8, 10, 35, 36, 37, 38, 39, 40, 41, 42, 43, 44, 45, 46, 47, 48, 49, 50, 51, 52, 53, 54, 55] (by decide +kernel) (by decide +kernel)
set_option maxRecDepth 20000 in
theorem gX1_makeThoughtPlain_X1_cutHandle : GoodIn wsX1_makeThoughtPlain (wsV RX1 117 RX1 yX1_cutHandle wsX1_cutHandle) := goodIn_app (goodIn_of _ (by decide +kernel)) ggX1_makeThoughtPlain_X1_cutHandle
theorem dX1_makeThoughtPlain_0 : decode cX1_makeThoughtPlain 0 = .ok (.iconst 0, 1) := by decide +kernel
theorem dX1_makeThoughtPlain_1 : decode cX1_makeThoughtPlain 1 = .ok (.istore_n 1, 1) := by decide +kernel
theorem dX1_makeThoughtPlain_2 : decode cX1_makeThoughtPlain 2 = .ok (.iconst 0, 1) := by decide +kernel
theorem dX1_makeThoughtPlain_3 : decode cX1_makeThoughtPlain 3 = .ok (.istore_n 2, 1) := by decide +kernel
theorem dX1_makeThoughtPlain_4 : decode cX1_makeThoughtPlain 4 = .ok (.iload_n 2, 1) := by decide +kernel
theorem dX1_makeThoughtPlain_5 : decode cX1_makeThoughtPlain 5 = .ok (.bipush 100, 2) := by decide +kernel
theorem dX1_makeThoughtPlain_7 : decode cX1_makeThoughtPlain 7 = .ok (.if_icmp .gt 75, 3) := by decide +kernel
theorem dX1_makeThoughtPlain_10 : decode cX1_makeThoughtPlain 10 = .ok (.aload_n 0, 1) := by decide +kernel
theorem dX1_makeThoughtPlain_11 : decode cX1_makeThoughtPlain 11 = .ok (.getfield 19, 3) := by decide +kernel
theorem dX1_makeThoughtPlain_14 : decode cX1_makeThoughtPlain 14 = .ok (.iload_n 1, 1) := by decide +kernel
theorem dX1_makeThoughtPlain_15 : decode cX1_makeThoughtPlain 15 = .ok (.invokestatic 104, 3) := by decide +kernel
theorem dX1_makeThoughtPlain_18 : decode cX1_makeThoughtPlain 18 = .ok (.istore_n 3, 1) := by decide +kernel
theorem dX1_makeThoughtPlain_19 : decode cX1_makeThoughtPlain 19 = .ok (.iload_n 3, 1) := by decide +kernel
theorem dX1_makeThoughtPlain_20 : decode cX1_makeThoughtPlain 20 = .ok (.iconst (-1), 1) := by decide +kernel
theorem dX1_makeThoughtPlain_21 : decode cX1_makeThoughtPlain 21 = .ok (.if_icmp .ne 5, 3) := by decide +kernel
theorem dX1_makeThoughtPlain_24 : decode cX1_makeThoughtPlain 24 = .ok (.iload_n 2, 1) := by decide +kernel
theorem dX1_makeThoughtPlain_25 : decode cX1_makeThoughtPlain 25 = .ok (.ireturn, 1) := by decide +kernel
theorem dX1_makeThoughtPlain_26 : decode cX1_makeThoughtPlain 26 = .ok (.aload_n 0, 1) := by decide +kernel
theorem dX1_makeThoughtPlain_27 : decode cX1_makeThoughtPlain 27 = .ok (.getfield 19, 3) := by decide +kernel
theorem dX1_makeThoughtPlain_30 : decode cX1_makeThoughtPlain 30 = .ok (.iload_n 3, 1) := by decide +kernel
theorem dX1_makeThoughtPlain_31 : decode cX1_makeThoughtPlain 31 = .ok (.invokestatic 110, 3) := by decide +kernel
theorem dX1_makeThoughtPlain_34 : decode cX1_makeThoughtPlain 34 = .ok (.istore 4, 2) := by decide +kernel
theorem dX1_makeThoughtPlain_36 : decode cX1_makeThoughtPlain 36 = .ok (.aload_n 0, 1) := by decide +kernel
theorem dX1_makeThoughtPlain_37 : decode cX1_makeThoughtPlain 37 = .ok (.getfield 19, 3) := by decide +kernel
theorem dX1_makeThoughtPlain_40 : decode cX1_makeThoughtPlain 40 = .ok (.invokevirtual 57, 3) := by decide +kernel
theorem dX1_makeThoughtPlain_43 : decode cX1_makeThoughtPlain 43 = .ok (.aload_n 0, 1) := by decide +kernel
theorem dX1_makeThoughtPlain_44 : decode cX1_makeThoughtPlain 44 = .ok (.getfield 19, 3) := by decide +kernel
theorem dX1_makeThoughtPlain_47 : decode cX1_makeThoughtPlain 47 = .ok (.iload 4, 2) := by decide +kernel
theorem dX1_makeThoughtPlain_49 : decode cX1_makeThoughtPlain 49 = .ok (.iload_n 3, 1) := by decide +kernel
theorem dX1_makeThoughtPlain_50 : decode cX1_makeThoughtPlain 50 = .ok (.invokestatic 113, 3) := by decide +kernel
theorem dX1_makeThoughtPlain_53 : decode cX1_makeThoughtPlain 53 = .ok (.iadd, 1) := by decide +kernel
theorem dX1_makeThoughtPlain_54 : decode cX1_makeThoughtPlain 54 = .ok (.bipush 100, 2) := by decide +kernel
theorem dX1_makeThoughtPlain_56 : decode cX1_makeThoughtPlain 56 = .ok (.if_icmp .le 6, 3) := by decide +kernel
theorem dX1_makeThoughtPlain_59 : decode cX1_makeThoughtPlain 59 = .ok (.bipush (-9), 2) := by decide +kernel
theorem dX1_makeThoughtPlain_61 : decode cX1_makeThoughtPlain 61 = .ok (.ireturn, 1) := by decide +kernel
theorem dX1_makeThoughtPlain_62 : decode cX1_makeThoughtPlain 62 = .ok (.aload_n 0, 1) := by decide +kernel
theorem dX1_makeThoughtPlain_63 : decode cX1_makeThoughtPlain 63 = .ok (.aload_n 0, 1) := by decide +kernel
theorem dX1_makeThoughtPlain_64 : decode cX1_makeThoughtPlain 64 = .ok (.getfield 19, 3) := by decide +kernel
theorem dX1_makeThoughtPlain_67 : decode cX1_makeThoughtPlain 67 = .ok (.iload 4, 2) := by decide +kernel
theorem dX1_makeThoughtPlain_69 : decode cX1_makeThoughtPlain 69 = .ok (.iload_n 3, 1) := by decide +kernel
theorem dX1_makeThoughtPlain_70 : decode cX1_makeThoughtPlain 70 = .ok (.invokevirtual 117, 3) := by decide +kernel
theorem dX1_makeThoughtPlain_73 : decode cX1_makeThoughtPlain 73 = .ok (.iload 4, 2) := by decide +kernel
theorem dX1_makeThoughtPlain_75 : decode cX1_makeThoughtPlain 75 = .ok (.istore_n 1, 1) := by decide +kernel
theorem dX1_makeThoughtPlain_76 : decode cX1_makeThoughtPlain 76 = .ok (.iinc 2 1, 3) := by decide +kernel
theorem dX1_makeThoughtPlain_79 : decode cX1_makeThoughtPlain 79 = .ok (.goto (-75), 3) := by decide +kernel
theorem dX1_makeThoughtPlain_82 : decode cX1_makeThoughtPlain 82 = .ok (.bipush (-9), 2) := by decide +kernel
theorem dX1_makeThoughtPlain_84 : decode cX1_makeThoughtPlain 84 = .ok (.ireturn, 1) := by decide +kernel
set_option maxRecDepth 20000 in
theorem ggX1_thinkOfDifference_X0_clear : GoodIn wsX1_thinkOfDifference wsX0_clear := goodIn_r _ [8, 9, 36, 37] (by decide +kernel) (by decide +kernel)
set_option maxRecDepth 20000 in
theorem gX1_thinkOfDifference_X0_clear : GoodIn wsX1_thinkOfDifference (wsV RX1 36 RX0 yX0_clear wsX0_clear) := goodIn_app (goodIn_of _ (by decide +kernel)) ggX1_thinkOfDifference_X0_clear
set_option maxRecDepth 20000 in
theorem ggX1_thinkOfDifference_X0_addTurnedRound : GoodIn wsX1_thinkOfDifference wsX0_addTurnedRound := goodIn_r _ [13, 14, 15, 16, 7, 17, 9, 18, 19, 20, 21, 22, 23, 24, 25, 26, 36, 37] (by decide +kernel) (by decide +kernel)
set_option maxRecDepth 20000 in
theorem gX1_thinkOfDifference_X0_addTurnedRound : GoodIn wsX1_thinkOfDifference (wsV RX1 73 RX0 yX0_addTurnedRound wsX0_addTurnedRound) := goodIn_app (goodIn_of _ (by decide +kernel)) ggX1_thinkOfDifference_X0_addTurnedRound
set_option maxRecDepth 20000 in
theorem ggX1_thinkOfDifference_X0_addAll : GoodIn wsX1_thinkOfDifference wsX0_addAll := goodIn_r _ [30, 14, 15, 16, 7, 17, 9, 18, 19, 20, 21, 22, 23, 24, 25, 26, 36, 37] (by decide +kernel) (by decide +kernel)
set_option maxRecDepth 20000 in
theorem gX1_thinkOfDifference_X0_addAll : GoodIn wsX1_thinkOfDifference (wsV RX1 80 RX0 yX0_addAll wsX0_addAll) := goodIn_app (goodIn_of _ (by decide +kernel)) ggX1_thinkOfDifference_X0_addAll
theorem dX1_thinkOfDifference_0 : decode cX1_thinkOfDifference 0 = .ok (.aload_n 0, 1) := by decide +kernel
theorem dX1_thinkOfDifference_1 : decode cX1_thinkOfDifference 1 = .ok (.getfield 19, 3) := by decide +kernel
theorem dX1_thinkOfDifference_4 : decode cX1_thinkOfDifference 4 = .ok (.invokevirtual 36, 3) := by decide +kernel
theorem dX1_thinkOfDifference_7 : decode cX1_thinkOfDifference 7 = .ok (.aload_n 0, 1) := by decide +kernel
theorem dX1_thinkOfDifference_8 : decode cX1_thinkOfDifference 8 = .ok (.getfield 19, 3) := by decide +kernel
theorem dX1_thinkOfDifference_11 : decode cX1_thinkOfDifference 11 = .ok (.aload_n 0, 1) := by decide +kernel
theorem dX1_thinkOfDifference_12 : decode cX1_thinkOfDifference 12 = .ok (.getfield 10, 3) := by decide +kernel
theorem dX1_thinkOfDifference_15 : decode cX1_thinkOfDifference 15 = .ok (.invokevirtual 73, 3) := by decide +kernel
theorem dX1_thinkOfDifference_18 : decode cX1_thinkOfDifference 18 = .ok (.aload_n 0, 1) := by decide +kernel
theorem dX1_thinkOfDifference_19 : decode cX1_thinkOfDifference 19 = .ok (.getfield 19, 3) := by decide +kernel
theorem dX1_thinkOfDifference_22 : decode cX1_thinkOfDifference 22 = .ok (.aload_n 0, 1) := by decide +kernel
theorem dX1_thinkOfDifference_23 : decode cX1_thinkOfDifference 23 = .ok (.getfield 16, 3) := by decide +kernel
theorem dX1_thinkOfDifference_26 : decode cX1_thinkOfDifference 26 = .ok (.invokevirtual 80, 3) := by decide +kernel
theorem dX1_thinkOfDifference_29 : decode cX1_thinkOfDifference 29 = .ok (.return_, 1) := by decide +kernel
set_option maxRecDepth 20000 in
theorem ggX1_plainAnswer_X0_size : GoodIn wsX1_plainAnswer wsX0_size := goodIn_r _ [6, 7, 28, 29] (by decide +kernel) (by decide +kernel)
set_option maxRecDepth 20000 in
theorem gX1_plainAnswer_X0_size : GoodIn wsX1_plainAnswer (wsV RX1 57 RX0 yX0_size wsX0_size) := goodIn_app (goodIn_of _ (by decide +kernel)) ggX1_plainAnswer_X0_size
set_option maxRecDepth 20000 in
theorem ggX1_plainAnswer_X1_lowestLetter : GoodIn wsX1_plainAnswer wsX1_lowestLetter := goodIn_r _ [11, 12, 13, 14, 5, 15, 7, 16, 2, 3, 4, 6, 17, 18, 10, 19, 28, 29] (by decide +kernel) (by decide +kernel)
set_option maxRecDepth 20000 in
theorem gX1_plainAnswer_X1_lowestLetter : GoodIn wsX1_plainAnswer (va_wsS RX1 199 yX1_lowestLetter wsX1_lowestLetter) := goodIn_app (goodIn_of _ (by decide +kernel)) ggX1_plainAnswer_X1_lowestLetter
set_option maxRecDepth 20000 in
theorem ggX1_plainAnswer_X1_signOf : GoodIn wsX1_plainAnswer wsX1_signOf := goodIn_r _ [22] (by decide +kernel) (by decide +kernel)
set_option maxRecDepth 20000 in
theorem gX1_plainAnswer_X1_signOf : GoodIn wsX1_plainAnswer (va_wsS RX1 96 yX1_signOf wsX1_signOf) := goodIn_app (goodIn_of _ (by decide +kernel)) ggX1_plainAnswer_X1_signOf
set_option maxRecDepth 20000 in
theorem ggX1_plainAnswer_X1_heightOf : GoodIn wsX1_plainAnswer wsX1_heightOf := goodIn_r _ [19] (by decide +kernel) (by decide +kernel)
set_option maxRecDepth 20000 in
theorem gX1_plainAnswer_X1_heightOf : GoodIn wsX1_plainAnswer (va_wsS RX1 190 yX1_heightOf wsX1_heightOf) := goodIn_app (goodIn_of _ (by decide +kernel)) ggX1_plainAnswer_X1_heightOf
theorem dX1_plainAnswer_0 : decode cX1_plainAnswer 0 = .ok (.iload_n 1, 1) := by decide +kernel
theorem dX1_plainAnswer_1 : decode cX1_plainAnswer 1 = .ok (.bipush (-9), 2) := by decide +kernel
theorem dX1_plainAnswer_3 : decode cX1_plainAnswer 3 = .ok (.if_icmp .ne 6, 3) := by decide +kernel
theorem dX1_plainAnswer_6 : decode cX1_plainAnswer 6 = .ok (.bipush (-9), 2) := by decide +kernel
theorem dX1_plainAnswer_8 : decode cX1_plainAnswer 8 = .ok (.ireturn, 1) := by decide +kernel
theorem dX1_plainAnswer_9 : decode cX1_plainAnswer 9 = .ok (.iload_n 2, 1) := by decide +kernel
theorem dX1_plainAnswer_10 : decode cX1_plainAnswer 10 = .ok (.tableswitch 47 0 2 #[26, 34, 36], 26) := by decide +kernel
theorem dX1_plainAnswer_36 : decode cX1_plainAnswer 36 = .ok (.aload_n 0, 1) := by decide +kernel
theorem dX1_plainAnswer_37 : decode cX1_plainAnswer 37 = .ok (.getfield 19, 3) := by decide +kernel
theorem dX1_plainAnswer_40 : decode cX1_plainAnswer 40 = .ok (.invokevirtual 57, 3) := by decide +kernel
theorem dX1_plainAnswer_43 : decode cX1_plainAnswer 43 = .ok (.ireturn, 1) := by decide +kernel
theorem dX1_plainAnswer_44 : decode cX1_plainAnswer 44 = .ok (.iload_n 1, 1) := by decide +kernel
theorem dX1_plainAnswer_45 : decode cX1_plainAnswer 45 = .ok (.ireturn, 1) := by decide +kernel
theorem dX1_plainAnswer_46 : decode cX1_plainAnswer 46 = .ok (.aload_n 0, 1) := by decide +kernel
theorem dX1_plainAnswer_47 : decode cX1_plainAnswer 47 = .ok (.getfield 19, 3) := by decide +kernel
theorem dX1_plainAnswer_50 : decode cX1_plainAnswer 50 = .ok (.invokestatic 199, 3) := by decide +kernel
theorem dX1_plainAnswer_53 : decode cX1_plainAnswer 53 = .ok (.invokestatic 96, 3) := by decide +kernel
theorem dX1_plainAnswer_56 : decode cX1_plainAnswer 56 = .ok (.ireturn, 1) := by decide +kernel
theorem dX1_plainAnswer_57 : decode cX1_plainAnswer 57 = .ok (.aload_n 0, 1) := by decide +kernel
theorem dX1_plainAnswer_58 : decode cX1_plainAnswer 58 = .ok (.getfield 19, 3) := by decide +kernel
theorem dX1_plainAnswer_61 : decode cX1_plainAnswer 61 = .ok (.invokestatic 199, 3) := by decide +kernel
theorem dX1_plainAnswer_64 : decode cX1_plainAnswer 64 = .ok (.invokestatic 190, 3) := by decide +kernel
theorem dX1_plainAnswer_67 : decode cX1_plainAnswer 67 = .ok (.ireturn, 1) := by decide +kernel
set_option maxRecDepth 20000 in
theorem ggX1_sameAnswer_X0_size : GoodIn wsX1_sameAnswer wsX0_size := goodIn_r _ [6, 7, 13, 14] (by decide +kernel) (by decide +kernel)
set_option maxRecDepth 20000 in
theorem gX1_sameAnswer_X0_size : GoodIn wsX1_sameAnswer (wsV RX1 57 RX0 yX0_size wsX0_size) := goodIn_app (goodIn_of _ (by decide +kernel)) ggX1_sameAnswer_X0_size
theorem dX1_sameAnswer_0 : decode cX1_sameAnswer 0 = .ok (.iload_n 1, 1) := by decide +kernel
theorem dX1_sameAnswer_1 : decode cX1_sameAnswer 1 = .ok (.bipush (-9), 2) := by decide +kernel
theorem dX1_sameAnswer_3 : decode cX1_sameAnswer 3 = .ok (.if_icmp .ne 6, 3) := by decide +kernel
theorem dX1_sameAnswer_6 : decode cX1_sameAnswer 6 = .ok (.bipush (-9), 2) := by decide +kernel
theorem dX1_sameAnswer_8 : decode cX1_sameAnswer 8 = .ok (.ireturn, 1) := by decide +kernel
theorem dX1_sameAnswer_9 : decode cX1_sameAnswer 9 = .ok (.aload_n 0, 1) := by decide +kernel
theorem dX1_sameAnswer_10 : decode cX1_sameAnswer 10 = .ok (.getfield 19, 3) := by decide +kernel
theorem dX1_sameAnswer_13 : decode cX1_sameAnswer 13 = .ok (.invokevirtual 57, 3) := by decide +kernel
theorem dX1_sameAnswer_16 : decode cX1_sameAnswer 16 = .ok (.ifCond .ne 7, 3) := by decide +kernel
theorem dX1_sameAnswer_19 : decode cX1_sameAnswer 19 = .ok (.iconst 1, 1) := by decide +kernel
theorem dX1_sameAnswer_20 : decode cX1_sameAnswer 20 = .ok (.goto 4, 3) := by decide +kernel
theorem dX1_sameAnswer_23 : decode cX1_sameAnswer 23 = .ok (.iconst 0, 1) := by decide +kernel
theorem dX1_sameAnswer_24 : decode cX1_sameAnswer 24 = .ok (.ireturn, 1) := by decide +kernel
set_option maxRecDepth 20000 in
theorem ggX1_signAnswer_X1_plainAnswer : GoodIn wsX1_signAnswer wsX1_plainAnswer := goodIn_r _ [5, 6, 7, 8, 9, 10, 11, 12, 13, 14, 4, 15, 16, 17, 18, 19, 20, 21, 22, 23, 24, 25, 26, 27, 28, 29, 30, 31, 32, 33] (by decide +kernel) (by decide +kernel)
set_option maxRecDepth 20000 in
theorem gX1_signAnswer_X1_plainAnswer : GoodIn wsX1_signAnswer (wsV RX1 144 RX1 yX1_plainAnswer wsX1_plainAnswer) := goodIn_app (goodIn_of _ (by decide +kernel)) ggX1_signAnswer_X1_plainAnswer
theorem dX1_signAnswer_0 : decode cX1_signAnswer 0 = .ok (.aload_n 0, 1) := by decide +kernel
theorem dX1_signAnswer_1 : decode cX1_signAnswer 1 = .ok (.iload_n 1, 1) := by decide +kernel
theorem dX1_signAnswer_2 : decode cX1_signAnswer 2 = .ok (.iconst 2, 1) := by decide +kernel
theorem dX1_signAnswer_3 : decode cX1_signAnswer 3 = .ok (.invokevirtual 144, 3) := by decide +kernel
theorem dX1_signAnswer_6 : decode cX1_signAnswer 6 = .ok (.ireturn, 1) := by decide +kernel
set_option maxRecDepth 20000 in
theorem ggX1_lowestLetter_X0_at : GoodIn wsX1_lowestLetter wsX0_at := goodIn_r _ [5, 6, 7, 16, 17] (by decide +kernel) (by decide +kernel)
set_option maxRecDepth 20000 in
theorem gX1_lowestLetter_X0_at : GoodIn wsX1_lowestLetter (wsV RX1 66 RX0 yX0_at wsX0_at) := goodIn_app (goodIn_of _ (by decide +kernel)) ggX1_lowestLetter_X0_at
set_option maxRecDepth 20000 in
theorem ggX1_lowestLetter_X0_size : GoodIn wsX1_lowestLetter wsX0_size := goodIn_r _ [11, 6, 16, 17] (by decide +kernel) (by decide +kernel)
set_option maxRecDepth 20000 in
theorem gX1_lowestLetter_X0_size : GoodIn wsX1_lowestLetter (wsV RX1 57 RX0 yX0_size wsX0_size) := goodIn_app (goodIn_of _ (by decide +kernel)) ggX1_lowestLetter_X0_size
set_option maxRecDepth 20000 in
theorem ggX1_lowestLetter_X1_heightOf : GoodIn wsX1_lowestLetter wsX1_heightOf := goodIn_r _ [15] (by decide +kernel) (by decide +kernel)
set_option maxRecDepth 20000 in
theorem gX1_lowestLetter_X1_heightOf : GoodIn wsX1_lowestLetter (va_wsS RX1 190 yX1_heightOf wsX1_heightOf) := goodIn_app (goodIn_of _ (by decide +kernel)) ggX1_lowestLetter_X1_heightOf
theorem dX1_lowestLetter_0 : decode cX1_lowestLetter 0 = .ok (.aload_n 0, 1) := by decide +kernel
theorem dX1_lowestLetter_1 : decode cX1_lowestLetter 1 = .ok (.iconst 0, 1) := by decide +kernel
theorem dX1_lowestLetter_2 : decode cX1_lowestLetter 2 = .ok (.invokevirtual 66, 3) := by decide +kernel
theorem dX1_lowestLetter_5 : decode cX1_lowestLetter 5 = .ok (.istore_n 1, 1) := by decide +kernel
theorem dX1_lowestLetter_6 : decode cX1_lowestLetter 6 = .ok (.iconst 1, 1) := by decide +kernel
theorem dX1_lowestLetter_7 : decode cX1_lowestLetter 7 = .ok (.istore_n 2, 1) := by decide +kernel
theorem dX1_lowestLetter_8 : decode cX1_lowestLetter 8 = .ok (.iload_n 2, 1) := by decide +kernel
theorem dX1_lowestLetter_9 : decode cX1_lowestLetter 9 = .ok (.aload_n 0, 1) := by decide +kernel
theorem dX1_lowestLetter_10 : decode cX1_lowestLetter 10 = .ok (.invokevirtual 57, 3) := by decide +kernel
theorem dX1_lowestLetter_13 : decode cX1_lowestLetter 13 = .ok (.if_icmp .ge 30, 3) := by decide +kernel
theorem dX1_lowestLetter_16 : decode cX1_lowestLetter 16 = .ok (.aload_n 0, 1) := by decide +kernel
theorem dX1_lowestLetter_17 : decode cX1_lowestLetter 17 = .ok (.iload_n 2, 1) := by decide +kernel
theorem dX1_lowestLetter_18 : decode cX1_lowestLetter 18 = .ok (.invokevirtual 66, 3) := by decide +kernel
theorem dX1_lowestLetter_21 : decode cX1_lowestLetter 21 = .ok (.invokestatic 190, 3) := by decide +kernel
theorem dX1_lowestLetter_24 : decode cX1_lowestLetter 24 = .ok (.iload_n 1, 1) := by decide +kernel
theorem dX1_lowestLetter_25 : decode cX1_lowestLetter 25 = .ok (.invokestatic 190, 3) := by decide +kernel
theorem dX1_lowestLetter_28 : decode cX1_lowestLetter 28 = .ok (.if_icmp .ge 9, 3) := by decide +kernel
theorem dX1_lowestLetter_31 : decode cX1_lowestLetter 31 = .ok (.aload_n 0, 1) := by decide +kernel
theorem dX1_lowestLetter_32 : decode cX1_lowestLetter 32 = .ok (.iload_n 2, 1) := by decide +kernel
theorem dX1_lowestLetter_33 : decode cX1_lowestLetter 33 = .ok (.invokevirtual 66, 3) := by decide +kernel
theorem dX1_lowestLetter_36 : decode cX1_lowestLetter 36 = .ok (.istore_n 1, 1) := by decide +kernel
theorem dX1_lowestLetter_37 : decode cX1_lowestLetter 37 = .ok (.iinc 2 1, 3) := by decide +kernel
theorem dX1_lowestLetter_40 : decode cX1_lowestLetter 40 = .ok (.goto (-32), 3) := by decide +kernel
theorem dX1_lowestLetter_43 : decode cX1_lowestLetter 43 = .ok (.iload_n 1, 1) := by decide +kernel
theorem dX1_lowestLetter_44 : decode cX1_lowestLetter 44 = .ok (.ireturn, 1) := by decide +kernel
