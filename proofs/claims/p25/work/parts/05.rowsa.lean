set_option maxRecDepth 20000 in
theorem ggX0_init_X1_init : GoodIn wsX0_init wsX1_init := goodIn_r _ [18, 19, 2, 3, 6, 20, 21, 30, 31] (by decide +kernel) (by decide +kernel)
set_option maxRecDepth 20000 in
theorem gX0_init_X1_init_n24 : GoodIn wsX0_init (wsX1_init) := ggX0_init_X1_init
theorem dX0_init_0 : decode cX0_init 0 = .ok (.aload_n 0, 1) := by decide +kernel
theorem dX0_init_1 : decode cX0_init 1 = .ok (.invokespecial 3, 3) := by decide +kernel
theorem dX0_init_4 : decode cX0_init 4 = .ok (.aload_n 0, 1) := by decide +kernel
theorem dX0_init_5 : decode cX0_init 5 = .ok (.bipush 6, 2) := by decide +kernel
theorem dX0_init_7 : decode cX0_init 7 = .ok (.newarray .boolean, 2) := by decide +kernel
theorem dX0_init_9 : decode cX0_init 9 = .ok (.putfield 9, 3) := by decide +kernel
theorem dX0_init_12 : decode cX0_init 12 = .ok (.aload_n 0, 1) := by decide +kernel
theorem dX0_init_13 : decode cX0_init 13 = .ok (.bipush 6, 2) := by decide +kernel
theorem dX0_init_15 : decode cX0_init 15 = .ok (.newarray .int, 2) := by decide +kernel
theorem dX0_init_17 : decode cX0_init 17 = .ok (.putfield 15, 3) := by decide +kernel
theorem dX0_init_20 : decode cX0_init 20 = .ok (.aload_n 0, 1) := by decide +kernel
theorem dX0_init_21 : decode cX0_init 21 = .ok (.bipush 6, 2) := by decide +kernel
theorem dX0_init_23 : decode cX0_init 23 = .ok (.newarray .boolean, 2) := by decide +kernel
theorem dX0_init_25 : decode cX0_init 25 = .ok (.putfield 19, 3) := by decide +kernel
theorem dX0_init_28 : decode cX0_init 28 = .ok (.aload_n 0, 1) := by decide +kernel
theorem dX0_init_29 : decode cX0_init 29 = .ok (.new 22, 3) := by decide +kernel
theorem dX0_init_32 : decode cX0_init 32 = .ok (.dup, 1) := by decide +kernel
theorem dX0_init_33 : decode cX0_init 33 = .ok (.invokespecial 24, 3) := by decide +kernel
theorem dX0_init_36 : decode cX0_init 36 = .ok (.putfield 25, 3) := by decide +kernel
theorem dX0_init_39 : decode cX0_init 39 = .ok (.aload_n 0, 1) := by decide +kernel
theorem dX0_init_40 : decode cX0_init 40 = .ok (.iconst (-1), 1) := by decide +kernel
theorem dX0_init_41 : decode cX0_init 41 = .ok (.putfield 29, 3) := by decide +kernel
theorem dX0_init_44 : decode cX0_init 44 = .ok (.aload_n 0, 1) := by decide +kernel
theorem dX0_init_45 : decode cX0_init 45 = .ok (.iconst 2, 1) := by decide +kernel
theorem dX0_init_46 : decode cX0_init 46 = .ok (.putfield 33, 3) := by decide +kernel
theorem dX0_init_49 : decode cX0_init 49 = .ok (.aload_n 0, 1) := by decide +kernel
theorem dX0_init_50 : decode cX0_init 50 = .ok (.iconst (-1), 1) := by decide +kernel
theorem dX0_init_51 : decode cX0_init 51 = .ok (.putfield 36, 3) := by decide +kernel
theorem dX0_init_54 : decode cX0_init 54 = .ok (.aload_n 0, 1) := by decide +kernel
theorem dX0_init_55 : decode cX0_init 55 = .ok (.iconst 0, 1) := by decide +kernel
theorem dX0_init_56 : decode cX0_init 56 = .ok (.putfield 39, 3) := by decide +kernel
theorem dX0_init_59 : decode cX0_init 59 = .ok (.return_, 1) := by decide +kernel
theorem dX0_isHere_0 : decode cX0_isHere 0 = .ok (.iload_n 1, 1) := by decide +kernel
theorem dX0_isHere_1 : decode cX0_isHere 1 = .ok (.ifCond .lt 22, 3) := by decide +kernel
theorem dX0_isHere_4 : decode cX0_isHere 4 = .ok (.iload_n 1, 1) := by decide +kernel
theorem dX0_isHere_5 : decode cX0_isHere 5 = .ok (.bipush 6, 2) := by decide +kernel
theorem dX0_isHere_7 : decode cX0_isHere 7 = .ok (.if_icmp .ge 16, 3) := by decide +kernel
theorem dX0_isHere_10 : decode cX0_isHere 10 = .ok (.aload_n 0, 1) := by decide +kernel
theorem dX0_isHere_11 : decode cX0_isHere 11 = .ok (.getfield 9, 3) := by decide +kernel
theorem dX0_isHere_14 : decode cX0_isHere 14 = .ok (.iload_n 1, 1) := by decide +kernel
theorem dX0_isHere_15 : decode cX0_isHere 15 = .ok (.baload, 1) := by decide +kernel
theorem dX0_isHere_16 : decode cX0_isHere 16 = .ok (.ifCond .eq 7, 3) := by decide +kernel
theorem dX0_isHere_19 : decode cX0_isHere 19 = .ok (.iconst 1, 1) := by decide +kernel
theorem dX0_isHere_20 : decode cX0_isHere 20 = .ok (.goto 4, 3) := by decide +kernel
theorem dX0_isHere_23 : decode cX0_isHere 23 = .ok (.iconst 0, 1) := by decide +kernel
theorem dX0_isHere_24 : decode cX0_isHere 24 = .ok (.ireturn, 1) := by decide +kernel
theorem dX0_headCount_0 : decode cX0_headCount 0 = .ok (.iconst 0, 1) := by decide +kernel
theorem dX0_headCount_1 : decode cX0_headCount 1 = .ok (.istore_n 1, 1) := by decide +kernel
theorem dX0_headCount_2 : decode cX0_headCount 2 = .ok (.iconst 0, 1) := by decide +kernel
theorem dX0_headCount_3 : decode cX0_headCount 3 = .ok (.istore_n 2, 1) := by decide +kernel
theorem dX0_headCount_4 : decode cX0_headCount 4 = .ok (.iload_n 2, 1) := by decide +kernel
theorem dX0_headCount_5 : decode cX0_headCount 5 = .ok (.bipush 6, 2) := by decide +kernel
theorem dX0_headCount_7 : decode cX0_headCount 7 = .ok (.if_icmp .ge 21, 3) := by decide +kernel
theorem dX0_headCount_10 : decode cX0_headCount 10 = .ok (.aload_n 0, 1) := by decide +kernel
theorem dX0_headCount_11 : decode cX0_headCount 11 = .ok (.getfield 9, 3) := by decide +kernel
theorem dX0_headCount_14 : decode cX0_headCount 14 = .ok (.iload_n 2, 1) := by decide +kernel
theorem dX0_headCount_15 : decode cX0_headCount 15 = .ok (.baload, 1) := by decide +kernel
theorem dX0_headCount_16 : decode cX0_headCount 16 = .ok (.ifCond .eq 6, 3) := by decide +kernel
theorem dX0_headCount_19 : decode cX0_headCount 19 = .ok (.iinc 1 1, 3) := by decide +kernel
theorem dX0_headCount_22 : decode cX0_headCount 22 = .ok (.iinc 2 1, 3) := by decide +kernel
theorem dX0_headCount_25 : decode cX0_headCount 25 = .ok (.goto (-21), 3) := by decide +kernel
theorem dX0_headCount_28 : decode cX0_headCount 28 = .ok (.iload_n 1, 1) := by decide +kernel
theorem dX0_headCount_29 : decode cX0_headCount 29 = .ok (.ireturn, 1) := by decide +kernel
theorem dX0_freeSeat_0 : decode cX0_freeSeat 0 = .ok (.iconst 0, 1) := by decide +kernel
theorem dX0_freeSeat_1 : decode cX0_freeSeat 1 = .ok (.istore_n 1, 1) := by decide +kernel
theorem dX0_freeSeat_2 : decode cX0_freeSeat 2 = .ok (.iload_n 1, 1) := by decide +kernel
theorem dX0_freeSeat_3 : decode cX0_freeSeat 3 = .ok (.bipush 6, 2) := by decide +kernel
theorem dX0_freeSeat_5 : decode cX0_freeSeat 5 = .ok (.if_icmp .ge 20, 3) := by decide +kernel
theorem dX0_freeSeat_8 : decode cX0_freeSeat 8 = .ok (.aload_n 0, 1) := by decide +kernel
theorem dX0_freeSeat_9 : decode cX0_freeSeat 9 = .ok (.getfield 9, 3) := by decide +kernel
theorem dX0_freeSeat_12 : decode cX0_freeSeat 12 = .ok (.iload_n 1, 1) := by decide +kernel
theorem dX0_freeSeat_13 : decode cX0_freeSeat 13 = .ok (.baload, 1) := by decide +kernel
theorem dX0_freeSeat_14 : decode cX0_freeSeat 14 = .ok (.ifCond .ne 5, 3) := by decide +kernel
theorem dX0_freeSeat_17 : decode cX0_freeSeat 17 = .ok (.iload_n 1, 1) := by decide +kernel
theorem dX0_freeSeat_18 : decode cX0_freeSeat 18 = .ok (.ireturn, 1) := by decide +kernel
theorem dX0_freeSeat_19 : decode cX0_freeSeat 19 = .ok (.iinc 1 1, 3) := by decide +kernel
theorem dX0_freeSeat_22 : decode cX0_freeSeat 22 = .ok (.goto (-20), 3) := by decide +kernel
theorem dX0_freeSeat_25 : decode cX0_freeSeat 25 = .ok (.iconst (-1), 1) := by decide +kernel
theorem dX0_freeSeat_26 : decode cX0_freeSeat 26 = .ok (.ireturn, 1) := by decide +kernel
theorem dX0_enter_0 : decode cX0_enter 0 = .ok (.aload_n 0, 1) := by decide +kernel
theorem dX0_enter_1 : decode cX0_enter 1 = .ok (.getfield 9, 3) := by decide +kernel
theorem dX0_enter_4 : decode cX0_enter 4 = .ok (.iload_n 1, 1) := by decide +kernel
theorem dX0_enter_5 : decode cX0_enter 5 = .ok (.iconst 1, 1) := by decide +kernel
theorem dX0_enter_6 : decode cX0_enter 6 = .ok (.bastore, 1) := by decide +kernel
theorem dX0_enter_7 : decode cX0_enter 7 = .ok (.aload_n 0, 1) := by decide +kernel
theorem dX0_enter_8 : decode cX0_enter 8 = .ok (.getfield 15, 3) := by decide +kernel
theorem dX0_enter_11 : decode cX0_enter 11 = .ok (.iload_n 1, 1) := by decide +kernel
theorem dX0_enter_12 : decode cX0_enter 12 = .ok (.iconst 0, 1) := by decide +kernel
theorem dX0_enter_13 : decode cX0_enter 13 = .ok (.iastore, 1) := by decide +kernel
theorem dX0_enter_14 : decode cX0_enter 14 = .ok (.aload_n 0, 1) := by decide +kernel
theorem dX0_enter_15 : decode cX0_enter 15 = .ok (.getfield 19, 3) := by decide +kernel
theorem dX0_enter_18 : decode cX0_enter 18 = .ok (.iload_n 1, 1) := by decide +kernel
theorem dX0_enter_19 : decode cX0_enter 19 = .ok (.iconst 0, 1) := by decide +kernel
theorem dX0_enter_20 : decode cX0_enter 20 = .ok (.bastore, 1) := by decide +kernel
theorem dX0_enter_21 : decode cX0_enter 21 = .ok (.return_, 1) := by decide +kernel
set_option maxRecDepth 20000 in
theorem ggX0_forget_X1_drop : GoodIn wsX0_forget wsX1_drop := goodIn_r _ [9, 10, 11, 20, 21] (by decide +kernel) (by decide +kernel)
set_option maxRecDepth 20000 in
theorem gX0_forget_X1_drop : GoodIn wsX0_forget (wsV RX0 42 RX1 yX1_drop wsX1_drop) := goodIn_app (goodIn_of _ (by decide +kernel)) ggX0_forget_X1_drop
theorem dX0_forget_0 : decode cX0_forget 0 = .ok (.aload_n 0, 1) := by decide +kernel
theorem dX0_forget_1 : decode cX0_forget 1 = .ok (.getfield 9, 3) := by decide +kernel
theorem dX0_forget_4 : decode cX0_forget 4 = .ok (.iload_n 1, 1) := by decide +kernel
theorem dX0_forget_5 : decode cX0_forget 5 = .ok (.iconst 0, 1) := by decide +kernel
theorem dX0_forget_6 : decode cX0_forget 6 = .ok (.bastore, 1) := by decide +kernel
theorem dX0_forget_7 : decode cX0_forget 7 = .ok (.aload_n 0, 1) := by decide +kernel
theorem dX0_forget_8 : decode cX0_forget 8 = .ok (.getfield 25, 3) := by decide +kernel
theorem dX0_forget_11 : decode cX0_forget 11 = .ok (.iload_n 1, 1) := by decide +kernel
theorem dX0_forget_12 : decode cX0_forget 12 = .ok (.invokevirtual 42, 3) := by decide +kernel
theorem dX0_forget_15 : decode cX0_forget 15 = .ok (.aload_n 0, 1) := by decide +kernel
theorem dX0_forget_16 : decode cX0_forget 16 = .ok (.getfield 29, 3) := by decide +kernel
theorem dX0_forget_19 : decode cX0_forget 19 = .ok (.iload_n 1, 1) := by decide +kernel
theorem dX0_forget_20 : decode cX0_forget 20 = .ok (.if_icmp .ne 8, 3) := by decide +kernel
theorem dX0_forget_23 : decode cX0_forget 23 = .ok (.aload_n 0, 1) := by decide +kernel
theorem dX0_forget_24 : decode cX0_forget 24 = .ok (.iconst (-1), 1) := by decide +kernel
theorem dX0_forget_25 : decode cX0_forget 25 = .ok (.putfield 29, 3) := by decide +kernel
theorem dX0_forget_28 : decode cX0_forget 28 = .ok (.aload_n 0, 1) := by decide +kernel
theorem dX0_forget_29 : decode cX0_forget 29 = .ok (.getfield 36, 3) := by decide +kernel
theorem dX0_forget_32 : decode cX0_forget 32 = .ok (.iload_n 1, 1) := by decide +kernel
theorem dX0_forget_33 : decode cX0_forget 33 = .ok (.if_icmp .ne 8, 3) := by decide +kernel
theorem dX0_forget_36 : decode cX0_forget 36 = .ok (.aload_n 0, 1) := by decide +kernel
theorem dX0_forget_37 : decode cX0_forget 37 = .ok (.iconst (-1), 1) := by decide +kernel
theorem dX0_forget_38 : decode cX0_forget 38 = .ok (.putfield 36, 3) := by decide +kernel
theorem dX0_forget_41 : decode cX0_forget 41 = .ok (.return_, 1) := by decide +kernel
set_option maxRecDepth 20000 in
theorem ggX0_findSpeaker_X0_findLoudest : GoodIn wsX0_findSpeaker wsX0_findLoudest := goodIn_r _ [10, 11, 12, 13, 25, 26, 27, 28, 29, 30, 31, 32] (by decide +kernel) (by decide +kernel)
set_option maxRecDepth 20000 in
theorem gX0_findSpeaker_X0_findLoudest : GoodIn wsX0_findSpeaker (wsV RX0 46 RX0 yX0_findLoudest wsX0_findLoudest) := goodIn_app (goodIn_of _ (by decide +kernel)) ggX0_findSpeaker_X0_findLoudest
set_option maxRecDepth 20000 in
theorem ggX0_findSpeaker_X1_putFirst : GoodIn wsX0_findSpeaker wsX1_putFirst := goodIn_r _ [18, 19, 20, 21, 22, 23, 17, 24, 33, 34] (by decide +kernel) (by decide +kernel)
set_option maxRecDepth 20000 in
theorem gX0_findSpeaker_X1_putFirst : GoodIn wsX0_findSpeaker (wsV RX0 50 RX1 yX1_putFirst wsX1_putFirst) := goodIn_app (goodIn_of _ (by decide +kernel)) ggX0_findSpeaker_X1_putFirst
theorem dX0_findSpeaker_0 : decode cX0_findSpeaker 0 = .ok (.aload_n 0, 1) := by decide +kernel
theorem dX0_findSpeaker_1 : decode cX0_findSpeaker 1 = .ok (.invokevirtual 46, 3) := by decide +kernel
theorem dX0_findSpeaker_4 : decode cX0_findSpeaker 4 = .ok (.istore_n 1, 1) := by decide +kernel
theorem dX0_findSpeaker_5 : decode cX0_findSpeaker 5 = .ok (.aload_n 0, 1) := by decide +kernel
theorem dX0_findSpeaker_6 : decode cX0_findSpeaker 6 = .ok (.iload_n 1, 1) := by decide +kernel
theorem dX0_findSpeaker_7 : decode cX0_findSpeaker 7 = .ok (.aload_n 0, 1) := by decide +kernel
theorem dX0_findSpeaker_8 : decode cX0_findSpeaker 8 = .ok (.getfield 36, 3) := by decide +kernel
theorem dX0_findSpeaker_11 : decode cX0_findSpeaker 11 = .ok (.if_icmp .ne 12, 3) := by decide +kernel
theorem dX0_findSpeaker_14 : decode cX0_findSpeaker 14 = .ok (.aload_n 0, 1) := by decide +kernel
theorem dX0_findSpeaker_15 : decode cX0_findSpeaker 15 = .ok (.getfield 39, 3) := by decide +kernel
theorem dX0_findSpeaker_18 : decode cX0_findSpeaker 18 = .ok (.iconst 1, 1) := by decide +kernel
theorem dX0_findSpeaker_19 : decode cX0_findSpeaker 19 = .ok (.iadd, 1) := by decide +kernel
theorem dX0_findSpeaker_20 : decode cX0_findSpeaker 20 = .ok (.goto 4, 3) := by decide +kernel
theorem dX0_findSpeaker_23 : decode cX0_findSpeaker 23 = .ok (.iconst 1, 1) := by decide +kernel
theorem dX0_findSpeaker_24 : decode cX0_findSpeaker 24 = .ok (.putfield 39, 3) := by decide +kernel
theorem dX0_findSpeaker_27 : decode cX0_findSpeaker 27 = .ok (.aload_n 0, 1) := by decide +kernel
theorem dX0_findSpeaker_28 : decode cX0_findSpeaker 28 = .ok (.iload_n 1, 1) := by decide +kernel
theorem dX0_findSpeaker_29 : decode cX0_findSpeaker 29 = .ok (.putfield 36, 3) := by decide +kernel
theorem dX0_findSpeaker_32 : decode cX0_findSpeaker 32 = .ok (.iload_n 1, 1) := by decide +kernel
theorem dX0_findSpeaker_33 : decode cX0_findSpeaker 33 = .ok (.iconst (-1), 1) := by decide +kernel
theorem dX0_findSpeaker_34 : decode cX0_findSpeaker 34 = .ok (.if_icmp .eq 27, 3) := by decide +kernel
theorem dX0_findSpeaker_37 : decode cX0_findSpeaker 37 = .ok (.aload_n 0, 1) := by decide +kernel
theorem dX0_findSpeaker_38 : decode cX0_findSpeaker 38 = .ok (.getfield 39, 3) := by decide +kernel
theorem dX0_findSpeaker_41 : decode cX0_findSpeaker 41 = .ok (.aload_n 0, 1) := by decide +kernel
theorem dX0_findSpeaker_42 : decode cX0_findSpeaker 42 = .ok (.getfield 33, 3) := by decide +kernel
theorem dX0_findSpeaker_45 : decode cX0_findSpeaker 45 = .ok (.if_icmp .lt 16, 3) := by decide +kernel
theorem dX0_findSpeaker_48 : decode cX0_findSpeaker 48 = .ok (.aload_n 0, 1) := by decide +kernel
theorem dX0_findSpeaker_49 : decode cX0_findSpeaker 49 = .ok (.iload_n 1, 1) := by decide +kernel
theorem dX0_findSpeaker_50 : decode cX0_findSpeaker 50 = .ok (.putfield 29, 3) := by decide +kernel
theorem dX0_findSpeaker_53 : decode cX0_findSpeaker 53 = .ok (.aload_n 0, 1) := by decide +kernel
theorem dX0_findSpeaker_54 : decode cX0_findSpeaker 54 = .ok (.getfield 25, 3) := by decide +kernel
theorem dX0_findSpeaker_57 : decode cX0_findSpeaker 57 = .ok (.iload_n 1, 1) := by decide +kernel
theorem dX0_findSpeaker_58 : decode cX0_findSpeaker 58 = .ok (.invokevirtual 50, 3) := by decide +kernel
theorem dX0_findSpeaker_61 : decode cX0_findSpeaker 61 = .ok (.return_, 1) := by decide +kernel
theorem dX0_findLoudest_0 : decode cX0_findLoudest 0 = .ok (.iconst (-1), 1) := by decide +kernel
theorem dX0_findLoudest_1 : decode cX0_findLoudest 1 = .ok (.istore_n 1, 1) := by decide +kernel
theorem dX0_findLoudest_2 : decode cX0_findLoudest 2 = .ok (.bipush 29, 2) := by decide +kernel
theorem dX0_findLoudest_4 : decode cX0_findLoudest 4 = .ok (.istore_n 2, 1) := by decide +kernel
theorem dX0_findLoudest_5 : decode cX0_findLoudest 5 = .ok (.iconst 0, 1) := by decide +kernel
theorem dX0_findLoudest_6 : decode cX0_findLoudest 6 = .ok (.istore_n 3, 1) := by decide +kernel
theorem dX0_findLoudest_7 : decode cX0_findLoudest 7 = .ok (.iload_n 3, 1) := by decide +kernel
theorem dX0_findLoudest_8 : decode cX0_findLoudest 8 = .ok (.bipush 6, 2) := by decide +kernel
theorem dX0_findLoudest_10 : decode cX0_findLoudest 10 = .ok (.if_icmp .ge 46, 3) := by decide +kernel
theorem dX0_findLoudest_13 : decode cX0_findLoudest 13 = .ok (.aload_n 0, 1) := by decide +kernel
theorem dX0_findLoudest_14 : decode cX0_findLoudest 14 = .ok (.getfield 9, 3) := by decide +kernel
theorem dX0_findLoudest_17 : decode cX0_findLoudest 17 = .ok (.iload_n 3, 1) := by decide +kernel
theorem dX0_findLoudest_18 : decode cX0_findLoudest 18 = .ok (.baload, 1) := by decide +kernel
theorem dX0_findLoudest_19 : decode cX0_findLoudest 19 = .ok (.ifCond .eq 31, 3) := by decide +kernel
theorem dX0_findLoudest_22 : decode cX0_findLoudest 22 = .ok (.aload_n 0, 1) := by decide +kernel
theorem dX0_findLoudest_23 : decode cX0_findLoudest 23 = .ok (.getfield 19, 3) := by decide +kernel
theorem dX0_findLoudest_26 : decode cX0_findLoudest 26 = .ok (.iload_n 3, 1) := by decide +kernel
theorem dX0_findLoudest_27 : decode cX0_findLoudest 27 = .ok (.baload, 1) := by decide +kernel
theorem dX0_findLoudest_28 : decode cX0_findLoudest 28 = .ok (.ifCond .ne 22, 3) := by decide +kernel
theorem dX0_findLoudest_31 : decode cX0_findLoudest 31 = .ok (.aload_n 0, 1) := by decide +kernel
theorem dX0_findLoudest_32 : decode cX0_findLoudest 32 = .ok (.getfield 15, 3) := by decide +kernel
theorem dX0_findLoudest_35 : decode cX0_findLoudest 35 = .ok (.iload_n 3, 1) := by decide +kernel
theorem dX0_findLoudest_36 : decode cX0_findLoudest 36 = .ok (.iaload, 1) := by decide +kernel
theorem dX0_findLoudest_37 : decode cX0_findLoudest 37 = .ok (.iload_n 2, 1) := by decide +kernel
theorem dX0_findLoudest_38 : decode cX0_findLoudest 38 = .ok (.if_icmp .le 12, 3) := by decide +kernel
theorem dX0_findLoudest_41 : decode cX0_findLoudest 41 = .ok (.iload_n 3, 1) := by decide +kernel
theorem dX0_findLoudest_42 : decode cX0_findLoudest 42 = .ok (.istore_n 1, 1) := by decide +kernel
theorem dX0_findLoudest_43 : decode cX0_findLoudest 43 = .ok (.aload_n 0, 1) := by decide +kernel
theorem dX0_findLoudest_44 : decode cX0_findLoudest 44 = .ok (.getfield 15, 3) := by decide +kernel
theorem dX0_findLoudest_47 : decode cX0_findLoudest 47 = .ok (.iload_n 3, 1) := by decide +kernel
theorem dX0_findLoudest_48 : decode cX0_findLoudest 48 = .ok (.iaload, 1) := by decide +kernel
theorem dX0_findLoudest_49 : decode cX0_findLoudest 49 = .ok (.istore_n 2, 1) := by decide +kernel
theorem dX0_findLoudest_50 : decode cX0_findLoudest 50 = .ok (.iinc 3 1, 3) := by decide +kernel
theorem dX0_findLoudest_53 : decode cX0_findLoudest 53 = .ok (.goto (-46), 3) := by decide +kernel
theorem dX0_findLoudest_56 : decode cX0_findLoudest 56 = .ok (.iload_n 1, 1) := by decide +kernel
theorem dX0_findLoudest_57 : decode cX0_findLoudest 57 = .ok (.ireturn, 1) := by decide +kernel
theorem dX1_init_0 : decode cX1_init 0 = .ok (.aload_n 0, 1) := by decide +kernel
theorem dX1_init_1 : decode cX1_init 1 = .ok (.invokespecial 3, 3) := by decide +kernel
theorem dX1_init_4 : decode cX1_init 4 = .ok (.aload_n 0, 1) := by decide +kernel
theorem dX1_init_5 : decode cX1_init 5 = .ok (.bipush 6, 2) := by decide +kernel
theorem dX1_init_7 : decode cX1_init 7 = .ok (.newarray .int, 2) := by decide +kernel
theorem dX1_init_9 : decode cX1_init 9 = .ok (.putfield 9, 3) := by decide +kernel
theorem dX1_init_12 : decode cX1_init 12 = .ok (.aload_n 0, 1) := by decide +kernel
theorem dX1_init_13 : decode cX1_init 13 = .ok (.iconst 0, 1) := by decide +kernel
theorem dX1_init_14 : decode cX1_init 14 = .ok (.putfield 15, 3) := by decide +kernel
theorem dX1_init_17 : decode cX1_init 17 = .ok (.return_, 1) := by decide +kernel
theorem dX1_clear_0 : decode cX1_clear 0 = .ok (.aload_n 0, 1) := by decide +kernel
theorem dX1_clear_1 : decode cX1_clear 1 = .ok (.iconst 0, 1) := by decide +kernel
theorem dX1_clear_2 : decode cX1_clear 2 = .ok (.putfield 15, 3) := by decide +kernel
theorem dX1_clear_5 : decode cX1_clear 5 = .ok (.return_, 1) := by decide +kernel
theorem dX1_holds_0 : decode cX1_holds 0 = .ok (.iconst 0, 1) := by decide +kernel
theorem dX1_holds_1 : decode cX1_holds 1 = .ok (.istore_n 2, 1) := by decide +kernel
theorem dX1_holds_2 : decode cX1_holds 2 = .ok (.iload_n 2, 1) := by decide +kernel
theorem dX1_holds_3 : decode cX1_holds 3 = .ok (.aload_n 0, 1) := by decide +kernel
theorem dX1_holds_4 : decode cX1_holds 4 = .ok (.getfield 15, 3) := by decide +kernel
theorem dX1_holds_7 : decode cX1_holds 7 = .ok (.if_icmp .ge 21, 3) := by decide +kernel
theorem dX1_holds_10 : decode cX1_holds 10 = .ok (.aload_n 0, 1) := by decide +kernel
theorem dX1_holds_11 : decode cX1_holds 11 = .ok (.getfield 9, 3) := by decide +kernel
theorem dX1_holds_14 : decode cX1_holds 14 = .ok (.iload_n 2, 1) := by decide +kernel
theorem dX1_holds_15 : decode cX1_holds 15 = .ok (.iaload, 1) := by decide +kernel
theorem dX1_holds_16 : decode cX1_holds 16 = .ok (.iload_n 1, 1) := by decide +kernel
theorem dX1_holds_17 : decode cX1_holds 17 = .ok (.if_icmp .ne 5, 3) := by decide +kernel
theorem dX1_holds_20 : decode cX1_holds 20 = .ok (.iconst 1, 1) := by decide +kernel
theorem dX1_holds_21 : decode cX1_holds 21 = .ok (.ireturn, 1) := by decide +kernel
theorem dX1_holds_22 : decode cX1_holds 22 = .ok (.iinc 2 1, 3) := by decide +kernel
theorem dX1_holds_25 : decode cX1_holds 25 = .ok (.goto (-23), 3) := by decide +kernel
theorem dX1_holds_28 : decode cX1_holds 28 = .ok (.iconst 0, 1) := by decide +kernel
theorem dX1_holds_29 : decode cX1_holds 29 = .ok (.ireturn, 1) := by decide +kernel
theorem dX1_drop_0 : decode cX1_drop 0 = .ok (.iconst 0, 1) := by decide +kernel
theorem dX1_drop_1 : decode cX1_drop 1 = .ok (.istore_n 2, 1) := by decide +kernel
theorem dX1_drop_2 : decode cX1_drop 2 = .ok (.iconst 0, 1) := by decide +kernel
theorem dX1_drop_3 : decode cX1_drop 3 = .ok (.istore_n 3, 1) := by decide +kernel
theorem dX1_drop_4 : decode cX1_drop 4 = .ok (.iload_n 3, 1) := by decide +kernel
theorem dX1_drop_5 : decode cX1_drop 5 = .ok (.aload_n 0, 1) := by decide +kernel
theorem dX1_drop_6 : decode cX1_drop 6 = .ok (.getfield 15, 3) := by decide +kernel
theorem dX1_drop_9 : decode cX1_drop 9 = .ok (.if_icmp .ge 34, 3) := by decide +kernel
theorem dX1_drop_12 : decode cX1_drop 12 = .ok (.aload_n 0, 1) := by decide +kernel
theorem dX1_drop_13 : decode cX1_drop 13 = .ok (.getfield 9, 3) := by decide +kernel
theorem dX1_drop_16 : decode cX1_drop 16 = .ok (.iload_n 3, 1) := by decide +kernel
theorem dX1_drop_17 : decode cX1_drop 17 = .ok (.iaload, 1) := by decide +kernel
theorem dX1_drop_18 : decode cX1_drop 18 = .ok (.iload_n 1, 1) := by decide +kernel
theorem dX1_drop_19 : decode cX1_drop 19 = .ok (.if_icmp .eq 18, 3) := by decide +kernel
theorem dX1_drop_22 : decode cX1_drop 22 = .ok (.aload_n 0, 1) := by decide +kernel
theorem dX1_drop_23 : decode cX1_drop 23 = .ok (.getfield 9, 3) := by decide +kernel
theorem dX1_drop_26 : decode cX1_drop 26 = .ok (.iload_n 2, 1) := by decide +kernel
theorem dX1_drop_27 : decode cX1_drop 27 = .ok (.aload_n 0, 1) := by decide +kernel
theorem dX1_drop_28 : decode cX1_drop 28 = .ok (.getfield 9, 3) := by decide +kernel
theorem dX1_drop_31 : decode cX1_drop 31 = .ok (.iload_n 3, 1) := by decide +kernel
theorem dX1_drop_32 : decode cX1_drop 32 = .ok (.iaload, 1) := by decide +kernel
theorem dX1_drop_33 : decode cX1_drop 33 = .ok (.iastore, 1) := by decide +kernel
theorem dX1_drop_34 : decode cX1_drop 34 = .ok (.iinc 2 1, 3) := by decide +kernel
theorem dX1_drop_37 : decode cX1_drop 37 = .ok (.iinc 3 1, 3) := by decide +kernel
theorem dX1_drop_40 : decode cX1_drop 40 = .ok (.goto (-36), 3) := by decide +kernel
theorem dX1_drop_43 : decode cX1_drop 43 = .ok (.aload_n 0, 1) := by decide +kernel
theorem dX1_drop_44 : decode cX1_drop 44 = .ok (.iload_n 2, 1) := by decide +kernel
theorem dX1_drop_45 : decode cX1_drop 45 = .ok (.putfield 15, 3) := by decide +kernel
theorem dX1_drop_48 : decode cX1_drop 48 = .ok (.return_, 1) := by decide +kernel
set_option maxRecDepth 20000 in
theorem ggX1_putLast_X1_holds : GoodIn wsX1_putLast wsX1_holds := goodIn_r _ [7, 1, 2, 8, 9] (by decide +kernel) (by decide +kernel)
set_option maxRecDepth 20000 in
theorem gX1_putLast_X1_holds : GoodIn wsX1_putLast (wsV RX1 19 RX1 yX1_holds wsX1_holds) := goodIn_app (goodIn_of _ (by decide +kernel)) ggX1_putLast_X1_holds
theorem dX1_putLast_0 : decode cX1_putLast 0 = .ok (.aload_n 0, 1) := by decide +kernel
theorem dX1_putLast_1 : decode cX1_putLast 1 = .ok (.getfield 15, 3) := by decide +kernel
theorem dX1_putLast_4 : decode cX1_putLast 4 = .ok (.bipush 6, 2) := by decide +kernel
theorem dX1_putLast_6 : decode cX1_putLast 6 = .ok (.if_icmp .ge 31, 3) := by decide +kernel
theorem dX1_putLast_9 : decode cX1_putLast 9 = .ok (.aload_n 0, 1) := by decide +kernel
theorem dX1_putLast_10 : decode cX1_putLast 10 = .ok (.iload_n 1, 1) := by decide +kernel
theorem dX1_putLast_11 : decode cX1_putLast 11 = .ok (.invokevirtual 19, 3) := by decide +kernel
theorem dX1_putLast_14 : decode cX1_putLast 14 = .ok (.ifCond .ne 23, 3) := by decide +kernel
theorem dX1_putLast_17 : decode cX1_putLast 17 = .ok (.aload_n 0, 1) := by decide +kernel
theorem dX1_putLast_18 : decode cX1_putLast 18 = .ok (.getfield 9, 3) := by decide +kernel
theorem dX1_putLast_21 : decode cX1_putLast 21 = .ok (.aload_n 0, 1) := by decide +kernel
theorem dX1_putLast_22 : decode cX1_putLast 22 = .ok (.getfield 15, 3) := by decide +kernel
theorem dX1_putLast_25 : decode cX1_putLast 25 = .ok (.iload_n 1, 1) := by decide +kernel
theorem dX1_putLast_26 : decode cX1_putLast 26 = .ok (.iastore, 1) := by decide +kernel
theorem dX1_putLast_27 : decode cX1_putLast 27 = .ok (.aload_n 0, 1) := by decide +kernel
theorem dX1_putLast_28 : decode cX1_putLast 28 = .ok (.dup, 1) := by decide +kernel
theorem dX1_putLast_29 : decode cX1_putLast 29 = .ok (.getfield 15, 3) := by decide +kernel
theorem dX1_putLast_32 : decode cX1_putLast 32 = .ok (.iconst 1, 1) := by decide +kernel
theorem dX1_putLast_33 : decode cX1_putLast 33 = .ok (.iadd, 1) := by decide +kernel
theorem dX1_putLast_34 : decode cX1_putLast 34 = .ok (.putfield 15, 3) := by decide +kernel
theorem dX1_putLast_37 : decode cX1_putLast 37 = .ok (.return_, 1) := by decide +kernel
set_option maxRecDepth 20000 in
theorem ggX1_putFirst_X1_drop : GoodIn wsX1_putFirst wsX1_drop := goodIn_r _ [7, 1, 2, 8, 9] (by decide +kernel) (by decide +kernel)
set_option maxRecDepth 20000 in
theorem gX1_putFirst_X1_drop : GoodIn wsX1_putFirst (wsV RX1 23 RX1 yX1_drop wsX1_drop) := goodIn_app (goodIn_of _ (by decide +kernel)) ggX1_putFirst_X1_drop
theorem dX1_putFirst_0 : decode cX1_putFirst 0 = .ok (.aload_n 0, 1) := by decide +kernel
theorem dX1_putFirst_1 : decode cX1_putFirst 1 = .ok (.iload_n 1, 1) := by decide +kernel
theorem dX1_putFirst_2 : decode cX1_putFirst 2 = .ok (.invokevirtual 23, 3) := by decide +kernel
theorem dX1_putFirst_5 : decode cX1_putFirst 5 = .ok (.aload_n 0, 1) := by decide +kernel
theorem dX1_putFirst_6 : decode cX1_putFirst 6 = .ok (.getfield 15, 3) := by decide +kernel
theorem dX1_putFirst_9 : decode cX1_putFirst 9 = .ok (.bipush 6, 2) := by decide +kernel
theorem dX1_putFirst_11 : decode cX1_putFirst 11 = .ok (.if_icmp .ge 49, 3) := by decide +kernel
theorem dX1_putFirst_14 : decode cX1_putFirst 14 = .ok (.aload_n 0, 1) := by decide +kernel
theorem dX1_putFirst_15 : decode cX1_putFirst 15 = .ok (.getfield 15, 3) := by decide +kernel
theorem dX1_putFirst_18 : decode cX1_putFirst 18 = .ok (.istore_n 2, 1) := by decide +kernel
theorem dX1_putFirst_19 : decode cX1_putFirst 19 = .ok (.iload_n 2, 1) := by decide +kernel
theorem dX1_putFirst_20 : decode cX1_putFirst 20 = .ok (.ifCond .le 23, 3) := by decide +kernel
theorem dX1_putFirst_23 : decode cX1_putFirst 23 = .ok (.aload_n 0, 1) := by decide +kernel
theorem dX1_putFirst_24 : decode cX1_putFirst 24 = .ok (.getfield 9, 3) := by decide +kernel
theorem dX1_putFirst_27 : decode cX1_putFirst 27 = .ok (.iload_n 2, 1) := by decide +kernel
theorem dX1_putFirst_28 : decode cX1_putFirst 28 = .ok (.aload_n 0, 1) := by decide +kernel
theorem dX1_putFirst_29 : decode cX1_putFirst 29 = .ok (.getfield 9, 3) := by decide +kernel
theorem dX1_putFirst_32 : decode cX1_putFirst 32 = .ok (.iload_n 2, 1) := by decide +kernel
theorem dX1_putFirst_33 : decode cX1_putFirst 33 = .ok (.iconst 1, 1) := by decide +kernel
theorem dX1_putFirst_34 : decode cX1_putFirst 34 = .ok (.isub, 1) := by decide +kernel
theorem dX1_putFirst_35 : decode cX1_putFirst 35 = .ok (.iaload, 1) := by decide +kernel
theorem dX1_putFirst_36 : decode cX1_putFirst 36 = .ok (.iastore, 1) := by decide +kernel
theorem dX1_putFirst_37 : decode cX1_putFirst 37 = .ok (.iinc 2 (-1), 3) := by decide +kernel
theorem dX1_putFirst_40 : decode cX1_putFirst 40 = .ok (.goto (-21), 3) := by decide +kernel
theorem dX1_putFirst_43 : decode cX1_putFirst 43 = .ok (.aload_n 0, 1) := by decide +kernel
theorem dX1_putFirst_44 : decode cX1_putFirst 44 = .ok (.getfield 9, 3) := by decide +kernel
theorem dX1_putFirst_47 : decode cX1_putFirst 47 = .ok (.iconst 0, 1) := by decide +kernel
theorem dX1_putFirst_48 : decode cX1_putFirst 48 = .ok (.iload_n 1, 1) := by decide +kernel
theorem dX1_putFirst_49 : decode cX1_putFirst 49 = .ok (.iastore, 1) := by decide +kernel
theorem dX1_putFirst_50 : decode cX1_putFirst 50 = .ok (.aload_n 0, 1) := by decide +kernel
theorem dX1_putFirst_51 : decode cX1_putFirst 51 = .ok (.dup, 1) := by decide +kernel
theorem dX1_putFirst_52 : decode cX1_putFirst 52 = .ok (.getfield 15, 3) := by decide +kernel
theorem dX1_putFirst_55 : decode cX1_putFirst 55 = .ok (.iconst 1, 1) := by decide +kernel
theorem dX1_putFirst_56 : decode cX1_putFirst 56 = .ok (.iadd, 1) := by decide +kernel
theorem dX1_putFirst_57 : decode cX1_putFirst 57 = .ok (.putfield 15, 3) := by decide +kernel
theorem dX1_putFirst_60 : decode cX1_putFirst 60 = .ok (.return_, 1) := by decide +kernel
theorem dX2_init_0 : decode cX2_init 0 = .ok (.aload_n 0, 1) := by decide +kernel
theorem dX2_init_1 : decode cX2_init 1 = .ok (.invokespecial 3, 3) := by decide +kernel
theorem dX2_init_4 : decode cX2_init 4 = .ok (.aload_n 0, 1) := by decide +kernel
theorem dX2_init_5 : decode cX2_init 5 = .ok (.bipush 6, 2) := by decide +kernel
theorem dX2_init_7 : decode cX2_init 7 = .ok (.bipush 6, 2) := by decide +kernel
theorem dX2_init_9 : decode cX2_init 9 = .ok (.multianewarray 9 2, 4) := by decide +kernel
theorem dX2_init_13 : decode cX2_init 13 = .ok (.putfield 11, 3) := by decide +kernel
theorem dX2_init_16 : decode cX2_init 16 = .ok (.aload_n 0, 1) := by decide +kernel
theorem dX2_init_17 : decode cX2_init 17 = .ok (.bipush 6, 2) := by decide +kernel
theorem dX2_init_19 : decode cX2_init 19 = .ok (.bipush 6, 2) := by decide +kernel
theorem dX2_init_21 : decode cX2_init 21 = .ok (.multianewarray 9 2, 4) := by decide +kernel
theorem dX2_init_25 : decode cX2_init 25 = .ok (.putfield 16, 3) := by decide +kernel
theorem dX2_init_28 : decode cX2_init 28 = .ok (.return_, 1) := by decide +kernel
theorem dX2_setTargets_0 : decode cX2_setTargets 0 = .ok (.iconst 0, 1) := by decide +kernel
theorem dX2_setTargets_1 : decode cX2_setTargets 1 = .ok (.istore_n 3, 1) := by decide +kernel
theorem dX2_setTargets_2 : decode cX2_setTargets 2 = .ok (.iload_n 3, 1) := by decide +kernel
theorem dX2_setTargets_3 : decode cX2_setTargets 3 = .ok (.bipush 6, 2) := by decide +kernel
theorem dX2_setTargets_5 : decode cX2_setTargets 5 = .ok (.if_icmp .ge 20, 3) := by decide +kernel
theorem dX2_setTargets_8 : decode cX2_setTargets 8 = .ok (.aload_n 0, 1) := by decide +kernel
theorem dX2_setTargets_9 : decode cX2_setTargets 9 = .ok (.getfield 16, 3) := by decide +kernel
theorem dX2_setTargets_12 : decode cX2_setTargets 12 = .ok (.iload_n 1, 1) := by decide +kernel
theorem dX2_setTargets_13 : decode cX2_setTargets 13 = .ok (.aaload, 1) := by decide +kernel
theorem dX2_setTargets_14 : decode cX2_setTargets 14 = .ok (.iload_n 3, 1) := by decide +kernel
theorem dX2_setTargets_15 : decode cX2_setTargets 15 = .ok (.aload_n 2, 1) := by decide +kernel
theorem dX2_setTargets_16 : decode cX2_setTargets 16 = .ok (.iload_n 3, 1) := by decide +kernel
theorem dX2_setTargets_17 : decode cX2_setTargets 17 = .ok (.iaload, 1) := by decide +kernel
theorem dX2_setTargets_18 : decode cX2_setTargets 18 = .ok (.iastore, 1) := by decide +kernel
theorem dX2_setTargets_19 : decode cX2_setTargets 19 = .ok (.iinc 3 1, 3) := by decide +kernel
theorem dX2_setTargets_22 : decode cX2_setTargets 22 = .ok (.goto (-20), 3) := by decide +kernel
theorem dX2_setTargets_25 : decode cX2_setTargets 25 = .ok (.return_, 1) := by decide +kernel
theorem dX2_lowerToTargets_0 : decode cX2_lowerToTargets 0 = .ok (.iconst 0, 1) := by decide +kernel
theorem dX2_lowerToTargets_1 : decode cX2_lowerToTargets 1 = .ok (.istore_n 1, 1) := by decide +kernel
theorem dX2_lowerToTargets_2 : decode cX2_lowerToTargets 2 = .ok (.iload_n 1, 1) := by decide +kernel
theorem dX2_lowerToTargets_3 : decode cX2_lowerToTargets 3 = .ok (.bipush 6, 2) := by decide +kernel
theorem dX2_lowerToTargets_5 : decode cX2_lowerToTargets 5 = .ok (.if_icmp .ge 58, 3) := by decide +kernel
theorem dX2_lowerToTargets_8 : decode cX2_lowerToTargets 8 = .ok (.iconst 0, 1) := by decide +kernel
theorem dX2_lowerToTargets_9 : decode cX2_lowerToTargets 9 = .ok (.istore_n 2, 1) := by decide +kernel
theorem dX2_lowerToTargets_10 : decode cX2_lowerToTargets 10 = .ok (.iload_n 2, 1) := by decide +kernel
theorem dX2_lowerToTargets_11 : decode cX2_lowerToTargets 11 = .ok (.bipush 6, 2) := by decide +kernel
theorem dX2_lowerToTargets_13 : decode cX2_lowerToTargets 13 = .ok (.if_icmp .ge 44, 3) := by decide +kernel
theorem dX2_lowerToTargets_16 : decode cX2_lowerToTargets 16 = .ok (.aload_n 0, 1) := by decide +kernel
theorem dX2_lowerToTargets_17 : decode cX2_lowerToTargets 17 = .ok (.getfield 11, 3) := by decide +kernel
theorem dX2_lowerToTargets_20 : decode cX2_lowerToTargets 20 = .ok (.iload_n 1, 1) := by decide +kernel
theorem dX2_lowerToTargets_21 : decode cX2_lowerToTargets 21 = .ok (.aaload, 1) := by decide +kernel
theorem dX2_lowerToTargets_22 : decode cX2_lowerToTargets 22 = .ok (.iload_n 2, 1) := by decide +kernel
theorem dX2_lowerToTargets_23 : decode cX2_lowerToTargets 23 = .ok (.iaload, 1) := by decide +kernel
theorem dX2_lowerToTargets_24 : decode cX2_lowerToTargets 24 = .ok (.aload_n 0, 1) := by decide +kernel
theorem dX2_lowerToTargets_25 : decode cX2_lowerToTargets 25 = .ok (.getfield 16, 3) := by decide +kernel
theorem dX2_lowerToTargets_28 : decode cX2_lowerToTargets 28 = .ok (.iload_n 1, 1) := by decide +kernel
theorem dX2_lowerToTargets_29 : decode cX2_lowerToTargets 29 = .ok (.aaload, 1) := by decide +kernel
theorem dX2_lowerToTargets_30 : decode cX2_lowerToTargets 30 = .ok (.iload_n 2, 1) := by decide +kernel
theorem dX2_lowerToTargets_31 : decode cX2_lowerToTargets 31 = .ok (.iaload, 1) := by decide +kernel
theorem dX2_lowerToTargets_32 : decode cX2_lowerToTargets 32 = .ok (.if_icmp .le 19, 3) := by decide +kernel
theorem dX2_lowerToTargets_35 : decode cX2_lowerToTargets 35 = .ok (.aload_n 0, 1) := by decide +kernel
theorem dX2_lowerToTargets_36 : decode cX2_lowerToTargets 36 = .ok (.getfield 11, 3) := by decide +kernel
theorem dX2_lowerToTargets_39 : decode cX2_lowerToTargets 39 = .ok (.iload_n 1, 1) := by decide +kernel
theorem dX2_lowerToTargets_40 : decode cX2_lowerToTargets 40 = .ok (.aaload, 1) := by decide +kernel
theorem dX2_lowerToTargets_41 : decode cX2_lowerToTargets 41 = .ok (.iload_n 2, 1) := by decide +kernel
theorem dX2_lowerToTargets_42 : decode cX2_lowerToTargets 42 = .ok (.aload_n 0, 1) := by decide +kernel
theorem dX2_lowerToTargets_43 : decode cX2_lowerToTargets 43 = .ok (.getfield 16, 3) := by decide +kernel
theorem dX2_lowerToTargets_46 : decode cX2_lowerToTargets 46 = .ok (.iload_n 1, 1) := by decide +kernel
theorem dX2_lowerToTargets_47 : decode cX2_lowerToTargets 47 = .ok (.aaload, 1) := by decide +kernel
theorem dX2_lowerToTargets_48 : decode cX2_lowerToTargets 48 = .ok (.iload_n 2, 1) := by decide +kernel
theorem dX2_lowerToTargets_49 : decode cX2_lowerToTargets 49 = .ok (.iaload, 1) := by decide +kernel
theorem dX2_lowerToTargets_50 : decode cX2_lowerToTargets 50 = .ok (.iastore, 1) := by decide +kernel
theorem dX2_lowerToTargets_51 : decode cX2_lowerToTargets 51 = .ok (.iinc 2 1, 3) := by decide +kernel
theorem dX2_lowerToTargets_54 : decode cX2_lowerToTargets 54 = .ok (.goto (-44), 3) := by decide +kernel
theorem dX2_lowerToTargets_57 : decode cX2_lowerToTargets 57 = .ok (.iinc 1 1, 3) := by decide +kernel
theorem dX2_lowerToTargets_60 : decode cX2_lowerToTargets 60 = .ok (.goto (-58), 3) := by decide +kernel
theorem dX2_lowerToTargets_63 : decode cX2_lowerToTargets 63 = .ok (.return_, 1) := by decide +kernel
theorem dX2_isWantedHigher_0 : decode cX2_isWantedHigher 0 = .ok (.iconst 0, 1) := by decide +kernel
theorem dX2_isWantedHigher_1 : decode cX2_isWantedHigher 1 = .ok (.istore_n 2, 1) := by decide +kernel
theorem dX2_isWantedHigher_2 : decode cX2_isWantedHigher 2 = .ok (.iload_n 2, 1) := by decide +kernel
theorem dX2_isWantedHigher_3 : decode cX2_isWantedHigher 3 = .ok (.bipush 6, 2) := by decide +kernel
theorem dX2_isWantedHigher_5 : decode cX2_isWantedHigher 5 = .ok (.if_icmp .ge 30, 3) := by decide +kernel
theorem dX2_isWantedHigher_8 : decode cX2_isWantedHigher 8 = .ok (.aload_n 0, 1) := by decide +kernel
theorem dX2_isWantedHigher_9 : decode cX2_isWantedHigher 9 = .ok (.getfield 16, 3) := by decide +kernel
theorem dX2_isWantedHigher_12 : decode cX2_isWantedHigher 12 = .ok (.iload_n 2, 1) := by decide +kernel
theorem dX2_isWantedHigher_13 : decode cX2_isWantedHigher 13 = .ok (.aaload, 1) := by decide +kernel
theorem dX2_isWantedHigher_14 : decode cX2_isWantedHigher 14 = .ok (.iload_n 1, 1) := by decide +kernel
theorem dX2_isWantedHigher_15 : decode cX2_isWantedHigher 15 = .ok (.iaload, 1) := by decide +kernel
theorem dX2_isWantedHigher_16 : decode cX2_isWantedHigher 16 = .ok (.aload_n 0, 1) := by decide +kernel
theorem dX2_isWantedHigher_17 : decode cX2_isWantedHigher 17 = .ok (.getfield 11, 3) := by decide +kernel
theorem dX2_isWantedHigher_20 : decode cX2_isWantedHigher 20 = .ok (.iload_n 2, 1) := by decide +kernel
theorem dX2_isWantedHigher_21 : decode cX2_isWantedHigher 21 = .ok (.aaload, 1) := by decide +kernel
theorem dX2_isWantedHigher_22 : decode cX2_isWantedHigher 22 = .ok (.iload_n 1, 1) := by decide +kernel
theorem dX2_isWantedHigher_23 : decode cX2_isWantedHigher 23 = .ok (.iaload, 1) := by decide +kernel
theorem dX2_isWantedHigher_24 : decode cX2_isWantedHigher 24 = .ok (.if_icmp .le 5, 3) := by decide +kernel
theorem dX2_isWantedHigher_27 : decode cX2_isWantedHigher 27 = .ok (.iconst 1, 1) := by decide +kernel
theorem dX2_isWantedHigher_28 : decode cX2_isWantedHigher 28 = .ok (.ireturn, 1) := by decide +kernel
theorem dX2_isWantedHigher_29 : decode cX2_isWantedHigher 29 = .ok (.iinc 2 1, 3) := by decide +kernel
theorem dX2_isWantedHigher_32 : decode cX2_isWantedHigher 32 = .ok (.goto (-30), 3) := by decide +kernel
theorem dX2_isWantedHigher_35 : decode cX2_isWantedHigher 35 = .ok (.iconst 0, 1) := by decide +kernel
theorem dX2_isWantedHigher_36 : decode cX2_isWantedHigher 36 = .ok (.ireturn, 1) := by decide +kernel
theorem dX2_switchToTargets_0 : decode cX2_switchToTargets 0 = .ok (.iconst 0, 1) := by decide +kernel
theorem dX2_switchToTargets_1 : decode cX2_switchToTargets 1 = .ok (.istore_n 2, 1) := by decide +kernel
theorem dX2_switchToTargets_2 : decode cX2_switchToTargets 2 = .ok (.iload_n 2, 1) := by decide +kernel
theorem dX2_switchToTargets_3 : decode cX2_switchToTargets 3 = .ok (.bipush 6, 2) := by decide +kernel
theorem dX2_switchToTargets_5 : decode cX2_switchToTargets 5 = .ok (.if_icmp .ge 25, 3) := by decide +kernel
theorem dX2_switchToTargets_8 : decode cX2_switchToTargets 8 = .ok (.aload_n 0, 1) := by decide +kernel
theorem dX2_switchToTargets_9 : decode cX2_switchToTargets 9 = .ok (.getfield 11, 3) := by decide +kernel
theorem dX2_switchToTargets_12 : decode cX2_switchToTargets 12 = .ok (.iload_n 2, 1) := by decide +kernel
theorem dX2_switchToTargets_13 : decode cX2_switchToTargets 13 = .ok (.aaload, 1) := by decide +kernel
theorem dX2_switchToTargets_14 : decode cX2_switchToTargets 14 = .ok (.iload_n 1, 1) := by decide +kernel
theorem dX2_switchToTargets_15 : decode cX2_switchToTargets 15 = .ok (.aload_n 0, 1) := by decide +kernel
theorem dX2_switchToTargets_16 : decode cX2_switchToTargets 16 = .ok (.getfield 16, 3) := by decide +kernel
theorem dX2_switchToTargets_19 : decode cX2_switchToTargets 19 = .ok (.iload_n 2, 1) := by decide +kernel
theorem dX2_switchToTargets_20 : decode cX2_switchToTargets 20 = .ok (.aaload, 1) := by decide +kernel
theorem dX2_switchToTargets_21 : decode cX2_switchToTargets 21 = .ok (.iload_n 1, 1) := by decide +kernel
theorem dX2_switchToTargets_22 : decode cX2_switchToTargets 22 = .ok (.iaload, 1) := by decide +kernel
theorem dX2_switchToTargets_23 : decode cX2_switchToTargets 23 = .ok (.iastore, 1) := by decide +kernel
theorem dX2_switchToTargets_24 : decode cX2_switchToTargets 24 = .ok (.iinc 2 1, 3) := by decide +kernel
theorem dX2_switchToTargets_27 : decode cX2_switchToTargets 27 = .ok (.goto (-25), 3) := by decide +kernel
theorem dX2_switchToTargets_30 : decode cX2_switchToTargets 30 = .ok (.return_, 1) := by decide +kernel
theorem dX2_clearStream_0 : decode cX2_clearStream 0 = .ok (.iconst 0, 1) := by decide +kernel
theorem dX2_clearStream_1 : decode cX2_clearStream 1 = .ok (.istore_n 2, 1) := by decide +kernel
theorem dX2_clearStream_2 : decode cX2_clearStream 2 = .ok (.iload_n 2, 1) := by decide +kernel
theorem dX2_clearStream_3 : decode cX2_clearStream 3 = .ok (.bipush 6, 2) := by decide +kernel
theorem dX2_clearStream_5 : decode cX2_clearStream 5 = .ok (.if_icmp .ge 18, 3) := by decide +kernel
theorem dX2_clearStream_8 : decode cX2_clearStream 8 = .ok (.aload_n 0, 1) := by decide +kernel
theorem dX2_clearStream_9 : decode cX2_clearStream 9 = .ok (.getfield 11, 3) := by decide +kernel
theorem dX2_clearStream_12 : decode cX2_clearStream 12 = .ok (.iload_n 2, 1) := by decide +kernel
theorem dX2_clearStream_13 : decode cX2_clearStream 13 = .ok (.aaload, 1) := by decide +kernel
theorem dX2_clearStream_14 : decode cX2_clearStream 14 = .ok (.iload_n 1, 1) := by decide +kernel
theorem dX2_clearStream_15 : decode cX2_clearStream 15 = .ok (.iconst 0, 1) := by decide +kernel
theorem dX2_clearStream_16 : decode cX2_clearStream 16 = .ok (.iastore, 1) := by decide +kernel
theorem dX2_clearStream_17 : decode cX2_clearStream 17 = .ok (.iinc 2 1, 3) := by decide +kernel
theorem dX2_clearStream_20 : decode cX2_clearStream 20 = .ok (.goto (-18), 3) := by decide +kernel
theorem dX2_clearStream_23 : decode cX2_clearStream 23 = .ok (.return_, 1) := by decide +kernel
theorem dX2_clearReceiver_0 : decode cX2_clearReceiver 0 = .ok (.iconst 0, 1) := by decide +kernel
theorem dX2_clearReceiver_1 : decode cX2_clearReceiver 1 = .ok (.istore_n 2, 1) := by decide +kernel
theorem dX2_clearReceiver_2 : decode cX2_clearReceiver 2 = .ok (.iload_n 2, 1) := by decide +kernel
theorem dX2_clearReceiver_3 : decode cX2_clearReceiver 3 = .ok (.bipush 6, 2) := by decide +kernel
theorem dX2_clearReceiver_5 : decode cX2_clearReceiver 5 = .ok (.if_icmp .ge 27, 3) := by decide +kernel
theorem dX2_clearReceiver_8 : decode cX2_clearReceiver 8 = .ok (.aload_n 0, 1) := by decide +kernel
theorem dX2_clearReceiver_9 : decode cX2_clearReceiver 9 = .ok (.getfield 11, 3) := by decide +kernel
theorem dX2_clearReceiver_12 : decode cX2_clearReceiver 12 = .ok (.iload_n 1, 1) := by decide +kernel
theorem dX2_clearReceiver_13 : decode cX2_clearReceiver 13 = .ok (.aaload, 1) := by decide +kernel
theorem dX2_clearReceiver_14 : decode cX2_clearReceiver 14 = .ok (.iload_n 2, 1) := by decide +kernel
theorem dX2_clearReceiver_15 : decode cX2_clearReceiver 15 = .ok (.iconst 0, 1) := by decide +kernel
theorem dX2_clearReceiver_16 : decode cX2_clearReceiver 16 = .ok (.iastore, 1) := by decide +kernel
theorem dX2_clearReceiver_17 : decode cX2_clearReceiver 17 = .ok (.aload_n 0, 1) := by decide +kernel
theorem dX2_clearReceiver_18 : decode cX2_clearReceiver 18 = .ok (.getfield 16, 3) := by decide +kernel
theorem dX2_clearReceiver_21 : decode cX2_clearReceiver 21 = .ok (.iload_n 1, 1) := by decide +kernel
theorem dX2_clearReceiver_22 : decode cX2_clearReceiver 22 = .ok (.aaload, 1) := by decide +kernel
theorem dX2_clearReceiver_23 : decode cX2_clearReceiver 23 = .ok (.iload_n 2, 1) := by decide +kernel
theorem dX2_clearReceiver_24 : decode cX2_clearReceiver 24 = .ok (.iconst 0, 1) := by decide +kernel
theorem dX2_clearReceiver_25 : decode cX2_clearReceiver 25 = .ok (.iastore, 1) := by decide +kernel
theorem dX2_clearReceiver_26 : decode cX2_clearReceiver 26 = .ok (.iinc 2 1, 3) := by decide +kernel
theorem dX2_clearReceiver_29 : decode cX2_clearReceiver 29 = .ok (.goto (-27), 3) := by decide +kernel
theorem dX2_clearReceiver_32 : decode cX2_clearReceiver 32 = .ok (.return_, 1) := by decide +kernel
theorem dX3_init_0 : decode cX3_init 0 = .ok (.aload_n 0, 1) := by decide +kernel
theorem dX3_init_1 : decode cX3_init 1 = .ok (.invokespecial 3, 3) := by decide +kernel
theorem dX3_init_4 : decode cX3_init 4 = .ok (.aload_n 0, 1) := by decide +kernel
theorem dX3_init_5 : decode cX3_init 5 = .ok (.bipush 6, 2) := by decide +kernel
theorem dX3_init_7 : decode cX3_init 7 = .ok (.newarray .int, 2) := by decide +kernel
theorem dX3_init_9 : decode cX3_init 9 = .ok (.putfield 9, 3) := by decide +kernel
theorem dX3_init_12 : decode cX3_init 12 = .ok (.aload_n 0, 1) := by decide +kernel
theorem dX3_init_13 : decode cX3_init 13 = .ok (.iconst 0, 1) := by decide +kernel
theorem dX3_init_14 : decode cX3_init 14 = .ok (.putfield 15, 3) := by decide +kernel
theorem dX3_init_17 : decode cX3_init 17 = .ok (.return_, 1) := by decide +kernel
set_option maxRecDepth 20000 in
theorem ggX3_shareInRounds_X3_startWith : GoodIn wsX3_shareInRounds wsX3_startWith := goodIn_r _ [7, 8, 9, 22, 23] (by decide +kernel) (by decide +kernel)
set_option maxRecDepth 20000 in
theorem gX3_shareInRounds_X3_startWith : GoodIn wsX3_shareInRounds (wsV RX3 19 RX3 yX3_startWith wsX3_startWith) := goodIn_app (goodIn_of _ (by decide +kernel)) ggX3_shareInRounds_X3_startWith
set_option maxRecDepth 20000 in
theorem ggX3_shareInRounds_X3_giveFirstLayer : GoodIn wsX3_shareInRounds wsX3_giveFirstLayer := goodIn_r _ [13, 9, 14, 8, 22, 23, 24, 25, 26, 27, 28, 29, 30] (by decide +kernel) (by decide +kernel)
set_option maxRecDepth 20000 in
theorem gX3_shareInRounds_X3_giveFirstLayer : GoodIn wsX3_shareInRounds (wsV RX3 31 RX3 yX3_giveFirstLayer wsX3_giveFirstLayer) := goodIn_app (goodIn_of _ (by decide +kernel)) ggX3_shareInRounds_X3_giveFirstLayer
set_option maxRecDepth 20000 in
theorem ggX3_shareInRounds_X3_giveNextLayer : GoodIn wsX3_shareInRounds wsX3_giveNextLayer := goodIn_r _ [18, 9, 19, 8, 22, 23, 24, 25, 26, 27, 28, 29, 30] (by decide +kernel) (by decide +kernel)
set_option maxRecDepth 20000 in
theorem gX3_shareInRounds_X3_giveNextLayer : GoodIn wsX3_shareInRounds (wsV RX3 35 RX3 yX3_giveNextLayer wsX3_giveNextLayer) := goodIn_app (goodIn_of _ (by decide +kernel)) ggX3_shareInRounds_X3_giveNextLayer
theorem dX3_shareInRounds_0 : decode cX3_shareInRounds 0 = .ok (.aload_n 0, 1) := by decide +kernel
theorem dX3_shareInRounds_1 : decode cX3_shareInRounds 1 = .ok (.iload_n 3, 1) := by decide +kernel
theorem dX3_shareInRounds_2 : decode cX3_shareInRounds 2 = .ok (.invokevirtual 19, 3) := by decide +kernel
theorem dX3_shareInRounds_5 : decode cX3_shareInRounds 5 = .ok (.iconst 0, 1) := by decide +kernel
theorem dX3_shareInRounds_6 : decode cX3_shareInRounds 6 = .ok (.istore 4, 2) := by decide +kernel
theorem dX3_shareInRounds_8 : decode cX3_shareInRounds 8 = .ok (.iload 4, 2) := by decide +kernel
theorem dX3_shareInRounds_10 : decode cX3_shareInRounds 10 = .ok (.aload_n 1, 1) := by decide +kernel
theorem dX3_shareInRounds_11 : decode cX3_shareInRounds 11 = .ok (.getfield 23, 3) := by decide +kernel
theorem dX3_shareInRounds_14 : decode cX3_shareInRounds 14 = .ok (.if_icmp .ge 22, 3) := by decide +kernel
theorem dX3_shareInRounds_17 : decode cX3_shareInRounds 17 = .ok (.aload_n 0, 1) := by decide +kernel
theorem dX3_shareInRounds_18 : decode cX3_shareInRounds 18 = .ok (.aload_n 1, 1) := by decide +kernel
theorem dX3_shareInRounds_19 : decode cX3_shareInRounds 19 = .ok (.getfield 28, 3) := by decide +kernel
theorem dX3_shareInRounds_22 : decode cX3_shareInRounds 22 = .ok (.iload 4, 2) := by decide +kernel
theorem dX3_shareInRounds_24 : decode cX3_shareInRounds 24 = .ok (.iaload, 1) := by decide +kernel
theorem dX3_shareInRounds_25 : decode cX3_shareInRounds 25 = .ok (.aload_n 2, 1) := by decide +kernel
theorem dX3_shareInRounds_26 : decode cX3_shareInRounds 26 = .ok (.invokevirtual 31, 3) := by decide +kernel
theorem dX3_shareInRounds_29 : decode cX3_shareInRounds 29 = .ok (.pop, 1) := by decide +kernel
theorem dX3_shareInRounds_30 : decode cX3_shareInRounds 30 = .ok (.iinc 4 1, 3) := by decide +kernel
theorem dX3_shareInRounds_33 : decode cX3_shareInRounds 33 = .ok (.goto (-25), 3) := by decide +kernel
theorem dX3_shareInRounds_36 : decode cX3_shareInRounds 36 = .ok (.iconst 0, 1) := by decide +kernel
theorem dX3_shareInRounds_37 : decode cX3_shareInRounds 37 = .ok (.istore 4, 2) := by decide +kernel
theorem dX3_shareInRounds_39 : decode cX3_shareInRounds 39 = .ok (.iload 4, 2) := by decide +kernel
theorem dX3_shareInRounds_41 : decode cX3_shareInRounds 41 = .ok (.aload_n 1, 1) := by decide +kernel
theorem dX3_shareInRounds_42 : decode cX3_shareInRounds 42 = .ok (.getfield 23, 3) := by decide +kernel
theorem dX3_shareInRounds_45 : decode cX3_shareInRounds 45 = .ok (.if_icmp .ge 37, 3) := by decide +kernel
theorem dX3_shareInRounds_48 : decode cX3_shareInRounds 48 = .ok (.iconst 1, 1) := by decide +kernel
theorem dX3_shareInRounds_49 : decode cX3_shareInRounds 49 = .ok (.istore 5, 2) := by decide +kernel
theorem dX3_shareInRounds_51 : decode cX3_shareInRounds 51 = .ok (.iload 5, 2) := by decide +kernel
theorem dX3_shareInRounds_53 : decode cX3_shareInRounds 53 = .ok (.iconst 3, 1) := by decide +kernel
theorem dX3_shareInRounds_54 : decode cX3_shareInRounds 54 = .ok (.if_icmp .ge 22, 3) := by decide +kernel
theorem dX3_shareInRounds_57 : decode cX3_shareInRounds 57 = .ok (.aload_n 0, 1) := by decide +kernel
theorem dX3_shareInRounds_58 : decode cX3_shareInRounds 58 = .ok (.aload_n 1, 1) := by decide +kernel
theorem dX3_shareInRounds_59 : decode cX3_shareInRounds 59 = .ok (.getfield 28, 3) := by decide +kernel
theorem dX3_shareInRounds_62 : decode cX3_shareInRounds 62 = .ok (.iload 4, 2) := by decide +kernel
theorem dX3_shareInRounds_64 : decode cX3_shareInRounds 64 = .ok (.iaload, 1) := by decide +kernel
theorem dX3_shareInRounds_65 : decode cX3_shareInRounds 65 = .ok (.aload_n 2, 1) := by decide +kernel
theorem dX3_shareInRounds_66 : decode cX3_shareInRounds 66 = .ok (.invokevirtual 35, 3) := by decide +kernel
theorem dX3_shareInRounds_69 : decode cX3_shareInRounds 69 = .ok (.pop, 1) := by decide +kernel
theorem dX3_shareInRounds_70 : decode cX3_shareInRounds 70 = .ok (.iinc 5 1, 3) := by decide +kernel
theorem dX3_shareInRounds_73 : decode cX3_shareInRounds 73 = .ok (.goto (-22), 3) := by decide +kernel
theorem dX3_shareInRounds_76 : decode cX3_shareInRounds 76 = .ok (.iinc 4 1, 3) := by decide +kernel
theorem dX3_shareInRounds_79 : decode cX3_shareInRounds 79 = .ok (.goto (-40), 3) := by decide +kernel
theorem dX3_shareInRounds_82 : decode cX3_shareInRounds 82 = .ok (.return_, 1) := by decide +kernel
set_option maxRecDepth 20000 in
theorem ggX3_shareBySteps_X3_startWith : GoodIn wsX3_shareBySteps wsX3_startWith := goodIn_r _ [5, 6, 7, 28, 29] (by decide +kernel) (by decide +kernel)
set_option maxRecDepth 20000 in
theorem gX3_shareBySteps_X3_startWith : GoodIn wsX3_shareBySteps (wsV RX3 19 RX3 yX3_startWith wsX3_startWith) := goodIn_app (goodIn_of _ (by decide +kernel)) ggX3_shareBySteps_X3_startWith
set_option maxRecDepth 20000 in
theorem ggX3_shareBySteps_X3_giveOneFirstLayer : GoodIn wsX3_shareBySteps wsX3_giveOneFirstLayer := goodIn_r _ [11, 12, 13, 14, 15, 16, 4, 17, 7, 18, 6, 30, 31, 28, 29, 32, 33, 34, 35, 36, 37, 38] (by decide +kernel) (by decide +kernel)
set_option maxRecDepth 20000 in
theorem gX3_shareBySteps_X3_giveOneFirstLayer : GoodIn wsX3_shareBySteps (wsV RX3 38 RX3 yX3_giveOneFirstLayer wsX3_giveOneFirstLayer) := goodIn_app (goodIn_of _ (by decide +kernel)) ggX3_shareBySteps_X3_giveOneFirstLayer
set_option maxRecDepth 20000 in
theorem ggX3_shareBySteps_X3_giveOneNextLayer : GoodIn wsX3_shareBySteps wsX3_giveOneNextLayer := goodIn_r _ [22, 12, 13, 23, 24, 25, 4, 26, 7, 27, 6, 30, 31, 28, 29, 32, 33, 34, 35, 36, 37, 38] (by decide +kernel) (by decide +kernel)
set_option maxRecDepth 20000 in
theorem gX3_shareBySteps_X3_giveOneNextLayer : GoodIn wsX3_shareBySteps (wsV RX3 42 RX3 yX3_giveOneNextLayer wsX3_giveOneNextLayer) := goodIn_app (goodIn_of _ (by decide +kernel)) ggX3_shareBySteps_X3_giveOneNextLayer
theorem dX3_shareBySteps_0 : decode cX3_shareBySteps 0 = .ok (.aload_n 0, 1) := by decide +kernel
theorem dX3_shareBySteps_1 : decode cX3_shareBySteps 1 = .ok (.iload_n 3, 1) := by decide +kernel
theorem dX3_shareBySteps_2 : decode cX3_shareBySteps 2 = .ok (.invokevirtual 19, 3) := by decide +kernel
theorem dX3_shareBySteps_5 : decode cX3_shareBySteps 5 = .ok (.iconst 1, 1) := by decide +kernel
theorem dX3_shareBySteps_6 : decode cX3_shareBySteps 6 = .ok (.istore 4, 2) := by decide +kernel
theorem dX3_shareBySteps_8 : decode cX3_shareBySteps 8 = .ok (.iconst 0, 1) := by decide +kernel
theorem dX3_shareBySteps_9 : decode cX3_shareBySteps 9 = .ok (.istore 5, 2) := by decide +kernel
theorem dX3_shareBySteps_11 : decode cX3_shareBySteps 11 = .ok (.iload 4, 2) := by decide +kernel
theorem dX3_shareBySteps_13 : decode cX3_shareBySteps 13 = .ok (.ifCond .eq 41, 3) := by decide +kernel
theorem dX3_shareBySteps_16 : decode cX3_shareBySteps 16 = .ok (.iload 5, 2) := by decide +kernel
theorem dX3_shareBySteps_18 : decode cX3_shareBySteps 18 = .ok (.bipush 18, 2) := by decide +kernel
theorem dX3_shareBySteps_20 : decode cX3_shareBySteps 20 = .ok (.if_icmp .ge 34, 3) := by decide +kernel
theorem dX3_shareBySteps_23 : decode cX3_shareBySteps 23 = .ok (.aload_n 0, 1) := by decide +kernel
theorem dX3_shareBySteps_24 : decode cX3_shareBySteps 24 = .ok (.aload_n 1, 1) := by decide +kernel
theorem dX3_shareBySteps_25 : decode cX3_shareBySteps 25 = .ok (.aload_n 2, 1) := by decide +kernel
theorem dX3_shareBySteps_26 : decode cX3_shareBySteps 26 = .ok (.invokevirtual 38, 3) := by decide +kernel
theorem dX3_shareBySteps_29 : decode cX3_shareBySteps 29 = .ok (.ifCond .ne 12, 3) := by decide +kernel
theorem dX3_shareBySteps_32 : decode cX3_shareBySteps 32 = .ok (.aload_n 0, 1) := by decide +kernel
theorem dX3_shareBySteps_33 : decode cX3_shareBySteps 33 = .ok (.aload_n 1, 1) := by decide +kernel
theorem dX3_shareBySteps_34 : decode cX3_shareBySteps 34 = .ok (.aload_n 2, 1) := by decide +kernel
theorem dX3_shareBySteps_35 : decode cX3_shareBySteps 35 = .ok (.invokevirtual 42, 3) := by decide +kernel
theorem dX3_shareBySteps_38 : decode cX3_shareBySteps 38 = .ok (.ifCond .eq 7, 3) := by decide +kernel
theorem dX3_shareBySteps_41 : decode cX3_shareBySteps 41 = .ok (.iconst 1, 1) := by decide +kernel
theorem dX3_shareBySteps_42 : decode cX3_shareBySteps 42 = .ok (.goto 4, 3) := by decide +kernel
theorem dX3_shareBySteps_45 : decode cX3_shareBySteps 45 = .ok (.iconst 0, 1) := by decide +kernel
theorem dX3_shareBySteps_46 : decode cX3_shareBySteps 46 = .ok (.istore 4, 2) := by decide +kernel
theorem dX3_shareBySteps_48 : decode cX3_shareBySteps 48 = .ok (.iinc 5 1, 3) := by decide +kernel
theorem dX3_shareBySteps_51 : decode cX3_shareBySteps 51 = .ok (.goto (-40), 3) := by decide +kernel
theorem dX3_shareBySteps_54 : decode cX3_shareBySteps 54 = .ok (.return_, 1) := by decide +kernel
theorem dX3_startWith_0 : decode cX3_startWith 0 = .ok (.aload_n 0, 1) := by decide +kernel
theorem dX3_startWith_1 : decode cX3_startWith 1 = .ok (.iload_n 1, 1) := by decide +kernel
theorem dX3_startWith_2 : decode cX3_startWith 2 = .ok (.putfield 15, 3) := by decide +kernel
theorem dX3_startWith_5 : decode cX3_startWith 5 = .ok (.iconst 0, 1) := by decide +kernel
theorem dX3_startWith_6 : decode cX3_startWith 6 = .ok (.istore_n 2, 1) := by decide +kernel
theorem dX3_startWith_7 : decode cX3_startWith 7 = .ok (.iload_n 2, 1) := by decide +kernel
theorem dX3_startWith_8 : decode cX3_startWith 8 = .ok (.bipush 6, 2) := by decide +kernel
theorem dX3_startWith_10 : decode cX3_startWith 10 = .ok (.if_icmp .ge 16, 3) := by decide +kernel
theorem dX3_startWith_13 : decode cX3_startWith 13 = .ok (.aload_n 0, 1) := by decide +kernel
theorem dX3_startWith_14 : decode cX3_startWith 14 = .ok (.getfield 9, 3) := by decide +kernel
theorem dX3_startWith_17 : decode cX3_startWith 17 = .ok (.iload_n 2, 1) := by decide +kernel
theorem dX3_startWith_18 : decode cX3_startWith 18 = .ok (.iconst 0, 1) := by decide +kernel
theorem dX3_startWith_19 : decode cX3_startWith 19 = .ok (.iastore, 1) := by decide +kernel
theorem dX3_startWith_20 : decode cX3_startWith 20 = .ok (.iinc 2 1, 3) := by decide +kernel
theorem dX3_startWith_23 : decode cX3_startWith 23 = .ok (.goto (-16), 3) := by decide +kernel
theorem dX3_startWith_26 : decode cX3_startWith 26 = .ok (.return_, 1) := by decide +kernel
set_option maxRecDepth 20000 in
theorem ggX3_giveOneFirstLayer_X3_giveFirstLayer : GoodIn wsX3_giveOneFirstLayer wsX3_giveFirstLayer := goodIn_r _ [7, 8, 9, 10, 13, 14, 15, 16, 17, 18, 19, 20, 21] (by decide +kernel) (by decide +kernel)
set_option maxRecDepth 20000 in
theorem gX3_giveOneFirstLayer_X3_giveFirstLayer : GoodIn wsX3_giveOneFirstLayer (wsV RX3 31 RX3 yX3_giveFirstLayer wsX3_giveFirstLayer) := goodIn_app (goodIn_of _ (by decide +kernel)) ggX3_giveOneFirstLayer_X3_giveFirstLayer
theorem dX3_giveOneFirstLayer_0 : decode cX3_giveOneFirstLayer 0 = .ok (.iconst 0, 1) := by decide +kernel
theorem dX3_giveOneFirstLayer_1 : decode cX3_giveOneFirstLayer 1 = .ok (.istore_n 3, 1) := by decide +kernel
theorem dX3_giveOneFirstLayer_2 : decode cX3_giveOneFirstLayer 2 = .ok (.iload_n 3, 1) := by decide +kernel
theorem dX3_giveOneFirstLayer_3 : decode cX3_giveOneFirstLayer 3 = .ok (.aload_n 1, 1) := by decide +kernel
theorem dX3_giveOneFirstLayer_4 : decode cX3_giveOneFirstLayer 4 = .ok (.getfield 23, 3) := by decide +kernel
theorem dX3_giveOneFirstLayer_7 : decode cX3_giveOneFirstLayer 7 = .ok (.if_icmp .ge 25, 3) := by decide +kernel
theorem dX3_giveOneFirstLayer_10 : decode cX3_giveOneFirstLayer 10 = .ok (.aload_n 0, 1) := by decide +kernel
theorem dX3_giveOneFirstLayer_11 : decode cX3_giveOneFirstLayer 11 = .ok (.aload_n 1, 1) := by decide +kernel
theorem dX3_giveOneFirstLayer_12 : decode cX3_giveOneFirstLayer 12 = .ok (.getfield 28, 3) := by decide +kernel
theorem dX3_giveOneFirstLayer_15 : decode cX3_giveOneFirstLayer 15 = .ok (.iload_n 3, 1) := by decide +kernel
theorem dX3_giveOneFirstLayer_16 : decode cX3_giveOneFirstLayer 16 = .ok (.iaload, 1) := by decide +kernel
theorem dX3_giveOneFirstLayer_17 : decode cX3_giveOneFirstLayer 17 = .ok (.aload_n 2, 1) := by decide +kernel
theorem dX3_giveOneFirstLayer_18 : decode cX3_giveOneFirstLayer 18 = .ok (.invokevirtual 31, 3) := by decide +kernel
theorem dX3_giveOneFirstLayer_21 : decode cX3_giveOneFirstLayer 21 = .ok (.ifCond .eq 5, 3) := by decide +kernel
theorem dX3_giveOneFirstLayer_24 : decode cX3_giveOneFirstLayer 24 = .ok (.iconst 1, 1) := by decide +kernel
theorem dX3_giveOneFirstLayer_25 : decode cX3_giveOneFirstLayer 25 = .ok (.ireturn, 1) := by decide +kernel
theorem dX3_giveOneFirstLayer_26 : decode cX3_giveOneFirstLayer 26 = .ok (.iinc 3 1, 3) := by decide +kernel
theorem dX3_giveOneFirstLayer_29 : decode cX3_giveOneFirstLayer 29 = .ok (.goto (-27), 3) := by decide +kernel
theorem dX3_giveOneFirstLayer_32 : decode cX3_giveOneFirstLayer 32 = .ok (.iconst 0, 1) := by decide +kernel
theorem dX3_giveOneFirstLayer_33 : decode cX3_giveOneFirstLayer 33 = .ok (.ireturn, 1) := by decide +kernel
set_option maxRecDepth 20000 in
theorem ggX3_giveOneNextLayer_X3_giveNextLayer : GoodIn wsX3_giveOneNextLayer wsX3_giveNextLayer := goodIn_r _ [7, 8, 9, 10, 13, 14, 15, 16, 17, 18, 19, 20, 21] (by decide +kernel) (by decide +kernel)
set_option maxRecDepth 20000 in
theorem gX3_giveOneNextLayer_X3_giveNextLayer : GoodIn wsX3_giveOneNextLayer (wsV RX3 35 RX3 yX3_giveNextLayer wsX3_giveNextLayer) := goodIn_app (goodIn_of _ (by decide +kernel)) ggX3_giveOneNextLayer_X3_giveNextLayer
theorem dX3_giveOneNextLayer_0 : decode cX3_giveOneNextLayer 0 = .ok (.iconst 0, 1) := by decide +kernel
theorem dX3_giveOneNextLayer_1 : decode cX3_giveOneNextLayer 1 = .ok (.istore_n 3, 1) := by decide +kernel
theorem dX3_giveOneNextLayer_2 : decode cX3_giveOneNextLayer 2 = .ok (.iload_n 3, 1) := by decide +kernel
theorem dX3_giveOneNextLayer_3 : decode cX3_giveOneNextLayer 3 = .ok (.aload_n 1, 1) := by decide +kernel
theorem dX3_giveOneNextLayer_4 : decode cX3_giveOneNextLayer 4 = .ok (.getfield 23, 3) := by decide +kernel
theorem dX3_giveOneNextLayer_7 : decode cX3_giveOneNextLayer 7 = .ok (.if_icmp .ge 25, 3) := by decide +kernel
theorem dX3_giveOneNextLayer_10 : decode cX3_giveOneNextLayer 10 = .ok (.aload_n 0, 1) := by decide +kernel
theorem dX3_giveOneNextLayer_11 : decode cX3_giveOneNextLayer 11 = .ok (.aload_n 1, 1) := by decide +kernel
theorem dX3_giveOneNextLayer_12 : decode cX3_giveOneNextLayer 12 = .ok (.getfield 28, 3) := by decide +kernel
theorem dX3_giveOneNextLayer_15 : decode cX3_giveOneNextLayer 15 = .ok (.iload_n 3, 1) := by decide +kernel
theorem dX3_giveOneNextLayer_16 : decode cX3_giveOneNextLayer 16 = .ok (.iaload, 1) := by decide +kernel
theorem dX3_giveOneNextLayer_17 : decode cX3_giveOneNextLayer 17 = .ok (.aload_n 2, 1) := by decide +kernel
theorem dX3_giveOneNextLayer_18 : decode cX3_giveOneNextLayer 18 = .ok (.invokevirtual 35, 3) := by decide +kernel
theorem dX3_giveOneNextLayer_21 : decode cX3_giveOneNextLayer 21 = .ok (.ifCond .eq 5, 3) := by decide +kernel
theorem dX3_giveOneNextLayer_24 : decode cX3_giveOneNextLayer 24 = .ok (.iconst 1, 1) := by decide +kernel
theorem dX3_giveOneNextLayer_25 : decode cX3_giveOneNextLayer 25 = .ok (.ireturn, 1) := by decide +kernel
theorem dX3_giveOneNextLayer_26 : decode cX3_giveOneNextLayer 26 = .ok (.iinc 3 1, 3) := by decide +kernel
theorem dX3_giveOneNextLayer_29 : decode cX3_giveOneNextLayer 29 = .ok (.goto (-27), 3) := by decide +kernel
theorem dX3_giveOneNextLayer_32 : decode cX3_giveOneNextLayer 32 = .ok (.iconst 0, 1) := by decide +kernel
theorem dX3_giveOneNextLayer_33 : decode cX3_giveOneNextLayer 33 = .ok (.ireturn, 1) := by decide +kernel
theorem dX3_giveFirstLayer_0 : decode cX3_giveFirstLayer 0 = .ok (.aload_n 0, 1) := by decide +kernel
theorem dX3_giveFirstLayer_1 : decode cX3_giveFirstLayer 1 = .ok (.getfield 9, 3) := by decide +kernel
theorem dX3_giveFirstLayer_4 : decode cX3_giveFirstLayer 4 = .ok (.iload_n 1, 1) := by decide +kernel
theorem dX3_giveFirstLayer_5 : decode cX3_giveFirstLayer 5 = .ok (.iaload, 1) := by decide +kernel
theorem dX3_giveFirstLayer_6 : decode cX3_giveFirstLayer 6 = .ok (.ifCond .ne 16, 3) := by decide +kernel
theorem dX3_giveFirstLayer_9 : decode cX3_giveFirstLayer 9 = .ok (.aload_n 2, 1) := by decide +kernel
theorem dX3_giveFirstLayer_10 : decode cX3_giveFirstLayer 10 = .ok (.getfield 45, 3) := by decide +kernel
theorem dX3_giveFirstLayer_13 : decode cX3_giveFirstLayer 13 = .ok (.iload_n 1, 1) := by decide +kernel
theorem dX3_giveFirstLayer_14 : decode cX3_giveFirstLayer 14 = .ok (.iaload, 1) := by decide +kernel
theorem dX3_giveFirstLayer_15 : decode cX3_giveFirstLayer 15 = .ok (.aload_n 0, 1) := by decide +kernel
theorem dX3_giveFirstLayer_16 : decode cX3_giveFirstLayer 16 = .ok (.getfield 15, 3) := by decide +kernel
theorem dX3_giveFirstLayer_19 : decode cX3_giveFirstLayer 19 = .ok (.if_icmp .le 5, 3) := by decide +kernel
theorem dX3_giveFirstLayer_22 : decode cX3_giveFirstLayer 22 = .ok (.iconst 0, 1) := by decide +kernel
theorem dX3_giveFirstLayer_23 : decode cX3_giveFirstLayer 23 = .ok (.ireturn, 1) := by decide +kernel
theorem dX3_giveFirstLayer_24 : decode cX3_giveFirstLayer 24 = .ok (.aload_n 0, 1) := by decide +kernel
theorem dX3_giveFirstLayer_25 : decode cX3_giveFirstLayer 25 = .ok (.getfield 9, 3) := by decide +kernel
theorem dX3_giveFirstLayer_28 : decode cX3_giveFirstLayer 28 = .ok (.iload_n 1, 1) := by decide +kernel
theorem dX3_giveFirstLayer_29 : decode cX3_giveFirstLayer 29 = .ok (.iconst 1, 1) := by decide +kernel
theorem dX3_giveFirstLayer_30 : decode cX3_giveFirstLayer 30 = .ok (.iastore, 1) := by decide +kernel
theorem dX3_giveFirstLayer_31 : decode cX3_giveFirstLayer 31 = .ok (.aload_n 0, 1) := by decide +kernel
theorem dX3_giveFirstLayer_32 : decode cX3_giveFirstLayer 32 = .ok (.dup, 1) := by decide +kernel
theorem dX3_giveFirstLayer_33 : decode cX3_giveFirstLayer 33 = .ok (.getfield 15, 3) := by decide +kernel
theorem dX3_giveFirstLayer_36 : decode cX3_giveFirstLayer 36 = .ok (.aload_n 2, 1) := by decide +kernel
theorem dX3_giveFirstLayer_37 : decode cX3_giveFirstLayer 37 = .ok (.getfield 45, 3) := by decide +kernel
theorem dX3_giveFirstLayer_40 : decode cX3_giveFirstLayer 40 = .ok (.iload_n 1, 1) := by decide +kernel
theorem dX3_giveFirstLayer_41 : decode cX3_giveFirstLayer 41 = .ok (.iaload, 1) := by decide +kernel
theorem dX3_giveFirstLayer_42 : decode cX3_giveFirstLayer 42 = .ok (.isub, 1) := by decide +kernel
theorem dX3_giveFirstLayer_43 : decode cX3_giveFirstLayer 43 = .ok (.putfield 15, 3) := by decide +kernel
theorem dX3_giveFirstLayer_46 : decode cX3_giveFirstLayer 46 = .ok (.iconst 1, 1) := by decide +kernel
theorem dX3_giveFirstLayer_47 : decode cX3_giveFirstLayer 47 = .ok (.ireturn, 1) := by decide +kernel
theorem dX3_giveNextLayer_0 : decode cX3_giveNextLayer 0 = .ok (.aload_n 0, 1) := by decide +kernel
theorem dX3_giveNextLayer_1 : decode cX3_giveNextLayer 1 = .ok (.getfield 9, 3) := by decide +kernel
theorem dX3_giveNextLayer_4 : decode cX3_giveNextLayer 4 = .ok (.iload_n 1, 1) := by decide +kernel
theorem dX3_giveNextLayer_5 : decode cX3_giveNextLayer 5 = .ok (.iaload, 1) := by decide +kernel
theorem dX3_giveNextLayer_6 : decode cX3_giveNextLayer 6 = .ok (.ifCond .eq 26, 3) := by decide +kernel
theorem dX3_giveNextLayer_9 : decode cX3_giveNextLayer 9 = .ok (.aload_n 0, 1) := by decide +kernel
theorem dX3_giveNextLayer_10 : decode cX3_giveNextLayer 10 = .ok (.getfield 9, 3) := by decide +kernel
theorem dX3_giveNextLayer_13 : decode cX3_giveNextLayer 13 = .ok (.iload_n 1, 1) := by decide +kernel
theorem dX3_giveNextLayer_14 : decode cX3_giveNextLayer 14 = .ok (.iaload, 1) := by decide +kernel
theorem dX3_giveNextLayer_15 : decode cX3_giveNextLayer 15 = .ok (.iconst 3, 1) := by decide +kernel
theorem dX3_giveNextLayer_16 : decode cX3_giveNextLayer 16 = .ok (.if_icmp .ge 16, 3) := by decide +kernel
theorem dX3_giveNextLayer_19 : decode cX3_giveNextLayer 19 = .ok (.aload_n 2, 1) := by decide +kernel
theorem dX3_giveNextLayer_20 : decode cX3_giveNextLayer 20 = .ok (.getfield 50, 3) := by decide +kernel
theorem dX3_giveNextLayer_23 : decode cX3_giveNextLayer 23 = .ok (.iload_n 1, 1) := by decide +kernel
theorem dX3_giveNextLayer_24 : decode cX3_giveNextLayer 24 = .ok (.iaload, 1) := by decide +kernel
theorem dX3_giveNextLayer_25 : decode cX3_giveNextLayer 25 = .ok (.aload_n 0, 1) := by decide +kernel
theorem dX3_giveNextLayer_26 : decode cX3_giveNextLayer 26 = .ok (.getfield 15, 3) := by decide +kernel
theorem dX3_giveNextLayer_29 : decode cX3_giveNextLayer 29 = .ok (.if_icmp .le 5, 3) := by decide +kernel
theorem dX3_giveNextLayer_32 : decode cX3_giveNextLayer 32 = .ok (.iconst 0, 1) := by decide +kernel
theorem dX3_giveNextLayer_33 : decode cX3_giveNextLayer 33 = .ok (.ireturn, 1) := by decide +kernel
theorem dX3_giveNextLayer_34 : decode cX3_giveNextLayer 34 = .ok (.aload_n 0, 1) := by decide +kernel
theorem dX3_giveNextLayer_35 : decode cX3_giveNextLayer 35 = .ok (.getfield 9, 3) := by decide +kernel
theorem dX3_giveNextLayer_38 : decode cX3_giveNextLayer 38 = .ok (.iload_n 1, 1) := by decide +kernel
theorem dX3_giveNextLayer_39 : decode cX3_giveNextLayer 39 = .ok (.dup2, 1) := by decide +kernel
theorem dX3_giveNextLayer_40 : decode cX3_giveNextLayer 40 = .ok (.iaload, 1) := by decide +kernel
theorem dX3_giveNextLayer_41 : decode cX3_giveNextLayer 41 = .ok (.iconst 1, 1) := by decide +kernel
theorem dX3_giveNextLayer_42 : decode cX3_giveNextLayer 42 = .ok (.iadd, 1) := by decide +kernel
theorem dX3_giveNextLayer_43 : decode cX3_giveNextLayer 43 = .ok (.iastore, 1) := by decide +kernel
theorem dX3_giveNextLayer_44 : decode cX3_giveNextLayer 44 = .ok (.aload_n 0, 1) := by decide +kernel
theorem dX3_giveNextLayer_45 : decode cX3_giveNextLayer 45 = .ok (.dup, 1) := by decide +kernel
theorem dX3_giveNextLayer_46 : decode cX3_giveNextLayer 46 = .ok (.getfield 15, 3) := by decide +kernel
theorem dX3_giveNextLayer_49 : decode cX3_giveNextLayer 49 = .ok (.aload_n 2, 1) := by decide +kernel
theorem dX3_giveNextLayer_50 : decode cX3_giveNextLayer 50 = .ok (.getfield 50, 3) := by decide +kernel
theorem dX3_giveNextLayer_53 : decode cX3_giveNextLayer 53 = .ok (.iload_n 1, 1) := by decide +kernel
theorem dX3_giveNextLayer_54 : decode cX3_giveNextLayer 54 = .ok (.iaload, 1) := by decide +kernel
theorem dX3_giveNextLayer_55 : decode cX3_giveNextLayer 55 = .ok (.isub, 1) := by decide +kernel
theorem dX3_giveNextLayer_56 : decode cX3_giveNextLayer 56 = .ok (.putfield 15, 3) := by decide +kernel
theorem dX3_giveNextLayer_59 : decode cX3_giveNextLayer 59 = .ok (.iconst 1, 1) := by decide +kernel
theorem dX3_giveNextLayer_60 : decode cX3_giveNextLayer 60 = .ok (.ireturn, 1) := by decide +kernel
set_option maxRecDepth 20000 in
theorem ggX4_init_X1_init : GoodIn wsX4_init wsX1_init := goodIn_r _ [17, 18, 2, 3, 4, 19, 20, 28, 29] (by decide +kernel) (by decide +kernel)
set_option maxRecDepth 20000 in
theorem gX4_init_X1_init_n27 : GoodIn wsX4_init (wsX1_init) := ggX4_init_X1_init
theorem dX4_init_0 : decode cX4_init 0 = .ok (.aload_n 0, 1) := by decide +kernel
theorem dX4_init_1 : decode cX4_init 1 = .ok (.invokespecial 3, 3) := by decide +kernel
theorem dX4_init_4 : decode cX4_init 4 = .ok (.aload_n 0, 1) := by decide +kernel
theorem dX4_init_5 : decode cX4_init 5 = .ok (.bipush 6, 2) := by decide +kernel
theorem dX4_init_7 : decode cX4_init 7 = .ok (.newarray .int, 2) := by decide +kernel
theorem dX4_init_9 : decode cX4_init 9 = .ok (.putfield 9, 3) := by decide +kernel
theorem dX4_init_12 : decode cX4_init 12 = .ok (.aload_n 0, 1) := by decide +kernel
theorem dX4_init_13 : decode cX4_init 13 = .ok (.bipush 6, 2) := by decide +kernel
theorem dX4_init_15 : decode cX4_init 15 = .ok (.newarray .int, 2) := by decide +kernel
theorem dX4_init_17 : decode cX4_init 17 = .ok (.putfield 15, 3) := by decide +kernel
theorem dX4_init_20 : decode cX4_init 20 = .ok (.aload_n 0, 1) := by decide +kernel
theorem dX4_init_21 : decode cX4_init 21 = .ok (.bipush 6, 2) := by decide +kernel
theorem dX4_init_23 : decode cX4_init 23 = .ok (.newarray .int, 2) := by decide +kernel
theorem dX4_init_25 : decode cX4_init 25 = .ok (.putfield 18, 3) := by decide +kernel
theorem dX4_init_28 : decode cX4_init 28 = .ok (.aload_n 0, 1) := by decide +kernel
theorem dX4_init_29 : decode cX4_init 29 = .ok (.bipush 6, 2) := by decide +kernel
theorem dX4_init_31 : decode cX4_init 31 = .ok (.newarray .boolean, 2) := by decide +kernel
theorem dX4_init_33 : decode cX4_init 33 = .ok (.putfield 21, 3) := by decide +kernel
theorem dX4_init_36 : decode cX4_init 36 = .ok (.aload_n 0, 1) := by decide +kernel
theorem dX4_init_37 : decode cX4_init 37 = .ok (.new 25, 3) := by decide +kernel
theorem dX4_init_40 : decode cX4_init 40 = .ok (.dup, 1) := by decide +kernel
theorem dX4_init_41 : decode cX4_init 41 = .ok (.invokespecial 27, 3) := by decide +kernel
theorem dX4_init_44 : decode cX4_init 44 = .ok (.putfield 28, 3) := by decide +kernel
theorem dX4_init_47 : decode cX4_init 47 = .ok (.aload_n 0, 1) := by decide +kernel
theorem dX4_init_48 : decode cX4_init 48 = .ok (.iconst 3, 1) := by decide +kernel
theorem dX4_init_49 : decode cX4_init 49 = .ok (.putfield 32, 3) := by decide +kernel
theorem dX4_init_52 : decode cX4_init 52 = .ok (.aload_n 0, 1) := by decide +kernel
theorem dX4_init_53 : decode cX4_init 53 = .ok (.bipush 6, 2) := by decide +kernel
theorem dX4_init_55 : decode cX4_init 55 = .ok (.newarray .int, 2) := by decide +kernel
theorem dX4_init_57 : decode cX4_init 57 = .ok (.putfield 36, 3) := by decide +kernel
theorem dX4_init_60 : decode cX4_init 60 = .ok (.return_, 1) := by decide +kernel
set_option maxRecDepth 20000 in
theorem ggX4_begin_X1_putLast : GoodIn wsX4_begin wsX1_putLast := goodIn_r _ [8, 9, 10, 11, 12, 13, 7, 14, 22, 23] (by decide +kernel) (by decide +kernel)
set_option maxRecDepth 20000 in
theorem gX4_begin_X1_putLast : GoodIn wsX4_begin (wsV RX4 39 RX1 yX1_putLast wsX1_putLast) := goodIn_app (goodIn_of _ (by decide +kernel)) ggX4_begin_X1_putLast
theorem dX4_begin_0 : decode cX4_begin 0 = .ok (.aload_n 0, 1) := by decide +kernel
theorem dX4_begin_1 : decode cX4_begin 1 = .ok (.getfield 9, 3) := by decide +kernel
theorem dX4_begin_4 : decode cX4_begin 4 = .ok (.iload_n 1, 1) := by decide +kernel
theorem dX4_begin_5 : decode cX4_begin 5 = .ok (.iload_n 2, 1) := by decide +kernel
theorem dX4_begin_6 : decode cX4_begin 6 = .ok (.iastore, 1) := by decide +kernel
theorem dX4_begin_7 : decode cX4_begin 7 = .ok (.aload_n 0, 1) := by decide +kernel
theorem dX4_begin_8 : decode cX4_begin 8 = .ok (.getfield 15, 3) := by decide +kernel
theorem dX4_begin_11 : decode cX4_begin 11 = .ok (.iload_n 1, 1) := by decide +kernel
theorem dX4_begin_12 : decode cX4_begin 12 = .ok (.iload_n 3, 1) := by decide +kernel
theorem dX4_begin_13 : decode cX4_begin 13 = .ok (.iastore, 1) := by decide +kernel
theorem dX4_begin_14 : decode cX4_begin 14 = .ok (.aload_n 0, 1) := by decide +kernel
theorem dX4_begin_15 : decode cX4_begin 15 = .ok (.getfield 28, 3) := by decide +kernel
theorem dX4_begin_18 : decode cX4_begin 18 = .ok (.iload_n 1, 1) := by decide +kernel
theorem dX4_begin_19 : decode cX4_begin 19 = .ok (.invokevirtual 39, 3) := by decide +kernel
theorem dX4_begin_22 : decode cX4_begin 22 = .ok (.return_, 1) := by decide +kernel
set_option maxRecDepth 20000 in
theorem ggX4_stop_X1_drop : GoodIn wsX4_stop wsX1_drop := goodIn_r _ [8, 9, 10, 18, 19] (by decide +kernel) (by decide +kernel)
set_option maxRecDepth 20000 in
theorem gX4_stop_X1_drop : GoodIn wsX4_stop (wsV RX4 43 RX1 yX1_drop wsX1_drop) := goodIn_app (goodIn_of _ (by decide +kernel)) ggX4_stop_X1_drop
theorem dX4_stop_0 : decode cX4_stop 0 = .ok (.aload_n 0, 1) := by decide +kernel
theorem dX4_stop_1 : decode cX4_stop 1 = .ok (.getfield 18, 3) := by decide +kernel
theorem dX4_stop_4 : decode cX4_stop 4 = .ok (.iload_n 1, 1) := by decide +kernel
theorem dX4_stop_5 : decode cX4_stop 5 = .ok (.iconst 0, 1) := by decide +kernel
theorem dX4_stop_6 : decode cX4_stop 6 = .ok (.iastore, 1) := by decide +kernel
theorem dX4_stop_7 : decode cX4_stop 7 = .ok (.aload_n 0, 1) := by decide +kernel
theorem dX4_stop_8 : decode cX4_stop 8 = .ok (.getfield 21, 3) := by decide +kernel
theorem dX4_stop_11 : decode cX4_stop 11 = .ok (.iload_n 1, 1) := by decide +kernel
theorem dX4_stop_12 : decode cX4_stop 12 = .ok (.iconst 0, 1) := by decide +kernel
theorem dX4_stop_13 : decode cX4_stop 13 = .ok (.bastore, 1) := by decide +kernel
theorem dX4_stop_14 : decode cX4_stop 14 = .ok (.aload_n 0, 1) := by decide +kernel
theorem dX4_stop_15 : decode cX4_stop 15 = .ok (.getfield 28, 3) := by decide +kernel
theorem dX4_stop_18 : decode cX4_stop 18 = .ok (.iload_n 1, 1) := by decide +kernel
theorem dX4_stop_19 : decode cX4_stop 19 = .ok (.invokevirtual 43, 3) := by decide +kernel
theorem dX4_stop_22 : decode cX4_stop 22 = .ok (.return_, 1) := by decide +kernel
theorem dX4_rateOf_0 : decode cX4_rateOf 0 = .ok (.iload_n 2, 1) := by decide +kernel
theorem dX4_rateOf_1 : decode cX4_rateOf 1 = .ok (.ifCond .ne 7, 3) := by decide +kernel
theorem dX4_rateOf_4 : decode cX4_rateOf 4 = .ok (.iconst 0, 1) := by decide +kernel
theorem dX4_rateOf_5 : decode cX4_rateOf 5 = .ok (.goto 20, 3) := by decide +kernel
theorem dX4_rateOf_8 : decode cX4_rateOf 8 = .ok (.aload_n 0, 1) := by decide +kernel
theorem dX4_rateOf_9 : decode cX4_rateOf 9 = .ok (.getfield 9, 3) := by decide +kernel
theorem dX4_rateOf_12 : decode cX4_rateOf 12 = .ok (.iload_n 1, 1) := by decide +kernel
theorem dX4_rateOf_13 : decode cX4_rateOf 13 = .ok (.iaload, 1) := by decide +kernel
theorem dX4_rateOf_14 : decode cX4_rateOf 14 = .ok (.iload_n 2, 1) := by decide +kernel
theorem dX4_rateOf_15 : decode cX4_rateOf 15 = .ok (.iconst 1, 1) := by decide +kernel
theorem dX4_rateOf_16 : decode cX4_rateOf 16 = .ok (.isub, 1) := by decide +kernel
theorem dX4_rateOf_17 : decode cX4_rateOf 17 = .ok (.aload_n 0, 1) := by decide +kernel
theorem dX4_rateOf_18 : decode cX4_rateOf 18 = .ok (.getfield 15, 3) := by decide +kernel
theorem dX4_rateOf_21 : decode cX4_rateOf 21 = .ok (.iload_n 1, 1) := by decide +kernel
theorem dX4_rateOf_22 : decode cX4_rateOf 22 = .ok (.iaload, 1) := by decide +kernel
theorem dX4_rateOf_23 : decode cX4_rateOf 23 = .ok (.imul, 1) := by decide +kernel
theorem dX4_rateOf_24 : decode cX4_rateOf 24 = .ok (.iadd, 1) := by decide +kernel
theorem dX4_rateOf_25 : decode cX4_rateOf 25 = .ok (.ireturn, 1) := by decide +kernel
theorem dX4_canMakeKey_0 : decode cX4_canMakeKey 0 = .ok (.aload_n 0, 1) := by decide +kernel
theorem dX4_canMakeKey_1 : decode cX4_canMakeKey 1 = .ok (.getfield 21, 3) := by decide +kernel
theorem dX4_canMakeKey_4 : decode cX4_canMakeKey 4 = .ok (.iload_n 1, 1) := by decide +kernel
theorem dX4_canMakeKey_5 : decode cX4_canMakeKey 5 = .ok (.baload, 1) := by decide +kernel
theorem dX4_canMakeKey_6 : decode cX4_canMakeKey 6 = .ok (.ifCond .ne 5, 3) := by decide +kernel
theorem dX4_canMakeKey_9 : decode cX4_canMakeKey 9 = .ok (.iconst 0, 1) := by decide +kernel
theorem dX4_canMakeKey_10 : decode cX4_canMakeKey 10 = .ok (.ireturn, 1) := by decide +kernel
theorem dX4_canMakeKey_11 : decode cX4_canMakeKey 11 = .ok (.aload_n 0, 1) := by decide +kernel
theorem dX4_canMakeKey_12 : decode cX4_canMakeKey 12 = .ok (.getfield 18, 3) := by decide +kernel
theorem dX4_canMakeKey_15 : decode cX4_canMakeKey 15 = .ok (.iload_n 1, 1) := by decide +kernel
theorem dX4_canMakeKey_16 : decode cX4_canMakeKey 16 = .ok (.iaload, 1) := by decide +kernel
theorem dX4_canMakeKey_17 : decode cX4_canMakeKey 17 = .ok (.ifCond .eq 18, 3) := by decide +kernel
theorem dX4_canMakeKey_20 : decode cX4_canMakeKey 20 = .ok (.iload_n 2, 1) := by decide +kernel
theorem dX4_canMakeKey_21 : decode cX4_canMakeKey 21 = .ok (.aload_n 0, 1) := by decide +kernel
theorem dX4_canMakeKey_22 : decode cX4_canMakeKey 22 = .ok (.getfield 36, 3) := by decide +kernel
theorem dX4_canMakeKey_25 : decode cX4_canMakeKey 25 = .ok (.iload_n 1, 1) := by decide +kernel
theorem dX4_canMakeKey_26 : decode cX4_canMakeKey 26 = .ok (.iaload, 1) := by decide +kernel
theorem dX4_canMakeKey_27 : decode cX4_canMakeKey 27 = .ok (.isub, 1) := by decide +kernel
theorem dX4_canMakeKey_28 : decode cX4_canMakeKey 28 = .ok (.aload_n 0, 1) := by decide +kernel
theorem dX4_canMakeKey_29 : decode cX4_canMakeKey 29 = .ok (.getfield 32, 3) := by decide +kernel
theorem dX4_canMakeKey_32 : decode cX4_canMakeKey 32 = .ok (.if_icmp .le 7, 3) := by decide +kernel
theorem dX4_canMakeKey_35 : decode cX4_canMakeKey 35 = .ok (.iconst 1, 1) := by decide +kernel
theorem dX4_canMakeKey_36 : decode cX4_canMakeKey 36 = .ok (.goto 4, 3) := by decide +kernel
theorem dX4_canMakeKey_39 : decode cX4_canMakeKey 39 = .ok (.iconst 0, 1) := by decide +kernel
theorem dX4_canMakeKey_40 : decode cX4_canMakeKey 40 = .ok (.ireturn, 1) := by decide +kernel
theorem dX4_makeKey_0 : decode cX4_makeKey 0 = .ok (.aload_n 0, 1) := by decide +kernel
theorem dX4_makeKey_1 : decode cX4_makeKey 1 = .ok (.getfield 21, 3) := by decide +kernel
theorem dX4_makeKey_4 : decode cX4_makeKey 4 = .ok (.iload_n 1, 1) := by decide +kernel
theorem dX4_makeKey_5 : decode cX4_makeKey 5 = .ok (.iconst 0, 1) := by decide +kernel
theorem dX4_makeKey_6 : decode cX4_makeKey 6 = .ok (.bastore, 1) := by decide +kernel
theorem dX4_makeKey_7 : decode cX4_makeKey 7 = .ok (.aload_n 0, 1) := by decide +kernel
theorem dX4_makeKey_8 : decode cX4_makeKey 8 = .ok (.getfield 18, 3) := by decide +kernel
theorem dX4_makeKey_11 : decode cX4_makeKey 11 = .ok (.iload_n 1, 1) := by decide +kernel
theorem dX4_makeKey_12 : decode cX4_makeKey 12 = .ok (.dup2, 1) := by decide +kernel
theorem dX4_makeKey_13 : decode cX4_makeKey 13 = .ok (.iaload, 1) := by decide +kernel
theorem dX4_makeKey_14 : decode cX4_makeKey 14 = .ok (.iconst 1, 1) := by decide +kernel
theorem dX4_makeKey_15 : decode cX4_makeKey 15 = .ok (.iadd, 1) := by decide +kernel
theorem dX4_makeKey_16 : decode cX4_makeKey 16 = .ok (.iastore, 1) := by decide +kernel
theorem dX4_makeKey_17 : decode cX4_makeKey 17 = .ok (.aload_n 0, 1) := by decide +kernel
theorem dX4_makeKey_18 : decode cX4_makeKey 18 = .ok (.getfield 36, 3) := by decide +kernel
theorem dX4_makeKey_21 : decode cX4_makeKey 21 = .ok (.iload_n 1, 1) := by decide +kernel
theorem dX4_makeKey_22 : decode cX4_makeKey 22 = .ok (.iload_n 2, 1) := by decide +kernel
theorem dX4_makeKey_23 : decode cX4_makeKey 23 = .ok (.iastore, 1) := by decide +kernel
theorem dX4_makeKey_24 : decode cX4_makeKey 24 = .ok (.return_, 1) := by decide +kernel
theorem dX5_init_0 : decode cX5_init 0 = .ok (.aload_n 0, 1) := by decide +kernel
theorem dX5_init_1 : decode cX5_init 1 = .ok (.invokespecial 3, 3) := by decide +kernel
theorem dX5_init_4 : decode cX5_init 4 = .ok (.aload_n 0, 1) := by decide +kernel
theorem dX5_init_5 : decode cX5_init 5 = .ok (.bipush 6, 2) := by decide +kernel
theorem dX5_init_7 : decode cX5_init 7 = .ok (.newarray .int, 2) := by decide +kernel
theorem dX5_init_9 : decode cX5_init 9 = .ok (.putfield 9, 3) := by decide +kernel
theorem dX5_init_12 : decode cX5_init 12 = .ok (.aload_n 0, 1) := by decide +kernel
theorem dX5_init_13 : decode cX5_init 13 = .ok (.bipush 6, 2) := by decide +kernel
theorem dX5_init_15 : decode cX5_init 15 = .ok (.newarray .int, 2) := by decide +kernel
theorem dX5_init_17 : decode cX5_init 17 = .ok (.putfield 15, 3) := by decide +kernel
theorem dX5_init_20 : decode cX5_init 20 = .ok (.aload_n 0, 1) := by decide +kernel
theorem dX5_init_21 : decode cX5_init 21 = .ok (.bipush 6, 2) := by decide +kernel
theorem dX5_init_23 : decode cX5_init 23 = .ok (.newarray .int, 2) := by decide +kernel
theorem dX5_init_25 : decode cX5_init 25 = .ok (.putfield 18, 3) := by decide +kernel
theorem dX5_init_28 : decode cX5_init 28 = .ok (.return_, 1) := by decide +kernel
theorem dX5_reset_0 : decode cX5_reset 0 = .ok (.aload_n 0, 1) := by decide +kernel
theorem dX5_reset_1 : decode cX5_reset 1 = .ok (.getfield 9, 3) := by decide +kernel
theorem dX5_reset_4 : decode cX5_reset 4 = .ok (.iload_n 1, 1) := by decide +kernel
theorem dX5_reset_5 : decode cX5_reset 5 = .ok (.iconst 3, 1) := by decide +kernel
theorem dX5_reset_6 : decode cX5_reset 6 = .ok (.iastore, 1) := by decide +kernel
theorem dX5_reset_7 : decode cX5_reset 7 = .ok (.aload_n 0, 1) := by decide +kernel
theorem dX5_reset_8 : decode cX5_reset 8 = .ok (.getfield 15, 3) := by decide +kernel
theorem dX5_reset_11 : decode cX5_reset 11 = .ok (.iload_n 1, 1) := by decide +kernel
theorem dX5_reset_12 : decode cX5_reset 12 = .ok (.bipush 100, 2) := by decide +kernel
theorem dX5_reset_14 : decode cX5_reset 14 = .ok (.iastore, 1) := by decide +kernel
theorem dX5_reset_15 : decode cX5_reset 15 = .ok (.aload_n 0, 1) := by decide +kernel
theorem dX5_reset_16 : decode cX5_reset 16 = .ok (.getfield 18, 3) := by decide +kernel
theorem dX5_reset_19 : decode cX5_reset 19 = .ok (.iload_n 1, 1) := by decide +kernel
theorem dX5_reset_20 : decode cX5_reset 20 = .ok (.iconst (-1), 1) := by decide +kernel
theorem dX5_reset_21 : decode cX5_reset 21 = .ok (.iastore, 1) := by decide +kernel
theorem dX5_reset_22 : decode cX5_reset 22 = .ok (.return_, 1) := by decide +kernel
theorem dX5_unpinEverywhere_0 : decode cX5_unpinEverywhere 0 = .ok (.iconst 0, 1) := by decide +kernel
theorem dX5_unpinEverywhere_1 : decode cX5_unpinEverywhere 1 = .ok (.istore_n 2, 1) := by decide +kernel
theorem dX5_unpinEverywhere_2 : decode cX5_unpinEverywhere 2 = .ok (.iload_n 2, 1) := by decide +kernel
theorem dX5_unpinEverywhere_3 : decode cX5_unpinEverywhere 3 = .ok (.bipush 6, 2) := by decide +kernel
theorem dX5_unpinEverywhere_5 : decode cX5_unpinEverywhere 5 = .ok (.if_icmp .ge 26, 3) := by decide +kernel
theorem dX5_unpinEverywhere_8 : decode cX5_unpinEverywhere 8 = .ok (.aload_n 0, 1) := by decide +kernel
theorem dX5_unpinEverywhere_9 : decode cX5_unpinEverywhere 9 = .ok (.getfield 18, 3) := by decide +kernel
theorem dX5_unpinEverywhere_12 : decode cX5_unpinEverywhere 12 = .ok (.iload_n 2, 1) := by decide +kernel
theorem dX5_unpinEverywhere_13 : decode cX5_unpinEverywhere 13 = .ok (.iaload, 1) := by decide +kernel
theorem dX5_unpinEverywhere_14 : decode cX5_unpinEverywhere 14 = .ok (.iload_n 1, 1) := by decide +kernel
theorem dX5_unpinEverywhere_15 : decode cX5_unpinEverywhere 15 = .ok (.if_icmp .ne 10, 3) := by decide +kernel
theorem dX5_unpinEverywhere_18 : decode cX5_unpinEverywhere 18 = .ok (.aload_n 0, 1) := by decide +kernel
theorem dX5_unpinEverywhere_19 : decode cX5_unpinEverywhere 19 = .ok (.getfield 18, 3) := by decide +kernel
theorem dX5_unpinEverywhere_22 : decode cX5_unpinEverywhere 22 = .ok (.iload_n 2, 1) := by decide +kernel
theorem dX5_unpinEverywhere_23 : decode cX5_unpinEverywhere 23 = .ok (.iconst (-1), 1) := by decide +kernel
