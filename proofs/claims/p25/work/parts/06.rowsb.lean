theorem dX5_unpinEverywhere_24 : decode cX5_unpinEverywhere 24 = .ok (.iastore, 1) := by decide +kernel
theorem dX5_unpinEverywhere_25 : decode cX5_unpinEverywhere 25 = .ok (.iinc 2 1, 3) := by decide +kernel
theorem dX5_unpinEverywhere_28 : decode cX5_unpinEverywhere 28 = .ok (.goto (-26), 3) := by decide +kernel
theorem dX5_unpinEverywhere_31 : decode cX5_unpinEverywhere 31 = .ok (.return_, 1) := by decide +kernel
set_option maxRecDepth 20000 in
theorem ggX6_init_X0_init : GoodIn wsX6_init wsX0_init := goodIn_r _ [30, 31, 2, 3, 32, 33, 34, 35, 36, 37, 17, 18, 38, 39, 40, 41, 42, 43, 44, 45, 46, 47, 76, 77, 78, 79, 80, 81, 82, 83, 101, 102] (by decide +kernel) (by decide +kernel)
set_option maxRecDepth 20000 in
theorem gX6_init_X0_init_n9 : GoodIn wsX6_init (wsX0_init) := ggX6_init_X0_init
set_option maxRecDepth 20000 in
theorem ggX6_init_X4_init : GoodIn wsX6_init wsX4_init := goodIn_r _ [49, 50, 2, 3, 34, 51, 52, 53, 32, 54, 55, 17, 18, 56, 57, 58, 43, 44, 45, 46, 47, 91, 92, 93, 94, 95, 96, 97, 101, 102] (by decide +kernel) (by decide +kernel)
set_option maxRecDepth 20000 in
theorem gX6_init_X4_init_n18 : GoodIn wsX6_init (wsX4_init) := ggX6_init_X4_init
set_option maxRecDepth 20000 in
theorem ggX6_init_X5_init : GoodIn wsX6_init wsX5_init := goodIn_r _ [60, 61, 2, 3, 34, 62, 63, 64, 98, 99, 100] (by decide +kernel) (by decide +kernel)
set_option maxRecDepth 20000 in
theorem gX6_init_X5_init_n25 : GoodIn wsX6_init (wsX5_init) := ggX6_init_X5_init
set_option maxRecDepth 20000 in
theorem ggX6_init_X1_init : GoodIn wsX6_init wsX1_init := goodIn_r _ [44, 45, 2, 3, 34, 46, 47, 101, 102] (by decide +kernel) (by decide +kernel)
set_option maxRecDepth 20000 in
theorem gX6_init_X1_init_n32 : GoodIn wsX6_init (wsX1_init) := ggX6_init_X1_init
set_option maxRecDepth 20000 in
theorem ggX6_init_X3_init : GoodIn wsX6_init wsX3_init := goodIn_r _ [66, 67, 2, 3, 34, 68, 69, 103, 104] (by decide +kernel) (by decide +kernel)
set_option maxRecDepth 20000 in
theorem gX6_init_X3_init_n39 : GoodIn wsX6_init (wsX3_init) := ggX6_init_X3_init
set_option maxRecDepth 20000 in
theorem ggX6_init_X2_init : GoodIn wsX6_init wsX2_init := goodIn_r _ [71, 72, 2, 3, 73, 34, 74, 75, 105, 106] (by decide +kernel) (by decide +kernel)
set_option maxRecDepth 20000 in
theorem gX6_init_X2_init_n46 : GoodIn wsX6_init (wsX2_init) := ggX6_init_X2_init
theorem dX6_init_0 : decode cX6_init 0 = .ok (.aload_n 0, 1) := by decide +kernel
theorem dX6_init_1 : decode cX6_init 1 = .ok (.invokespecial 1, 3) := by decide +kernel
theorem dX6_init_4 : decode cX6_init 4 = .ok (.aload_n 0, 1) := by decide +kernel
theorem dX6_init_5 : decode cX6_init 5 = .ok (.new 7, 3) := by decide +kernel
theorem dX6_init_8 : decode cX6_init 8 = .ok (.dup, 1) := by decide +kernel
theorem dX6_init_9 : decode cX6_init 9 = .ok (.invokespecial 9, 3) := by decide +kernel
theorem dX6_init_12 : decode cX6_init 12 = .ok (.putfield 10, 3) := by decide +kernel
theorem dX6_init_15 : decode cX6_init 15 = .ok (.aload_n 0, 1) := by decide +kernel
theorem dX6_init_16 : decode cX6_init 16 = .ok (.new 16, 3) := by decide +kernel
theorem dX6_init_19 : decode cX6_init 19 = .ok (.dup, 1) := by decide +kernel
theorem dX6_init_20 : decode cX6_init 20 = .ok (.invokespecial 18, 3) := by decide +kernel
theorem dX6_init_23 : decode cX6_init 23 = .ok (.putfield 19, 3) := by decide +kernel
theorem dX6_init_26 : decode cX6_init 26 = .ok (.aload_n 0, 1) := by decide +kernel
theorem dX6_init_27 : decode cX6_init 27 = .ok (.new 23, 3) := by decide +kernel
theorem dX6_init_30 : decode cX6_init 30 = .ok (.dup, 1) := by decide +kernel
theorem dX6_init_31 : decode cX6_init 31 = .ok (.invokespecial 25, 3) := by decide +kernel
theorem dX6_init_34 : decode cX6_init 34 = .ok (.putfield 26, 3) := by decide +kernel
theorem dX6_init_37 : decode cX6_init 37 = .ok (.aload_n 0, 1) := by decide +kernel
theorem dX6_init_38 : decode cX6_init 38 = .ok (.new 30, 3) := by decide +kernel
theorem dX6_init_41 : decode cX6_init 41 = .ok (.dup, 1) := by decide +kernel
theorem dX6_init_42 : decode cX6_init 42 = .ok (.invokespecial 32, 3) := by decide +kernel
theorem dX6_init_45 : decode cX6_init 45 = .ok (.putfield 33, 3) := by decide +kernel
theorem dX6_init_48 : decode cX6_init 48 = .ok (.aload_n 0, 1) := by decide +kernel
theorem dX6_init_49 : decode cX6_init 49 = .ok (.new 37, 3) := by decide +kernel
theorem dX6_init_52 : decode cX6_init 52 = .ok (.dup, 1) := by decide +kernel
theorem dX6_init_53 : decode cX6_init 53 = .ok (.invokespecial 39, 3) := by decide +kernel
theorem dX6_init_56 : decode cX6_init 56 = .ok (.putfield 40, 3) := by decide +kernel
theorem dX6_init_59 : decode cX6_init 59 = .ok (.aload_n 0, 1) := by decide +kernel
theorem dX6_init_60 : decode cX6_init 60 = .ok (.new 44, 3) := by decide +kernel
theorem dX6_init_63 : decode cX6_init 63 = .ok (.dup, 1) := by decide +kernel
theorem dX6_init_64 : decode cX6_init 64 = .ok (.invokespecial 46, 3) := by decide +kernel
theorem dX6_init_67 : decode cX6_init 67 = .ok (.putfield 47, 3) := by decide +kernel
theorem dX6_init_70 : decode cX6_init 70 = .ok (.aload_n 0, 1) := by decide +kernel
theorem dX6_init_71 : decode cX6_init 71 = .ok (.iconst 0, 1) := by decide +kernel
theorem dX6_init_72 : decode cX6_init 72 = .ok (.putfield 51, 3) := by decide +kernel
theorem dX6_init_75 : decode cX6_init 75 = .ok (.return_, 1) := by decide +kernel
set_option maxRecDepth 20000 in
theorem ggX6_join_X0_freeSeat : GoodIn wsX6_join wsX0_freeSeat := goodIn_r _ [9, 10, 32, 33, 34, 35, 36, 37, 38, 39] (by decide +kernel) (by decide +kernel)
set_option maxRecDepth 20000 in
theorem gX6_join_X0_freeSeat : GoodIn wsX6_join (wsV RX6 55 RX0 yX0_freeSeat wsX0_freeSeat) := goodIn_app (goodIn_of _ (by decide +kernel)) ggX6_join_X0_freeSeat
set_option maxRecDepth 20000 in
theorem ggX6_join_X0_enter : GoodIn wsX6_join wsX0_enter := goodIn_r _ [14, 10, 15, 16, 32, 33, 34, 35, 36, 37, 38, 39] (by decide +kernel) (by decide +kernel)
set_option maxRecDepth 20000 in
theorem gX6_join_X0_enter : GoodIn wsX6_join (wsV RX6 66 RX0 yX0_enter wsX0_enter) := goodIn_app (goodIn_of _ (by decide +kernel)) ggX6_join_X0_enter
set_option maxRecDepth 20000 in
theorem ggX6_join_X5_reset : GoodIn wsX6_join wsX5_reset := goodIn_r _ [21, 22, 23, 24, 40, 41, 42] (by decide +kernel) (by decide +kernel)
set_option maxRecDepth 20000 in
theorem gX6_join_X5_reset : GoodIn wsX6_join (wsV RX6 70 RX5 yX5_reset wsX5_reset) := goodIn_app (goodIn_of _ (by decide +kernel)) ggX6_join_X5_reset
theorem dX6_join_0 : decode cX6_join 0 = .ok (.aload_n 0, 1) := by decide +kernel
theorem dX6_join_1 : decode cX6_join 1 = .ok (.getfield 10, 3) := by decide +kernel
theorem dX6_join_4 : decode cX6_join 4 = .ok (.invokevirtual 55, 3) := by decide +kernel
theorem dX6_join_7 : decode cX6_join 7 = .ok (.istore_n 1, 1) := by decide +kernel
theorem dX6_join_8 : decode cX6_join 8 = .ok (.iload_n 1, 1) := by decide +kernel
theorem dX6_join_9 : decode cX6_join 9 = .ok (.iconst (-1), 1) := by decide +kernel
theorem dX6_join_10 : decode cX6_join 10 = .ok (.if_icmp .ne 13, 3) := by decide +kernel
theorem dX6_join_13 : decode cX6_join 13 = .ok (.new 59, 3) := by decide +kernel
theorem dX6_join_16 : decode cX6_join 16 = .ok (.dup, 1) := by decide +kernel
theorem dX6_join_17 : decode cX6_join 17 = .ok (.ldc 61, 2) := by decide +kernel
theorem dX6_join_19 : decode cX6_join 19 = .ok (.invokespecial 63, 3) := by decide +kernel
theorem dX6_join_22 : decode cX6_join 22 = .ok (.athrow, 1) := by decide +kernel
theorem dX6_join_23 : decode cX6_join 23 = .ok (.aload_n 0, 1) := by decide +kernel
theorem dX6_join_24 : decode cX6_join 24 = .ok (.getfield 10, 3) := by decide +kernel
theorem dX6_join_27 : decode cX6_join 27 = .ok (.iload_n 1, 1) := by decide +kernel
theorem dX6_join_28 : decode cX6_join 28 = .ok (.invokevirtual 66, 3) := by decide +kernel
theorem dX6_join_31 : decode cX6_join 31 = .ok (.aload_n 0, 1) := by decide +kernel
theorem dX6_join_32 : decode cX6_join 32 = .ok (.getfield 26, 3) := by decide +kernel
theorem dX6_join_35 : decode cX6_join 35 = .ok (.iload_n 1, 1) := by decide +kernel
theorem dX6_join_36 : decode cX6_join 36 = .ok (.invokevirtual 70, 3) := by decide +kernel
theorem dX6_join_39 : decode cX6_join 39 = .ok (.iload_n 1, 1) := by decide +kernel
theorem dX6_join_40 : decode cX6_join 40 = .ok (.ireturn, 1) := by decide +kernel
set_option maxRecDepth 20000 in
theorem ggX6_leave_X6_needPerson : GoodIn wsX6_leave wsX6_needPerson := goodIn_ca (goodIn_r _ [8, 9, 10, 1, 11, 12, 13, 14, 15, 16, 62, 63, 64, 65, 66, 67, 68, 69, 70, 71, 72, 73, 74, 75, 76] (by decide +kernel) (by decide +kernel)) (goodIn_sub (fun _ h => List.mem_cons_of_mem _ (List.mem_append_right _ h)) (by decide +kernel))
set_option maxRecDepth 20000 in
theorem gX6_leave_X6_needPerson : GoodIn wsX6_leave (wsV RX6 73 RX6 yX6_needPerson wsX6_needPerson) := goodIn_app (goodIn_of _ (by decide +kernel)) ggX6_leave_X6_needPerson
set_option maxRecDepth 20000 in
theorem ggX6_leave_X6_stopStream : GoodIn wsX6_leave wsX6_stopStream := goodIn_r _ [20, 21, 3, 22, 23, 24, 25, 26, 27, 28, 29, 30, 31, 32, 33, 34, 35, 36, 37, 38, 39, 40, 41, 42, 62, 63, 64, 65, 66, 67, 68, 77, 78, 79, 80, 81, 82, 83, 84, 85, 86, 87] (by decide +kernel) (by decide +kernel)
set_option maxRecDepth 20000 in
theorem gX6_leave_X6_stopStream : GoodIn wsX6_leave (wsV RX6 76 RX6 yX6_stopStream wsX6_stopStream) := goodIn_app (goodIn_of _ (by decide +kernel)) ggX6_leave_X6_stopStream
set_option maxRecDepth 20000 in
theorem ggX6_leave_X0_forget : GoodIn wsX6_leave wsX0_forget := goodIn_r _ [46, 16, 47, 48, 49, 50, 31, 32, 33, 34, 35, 36, 69, 70, 71, 72, 73, 74, 75, 76, 84, 85] (by decide +kernel) (by decide +kernel)
set_option maxRecDepth 20000 in
theorem gX6_leave_X0_forget : GoodIn wsX6_leave (wsV RX6 79 RX0 yX0_forget wsX0_forget) := goodIn_app (goodIn_of _ (by decide +kernel)) ggX6_leave_X0_forget
set_option maxRecDepth 20000 in
theorem ggX6_leave_X5_unpinEverywhere : GoodIn wsX6_leave wsX5_unpinEverywhere := goodIn_r _ [55, 56, 88, 89, 90] (by decide +kernel) (by decide +kernel)
set_option maxRecDepth 20000 in
theorem gX6_leave_X5_unpinEverywhere : GoodIn wsX6_leave (wsV RX6 82 RX5 yX5_unpinEverywhere wsX5_unpinEverywhere) := goodIn_app (goodIn_of _ (by decide +kernel)) ggX6_leave_X5_unpinEverywhere
set_option maxRecDepth 20000 in
theorem ggX6_leave_X2_clearReceiver : GoodIn wsX6_leave wsX2_clearReceiver := goodIn_r _ [60, 42, 61, 86, 87] (by decide +kernel) (by decide +kernel)
set_option maxRecDepth 20000 in
theorem gX6_leave_X2_clearReceiver : GoodIn wsX6_leave (wsV RX6 85 RX2 yX2_clearReceiver wsX2_clearReceiver) := goodIn_app (goodIn_of _ (by decide +kernel)) ggX6_leave_X2_clearReceiver
theorem dX6_leave_0 : decode cX6_leave 0 = .ok (.aload_n 0, 1) := by decide +kernel
theorem dX6_leave_1 : decode cX6_leave 1 = .ok (.iload_n 1, 1) := by decide +kernel
theorem dX6_leave_2 : decode cX6_leave 2 = .ok (.invokevirtual 73, 3) := by decide +kernel
theorem dX6_leave_5 : decode cX6_leave 5 = .ok (.aload_n 0, 1) := by decide +kernel
theorem dX6_leave_6 : decode cX6_leave 6 = .ok (.iload_n 1, 1) := by decide +kernel
theorem dX6_leave_7 : decode cX6_leave 7 = .ok (.invokevirtual 76, 3) := by decide +kernel
theorem dX6_leave_10 : decode cX6_leave 10 = .ok (.aload_n 0, 1) := by decide +kernel
theorem dX6_leave_11 : decode cX6_leave 11 = .ok (.getfield 10, 3) := by decide +kernel
theorem dX6_leave_14 : decode cX6_leave 14 = .ok (.iload_n 1, 1) := by decide +kernel
theorem dX6_leave_15 : decode cX6_leave 15 = .ok (.invokevirtual 79, 3) := by decide +kernel
theorem dX6_leave_18 : decode cX6_leave 18 = .ok (.aload_n 0, 1) := by decide +kernel
theorem dX6_leave_19 : decode cX6_leave 19 = .ok (.getfield 26, 3) := by decide +kernel
theorem dX6_leave_22 : decode cX6_leave 22 = .ok (.iload_n 1, 1) := by decide +kernel
theorem dX6_leave_23 : decode cX6_leave 23 = .ok (.invokevirtual 82, 3) := by decide +kernel
theorem dX6_leave_26 : decode cX6_leave 26 = .ok (.aload_n 0, 1) := by decide +kernel
theorem dX6_leave_27 : decode cX6_leave 27 = .ok (.getfield 47, 3) := by decide +kernel
theorem dX6_leave_30 : decode cX6_leave 30 = .ok (.iload_n 1, 1) := by decide +kernel
theorem dX6_leave_31 : decode cX6_leave 31 = .ok (.invokevirtual 85, 3) := by decide +kernel
theorem dX6_leave_34 : decode cX6_leave 34 = .ok (.return_, 1) := by decide +kernel
set_option maxRecDepth 20000 in
theorem ggX6_publish_X6_needPerson : GoodIn wsX6_publish wsX6_needPerson := goodIn_ca (goodIn_r _ [6, 7, 8, 9, 10, 11, 12, 13, 14, 15, 61, 62, 63, 64, 65, 66, 67, 68, 69, 70, 71, 72, 73, 74, 75] (by decide +kernel) (by decide +kernel)) (goodIn_sub (fun _ h => List.mem_cons_of_mem _ (List.mem_append_left _ (List.mem_append_right _ h))) (by decide +kernel))
set_option maxRecDepth 20000 in
theorem gX6_publish_X6_needPerson : GoodIn wsX6_publish (wsV RX6 73 RX6 yX6_needPerson wsX6_needPerson) := goodIn_app (goodIn_of _ (by decide +kernel)) ggX6_publish_X6_needPerson
set_option maxRecDepth 20000 in
theorem ggX6_publish_X6_needRange : GoodIn wsX6_publish wsX6_needRange := goodIn_ca (goodIn_r _ [18, 19, 20] (by decide +kernel) (by decide +kernel)) (goodIn_sub (fun _ h => List.mem_cons_of_mem _ (List.mem_append_right _ h)) (by decide +kernel))
set_option maxRecDepth 20000 in
theorem gX6_publish_X6_needRange : GoodIn wsX6_publish (va_wsS RX6 88 yX6_needRange wsX6_needRange) := goodIn_app (goodIn_of _ (by decide +kernel)) ggX6_publish_X6_needRange
set_option maxRecDepth 20000 in
theorem ggX6_publish_X6_stopStream : GoodIn wsX6_publish wsX6_stopStream := goodIn_r _ [24, 1, 25, 26, 27, 28, 29, 30, 31, 32, 33, 34, 35, 36, 37, 38, 39, 40, 41, 42, 43, 44, 45, 46, 61, 62, 63, 64, 65, 66, 67, 76, 77, 78, 79, 80, 81, 82, 83, 84, 85, 86] (by decide +kernel) (by decide +kernel)
set_option maxRecDepth 20000 in
theorem gX6_publish_X6_stopStream : GoodIn wsX6_publish (wsV RX6 76 RX6 yX6_stopStream wsX6_stopStream) := goodIn_app (goodIn_of _ (by decide +kernel)) ggX6_publish_X6_stopStream
set_option maxRecDepth 20000 in
theorem ggX6_publish_X4_begin : GoodIn wsX6_publish wsX4_begin := goodIn_r _ [50, 51, 52, 33, 53, 54, 55, 37, 56, 39, 40, 57, 58, 59, 60, 76, 77, 78, 79, 80, 81, 82, 83, 84] (by decide +kernel) (by decide +kernel)
set_option maxRecDepth 20000 in
theorem gX6_publish_X4_begin : GoodIn wsX6_publish (wsV RX6 92 RX4 yX4_begin wsX4_begin) := goodIn_app (goodIn_of _ (by decide +kernel)) ggX6_publish_X4_begin
theorem dX6_publish_0 : decode cX6_publish 0 = .ok (.aload_n 0, 1) := by decide +kernel
theorem dX6_publish_1 : decode cX6_publish 1 = .ok (.iload_n 1, 1) := by decide +kernel
theorem dX6_publish_2 : decode cX6_publish 2 = .ok (.invokevirtual 73, 3) := by decide +kernel
theorem dX6_publish_5 : decode cX6_publish 5 = .ok (.iload_n 2, 1) := by decide +kernel
theorem dX6_publish_6 : decode cX6_publish 6 = .ok (.iconst 1, 1) := by decide +kernel
theorem dX6_publish_7 : decode cX6_publish 7 = .ok (.bipush 100, 2) := by decide +kernel
theorem dX6_publish_9 : decode cX6_publish 9 = .ok (.invokestatic 88, 3) := by decide +kernel
theorem dX6_publish_12 : decode cX6_publish 12 = .ok (.iload_n 3, 1) := by decide +kernel
theorem dX6_publish_13 : decode cX6_publish 13 = .ok (.iconst 1, 1) := by decide +kernel
theorem dX6_publish_14 : decode cX6_publish 14 = .ok (.bipush 100, 2) := by decide +kernel
theorem dX6_publish_16 : decode cX6_publish 16 = .ok (.invokestatic 88, 3) := by decide +kernel
theorem dX6_publish_19 : decode cX6_publish 19 = .ok (.aload_n 0, 1) := by decide +kernel
theorem dX6_publish_20 : decode cX6_publish 20 = .ok (.iload_n 1, 1) := by decide +kernel
theorem dX6_publish_21 : decode cX6_publish 21 = .ok (.invokevirtual 76, 3) := by decide +kernel
theorem dX6_publish_24 : decode cX6_publish 24 = .ok (.aload_n 0, 1) := by decide +kernel
theorem dX6_publish_25 : decode cX6_publish 25 = .ok (.getfield 19, 3) := by decide +kernel
theorem dX6_publish_28 : decode cX6_publish 28 = .ok (.iload_n 1, 1) := by decide +kernel
theorem dX6_publish_29 : decode cX6_publish 29 = .ok (.iload_n 2, 1) := by decide +kernel
theorem dX6_publish_30 : decode cX6_publish 30 = .ok (.iload_n 3, 1) := by decide +kernel
theorem dX6_publish_31 : decode cX6_publish 31 = .ok (.invokevirtual 92, 3) := by decide +kernel
theorem dX6_publish_34 : decode cX6_publish 34 = .ok (.return_, 1) := by decide +kernel
set_option maxRecDepth 20000 in
theorem ggX6_end_X6_needPerson : GoodIn wsX6_end wsX6_needPerson := goodIn_ca (goodIn_r _ [5, 6, 7, 8, 9, 10, 11, 12, 13, 14, 53, 54, 55, 56, 57, 58, 59, 60, 61, 62, 63, 64, 65, 66, 67] (by decide +kernel) (by decide +kernel)) (goodIn_sub (fun _ h => List.mem_cons_of_mem _ (List.mem_append_left _ (List.mem_append_right _ h))) (by decide +kernel))
set_option maxRecDepth 20000 in
theorem gX6_end_X6_needPerson : GoodIn wsX6_end (wsV RX6 73 RX6 yX6_needPerson wsX6_needPerson) := goodIn_app (goodIn_of _ (by decide +kernel)) ggX6_end_X6_needPerson
set_option maxRecDepth 20000 in
theorem ggX6_end_X6_needStream : GoodIn wsX6_end wsX6_needStream := goodIn_ca (goodIn_r _ [18, 19, 20, 21, 22, 23, 24, 25, 26, 27, 28, 29, 53, 54, 55, 56, 57, 58, 59, 68, 69, 70, 71, 72, 73, 74, 75, 76] (by decide +kernel) (by decide +kernel)) (goodIn_sub (fun _ h => List.mem_cons_of_mem _ (List.mem_append_right _ h)) (by decide +kernel))
set_option maxRecDepth 20000 in
theorem gX6_end_X6_needStream : GoodIn wsX6_end (wsV RX6 95 RX6 yX6_needStream wsX6_needStream) := goodIn_app (goodIn_of _ (by decide +kernel)) ggX6_end_X6_needStream
set_option maxRecDepth 20000 in
theorem ggX6_end_X6_stopStream : GoodIn wsX6_end wsX6_stopStream := goodIn_r _ [33, 21, 34, 35, 36, 37, 38, 39, 40, 41, 42, 43, 44, 45, 26, 46, 28, 29, 47, 48, 49, 50, 51, 52, 53, 54, 55, 56, 57, 58, 59, 68, 69, 70, 71, 72, 73, 74, 75, 76, 77, 78] (by decide +kernel) (by decide +kernel)
set_option maxRecDepth 20000 in
theorem gX6_end_X6_stopStream : GoodIn wsX6_end (wsV RX6 76 RX6 yX6_stopStream wsX6_stopStream) := goodIn_app (goodIn_of _ (by decide +kernel)) ggX6_end_X6_stopStream
theorem dX6_end_0 : decode cX6_end 0 = .ok (.aload_n 0, 1) := by decide +kernel
theorem dX6_end_1 : decode cX6_end 1 = .ok (.iload_n 1, 1) := by decide +kernel
theorem dX6_end_2 : decode cX6_end 2 = .ok (.invokevirtual 73, 3) := by decide +kernel
theorem dX6_end_5 : decode cX6_end 5 = .ok (.aload_n 0, 1) := by decide +kernel
theorem dX6_end_6 : decode cX6_end 6 = .ok (.iload_n 1, 1) := by decide +kernel
theorem dX6_end_7 : decode cX6_end 7 = .ok (.invokevirtual 95, 3) := by decide +kernel
theorem dX6_end_10 : decode cX6_end 10 = .ok (.aload_n 0, 1) := by decide +kernel
theorem dX6_end_11 : decode cX6_end 11 = .ok (.iload_n 1, 1) := by decide +kernel
theorem dX6_end_12 : decode cX6_end 12 = .ok (.invokevirtual 76, 3) := by decide +kernel
theorem dX6_end_15 : decode cX6_end 15 = .ok (.return_, 1) := by decide +kernel
set_option maxRecDepth 20000 in
theorem ggX6_mute_X6_needPerson : GoodIn wsX6_mute wsX6_needPerson := goodIn_ca (goodIn_r _ [7, 8, 9, 1, 10, 11, 12, 13, 14, 15, 16, 17, 18, 19, 20, 21, 22, 23, 24, 25, 26, 27, 28, 29, 30] (by decide +kernel) (by decide +kernel)) (goodIn_sub (fun _ h => List.mem_cons_of_mem _ (List.mem_append_right _ h)) (by decide +kernel))
set_option maxRecDepth 20000 in
theorem gX6_mute_X6_needPerson : GoodIn wsX6_mute (wsV RX6 73 RX6 yX6_needPerson wsX6_needPerson) := goodIn_app (goodIn_of _ (by decide +kernel)) ggX6_mute_X6_needPerson
theorem dX6_mute_0 : decode cX6_mute 0 = .ok (.aload_n 0, 1) := by decide +kernel
theorem dX6_mute_1 : decode cX6_mute 1 = .ok (.iload_n 1, 1) := by decide +kernel
theorem dX6_mute_2 : decode cX6_mute 2 = .ok (.invokevirtual 73, 3) := by decide +kernel
theorem dX6_mute_5 : decode cX6_mute 5 = .ok (.aload_n 0, 1) := by decide +kernel
theorem dX6_mute_6 : decode cX6_mute 6 = .ok (.getfield 10, 3) := by decide +kernel
theorem dX6_mute_9 : decode cX6_mute 9 = .ok (.getfield 98, 3) := by decide +kernel
theorem dX6_mute_12 : decode cX6_mute 12 = .ok (.iload_n 1, 1) := by decide +kernel
theorem dX6_mute_13 : decode cX6_mute 13 = .ok (.baload, 1) := by decide +kernel
theorem dX6_mute_14 : decode cX6_mute 14 = .ok (.ifCond .ne 7, 3) := by decide +kernel
theorem dX6_mute_17 : decode cX6_mute 17 = .ok (.iconst 1, 1) := by decide +kernel
theorem dX6_mute_18 : decode cX6_mute 18 = .ok (.goto 4, 3) := by decide +kernel
theorem dX6_mute_21 : decode cX6_mute 21 = .ok (.iconst 0, 1) := by decide +kernel
theorem dX6_mute_22 : decode cX6_mute 22 = .ok (.istore_n 2, 1) := by decide +kernel
theorem dX6_mute_23 : decode cX6_mute 23 = .ok (.aload_n 0, 1) := by decide +kernel
theorem dX6_mute_24 : decode cX6_mute 24 = .ok (.getfield 10, 3) := by decide +kernel
theorem dX6_mute_27 : decode cX6_mute 27 = .ok (.getfield 98, 3) := by decide +kernel
theorem dX6_mute_30 : decode cX6_mute 30 = .ok (.iload_n 1, 1) := by decide +kernel
theorem dX6_mute_31 : decode cX6_mute 31 = .ok (.iload_n 2, 1) := by decide +kernel
theorem dX6_mute_32 : decode cX6_mute 32 = .ok (.bastore, 1) := by decide +kernel
theorem dX6_mute_33 : decode cX6_mute 33 = .ok (.iload_n 2, 1) := by decide +kernel
theorem dX6_mute_34 : decode cX6_mute 34 = .ok (.ireturn, 1) := by decide +kernel
set_option maxRecDepth 20000 in
theorem ggX6_setLevel_X6_needPerson : GoodIn wsX6_setLevel wsX6_needPerson := goodIn_ca (goodIn_r _ [7, 8, 9, 1, 10, 11, 12, 13, 14, 15, 21, 22, 23, 24, 25, 26, 27, 28, 29, 30, 31, 32, 33, 34, 35] (by decide +kernel) (by decide +kernel)) (goodIn_sub (fun _ h => List.mem_cons_of_mem _ (List.mem_append_left _ (List.mem_append_right _ h))) (by decide +kernel))
set_option maxRecDepth 20000 in
theorem gX6_setLevel_X6_needPerson : GoodIn wsX6_setLevel (wsV RX6 73 RX6 yX6_needPerson wsX6_needPerson) := goodIn_app (goodIn_of _ (by decide +kernel)) ggX6_setLevel_X6_needPerson
set_option maxRecDepth 20000 in
theorem ggX6_setLevel_X6_needRange : GoodIn wsX6_setLevel wsX6_needRange := goodIn_ca (goodIn_r _ [18, 19, 20] (by decide +kernel) (by decide +kernel)) (goodIn_sub (fun _ h => List.mem_cons_of_mem _ (List.mem_append_right _ h)) (by decide +kernel))
set_option maxRecDepth 20000 in
theorem gX6_setLevel_X6_needRange : GoodIn wsX6_setLevel (va_wsS RX6 88 yX6_needRange wsX6_needRange) := goodIn_app (goodIn_of _ (by decide +kernel)) ggX6_setLevel_X6_needRange
theorem dX6_setLevel_0 : decode cX6_setLevel 0 = .ok (.aload_n 0, 1) := by decide +kernel
theorem dX6_setLevel_1 : decode cX6_setLevel 1 = .ok (.iload_n 1, 1) := by decide +kernel
theorem dX6_setLevel_2 : decode cX6_setLevel 2 = .ok (.invokevirtual 73, 3) := by decide +kernel
theorem dX6_setLevel_5 : decode cX6_setLevel 5 = .ok (.iload_n 2, 1) := by decide +kernel
theorem dX6_setLevel_6 : decode cX6_setLevel 6 = .ok (.iconst 0, 1) := by decide +kernel
theorem dX6_setLevel_7 : decode cX6_setLevel 7 = .ok (.bipush 100, 2) := by decide +kernel
theorem dX6_setLevel_9 : decode cX6_setLevel 9 = .ok (.invokestatic 88, 3) := by decide +kernel
theorem dX6_setLevel_12 : decode cX6_setLevel 12 = .ok (.aload_n 0, 1) := by decide +kernel
theorem dX6_setLevel_13 : decode cX6_setLevel 13 = .ok (.getfield 10, 3) := by decide +kernel
theorem dX6_setLevel_16 : decode cX6_setLevel 16 = .ok (.getfield 102, 3) := by decide +kernel
theorem dX6_setLevel_19 : decode cX6_setLevel 19 = .ok (.iload_n 1, 1) := by decide +kernel
theorem dX6_setLevel_20 : decode cX6_setLevel 20 = .ok (.iaload, 1) := by decide +kernel
theorem dX6_setLevel_21 : decode cX6_setLevel 21 = .ok (.istore_n 3, 1) := by decide +kernel
theorem dX6_setLevel_22 : decode cX6_setLevel 22 = .ok (.aload_n 0, 1) := by decide +kernel
theorem dX6_setLevel_23 : decode cX6_setLevel 23 = .ok (.getfield 10, 3) := by decide +kernel
theorem dX6_setLevel_26 : decode cX6_setLevel 26 = .ok (.getfield 102, 3) := by decide +kernel
theorem dX6_setLevel_29 : decode cX6_setLevel 29 = .ok (.iload_n 1, 1) := by decide +kernel
theorem dX6_setLevel_30 : decode cX6_setLevel 30 = .ok (.iload_n 2, 1) := by decide +kernel
theorem dX6_setLevel_31 : decode cX6_setLevel 31 = .ok (.iastore, 1) := by decide +kernel
theorem dX6_setLevel_32 : decode cX6_setLevel 32 = .ok (.iload_n 3, 1) := by decide +kernel
theorem dX6_setLevel_33 : decode cX6_setLevel 33 = .ok (.ireturn, 1) := by decide +kernel
set_option maxRecDepth 20000 in
theorem ggX6_people_X0_headCount : GoodIn wsX6_people wsX0_headCount := goodIn_r _ [6, 7, 15, 16, 17, 18, 19, 20, 21, 22] (by decide +kernel) (by decide +kernel)
set_option maxRecDepth 20000 in
theorem gX6_people_X0_headCount : GoodIn wsX6_people (wsV RX6 106 RX0 yX0_headCount wsX0_headCount) := goodIn_app (goodIn_of _ (by decide +kernel)) ggX6_people_X0_headCount
theorem dX6_people_0 : decode cX6_people 0 = .ok (.aload_n 0, 1) := by decide +kernel
theorem dX6_people_1 : decode cX6_people 1 = .ok (.getfield 10, 3) := by decide +kernel
theorem dX6_people_4 : decode cX6_people 4 = .ok (.invokevirtual 106, 3) := by decide +kernel
theorem dX6_people_7 : decode cX6_people 7 = .ok (.ireturn, 1) := by decide +kernel
set_option maxRecDepth 20000 in
theorem ggX6_pin_X6_needPerson : GoodIn wsX6_pin wsX6_needPerson := goodIn_ca (goodIn_r _ [9, 10, 11, 12, 13, 14, 15, 16, 17, 18, 19, 20, 21, 22, 23, 24, 25, 29, 30, 31, 32, 33, 34, 35, 36] (by decide +kernel) (by decide +kernel)) (goodIn_sub (fun _ h => List.mem_cons_of_mem _ (List.mem_append_right _ h)) (by decide +kernel))
set_option maxRecDepth 20000 in
theorem gX6_pin_X6_needPerson : GoodIn wsX6_pin (wsV RX6 73 RX6 yX6_needPerson wsX6_needPerson) := goodIn_app (goodIn_of _ (by decide +kernel)) ggX6_pin_X6_needPerson
theorem dX6_pin_0 : decode cX6_pin 0 = .ok (.aload_n 0, 1) := by decide +kernel
theorem dX6_pin_1 : decode cX6_pin 1 = .ok (.iload_n 1, 1) := by decide +kernel
theorem dX6_pin_2 : decode cX6_pin 2 = .ok (.invokevirtual 73, 3) := by decide +kernel
theorem dX6_pin_5 : decode cX6_pin 5 = .ok (.iload_n 2, 1) := by decide +kernel
theorem dX6_pin_6 : decode cX6_pin 6 = .ok (.iconst (-1), 1) := by decide +kernel
theorem dX6_pin_7 : decode cX6_pin 7 = .ok (.if_icmp .eq 8, 3) := by decide +kernel
theorem dX6_pin_10 : decode cX6_pin 10 = .ok (.aload_n 0, 1) := by decide +kernel
theorem dX6_pin_11 : decode cX6_pin 11 = .ok (.iload_n 2, 1) := by decide +kernel
theorem dX6_pin_12 : decode cX6_pin 12 = .ok (.invokevirtual 73, 3) := by decide +kernel
theorem dX6_pin_15 : decode cX6_pin 15 = .ok (.iload_n 2, 1) := by decide +kernel
theorem dX6_pin_16 : decode cX6_pin 16 = .ok (.iload_n 1, 1) := by decide +kernel
theorem dX6_pin_17 : decode cX6_pin 17 = .ok (.if_icmp .ne 13, 3) := by decide +kernel
theorem dX6_pin_20 : decode cX6_pin 20 = .ok (.new 109, 3) := by decide +kernel
theorem dX6_pin_23 : decode cX6_pin 23 = .ok (.dup, 1) := by decide +kernel
theorem dX6_pin_24 : decode cX6_pin 24 = .ok (.ldc 111, 2) := by decide +kernel
theorem dX6_pin_26 : decode cX6_pin 26 = .ok (.invokespecial 113, 3) := by decide +kernel
theorem dX6_pin_29 : decode cX6_pin 29 = .ok (.athrow, 1) := by decide +kernel
theorem dX6_pin_30 : decode cX6_pin 30 = .ok (.aload_n 0, 1) := by decide +kernel
theorem dX6_pin_31 : decode cX6_pin 31 = .ok (.getfield 26, 3) := by decide +kernel
theorem dX6_pin_34 : decode cX6_pin 34 = .ok (.getfield 114, 3) := by decide +kernel
theorem dX6_pin_37 : decode cX6_pin 37 = .ok (.iload_n 1, 1) := by decide +kernel
theorem dX6_pin_38 : decode cX6_pin 38 = .ok (.iaload, 1) := by decide +kernel
theorem dX6_pin_39 : decode cX6_pin 39 = .ok (.istore_n 3, 1) := by decide +kernel
theorem dX6_pin_40 : decode cX6_pin 40 = .ok (.aload_n 0, 1) := by decide +kernel
theorem dX6_pin_41 : decode cX6_pin 41 = .ok (.getfield 26, 3) := by decide +kernel
theorem dX6_pin_44 : decode cX6_pin 44 = .ok (.getfield 114, 3) := by decide +kernel
theorem dX6_pin_47 : decode cX6_pin 47 = .ok (.iload_n 1, 1) := by decide +kernel
theorem dX6_pin_48 : decode cX6_pin 48 = .ok (.iload_n 2, 1) := by decide +kernel
theorem dX6_pin_49 : decode cX6_pin 49 = .ok (.iastore, 1) := by decide +kernel
theorem dX6_pin_50 : decode cX6_pin 50 = .ok (.iload_n 3, 1) := by decide +kernel
theorem dX6_pin_51 : decode cX6_pin 51 = .ok (.ireturn, 1) := by decide +kernel
set_option maxRecDepth 20000 in
theorem ggX6_setPlaces_X6_needPerson : GoodIn wsX6_setPlaces wsX6_needPerson := goodIn_ca (goodIn_r _ [7, 8, 9, 10, 11, 12, 13, 14, 15, 16, 22, 23, 24, 25, 26, 27, 28, 32, 33, 34, 35, 36, 37, 38, 39] (by decide +kernel) (by decide +kernel)) (goodIn_sub (fun _ h => List.mem_cons_of_mem _ (List.mem_append_left _ (List.mem_append_right _ h))) (by decide +kernel))
set_option maxRecDepth 20000 in
theorem gX6_setPlaces_X6_needPerson : GoodIn wsX6_setPlaces (wsV RX6 73 RX6 yX6_needPerson wsX6_needPerson) := goodIn_app (goodIn_of _ (by decide +kernel)) ggX6_setPlaces_X6_needPerson
set_option maxRecDepth 20000 in
theorem ggX6_setPlaces_X6_needRange : GoodIn wsX6_setPlaces wsX6_needRange := goodIn_ca (goodIn_r _ [19, 20, 21] (by decide +kernel) (by decide +kernel)) (goodIn_sub (fun _ h => List.mem_cons_of_mem _ (List.mem_append_right _ h)) (by decide +kernel))
set_option maxRecDepth 20000 in
theorem gX6_setPlaces_X6_needRange : GoodIn wsX6_setPlaces (va_wsS RX6 88 yX6_needRange wsX6_needRange) := goodIn_app (goodIn_of _ (by decide +kernel)) ggX6_setPlaces_X6_needRange
theorem dX6_setPlaces_0 : decode cX6_setPlaces 0 = .ok (.aload_n 0, 1) := by decide +kernel
theorem dX6_setPlaces_1 : decode cX6_setPlaces 1 = .ok (.iload_n 1, 1) := by decide +kernel
theorem dX6_setPlaces_2 : decode cX6_setPlaces 2 = .ok (.invokevirtual 73, 3) := by decide +kernel
theorem dX6_setPlaces_5 : decode cX6_setPlaces 5 = .ok (.iload_n 2, 1) := by decide +kernel
theorem dX6_setPlaces_6 : decode cX6_setPlaces 6 = .ok (.iconst 0, 1) := by decide +kernel
theorem dX6_setPlaces_7 : decode cX6_setPlaces 7 = .ok (.iconst 5, 1) := by decide +kernel
theorem dX6_setPlaces_8 : decode cX6_setPlaces 8 = .ok (.invokestatic 88, 3) := by decide +kernel
theorem dX6_setPlaces_11 : decode cX6_setPlaces 11 = .ok (.aload_n 0, 1) := by decide +kernel
theorem dX6_setPlaces_12 : decode cX6_setPlaces 12 = .ok (.getfield 26, 3) := by decide +kernel
theorem dX6_setPlaces_15 : decode cX6_setPlaces 15 = .ok (.getfield 117, 3) := by decide +kernel
theorem dX6_setPlaces_18 : decode cX6_setPlaces 18 = .ok (.iload_n 1, 1) := by decide +kernel
theorem dX6_setPlaces_19 : decode cX6_setPlaces 19 = .ok (.iaload, 1) := by decide +kernel
theorem dX6_setPlaces_20 : decode cX6_setPlaces 20 = .ok (.istore_n 3, 1) := by decide +kernel
theorem dX6_setPlaces_21 : decode cX6_setPlaces 21 = .ok (.aload_n 0, 1) := by decide +kernel
theorem dX6_setPlaces_22 : decode cX6_setPlaces 22 = .ok (.getfield 26, 3) := by decide +kernel
theorem dX6_setPlaces_25 : decode cX6_setPlaces 25 = .ok (.getfield 117, 3) := by decide +kernel
theorem dX6_setPlaces_28 : decode cX6_setPlaces 28 = .ok (.iload_n 1, 1) := by decide +kernel
theorem dX6_setPlaces_29 : decode cX6_setPlaces 29 = .ok (.iload_n 2, 1) := by decide +kernel
theorem dX6_setPlaces_30 : decode cX6_setPlaces 30 = .ok (.iastore, 1) := by decide +kernel
theorem dX6_setPlaces_31 : decode cX6_setPlaces 31 = .ok (.iload_n 3, 1) := by decide +kernel
theorem dX6_setPlaces_32 : decode cX6_setPlaces 32 = .ok (.ireturn, 1) := by decide +kernel
set_option maxRecDepth 20000 in
theorem ggX6_setEstimate_X6_needPerson : GoodIn wsX6_setEstimate wsX6_needPerson := goodIn_ca (goodIn_r _ [7, 8, 9, 10, 11, 12, 13, 14, 15, 16, 22, 23, 24, 25, 26, 27, 28, 32, 33, 34, 35, 36, 37, 38, 39] (by decide +kernel) (by decide +kernel)) (goodIn_sub (fun _ h => List.mem_cons_of_mem _ (List.mem_append_left _ (List.mem_append_right _ h))) (by decide +kernel))
set_option maxRecDepth 20000 in
theorem gX6_setEstimate_X6_needPerson : GoodIn wsX6_setEstimate (wsV RX6 73 RX6 yX6_needPerson wsX6_needPerson) := goodIn_app (goodIn_of _ (by decide +kernel)) ggX6_setEstimate_X6_needPerson
set_option maxRecDepth 20000 in
theorem ggX6_setEstimate_X6_needRange : GoodIn wsX6_setEstimate wsX6_needRange := goodIn_ca (goodIn_r _ [19, 20, 21] (by decide +kernel) (by decide +kernel)) (goodIn_sub (fun _ h => List.mem_cons_of_mem _ (List.mem_append_right _ h)) (by decide +kernel))
set_option maxRecDepth 20000 in
theorem gX6_setEstimate_X6_needRange : GoodIn wsX6_setEstimate (va_wsS RX6 88 yX6_needRange wsX6_needRange) := goodIn_app (goodIn_of _ (by decide +kernel)) ggX6_setEstimate_X6_needRange
theorem dX6_setEstimate_0 : decode cX6_setEstimate 0 = .ok (.aload_n 0, 1) := by decide +kernel
theorem dX6_setEstimate_1 : decode cX6_setEstimate 1 = .ok (.iload_n 1, 1) := by decide +kernel
theorem dX6_setEstimate_2 : decode cX6_setEstimate 2 = .ok (.invokevirtual 73, 3) := by decide +kernel
theorem dX6_setEstimate_5 : decode cX6_setEstimate 5 = .ok (.iload_n 2, 1) := by decide +kernel
theorem dX6_setEstimate_6 : decode cX6_setEstimate 6 = .ok (.iconst 0, 1) := by decide +kernel
theorem dX6_setEstimate_7 : decode cX6_setEstimate 7 = .ok (.sipush 2000, 3) := by decide +kernel
theorem dX6_setEstimate_10 : decode cX6_setEstimate 10 = .ok (.invokestatic 88, 3) := by decide +kernel
theorem dX6_setEstimate_13 : decode cX6_setEstimate 13 = .ok (.aload_n 0, 1) := by decide +kernel
theorem dX6_setEstimate_14 : decode cX6_setEstimate 14 = .ok (.getfield 26, 3) := by decide +kernel
theorem dX6_setEstimate_17 : decode cX6_setEstimate 17 = .ok (.getfield 120, 3) := by decide +kernel
theorem dX6_setEstimate_20 : decode cX6_setEstimate 20 = .ok (.iload_n 1, 1) := by decide +kernel
theorem dX6_setEstimate_21 : decode cX6_setEstimate 21 = .ok (.iaload, 1) := by decide +kernel
theorem dX6_setEstimate_22 : decode cX6_setEstimate 22 = .ok (.istore_n 3, 1) := by decide +kernel
theorem dX6_setEstimate_23 : decode cX6_setEstimate 23 = .ok (.aload_n 0, 1) := by decide +kernel
theorem dX6_setEstimate_24 : decode cX6_setEstimate 24 = .ok (.getfield 26, 3) := by decide +kernel
theorem dX6_setEstimate_27 : decode cX6_setEstimate 27 = .ok (.getfield 120, 3) := by decide +kernel
theorem dX6_setEstimate_30 : decode cX6_setEstimate 30 = .ok (.iload_n 1, 1) := by decide +kernel
theorem dX6_setEstimate_31 : decode cX6_setEstimate 31 = .ok (.iload_n 2, 1) := by decide +kernel
theorem dX6_setEstimate_32 : decode cX6_setEstimate 32 = .ok (.iastore, 1) := by decide +kernel
theorem dX6_setEstimate_33 : decode cX6_setEstimate 33 = .ok (.iload_n 3, 1) := by decide +kernel
theorem dX6_setEstimate_34 : decode cX6_setEstimate 34 = .ok (.ireturn, 1) := by decide +kernel
set_option maxRecDepth 20000 in
theorem ggX6_pass_X6_needRange : GoodIn wsX6_pass wsX6_needRange := goodIn_ca (goodIn_r _ [4, 5, 6] (by decide +kernel) (by decide +kernel)) (goodIn_sub (fun _ h => List.mem_cons_of_mem _ (List.mem_append_right _ h)) (by decide +kernel))
set_option maxRecDepth 20000 in
theorem gX6_pass_X6_needRange : GoodIn wsX6_pass (va_wsS RX6 88 yX6_needRange wsX6_needRange) := goodIn_app (goodIn_of _ (by decide +kernel)) ggX6_pass_X6_needRange
set_option maxRecDepth 20000 in
theorem ggX6_pass_X6_passOneSecond : GoodIn wsX6_pass wsX6_passOneSecond := goodIn_r _ [10, 11, 12, 13, 14, 15, 16, 17, 18, 19, 20, 21, 22, 23, 24, 25, 26, 27, 28, 29, 30, 31, 32, 33, 34, 35, 36, 37, 38, 39, 40, 41, 42, 43, 44, 3, 45, 46, 47, 48, 49, 50, 51, 52, 53, 54, 55, 56, 57, 58, 59, 60, 61, 62, 63, 64, 65, 66, 67, 68, 69, 70, 71, 72, 73, 74, 75, 76, 77, 78, 79, 80, 81, 82, 83, 84, 85, 86, 87, 88, 89, 90, 91, 92, 93, 94, 95, 96, 97, 98, 99, 100, 101, 102, 103, 104, 105, 106, 107, 108, 109, 110, 111, 112, 113, 114, 115, 116, 117, 118, 119, 120, 121, 122, 123, 124, 125, 126, 127, 128, 129, 130, 131, 132, 133, 134, 135, 136, 137, 138, 139, 140, 141, 142, 143, 144, 145, 146, 147, 148, 149, 150, 151, 152, 153, 154, 155, 156, 157, 158, 159, 160, 161, 162, 163, 164, 165, 166, 167, 168, 169, 170, 171, 172, 173, 174, 175, 176, 177, 178, 179, 180, 181, 182] (by decide +kernel) (by decide +kernel)
set_option maxRecDepth 20000 in
theorem gX6_pass_X6_passOneSecond : GoodIn wsX6_pass (wsV RX6 129 RX6 yX6_passOneSecond wsX6_passOneSecond) := goodIn_app (goodIn_of _ (by decide +kernel)) ggX6_pass_X6_passOneSecond
theorem dX6_pass_0 : decode cX6_pass 0 = .ok (.iload_n 1, 1) := by decide +kernel
theorem dX6_pass_1 : decode cX6_pass 1 = .ok (.iconst 1, 1) := by decide +kernel
theorem dX6_pass_2 : decode cX6_pass 2 = .ok (.bipush 20, 2) := by decide +kernel
theorem dX6_pass_4 : decode cX6_pass 4 = .ok (.invokestatic 88, 3) := by decide +kernel
theorem dX6_pass_7 : decode cX6_pass 7 = .ok (.iconst 0, 1) := by decide +kernel
theorem dX6_pass_8 : decode cX6_pass 8 = .ok (.istore_n 2, 1) := by decide +kernel
theorem dX6_pass_9 : decode cX6_pass 9 = .ok (.iconst 0, 1) := by decide +kernel
theorem dX6_pass_10 : decode cX6_pass 10 = .ok (.istore_n 3, 1) := by decide +kernel
theorem dX6_pass_11 : decode cX6_pass 11 = .ok (.iload_n 3, 1) := by decide +kernel
theorem dX6_pass_12 : decode cX6_pass 12 = .ok (.iload_n 1, 1) := by decide +kernel
theorem dX6_pass_13 : decode cX6_pass 13 = .ok (.if_icmp .ge 16, 3) := by decide +kernel
theorem dX6_pass_16 : decode cX6_pass 16 = .ok (.iload_n 2, 1) := by decide +kernel
theorem dX6_pass_17 : decode cX6_pass 17 = .ok (.aload_n 0, 1) := by decide +kernel
theorem dX6_pass_18 : decode cX6_pass 18 = .ok (.invokevirtual 129, 3) := by decide +kernel
theorem dX6_pass_21 : decode cX6_pass 21 = .ok (.iadd, 1) := by decide +kernel
theorem dX6_pass_22 : decode cX6_pass 22 = .ok (.istore_n 2, 1) := by decide +kernel
theorem dX6_pass_23 : decode cX6_pass 23 = .ok (.iinc 3 1, 3) := by decide +kernel
theorem dX6_pass_26 : decode cX6_pass 26 = .ok (.goto (-15), 3) := by decide +kernel
theorem dX6_pass_29 : decode cX6_pass 29 = .ok (.iload_n 2, 1) := by decide +kernel
theorem dX6_pass_30 : decode cX6_pass 30 = .ok (.ireturn, 1) := by decide +kernel
theorem dX6_now_0 : decode cX6_now 0 = .ok (.aload_n 0, 1) := by decide +kernel
theorem dX6_now_1 : decode cX6_now 1 = .ok (.getfield 51, 3) := by decide +kernel
theorem dX6_now_4 : decode cX6_now 4 = .ok (.ireturn, 1) := by decide +kernel
theorem dX6_speaker_0 : decode cX6_speaker 0 = .ok (.aload_n 0, 1) := by decide +kernel
theorem dX6_speaker_1 : decode cX6_speaker 1 = .ok (.getfield 10, 3) := by decide +kernel
theorem dX6_speaker_4 : decode cX6_speaker 4 = .ok (.getfield 132, 3) := by decide +kernel
theorem dX6_speaker_7 : decode cX6_speaker 7 = .ok (.ireturn, 1) := by decide +kernel
set_option maxRecDepth 20000 in
theorem ggX6_seen_X6_needPerson : GoodIn wsX6_seen wsX6_needPerson := goodIn_ca (goodIn_r _ [7, 8, 9, 10, 11, 12, 13, 14, 15, 16, 52, 53, 54, 55, 56, 57, 58, 61, 62, 63, 64, 65, 66, 67, 68] (by decide +kernel) (by decide +kernel)) (goodIn_sub (fun _ h => List.mem_cons_of_mem _ (List.mem_append_right _ h)) (by decide +kernel))
set_option maxRecDepth 20000 in
theorem gX6_seen_X6_needPerson : GoodIn wsX6_seen (wsV RX6 73 RX6 yX6_needPerson wsX6_needPerson) := goodIn_app (goodIn_of _ (by decide +kernel)) ggX6_seen_X6_needPerson
set_option maxRecDepth 20000 in
theorem ggX6_seen_X6_fillView : GoodIn wsX6_seen wsX6_fillView := goodIn_r _ [20, 1, 21, 22, 10, 23, 24, 25, 26, 27, 28, 29, 30, 31, 32, 33, 34, 6, 35, 2, 36, 11, 12, 13, 14, 15, 16, 37, 38, 39, 40, 41, 42, 43, 44, 45, 46, 47, 48, 49, 50, 51, 52, 53, 54, 55, 56, 57, 58, 69, 70, 71, 61, 62, 63, 64, 65, 66, 67, 68, 72, 73, 74, 75, 76, 77, 78, 59, 60] (by decide +kernel) (by decide +kernel)
set_option maxRecDepth 20000 in
theorem gX6_seen_X6_fillView : GoodIn wsX6_seen (wsV RX6 135 RX6 yX6_fillView wsX6_fillView) := goodIn_app (goodIn_of _ (by decide +kernel)) ggX6_seen_X6_fillView
theorem dX6_seen_0 : decode cX6_seen 0 = .ok (.aload_n 0, 1) := by decide +kernel
theorem dX6_seen_1 : decode cX6_seen 1 = .ok (.iload_n 1, 1) := by decide +kernel
theorem dX6_seen_2 : decode cX6_seen 2 = .ok (.invokevirtual 73, 3) := by decide +kernel
theorem dX6_seen_5 : decode cX6_seen 5 = .ok (.aload_n 0, 1) := by decide +kernel
theorem dX6_seen_6 : decode cX6_seen 6 = .ok (.iload_n 1, 1) := by decide +kernel
theorem dX6_seen_7 : decode cX6_seen 7 = .ok (.invokevirtual 135, 3) := by decide +kernel
theorem dX6_seen_10 : decode cX6_seen 10 = .ok (.aload_n 0, 1) := by decide +kernel
theorem dX6_seen_11 : decode cX6_seen 11 = .ok (.getfield 33, 3) := by decide +kernel
theorem dX6_seen_14 : decode cX6_seen 14 = .ok (.getfield 138, 3) := by decide +kernel
theorem dX6_seen_17 : decode cX6_seen 17 = .ok (.ireturn, 1) := by decide +kernel
set_option maxRecDepth 20000 in
theorem ggX6_seenAt_X6_needPerson : GoodIn wsX6_seenAt wsX6_needPerson := goodIn_ca (goodIn_r _ [10, 11, 12, 13, 14, 15, 16, 17, 18, 19, 54, 55, 56, 57, 58, 59, 60, 63, 64, 65, 66, 67, 68, 69, 70] (by decide +kernel) (by decide +kernel)) (goodIn_sub (fun _ h => List.mem_cons_of_mem _ (List.mem_append_right _ h)) (by decide +kernel))
set_option maxRecDepth 20000 in
theorem gX6_seenAt_X6_needPerson : GoodIn wsX6_seenAt (wsV RX6 73 RX6 yX6_needPerson wsX6_needPerson) := goodIn_app (goodIn_of _ (by decide +kernel)) ggX6_seenAt_X6_needPerson
set_option maxRecDepth 20000 in
theorem ggX6_seenAt_X6_fillView : GoodIn wsX6_seenAt wsX6_fillView := goodIn_r _ [23, 3, 24, 25, 13, 26, 27, 28, 29, 30, 31, 32, 33, 34, 35, 36, 37, 9, 38, 4, 39, 14, 15, 16, 17, 18, 19, 40, 41, 42, 43, 44, 45, 46, 47, 48, 49, 50, 51, 52, 53, 5, 54, 55, 56, 57, 58, 59, 60, 71, 72, 73, 63, 64, 65, 66, 67, 68, 69, 70, 74, 75, 76, 77, 78, 79, 80, 61, 62] (by decide +kernel) (by decide +kernel)
set_option maxRecDepth 20000 in
theorem gX6_seenAt_X6_fillView : GoodIn wsX6_seenAt (wsV RX6 135 RX6 yX6_fillView wsX6_fillView) := goodIn_app (goodIn_of _ (by decide +kernel)) ggX6_seenAt_X6_fillView
theorem dX6_seenAt_0 : decode cX6_seenAt 0 = .ok (.aload_n 0, 1) := by decide +kernel
theorem dX6_seenAt_1 : decode cX6_seenAt 1 = .ok (.iload_n 1, 1) := by decide +kernel
theorem dX6_seenAt_2 : decode cX6_seenAt 2 = .ok (.invokevirtual 73, 3) := by decide +kernel
theorem dX6_seenAt_5 : decode cX6_seenAt 5 = .ok (.aload_n 0, 1) := by decide +kernel
theorem dX6_seenAt_6 : decode cX6_seenAt 6 = .ok (.iload_n 1, 1) := by decide +kernel
theorem dX6_seenAt_7 : decode cX6_seenAt 7 = .ok (.invokevirtual 135, 3) := by decide +kernel
theorem dX6_seenAt_10 : decode cX6_seenAt 10 = .ok (.iload_n 2, 1) := by decide +kernel
theorem dX6_seenAt_11 : decode cX6_seenAt 11 = .ok (.ifCond .lt 14, 3) := by decide +kernel
theorem dX6_seenAt_14 : decode cX6_seenAt 14 = .ok (.iload_n 2, 1) := by decide +kernel
theorem dX6_seenAt_15 : decode cX6_seenAt 15 = .ok (.aload_n 0, 1) := by decide +kernel
theorem dX6_seenAt_16 : decode cX6_seenAt 16 = .ok (.getfield 33, 3) := by decide +kernel
theorem dX6_seenAt_19 : decode cX6_seenAt 19 = .ok (.getfield 138, 3) := by decide +kernel
theorem dX6_seenAt_22 : decode cX6_seenAt 22 = .ok (.if_icmp .lt 13, 3) := by decide +kernel
theorem dX6_seenAt_25 : decode cX6_seenAt 25 = .ok (.new 141, 3) := by decide +kernel
theorem dX6_seenAt_28 : decode cX6_seenAt 28 = .ok (.dup, 1) := by decide +kernel
theorem dX6_seenAt_29 : decode cX6_seenAt 29 = .ok (.ldc 143, 2) := by decide +kernel
theorem dX6_seenAt_31 : decode cX6_seenAt 31 = .ok (.invokespecial 145, 3) := by decide +kernel
theorem dX6_seenAt_34 : decode cX6_seenAt 34 = .ok (.athrow, 1) := by decide +kernel
theorem dX6_seenAt_35 : decode cX6_seenAt 35 = .ok (.aload_n 0, 1) := by decide +kernel
theorem dX6_seenAt_36 : decode cX6_seenAt 36 = .ok (.getfield 33, 3) := by decide +kernel
theorem dX6_seenAt_39 : decode cX6_seenAt 39 = .ok (.getfield 146, 3) := by decide +kernel
theorem dX6_seenAt_42 : decode cX6_seenAt 42 = .ok (.iload_n 2, 1) := by decide +kernel
theorem dX6_seenAt_43 : decode cX6_seenAt 43 = .ok (.iaload, 1) := by decide +kernel
theorem dX6_seenAt_44 : decode cX6_seenAt 44 = .ok (.ireturn, 1) := by decide +kernel
set_option maxRecDepth 20000 in
theorem ggX6_target_X6_needPerson : GoodIn wsX6_target wsX6_needPerson := goodIn_ca (goodIn_r _ [11, 12, 13, 14, 15, 16, 17, 18, 19, 20, 78, 79, 80, 81, 82, 83, 84, 90, 91, 92, 93, 94, 95, 96, 97] (by decide +kernel) (by decide +kernel)) (goodIn_sub (fun _ h => List.mem_cons_of_mem _ (List.mem_append_right _ h)) (by decide +kernel))
set_option maxRecDepth 20000 in
theorem gX6_target_X6_needPerson : GoodIn wsX6_target (wsV RX6 73 RX6 yX6_needPerson wsX6_needPerson) := goodIn_app (goodIn_of _ (by decide +kernel)) ggX6_target_X6_needPerson
set_option maxRecDepth 20000 in
theorem ggX6_target_X6_fillView : GoodIn wsX6_target wsX6_fillView := goodIn_r _ [24, 2, 4, 25, 14, 26, 3, 27, 28, 29, 30, 31, 32, 33, 34, 35, 36, 10, 37, 38, 39, 15, 16, 17, 18, 19, 20, 40, 41, 42, 43, 44, 45, 46, 47, 48, 49, 50, 51, 52, 53, 54, 78, 79, 80, 81, 82, 83, 84, 85, 86, 87, 90, 91, 92, 93, 94, 95, 96, 97, 98, 99, 100, 101, 102, 103, 104, 105, 106] (by decide +kernel) (by decide +kernel)
set_option maxRecDepth 20000 in
theorem gX6_target_X6_fillView : GoodIn wsX6_target (wsV RX6 135 RX6 yX6_fillView wsX6_fillView) := goodIn_app (goodIn_of _ (by decide +kernel)) ggX6_target_X6_fillView
set_option maxRecDepth 20000 in
theorem ggX6_target_X3_shareInRounds : GoodIn wsX6_target wsX3_shareInRounds := goodIn_r _ [59, 60, 61, 62, 63, 64, 58, 65, 66, 67, 68, 69, 70, 71, 72, 73, 74, 75, 76, 77, 105, 106, 88, 89, 98, 99, 100, 101, 102, 103, 104] (by decide +kernel) (by decide +kernel)
set_option maxRecDepth 20000 in
theorem gX6_target_X3_shareInRounds : GoodIn wsX6_target (wsV RX6 149 RX3 yX3_shareInRounds wsX3_shareInRounds) := goodIn_app (goodIn_of _ (by decide +kernel)) ggX6_target_X3_shareInRounds
theorem dX6_target_0 : decode cX6_target 0 = .ok (.aload_n 0, 1) := by decide +kernel
theorem dX6_target_1 : decode cX6_target 1 = .ok (.iload_n 1, 1) := by decide +kernel
theorem dX6_target_2 : decode cX6_target 2 = .ok (.invokevirtual 73, 3) := by decide +kernel
theorem dX6_target_5 : decode cX6_target 5 = .ok (.aload_n 0, 1) := by decide +kernel
theorem dX6_target_6 : decode cX6_target 6 = .ok (.iload_n 2, 1) := by decide +kernel
theorem dX6_target_7 : decode cX6_target 7 = .ok (.invokevirtual 73, 3) := by decide +kernel
theorem dX6_target_10 : decode cX6_target 10 = .ok (.aload_n 0, 1) := by decide +kernel
theorem dX6_target_11 : decode cX6_target 11 = .ok (.iload_n 1, 1) := by decide +kernel
theorem dX6_target_12 : decode cX6_target 12 = .ok (.invokevirtual 135, 3) := by decide +kernel
theorem dX6_target_15 : decode cX6_target 15 = .ok (.aload_n 0, 1) := by decide +kernel
theorem dX6_target_16 : decode cX6_target 16 = .ok (.getfield 40, 3) := by decide +kernel
theorem dX6_target_19 : decode cX6_target 19 = .ok (.aload_n 0, 1) := by decide +kernel
theorem dX6_target_20 : decode cX6_target 20 = .ok (.getfield 33, 3) := by decide +kernel
theorem dX6_target_23 : decode cX6_target 23 = .ok (.aload_n 0, 1) := by decide +kernel
theorem dX6_target_24 : decode cX6_target 24 = .ok (.getfield 19, 3) := by decide +kernel
theorem dX6_target_27 : decode cX6_target 27 = .ok (.aload_n 0, 1) := by decide +kernel
theorem dX6_target_28 : decode cX6_target 28 = .ok (.getfield 26, 3) := by decide +kernel
theorem dX6_target_31 : decode cX6_target 31 = .ok (.getfield 120, 3) := by decide +kernel
theorem dX6_target_34 : decode cX6_target 34 = .ok (.iload_n 1, 1) := by decide +kernel
theorem dX6_target_35 : decode cX6_target 35 = .ok (.iaload, 1) := by decide +kernel
theorem dX6_target_36 : decode cX6_target 36 = .ok (.invokevirtual 149, 3) := by decide +kernel
theorem dX6_target_39 : decode cX6_target 39 = .ok (.aload_n 0, 1) := by decide +kernel
theorem dX6_target_40 : decode cX6_target 40 = .ok (.getfield 40, 3) := by decide +kernel
theorem dX6_target_43 : decode cX6_target 43 = .ok (.getfield 153, 3) := by decide +kernel
theorem dX6_target_46 : decode cX6_target 46 = .ok (.iload_n 2, 1) := by decide +kernel
theorem dX6_target_47 : decode cX6_target 47 = .ok (.iaload, 1) := by decide +kernel
theorem dX6_target_48 : decode cX6_target 48 = .ok (.ireturn, 1) := by decide +kernel
set_option maxRecDepth 20000 in
theorem ggX6_targetBySteps_X6_needPerson : GoodIn wsX6_targetBySteps wsX6_needPerson := goodIn_ca (goodIn_r _ [11, 12, 13, 14, 15, 16, 17, 18, 19, 20, 86, 87, 88, 89, 90, 91, 92, 98, 99, 100, 101, 102, 103, 104, 105] (by decide +kernel) (by decide +kernel)) (goodIn_sub (fun _ h => List.mem_cons_of_mem _ (List.mem_append_right _ h)) (by decide +kernel))
set_option maxRecDepth 20000 in
theorem gX6_targetBySteps_X6_needPerson : GoodIn wsX6_targetBySteps (wsV RX6 73 RX6 yX6_needPerson wsX6_needPerson) := goodIn_app (goodIn_of _ (by decide +kernel)) ggX6_targetBySteps_X6_needPerson
set_option maxRecDepth 20000 in
theorem ggX6_targetBySteps_X6_fillView : GoodIn wsX6_targetBySteps wsX6_fillView := goodIn_r _ [24, 2, 4, 25, 14, 26, 3, 27, 28, 29, 30, 31, 32, 33, 34, 35, 36, 10, 37, 38, 39, 15, 16, 17, 18, 19, 20, 40, 41, 42, 43, 44, 45, 46, 47, 48, 49, 50, 51, 52, 53, 54, 86, 87, 88, 89, 90, 91, 92, 93, 94, 95, 98, 99, 100, 101, 102, 103, 104, 105, 106, 107, 108, 109, 110, 111, 112, 113, 114] (by decide +kernel) (by decide +kernel)
set_option maxRecDepth 20000 in
theorem gX6_targetBySteps_X6_fillView : GoodIn wsX6_targetBySteps (wsV RX6 135 RX6 yX6_fillView wsX6_fillView) := goodIn_app (goodIn_of _ (by decide +kernel)) ggX6_targetBySteps_X6_fillView
set_option maxRecDepth 20000 in
theorem ggX6_targetBySteps_X3_shareBySteps : GoodIn wsX6_targetBySteps wsX3_shareBySteps := goodIn_r _ [59, 60, 61, 62, 58, 63, 64, 65, 66, 67, 68, 69, 70, 71, 72, 73, 74, 75, 76, 77, 78, 79, 80, 81, 82, 83, 84, 85, 96, 97, 113, 114, 106, 107, 108, 109, 110, 111, 112] (by decide +kernel) (by decide +kernel)
set_option maxRecDepth 20000 in
theorem gX6_targetBySteps_X3_shareBySteps : GoodIn wsX6_targetBySteps (wsV RX6 156 RX3 yX3_shareBySteps wsX3_shareBySteps) := goodIn_app (goodIn_of _ (by decide +kernel)) ggX6_targetBySteps_X3_shareBySteps
theorem dX6_targetBySteps_0 : decode cX6_targetBySteps 0 = .ok (.aload_n 0, 1) := by decide +kernel
theorem dX6_targetBySteps_1 : decode cX6_targetBySteps 1 = .ok (.iload_n 1, 1) := by decide +kernel
theorem dX6_targetBySteps_2 : decode cX6_targetBySteps 2 = .ok (.invokevirtual 73, 3) := by decide +kernel
theorem dX6_targetBySteps_5 : decode cX6_targetBySteps 5 = .ok (.aload_n 0, 1) := by decide +kernel
theorem dX6_targetBySteps_6 : decode cX6_targetBySteps 6 = .ok (.iload_n 2, 1) := by decide +kernel
theorem dX6_targetBySteps_7 : decode cX6_targetBySteps 7 = .ok (.invokevirtual 73, 3) := by decide +kernel
theorem dX6_targetBySteps_10 : decode cX6_targetBySteps 10 = .ok (.aload_n 0, 1) := by decide +kernel
theorem dX6_targetBySteps_11 : decode cX6_targetBySteps 11 = .ok (.iload_n 1, 1) := by decide +kernel
theorem dX6_targetBySteps_12 : decode cX6_targetBySteps 12 = .ok (.invokevirtual 135, 3) := by decide +kernel
theorem dX6_targetBySteps_15 : decode cX6_targetBySteps 15 = .ok (.aload_n 0, 1) := by decide +kernel
theorem dX6_targetBySteps_16 : decode cX6_targetBySteps 16 = .ok (.getfield 40, 3) := by decide +kernel
theorem dX6_targetBySteps_19 : decode cX6_targetBySteps 19 = .ok (.aload_n 0, 1) := by decide +kernel
theorem dX6_targetBySteps_20 : decode cX6_targetBySteps 20 = .ok (.getfield 33, 3) := by decide +kernel
theorem dX6_targetBySteps_23 : decode cX6_targetBySteps 23 = .ok (.aload_n 0, 1) := by decide +kernel
theorem dX6_targetBySteps_24 : decode cX6_targetBySteps 24 = .ok (.getfield 19, 3) := by decide +kernel
theorem dX6_targetBySteps_27 : decode cX6_targetBySteps 27 = .ok (.aload_n 0, 1) := by decide +kernel
theorem dX6_targetBySteps_28 : decode cX6_targetBySteps 28 = .ok (.getfield 26, 3) := by decide +kernel
theorem dX6_targetBySteps_31 : decode cX6_targetBySteps 31 = .ok (.getfield 120, 3) := by decide +kernel
theorem dX6_targetBySteps_34 : decode cX6_targetBySteps 34 = .ok (.iload_n 1, 1) := by decide +kernel
theorem dX6_targetBySteps_35 : decode cX6_targetBySteps 35 = .ok (.iaload, 1) := by decide +kernel
theorem dX6_targetBySteps_36 : decode cX6_targetBySteps 36 = .ok (.invokevirtual 156, 3) := by decide +kernel
theorem dX6_targetBySteps_39 : decode cX6_targetBySteps 39 = .ok (.aload_n 0, 1) := by decide +kernel
theorem dX6_targetBySteps_40 : decode cX6_targetBySteps 40 = .ok (.getfield 40, 3) := by decide +kernel
theorem dX6_targetBySteps_43 : decode cX6_targetBySteps 43 = .ok (.getfield 153, 3) := by decide +kernel
theorem dX6_targetBySteps_46 : decode cX6_targetBySteps 46 = .ok (.iload_n 2, 1) := by decide +kernel
theorem dX6_targetBySteps_47 : decode cX6_targetBySteps 47 = .ok (.iaload, 1) := by decide +kernel
theorem dX6_targetBySteps_48 : decode cX6_targetBySteps 48 = .ok (.ireturn, 1) := by decide +kernel
set_option maxRecDepth 20000 in
theorem ggX6_layer_X6_needPerson : GoodIn wsX6_layer wsX6_needPerson := goodIn_ca (goodIn_r _ [7, 8, 9, 10, 11, 12, 13, 14, 15, 16, 17, 18, 19, 20, 21, 22, 23, 26, 27, 28, 29, 30, 31, 32, 33] (by decide +kernel) (by decide +kernel)) (goodIn_sub (fun _ h => List.mem_cons_of_mem _ (List.mem_append_right _ h)) (by decide +kernel))
set_option maxRecDepth 20000 in
theorem gX6_layer_X6_needPerson : GoodIn wsX6_layer (wsV RX6 73 RX6 yX6_needPerson wsX6_needPerson) := goodIn_app (goodIn_of _ (by decide +kernel)) ggX6_layer_X6_needPerson
theorem dX6_layer_0 : decode cX6_layer 0 = .ok (.aload_n 0, 1) := by decide +kernel
theorem dX6_layer_1 : decode cX6_layer 1 = .ok (.iload_n 1, 1) := by decide +kernel
theorem dX6_layer_2 : decode cX6_layer 2 = .ok (.invokevirtual 73, 3) := by decide +kernel
theorem dX6_layer_5 : decode cX6_layer 5 = .ok (.aload_n 0, 1) := by decide +kernel
theorem dX6_layer_6 : decode cX6_layer 6 = .ok (.iload_n 2, 1) := by decide +kernel
theorem dX6_layer_7 : decode cX6_layer 7 = .ok (.invokevirtual 73, 3) := by decide +kernel
theorem dX6_layer_10 : decode cX6_layer 10 = .ok (.aload_n 0, 1) := by decide +kernel
theorem dX6_layer_11 : decode cX6_layer 11 = .ok (.getfield 47, 3) := by decide +kernel
theorem dX6_layer_14 : decode cX6_layer 14 = .ok (.getfield 159, 3) := by decide +kernel
theorem dX6_layer_17 : decode cX6_layer 17 = .ok (.iload_n 1, 1) := by decide +kernel
theorem dX6_layer_18 : decode cX6_layer 18 = .ok (.aaload, 1) := by decide +kernel
theorem dX6_layer_19 : decode cX6_layer 19 = .ok (.iload_n 2, 1) := by decide +kernel
theorem dX6_layer_20 : decode cX6_layer 20 = .ok (.iaload, 1) := by decide +kernel
theorem dX6_layer_21 : decode cX6_layer 21 = .ok (.ireturn, 1) := by decide +kernel
set_option maxRecDepth 20000 in
theorem ggX6_sent_X6_needPerson : GoodIn wsX6_sent wsX6_needPerson := goodIn_ca (goodIn_r _ [8, 9, 10, 11, 12, 13, 14, 15, 16, 17, 25, 26, 27, 28, 29, 30, 31, 34, 35, 36, 37, 38, 39, 40, 41] (by decide +kernel) (by decide +kernel)) (goodIn_sub (fun _ h => List.mem_cons_of_mem _ (List.mem_append_right _ h)) (by decide +kernel))
set_option maxRecDepth 20000 in
theorem gX6_sent_X6_needPerson : GoodIn wsX6_sent (wsV RX6 73 RX6 yX6_needPerson wsX6_needPerson) := goodIn_app (goodIn_of _ (by decide +kernel)) ggX6_sent_X6_needPerson
set_option maxRecDepth 20000 in
theorem ggX6_sent_X4_rateOf : GoodIn wsX6_sent wsX4_rateOf := goodIn_r _ [22, 23, 24, 42, 43, 44, 45, 46, 47, 48] (by decide +kernel) (by decide +kernel)
set_option maxRecDepth 20000 in
theorem gX6_sent_X4_rateOf : GoodIn wsX6_sent (wsV RX6 163 RX4 yX4_rateOf wsX4_rateOf) := goodIn_app (goodIn_of _ (by decide +kernel)) ggX6_sent_X4_rateOf
theorem dX6_sent_0 : decode cX6_sent 0 = .ok (.aload_n 0, 1) := by decide +kernel
theorem dX6_sent_1 : decode cX6_sent 1 = .ok (.iload_n 1, 1) := by decide +kernel
theorem dX6_sent_2 : decode cX6_sent 2 = .ok (.invokevirtual 73, 3) := by decide +kernel
theorem dX6_sent_5 : decode cX6_sent 5 = .ok (.iconst 0, 1) := by decide +kernel
theorem dX6_sent_6 : decode cX6_sent 6 = .ok (.istore_n 2, 1) := by decide +kernel
theorem dX6_sent_7 : decode cX6_sent 7 = .ok (.iconst 0, 1) := by decide +kernel
theorem dX6_sent_8 : decode cX6_sent 8 = .ok (.istore_n 3, 1) := by decide +kernel
theorem dX6_sent_9 : decode cX6_sent 9 = .ok (.iload_n 3, 1) := by decide +kernel
theorem dX6_sent_10 : decode cX6_sent 10 = .ok (.bipush 6, 2) := by decide +kernel
theorem dX6_sent_12 : decode cX6_sent 12 = .ok (.if_icmp .ge 31, 3) := by decide +kernel
theorem dX6_sent_15 : decode cX6_sent 15 = .ok (.iload_n 2, 1) := by decide +kernel
theorem dX6_sent_16 : decode cX6_sent 16 = .ok (.aload_n 0, 1) := by decide +kernel
theorem dX6_sent_17 : decode cX6_sent 17 = .ok (.getfield 19, 3) := by decide +kernel
theorem dX6_sent_20 : decode cX6_sent 20 = .ok (.iload_n 3, 1) := by decide +kernel
theorem dX6_sent_21 : decode cX6_sent 21 = .ok (.aload_n 0, 1) := by decide +kernel
theorem dX6_sent_22 : decode cX6_sent 22 = .ok (.getfield 47, 3) := by decide +kernel
theorem dX6_sent_25 : decode cX6_sent 25 = .ok (.getfield 159, 3) := by decide +kernel
theorem dX6_sent_28 : decode cX6_sent 28 = .ok (.iload_n 1, 1) := by decide +kernel
theorem dX6_sent_29 : decode cX6_sent 29 = .ok (.aaload, 1) := by decide +kernel
theorem dX6_sent_30 : decode cX6_sent 30 = .ok (.iload_n 3, 1) := by decide +kernel
theorem dX6_sent_31 : decode cX6_sent 31 = .ok (.iaload, 1) := by decide +kernel
theorem dX6_sent_32 : decode cX6_sent 32 = .ok (.invokevirtual 163, 3) := by decide +kernel
theorem dX6_sent_35 : decode cX6_sent 35 = .ok (.iadd, 1) := by decide +kernel
theorem dX6_sent_36 : decode cX6_sent 36 = .ok (.istore_n 2, 1) := by decide +kernel
theorem dX6_sent_37 : decode cX6_sent 37 = .ok (.iinc 3 1, 3) := by decide +kernel
theorem dX6_sent_40 : decode cX6_sent 40 = .ok (.goto (-31), 3) := by decide +kernel
theorem dX6_sent_43 : decode cX6_sent 43 = .ok (.iload_n 2, 1) := by decide +kernel
theorem dX6_sent_44 : decode cX6_sent 44 = .ok (.ireturn, 1) := by decide +kernel
set_option maxRecDepth 20000 in
theorem ggX6_needPerson_X0_isHere : GoodIn wsX6_needPerson wsX0_isHere := goodIn_r _ [8, 9, 17, 18, 19, 20, 21, 22, 23, 24] (by decide +kernel) (by decide +kernel)
set_option maxRecDepth 20000 in
theorem gX6_needPerson_X0_isHere : GoodIn wsX6_needPerson (wsV RX6 173 RX0 yX0_isHere wsX0_isHere) := goodIn_app (goodIn_of _ (by decide +kernel)) ggX6_needPerson_X0_isHere
theorem dX6_needPerson_0 : decode cX6_needPerson 0 = .ok (.aload_n 0, 1) := by decide +kernel
theorem dX6_needPerson_1 : decode cX6_needPerson 1 = .ok (.getfield 10, 3) := by decide +kernel
theorem dX6_needPerson_4 : decode cX6_needPerson 4 = .ok (.iload_n 1, 1) := by decide +kernel
theorem dX6_needPerson_5 : decode cX6_needPerson 5 = .ok (.invokevirtual 173, 3) := by decide +kernel
theorem dX6_needPerson_8 : decode cX6_needPerson 8 = .ok (.ifCond .ne 13, 3) := by decide +kernel
theorem dX6_needPerson_11 : decode cX6_needPerson 11 = .ok (.new 177, 3) := by decide +kernel
theorem dX6_needPerson_14 : decode cX6_needPerson 14 = .ok (.dup, 1) := by decide +kernel
theorem dX6_needPerson_15 : decode cX6_needPerson 15 = .ok (.ldc 179, 2) := by decide +kernel
theorem dX6_needPerson_17 : decode cX6_needPerson 17 = .ok (.invokespecial 181, 3) := by decide +kernel
theorem dX6_needPerson_20 : decode cX6_needPerson 20 = .ok (.athrow, 1) := by decide +kernel
theorem dX6_needPerson_21 : decode cX6_needPerson 21 = .ok (.return_, 1) := by decide +kernel
set_option maxRecDepth 20000 in
theorem ggX6_needStream_X1_holds : GoodIn wsX6_needStream wsX1_holds := goodIn_r _ [9, 10, 11, 26, 27] (by decide +kernel) (by decide +kernel)
set_option maxRecDepth 20000 in
theorem gX6_needStream_X1_holds : GoodIn wsX6_needStream (wsV RX6 185 RX1 yX1_holds wsX1_holds) := goodIn_app (goodIn_of _ (by decide +kernel)) ggX6_needStream_X1_holds
theorem dX6_needStream_0 : decode cX6_needStream 0 = .ok (.aload_n 0, 1) := by decide +kernel
theorem dX6_needStream_1 : decode cX6_needStream 1 = .ok (.getfield 19, 3) := by decide +kernel
theorem dX6_needStream_4 : decode cX6_needStream 4 = .ok (.getfield 182, 3) := by decide +kernel
theorem dX6_needStream_7 : decode cX6_needStream 7 = .ok (.iload_n 1, 1) := by decide +kernel
theorem dX6_needStream_8 : decode cX6_needStream 8 = .ok (.invokevirtual 185, 3) := by decide +kernel
theorem dX6_needStream_11 : decode cX6_needStream 11 = .ok (.ifCond .ne 13, 3) := by decide +kernel
theorem dX6_needStream_14 : decode cX6_needStream 14 = .ok (.new 59, 3) := by decide +kernel
theorem dX6_needStream_17 : decode cX6_needStream 17 = .ok (.dup, 1) := by decide +kernel
theorem dX6_needStream_18 : decode cX6_needStream 18 = .ok (.ldc 188, 2) := by decide +kernel
theorem dX6_needStream_20 : decode cX6_needStream 20 = .ok (.invokespecial 63, 3) := by decide +kernel
theorem dX6_needStream_23 : decode cX6_needStream 23 = .ok (.athrow, 1) := by decide +kernel
theorem dX6_needStream_24 : decode cX6_needStream 24 = .ok (.return_, 1) := by decide +kernel
theorem dX6_needRange_0 : decode cX6_needRange 0 = .ok (.iload_n 0, 1) := by decide +kernel
theorem dX6_needRange_1 : decode cX6_needRange 1 = .ok (.iload_n 1, 1) := by decide +kernel
theorem dX6_needRange_2 : decode cX6_needRange 2 = .ok (.if_icmp .lt 8, 3) := by decide +kernel
theorem dX6_needRange_5 : decode cX6_needRange 5 = .ok (.iload_n 0, 1) := by decide +kernel
theorem dX6_needRange_6 : decode cX6_needRange 6 = .ok (.iload_n 2, 1) := by decide +kernel
theorem dX6_needRange_7 : decode cX6_needRange 7 = .ok (.if_icmp .le 13, 3) := by decide +kernel
theorem dX6_needRange_10 : decode cX6_needRange 10 = .ok (.new 109, 3) := by decide +kernel
theorem dX6_needRange_13 : decode cX6_needRange 13 = .ok (.dup, 1) := by decide +kernel
theorem dX6_needRange_14 : decode cX6_needRange 14 = .ok (.ldc 190, 2) := by decide +kernel
theorem dX6_needRange_16 : decode cX6_needRange 16 = .ok (.invokespecial 113, 3) := by decide +kernel
theorem dX6_needRange_19 : decode cX6_needRange 19 = .ok (.athrow, 1) := by decide +kernel
theorem dX6_needRange_20 : decode cX6_needRange 20 = .ok (.return_, 1) := by decide +kernel
set_option maxRecDepth 20000 in
theorem ggX6_passOneSecond_X0_findSpeaker : GoodIn wsX6_passOneSecond wsX0_findSpeaker := goodIn_r _ [8, 9, 10, 11, 12, 13, 14, 15, 16, 7, 17, 18, 19, 20, 21, 22, 23, 24, 25, 26, 27, 28, 29, 30, 31, 150, 151, 152, 153, 154, 155, 156, 157, 158, 159] (by decide +kernel) (by decide +kernel)
set_option maxRecDepth 20000 in
theorem gX6_passOneSecond_X0_findSpeaker : GoodIn wsX6_passOneSecond (wsV RX6 192 RX0 yX0_findSpeaker wsX0_findSpeaker) := goodIn_app (goodIn_of _ (by decide +kernel)) ggX6_passOneSecond_X0_findSpeaker
set_option maxRecDepth 20000 in
theorem ggX6_passOneSecond_X6_setTargets : GoodIn wsX6_passOneSecond wsX6_setTargets := goodIn_r _ [36, 2, 37, 38, 39, 40, 41, 42, 3, 43, 44, 45, 46, 35, 47, 48, 49, 50, 51, 52, 53, 24, 54, 26, 55, 56, 57, 58, 59, 60, 61, 62, 63, 7, 64, 18, 65, 66, 67, 68, 27, 69, 70, 71, 72, 73, 74, 75, 76, 77, 78, 79, 80, 81, 82, 83, 84, 85, 86, 87, 88, 89, 90, 91, 92, 93, 94, 95, 96, 97, 98, 99, 100, 101, 102, 103, 104, 105, 106, 107, 143, 144, 145, 146, 147, 148, 149, 150, 151, 152, 153, 154, 155, 156, 157, 160, 161, 162, 163, 164, 165, 166, 167, 168, 169, 170, 171, 158, 159, 172, 173] (by decide +kernel) (by decide +kernel)
set_option maxRecDepth 20000 in
theorem gX6_passOneSecond_X6_setTargets : GoodIn wsX6_passOneSecond (wsV RX6 195 RX6 yX6_setTargets wsX6_setTargets) := goodIn_app (goodIn_of _ (by decide +kernel)) ggX6_passOneSecond_X6_setTargets
set_option maxRecDepth 20000 in
theorem ggX6_passOneSecond_X2_lowerToTargets : GoodIn wsX6_passOneSecond wsX2_lowerToTargets := goodIn_r _ [111, 112, 107, 172, 173] (by decide +kernel) (by decide +kernel)
set_option maxRecDepth 20000 in
theorem gX6_passOneSecond_X2_lowerToTargets : GoodIn wsX6_passOneSecond (wsV RX6 198 RX2 yX2_lowerToTargets wsX2_lowerToTargets) := goodIn_app (goodIn_of _ (by decide +kernel)) ggX6_passOneSecond_X2_lowerToTargets
set_option maxRecDepth 20000 in
theorem ggX6_passOneSecond_X6_askForKeys : GoodIn wsX6_passOneSecond wsX6_askForKeys := goodIn_r _ [116, 3, 40, 117, 118, 119, 120, 105, 121, 107, 112, 143, 144, 145, 146, 147, 148, 149, 165, 166, 167, 168, 169, 170, 171, 172, 173] (by decide +kernel) (by decide +kernel)
set_option maxRecDepth 20000 in
theorem gX6_passOneSecond_X6_askForKeys : GoodIn wsX6_passOneSecond (wsV RX6 201 RX6 yX6_askForKeys wsX6_askForKeys) := goodIn_app (goodIn_of _ (by decide +kernel)) ggX6_passOneSecond_X6_askForKeys
set_option maxRecDepth 20000 in
theorem ggX6_passOneSecond_X6_makeKeys : GoodIn wsX6_passOneSecond wsX6_makeKeys := goodIn_r _ [125, 40, 1, 3, 126, 127, 128, 129, 130, 131, 132, 133, 134, 135, 136, 137, 138, 139, 140, 141, 105, 142, 112, 107, 143, 144, 145, 146, 147, 148, 149, 165, 166, 167, 168, 169, 170, 171, 172, 173] (by decide +kernel) (by decide +kernel)
set_option maxRecDepth 20000 in
theorem gX6_passOneSecond_X6_makeKeys : GoodIn wsX6_passOneSecond (wsV RX6 204 RX6 yX6_makeKeys wsX6_makeKeys) := goodIn_app (goodIn_of _ (by decide +kernel)) ggX6_passOneSecond_X6_makeKeys
theorem dX6_passOneSecond_0 : decode cX6_passOneSecond 0 = .ok (.aload_n 0, 1) := by decide +kernel
theorem dX6_passOneSecond_1 : decode cX6_passOneSecond 1 = .ok (.dup, 1) := by decide +kernel
theorem dX6_passOneSecond_2 : decode cX6_passOneSecond 2 = .ok (.getfield 51, 3) := by decide +kernel
theorem dX6_passOneSecond_5 : decode cX6_passOneSecond 5 = .ok (.iconst 1, 1) := by decide +kernel
theorem dX6_passOneSecond_6 : decode cX6_passOneSecond 6 = .ok (.iadd, 1) := by decide +kernel
theorem dX6_passOneSecond_7 : decode cX6_passOneSecond 7 = .ok (.putfield 51, 3) := by decide +kernel
theorem dX6_passOneSecond_10 : decode cX6_passOneSecond 10 = .ok (.aload_n 0, 1) := by decide +kernel
theorem dX6_passOneSecond_11 : decode cX6_passOneSecond 11 = .ok (.getfield 10, 3) := by decide +kernel
theorem dX6_passOneSecond_14 : decode cX6_passOneSecond 14 = .ok (.invokevirtual 192, 3) := by decide +kernel
theorem dX6_passOneSecond_17 : decode cX6_passOneSecond 17 = .ok (.aload_n 0, 1) := by decide +kernel
theorem dX6_passOneSecond_18 : decode cX6_passOneSecond 18 = .ok (.invokevirtual 195, 3) := by decide +kernel
theorem dX6_passOneSecond_21 : decode cX6_passOneSecond 21 = .ok (.aload_n 0, 1) := by decide +kernel
theorem dX6_passOneSecond_22 : decode cX6_passOneSecond 22 = .ok (.getfield 47, 3) := by decide +kernel
theorem dX6_passOneSecond_25 : decode cX6_passOneSecond 25 = .ok (.invokevirtual 198, 3) := by decide +kernel
theorem dX6_passOneSecond_28 : decode cX6_passOneSecond 28 = .ok (.aload_n 0, 1) := by decide +kernel
theorem dX6_passOneSecond_29 : decode cX6_passOneSecond 29 = .ok (.invokevirtual 201, 3) := by decide +kernel
theorem dX6_passOneSecond_32 : decode cX6_passOneSecond 32 = .ok (.aload_n 0, 1) := by decide +kernel
theorem dX6_passOneSecond_33 : decode cX6_passOneSecond 33 = .ok (.invokevirtual 204, 3) := by decide +kernel
theorem dX6_passOneSecond_36 : decode cX6_passOneSecond 36 = .ok (.ireturn, 1) := by decide +kernel
set_option maxRecDepth 20000 in
theorem ggX6_setTargets_X6_fillView : GoodIn wsX6_setTargets wsX6_fillView := goodIn_r _ [14, 4, 6, 15, 1, 16, 5, 17, 18, 19, 20, 21, 22, 23, 24, 25, 26, 13, 27, 28, 29, 30, 31, 32, 33, 34, 35, 36, 37, 38, 39, 40, 41, 42, 43, 44, 45, 46, 47, 48, 49, 50, 80, 81, 82, 83, 84, 85, 86, 95, 96, 97, 87, 88, 89, 90, 91, 92, 93, 94, 100, 101, 102, 103, 104, 105, 106, 107, 108] (by decide +kernel) (by decide +kernel)
set_option maxRecDepth 20000 in
theorem gX6_setTargets_X6_fillView : GoodIn wsX6_setTargets (wsV RX6 135 RX6 yX6_fillView wsX6_fillView) := goodIn_app (goodIn_of _ (by decide +kernel)) ggX6_setTargets_X6_fillView
set_option maxRecDepth 20000 in
theorem ggX6_setTargets_X3_shareInRounds : GoodIn wsX6_setTargets wsX3_shareInRounds := goodIn_r _ [55, 56, 57, 58, 59, 60, 54, 61, 62, 63, 64, 65, 66, 67, 68, 69, 70, 71, 72, 73, 107, 108, 98, 99, 100, 101, 102, 103, 104, 105, 106] (by decide +kernel) (by decide +kernel)
set_option maxRecDepth 20000 in
theorem gX6_setTargets_X3_shareInRounds : GoodIn wsX6_setTargets (wsV RX6 149 RX3 yX3_shareInRounds wsX3_shareInRounds) := goodIn_app (goodIn_of _ (by decide +kernel)) ggX6_setTargets_X3_shareInRounds
set_option maxRecDepth 20000 in
theorem ggX6_setTargets_X2_setTargets : GoodIn wsX6_setTargets wsX2_setTargets := goodIn_r _ [78, 79, 109, 110] (by decide +kernel) (by decide +kernel)
set_option maxRecDepth 20000 in
theorem gX6_setTargets_X2_setTargets : GoodIn wsX6_setTargets (wsV RX6 210 RX2 yX2_setTargets wsX2_setTargets) := goodIn_app (goodIn_of _ (by decide +kernel)) ggX6_setTargets_X2_setTargets
theorem dX6_setTargets_0 : decode cX6_setTargets 0 = .ok (.iconst 0, 1) := by decide +kernel
theorem dX6_setTargets_1 : decode cX6_setTargets 1 = .ok (.istore_n 1, 1) := by decide +kernel
theorem dX6_setTargets_2 : decode cX6_setTargets 2 = .ok (.iload_n 1, 1) := by decide +kernel
theorem dX6_setTargets_3 : decode cX6_setTargets 3 = .ok (.bipush 6, 2) := by decide +kernel
theorem dX6_setTargets_5 : decode cX6_setTargets 5 = .ok (.if_icmp .ge 65, 3) := by decide +kernel
theorem dX6_setTargets_8 : decode cX6_setTargets 8 = .ok (.aload_n 0, 1) := by decide +kernel
theorem dX6_setTargets_9 : decode cX6_setTargets 9 = .ok (.getfield 10, 3) := by decide +kernel
theorem dX6_setTargets_12 : decode cX6_setTargets 12 = .ok (.getfield 207, 3) := by decide +kernel
theorem dX6_setTargets_15 : decode cX6_setTargets 15 = .ok (.iload_n 1, 1) := by decide +kernel
theorem dX6_setTargets_16 : decode cX6_setTargets 16 = .ok (.baload, 1) := by decide +kernel
theorem dX6_setTargets_17 : decode cX6_setTargets 17 = .ok (.ifCond .eq 47, 3) := by decide +kernel
theorem dX6_setTargets_20 : decode cX6_setTargets 20 = .ok (.aload_n 0, 1) := by decide +kernel
theorem dX6_setTargets_21 : decode cX6_setTargets 21 = .ok (.iload_n 1, 1) := by decide +kernel
theorem dX6_setTargets_22 : decode cX6_setTargets 22 = .ok (.invokevirtual 135, 3) := by decide +kernel
theorem dX6_setTargets_25 : decode cX6_setTargets 25 = .ok (.aload_n 0, 1) := by decide +kernel
theorem dX6_setTargets_26 : decode cX6_setTargets 26 = .ok (.getfield 40, 3) := by decide +kernel
theorem dX6_setTargets_29 : decode cX6_setTargets 29 = .ok (.aload_n 0, 1) := by decide +kernel
theorem dX6_setTargets_30 : decode cX6_setTargets 30 = .ok (.getfield 33, 3) := by decide +kernel
theorem dX6_setTargets_33 : decode cX6_setTargets 33 = .ok (.aload_n 0, 1) := by decide +kernel
theorem dX6_setTargets_34 : decode cX6_setTargets 34 = .ok (.getfield 19, 3) := by decide +kernel
theorem dX6_setTargets_37 : decode cX6_setTargets 37 = .ok (.aload_n 0, 1) := by decide +kernel
theorem dX6_setTargets_38 : decode cX6_setTargets 38 = .ok (.getfield 26, 3) := by decide +kernel
theorem dX6_setTargets_41 : decode cX6_setTargets 41 = .ok (.getfield 120, 3) := by decide +kernel
theorem dX6_setTargets_44 : decode cX6_setTargets 44 = .ok (.iload_n 1, 1) := by decide +kernel
theorem dX6_setTargets_45 : decode cX6_setTargets 45 = .ok (.iaload, 1) := by decide +kernel
theorem dX6_setTargets_46 : decode cX6_setTargets 46 = .ok (.invokevirtual 149, 3) := by decide +kernel
theorem dX6_setTargets_49 : decode cX6_setTargets 49 = .ok (.aload_n 0, 1) := by decide +kernel
theorem dX6_setTargets_50 : decode cX6_setTargets 50 = .ok (.getfield 47, 3) := by decide +kernel
theorem dX6_setTargets_53 : decode cX6_setTargets 53 = .ok (.iload_n 1, 1) := by decide +kernel
theorem dX6_setTargets_54 : decode cX6_setTargets 54 = .ok (.aload_n 0, 1) := by decide +kernel
theorem dX6_setTargets_55 : decode cX6_setTargets 55 = .ok (.getfield 40, 3) := by decide +kernel
theorem dX6_setTargets_58 : decode cX6_setTargets 58 = .ok (.getfield 153, 3) := by decide +kernel
theorem dX6_setTargets_61 : decode cX6_setTargets 61 = .ok (.invokevirtual 210, 3) := by decide +kernel
theorem dX6_setTargets_64 : decode cX6_setTargets 64 = .ok (.iinc 1 1, 3) := by decide +kernel
theorem dX6_setTargets_67 : decode cX6_setTargets 67 = .ok (.goto (-65), 3) := by decide +kernel
theorem dX6_setTargets_70 : decode cX6_setTargets 70 = .ok (.return_, 1) := by decide +kernel
set_option maxRecDepth 20000 in
theorem ggX6_askForKeys_X2_isWantedHigher : GoodIn wsX6_askForKeys wsX2_isWantedHigher := goodIn_r _ [8, 9, 10, 25, 26] (by decide +kernel) (by decide +kernel)
set_option maxRecDepth 20000 in
theorem gX6_askForKeys_X2_isWantedHigher : GoodIn wsX6_askForKeys (wsV RX6 213 RX2 yX2_isWantedHigher wsX2_isWantedHigher) := goodIn_app (goodIn_of _ (by decide +kernel)) ggX6_askForKeys_X2_isWantedHigher
theorem dX6_askForKeys_0 : decode cX6_askForKeys 0 = .ok (.iconst 0, 1) := by decide +kernel
theorem dX6_askForKeys_1 : decode cX6_askForKeys 1 = .ok (.istore_n 1, 1) := by decide +kernel
theorem dX6_askForKeys_2 : decode cX6_askForKeys 2 = .ok (.iload_n 1, 1) := by decide +kernel
theorem dX6_askForKeys_3 : decode cX6_askForKeys 3 = .ok (.bipush 6, 2) := by decide +kernel
theorem dX6_askForKeys_5 : decode cX6_askForKeys 5 = .ok (.if_icmp .ge 30, 3) := by decide +kernel
theorem dX6_askForKeys_8 : decode cX6_askForKeys 8 = .ok (.aload_n 0, 1) := by decide +kernel
theorem dX6_askForKeys_9 : decode cX6_askForKeys 9 = .ok (.getfield 47, 3) := by decide +kernel
theorem dX6_askForKeys_12 : decode cX6_askForKeys 12 = .ok (.iload_n 1, 1) := by decide +kernel
theorem dX6_askForKeys_13 : decode cX6_askForKeys 13 = .ok (.invokevirtual 213, 3) := by decide +kernel
theorem dX6_askForKeys_16 : decode cX6_askForKeys 16 = .ok (.ifCond .eq 13, 3) := by decide +kernel
theorem dX6_askForKeys_19 : decode cX6_askForKeys 19 = .ok (.aload_n 0, 1) := by decide +kernel
theorem dX6_askForKeys_20 : decode cX6_askForKeys 20 = .ok (.getfield 19, 3) := by decide +kernel
theorem dX6_askForKeys_23 : decode cX6_askForKeys 23 = .ok (.getfield 170, 3) := by decide +kernel
theorem dX6_askForKeys_26 : decode cX6_askForKeys 26 = .ok (.iload_n 1, 1) := by decide +kernel
theorem dX6_askForKeys_27 : decode cX6_askForKeys 27 = .ok (.iconst 1, 1) := by decide +kernel
theorem dX6_askForKeys_28 : decode cX6_askForKeys 28 = .ok (.bastore, 1) := by decide +kernel
theorem dX6_askForKeys_29 : decode cX6_askForKeys 29 = .ok (.iinc 1 1, 3) := by decide +kernel
theorem dX6_askForKeys_32 : decode cX6_askForKeys 32 = .ok (.goto (-30), 3) := by decide +kernel
theorem dX6_askForKeys_35 : decode cX6_askForKeys 35 = .ok (.return_, 1) := by decide +kernel
set_option maxRecDepth 20000 in
theorem ggX6_makeKeys_X4_canMakeKey : GoodIn wsX6_makeKeys wsX4_canMakeKey := goodIn_r _ [8, 9, 10, 11, 12, 31, 32, 33, 34, 35, 36, 37] (by decide +kernel) (by decide +kernel)
set_option maxRecDepth 20000 in
theorem gX6_makeKeys_X4_canMakeKey : GoodIn wsX6_makeKeys (wsV RX6 216 RX4 yX4_canMakeKey wsX4_canMakeKey) := goodIn_app (goodIn_of _ (by decide +kernel)) ggX6_makeKeys_X4_canMakeKey
set_option maxRecDepth 20000 in
theorem ggX6_makeKeys_X4_makeKey : GoodIn wsX6_makeKeys wsX4_makeKey := goodIn_r _ [16, 9, 10, 11, 31, 32, 33, 34, 35, 36, 37] (by decide +kernel) (by decide +kernel)
set_option maxRecDepth 20000 in
theorem gX6_makeKeys_X4_makeKey : GoodIn wsX6_makeKeys (wsV RX6 220 RX4 yX4_makeKey wsX4_makeKey) := goodIn_app (goodIn_of _ (by decide +kernel)) ggX6_makeKeys_X4_makeKey
set_option maxRecDepth 20000 in
theorem ggX6_makeKeys_X2_switchToTargets : GoodIn wsX6_makeKeys wsX2_switchToTargets := goodIn_r _ [21, 22, 23, 38, 39] (by decide +kernel) (by decide +kernel)
set_option maxRecDepth 20000 in
theorem gX6_makeKeys_X2_switchToTargets : GoodIn wsX6_makeKeys (wsV RX6 224 RX2 yX2_switchToTargets wsX2_switchToTargets) := goodIn_app (goodIn_of _ (by decide +kernel)) ggX6_makeKeys_X2_switchToTargets
theorem dX6_makeKeys_0 : decode cX6_makeKeys 0 = .ok (.iconst 0, 1) := by decide +kernel
theorem dX6_makeKeys_1 : decode cX6_makeKeys 1 = .ok (.istore_n 1, 1) := by decide +kernel
theorem dX6_makeKeys_2 : decode cX6_makeKeys 2 = .ok (.iconst 0, 1) := by decide +kernel
theorem dX6_makeKeys_3 : decode cX6_makeKeys 3 = .ok (.istore_n 2, 1) := by decide +kernel
theorem dX6_makeKeys_4 : decode cX6_makeKeys 4 = .ok (.iload_n 2, 1) := by decide +kernel
theorem dX6_makeKeys_5 : decode cX6_makeKeys 5 = .ok (.bipush 6, 2) := by decide +kernel
theorem dX6_makeKeys_7 : decode cX6_makeKeys 7 = .ok (.if_icmp .ge 47, 3) := by decide +kernel
theorem dX6_makeKeys_10 : decode cX6_makeKeys 10 = .ok (.aload_n 0, 1) := by decide +kernel
theorem dX6_makeKeys_11 : decode cX6_makeKeys 11 = .ok (.getfield 19, 3) := by decide +kernel
theorem dX6_makeKeys_14 : decode cX6_makeKeys 14 = .ok (.iload_n 2, 1) := by decide +kernel
theorem dX6_makeKeys_15 : decode cX6_makeKeys 15 = .ok (.aload_n 0, 1) := by decide +kernel
theorem dX6_makeKeys_16 : decode cX6_makeKeys 16 = .ok (.getfield 51, 3) := by decide +kernel
theorem dX6_makeKeys_19 : decode cX6_makeKeys 19 = .ok (.invokevirtual 216, 3) := by decide +kernel
theorem dX6_makeKeys_22 : decode cX6_makeKeys 22 = .ok (.ifCond .eq 26, 3) := by decide +kernel
theorem dX6_makeKeys_25 : decode cX6_makeKeys 25 = .ok (.aload_n 0, 1) := by decide +kernel
theorem dX6_makeKeys_26 : decode cX6_makeKeys 26 = .ok (.getfield 19, 3) := by decide +kernel
theorem dX6_makeKeys_29 : decode cX6_makeKeys 29 = .ok (.iload_n 2, 1) := by decide +kernel
theorem dX6_makeKeys_30 : decode cX6_makeKeys 30 = .ok (.aload_n 0, 1) := by decide +kernel
theorem dX6_makeKeys_31 : decode cX6_makeKeys 31 = .ok (.getfield 51, 3) := by decide +kernel
theorem dX6_makeKeys_34 : decode cX6_makeKeys 34 = .ok (.invokevirtual 220, 3) := by decide +kernel
theorem dX6_makeKeys_37 : decode cX6_makeKeys 37 = .ok (.aload_n 0, 1) := by decide +kernel
theorem dX6_makeKeys_38 : decode cX6_makeKeys 38 = .ok (.getfield 47, 3) := by decide +kernel
theorem dX6_makeKeys_41 : decode cX6_makeKeys 41 = .ok (.iload_n 2, 1) := by decide +kernel
theorem dX6_makeKeys_42 : decode cX6_makeKeys 42 = .ok (.invokevirtual 224, 3) := by decide +kernel
theorem dX6_makeKeys_45 : decode cX6_makeKeys 45 = .ok (.iinc 1 1, 3) := by decide +kernel
theorem dX6_makeKeys_48 : decode cX6_makeKeys 48 = .ok (.iinc 2 1, 3) := by decide +kernel
theorem dX6_makeKeys_51 : decode cX6_makeKeys 51 = .ok (.goto (-47), 3) := by decide +kernel
theorem dX6_makeKeys_54 : decode cX6_makeKeys 54 = .ok (.iload_n 1, 1) := by decide +kernel
theorem dX6_makeKeys_55 : decode cX6_makeKeys 55 = .ok (.ireturn, 1) := by decide +kernel
set_option maxRecDepth 20000 in
theorem ggX6_fillView_X1_clear : GoodIn wsX6_fillView wsX1_clear := goodIn_r _ [12, 13, 67, 68] (by decide +kernel) (by decide +kernel)
set_option maxRecDepth 20000 in
theorem gX6_fillView_X1_clear : GoodIn wsX6_fillView (wsV RX6 227 RX1 yX1_clear wsX1_clear) := goodIn_app (goodIn_of _ (by decide +kernel)) ggX6_fillView_X1_clear
set_option maxRecDepth 20000 in
theorem ggX6_fillView_X6_showStream : GoodIn wsX6_fillView wsX6_showStream := goodIn_r _ [18, 4, 6, 7, 1, 19, 2, 20, 21, 22, 23, 24, 25, 26, 27, 28, 29, 11, 30, 13, 31, 32, 33, 34, 35, 36, 42, 43, 44, 45, 46, 47, 48, 60, 61, 62, 63, 64, 65, 66, 67, 68, 49, 50, 51, 52, 53, 54, 55, 56, 57, 58, 59] (by decide +kernel) (by decide +kernel)
set_option maxRecDepth 20000 in
theorem gX6_fillView_X6_showStream : GoodIn wsX6_fillView (wsV RX6 230 RX6 yX6_showStream wsX6_showStream) := goodIn_app (goodIn_of _ (by decide +kernel)) ggX6_fillView_X6_showStream
set_option maxRecDepth 20000 in
theorem ggX6_fillView_X6_showStreams : GoodIn wsX6_fillView wsX6_showStreams := goodIn_r _ [40, 19, 41, 14, 15, 16, 17, 18, 4, 6, 7, 1, 2, 20, 21, 22, 23, 24, 25, 26, 27, 28, 29, 11, 30, 13, 31, 32, 33, 34, 35, 36, 67, 68, 42, 43, 44, 45, 46, 47, 48, 60, 61, 62, 63, 64, 65, 66, 49, 50, 51, 52, 53, 54, 55, 56, 57, 58, 59] (by decide +kernel) (by decide +kernel)
set_option maxRecDepth 20000 in
theorem gX6_fillView_X6_showStreams : GoodIn wsX6_fillView (wsV RX6 236 RX6 yX6_showStreams wsX6_showStreams) := goodIn_app (goodIn_of _ (by decide +kernel)) ggX6_fillView_X6_showStreams
theorem dX6_fillView_0 : decode cX6_fillView 0 = .ok (.aload_n 0, 1) := by decide +kernel
theorem dX6_fillView_1 : decode cX6_fillView 1 = .ok (.getfield 33, 3) := by decide +kernel
theorem dX6_fillView_4 : decode cX6_fillView 4 = .ok (.invokevirtual 227, 3) := by decide +kernel
theorem dX6_fillView_7 : decode cX6_fillView 7 = .ok (.aload_n 0, 1) := by decide +kernel
theorem dX6_fillView_8 : decode cX6_fillView 8 = .ok (.iload_n 1, 1) := by decide +kernel
theorem dX6_fillView_9 : decode cX6_fillView 9 = .ok (.aload_n 0, 1) := by decide +kernel
theorem dX6_fillView_10 : decode cX6_fillView 10 = .ok (.getfield 26, 3) := by decide +kernel
theorem dX6_fillView_13 : decode cX6_fillView 13 = .ok (.getfield 114, 3) := by decide +kernel
theorem dX6_fillView_16 : decode cX6_fillView 16 = .ok (.iload_n 1, 1) := by decide +kernel
theorem dX6_fillView_17 : decode cX6_fillView 17 = .ok (.iaload, 1) := by decide +kernel
theorem dX6_fillView_18 : decode cX6_fillView 18 = .ok (.invokevirtual 230, 3) := by decide +kernel
theorem dX6_fillView_21 : decode cX6_fillView 21 = .ok (.aload_n 0, 1) := by decide +kernel
theorem dX6_fillView_22 : decode cX6_fillView 22 = .ok (.iload_n 1, 1) := by decide +kernel
theorem dX6_fillView_23 : decode cX6_fillView 23 = .ok (.aload_n 0, 1) := by decide +kernel
theorem dX6_fillView_24 : decode cX6_fillView 24 = .ok (.getfield 10, 3) := by decide +kernel
theorem dX6_fillView_27 : decode cX6_fillView 27 = .ok (.getfield 233, 3) := by decide +kernel
theorem dX6_fillView_30 : decode cX6_fillView 30 = .ok (.invokevirtual 236, 3) := by decide +kernel
theorem dX6_fillView_33 : decode cX6_fillView 33 = .ok (.aload_n 0, 1) := by decide +kernel
theorem dX6_fillView_34 : decode cX6_fillView 34 = .ok (.iload_n 1, 1) := by decide +kernel
theorem dX6_fillView_35 : decode cX6_fillView 35 = .ok (.aload_n 0, 1) := by decide +kernel
theorem dX6_fillView_36 : decode cX6_fillView 36 = .ok (.getfield 19, 3) := by decide +kernel
theorem dX6_fillView_39 : decode cX6_fillView 39 = .ok (.getfield 182, 3) := by decide +kernel
theorem dX6_fillView_42 : decode cX6_fillView 42 = .ok (.invokevirtual 236, 3) := by decide +kernel
theorem dX6_fillView_45 : decode cX6_fillView 45 = .ok (.return_, 1) := by decide +kernel
set_option maxRecDepth 20000 in
theorem ggX6_showStreams_X6_showStream : GoodIn wsX6_showStreams wsX6_showStream := goodIn_r _ [7, 8, 9, 10, 11, 1, 12, 13, 14, 15, 16, 17, 18, 19, 20, 21, 22, 23, 24, 25, 26, 27, 28, 29, 30, 31, 34, 35, 36, 37, 38, 39, 40, 41, 42, 43, 44, 45, 46, 47, 32, 33, 48, 49, 50, 51, 52, 53, 54, 55, 56, 57, 58] (by decide +kernel) (by decide +kernel)
set_option maxRecDepth 20000 in
theorem gX6_showStreams_X6_showStream : GoodIn wsX6_showStreams (wsV RX6 230 RX6 yX6_showStream wsX6_showStream) := goodIn_app (goodIn_of _ (by decide +kernel)) ggX6_showStreams_X6_showStream
theorem dX6_showStreams_0 : decode cX6_showStreams 0 = .ok (.iconst 0, 1) := by decide +kernel
theorem dX6_showStreams_1 : decode cX6_showStreams 1 = .ok (.istore_n 3, 1) := by decide +kernel
theorem dX6_showStreams_2 : decode cX6_showStreams 2 = .ok (.iload_n 3, 1) := by decide +kernel
theorem dX6_showStreams_3 : decode cX6_showStreams 3 = .ok (.aload_n 2, 1) := by decide +kernel
theorem dX6_showStreams_4 : decode cX6_showStreams 4 = .ok (.getfield 138, 3) := by decide +kernel
theorem dX6_showStreams_7 : decode cX6_showStreams 7 = .ok (.if_icmp .ge 20, 3) := by decide +kernel
theorem dX6_showStreams_10 : decode cX6_showStreams 10 = .ok (.aload_n 0, 1) := by decide +kernel
theorem dX6_showStreams_11 : decode cX6_showStreams 11 = .ok (.iload_n 1, 1) := by decide +kernel
theorem dX6_showStreams_12 : decode cX6_showStreams 12 = .ok (.aload_n 2, 1) := by decide +kernel
theorem dX6_showStreams_13 : decode cX6_showStreams 13 = .ok (.getfield 146, 3) := by decide +kernel
theorem dX6_showStreams_16 : decode cX6_showStreams 16 = .ok (.iload_n 3, 1) := by decide +kernel
theorem dX6_showStreams_17 : decode cX6_showStreams 17 = .ok (.iaload, 1) := by decide +kernel
theorem dX6_showStreams_18 : decode cX6_showStreams 18 = .ok (.invokevirtual 230, 3) := by decide +kernel
theorem dX6_showStreams_21 : decode cX6_showStreams 21 = .ok (.iinc 3 1, 3) := by decide +kernel
theorem dX6_showStreams_24 : decode cX6_showStreams 24 = .ok (.goto (-22), 3) := by decide +kernel
theorem dX6_showStreams_27 : decode cX6_showStreams 27 = .ok (.return_, 1) := by decide +kernel
set_option maxRecDepth 20000 in
theorem ggX6_showStream_X0_isHere : GoodIn wsX6_showStream wsX0_isHere := goodIn_r _ [12, 13, 45, 46, 47, 48, 49, 50, 51, 52] (by decide +kernel) (by decide +kernel)
set_option maxRecDepth 20000 in
theorem gX6_showStream_X0_isHere : GoodIn wsX6_showStream (wsV RX6 173 RX0 yX0_isHere wsX0_isHere) := goodIn_app (goodIn_of _ (by decide +kernel)) ggX6_showStream_X0_isHere
set_option maxRecDepth 20000 in
theorem ggX6_showStream_X1_holds : GoodIn wsX6_showStream wsX1_holds := goodIn_r _ [18, 19, 20, 40, 41] (by decide +kernel) (by decide +kernel)
set_option maxRecDepth 20000 in
theorem gX6_showStream_X1_holds : GoodIn wsX6_showStream (wsV RX6 185 RX1 yX1_holds wsX1_holds) := goodIn_app (goodIn_of _ (by decide +kernel)) ggX6_showStream_X1_holds
set_option maxRecDepth 20000 in
theorem ggX6_showStream_X1_putLast : GoodIn wsX6_showStream wsX1_putLast := goodIn_r _ [24, 19, 20, 25, 15, 16, 17, 18, 40, 41] (by decide +kernel) (by decide +kernel)
set_option maxRecDepth 20000 in
theorem gX6_showStream_X1_putLast : GoodIn wsX6_showStream (wsV RX6 240 RX1 yX1_putLast wsX1_putLast) := goodIn_app (goodIn_of _ (by decide +kernel)) ggX6_showStream_X1_putLast
theorem dX6_showStream_0 : decode cX6_showStream 0 = .ok (.aload_n 0, 1) := by decide +kernel
theorem dX6_showStream_1 : decode cX6_showStream 1 = .ok (.getfield 10, 3) := by decide +kernel
theorem dX6_showStream_4 : decode cX6_showStream 4 = .ok (.iload_n 2, 1) := by decide +kernel
theorem dX6_showStream_5 : decode cX6_showStream 5 = .ok (.invokevirtual 173, 3) := by decide +kernel
theorem dX6_showStream_8 : decode cX6_showStream 8 = .ok (.ifCond .eq 22, 3) := by decide +kernel
theorem dX6_showStream_11 : decode cX6_showStream 11 = .ok (.iload_n 2, 1) := by decide +kernel
theorem dX6_showStream_12 : decode cX6_showStream 12 = .ok (.iload_n 1, 1) := by decide +kernel
theorem dX6_showStream_13 : decode cX6_showStream 13 = .ok (.if_icmp .eq 17, 3) := by decide +kernel
theorem dX6_showStream_16 : decode cX6_showStream 16 = .ok (.aload_n 0, 1) := by decide +kernel
theorem dX6_showStream_17 : decode cX6_showStream 17 = .ok (.getfield 19, 3) := by decide +kernel
theorem dX6_showStream_20 : decode cX6_showStream 20 = .ok (.getfield 182, 3) := by decide +kernel
theorem dX6_showStream_23 : decode cX6_showStream 23 = .ok (.iload_n 2, 1) := by decide +kernel
theorem dX6_showStream_24 : decode cX6_showStream 24 = .ok (.invokevirtual 185, 3) := by decide +kernel
theorem dX6_showStream_27 : decode cX6_showStream 27 = .ok (.ifCond .ne 4, 3) := by decide +kernel
theorem dX6_showStream_30 : decode cX6_showStream 30 = .ok (.return_, 1) := by decide +kernel
theorem dX6_showStream_31 : decode cX6_showStream 31 = .ok (.aload_n 0, 1) := by decide +kernel
theorem dX6_showStream_32 : decode cX6_showStream 32 = .ok (.getfield 33, 3) := by decide +kernel
theorem dX6_showStream_35 : decode cX6_showStream 35 = .ok (.getfield 138, 3) := by decide +kernel
theorem dX6_showStream_38 : decode cX6_showStream 38 = .ok (.aload_n 0, 1) := by decide +kernel
theorem dX6_showStream_39 : decode cX6_showStream 39 = .ok (.getfield 26, 3) := by decide +kernel
theorem dX6_showStream_42 : decode cX6_showStream 42 = .ok (.getfield 117, 3) := by decide +kernel
theorem dX6_showStream_45 : decode cX6_showStream 45 = .ok (.iload_n 1, 1) := by decide +kernel
theorem dX6_showStream_46 : decode cX6_showStream 46 = .ok (.iaload, 1) := by decide +kernel
theorem dX6_showStream_47 : decode cX6_showStream 47 = .ok (.if_icmp .ge 11, 3) := by decide +kernel
theorem dX6_showStream_50 : decode cX6_showStream 50 = .ok (.aload_n 0, 1) := by decide +kernel
theorem dX6_showStream_51 : decode cX6_showStream 51 = .ok (.getfield 33, 3) := by decide +kernel
theorem dX6_showStream_54 : decode cX6_showStream 54 = .ok (.iload_n 2, 1) := by decide +kernel
theorem dX6_showStream_55 : decode cX6_showStream 55 = .ok (.invokevirtual 240, 3) := by decide +kernel
theorem dX6_showStream_58 : decode cX6_showStream 58 = .ok (.return_, 1) := by decide +kernel
set_option maxRecDepth 20000 in
theorem ggX6_stopStream_X4_stop : GoodIn wsX6_stopStream wsX4_stop := goodIn_r _ [7, 8, 9, 10, 11, 12, 13, 14, 15, 16, 17, 31, 32, 33, 34, 35, 36, 37, 38, 39] (by decide +kernel) (by decide +kernel)
set_option maxRecDepth 20000 in
theorem gX6_stopStream_X4_stop : GoodIn wsX6_stopStream (wsV RX6 243 RX4 yX4_stop wsX4_stop) := goodIn_app (goodIn_of _ (by decide +kernel)) ggX6_stopStream_X4_stop
set_option maxRecDepth 20000 in
theorem ggX6_stopStream_X2_clearStream : GoodIn wsX6_stopStream wsX2_clearStream := goodIn_r _ [22, 23, 40, 41] (by decide +kernel) (by decide +kernel)
set_option maxRecDepth 20000 in
theorem gX6_stopStream_X2_clearStream : GoodIn wsX6_stopStream (wsV RX6 246 RX2 yX2_clearStream wsX2_clearStream) := goodIn_app (goodIn_of _ (by decide +kernel)) ggX6_stopStream_X2_clearStream
theorem dX6_stopStream_0 : decode cX6_stopStream 0 = .ok (.aload_n 0, 1) := by decide +kernel
theorem dX6_stopStream_1 : decode cX6_stopStream 1 = .ok (.getfield 19, 3) := by decide +kernel
theorem dX6_stopStream_4 : decode cX6_stopStream 4 = .ok (.iload_n 1, 1) := by decide +kernel
theorem dX6_stopStream_5 : decode cX6_stopStream 5 = .ok (.invokevirtual 243, 3) := by decide +kernel
theorem dX6_stopStream_8 : decode cX6_stopStream 8 = .ok (.aload_n 0, 1) := by decide +kernel
theorem dX6_stopStream_9 : decode cX6_stopStream 9 = .ok (.getfield 47, 3) := by decide +kernel
theorem dX6_stopStream_12 : decode cX6_stopStream 12 = .ok (.iload_n 1, 1) := by decide +kernel
theorem dX6_stopStream_13 : decode cX6_stopStream 13 = .ok (.invokevirtual 246, 3) := by decide +kernel
theorem dX6_stopStream_16 : decode cX6_stopStream 16 = .ok (.return_, 1) := by decide +kernel
theorem dL_cell_0 : decode cL_cell 0 = .ok (.iload_n 1, 1) := by decide +kernel
theorem dL_cell_1 : decode cL_cell 1 = .ok (.aload_n 0, 1) := by decide +kernel
theorem dL_cell_2 : decode cL_cell 2 = .ok (.arraylength, 1) := by decide +kernel
theorem dL_cell_3 : decode cL_cell 3 = .ok (.if_icmp .ge 9, 3) := by decide +kernel
theorem dL_cell_6 : decode cL_cell 6 = .ok (.aload_n 0, 1) := by decide +kernel
theorem dL_cell_7 : decode cL_cell 7 = .ok (.iload_n 1, 1) := by decide +kernel
theorem dL_cell_8 : decode cL_cell 8 = .ok (.iaload, 1) := by decide +kernel
theorem dL_cell_9 : decode cL_cell 9 = .ok (.goto 15, 3) := by decide +kernel
theorem dL_cell_12 : decode cL_cell 12 = .ok (.sipush 7919, 3) := by decide +kernel
theorem dL_cell_15 : decode cL_cell 15 = .ok (.iload_n 1, 1) := by decide +kernel
theorem dL_cell_16 : decode cL_cell 16 = .ok (.iconst 3, 1) := by decide +kernel
theorem dL_cell_17 : decode cL_cell 17 = .ok (.iadd, 1) := by decide +kernel
theorem dL_cell_18 : decode cL_cell 18 = .ok (.imul, 1) := by decide +kernel
theorem dL_cell_19 : decode cL_cell 19 = .ok (.iload_n 1, 1) := by decide +kernel
theorem dL_cell_20 : decode cL_cell 20 = .ok (.bipush 11, 2) := by decide +kernel
theorem dL_cell_22 : decode cL_cell 22 = .ok (.iadd, 1) := by decide +kernel
theorem dL_cell_23 : decode cL_cell 23 = .ok (.imul, 1) := by decide +kernel
theorem dL_cell_24 : decode cL_cell 24 = .ok (.ireturn, 1) := by decide +kernel
theorem dL_low_0 : decode cL_low 0 = .ok (.iload_n 0, 1) := by decide +kernel
theorem dL_low_1 : decode cL_low 1 = .ok (.ldc 7, 2) := by decide +kernel
theorem dL_low_3 : decode cL_low 3 = .ok (.iand, 1) := by decide +kernel
theorem dL_low_4 : decode cL_low 4 = .ok (.iload_n 1, 1) := by decide +kernel
theorem dL_low_5 : decode cL_low 5 = .ok (.irem, 1) := by decide +kernel
theorem dL_low_6 : decode cL_low 6 = .ok (.ireturn, 1) := by decide +kernel
