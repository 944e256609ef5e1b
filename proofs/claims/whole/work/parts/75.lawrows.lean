-- rows of the law's helpers
theorem ggL_join_X6_join : GoodIn wsL_join wsX6_join := goodIn_ca (goodIn_r _ [6, 7, 8, 9, 10, 11, 12, 13, 14, 15, 16, 17, 18, 19, 20, 21, 22, 23, 24, 25, 26, 27, 28, 29, 30, 31, 32, 33, 34, 35, 36, 37, 38, 39, 40, 41, 42, 43, 44, 45, 46, 47, 48] (by decide +kernel) (by decide +kernel)) (goodIn_sub (fun _ h => List.mem_cons_of_mem _ (List.mem_append_right _ h)) (by decide +kernel))
theorem gL_join_X6_join : GoodIn wsL_join (wsV RL 7 RX6 yX6_join wsX6_join) := goodIn_app (goodIn_of _ (by decide +kernel)) ggL_join_X6_join
theorem dL_join_0 : decode cL_join 0 = .ok (.aload_n 1, 1) := by decide +kernel
theorem dL_join_1 : decode cL_join 1 = .ok (.iconst 0, 1) := by decide +kernel
theorem dL_join_2 : decode cL_join 2 = .ok (.aload_n 0, 1) := by decide +kernel
theorem dL_join_3 : decode cL_join 3 = .ok (.invokevirtual 7, 3) := by decide +kernel
theorem dL_join_6 : decode cL_join 6 = .ok (.i2l, 1) := by decide +kernel
theorem dL_join_7 : decode cL_join 7 = .ok (.lastore, 1) := by decide +kernel
theorem dL_join_8 : decode cL_join 8 = .ok (.goto 6, 3) := by decide +kernel
theorem dL_join_11 : decode cL_join 11 = .ok (.astore_n 2, 1) := by decide +kernel
theorem dL_join_12 : decode cL_join 12 = .ok (.iconst 1, 1) := by decide +kernel
theorem dL_join_13 : decode cL_join 13 = .ok (.ireturn, 1) := by decide +kernel
theorem dL_join_14 : decode cL_join 14 = .ok (.iconst 0, 1) := by decide +kernel
theorem dL_join_15 : decode cL_join 15 = .ok (.ireturn, 1) := by decide +kernel
theorem ggL_leave_X6_leave : GoodIn wsL_leave wsX6_leave := goodIn_ca (goodIn_r _ [6, 7, 8, 9, 10, 11, 12, 5, 13, 14, 15, 16, 17, 18, 19, 20, 21, 22, 23, 24, 25, 26, 27, 28, 29, 30, 31, 32, 33, 34, 35, 36, 37, 38, 39, 40, 41, 42, 43, 44, 45, 46, 47, 48, 49, 50, 51, 52, 53, 54, 55, 56, 57, 58, 59, 60, 61, 62, 63, 64, 65, 66, 67, 68, 69, 70, 71, 72, 73, 74, 75, 76, 77, 78, 79, 80, 81, 82, 83, 84, 85, 86, 87, 88, 89, 90, 91, 92, 93, 94, 95] (by decide +kernel) (by decide +kernel)) (goodIn_sub (fun _ h => List.mem_cons_of_mem _ (List.mem_append_right _ h)) (by decide +kernel))
theorem gL_leave_X6_leave : GoodIn wsL_leave (wsV RL 15 RX6 yX6_leave wsX6_leave) := goodIn_app (goodIn_of _ (by decide +kernel)) ggL_leave_X6_leave
theorem dL_leave_0 : decode cL_leave 0 = .ok (.aload_n 0, 1) := by decide +kernel
theorem dL_leave_1 : decode cL_leave 1 = .ok (.iload_n 1, 1) := by decide +kernel
theorem dL_leave_2 : decode cL_leave 2 = .ok (.invokevirtual 15, 3) := by decide +kernel
theorem dL_leave_5 : decode cL_leave 5 = .ok (.goto 6, 3) := by decide +kernel
theorem dL_leave_8 : decode cL_leave 8 = .ok (.astore_n 2, 1) := by decide +kernel
theorem dL_leave_9 : decode cL_leave 9 = .ok (.iconst 1, 1) := by decide +kernel
theorem dL_leave_10 : decode cL_leave 10 = .ok (.ireturn, 1) := by decide +kernel
theorem dL_leave_11 : decode cL_leave 11 = .ok (.iconst 0, 1) := by decide +kernel
theorem dL_leave_12 : decode cL_leave 12 = .ok (.ireturn, 1) := by decide +kernel
theorem ggL_publish_X6_publish : GoodIn wsL_publish wsX6_publish := goodIn_ca (goodIn_ca (goodIn_r _ [7, 8, 9, 10, 11, 6, 12, 13, 14, 15, 16, 17, 18, 19, 20, 21, 22, 23, 24, 25, 26, 27, 28, 29, 30, 31, 32, 33, 34, 35, 36, 37, 38, 39, 40, 41, 42, 43, 44, 45, 46, 47, 48, 49, 50, 51, 52, 53, 54, 55, 56, 57, 58, 59, 60, 61, 62, 63, 64, 65, 66, 67, 68, 69, 70, 71, 72, 73, 74, 75, 76, 77, 78, 79, 80, 81, 82, 83, 84, 85, 86, 87, 88, 89, 90, 91, 92] (by decide +kernel) (by decide +kernel)) (goodIn_sub (fun _ h => List.mem_cons_of_mem _ (List.mem_append_left _ (List.mem_append_right _ h))) (by decide +kernel))) (goodIn_sub (fun _ h => List.mem_cons_of_mem _ (List.mem_append_right _ h)) (by decide +kernel))
theorem gL_publish_X6_publish : GoodIn wsL_publish (wsV RL 21 RX6 yX6_publish wsX6_publish) := goodIn_app (goodIn_of _ (by decide +kernel)) ggL_publish_X6_publish
theorem dL_publish_0 : decode cL_publish 0 = .ok (.aload_n 0, 1) := by decide +kernel
theorem dL_publish_1 : decode cL_publish 1 = .ok (.iload_n 1, 1) := by decide +kernel
theorem dL_publish_2 : decode cL_publish 2 = .ok (.iload_n 2, 1) := by decide +kernel
theorem dL_publish_3 : decode cL_publish 3 = .ok (.iload_n 3, 1) := by decide +kernel
theorem dL_publish_4 : decode cL_publish 4 = .ok (.invokevirtual 21, 3) := by decide +kernel
theorem dL_publish_7 : decode cL_publish 7 = .ok (.goto 11, 3) := by decide +kernel
theorem dL_publish_10 : decode cL_publish 10 = .ok (.astore 4, 2) := by decide +kernel
theorem dL_publish_12 : decode cL_publish 12 = .ok (.iconst 1, 1) := by decide +kernel
theorem dL_publish_13 : decode cL_publish 13 = .ok (.ireturn, 1) := by decide +kernel
theorem dL_publish_14 : decode cL_publish 14 = .ok (.astore 4, 2) := by decide +kernel
theorem dL_publish_16 : decode cL_publish 16 = .ok (.iconst 2, 1) := by decide +kernel
theorem dL_publish_17 : decode cL_publish 17 = .ok (.ireturn, 1) := by decide +kernel
theorem dL_publish_18 : decode cL_publish 18 = .ok (.iconst 0, 1) := by decide +kernel
theorem dL_publish_19 : decode cL_publish 19 = .ok (.ireturn, 1) := by decide +kernel
theorem ggL_end_X6_end : GoodIn wsL_end wsX6_end := goodIn_ca (goodIn_ca (goodIn_r _ [7, 8, 9, 10, 6, 11, 12, 13, 14, 15, 16, 17, 18, 19, 20, 21, 22, 23, 24, 25, 26, 27, 28, 29, 30, 31, 32, 33, 34, 35, 36, 37, 38, 39, 40, 41, 42, 43, 44, 45, 46, 47, 48, 49, 50, 51, 52, 53, 54, 55, 56, 57, 58, 59, 60, 61, 62, 63, 64, 65, 66, 67, 68, 69, 70, 71, 72, 73, 74, 75, 76, 77, 78, 79, 80, 81, 82, 83, 84] (by decide +kernel) (by decide +kernel)) (goodIn_sub (fun _ h => List.mem_cons_of_mem _ (List.mem_append_left _ (List.mem_append_right _ h))) (by decide +kernel))) (goodIn_sub (fun _ h => List.mem_cons_of_mem _ (List.mem_append_right _ h)) (by decide +kernel))
theorem gL_end_X6_end : GoodIn wsL_end (wsV RL 27 RX6 yX6_end wsX6_end) := goodIn_app (goodIn_of _ (by decide +kernel)) ggL_end_X6_end
theorem dL_end_0 : decode cL_end 0 = .ok (.aload_n 0, 1) := by decide +kernel
theorem dL_end_1 : decode cL_end 1 = .ok (.iload_n 1, 1) := by decide +kernel
theorem dL_end_2 : decode cL_end 2 = .ok (.invokevirtual 27, 3) := by decide +kernel
theorem dL_end_5 : decode cL_end 5 = .ok (.goto 9, 3) := by decide +kernel
theorem dL_end_8 : decode cL_end 8 = .ok (.astore_n 2, 1) := by decide +kernel
theorem dL_end_9 : decode cL_end 9 = .ok (.iconst 1, 1) := by decide +kernel
theorem dL_end_10 : decode cL_end 10 = .ok (.ireturn, 1) := by decide +kernel
theorem dL_end_11 : decode cL_end 11 = .ok (.astore_n 2, 1) := by decide +kernel
theorem dL_end_12 : decode cL_end 12 = .ok (.iconst 2, 1) := by decide +kernel
theorem dL_end_13 : decode cL_end 13 = .ok (.ireturn, 1) := by decide +kernel
theorem dL_end_14 : decode cL_end 14 = .ok (.iconst 0, 1) := by decide +kernel
theorem dL_end_15 : decode cL_end 15 = .ok (.ireturn, 1) := by decide +kernel
theorem ggL_mute_X6_mute : GoodIn wsL_mute wsX6_mute := goodIn_ca (goodIn_r _ [6, 7, 8, 9, 10, 11, 5, 12, 13, 14, 15, 16, 17, 18, 19, 20, 21, 22, 23, 24, 25, 26, 27, 28, 29, 30, 31, 32, 33, 34, 35] (by decide +kernel) (by decide +kernel)) (goodIn_sub (fun _ h => List.mem_cons_of_mem _ (List.mem_append_right _ h)) (by decide +kernel))
theorem gL_mute_X6_mute : GoodIn wsL_mute (wsV RL 30 RX6 yX6_mute wsX6_mute) := goodIn_app (goodIn_of _ (by decide +kernel)) ggL_mute_X6_mute
theorem dL_mute_0 : decode cL_mute 0 = .ok (.aload_n 2, 1) := by decide +kernel
theorem dL_mute_1 : decode cL_mute 1 = .ok (.iconst 0, 1) := by decide +kernel
theorem dL_mute_2 : decode cL_mute 2 = .ok (.aload_n 0, 1) := by decide +kernel
theorem dL_mute_3 : decode cL_mute 3 = .ok (.iload_n 1, 1) := by decide +kernel
theorem dL_mute_4 : decode cL_mute 4 = .ok (.invokevirtual 30, 3) := by decide +kernel
theorem dL_mute_7 : decode cL_mute 7 = .ok (.ifCond .eq 7, 3) := by decide +kernel
theorem dL_mute_10 : decode cL_mute 10 = .ok (.lconst 1, 1) := by decide +kernel
theorem dL_mute_11 : decode cL_mute 11 = .ok (.goto 4, 3) := by decide +kernel
theorem dL_mute_14 : decode cL_mute 14 = .ok (.lconst 0, 1) := by decide +kernel
theorem dL_mute_15 : decode cL_mute 15 = .ok (.lastore, 1) := by decide +kernel
theorem dL_mute_16 : decode cL_mute 16 = .ok (.goto 6, 3) := by decide +kernel
theorem dL_mute_19 : decode cL_mute 19 = .ok (.astore_n 3, 1) := by decide +kernel
theorem dL_mute_20 : decode cL_mute 20 = .ok (.iconst 1, 1) := by decide +kernel
theorem dL_mute_21 : decode cL_mute 21 = .ok (.ireturn, 1) := by decide +kernel
theorem dL_mute_22 : decode cL_mute 22 = .ok (.iconst 0, 1) := by decide +kernel
theorem dL_mute_23 : decode cL_mute 23 = .ok (.ireturn, 1) := by decide +kernel
theorem ggL_setLevel_X6_setLevel : GoodIn wsL_setLevel wsX6_setLevel := goodIn_ca (goodIn_ca (goodIn_r _ [7, 8, 9, 10, 11, 12, 6, 13, 14, 15, 16, 17, 18, 19, 20, 21, 22, 23, 24, 25, 26, 27, 28, 29, 30, 31, 32, 33, 34, 35, 36, 37, 38, 39, 40, 41] (by decide +kernel) (by decide +kernel)) (goodIn_sub (fun _ h => List.mem_cons_of_mem _ (List.mem_append_left _ (List.mem_append_right _ h))) (by decide +kernel))) (goodIn_sub (fun _ h => List.mem_cons_of_mem _ (List.mem_append_right _ h)) (by decide +kernel))
theorem gL_setLevel_X6_setLevel : GoodIn wsL_setLevel (wsV RL 34 RX6 yX6_setLevel wsX6_setLevel) := goodIn_app (goodIn_of _ (by decide +kernel)) ggL_setLevel_X6_setLevel
theorem dL_setLevel_0 : decode cL_setLevel 0 = .ok (.aload_n 3, 1) := by decide +kernel
theorem dL_setLevel_1 : decode cL_setLevel 1 = .ok (.iconst 0, 1) := by decide +kernel
theorem dL_setLevel_2 : decode cL_setLevel 2 = .ok (.aload_n 0, 1) := by decide +kernel
theorem dL_setLevel_3 : decode cL_setLevel 3 = .ok (.iload_n 1, 1) := by decide +kernel
theorem dL_setLevel_4 : decode cL_setLevel 4 = .ok (.iload_n 2, 1) := by decide +kernel
theorem dL_setLevel_5 : decode cL_setLevel 5 = .ok (.invokevirtual 34, 3) := by decide +kernel
theorem dL_setLevel_8 : decode cL_setLevel 8 = .ok (.i2l, 1) := by decide +kernel
theorem dL_setLevel_9 : decode cL_setLevel 9 = .ok (.lastore, 1) := by decide +kernel
theorem dL_setLevel_10 : decode cL_setLevel 10 = .ok (.goto 11, 3) := by decide +kernel
theorem dL_setLevel_13 : decode cL_setLevel 13 = .ok (.astore 4, 2) := by decide +kernel
theorem dL_setLevel_15 : decode cL_setLevel 15 = .ok (.iconst 1, 1) := by decide +kernel
theorem dL_setLevel_16 : decode cL_setLevel 16 = .ok (.ireturn, 1) := by decide +kernel
theorem dL_setLevel_17 : decode cL_setLevel 17 = .ok (.astore 4, 2) := by decide +kernel
theorem dL_setLevel_19 : decode cL_setLevel 19 = .ok (.iconst 2, 1) := by decide +kernel
theorem dL_setLevel_20 : decode cL_setLevel 20 = .ok (.ireturn, 1) := by decide +kernel
theorem dL_setLevel_21 : decode cL_setLevel 21 = .ok (.iconst 0, 1) := by decide +kernel
theorem dL_setLevel_22 : decode cL_setLevel 22 = .ok (.ireturn, 1) := by decide +kernel
theorem ggL_pin_X6_pin : GoodIn wsL_pin wsX6_pin := goodIn_ca (goodIn_ca (goodIn_r _ [7, 8, 9, 10, 11, 12, 13, 14, 6, 15, 16, 17, 18, 19, 20, 21, 22, 23, 24, 25, 26, 27, 28, 29, 30, 31, 32, 33, 34, 35, 36, 37, 38, 39, 40, 41, 42] (by decide +kernel) (by decide +kernel)) (goodIn_sub (fun _ h => List.mem_cons_of_mem _ (List.mem_append_left _ (List.mem_append_right _ h))) (by decide +kernel))) (goodIn_sub (fun _ h => List.mem_cons_of_mem _ (List.mem_append_right _ h)) (by decide +kernel))
theorem gL_pin_X6_pin : GoodIn wsL_pin (wsV RL 38 RX6 yX6_pin wsX6_pin) := goodIn_app (goodIn_of _ (by decide +kernel)) ggL_pin_X6_pin
theorem dL_pin_0 : decode cL_pin 0 = .ok (.aload_n 3, 1) := by decide +kernel
theorem dL_pin_1 : decode cL_pin 1 = .ok (.iconst 0, 1) := by decide +kernel
theorem dL_pin_2 : decode cL_pin 2 = .ok (.aload_n 0, 1) := by decide +kernel
theorem dL_pin_3 : decode cL_pin 3 = .ok (.iload_n 1, 1) := by decide +kernel
theorem dL_pin_4 : decode cL_pin 4 = .ok (.iload_n 2, 1) := by decide +kernel
theorem dL_pin_5 : decode cL_pin 5 = .ok (.invokevirtual 38, 3) := by decide +kernel
theorem dL_pin_8 : decode cL_pin 8 = .ok (.i2l, 1) := by decide +kernel
theorem dL_pin_9 : decode cL_pin 9 = .ok (.lastore, 1) := by decide +kernel
theorem dL_pin_10 : decode cL_pin 10 = .ok (.goto 11, 3) := by decide +kernel
theorem dL_pin_13 : decode cL_pin 13 = .ok (.astore 4, 2) := by decide +kernel
theorem dL_pin_15 : decode cL_pin 15 = .ok (.iconst 1, 1) := by decide +kernel
theorem dL_pin_16 : decode cL_pin 16 = .ok (.ireturn, 1) := by decide +kernel
theorem dL_pin_17 : decode cL_pin 17 = .ok (.astore 4, 2) := by decide +kernel
theorem dL_pin_19 : decode cL_pin 19 = .ok (.iconst 2, 1) := by decide +kernel
theorem dL_pin_20 : decode cL_pin 20 = .ok (.ireturn, 1) := by decide +kernel
theorem dL_pin_21 : decode cL_pin 21 = .ok (.iconst 0, 1) := by decide +kernel
theorem dL_pin_22 : decode cL_pin 22 = .ok (.ireturn, 1) := by decide +kernel
theorem ggL_setPlaces_X6_setPlaces : GoodIn wsL_setPlaces wsX6_setPlaces := goodIn_ca (goodIn_ca (goodIn_r _ [7, 8, 9, 10, 11, 12, 6, 13, 14, 15, 16, 17, 18, 19, 20, 21, 22, 23, 24, 25, 26, 27, 28, 29, 30, 31, 32, 33, 34, 35, 36, 37, 38, 39, 40, 41, 42, 43, 44, 45] (by decide +kernel) (by decide +kernel)) (goodIn_sub (fun _ h => List.mem_cons_of_mem _ (List.mem_append_left _ (List.mem_append_right _ h))) (by decide +kernel))) (goodIn_sub (fun _ h => List.mem_cons_of_mem _ (List.mem_append_right _ h)) (by decide +kernel))
theorem gL_setPlaces_X6_setPlaces : GoodIn wsL_setPlaces (wsV RL 41 RX6 yX6_setPlaces wsX6_setPlaces) := goodIn_app (goodIn_of _ (by decide +kernel)) ggL_setPlaces_X6_setPlaces
theorem dL_setPlaces_0 : decode cL_setPlaces 0 = .ok (.aload_n 3, 1) := by decide +kernel
theorem dL_setPlaces_1 : decode cL_setPlaces 1 = .ok (.iconst 0, 1) := by decide +kernel
theorem dL_setPlaces_2 : decode cL_setPlaces 2 = .ok (.aload_n 0, 1) := by decide +kernel
theorem dL_setPlaces_3 : decode cL_setPlaces 3 = .ok (.iload_n 1, 1) := by decide +kernel
theorem dL_setPlaces_4 : decode cL_setPlaces 4 = .ok (.iload_n 2, 1) := by decide +kernel
theorem dL_setPlaces_5 : decode cL_setPlaces 5 = .ok (.invokevirtual 41, 3) := by decide +kernel
theorem dL_setPlaces_8 : decode cL_setPlaces 8 = .ok (.i2l, 1) := by decide +kernel
theorem dL_setPlaces_9 : decode cL_setPlaces 9 = .ok (.lastore, 1) := by decide +kernel
theorem dL_setPlaces_10 : decode cL_setPlaces 10 = .ok (.goto 11, 3) := by decide +kernel
theorem dL_setPlaces_13 : decode cL_setPlaces 13 = .ok (.astore 4, 2) := by decide +kernel
theorem dL_setPlaces_15 : decode cL_setPlaces 15 = .ok (.iconst 1, 1) := by decide +kernel
theorem dL_setPlaces_16 : decode cL_setPlaces 16 = .ok (.ireturn, 1) := by decide +kernel
theorem dL_setPlaces_17 : decode cL_setPlaces 17 = .ok (.astore 4, 2) := by decide +kernel
theorem dL_setPlaces_19 : decode cL_setPlaces 19 = .ok (.iconst 2, 1) := by decide +kernel
theorem dL_setPlaces_20 : decode cL_setPlaces 20 = .ok (.ireturn, 1) := by decide +kernel
theorem dL_setPlaces_21 : decode cL_setPlaces 21 = .ok (.iconst 0, 1) := by decide +kernel
theorem dL_setPlaces_22 : decode cL_setPlaces 22 = .ok (.ireturn, 1) := by decide +kernel
theorem ggL_setEstimate_X6_setEstimate : GoodIn wsL_setEstimate wsX6_setEstimate := goodIn_ca (goodIn_ca (goodIn_r _ [7, 8, 9, 10, 11, 12, 6, 13, 14, 15, 16, 17, 18, 19, 20, 21, 22, 23, 24, 25, 26, 27, 28, 29, 30, 31, 32, 33, 34, 35, 36, 37, 38, 39, 40, 41, 42, 43, 44, 45] (by decide +kernel) (by decide +kernel)) (goodIn_sub (fun _ h => List.mem_cons_of_mem _ (List.mem_append_left _ (List.mem_append_right _ h))) (by decide +kernel))) (goodIn_sub (fun _ h => List.mem_cons_of_mem _ (List.mem_append_right _ h)) (by decide +kernel))
theorem gL_setEstimate_X6_setEstimate : GoodIn wsL_setEstimate (wsV RL 44 RX6 yX6_setEstimate wsX6_setEstimate) := goodIn_app (goodIn_of _ (by decide +kernel)) ggL_setEstimate_X6_setEstimate
theorem dL_setEstimate_0 : decode cL_setEstimate 0 = .ok (.aload_n 3, 1) := by decide +kernel
theorem dL_setEstimate_1 : decode cL_setEstimate 1 = .ok (.iconst 0, 1) := by decide +kernel
theorem dL_setEstimate_2 : decode cL_setEstimate 2 = .ok (.aload_n 0, 1) := by decide +kernel
theorem dL_setEstimate_3 : decode cL_setEstimate 3 = .ok (.iload_n 1, 1) := by decide +kernel
theorem dL_setEstimate_4 : decode cL_setEstimate 4 = .ok (.iload_n 2, 1) := by decide +kernel
theorem dL_setEstimate_5 : decode cL_setEstimate 5 = .ok (.invokevirtual 44, 3) := by decide +kernel
theorem dL_setEstimate_8 : decode cL_setEstimate 8 = .ok (.i2l, 1) := by decide +kernel
theorem dL_setEstimate_9 : decode cL_setEstimate 9 = .ok (.lastore, 1) := by decide +kernel
theorem dL_setEstimate_10 : decode cL_setEstimate 10 = .ok (.goto 11, 3) := by decide +kernel
theorem dL_setEstimate_13 : decode cL_setEstimate 13 = .ok (.astore 4, 2) := by decide +kernel
theorem dL_setEstimate_15 : decode cL_setEstimate 15 = .ok (.iconst 1, 1) := by decide +kernel
theorem dL_setEstimate_16 : decode cL_setEstimate 16 = .ok (.ireturn, 1) := by decide +kernel
theorem dL_setEstimate_17 : decode cL_setEstimate 17 = .ok (.astore 4, 2) := by decide +kernel
theorem dL_setEstimate_19 : decode cL_setEstimate 19 = .ok (.iconst 2, 1) := by decide +kernel
theorem dL_setEstimate_20 : decode cL_setEstimate 20 = .ok (.ireturn, 1) := by decide +kernel
theorem dL_setEstimate_21 : decode cL_setEstimate 21 = .ok (.iconst 0, 1) := by decide +kernel
theorem dL_setEstimate_22 : decode cL_setEstimate 22 = .ok (.ireturn, 1) := by decide +kernel
theorem ggL_setTimes_X6_setTimes : GoodIn wsL_setTimes wsX6_setTimes := goodIn_ca (goodIn_r _ [6, 7, 8, 9, 10, 11, 12, 5, 13, 14, 15, 16, 17, 18, 19, 20, 21, 22, 23, 24, 25, 26, 27, 28, 29, 30, 31, 32, 33, 34, 35, 36, 37] (by decide +kernel) (by decide +kernel)) (goodIn_sub (fun _ h => List.mem_cons_of_mem _ (List.mem_append_right _ h)) (by decide +kernel))
theorem gL_setTimes_X6_setTimes : GoodIn wsL_setTimes (wsV RL 47 RX6 yX6_setTimes wsX6_setTimes) := goodIn_app (goodIn_of _ (by decide +kernel)) ggL_setTimes_X6_setTimes
theorem dL_setTimes_0 : decode cL_setTimes 0 = .ok (.aload_n 0, 1) := by decide +kernel
theorem dL_setTimes_1 : decode cL_setTimes 1 = .ok (.iload_n 1, 1) := by decide +kernel
theorem dL_setTimes_2 : decode cL_setTimes 2 = .ok (.iload_n 2, 1) := by decide +kernel
theorem dL_setTimes_3 : decode cL_setTimes 3 = .ok (.invokevirtual 47, 3) := by decide +kernel
theorem dL_setTimes_6 : decode cL_setTimes 6 = .ok (.goto 6, 3) := by decide +kernel
theorem dL_setTimes_9 : decode cL_setTimes 9 = .ok (.astore_n 3, 1) := by decide +kernel
theorem dL_setTimes_10 : decode cL_setTimes 10 = .ok (.iconst 1, 1) := by decide +kernel
theorem dL_setTimes_11 : decode cL_setTimes 11 = .ok (.ireturn, 1) := by decide +kernel
theorem dL_setTimes_12 : decode cL_setTimes 12 = .ok (.iconst 0, 1) := by decide +kernel
theorem dL_setTimes_13 : decode cL_setTimes 13 = .ok (.ireturn, 1) := by decide +kernel
theorem ggL_pass_X6_pass : GoodIn wsL_pass wsX6_pass := goodIn_ca (goodIn_r _ [6, 7, 8, 5, 9, 10, 11, 12, 13, 14, 15, 16, 17, 18, 19, 20, 21, 22, 23, 24, 25, 26, 27, 28, 29, 30, 31, 32, 33, 34, 35, 36, 37, 38, 39, 40, 41, 42, 43, 44, 45, 46, 47, 48, 49, 50, 51, 52, 53, 54, 55, 56, 57, 58, 59, 60, 61, 62, 63, 64, 65, 66, 67, 68, 69, 70, 71, 72, 73, 74, 75, 76, 77, 78, 79, 80, 81, 82, 83, 84, 85, 86, 87, 88, 89, 90, 91, 92, 93, 94, 95, 96, 97, 98, 99, 100, 101, 102, 103, 104, 105, 106, 107, 108, 109, 110, 111, 112, 113, 114, 115, 116, 117, 118, 119, 120, 121, 122, 123, 124, 125, 126, 127, 128, 129, 130, 131, 132, 133, 134, 135, 136, 137, 138, 139, 140, 141, 142, 143, 144, 145, 146, 147, 148, 149, 150, 151, 152, 153, 154, 155, 156, 157, 158, 159, 160, 161, 162, 163, 164, 165, 166, 167, 168, 169, 170, 171, 172, 173, 174, 175, 176, 177, 178, 179, 180, 181, 182, 183, 184, 185, 186, 187] (by decide +kernel) (by decide +kernel)) (goodIn_sub (fun _ h => List.mem_cons_of_mem _ (List.mem_append_right _ h)) (by decide +kernel))
theorem gL_pass_X6_pass : GoodIn wsL_pass (wsV RL 51 RX6 yX6_pass wsX6_pass) := goodIn_app (goodIn_of _ (by decide +kernel)) ggL_pass_X6_pass
theorem dL_pass_0 : decode cL_pass 0 = .ok (.aload_n 2, 1) := by decide +kernel
theorem dL_pass_1 : decode cL_pass 1 = .ok (.iconst 0, 1) := by decide +kernel
theorem dL_pass_2 : decode cL_pass 2 = .ok (.aload_n 0, 1) := by decide +kernel
theorem dL_pass_3 : decode cL_pass 3 = .ok (.iload_n 1, 1) := by decide +kernel
theorem dL_pass_4 : decode cL_pass 4 = .ok (.invokevirtual 51, 3) := by decide +kernel
theorem dL_pass_7 : decode cL_pass 7 = .ok (.i2l, 1) := by decide +kernel
theorem dL_pass_8 : decode cL_pass 8 = .ok (.lastore, 1) := by decide +kernel
theorem dL_pass_9 : decode cL_pass 9 = .ok (.goto 6, 3) := by decide +kernel
theorem dL_pass_12 : decode cL_pass 12 = .ok (.astore_n 3, 1) := by decide +kernel
theorem dL_pass_13 : decode cL_pass 13 = .ok (.iconst 1, 1) := by decide +kernel
theorem dL_pass_14 : decode cL_pass 14 = .ok (.ireturn, 1) := by decide +kernel
theorem dL_pass_15 : decode cL_pass 15 = .ok (.iconst 0, 1) := by decide +kernel
theorem dL_pass_16 : decode cL_pass 16 = .ok (.ireturn, 1) := by decide +kernel
theorem ggL_seen_X6_seen : GoodIn wsL_seen wsX6_seen := goodIn_ca (goodIn_r _ [6, 7, 8, 9, 10, 11, 5, 12, 13, 14, 15, 16, 17, 18, 19, 20, 21, 22, 23, 24, 25, 26, 27, 28, 29, 30, 31, 32, 33, 34, 35, 36, 37, 38, 39, 40, 41, 42, 43, 44, 45, 46, 47, 48, 49, 50, 51, 52, 53, 54, 55, 56, 57, 58, 59, 60, 61, 62, 63, 64, 65, 66, 67, 68, 69, 70, 71, 72, 73, 74, 75, 76, 77, 78, 79, 80, 81, 82, 83] (by decide +kernel) (by decide +kernel)) (goodIn_sub (fun _ h => List.mem_cons_of_mem _ (List.mem_append_right _ h)) (by decide +kernel))
theorem gL_seen_X6_seen : GoodIn wsL_seen (wsV RL 55 RX6 yX6_seen wsX6_seen) := goodIn_app (goodIn_of _ (by decide +kernel)) ggL_seen_X6_seen
theorem dL_seen_0 : decode cL_seen 0 = .ok (.aload_n 2, 1) := by decide +kernel
theorem dL_seen_1 : decode cL_seen 1 = .ok (.iconst 0, 1) := by decide +kernel
theorem dL_seen_2 : decode cL_seen 2 = .ok (.aload_n 0, 1) := by decide +kernel
theorem dL_seen_3 : decode cL_seen 3 = .ok (.iload_n 1, 1) := by decide +kernel
theorem dL_seen_4 : decode cL_seen 4 = .ok (.invokevirtual 55, 3) := by decide +kernel
theorem dL_seen_7 : decode cL_seen 7 = .ok (.i2l, 1) := by decide +kernel
theorem dL_seen_8 : decode cL_seen 8 = .ok (.lastore, 1) := by decide +kernel
theorem dL_seen_9 : decode cL_seen 9 = .ok (.goto 6, 3) := by decide +kernel
theorem dL_seen_12 : decode cL_seen 12 = .ok (.astore_n 3, 1) := by decide +kernel
theorem dL_seen_13 : decode cL_seen 13 = .ok (.iconst 1, 1) := by decide +kernel
theorem dL_seen_14 : decode cL_seen 14 = .ok (.ireturn, 1) := by decide +kernel
theorem dL_seen_15 : decode cL_seen 15 = .ok (.iconst 0, 1) := by decide +kernel
theorem dL_seen_16 : decode cL_seen 16 = .ok (.ireturn, 1) := by decide +kernel
theorem ggL_seenAt_X6_seenAt : GoodIn wsL_seenAt wsX6_seenAt := goodIn_ca (goodIn_ca (goodIn_r _ [7, 8, 9, 10, 11, 12, 13, 14, 15, 6, 16, 17, 18, 19, 20, 21, 22, 23, 24, 25, 26, 27, 28, 29, 30, 31, 32, 33, 34, 35, 36, 37, 38, 39, 40, 41, 42, 43, 44, 45, 46, 47, 48, 49, 50, 51, 52, 53, 54, 55, 56, 57, 58, 59, 60, 61, 62, 63, 64, 65, 66, 67, 68, 69, 70, 71, 72, 73, 74, 75, 76, 77, 78, 79, 80, 81, 82, 83, 84, 85, 86] (by decide +kernel) (by decide +kernel)) (goodIn_sub (fun _ h => List.mem_cons_of_mem _ (List.mem_append_left _ (List.mem_append_right _ h))) (by decide +kernel))) (goodIn_sub (fun _ h => List.mem_cons_of_mem _ (List.mem_append_right _ h)) (by decide +kernel))
theorem gL_seenAt_X6_seenAt : GoodIn wsL_seenAt (wsV RL 58 RX6 yX6_seenAt wsX6_seenAt) := goodIn_app (goodIn_of _ (by decide +kernel)) ggL_seenAt_X6_seenAt
theorem dL_seenAt_0 : decode cL_seenAt 0 = .ok (.aload_n 3, 1) := by decide +kernel
theorem dL_seenAt_1 : decode cL_seenAt 1 = .ok (.iconst 0, 1) := by decide +kernel
theorem dL_seenAt_2 : decode cL_seenAt 2 = .ok (.aload_n 0, 1) := by decide +kernel
theorem dL_seenAt_3 : decode cL_seenAt 3 = .ok (.iload_n 1, 1) := by decide +kernel
theorem dL_seenAt_4 : decode cL_seenAt 4 = .ok (.iload_n 2, 1) := by decide +kernel
theorem dL_seenAt_5 : decode cL_seenAt 5 = .ok (.invokevirtual 58, 3) := by decide +kernel
theorem dL_seenAt_8 : decode cL_seenAt 8 = .ok (.i2l, 1) := by decide +kernel
theorem dL_seenAt_9 : decode cL_seenAt 9 = .ok (.lastore, 1) := by decide +kernel
theorem dL_seenAt_10 : decode cL_seenAt 10 = .ok (.goto 11, 3) := by decide +kernel
theorem dL_seenAt_13 : decode cL_seenAt 13 = .ok (.astore 4, 2) := by decide +kernel
theorem dL_seenAt_15 : decode cL_seenAt 15 = .ok (.iconst 1, 1) := by decide +kernel
theorem dL_seenAt_16 : decode cL_seenAt 16 = .ok (.ireturn, 1) := by decide +kernel
theorem dL_seenAt_17 : decode cL_seenAt 17 = .ok (.astore 4, 2) := by decide +kernel
theorem dL_seenAt_19 : decode cL_seenAt 19 = .ok (.iconst 2, 1) := by decide +kernel
theorem dL_seenAt_20 : decode cL_seenAt 20 = .ok (.ireturn, 1) := by decide +kernel
theorem dL_seenAt_21 : decode cL_seenAt 21 = .ok (.iconst 0, 1) := by decide +kernel
theorem dL_seenAt_22 : decode cL_seenAt 22 = .ok (.ireturn, 1) := by decide +kernel
theorem ggL_target_X6_target : GoodIn wsL_target wsX6_target := goodIn_ca (goodIn_r _ [6, 7, 8, 9, 10, 11, 12, 13, 14, 15, 5, 16, 17, 18, 19, 20, 21, 22, 23, 24, 25, 26, 27, 28, 29, 30, 31, 32, 33, 34, 35, 36, 37, 38, 39, 40, 41, 42, 43, 44, 45, 46, 47, 48, 49, 50, 51, 52, 53, 54, 55, 56, 57, 58, 59, 60, 61, 62, 63, 64, 65, 66, 67, 68, 69, 70, 71, 72, 73, 74, 75, 76, 77, 78, 79, 80, 81, 82, 83, 84, 85, 86, 87, 88, 89, 90, 91, 92, 93, 94, 95, 96, 97, 98, 99, 100, 101, 102, 103, 104, 105, 106, 107, 108, 109, 110, 111] (by decide +kernel) (by decide +kernel)) (goodIn_sub (fun _ h => List.mem_cons_of_mem _ (List.mem_append_right _ h)) (by decide +kernel))
theorem gL_target_X6_target : GoodIn wsL_target (wsV RL 63 RX6 yX6_target wsX6_target) := goodIn_app (goodIn_of _ (by decide +kernel)) ggL_target_X6_target
theorem dL_target_0 : decode cL_target 0 = .ok (.aload_n 3, 1) := by decide +kernel
theorem dL_target_1 : decode cL_target 1 = .ok (.iconst 0, 1) := by decide +kernel
theorem dL_target_2 : decode cL_target 2 = .ok (.aload_n 0, 1) := by decide +kernel
theorem dL_target_3 : decode cL_target 3 = .ok (.iload_n 1, 1) := by decide +kernel
theorem dL_target_4 : decode cL_target 4 = .ok (.iload_n 2, 1) := by decide +kernel
theorem dL_target_5 : decode cL_target 5 = .ok (.invokevirtual 63, 3) := by decide +kernel
theorem dL_target_8 : decode cL_target 8 = .ok (.i2l, 1) := by decide +kernel
theorem dL_target_9 : decode cL_target 9 = .ok (.lastore, 1) := by decide +kernel
theorem dL_target_10 : decode cL_target 10 = .ok (.goto 7, 3) := by decide +kernel
theorem dL_target_13 : decode cL_target 13 = .ok (.astore 4, 2) := by decide +kernel
theorem dL_target_15 : decode cL_target 15 = .ok (.iconst 1, 1) := by decide +kernel
theorem dL_target_16 : decode cL_target 16 = .ok (.ireturn, 1) := by decide +kernel
theorem dL_target_17 : decode cL_target 17 = .ok (.iconst 0, 1) := by decide +kernel
theorem dL_target_18 : decode cL_target 18 = .ok (.ireturn, 1) := by decide +kernel
theorem ggL_targetBySteps_X6_targetBySteps : GoodIn wsL_targetBySteps wsX6_targetBySteps := goodIn_ca (goodIn_r _ [6, 7, 8, 9, 10, 11, 12, 13, 14, 15, 5, 16, 17, 18, 19, 20, 21, 22, 23, 24, 25, 26, 27, 28, 29, 30, 31, 32, 33, 34, 35, 36, 37, 38, 39, 40, 41, 42, 43, 44, 45, 46, 47, 48, 49, 50, 51, 52, 53, 54, 55, 56, 57, 58, 59, 60, 61, 62, 63, 64, 65, 66, 67, 68, 69, 70, 71, 72, 73, 74, 75, 76, 77, 78, 79, 80, 81, 82, 83, 84, 85, 86, 87, 88, 89, 90, 91, 92, 93, 94, 95, 96, 97, 98, 99, 100, 101, 102, 103, 104, 105, 106, 107, 108, 109, 110, 111, 112, 113, 114, 115, 116, 117, 118, 119] (by decide +kernel) (by decide +kernel)) (goodIn_sub (fun _ h => List.mem_cons_of_mem _ (List.mem_append_right _ h)) (by decide +kernel))
theorem gL_targetBySteps_X6_targetBySteps : GoodIn wsL_targetBySteps (wsV RL 66 RX6 yX6_targetBySteps wsX6_targetBySteps) := goodIn_app (goodIn_of _ (by decide +kernel)) ggL_targetBySteps_X6_targetBySteps
theorem dL_targetBySteps_0 : decode cL_targetBySteps 0 = .ok (.aload_n 3, 1) := by decide +kernel
theorem dL_targetBySteps_1 : decode cL_targetBySteps 1 = .ok (.iconst 0, 1) := by decide +kernel
theorem dL_targetBySteps_2 : decode cL_targetBySteps 2 = .ok (.aload_n 0, 1) := by decide +kernel
theorem dL_targetBySteps_3 : decode cL_targetBySteps 3 = .ok (.iload_n 1, 1) := by decide +kernel
theorem dL_targetBySteps_4 : decode cL_targetBySteps 4 = .ok (.iload_n 2, 1) := by decide +kernel
theorem dL_targetBySteps_5 : decode cL_targetBySteps 5 = .ok (.invokevirtual 66, 3) := by decide +kernel
theorem dL_targetBySteps_8 : decode cL_targetBySteps 8 = .ok (.i2l, 1) := by decide +kernel
theorem dL_targetBySteps_9 : decode cL_targetBySteps 9 = .ok (.lastore, 1) := by decide +kernel
theorem dL_targetBySteps_10 : decode cL_targetBySteps 10 = .ok (.goto 7, 3) := by decide +kernel
theorem dL_targetBySteps_13 : decode cL_targetBySteps 13 = .ok (.astore 4, 2) := by decide +kernel
theorem dL_targetBySteps_15 : decode cL_targetBySteps 15 = .ok (.iconst 1, 1) := by decide +kernel
theorem dL_targetBySteps_16 : decode cL_targetBySteps 16 = .ok (.ireturn, 1) := by decide +kernel
theorem dL_targetBySteps_17 : decode cL_targetBySteps 17 = .ok (.iconst 0, 1) := by decide +kernel
theorem dL_targetBySteps_18 : decode cL_targetBySteps 18 = .ok (.ireturn, 1) := by decide +kernel
theorem ggL_layer_X6_layer : GoodIn wsL_layer wsX6_layer := goodIn_ca (goodIn_r _ [6, 7, 8, 9, 10, 11, 5, 12, 13, 14, 15, 16, 17, 18, 19, 20, 21, 22, 23, 24, 25, 26, 27, 28, 29, 30, 31, 32, 33, 34, 35, 36, 37, 38] (by decide +kernel) (by decide +kernel)) (goodIn_sub (fun _ h => List.mem_cons_of_mem _ (List.mem_append_right _ h)) (by decide +kernel))
theorem gL_layer_X6_layer : GoodIn wsL_layer (wsV RL 69 RX6 yX6_layer wsX6_layer) := goodIn_app (goodIn_of _ (by decide +kernel)) ggL_layer_X6_layer
theorem dL_layer_0 : decode cL_layer 0 = .ok (.aload_n 3, 1) := by decide +kernel
theorem dL_layer_1 : decode cL_layer 1 = .ok (.iconst 0, 1) := by decide +kernel
theorem dL_layer_2 : decode cL_layer 2 = .ok (.aload_n 0, 1) := by decide +kernel
theorem dL_layer_3 : decode cL_layer 3 = .ok (.iload_n 1, 1) := by decide +kernel
theorem dL_layer_4 : decode cL_layer 4 = .ok (.iload_n 2, 1) := by decide +kernel
theorem dL_layer_5 : decode cL_layer 5 = .ok (.invokevirtual 69, 3) := by decide +kernel
theorem dL_layer_8 : decode cL_layer 8 = .ok (.i2l, 1) := by decide +kernel
theorem dL_layer_9 : decode cL_layer 9 = .ok (.lastore, 1) := by decide +kernel
theorem dL_layer_10 : decode cL_layer 10 = .ok (.goto 7, 3) := by decide +kernel
theorem dL_layer_13 : decode cL_layer 13 = .ok (.astore 4, 2) := by decide +kernel
theorem dL_layer_15 : decode cL_layer 15 = .ok (.iconst 1, 1) := by decide +kernel
theorem dL_layer_16 : decode cL_layer 16 = .ok (.ireturn, 1) := by decide +kernel
theorem dL_layer_17 : decode cL_layer 17 = .ok (.iconst 0, 1) := by decide +kernel
theorem dL_layer_18 : decode cL_layer 18 = .ok (.ireturn, 1) := by decide +kernel
theorem ggL_sent_X6_sent : GoodIn wsL_sent wsX6_sent := goodIn_ca (goodIn_r _ [6, 7, 8, 9, 10, 11, 12, 5, 13, 14, 15, 16, 17, 18, 19, 20, 21, 22, 23, 24, 25, 26, 27, 28, 29, 30, 31, 32, 33, 34, 35, 36, 37, 38, 39, 40, 41, 42, 43, 44, 45, 46, 47, 48, 49, 50, 51, 52, 53] (by decide +kernel) (by decide +kernel)) (goodIn_sub (fun _ h => List.mem_cons_of_mem _ (List.mem_append_right _ h)) (by decide +kernel))
theorem gL_sent_X6_sent : GoodIn wsL_sent (wsV RL 72 RX6 yX6_sent wsX6_sent) := goodIn_app (goodIn_of _ (by decide +kernel)) ggL_sent_X6_sent
theorem dL_sent_0 : decode cL_sent 0 = .ok (.aload_n 2, 1) := by decide +kernel
theorem dL_sent_1 : decode cL_sent 1 = .ok (.iconst 0, 1) := by decide +kernel
theorem dL_sent_2 : decode cL_sent 2 = .ok (.aload_n 0, 1) := by decide +kernel
theorem dL_sent_3 : decode cL_sent 3 = .ok (.iload_n 1, 1) := by decide +kernel
theorem dL_sent_4 : decode cL_sent 4 = .ok (.invokevirtual 72, 3) := by decide +kernel
theorem dL_sent_7 : decode cL_sent 7 = .ok (.i2l, 1) := by decide +kernel
theorem dL_sent_8 : decode cL_sent 8 = .ok (.lastore, 1) := by decide +kernel
theorem dL_sent_9 : decode cL_sent 9 = .ok (.goto 6, 3) := by decide +kernel
theorem dL_sent_12 : decode cL_sent 12 = .ok (.astore_n 3, 1) := by decide +kernel
theorem dL_sent_13 : decode cL_sent 13 = .ok (.iconst 1, 1) := by decide +kernel
theorem dL_sent_14 : decode cL_sent 14 = .ok (.ireturn, 1) := by decide +kernel
theorem dL_sent_15 : decode cL_sent 15 = .ok (.iconst 0, 1) := by decide +kernel
theorem dL_sent_16 : decode cL_sent 16 = .ok (.ireturn, 1) := by decide +kernel
theorem ggL_keys_X6_keys : GoodIn wsL_keys wsX6_keys := goodIn_ca (goodIn_ca (goodIn_r _ [7, 8, 9, 10, 11, 12, 6, 13, 14, 15, 16, 17, 18, 19, 20, 21, 22, 23, 24, 25, 26, 27, 28, 29, 30, 31, 32, 33, 34, 35, 36, 37, 38, 39, 40, 41, 42, 43, 44, 45, 46, 47, 48, 49, 50, 51, 52, 53, 54, 55, 56, 57, 58, 59, 60] (by decide +kernel) (by decide +kernel)) (goodIn_sub (fun _ h => List.mem_cons_of_mem _ (List.mem_append_left _ (List.mem_append_right _ h))) (by decide +kernel))) (goodIn_sub (fun _ h => List.mem_cons_of_mem _ (List.mem_append_right _ h)) (by decide +kernel))
theorem gL_keys_X6_keys : GoodIn wsL_keys (wsV RL 75 RX6 yX6_keys wsX6_keys) := goodIn_app (goodIn_of _ (by decide +kernel)) ggL_keys_X6_keys
theorem dL_keys_0 : decode cL_keys 0 = .ok (.aload_n 2, 1) := by decide +kernel
theorem dL_keys_1 : decode cL_keys 1 = .ok (.iconst 0, 1) := by decide +kernel
theorem dL_keys_2 : decode cL_keys 2 = .ok (.aload_n 0, 1) := by decide +kernel
theorem dL_keys_3 : decode cL_keys 3 = .ok (.iload_n 1, 1) := by decide +kernel
theorem dL_keys_4 : decode cL_keys 4 = .ok (.invokevirtual 75, 3) := by decide +kernel
theorem dL_keys_7 : decode cL_keys 7 = .ok (.i2l, 1) := by decide +kernel
theorem dL_keys_8 : decode cL_keys 8 = .ok (.lastore, 1) := by decide +kernel
theorem dL_keys_9 : decode cL_keys 9 = .ok (.goto 9, 3) := by decide +kernel
theorem dL_keys_12 : decode cL_keys 12 = .ok (.astore_n 3, 1) := by decide +kernel
theorem dL_keys_13 : decode cL_keys 13 = .ok (.iconst 1, 1) := by decide +kernel
theorem dL_keys_14 : decode cL_keys 14 = .ok (.ireturn, 1) := by decide +kernel
theorem dL_keys_15 : decode cL_keys 15 = .ok (.astore_n 3, 1) := by decide +kernel
theorem dL_keys_16 : decode cL_keys 16 = .ok (.iconst 2, 1) := by decide +kernel
theorem dL_keys_17 : decode cL_keys 17 = .ok (.ireturn, 1) := by decide +kernel
theorem dL_keys_18 : decode cL_keys 18 = .ok (.iconst 0, 1) := by decide +kernel
theorem dL_keys_19 : decode cL_keys 19 = .ok (.ireturn, 1) := by decide +kernel
theorem ggL_isAsked_X6_isAsked : GoodIn wsL_isAsked wsX6_isAsked := goodIn_ca (goodIn_ca (goodIn_r _ [7, 8, 9, 10, 11, 12, 6, 13, 14, 15, 16, 17, 18, 19, 20, 21, 22, 23, 24, 25, 26, 27, 28, 29, 30, 31, 32, 33, 34, 35, 36, 37, 38, 39, 40, 41, 42, 43, 44, 45, 46, 47, 48, 49, 50, 51, 52, 53, 54, 55, 56, 57, 58, 59, 60] (by decide +kernel) (by decide +kernel)) (goodIn_sub (fun _ h => List.mem_cons_of_mem _ (List.mem_append_left _ (List.mem_append_right _ h))) (by decide +kernel))) (goodIn_sub (fun _ h => List.mem_cons_of_mem _ (List.mem_append_right _ h)) (by decide +kernel))
theorem gL_isAsked_X6_isAsked : GoodIn wsL_isAsked (wsV RL 78 RX6 yX6_isAsked wsX6_isAsked) := goodIn_app (goodIn_of _ (by decide +kernel)) ggL_isAsked_X6_isAsked
theorem dL_isAsked_0 : decode cL_isAsked 0 = .ok (.aload_n 2, 1) := by decide +kernel
theorem dL_isAsked_1 : decode cL_isAsked 1 = .ok (.iconst 0, 1) := by decide +kernel
theorem dL_isAsked_2 : decode cL_isAsked 2 = .ok (.aload_n 0, 1) := by decide +kernel
theorem dL_isAsked_3 : decode cL_isAsked 3 = .ok (.iload_n 1, 1) := by decide +kernel
theorem dL_isAsked_4 : decode cL_isAsked 4 = .ok (.invokevirtual 78, 3) := by decide +kernel
theorem dL_isAsked_7 : decode cL_isAsked 7 = .ok (.ifCond .eq 7, 3) := by decide +kernel
theorem dL_isAsked_10 : decode cL_isAsked 10 = .ok (.lconst 1, 1) := by decide +kernel
theorem dL_isAsked_11 : decode cL_isAsked 11 = .ok (.goto 4, 3) := by decide +kernel
theorem dL_isAsked_14 : decode cL_isAsked 14 = .ok (.lconst 0, 1) := by decide +kernel
theorem dL_isAsked_15 : decode cL_isAsked 15 = .ok (.lastore, 1) := by decide +kernel
theorem dL_isAsked_16 : decode cL_isAsked 16 = .ok (.goto 9, 3) := by decide +kernel
theorem dL_isAsked_19 : decode cL_isAsked 19 = .ok (.astore_n 3, 1) := by decide +kernel
theorem dL_isAsked_20 : decode cL_isAsked 20 = .ok (.iconst 1, 1) := by decide +kernel
theorem dL_isAsked_21 : decode cL_isAsked 21 = .ok (.ireturn, 1) := by decide +kernel
theorem dL_isAsked_22 : decode cL_isAsked 22 = .ok (.astore_n 3, 1) := by decide +kernel
theorem dL_isAsked_23 : decode cL_isAsked 23 = .ok (.iconst 2, 1) := by decide +kernel
theorem dL_isAsked_24 : decode cL_isAsked 24 = .ok (.ireturn, 1) := by decide +kernel
theorem dL_isAsked_25 : decode cL_isAsked 25 = .ok (.iconst 0, 1) := by decide +kernel
theorem dL_isAsked_26 : decode cL_isAsked 26 = .ok (.ireturn, 1) := by decide +kernel
