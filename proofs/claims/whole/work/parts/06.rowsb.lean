theorem dX6_makeKeys_0 : decode cX6_makeKeys 0 = .ok (.iconst 0, 1) := by decide +kernel
theorem dX6_makeKeys_1 : decode cX6_makeKeys 1 = .ok (.istore_n 1, 1) := by decide +kernel
theorem dX6_makeKeys_2 : decode cX6_makeKeys 2 = .ok (.iconst 0, 1) := by decide +kernel
theorem dX6_makeKeys_3 : decode cX6_makeKeys 3 = .ok (.istore_n 2, 1) := by decide +kernel
theorem dX6_makeKeys_4 : decode cX6_makeKeys 4 = .ok (.iload_n 2, 1) := by decide +kernel
theorem dX6_makeKeys_5 : decode cX6_makeKeys 5 = .ok (.bipush 6, 2) := by decide +kernel
theorem dX6_makeKeys_7 : decode cX6_makeKeys 7 = .ok (.if_icmp .ge 47, 3) := by decide +kernel
theorem dX6_makeKeys_10 : decode cX6_makeKeys 10 = .ok (.aload_n 0, 1) := by decide +kernel
theorem dX6_makeKeys_11 : decode cX6_makeKeys 11 = .ok (.getfield 19, 3) := by decide +kernel
theorem dX6_makeKeys_14 : decode cX6_makeKeys 14 = .ok (.iload_n 2, 1) := by decide +kernel
theorem dX6_makeKeys_15 : decode cX6_makeKeys 15 = .ok (.aload_n 0, 1) := by decide +kernel
theorem dX6_makeKeys_16 : decode cX6_makeKeys 16 = .ok (.getfield 51, 3) := by decide +kernel
theorem dX6_makeKeys_19 : decode cX6_makeKeys 19 = .ok (.invokevirtual 216, 3) := by decide +kernel
theorem dX6_makeKeys_22 : decode cX6_makeKeys 22 = .ok (.ifCond .eq 26, 3) := by decide +kernel
theorem dX6_makeKeys_25 : decode cX6_makeKeys 25 = .ok (.aload_n 0, 1) := by decide +kernel
theorem dX6_makeKeys_26 : decode cX6_makeKeys 26 = .ok (.getfield 19, 3) := by decide +kernel
theorem dX6_makeKeys_29 : decode cX6_makeKeys 29 = .ok (.iload_n 2, 1) := by decide +kernel
theorem dX6_makeKeys_30 : decode cX6_makeKeys 30 = .ok (.aload_n 0, 1) := by decide +kernel
theorem dX6_makeKeys_31 : decode cX6_makeKeys 31 = .ok (.getfield 51, 3) := by decide +kernel
theorem dX6_makeKeys_34 : decode cX6_makeKeys 34 = .ok (.invokevirtual 220, 3) := by decide +kernel
theorem dX6_makeKeys_37 : decode cX6_makeKeys 37 = .ok (.aload_n 0, 1) := by decide +kernel
theorem dX6_makeKeys_38 : decode cX6_makeKeys 38 = .ok (.getfield 47, 3) := by decide +kernel
theorem dX6_makeKeys_41 : decode cX6_makeKeys 41 = .ok (.iload_n 2, 1) := by decide +kernel
theorem dX6_makeKeys_42 : decode cX6_makeKeys 42 = .ok (.invokevirtual 224, 3) := by decide +kernel
theorem dX6_makeKeys_45 : decode cX6_makeKeys 45 = .ok (.iinc 1 1, 3) := by decide +kernel
theorem dX6_makeKeys_48 : decode cX6_makeKeys 48 = .ok (.iinc 2 1, 3) := by decide +kernel
theorem dX6_makeKeys_51 : decode cX6_makeKeys 51 = .ok (.goto (-47), 3) := by decide +kernel
theorem dX6_makeKeys_54 : decode cX6_makeKeys 54 = .ok (.iload_n 1, 1) := by decide +kernel
theorem dX6_makeKeys_55 : decode cX6_makeKeys 55 = .ok (.ireturn, 1) := by decide +kernel
set_option maxRecDepth 20000 in
theorem ggX6_fillView_X1_clear : GoodIn wsX6_fillView wsX1_clear := goodIn_r _ [12, 13, 67, 68] (by decide +kernel) (by decide +kernel)
set_option maxRecDepth 20000 in
theorem gX6_fillView_X1_clear : GoodIn wsX6_fillView (wsV RX6 227 RX1 yX1_clear wsX1_clear) := goodIn_app (goodIn_of _ (by decide +kernel)) ggX6_fillView_X1_clear
set_option maxRecDepth 20000 in
theorem ggX6_fillView_X6_showStream : GoodIn wsX6_fillView wsX6_showStream := goodIn_r _ [18, 4, 6, 7, 1, 19, 2, 20, 21, 22, 23, 24, 25, 26, 27, 28, 29, 11, 30, 13, 31, 32, 33, 34, 35, 36, 42, 43, 44, 45, 46, 47, 48, 60, 61, 62, 63, 64, 65, 66, 67, 68, 49, 50, 51, 52, 53, 54, 55, 56, 57, 58, 59] (by decide +kernel) (by decide +kernel)
set_option maxRecDepth 20000 in
theorem gX6_fillView_X6_showStream : GoodIn wsX6_fillView (wsV RX6 230 RX6 yX6_showStream wsX6_showStream) := goodIn_app (goodIn_of _ (by decide +kernel)) ggX6_fillView_X6_showStream
set_option maxRecDepth 20000 in
theorem ggX6_fillView_X6_showStreams : GoodIn wsX6_fillView wsX6_showStreams := goodIn_r _ [40, 19, 41, 14, 15, 16, 17, 18, 4, 6, 7, 1, 2, 20, 21, 22, 23, 24, 25, 26, 27, 28, 29, 11, 30, 13, 31, 32, 33, 34, 35, 36, 67, 68, 42, 43, 44, 45, 46, 47, 48, 60, 61, 62, 63, 64, 65, 66, 49, 50, 51, 52, 53, 54, 55, 56, 57, 58, 59] (by decide +kernel) (by decide +kernel)
set_option maxRecDepth 20000 in
theorem gX6_fillView_X6_showStreams : GoodIn wsX6_fillView (wsV RX6 236 RX6 yX6_showStreams wsX6_showStreams) := goodIn_app (goodIn_of _ (by decide +kernel)) ggX6_fillView_X6_showStreams
theorem dX6_fillView_0 : decode cX6_fillView 0 = .ok (.aload_n 0, 1) := by decide +kernel
theorem dX6_fillView_1 : decode cX6_fillView 1 = .ok (.getfield 33, 3) := by decide +kernel
theorem dX6_fillView_4 : decode cX6_fillView 4 = .ok (.invokevirtual 227, 3) := by decide +kernel
theorem dX6_fillView_7 : decode cX6_fillView 7 = .ok (.aload_n 0, 1) := by decide +kernel
theorem dX6_fillView_8 : decode cX6_fillView 8 = .ok (.iload_n 1, 1) := by decide +kernel
theorem dX6_fillView_9 : decode cX6_fillView 9 = .ok (.aload_n 0, 1) := by decide +kernel
theorem dX6_fillView_10 : decode cX6_fillView 10 = .ok (.getfield 26, 3) := by decide +kernel
theorem dX6_fillView_13 : decode cX6_fillView 13 = .ok (.getfield 114, 3) := by decide +kernel
theorem dX6_fillView_16 : decode cX6_fillView 16 = .ok (.iload_n 1, 1) := by decide +kernel
theorem dX6_fillView_17 : decode cX6_fillView 17 = .ok (.iaload, 1) := by decide +kernel
theorem dX6_fillView_18 : decode cX6_fillView 18 = .ok (.invokevirtual 230, 3) := by decide +kernel
theorem dX6_fillView_21 : decode cX6_fillView 21 = .ok (.aload_n 0, 1) := by decide +kernel
theorem dX6_fillView_22 : decode cX6_fillView 22 = .ok (.iload_n 1, 1) := by decide +kernel
theorem dX6_fillView_23 : decode cX6_fillView 23 = .ok (.aload_n 0, 1) := by decide +kernel
theorem dX6_fillView_24 : decode cX6_fillView 24 = .ok (.getfield 10, 3) := by decide +kernel
theorem dX6_fillView_27 : decode cX6_fillView 27 = .ok (.getfield 233, 3) := by decide +kernel
theorem dX6_fillView_30 : decode cX6_fillView 30 = .ok (.invokevirtual 236, 3) := by decide +kernel
theorem dX6_fillView_33 : decode cX6_fillView 33 = .ok (.aload_n 0, 1) := by decide +kernel
theorem dX6_fillView_34 : decode cX6_fillView 34 = .ok (.iload_n 1, 1) := by decide +kernel
theorem dX6_fillView_35 : decode cX6_fillView 35 = .ok (.aload_n 0, 1) := by decide +kernel
theorem dX6_fillView_36 : decode cX6_fillView 36 = .ok (.getfield 19, 3) := by decide +kernel
theorem dX6_fillView_39 : decode cX6_fillView 39 = .ok (.getfield 182, 3) := by decide +kernel
theorem dX6_fillView_42 : decode cX6_fillView 42 = .ok (.invokevirtual 236, 3) := by decide +kernel
theorem dX6_fillView_45 : decode cX6_fillView 45 = .ok (.return_, 1) := by decide +kernel
set_option maxRecDepth 20000 in
theorem ggX6_showStreams_X6_showStream : GoodIn wsX6_showStreams wsX6_showStream := goodIn_r _ [7, 8, 9, 10, 11, 1, 12, 13, 14, 15, 16, 17, 18, 19, 20, 21, 22, 23, 24, 25, 26, 27, 28, 29, 30, 31, 34, 35, 36, 37, 38, 39, 40, 41, 42, 43, 44, 45, 46, 47, 32, 33, 48, 49, 50, 51, 52, 53, 54, 55, 56, 57, 58] (by decide +kernel) (by decide +kernel)
set_option maxRecDepth 20000 in
theorem gX6_showStreams_X6_showStream : GoodIn wsX6_showStreams (wsV RX6 230 RX6 yX6_showStream wsX6_showStream) := goodIn_app (goodIn_of _ (by decide +kernel)) ggX6_showStreams_X6_showStream
theorem dX6_showStreams_0 : decode cX6_showStreams 0 = .ok (.iconst 0, 1) := by decide +kernel
theorem dX6_showStreams_1 : decode cX6_showStreams 1 = .ok (.istore_n 3, 1) := by decide +kernel
theorem dX6_showStreams_2 : decode cX6_showStreams 2 = .ok (.iload_n 3, 1) := by decide +kernel
theorem dX6_showStreams_3 : decode cX6_showStreams 3 = .ok (.aload_n 2, 1) := by decide +kernel
theorem dX6_showStreams_4 : decode cX6_showStreams 4 = .ok (.getfield 138, 3) := by decide +kernel
theorem dX6_showStreams_7 : decode cX6_showStreams 7 = .ok (.if_icmp .ge 20, 3) := by decide +kernel
theorem dX6_showStreams_10 : decode cX6_showStreams 10 = .ok (.aload_n 0, 1) := by decide +kernel
theorem dX6_showStreams_11 : decode cX6_showStreams 11 = .ok (.iload_n 1, 1) := by decide +kernel
theorem dX6_showStreams_12 : decode cX6_showStreams 12 = .ok (.aload_n 2, 1) := by decide +kernel
theorem dX6_showStreams_13 : decode cX6_showStreams 13 = .ok (.getfield 146, 3) := by decide +kernel
theorem dX6_showStreams_16 : decode cX6_showStreams 16 = .ok (.iload_n 3, 1) := by decide +kernel
theorem dX6_showStreams_17 : decode cX6_showStreams 17 = .ok (.iaload, 1) := by decide +kernel
theorem dX6_showStreams_18 : decode cX6_showStreams 18 = .ok (.invokevirtual 230, 3) := by decide +kernel
theorem dX6_showStreams_21 : decode cX6_showStreams 21 = .ok (.iinc 3 1, 3) := by decide +kernel
theorem dX6_showStreams_24 : decode cX6_showStreams 24 = .ok (.goto (-22), 3) := by decide +kernel
theorem dX6_showStreams_27 : decode cX6_showStreams 27 = .ok (.return_, 1) := by decide +kernel
set_option maxRecDepth 20000 in
theorem ggX6_showStream_X0_isHere : GoodIn wsX6_showStream wsX0_isHere := goodIn_r _ [12, 13, 45, 46, 47, 48, 49, 50, 51, 52] (by decide +kernel) (by decide +kernel)
set_option maxRecDepth 20000 in
theorem gX6_showStream_X0_isHere : GoodIn wsX6_showStream (wsV RX6 173 RX0 yX0_isHere wsX0_isHere) := goodIn_app (goodIn_of _ (by decide +kernel)) ggX6_showStream_X0_isHere
set_option maxRecDepth 20000 in
theorem ggX6_showStream_X1_holds : GoodIn wsX6_showStream wsX1_holds := goodIn_r _ [18, 19, 20, 40, 41] (by decide +kernel) (by decide +kernel)
set_option maxRecDepth 20000 in
theorem gX6_showStream_X1_holds : GoodIn wsX6_showStream (wsV RX6 185 RX1 yX1_holds wsX1_holds) := goodIn_app (goodIn_of _ (by decide +kernel)) ggX6_showStream_X1_holds
set_option maxRecDepth 20000 in
theorem ggX6_showStream_X1_putLast : GoodIn wsX6_showStream wsX1_putLast := goodIn_r _ [24, 19, 20, 25, 15, 16, 17, 18, 40, 41] (by decide +kernel) (by decide +kernel)
set_option maxRecDepth 20000 in
theorem gX6_showStream_X1_putLast : GoodIn wsX6_showStream (wsV RX6 240 RX1 yX1_putLast wsX1_putLast) := goodIn_app (goodIn_of _ (by decide +kernel)) ggX6_showStream_X1_putLast
theorem dX6_showStream_0 : decode cX6_showStream 0 = .ok (.aload_n 0, 1) := by decide +kernel
theorem dX6_showStream_1 : decode cX6_showStream 1 = .ok (.getfield 10, 3) := by decide +kernel
theorem dX6_showStream_4 : decode cX6_showStream 4 = .ok (.iload_n 2, 1) := by decide +kernel
theorem dX6_showStream_5 : decode cX6_showStream 5 = .ok (.invokevirtual 173, 3) := by decide +kernel
theorem dX6_showStream_8 : decode cX6_showStream 8 = .ok (.ifCond .eq 22, 3) := by decide +kernel
theorem dX6_showStream_11 : decode cX6_showStream 11 = .ok (.iload_n 2, 1) := by decide +kernel
theorem dX6_showStream_12 : decode cX6_showStream 12 = .ok (.iload_n 1, 1) := by decide +kernel
theorem dX6_showStream_13 : decode cX6_showStream 13 = .ok (.if_icmp .eq 17, 3) := by decide +kernel
theorem dX6_showStream_16 : decode cX6_showStream 16 = .ok (.aload_n 0, 1) := by decide +kernel
theorem dX6_showStream_17 : decode cX6_showStream 17 = .ok (.getfield 19, 3) := by decide +kernel
theorem dX6_showStream_20 : decode cX6_showStream 20 = .ok (.getfield 182, 3) := by decide +kernel
theorem dX6_showStream_23 : decode cX6_showStream 23 = .ok (.iload_n 2, 1) := by decide +kernel
theorem dX6_showStream_24 : decode cX6_showStream 24 = .ok (.invokevirtual 185, 3) := by decide +kernel
theorem dX6_showStream_27 : decode cX6_showStream 27 = .ok (.ifCond .ne 4, 3) := by decide +kernel
theorem dX6_showStream_30 : decode cX6_showStream 30 = .ok (.return_, 1) := by decide +kernel
theorem dX6_showStream_31 : decode cX6_showStream 31 = .ok (.aload_n 0, 1) := by decide +kernel
theorem dX6_showStream_32 : decode cX6_showStream 32 = .ok (.getfield 33, 3) := by decide +kernel
theorem dX6_showStream_35 : decode cX6_showStream 35 = .ok (.getfield 138, 3) := by decide +kernel
theorem dX6_showStream_38 : decode cX6_showStream 38 = .ok (.aload_n 0, 1) := by decide +kernel
theorem dX6_showStream_39 : decode cX6_showStream 39 = .ok (.getfield 26, 3) := by decide +kernel
theorem dX6_showStream_42 : decode cX6_showStream 42 = .ok (.getfield 117, 3) := by decide +kernel
theorem dX6_showStream_45 : decode cX6_showStream 45 = .ok (.iload_n 1, 1) := by decide +kernel
theorem dX6_showStream_46 : decode cX6_showStream 46 = .ok (.iaload, 1) := by decide +kernel
theorem dX6_showStream_47 : decode cX6_showStream 47 = .ok (.if_icmp .ge 11, 3) := by decide +kernel
theorem dX6_showStream_50 : decode cX6_showStream 50 = .ok (.aload_n 0, 1) := by decide +kernel
theorem dX6_showStream_51 : decode cX6_showStream 51 = .ok (.getfield 33, 3) := by decide +kernel
theorem dX6_showStream_54 : decode cX6_showStream 54 = .ok (.iload_n 2, 1) := by decide +kernel
theorem dX6_showStream_55 : decode cX6_showStream 55 = .ok (.invokevirtual 240, 3) := by decide +kernel
theorem dX6_showStream_58 : decode cX6_showStream 58 = .ok (.return_, 1) := by decide +kernel
set_option maxRecDepth 20000 in
theorem ggX6_stopStream_X4_stop : GoodIn wsX6_stopStream wsX4_stop := goodIn_r _ [7, 8, 9, 10, 11, 12, 13, 14, 15, 16, 17, 31, 32, 33, 34, 35, 36, 37, 38, 39] (by decide +kernel) (by decide +kernel)
set_option maxRecDepth 20000 in
theorem gX6_stopStream_X4_stop : GoodIn wsX6_stopStream (wsV RX6 243 RX4 yX4_stop wsX4_stop) := goodIn_app (goodIn_of _ (by decide +kernel)) ggX6_stopStream_X4_stop
set_option maxRecDepth 20000 in
theorem ggX6_stopStream_X2_clearStream : GoodIn wsX6_stopStream wsX2_clearStream := goodIn_r _ [22, 23, 40, 41] (by decide +kernel) (by decide +kernel)
set_option maxRecDepth 20000 in
theorem gX6_stopStream_X2_clearStream : GoodIn wsX6_stopStream (wsV RX6 246 RX2 yX2_clearStream wsX2_clearStream) := goodIn_app (goodIn_of _ (by decide +kernel)) ggX6_stopStream_X2_clearStream
theorem dX6_stopStream_0 : decode cX6_stopStream 0 = .ok (.aload_n 0, 1) := by decide +kernel
theorem dX6_stopStream_1 : decode cX6_stopStream 1 = .ok (.getfield 19, 3) := by decide +kernel
theorem dX6_stopStream_4 : decode cX6_stopStream 4 = .ok (.iload_n 1, 1) := by decide +kernel
theorem dX6_stopStream_5 : decode cX6_stopStream 5 = .ok (.invokevirtual 243, 3) := by decide +kernel
theorem dX6_stopStream_8 : decode cX6_stopStream 8 = .ok (.aload_n 0, 1) := by decide +kernel
theorem dX6_stopStream_9 : decode cX6_stopStream 9 = .ok (.getfield 47, 3) := by decide +kernel
theorem dX6_stopStream_12 : decode cX6_stopStream 12 = .ok (.iload_n 1, 1) := by decide +kernel
theorem dX6_stopStream_13 : decode cX6_stopStream 13 = .ok (.invokevirtual 246, 3) := by decide +kernel
theorem dX6_stopStream_16 : decode cX6_stopStream 16 = .ok (.return_, 1) := by decide +kernel
theorem dX7_init_0 : decode cX7_init 0 = .ok (.aload_n 0, 1) := by decide +kernel
theorem dX7_init_1 : decode cX7_init 1 = .ok (.invokespecial 1, 3) := by decide +kernel
theorem dX7_init_4 : decode cX7_init 4 = .ok (.aload_n 0, 1) := by decide +kernel
theorem dX7_init_5 : decode cX7_init 5 = .ok (.iconst 2, 1) := by decide +kernel
theorem dX7_init_6 : decode cX7_init 6 = .ok (.putfield 7, 3) := by decide +kernel
theorem dX7_init_9 : decode cX7_init 9 = .ok (.aload_n 0, 1) := by decide +kernel
theorem dX7_init_10 : decode cX7_init 10 = .ok (.iconst 3, 1) := by decide +kernel
theorem dX7_init_11 : decode cX7_init 11 = .ok (.putfield 13, 3) := by decide +kernel
theorem dX7_init_14 : decode cX7_init 14 = .ok (.aload_n 0, 1) := by decide +kernel
theorem dX7_init_15 : decode cX7_init 15 = .ok (.bipush 6, 2) := by decide +kernel
theorem dX7_init_17 : decode cX7_init 17 = .ok (.newarray .boolean, 2) := by decide +kernel
theorem dX7_init_19 : decode cX7_init 19 = .ok (.putfield 16, 3) := by decide +kernel
theorem dX7_init_22 : decode cX7_init 22 = .ok (.aload_n 0, 1) := by decide +kernel
theorem dX7_init_23 : decode cX7_init 23 = .ok (.bipush 6, 2) := by decide +kernel
theorem dX7_init_25 : decode cX7_init 25 = .ok (.newarray .boolean, 2) := by decide +kernel
theorem dX7_init_27 : decode cX7_init 27 = .ok (.putfield 20, 3) := by decide +kernel
theorem dX7_init_30 : decode cX7_init 30 = .ok (.aload_n 0, 1) := by decide +kernel
theorem dX7_init_31 : decode cX7_init 31 = .ok (.bipush 6, 2) := by decide +kernel
theorem dX7_init_33 : decode cX7_init 33 = .ok (.newarray .int, 2) := by decide +kernel
theorem dX7_init_35 : decode cX7_init 35 = .ok (.putfield 23, 3) := by decide +kernel
theorem dX7_init_38 : decode cX7_init 38 = .ok (.aload_n 0, 1) := by decide +kernel
theorem dX7_init_39 : decode cX7_init 39 = .ok (.bipush 6, 2) := by decide +kernel
theorem dX7_init_41 : decode cX7_init 41 = .ok (.newarray .int, 2) := by decide +kernel
theorem dX7_init_43 : decode cX7_init 43 = .ok (.putfield 27, 3) := by decide +kernel
theorem dX7_init_46 : decode cX7_init 46 = .ok (.aload_n 0, 1) := by decide +kernel
theorem dX7_init_47 : decode cX7_init 47 = .ok (.bipush 6, 2) := by decide +kernel
theorem dX7_init_49 : decode cX7_init 49 = .ok (.newarray .int, 2) := by decide +kernel
theorem dX7_init_51 : decode cX7_init 51 = .ok (.putfield 30, 3) := by decide +kernel
theorem dX7_init_54 : decode cX7_init 54 = .ok (.aload_n 0, 1) := by decide +kernel
theorem dX7_init_55 : decode cX7_init 55 = .ok (.bipush 6, 2) := by decide +kernel
theorem dX7_init_57 : decode cX7_init 57 = .ok (.newarray .int, 2) := by decide +kernel
theorem dX7_init_59 : decode cX7_init 59 = .ok (.putfield 33, 3) := by decide +kernel
theorem dX7_init_62 : decode cX7_init 62 = .ok (.aload_n 0, 1) := by decide +kernel
theorem dX7_init_63 : decode cX7_init 63 = .ok (.bipush 6, 2) := by decide +kernel
theorem dX7_init_65 : decode cX7_init 65 = .ok (.newarray .boolean, 2) := by decide +kernel
theorem dX7_init_67 : decode cX7_init 67 = .ok (.putfield 36, 3) := by decide +kernel
theorem dX7_init_70 : decode cX7_init 70 = .ok (.aload_n 0, 1) := by decide +kernel
theorem dX7_init_71 : decode cX7_init 71 = .ok (.bipush 6, 2) := by decide +kernel
theorem dX7_init_73 : decode cX7_init 73 = .ok (.newarray .int, 2) := by decide +kernel
theorem dX7_init_75 : decode cX7_init 75 = .ok (.putfield 39, 3) := by decide +kernel
theorem dX7_init_78 : decode cX7_init 78 = .ok (.aload_n 0, 1) := by decide +kernel
theorem dX7_init_79 : decode cX7_init 79 = .ok (.bipush 6, 2) := by decide +kernel
theorem dX7_init_81 : decode cX7_init 81 = .ok (.newarray .int, 2) := by decide +kernel
theorem dX7_init_83 : decode cX7_init 83 = .ok (.putfield 42, 3) := by decide +kernel
theorem dX7_init_86 : decode cX7_init 86 = .ok (.aload_n 0, 1) := by decide +kernel
theorem dX7_init_87 : decode cX7_init 87 = .ok (.bipush 6, 2) := by decide +kernel
theorem dX7_init_89 : decode cX7_init 89 = .ok (.newarray .int, 2) := by decide +kernel
theorem dX7_init_91 : decode cX7_init 91 = .ok (.putfield 45, 3) := by decide +kernel
theorem dX7_init_94 : decode cX7_init 94 = .ok (.aload_n 0, 1) := by decide +kernel
theorem dX7_init_95 : decode cX7_init 95 = .ok (.bipush 6, 2) := by decide +kernel
theorem dX7_init_97 : decode cX7_init 97 = .ok (.newarray .int, 2) := by decide +kernel
theorem dX7_init_99 : decode cX7_init 99 = .ok (.putfield 48, 3) := by decide +kernel
theorem dX7_init_102 : decode cX7_init 102 = .ok (.aload_n 0, 1) := by decide +kernel
theorem dX7_init_103 : decode cX7_init 103 = .ok (.bipush 6, 2) := by decide +kernel
theorem dX7_init_105 : decode cX7_init 105 = .ok (.newarray .int, 2) := by decide +kernel
theorem dX7_init_107 : decode cX7_init 107 = .ok (.putfield 51, 3) := by decide +kernel
theorem dX7_init_110 : decode cX7_init 110 = .ok (.aload_n 0, 1) := by decide +kernel
theorem dX7_init_111 : decode cX7_init 111 = .ok (.bipush 6, 2) := by decide +kernel
theorem dX7_init_113 : decode cX7_init 113 = .ok (.newarray .boolean, 2) := by decide +kernel
theorem dX7_init_115 : decode cX7_init 115 = .ok (.putfield 54, 3) := by decide +kernel
theorem dX7_init_118 : decode cX7_init 118 = .ok (.aload_n 0, 1) := by decide +kernel
theorem dX7_init_119 : decode cX7_init 119 = .ok (.bipush 36, 2) := by decide +kernel
theorem dX7_init_121 : decode cX7_init 121 = .ok (.newarray .int, 2) := by decide +kernel
theorem dX7_init_123 : decode cX7_init 123 = .ok (.putfield 57, 3) := by decide +kernel
theorem dX7_init_126 : decode cX7_init 126 = .ok (.aload_n 0, 1) := by decide +kernel
theorem dX7_init_127 : decode cX7_init 127 = .ok (.iconst (-1), 1) := by decide +kernel
theorem dX7_init_128 : decode cX7_init 128 = .ok (.putfield 60, 3) := by decide +kernel
theorem dX7_init_131 : decode cX7_init 131 = .ok (.aload_n 0, 1) := by decide +kernel
theorem dX7_init_132 : decode cX7_init 132 = .ok (.bipush 6, 2) := by decide +kernel
theorem dX7_init_134 : decode cX7_init 134 = .ok (.newarray .int, 2) := by decide +kernel
theorem dX7_init_136 : decode cX7_init 136 = .ok (.putfield 63, 3) := by decide +kernel
theorem dX7_init_139 : decode cX7_init 139 = .ok (.aload_n 0, 1) := by decide +kernel
theorem dX7_init_140 : decode cX7_init 140 = .ok (.iconst (-1), 1) := by decide +kernel
theorem dX7_init_141 : decode cX7_init 141 = .ok (.putfield 66, 3) := by decide +kernel
theorem dX7_init_144 : decode cX7_init 144 = .ok (.aload_n 0, 1) := by decide +kernel
theorem dX7_init_145 : decode cX7_init 145 = .ok (.bipush 6, 2) := by decide +kernel
theorem dX7_init_147 : decode cX7_init 147 = .ok (.newarray .int, 2) := by decide +kernel
theorem dX7_init_149 : decode cX7_init 149 = .ok (.putfield 69, 3) := by decide +kernel
theorem dX7_init_152 : decode cX7_init 152 = .ok (.aload_n 0, 1) := by decide +kernel
theorem dX7_init_153 : decode cX7_init 153 = .ok (.bipush 6, 2) := by decide +kernel
theorem dX7_init_155 : decode cX7_init 155 = .ok (.newarray .int, 2) := by decide +kernel
theorem dX7_init_157 : decode cX7_init 157 = .ok (.putfield 72, 3) := by decide +kernel
theorem dX7_init_160 : decode cX7_init 160 = .ok (.aload_n 0, 1) := by decide +kernel
theorem dX7_init_161 : decode cX7_init 161 = .ok (.iconst 0, 1) := by decide +kernel
theorem dX7_init_162 : decode cX7_init 162 = .ok (.putfield 75, 3) := by decide +kernel
theorem dX7_init_165 : decode cX7_init 165 = .ok (.return_, 1) := by decide +kernel
theorem dX7_thrown_0 : decode cX7_thrown 0 = .ok (.aload_n 0, 1) := by decide +kernel
theorem dX7_thrown_1 : decode cX7_thrown 1 = .ok (.getfield 75, 3) := by decide +kernel
theorem dX7_thrown_4 : decode cX7_thrown 4 = .ok (.ireturn, 1) := by decide +kernel
theorem dX7_fails_0 : decode cX7_fails 0 = .ok (.aload_n 0, 1) := by decide +kernel
theorem dX7_fails_1 : decode cX7_fails 1 = .ok (.iload_n 1, 1) := by decide +kernel
theorem dX7_fails_2 : decode cX7_fails 2 = .ok (.putfield 75, 3) := by decide +kernel
theorem dX7_fails_5 : decode cX7_fails 5 = .ok (.iconst 0, 1) := by decide +kernel
theorem dX7_fails_6 : decode cX7_fails 6 = .ok (.ireturn, 1) := by decide +kernel
theorem dX7_in_0 : decode cX7_in 0 = .ok (.iload_n 0, 1) := by decide +kernel
theorem dX7_in_1 : decode cX7_in 1 = .ok (.iload_n 1, 1) := by decide +kernel
theorem dX7_in_2 : decode cX7_in 2 = .ok (.if_icmp .lt 12, 3) := by decide +kernel
theorem dX7_in_5 : decode cX7_in 5 = .ok (.iload_n 0, 1) := by decide +kernel
theorem dX7_in_6 : decode cX7_in 6 = .ok (.iload_n 2, 1) := by decide +kernel
theorem dX7_in_7 : decode cX7_in 7 = .ok (.if_icmp .gt 7, 3) := by decide +kernel
theorem dX7_in_10 : decode cX7_in 10 = .ok (.iconst 1, 1) := by decide +kernel
theorem dX7_in_11 : decode cX7_in 11 = .ok (.goto 4, 3) := by decide +kernel
theorem dX7_in_14 : decode cX7_in 14 = .ok (.iconst 0, 1) := by decide +kernel
theorem dX7_in_15 : decode cX7_in 15 = .ok (.ireturn, 1) := by decide +kernel
set_option maxRecDepth 20000 in
theorem ggX7_isPerson_X7_in : GoodIn wsX7_isPerson wsX7_in := goodIn_r _ [5] (by decide +kernel) (by decide +kernel)
set_option maxRecDepth 20000 in
theorem gX7_isPerson_X7_in : GoodIn wsX7_isPerson (va_wsS RX7 78 yX7_in wsX7_in) := goodIn_app (goodIn_of _ (by decide +kernel)) ggX7_isPerson_X7_in
theorem dX7_isPerson_0 : decode cX7_isPerson 0 = .ok (.iload_n 1, 1) := by decide +kernel
theorem dX7_isPerson_1 : decode cX7_isPerson 1 = .ok (.iconst 0, 1) := by decide +kernel
theorem dX7_isPerson_2 : decode cX7_isPerson 2 = .ok (.iconst 5, 1) := by decide +kernel
theorem dX7_isPerson_3 : decode cX7_isPerson 3 = .ok (.invokestatic 78, 3) := by decide +kernel
theorem dX7_isPerson_6 : decode cX7_isPerson 6 = .ok (.ifCond .eq 16, 3) := by decide +kernel
theorem dX7_isPerson_9 : decode cX7_isPerson 9 = .ok (.aload_n 0, 1) := by decide +kernel
theorem dX7_isPerson_10 : decode cX7_isPerson 10 = .ok (.getfield 16, 3) := by decide +kernel
theorem dX7_isPerson_13 : decode cX7_isPerson 13 = .ok (.iload_n 1, 1) := by decide +kernel
theorem dX7_isPerson_14 : decode cX7_isPerson 14 = .ok (.baload, 1) := by decide +kernel
theorem dX7_isPerson_15 : decode cX7_isPerson 15 = .ok (.ifCond .eq 7, 3) := by decide +kernel
theorem dX7_isPerson_18 : decode cX7_isPerson 18 = .ok (.iconst 1, 1) := by decide +kernel
theorem dX7_isPerson_19 : decode cX7_isPerson 19 = .ok (.goto 4, 3) := by decide +kernel
theorem dX7_isPerson_22 : decode cX7_isPerson 22 = .ok (.iconst 0, 1) := by decide +kernel
theorem dX7_isPerson_23 : decode cX7_isPerson 23 = .ok (.ireturn, 1) := by decide +kernel
theorem dX7_shows_0 : decode cX7_shows 0 = .ok (.iload_n 2, 1) := by decide +kernel
theorem dX7_shows_1 : decode cX7_shows 1 = .ok (.iconst (-1), 1) := by decide +kernel
theorem dX7_shows_2 : decode cX7_shows 2 = .ok (.if_icmp .eq 43, 3) := by decide +kernel
theorem dX7_shows_5 : decode cX7_shows 5 = .ok (.iload_n 2, 1) := by decide +kernel
theorem dX7_shows_6 : decode cX7_shows 6 = .ok (.iload_n 1, 1) := by decide +kernel
theorem dX7_shows_7 : decode cX7_shows 7 = .ok (.if_icmp .eq 38, 3) := by decide +kernel
theorem dX7_shows_10 : decode cX7_shows 10 = .ok (.aload_n 0, 1) := by decide +kernel
theorem dX7_shows_11 : decode cX7_shows 11 = .ok (.getfield 16, 3) := by decide +kernel
theorem dX7_shows_14 : decode cX7_shows 14 = .ok (.iload_n 2, 1) := by decide +kernel
theorem dX7_shows_15 : decode cX7_shows 15 = .ok (.baload, 1) := by decide +kernel
theorem dX7_shows_16 : decode cX7_shows 16 = .ok (.ifCond .eq 29, 3) := by decide +kernel
theorem dX7_shows_19 : decode cX7_shows 19 = .ok (.aload_n 0, 1) := by decide +kernel
theorem dX7_shows_20 : decode cX7_shows 20 = .ok (.getfield 36, 3) := by decide +kernel
theorem dX7_shows_23 : decode cX7_shows 23 = .ok (.iload_n 2, 1) := by decide +kernel
theorem dX7_shows_24 : decode cX7_shows 24 = .ok (.baload, 1) := by decide +kernel
theorem dX7_shows_25 : decode cX7_shows 25 = .ok (.ifCond .eq 20, 3) := by decide +kernel
theorem dX7_shows_28 : decode cX7_shows 28 = .ok (.aload_n 0, 1) := by decide +kernel
theorem dX7_shows_29 : decode cX7_shows 29 = .ok (.getfield 82, 3) := by decide +kernel
theorem dX7_shows_32 : decode cX7_shows 32 = .ok (.aload_n 0, 1) := by decide +kernel
theorem dX7_shows_33 : decode cX7_shows 33 = .ok (.getfield 30, 3) := by decide +kernel
theorem dX7_shows_36 : decode cX7_shows 36 = .ok (.iload_n 1, 1) := by decide +kernel
theorem dX7_shows_37 : decode cX7_shows 37 = .ok (.iaload, 1) := by decide +kernel
theorem dX7_shows_38 : decode cX7_shows 38 = .ok (.if_icmp .ge 7, 3) := by decide +kernel
theorem dX7_shows_41 : decode cX7_shows 41 = .ok (.iconst 1, 1) := by decide +kernel
theorem dX7_shows_42 : decode cX7_shows 42 = .ok (.goto 4, 3) := by decide +kernel
theorem dX7_shows_45 : decode cX7_shows 45 = .ok (.iconst 0, 1) := by decide +kernel
theorem dX7_shows_46 : decode cX7_shows 46 = .ok (.istore_n 3, 1) := by decide +kernel
theorem dX7_shows_47 : decode cX7_shows 47 = .ok (.iconst 0, 1) := by decide +kernel
theorem dX7_shows_48 : decode cX7_shows 48 = .ok (.istore 4, 2) := by decide +kernel
theorem dX7_shows_50 : decode cX7_shows 50 = .ok (.iload 4, 2) := by decide +kernel
theorem dX7_shows_52 : decode cX7_shows 52 = .ok (.aload_n 0, 1) := by decide +kernel
theorem dX7_shows_53 : decode cX7_shows 53 = .ok (.getfield 82, 3) := by decide +kernel
theorem dX7_shows_56 : decode cX7_shows 56 = .ok (.if_icmp .ge 30, 3) := by decide +kernel
theorem dX7_shows_59 : decode cX7_shows 59 = .ok (.iload_n 3, 1) := by decide +kernel
theorem dX7_shows_60 : decode cX7_shows 60 = .ok (.ifCond .eq 18, 3) := by decide +kernel
theorem dX7_shows_63 : decode cX7_shows 63 = .ok (.aload_n 0, 1) := by decide +kernel
theorem dX7_shows_64 : decode cX7_shows 64 = .ok (.getfield 69, 3) := by decide +kernel
theorem dX7_shows_67 : decode cX7_shows 67 = .ok (.iload 4, 2) := by decide +kernel
theorem dX7_shows_69 : decode cX7_shows 69 = .ok (.iaload, 1) := by decide +kernel
theorem dX7_shows_70 : decode cX7_shows 70 = .ok (.iload_n 2, 1) := by decide +kernel
theorem dX7_shows_71 : decode cX7_shows 71 = .ok (.if_icmp .eq 7, 3) := by decide +kernel
theorem dX7_shows_74 : decode cX7_shows 74 = .ok (.iconst 1, 1) := by decide +kernel
theorem dX7_shows_75 : decode cX7_shows 75 = .ok (.goto 4, 3) := by decide +kernel
theorem dX7_shows_78 : decode cX7_shows 78 = .ok (.iconst 0, 1) := by decide +kernel
theorem dX7_shows_79 : decode cX7_shows 79 = .ok (.istore_n 3, 1) := by decide +kernel
theorem dX7_shows_80 : decode cX7_shows 80 = .ok (.iinc 4 1, 3) := by decide +kernel
theorem dX7_shows_83 : decode cX7_shows 83 = .ok (.goto (-33), 3) := by decide +kernel
theorem dX7_shows_86 : decode cX7_shows 86 = .ok (.iload_n 3, 1) := by decide +kernel
theorem dX7_shows_87 : decode cX7_shows 87 = .ok (.ifCond .eq 23, 3) := by decide +kernel
theorem dX7_shows_90 : decode cX7_shows 90 = .ok (.aload_n 0, 1) := by decide +kernel
theorem dX7_shows_91 : decode cX7_shows 91 = .ok (.getfield 69, 3) := by decide +kernel
theorem dX7_shows_94 : decode cX7_shows 94 = .ok (.aload_n 0, 1) := by decide +kernel
theorem dX7_shows_95 : decode cX7_shows 95 = .ok (.getfield 82, 3) := by decide +kernel
theorem dX7_shows_98 : decode cX7_shows 98 = .ok (.iload_n 2, 1) := by decide +kernel
theorem dX7_shows_99 : decode cX7_shows 99 = .ok (.iastore, 1) := by decide +kernel
theorem dX7_shows_100 : decode cX7_shows 100 = .ok (.aload_n 0, 1) := by decide +kernel
theorem dX7_shows_101 : decode cX7_shows 101 = .ok (.dup, 1) := by decide +kernel
theorem dX7_shows_102 : decode cX7_shows 102 = .ok (.getfield 82, 3) := by decide +kernel
theorem dX7_shows_105 : decode cX7_shows 105 = .ok (.iconst 1, 1) := by decide +kernel
theorem dX7_shows_106 : decode cX7_shows 106 = .ok (.iadd, 1) := by decide +kernel
theorem dX7_shows_107 : decode cX7_shows 107 = .ok (.putfield 82, 3) := by decide +kernel
theorem dX7_shows_110 : decode cX7_shows 110 = .ok (.return_, 1) := by decide +kernel
set_option maxRecDepth 20000 in
theorem ggX7_looks_X7_shows : GoodIn wsX7_looks wsX7_shows := goodIn_r _ [12, 13, 6, 1, 14, 15, 16, 17, 18, 19, 20, 21, 22, 23, 24, 25, 26, 27, 28, 29, 30, 31, 32, 33, 34, 35, 36, 37, 38, 39, 40, 41, 42] (by decide +kernel) (by decide +kernel)
set_option maxRecDepth 20000 in
theorem gX7_looks_X7_shows : GoodIn wsX7_looks (wsV RX7 85 RX7 yX7_shows wsX7_shows) := goodIn_app (goodIn_of _ (by decide +kernel)) ggX7_looks_X7_shows
theorem dX7_looks_0 : decode cX7_looks 0 = .ok (.aload_n 0, 1) := by decide +kernel
theorem dX7_looks_1 : decode cX7_looks 1 = .ok (.iconst 0, 1) := by decide +kernel
theorem dX7_looks_2 : decode cX7_looks 2 = .ok (.putfield 82, 3) := by decide +kernel
theorem dX7_looks_5 : decode cX7_looks 5 = .ok (.aload_n 0, 1) := by decide +kernel
theorem dX7_looks_6 : decode cX7_looks 6 = .ok (.iload_n 1, 1) := by decide +kernel
theorem dX7_looks_7 : decode cX7_looks 7 = .ok (.aload_n 0, 1) := by decide +kernel
theorem dX7_looks_8 : decode cX7_looks 8 = .ok (.getfield 27, 3) := by decide +kernel
theorem dX7_looks_11 : decode cX7_looks 11 = .ok (.iload_n 1, 1) := by decide +kernel
theorem dX7_looks_12 : decode cX7_looks 12 = .ok (.iaload, 1) := by decide +kernel
theorem dX7_looks_13 : decode cX7_looks 13 = .ok (.invokevirtual 85, 3) := by decide +kernel
theorem dX7_looks_16 : decode cX7_looks 16 = .ok (.iconst 0, 1) := by decide +kernel
theorem dX7_looks_17 : decode cX7_looks 17 = .ok (.istore_n 2, 1) := by decide +kernel
theorem dX7_looks_18 : decode cX7_looks 18 = .ok (.iload_n 2, 1) := by decide +kernel
theorem dX7_looks_19 : decode cX7_looks 19 = .ok (.aload_n 0, 1) := by decide +kernel
theorem dX7_looks_20 : decode cX7_looks 20 = .ok (.getfield 89, 3) := by decide +kernel
theorem dX7_looks_23 : decode cX7_looks 23 = .ok (.if_icmp .ge 20, 3) := by decide +kernel
theorem dX7_looks_26 : decode cX7_looks 26 = .ok (.aload_n 0, 1) := by decide +kernel
theorem dX7_looks_27 : decode cX7_looks 27 = .ok (.iload_n 1, 1) := by decide +kernel
theorem dX7_looks_28 : decode cX7_looks 28 = .ok (.aload_n 0, 1) := by decide +kernel
theorem dX7_looks_29 : decode cX7_looks 29 = .ok (.getfield 63, 3) := by decide +kernel
theorem dX7_looks_32 : decode cX7_looks 32 = .ok (.iload_n 2, 1) := by decide +kernel
theorem dX7_looks_33 : decode cX7_looks 33 = .ok (.iaload, 1) := by decide +kernel
theorem dX7_looks_34 : decode cX7_looks 34 = .ok (.invokevirtual 85, 3) := by decide +kernel
theorem dX7_looks_37 : decode cX7_looks 37 = .ok (.iinc 2 1, 3) := by decide +kernel
theorem dX7_looks_40 : decode cX7_looks 40 = .ok (.goto (-22), 3) := by decide +kernel
theorem dX7_looks_43 : decode cX7_looks 43 = .ok (.iconst 0, 1) := by decide +kernel
theorem dX7_looks_44 : decode cX7_looks 44 = .ok (.istore_n 2, 1) := by decide +kernel
theorem dX7_looks_45 : decode cX7_looks 45 = .ok (.iload_n 2, 1) := by decide +kernel
theorem dX7_looks_46 : decode cX7_looks 46 = .ok (.aload_n 0, 1) := by decide +kernel
theorem dX7_looks_47 : decode cX7_looks 47 = .ok (.getfield 92, 3) := by decide +kernel
theorem dX7_looks_50 : decode cX7_looks 50 = .ok (.if_icmp .ge 48, 3) := by decide +kernel
theorem dX7_looks_53 : decode cX7_looks 53 = .ok (.iconst 0, 1) := by decide +kernel
theorem dX7_looks_54 : decode cX7_looks 54 = .ok (.istore_n 3, 1) := by decide +kernel
theorem dX7_looks_55 : decode cX7_looks 55 = .ok (.iload_n 3, 1) := by decide +kernel
theorem dX7_looks_56 : decode cX7_looks 56 = .ok (.bipush 6, 2) := by decide +kernel
theorem dX7_looks_58 : decode cX7_looks 58 = .ok (.if_icmp .ge 34, 3) := by decide +kernel
theorem dX7_looks_61 : decode cX7_looks 61 = .ok (.aload_n 0, 1) := by decide +kernel
theorem dX7_looks_62 : decode cX7_looks 62 = .ok (.getfield 36, 3) := by decide +kernel
theorem dX7_looks_65 : decode cX7_looks 65 = .ok (.iload_n 3, 1) := by decide +kernel
theorem dX7_looks_66 : decode cX7_looks 66 = .ok (.baload, 1) := by decide +kernel
theorem dX7_looks_67 : decode cX7_looks 67 = .ok (.ifCond .eq 19, 3) := by decide +kernel
theorem dX7_looks_70 : decode cX7_looks 70 = .ok (.aload_n 0, 1) := by decide +kernel
theorem dX7_looks_71 : decode cX7_looks 71 = .ok (.getfield 39, 3) := by decide +kernel
theorem dX7_looks_74 : decode cX7_looks 74 = .ok (.iload_n 3, 1) := by decide +kernel
theorem dX7_looks_75 : decode cX7_looks 75 = .ok (.iaload, 1) := by decide +kernel
theorem dX7_looks_76 : decode cX7_looks 76 = .ok (.iload_n 2, 1) := by decide +kernel
theorem dX7_looks_77 : decode cX7_looks 77 = .ok (.if_icmp .ne 9, 3) := by decide +kernel
theorem dX7_looks_80 : decode cX7_looks 80 = .ok (.aload_n 0, 1) := by decide +kernel
theorem dX7_looks_81 : decode cX7_looks 81 = .ok (.iload_n 1, 1) := by decide +kernel
theorem dX7_looks_82 : decode cX7_looks 82 = .ok (.iload_n 3, 1) := by decide +kernel
theorem dX7_looks_83 : decode cX7_looks 83 = .ok (.invokevirtual 85, 3) := by decide +kernel
theorem dX7_looks_86 : decode cX7_looks 86 = .ok (.iinc 3 1, 3) := by decide +kernel
theorem dX7_looks_89 : decode cX7_looks 89 = .ok (.goto (-34), 3) := by decide +kernel
theorem dX7_looks_92 : decode cX7_looks 92 = .ok (.iinc 2 1, 3) := by decide +kernel
theorem dX7_looks_95 : decode cX7_looks 95 = .ok (.goto (-50), 3) := by decide +kernel
theorem dX7_looks_98 : decode cX7_looks 98 = .ok (.return_, 1) := by decide +kernel
set_option maxRecDepth 20000 in
theorem ggX7_aims_X7_looks : GoodIn wsX7_aims wsX7_looks := goodIn_r _ [11, 3, 12, 13, 14, 15, 16, 17, 18, 19, 20, 10, 21, 22, 23, 5, 24, 25, 26, 27, 28, 29, 30, 31, 32, 33, 34, 35, 36, 37, 38, 39, 40, 41, 42, 43, 44, 45, 46, 47, 48, 49, 50] (by decide +kernel) (by decide +kernel)
set_option maxRecDepth 20000 in
theorem gX7_aims_X7_looks : GoodIn wsX7_aims (wsV RX7 95 RX7 yX7_looks wsX7_looks) := goodIn_app (goodIn_of _ (by decide +kernel)) ggX7_aims_X7_looks
theorem dX7_aims_0 : decode cX7_aims 0 = .ok (.aload_n 0, 1) := by decide +kernel
theorem dX7_aims_1 : decode cX7_aims 1 = .ok (.iload_n 1, 1) := by decide +kernel
theorem dX7_aims_2 : decode cX7_aims 2 = .ok (.invokevirtual 95, 3) := by decide +kernel
theorem dX7_aims_5 : decode cX7_aims 5 = .ok (.aload_n 0, 1) := by decide +kernel
theorem dX7_aims_6 : decode cX7_aims 6 = .ok (.getfield 33, 3) := by decide +kernel
theorem dX7_aims_9 : decode cX7_aims 9 = .ok (.iload_n 1, 1) := by decide +kernel
theorem dX7_aims_10 : decode cX7_aims 10 = .ok (.iaload, 1) := by decide +kernel
theorem dX7_aims_11 : decode cX7_aims 11 = .ok (.istore_n 2, 1) := by decide +kernel
theorem dX7_aims_12 : decode cX7_aims 12 = .ok (.iconst 0, 1) := by decide +kernel
theorem dX7_aims_13 : decode cX7_aims 13 = .ok (.istore_n 3, 1) := by decide +kernel
theorem dX7_aims_14 : decode cX7_aims 14 = .ok (.iload_n 3, 1) := by decide +kernel
theorem dX7_aims_15 : decode cX7_aims 15 = .ok (.bipush 6, 2) := by decide +kernel
theorem dX7_aims_17 : decode cX7_aims 17 = .ok (.if_icmp .ge 16, 3) := by decide +kernel
theorem dX7_aims_20 : decode cX7_aims 20 = .ok (.aload_n 0, 1) := by decide +kernel
theorem dX7_aims_21 : decode cX7_aims 21 = .ok (.getfield 72, 3) := by decide +kernel
theorem dX7_aims_24 : decode cX7_aims 24 = .ok (.iload_n 3, 1) := by decide +kernel
theorem dX7_aims_25 : decode cX7_aims 25 = .ok (.iconst 0, 1) := by decide +kernel
theorem dX7_aims_26 : decode cX7_aims 26 = .ok (.iastore, 1) := by decide +kernel
theorem dX7_aims_27 : decode cX7_aims 27 = .ok (.iinc 3 1, 3) := by decide +kernel
theorem dX7_aims_30 : decode cX7_aims 30 = .ok (.goto (-16), 3) := by decide +kernel
theorem dX7_aims_33 : decode cX7_aims 33 = .ok (.iconst 0, 1) := by decide +kernel
theorem dX7_aims_34 : decode cX7_aims 34 = .ok (.istore_n 3, 1) := by decide +kernel
theorem dX7_aims_35 : decode cX7_aims 35 = .ok (.iload_n 3, 1) := by decide +kernel
theorem dX7_aims_36 : decode cX7_aims 36 = .ok (.aload_n 0, 1) := by decide +kernel
theorem dX7_aims_37 : decode cX7_aims 37 = .ok (.getfield 82, 3) := by decide +kernel
theorem dX7_aims_40 : decode cX7_aims 40 = .ok (.if_icmp .ge 50, 3) := by decide +kernel
theorem dX7_aims_43 : decode cX7_aims 43 = .ok (.aload_n 0, 1) := by decide +kernel
theorem dX7_aims_44 : decode cX7_aims 44 = .ok (.getfield 42, 3) := by decide +kernel
theorem dX7_aims_47 : decode cX7_aims 47 = .ok (.aload_n 0, 1) := by decide +kernel
theorem dX7_aims_48 : decode cX7_aims 48 = .ok (.getfield 69, 3) := by decide +kernel
theorem dX7_aims_51 : decode cX7_aims 51 = .ok (.iload_n 3, 1) := by decide +kernel
theorem dX7_aims_52 : decode cX7_aims 52 = .ok (.iaload, 1) := by decide +kernel
theorem dX7_aims_53 : decode cX7_aims 53 = .ok (.iaload, 1) := by decide +kernel
theorem dX7_aims_54 : decode cX7_aims 54 = .ok (.iload_n 2, 1) := by decide +kernel
theorem dX7_aims_55 : decode cX7_aims 55 = .ok (.if_icmp .gt 29, 3) := by decide +kernel
theorem dX7_aims_58 : decode cX7_aims 58 = .ok (.aload_n 0, 1) := by decide +kernel
theorem dX7_aims_59 : decode cX7_aims 59 = .ok (.getfield 72, 3) := by decide +kernel
theorem dX7_aims_62 : decode cX7_aims 62 = .ok (.aload_n 0, 1) := by decide +kernel
theorem dX7_aims_63 : decode cX7_aims 63 = .ok (.getfield 69, 3) := by decide +kernel
theorem dX7_aims_66 : decode cX7_aims 66 = .ok (.iload_n 3, 1) := by decide +kernel
theorem dX7_aims_67 : decode cX7_aims 67 = .ok (.iaload, 1) := by decide +kernel
theorem dX7_aims_68 : decode cX7_aims 68 = .ok (.iconst 1, 1) := by decide +kernel
theorem dX7_aims_69 : decode cX7_aims 69 = .ok (.iastore, 1) := by decide +kernel
theorem dX7_aims_70 : decode cX7_aims 70 = .ok (.iload_n 2, 1) := by decide +kernel
theorem dX7_aims_71 : decode cX7_aims 71 = .ok (.aload_n 0, 1) := by decide +kernel
theorem dX7_aims_72 : decode cX7_aims 72 = .ok (.getfield 42, 3) := by decide +kernel
theorem dX7_aims_75 : decode cX7_aims 75 = .ok (.aload_n 0, 1) := by decide +kernel
theorem dX7_aims_76 : decode cX7_aims 76 = .ok (.getfield 69, 3) := by decide +kernel
theorem dX7_aims_79 : decode cX7_aims 79 = .ok (.iload_n 3, 1) := by decide +kernel
theorem dX7_aims_80 : decode cX7_aims 80 = .ok (.iaload, 1) := by decide +kernel
theorem dX7_aims_81 : decode cX7_aims 81 = .ok (.iaload, 1) := by decide +kernel
theorem dX7_aims_82 : decode cX7_aims 82 = .ok (.isub, 1) := by decide +kernel
theorem dX7_aims_83 : decode cX7_aims 83 = .ok (.istore_n 2, 1) := by decide +kernel
theorem dX7_aims_84 : decode cX7_aims 84 = .ok (.iinc 3 1, 3) := by decide +kernel
theorem dX7_aims_87 : decode cX7_aims 87 = .ok (.goto (-52), 3) := by decide +kernel
theorem dX7_aims_90 : decode cX7_aims 90 = .ok (.iconst 0, 1) := by decide +kernel
theorem dX7_aims_91 : decode cX7_aims 91 = .ok (.istore_n 3, 1) := by decide +kernel
theorem dX7_aims_92 : decode cX7_aims 92 = .ok (.iload_n 3, 1) := by decide +kernel
theorem dX7_aims_93 : decode cX7_aims 93 = .ok (.aload_n 0, 1) := by decide +kernel
theorem dX7_aims_94 : decode cX7_aims 94 = .ok (.getfield 82, 3) := by decide +kernel
theorem dX7_aims_97 : decode cX7_aims 97 = .ok (.if_icmp .ge 73, 3) := by decide +kernel
theorem dX7_aims_100 : decode cX7_aims 100 = .ok (.aload_n 0, 1) := by decide +kernel
theorem dX7_aims_101 : decode cX7_aims 101 = .ok (.getfield 69, 3) := by decide +kernel
theorem dX7_aims_104 : decode cX7_aims 104 = .ok (.iload_n 3, 1) := by decide +kernel
theorem dX7_aims_105 : decode cX7_aims 105 = .ok (.iaload, 1) := by decide +kernel
theorem dX7_aims_106 : decode cX7_aims 106 = .ok (.istore 4, 2) := by decide +kernel
theorem dX7_aims_108 : decode cX7_aims 108 = .ok (.aload_n 0, 1) := by decide +kernel
theorem dX7_aims_109 : decode cX7_aims 109 = .ok (.getfield 72, 3) := by decide +kernel
theorem dX7_aims_112 : decode cX7_aims 112 = .ok (.iload 4, 2) := by decide +kernel
theorem dX7_aims_114 : decode cX7_aims 114 = .ok (.iaload, 1) := by decide +kernel
theorem dX7_aims_115 : decode cX7_aims 115 = .ok (.ifCond .le 49, 3) := by decide +kernel
theorem dX7_aims_118 : decode cX7_aims 118 = .ok (.aload_n 0, 1) := by decide +kernel
theorem dX7_aims_119 : decode cX7_aims 119 = .ok (.getfield 72, 3) := by decide +kernel
theorem dX7_aims_122 : decode cX7_aims 122 = .ok (.iload 4, 2) := by decide +kernel
theorem dX7_aims_124 : decode cX7_aims 124 = .ok (.iaload, 1) := by decide +kernel
theorem dX7_aims_125 : decode cX7_aims 125 = .ok (.iconst 3, 1) := by decide +kernel
theorem dX7_aims_126 : decode cX7_aims 126 = .ok (.if_icmp .ge 38, 3) := by decide +kernel
theorem dX7_aims_129 : decode cX7_aims 129 = .ok (.aload_n 0, 1) := by decide +kernel
theorem dX7_aims_130 : decode cX7_aims 130 = .ok (.getfield 45, 3) := by decide +kernel
theorem dX7_aims_133 : decode cX7_aims 133 = .ok (.iload 4, 2) := by decide +kernel
theorem dX7_aims_135 : decode cX7_aims 135 = .ok (.iaload, 1) := by decide +kernel
theorem dX7_aims_136 : decode cX7_aims 136 = .ok (.iload_n 2, 1) := by decide +kernel
theorem dX7_aims_137 : decode cX7_aims 137 = .ok (.if_icmp .gt 27, 3) := by decide +kernel
theorem dX7_aims_140 : decode cX7_aims 140 = .ok (.aload_n 0, 1) := by decide +kernel
theorem dX7_aims_141 : decode cX7_aims 141 = .ok (.getfield 72, 3) := by decide +kernel
theorem dX7_aims_144 : decode cX7_aims 144 = .ok (.iload 4, 2) := by decide +kernel
theorem dX7_aims_146 : decode cX7_aims 146 = .ok (.dup2, 1) := by decide +kernel
theorem dX7_aims_147 : decode cX7_aims 147 = .ok (.iaload, 1) := by decide +kernel
theorem dX7_aims_148 : decode cX7_aims 148 = .ok (.iconst 1, 1) := by decide +kernel
theorem dX7_aims_149 : decode cX7_aims 149 = .ok (.iadd, 1) := by decide +kernel
theorem dX7_aims_150 : decode cX7_aims 150 = .ok (.iastore, 1) := by decide +kernel
theorem dX7_aims_151 : decode cX7_aims 151 = .ok (.iload_n 2, 1) := by decide +kernel
theorem dX7_aims_152 : decode cX7_aims 152 = .ok (.aload_n 0, 1) := by decide +kernel
theorem dX7_aims_153 : decode cX7_aims 153 = .ok (.getfield 45, 3) := by decide +kernel
theorem dX7_aims_156 : decode cX7_aims 156 = .ok (.iload 4, 2) := by decide +kernel
theorem dX7_aims_158 : decode cX7_aims 158 = .ok (.iaload, 1) := by decide +kernel
theorem dX7_aims_159 : decode cX7_aims 159 = .ok (.isub, 1) := by decide +kernel
theorem dX7_aims_160 : decode cX7_aims 160 = .ok (.istore_n 2, 1) := by decide +kernel
theorem dX7_aims_161 : decode cX7_aims 161 = .ok (.goto (-53), 3) := by decide +kernel
theorem dX7_aims_164 : decode cX7_aims 164 = .ok (.iinc 3 1, 3) := by decide +kernel
theorem dX7_aims_167 : decode cX7_aims 167 = .ok (.goto (-75), 3) := by decide +kernel
theorem dX7_aims_170 : decode cX7_aims 170 = .ok (.return_, 1) := by decide +kernel
theorem dX7_stops_0 : decode cX7_stops 0 = .ok (.aload_n 0, 1) := by decide +kernel
theorem dX7_stops_1 : decode cX7_stops 1 = .ok (.getfield 36, 3) := by decide +kernel
theorem dX7_stops_4 : decode cX7_stops 4 = .ok (.iload_n 1, 1) := by decide +kernel
theorem dX7_stops_5 : decode cX7_stops 5 = .ok (.iconst 0, 1) := by decide +kernel
theorem dX7_stops_6 : decode cX7_stops 6 = .ok (.bastore, 1) := by decide +kernel
theorem dX7_stops_7 : decode cX7_stops 7 = .ok (.aload_n 0, 1) := by decide +kernel
theorem dX7_stops_8 : decode cX7_stops 8 = .ok (.getfield 54, 3) := by decide +kernel
theorem dX7_stops_11 : decode cX7_stops 11 = .ok (.iload_n 1, 1) := by decide +kernel
theorem dX7_stops_12 : decode cX7_stops 12 = .ok (.iconst 0, 1) := by decide +kernel
theorem dX7_stops_13 : decode cX7_stops 13 = .ok (.bastore, 1) := by decide +kernel
theorem dX7_stops_14 : decode cX7_stops 14 = .ok (.aload_n 0, 1) := by decide +kernel
theorem dX7_stops_15 : decode cX7_stops 15 = .ok (.getfield 48, 3) := by decide +kernel
theorem dX7_stops_18 : decode cX7_stops 18 = .ok (.iload_n 1, 1) := by decide +kernel
theorem dX7_stops_19 : decode cX7_stops 19 = .ok (.iconst 0, 1) := by decide +kernel
theorem dX7_stops_20 : decode cX7_stops 20 = .ok (.iastore, 1) := by decide +kernel
theorem dX7_stops_21 : decode cX7_stops 21 = .ok (.iconst 0, 1) := by decide +kernel
theorem dX7_stops_22 : decode cX7_stops 22 = .ok (.istore_n 2, 1) := by decide +kernel
theorem dX7_stops_23 : decode cX7_stops 23 = .ok (.iload_n 2, 1) := by decide +kernel
theorem dX7_stops_24 : decode cX7_stops 24 = .ok (.bipush 6, 2) := by decide +kernel
theorem dX7_stops_26 : decode cX7_stops 26 = .ok (.if_icmp .ge 21, 3) := by decide +kernel
theorem dX7_stops_29 : decode cX7_stops 29 = .ok (.aload_n 0, 1) := by decide +kernel
theorem dX7_stops_30 : decode cX7_stops 30 = .ok (.getfield 57, 3) := by decide +kernel
theorem dX7_stops_33 : decode cX7_stops 33 = .ok (.bipush 6, 2) := by decide +kernel
theorem dX7_stops_35 : decode cX7_stops 35 = .ok (.iload_n 2, 1) := by decide +kernel
theorem dX7_stops_36 : decode cX7_stops 36 = .ok (.imul, 1) := by decide +kernel
theorem dX7_stops_37 : decode cX7_stops 37 = .ok (.iload_n 1, 1) := by decide +kernel
theorem dX7_stops_38 : decode cX7_stops 38 = .ok (.iadd, 1) := by decide +kernel
theorem dX7_stops_39 : decode cX7_stops 39 = .ok (.iconst 0, 1) := by decide +kernel
theorem dX7_stops_40 : decode cX7_stops 40 = .ok (.iastore, 1) := by decide +kernel
theorem dX7_stops_41 : decode cX7_stops 41 = .ok (.iinc 2 1, 3) := by decide +kernel
theorem dX7_stops_44 : decode cX7_stops 44 = .ok (.goto (-21), 3) := by decide +kernel
theorem dX7_stops_47 : decode cX7_stops 47 = .ok (.return_, 1) := by decide +kernel
set_option maxRecDepth 20000 in
theorem ggX7_join_X7_stops : GoodIn wsX7_join wsX7_stops := goodIn_r _ [13, 14, 15, 16, 8, 17, 18, 19, 20, 21, 22, 23, 24, 25, 26, 27, 28, 29, 30, 31, 32, 33, 34, 35, 36, 37, 38, 39, 40, 41, 42, 43] (by decide +kernel) (by decide +kernel)
set_option maxRecDepth 20000 in
theorem gX7_join_X7_stops : GoodIn wsX7_join (wsV RX7 99 RX7 yX7_stops wsX7_stops) := goodIn_app (goodIn_of _ (by decide +kernel)) ggX7_join_X7_stops
theorem dX7_join_0 : decode cX7_join 0 = .ok (.iconst 0, 1) := by decide +kernel
theorem dX7_join_1 : decode cX7_join 1 = .ok (.istore_n 1, 1) := by decide +kernel
theorem dX7_join_2 : decode cX7_join 2 = .ok (.iload_n 1, 1) := by decide +kernel
theorem dX7_join_3 : decode cX7_join 3 = .ok (.bipush 6, 2) := by decide +kernel
theorem dX7_join_5 : decode cX7_join 5 = .ok (.if_icmp .ge 18, 3) := by decide +kernel
theorem dX7_join_8 : decode cX7_join 8 = .ok (.aload_n 0, 1) := by decide +kernel
theorem dX7_join_9 : decode cX7_join 9 = .ok (.getfield 16, 3) := by decide +kernel
theorem dX7_join_12 : decode cX7_join 12 = .ok (.iload_n 1, 1) := by decide +kernel
theorem dX7_join_13 : decode cX7_join 13 = .ok (.baload, 1) := by decide +kernel
theorem dX7_join_14 : decode cX7_join 14 = .ok (.ifCond .eq 9, 3) := by decide +kernel
theorem dX7_join_17 : decode cX7_join 17 = .ok (.iinc 1 1, 3) := by decide +kernel
theorem dX7_join_20 : decode cX7_join 20 = .ok (.goto (-18), 3) := by decide +kernel
theorem dX7_join_23 : decode cX7_join 23 = .ok (.aload_n 0, 1) := by decide +kernel
theorem dX7_join_24 : decode cX7_join 24 = .ok (.iload_n 1, 1) := by decide +kernel
theorem dX7_join_25 : decode cX7_join 25 = .ok (.bipush 6, 2) := by decide +kernel
theorem dX7_join_27 : decode cX7_join 27 = .ok (.if_icmp .ne 7, 3) := by decide +kernel
theorem dX7_join_30 : decode cX7_join 30 = .ok (.iconst 1, 1) := by decide +kernel
theorem dX7_join_31 : decode cX7_join 31 = .ok (.goto 4, 3) := by decide +kernel
theorem dX7_join_34 : decode cX7_join 34 = .ok (.iconst 0, 1) := by decide +kernel
theorem dX7_join_35 : decode cX7_join 35 = .ok (.putfield 75, 3) := by decide +kernel
theorem dX7_join_38 : decode cX7_join 38 = .ok (.aload_n 0, 1) := by decide +kernel
theorem dX7_join_39 : decode cX7_join 39 = .ok (.getfield 75, 3) := by decide +kernel
theorem dX7_join_42 : decode cX7_join 42 = .ok (.ifCond .le 5, 3) := by decide +kernel
theorem dX7_join_45 : decode cX7_join 45 = .ok (.iconst 0, 1) := by decide +kernel
theorem dX7_join_46 : decode cX7_join 46 = .ok (.ireturn, 1) := by decide +kernel
theorem dX7_join_47 : decode cX7_join 47 = .ok (.aload_n 0, 1) := by decide +kernel
theorem dX7_join_48 : decode cX7_join 48 = .ok (.getfield 16, 3) := by decide +kernel
theorem dX7_join_51 : decode cX7_join 51 = .ok (.iload_n 1, 1) := by decide +kernel
theorem dX7_join_52 : decode cX7_join 52 = .ok (.iconst 1, 1) := by decide +kernel
theorem dX7_join_53 : decode cX7_join 53 = .ok (.bastore, 1) := by decide +kernel
theorem dX7_join_54 : decode cX7_join 54 = .ok (.aload_n 0, 1) := by decide +kernel
theorem dX7_join_55 : decode cX7_join 55 = .ok (.getfield 20, 3) := by decide +kernel
theorem dX7_join_58 : decode cX7_join 58 = .ok (.iload_n 1, 1) := by decide +kernel
theorem dX7_join_59 : decode cX7_join 59 = .ok (.iconst 0, 1) := by decide +kernel
theorem dX7_join_60 : decode cX7_join 60 = .ok (.bastore, 1) := by decide +kernel
theorem dX7_join_61 : decode cX7_join 61 = .ok (.aload_n 0, 1) := by decide +kernel
theorem dX7_join_62 : decode cX7_join 62 = .ok (.getfield 23, 3) := by decide +kernel
theorem dX7_join_65 : decode cX7_join 65 = .ok (.iload_n 1, 1) := by decide +kernel
theorem dX7_join_66 : decode cX7_join 66 = .ok (.iconst 0, 1) := by decide +kernel
theorem dX7_join_67 : decode cX7_join 67 = .ok (.iastore, 1) := by decide +kernel
theorem dX7_join_68 : decode cX7_join 68 = .ok (.aload_n 0, 1) := by decide +kernel
theorem dX7_join_69 : decode cX7_join 69 = .ok (.getfield 27, 3) := by decide +kernel
theorem dX7_join_72 : decode cX7_join 72 = .ok (.iload_n 1, 1) := by decide +kernel
theorem dX7_join_73 : decode cX7_join 73 = .ok (.iconst (-1), 1) := by decide +kernel
theorem dX7_join_74 : decode cX7_join 74 = .ok (.iastore, 1) := by decide +kernel
theorem dX7_join_75 : decode cX7_join 75 = .ok (.aload_n 0, 1) := by decide +kernel
theorem dX7_join_76 : decode cX7_join 76 = .ok (.getfield 30, 3) := by decide +kernel
theorem dX7_join_79 : decode cX7_join 79 = .ok (.iload_n 1, 1) := by decide +kernel
theorem dX7_join_80 : decode cX7_join 80 = .ok (.iconst 3, 1) := by decide +kernel
theorem dX7_join_81 : decode cX7_join 81 = .ok (.iastore, 1) := by decide +kernel
theorem dX7_join_82 : decode cX7_join 82 = .ok (.aload_n 0, 1) := by decide +kernel
theorem dX7_join_83 : decode cX7_join 83 = .ok (.getfield 33, 3) := by decide +kernel
theorem dX7_join_86 : decode cX7_join 86 = .ok (.iload_n 1, 1) := by decide +kernel
theorem dX7_join_87 : decode cX7_join 87 = .ok (.bipush 100, 2) := by decide +kernel
theorem dX7_join_89 : decode cX7_join 89 = .ok (.iastore, 1) := by decide +kernel
theorem dX7_join_90 : decode cX7_join 90 = .ok (.aload_n 0, 1) := by decide +kernel
theorem dX7_join_91 : decode cX7_join 91 = .ok (.iload_n 1, 1) := by decide +kernel
theorem dX7_join_92 : decode cX7_join 92 = .ok (.invokevirtual 99, 3) := by decide +kernel
theorem dX7_join_95 : decode cX7_join 95 = .ok (.iconst 0, 1) := by decide +kernel
theorem dX7_join_96 : decode cX7_join 96 = .ok (.istore_n 2, 1) := by decide +kernel
theorem dX7_join_97 : decode cX7_join 97 = .ok (.iload_n 2, 1) := by decide +kernel
theorem dX7_join_98 : decode cX7_join 98 = .ok (.bipush 6, 2) := by decide +kernel
theorem dX7_join_100 : decode cX7_join 100 = .ok (.if_icmp .ge 21, 3) := by decide +kernel
theorem dX7_join_103 : decode cX7_join 103 = .ok (.aload_n 0, 1) := by decide +kernel
theorem dX7_join_104 : decode cX7_join 104 = .ok (.getfield 57, 3) := by decide +kernel
theorem dX7_join_107 : decode cX7_join 107 = .ok (.bipush 6, 2) := by decide +kernel
theorem dX7_join_109 : decode cX7_join 109 = .ok (.iload_n 1, 1) := by decide +kernel
theorem dX7_join_110 : decode cX7_join 110 = .ok (.imul, 1) := by decide +kernel
theorem dX7_join_111 : decode cX7_join 111 = .ok (.iload_n 2, 1) := by decide +kernel
theorem dX7_join_112 : decode cX7_join 112 = .ok (.iadd, 1) := by decide +kernel
theorem dX7_join_113 : decode cX7_join 113 = .ok (.iconst 0, 1) := by decide +kernel
theorem dX7_join_114 : decode cX7_join 114 = .ok (.iastore, 1) := by decide +kernel
theorem dX7_join_115 : decode cX7_join 115 = .ok (.iinc 2 1, 3) := by decide +kernel
theorem dX7_join_118 : decode cX7_join 118 = .ok (.goto (-21), 3) := by decide +kernel
theorem dX7_join_121 : decode cX7_join 121 = .ok (.iload_n 1, 1) := by decide +kernel
theorem dX7_join_122 : decode cX7_join 122 = .ok (.ireturn, 1) := by decide +kernel
theorem dX7_unspeaks_0 : decode cX7_unspeaks 0 = .ok (.iconst 0, 1) := by decide +kernel
theorem dX7_unspeaks_1 : decode cX7_unspeaks 1 = .ok (.istore_n 2, 1) := by decide +kernel
theorem dX7_unspeaks_2 : decode cX7_unspeaks 2 = .ok (.iconst 0, 1) := by decide +kernel
theorem dX7_unspeaks_3 : decode cX7_unspeaks 3 = .ok (.istore_n 3, 1) := by decide +kernel
theorem dX7_unspeaks_4 : decode cX7_unspeaks 4 = .ok (.iload_n 3, 1) := by decide +kernel
theorem dX7_unspeaks_5 : decode cX7_unspeaks 5 = .ok (.aload_n 0, 1) := by decide +kernel
theorem dX7_unspeaks_6 : decode cX7_unspeaks 6 = .ok (.getfield 89, 3) := by decide +kernel
theorem dX7_unspeaks_9 : decode cX7_unspeaks 9 = .ok (.if_icmp .ge 34, 3) := by decide +kernel
theorem dX7_unspeaks_12 : decode cX7_unspeaks 12 = .ok (.aload_n 0, 1) := by decide +kernel
theorem dX7_unspeaks_13 : decode cX7_unspeaks 13 = .ok (.getfield 63, 3) := by decide +kernel
theorem dX7_unspeaks_16 : decode cX7_unspeaks 16 = .ok (.iload_n 3, 1) := by decide +kernel
theorem dX7_unspeaks_17 : decode cX7_unspeaks 17 = .ok (.iaload, 1) := by decide +kernel
theorem dX7_unspeaks_18 : decode cX7_unspeaks 18 = .ok (.iload_n 1, 1) := by decide +kernel
theorem dX7_unspeaks_19 : decode cX7_unspeaks 19 = .ok (.if_icmp .eq 18, 3) := by decide +kernel
theorem dX7_unspeaks_22 : decode cX7_unspeaks 22 = .ok (.aload_n 0, 1) := by decide +kernel
theorem dX7_unspeaks_23 : decode cX7_unspeaks 23 = .ok (.getfield 63, 3) := by decide +kernel
theorem dX7_unspeaks_26 : decode cX7_unspeaks 26 = .ok (.iload_n 2, 1) := by decide +kernel
theorem dX7_unspeaks_27 : decode cX7_unspeaks 27 = .ok (.aload_n 0, 1) := by decide +kernel
theorem dX7_unspeaks_28 : decode cX7_unspeaks 28 = .ok (.getfield 63, 3) := by decide +kernel
theorem dX7_unspeaks_31 : decode cX7_unspeaks 31 = .ok (.iload_n 3, 1) := by decide +kernel
theorem dX7_unspeaks_32 : decode cX7_unspeaks 32 = .ok (.iaload, 1) := by decide +kernel
theorem dX7_unspeaks_33 : decode cX7_unspeaks 33 = .ok (.iastore, 1) := by decide +kernel
theorem dX7_unspeaks_34 : decode cX7_unspeaks 34 = .ok (.iinc 2 1, 3) := by decide +kernel
theorem dX7_unspeaks_37 : decode cX7_unspeaks 37 = .ok (.iinc 3 1, 3) := by decide +kernel
theorem dX7_unspeaks_40 : decode cX7_unspeaks 40 = .ok (.goto (-36), 3) := by decide +kernel
theorem dX7_unspeaks_43 : decode cX7_unspeaks 43 = .ok (.aload_n 0, 1) := by decide +kernel
theorem dX7_unspeaks_44 : decode cX7_unspeaks 44 = .ok (.iload_n 2, 1) := by decide +kernel
theorem dX7_unspeaks_45 : decode cX7_unspeaks 45 = .ok (.putfield 89, 3) := by decide +kernel
theorem dX7_unspeaks_48 : decode cX7_unspeaks 48 = .ok (.return_, 1) := by decide +kernel
set_option maxRecDepth 20000 in
theorem ggX7_leave_X7_isPerson : GoodIn wsX7_leave wsX7_isPerson := goodIn_r _ [10, 2, 11, 12, 9, 13, 28, 29, 30, 31, 32, 33, 34, 35, 36, 37, 38, 39, 40, 41, 42, 43, 44, 45, 46, 47, 48, 49, 50, 51, 52, 53, 54] (by decide +kernel) (by decide +kernel)
set_option maxRecDepth 20000 in
theorem gX7_leave_X7_isPerson : GoodIn wsX7_leave (wsV RX7 102 RX7 yX7_isPerson wsX7_isPerson) := goodIn_app (goodIn_of _ (by decide +kernel)) ggX7_leave_X7_isPerson
set_option maxRecDepth 20000 in
theorem ggX7_leave_X7_stops : GoodIn wsX7_leave wsX7_stops := goodIn_r _ [17, 18, 19, 20, 21, 28, 29, 30, 31, 32, 33, 34, 35, 36, 37, 38, 39, 40, 41, 42, 43, 44, 45, 46, 47, 48, 49, 50, 51, 52, 53, 54] (by decide +kernel) (by decide +kernel)
set_option maxRecDepth 20000 in
theorem gX7_leave_X7_stops : GoodIn wsX7_leave (wsV RX7 99 RX7 yX7_stops wsX7_stops) := goodIn_app (goodIn_of _ (by decide +kernel)) ggX7_leave_X7_stops
set_option maxRecDepth 20000 in
theorem ggX7_leave_X7_unspeaks : GoodIn wsX7_leave wsX7_unspeaks := goodIn_r _ [25, 26, 27, 28, 29, 30, 31, 32, 33, 34, 35, 36, 37, 38, 39, 40, 41, 42, 43, 44, 45, 46, 47, 48, 49, 50, 51, 52, 53, 54] (by decide +kernel) (by decide +kernel)
set_option maxRecDepth 20000 in
theorem gX7_leave_X7_unspeaks : GoodIn wsX7_leave (wsV RX7 106 RX7 yX7_unspeaks wsX7_unspeaks) := goodIn_app (goodIn_of _ (by decide +kernel)) ggX7_leave_X7_unspeaks
theorem dX7_leave_0 : decode cX7_leave 0 = .ok (.aload_n 0, 1) := by decide +kernel
theorem dX7_leave_1 : decode cX7_leave 1 = .ok (.aload_n 0, 1) := by decide +kernel
theorem dX7_leave_2 : decode cX7_leave 2 = .ok (.iload_n 1, 1) := by decide +kernel
theorem dX7_leave_3 : decode cX7_leave 3 = .ok (.invokevirtual 102, 3) := by decide +kernel
theorem dX7_leave_6 : decode cX7_leave 6 = .ok (.ifCond .eq 7, 3) := by decide +kernel
theorem dX7_leave_9 : decode cX7_leave 9 = .ok (.iconst 0, 1) := by decide +kernel
theorem dX7_leave_10 : decode cX7_leave 10 = .ok (.goto 4, 3) := by decide +kernel
theorem dX7_leave_13 : decode cX7_leave 13 = .ok (.iconst 1, 1) := by decide +kernel
theorem dX7_leave_14 : decode cX7_leave 14 = .ok (.putfield 75, 3) := by decide +kernel
theorem dX7_leave_17 : decode cX7_leave 17 = .ok (.aload_n 0, 1) := by decide +kernel
theorem dX7_leave_18 : decode cX7_leave 18 = .ok (.getfield 75, 3) := by decide +kernel
theorem dX7_leave_21 : decode cX7_leave 21 = .ok (.ifCond .le 4, 3) := by decide +kernel
theorem dX7_leave_24 : decode cX7_leave 24 = .ok (.return_, 1) := by decide +kernel
theorem dX7_leave_25 : decode cX7_leave 25 = .ok (.aload_n 0, 1) := by decide +kernel
theorem dX7_leave_26 : decode cX7_leave 26 = .ok (.iload_n 1, 1) := by decide +kernel
theorem dX7_leave_27 : decode cX7_leave 27 = .ok (.invokevirtual 99, 3) := by decide +kernel
theorem dX7_leave_30 : decode cX7_leave 30 = .ok (.aload_n 0, 1) := by decide +kernel
theorem dX7_leave_31 : decode cX7_leave 31 = .ok (.getfield 16, 3) := by decide +kernel
theorem dX7_leave_34 : decode cX7_leave 34 = .ok (.iload_n 1, 1) := by decide +kernel
theorem dX7_leave_35 : decode cX7_leave 35 = .ok (.iconst 0, 1) := by decide +kernel
theorem dX7_leave_36 : decode cX7_leave 36 = .ok (.bastore, 1) := by decide +kernel
theorem dX7_leave_37 : decode cX7_leave 37 = .ok (.aload_n 0, 1) := by decide +kernel
theorem dX7_leave_38 : decode cX7_leave 38 = .ok (.iload_n 1, 1) := by decide +kernel
theorem dX7_leave_39 : decode cX7_leave 39 = .ok (.invokevirtual 106, 3) := by decide +kernel
theorem dX7_leave_42 : decode cX7_leave 42 = .ok (.aload_n 0, 1) := by decide +kernel
theorem dX7_leave_43 : decode cX7_leave 43 = .ok (.aload_n 0, 1) := by decide +kernel
theorem dX7_leave_44 : decode cX7_leave 44 = .ok (.getfield 60, 3) := by decide +kernel
theorem dX7_leave_47 : decode cX7_leave 47 = .ok (.iload_n 1, 1) := by decide +kernel
theorem dX7_leave_48 : decode cX7_leave 48 = .ok (.if_icmp .ne 7, 3) := by decide +kernel
theorem dX7_leave_51 : decode cX7_leave 51 = .ok (.iconst (-1), 1) := by decide +kernel
theorem dX7_leave_52 : decode cX7_leave 52 = .ok (.goto 7, 3) := by decide +kernel
theorem dX7_leave_55 : decode cX7_leave 55 = .ok (.aload_n 0, 1) := by decide +kernel
theorem dX7_leave_56 : decode cX7_leave 56 = .ok (.getfield 60, 3) := by decide +kernel
theorem dX7_leave_59 : decode cX7_leave 59 = .ok (.putfield 60, 3) := by decide +kernel
theorem dX7_leave_62 : decode cX7_leave 62 = .ok (.aload_n 0, 1) := by decide +kernel
theorem dX7_leave_63 : decode cX7_leave 63 = .ok (.aload_n 0, 1) := by decide +kernel
theorem dX7_leave_64 : decode cX7_leave 64 = .ok (.getfield 66, 3) := by decide +kernel
theorem dX7_leave_67 : decode cX7_leave 67 = .ok (.iload_n 1, 1) := by decide +kernel
theorem dX7_leave_68 : decode cX7_leave 68 = .ok (.if_icmp .ne 7, 3) := by decide +kernel
theorem dX7_leave_71 : decode cX7_leave 71 = .ok (.iconst (-1), 1) := by decide +kernel
theorem dX7_leave_72 : decode cX7_leave 72 = .ok (.goto 7, 3) := by decide +kernel
theorem dX7_leave_75 : decode cX7_leave 75 = .ok (.aload_n 0, 1) := by decide +kernel
theorem dX7_leave_76 : decode cX7_leave 76 = .ok (.getfield 66, 3) := by decide +kernel
theorem dX7_leave_79 : decode cX7_leave 79 = .ok (.putfield 66, 3) := by decide +kernel
theorem dX7_leave_82 : decode cX7_leave 82 = .ok (.iconst 0, 1) := by decide +kernel
theorem dX7_leave_83 : decode cX7_leave 83 = .ok (.istore_n 2, 1) := by decide +kernel
theorem dX7_leave_84 : decode cX7_leave 84 = .ok (.iload_n 2, 1) := by decide +kernel
theorem dX7_leave_85 : decode cX7_leave 85 = .ok (.bipush 6, 2) := by decide +kernel
theorem dX7_leave_87 : decode cX7_leave 87 = .ok (.if_icmp .ge 35, 3) := by decide +kernel
theorem dX7_leave_90 : decode cX7_leave 90 = .ok (.aload_n 0, 1) := by decide +kernel
theorem dX7_leave_91 : decode cX7_leave 91 = .ok (.getfield 27, 3) := by decide +kernel
theorem dX7_leave_94 : decode cX7_leave 94 = .ok (.iload_n 2, 1) := by decide +kernel
theorem dX7_leave_95 : decode cX7_leave 95 = .ok (.aload_n 0, 1) := by decide +kernel
theorem dX7_leave_96 : decode cX7_leave 96 = .ok (.getfield 27, 3) := by decide +kernel
theorem dX7_leave_99 : decode cX7_leave 99 = .ok (.iload_n 2, 1) := by decide +kernel
theorem dX7_leave_100 : decode cX7_leave 100 = .ok (.iaload, 1) := by decide +kernel
theorem dX7_leave_101 : decode cX7_leave 101 = .ok (.iload_n 1, 1) := by decide +kernel
theorem dX7_leave_102 : decode cX7_leave 102 = .ok (.if_icmp .ne 7, 3) := by decide +kernel
theorem dX7_leave_105 : decode cX7_leave 105 = .ok (.iconst (-1), 1) := by decide +kernel
theorem dX7_leave_106 : decode cX7_leave 106 = .ok (.goto 9, 3) := by decide +kernel
theorem dX7_leave_109 : decode cX7_leave 109 = .ok (.aload_n 0, 1) := by decide +kernel
theorem dX7_leave_110 : decode cX7_leave 110 = .ok (.getfield 27, 3) := by decide +kernel
theorem dX7_leave_113 : decode cX7_leave 113 = .ok (.iload_n 2, 1) := by decide +kernel
theorem dX7_leave_114 : decode cX7_leave 114 = .ok (.iaload, 1) := by decide +kernel
theorem dX7_leave_115 : decode cX7_leave 115 = .ok (.iastore, 1) := by decide +kernel
theorem dX7_leave_116 : decode cX7_leave 116 = .ok (.iinc 2 1, 3) := by decide +kernel
theorem dX7_leave_119 : decode cX7_leave 119 = .ok (.goto (-35), 3) := by decide +kernel
theorem dX7_leave_122 : decode cX7_leave 122 = .ok (.return_, 1) := by decide +kernel
set_option maxRecDepth 20000 in
theorem ggX7_publish_X7_isPerson : GoodIn wsX7_publish wsX7_isPerson := goodIn_r _ [11, 12, 13, 14, 10, 15, 23, 24, 25, 26, 27, 28, 29, 30, 31, 32, 33, 34, 35, 36, 37, 38, 39, 40, 41, 42, 43, 44, 45, 46, 47, 48, 49] (by decide +kernel) (by decide +kernel)
set_option maxRecDepth 20000 in
theorem gX7_publish_X7_isPerson : GoodIn wsX7_publish (wsV RX7 102 RX7 yX7_isPerson wsX7_isPerson) := goodIn_app (goodIn_of _ (by decide +kernel)) ggX7_publish_X7_isPerson
set_option maxRecDepth 20000 in
theorem ggX7_publish_X7_in : GoodIn wsX7_publish wsX7_in := goodIn_r _ [15] (by decide +kernel) (by decide +kernel)
set_option maxRecDepth 20000 in
theorem gX7_publish_X7_in : GoodIn wsX7_publish (va_wsS RX7 78 yX7_in wsX7_in) := goodIn_app (goodIn_of _ (by decide +kernel)) ggX7_publish_X7_in
set_option maxRecDepth 20000 in
theorem ggX7_publish_X7_stops : GoodIn wsX7_publish wsX7_stops := goodIn_r _ [19, 2, 20, 21, 22, 23, 24, 25, 26, 27, 28, 29, 30, 31, 32, 33, 34, 35, 36, 37, 38, 39, 40, 41, 42, 43, 44, 45, 46, 47, 48, 49] (by decide +kernel) (by decide +kernel)
set_option maxRecDepth 20000 in
theorem gX7_publish_X7_stops : GoodIn wsX7_publish (wsV RX7 99 RX7 yX7_stops wsX7_stops) := goodIn_app (goodIn_of _ (by decide +kernel)) ggX7_publish_X7_stops
theorem dX7_publish_0 : decode cX7_publish 0 = .ok (.aload_n 0, 1) := by decide +kernel
theorem dX7_publish_1 : decode cX7_publish 1 = .ok (.aload_n 0, 1) := by decide +kernel
theorem dX7_publish_2 : decode cX7_publish 2 = .ok (.iload_n 1, 1) := by decide +kernel
theorem dX7_publish_3 : decode cX7_publish 3 = .ok (.invokevirtual 102, 3) := by decide +kernel
theorem dX7_publish_6 : decode cX7_publish 6 = .ok (.ifCond .ne 7, 3) := by decide +kernel
theorem dX7_publish_9 : decode cX7_publish 9 = .ok (.iconst 1, 1) := by decide +kernel
theorem dX7_publish_10 : decode cX7_publish 10 = .ok (.goto 28, 3) := by decide +kernel
theorem dX7_publish_13 : decode cX7_publish 13 = .ok (.iload_n 2, 1) := by decide +kernel
theorem dX7_publish_14 : decode cX7_publish 14 = .ok (.iconst 1, 1) := by decide +kernel
theorem dX7_publish_15 : decode cX7_publish 15 = .ok (.bipush 100, 2) := by decide +kernel
theorem dX7_publish_17 : decode cX7_publish 17 = .ok (.invokestatic 78, 3) := by decide +kernel
theorem dX7_publish_20 : decode cX7_publish 20 = .ok (.ifCond .eq 17, 3) := by decide +kernel
theorem dX7_publish_23 : decode cX7_publish 23 = .ok (.iload_n 3, 1) := by decide +kernel
theorem dX7_publish_24 : decode cX7_publish 24 = .ok (.iconst 1, 1) := by decide +kernel
theorem dX7_publish_25 : decode cX7_publish 25 = .ok (.bipush 100, 2) := by decide +kernel
theorem dX7_publish_27 : decode cX7_publish 27 = .ok (.invokestatic 78, 3) := by decide +kernel
theorem dX7_publish_30 : decode cX7_publish 30 = .ok (.ifCond .eq 7, 3) := by decide +kernel
theorem dX7_publish_33 : decode cX7_publish 33 = .ok (.iconst 0, 1) := by decide +kernel
theorem dX7_publish_34 : decode cX7_publish 34 = .ok (.goto 4, 3) := by decide +kernel
theorem dX7_publish_37 : decode cX7_publish 37 = .ok (.iconst 2, 1) := by decide +kernel
theorem dX7_publish_38 : decode cX7_publish 38 = .ok (.putfield 75, 3) := by decide +kernel
theorem dX7_publish_41 : decode cX7_publish 41 = .ok (.aload_n 0, 1) := by decide +kernel
theorem dX7_publish_42 : decode cX7_publish 42 = .ok (.getfield 75, 3) := by decide +kernel
theorem dX7_publish_45 : decode cX7_publish 45 = .ok (.ifCond .ne 49, 3) := by decide +kernel
theorem dX7_publish_48 : decode cX7_publish 48 = .ok (.aload_n 0, 1) := by decide +kernel
theorem dX7_publish_49 : decode cX7_publish 49 = .ok (.iload_n 1, 1) := by decide +kernel
theorem dX7_publish_50 : decode cX7_publish 50 = .ok (.invokevirtual 99, 3) := by decide +kernel
theorem dX7_publish_53 : decode cX7_publish 53 = .ok (.aload_n 0, 1) := by decide +kernel
theorem dX7_publish_54 : decode cX7_publish 54 = .ok (.getfield 36, 3) := by decide +kernel
theorem dX7_publish_57 : decode cX7_publish 57 = .ok (.iload_n 1, 1) := by decide +kernel
theorem dX7_publish_58 : decode cX7_publish 58 = .ok (.iconst 1, 1) := by decide +kernel
theorem dX7_publish_59 : decode cX7_publish 59 = .ok (.bastore, 1) := by decide +kernel
theorem dX7_publish_60 : decode cX7_publish 60 = .ok (.aload_n 0, 1) := by decide +kernel
theorem dX7_publish_61 : decode cX7_publish 61 = .ok (.getfield 39, 3) := by decide +kernel
theorem dX7_publish_64 : decode cX7_publish 64 = .ok (.iload_n 1, 1) := by decide +kernel
theorem dX7_publish_65 : decode cX7_publish 65 = .ok (.aload_n 0, 1) := by decide +kernel
theorem dX7_publish_66 : decode cX7_publish 66 = .ok (.getfield 92, 3) := by decide +kernel
theorem dX7_publish_69 : decode cX7_publish 69 = .ok (.iastore, 1) := by decide +kernel
theorem dX7_publish_70 : decode cX7_publish 70 = .ok (.aload_n 0, 1) := by decide +kernel
theorem dX7_publish_71 : decode cX7_publish 71 = .ok (.dup, 1) := by decide +kernel
theorem dX7_publish_72 : decode cX7_publish 72 = .ok (.getfield 92, 3) := by decide +kernel
theorem dX7_publish_75 : decode cX7_publish 75 = .ok (.iconst 1, 1) := by decide +kernel
theorem dX7_publish_76 : decode cX7_publish 76 = .ok (.iadd, 1) := by decide +kernel
theorem dX7_publish_77 : decode cX7_publish 77 = .ok (.putfield 92, 3) := by decide +kernel
theorem dX7_publish_80 : decode cX7_publish 80 = .ok (.aload_n 0, 1) := by decide +kernel
theorem dX7_publish_81 : decode cX7_publish 81 = .ok (.getfield 42, 3) := by decide +kernel
theorem dX7_publish_84 : decode cX7_publish 84 = .ok (.iload_n 1, 1) := by decide +kernel
theorem dX7_publish_85 : decode cX7_publish 85 = .ok (.iload_n 2, 1) := by decide +kernel
theorem dX7_publish_86 : decode cX7_publish 86 = .ok (.iastore, 1) := by decide +kernel
theorem dX7_publish_87 : decode cX7_publish 87 = .ok (.aload_n 0, 1) := by decide +kernel
theorem dX7_publish_88 : decode cX7_publish 88 = .ok (.getfield 45, 3) := by decide +kernel
theorem dX7_publish_91 : decode cX7_publish 91 = .ok (.iload_n 1, 1) := by decide +kernel
theorem dX7_publish_92 : decode cX7_publish 92 = .ok (.iload_n 3, 1) := by decide +kernel
theorem dX7_publish_93 : decode cX7_publish 93 = .ok (.iastore, 1) := by decide +kernel
theorem dX7_publish_94 : decode cX7_publish 94 = .ok (.return_, 1) := by decide +kernel
set_option maxRecDepth 20000 in
theorem ggX7_barsStream_X7_isPerson : GoodIn wsX7_barsStream wsX7_isPerson := goodIn_r _ [6, 7, 8, 9, 5, 10, 11, 12, 13, 14, 15, 16, 17, 18, 19, 20, 21, 22, 23, 24, 25, 26, 27, 28, 29, 30, 31, 32, 33, 34, 35, 36, 37] (by decide +kernel) (by decide +kernel)
set_option maxRecDepth 20000 in
theorem gX7_barsStream_X7_isPerson : GoodIn wsX7_barsStream (wsV RX7 102 RX7 yX7_isPerson wsX7_isPerson) := goodIn_app (goodIn_of _ (by decide +kernel)) ggX7_barsStream_X7_isPerson
theorem dX7_barsStream_0 : decode cX7_barsStream 0 = .ok (.aload_n 0, 1) := by decide +kernel
theorem dX7_barsStream_1 : decode cX7_barsStream 1 = .ok (.iload_n 1, 1) := by decide +kernel
theorem dX7_barsStream_2 : decode cX7_barsStream 2 = .ok (.invokevirtual 102, 3) := by decide +kernel
theorem dX7_barsStream_5 : decode cX7_barsStream 5 = .ok (.ifCond .ne 7, 3) := by decide +kernel
theorem dX7_barsStream_8 : decode cX7_barsStream 8 = .ok (.iconst 1, 1) := by decide +kernel
theorem dX7_barsStream_9 : decode cX7_barsStream 9 = .ok (.goto 17, 3) := by decide +kernel
theorem dX7_barsStream_12 : decode cX7_barsStream 12 = .ok (.aload_n 0, 1) := by decide +kernel
theorem dX7_barsStream_13 : decode cX7_barsStream 13 = .ok (.getfield 36, 3) := by decide +kernel
theorem dX7_barsStream_16 : decode cX7_barsStream 16 = .ok (.iload_n 1, 1) := by decide +kernel
theorem dX7_barsStream_17 : decode cX7_barsStream 17 = .ok (.baload, 1) := by decide +kernel
theorem dX7_barsStream_18 : decode cX7_barsStream 18 = .ok (.ifCond .eq 7, 3) := by decide +kernel
theorem dX7_barsStream_21 : decode cX7_barsStream 21 = .ok (.iconst 0, 1) := by decide +kernel
theorem dX7_barsStream_22 : decode cX7_barsStream 22 = .ok (.goto 4, 3) := by decide +kernel
theorem dX7_barsStream_25 : decode cX7_barsStream 25 = .ok (.iconst 2, 1) := by decide +kernel
theorem dX7_barsStream_26 : decode cX7_barsStream 26 = .ok (.ireturn, 1) := by decide +kernel
set_option maxRecDepth 20000 in
theorem ggX7_end_X7_barsStream : GoodIn wsX7_end wsX7_barsStream := goodIn_r _ [6, 7, 8, 9, 10, 5, 11, 12, 13, 14, 15, 23, 24, 25, 26, 27, 28, 29, 30, 31, 32, 33, 34, 35, 36, 37, 38, 39, 40, 41, 42, 43, 44, 45, 46, 47, 48, 49] (by decide +kernel) (by decide +kernel)
set_option maxRecDepth 20000 in
theorem gX7_end_X7_barsStream : GoodIn wsX7_end (wsV RX7 109 RX7 yX7_barsStream wsX7_barsStream) := goodIn_app (goodIn_of _ (by decide +kernel)) ggX7_end_X7_barsStream
set_option maxRecDepth 20000 in
theorem ggX7_end_X7_stops : GoodIn wsX7_end wsX7_stops := goodIn_r _ [19, 7, 20, 21, 22, 23, 24, 25, 26, 27, 28, 29, 30, 31, 32, 33, 34, 35, 36, 37, 38, 39, 40, 41, 42, 43, 44, 45, 46, 47, 48, 49] (by decide +kernel) (by decide +kernel)
set_option maxRecDepth 20000 in
theorem gX7_end_X7_stops : GoodIn wsX7_end (wsV RX7 99 RX7 yX7_stops wsX7_stops) := goodIn_app (goodIn_of _ (by decide +kernel)) ggX7_end_X7_stops
theorem dX7_end_0 : decode cX7_end 0 = .ok (.aload_n 0, 1) := by decide +kernel
theorem dX7_end_1 : decode cX7_end 1 = .ok (.aload_n 0, 1) := by decide +kernel
theorem dX7_end_2 : decode cX7_end 2 = .ok (.iload_n 1, 1) := by decide +kernel
theorem dX7_end_3 : decode cX7_end 3 = .ok (.invokevirtual 109, 3) := by decide +kernel
theorem dX7_end_6 : decode cX7_end 6 = .ok (.putfield 75, 3) := by decide +kernel
theorem dX7_end_9 : decode cX7_end 9 = .ok (.aload_n 0, 1) := by decide +kernel
theorem dX7_end_10 : decode cX7_end 10 = .ok (.getfield 75, 3) := by decide +kernel
theorem dX7_end_13 : decode cX7_end 13 = .ok (.ifCond .ne 8, 3) := by decide +kernel
theorem dX7_end_16 : decode cX7_end 16 = .ok (.aload_n 0, 1) := by decide +kernel
theorem dX7_end_17 : decode cX7_end 17 = .ok (.iload_n 1, 1) := by decide +kernel
theorem dX7_end_18 : decode cX7_end 18 = .ok (.invokevirtual 99, 3) := by decide +kernel
theorem dX7_end_21 : decode cX7_end 21 = .ok (.return_, 1) := by decide +kernel
set_option maxRecDepth 20000 in
theorem ggX7_mute_X7_isPerson : GoodIn wsX7_mute wsX7_isPerson := goodIn_r _ [7, 8, 9, 10, 6, 11, 12, 13, 14, 15, 16, 17, 18, 19, 20, 21, 22, 23, 24, 25, 26, 27, 28, 29, 30, 31, 32, 33, 34, 35, 36, 37, 38] (by decide +kernel) (by decide +kernel)
set_option maxRecDepth 20000 in
theorem gX7_mute_X7_isPerson : GoodIn wsX7_mute (wsV RX7 102 RX7 yX7_isPerson wsX7_isPerson) := goodIn_app (goodIn_of _ (by decide +kernel)) ggX7_mute_X7_isPerson
theorem dX7_mute_0 : decode cX7_mute 0 = .ok (.aload_n 0, 1) := by decide +kernel
theorem dX7_mute_1 : decode cX7_mute 1 = .ok (.aload_n 0, 1) := by decide +kernel
theorem dX7_mute_2 : decode cX7_mute 2 = .ok (.iload_n 1, 1) := by decide +kernel
theorem dX7_mute_3 : decode cX7_mute 3 = .ok (.invokevirtual 102, 3) := by decide +kernel
theorem dX7_mute_6 : decode cX7_mute 6 = .ok (.ifCond .eq 7, 3) := by decide +kernel
theorem dX7_mute_9 : decode cX7_mute 9 = .ok (.iconst 0, 1) := by decide +kernel
theorem dX7_mute_10 : decode cX7_mute 10 = .ok (.goto 4, 3) := by decide +kernel
theorem dX7_mute_13 : decode cX7_mute 13 = .ok (.iconst 1, 1) := by decide +kernel
theorem dX7_mute_14 : decode cX7_mute 14 = .ok (.putfield 75, 3) := by decide +kernel
theorem dX7_mute_17 : decode cX7_mute 17 = .ok (.aload_n 0, 1) := by decide +kernel
theorem dX7_mute_18 : decode cX7_mute 18 = .ok (.getfield 75, 3) := by decide +kernel
theorem dX7_mute_21 : decode cX7_mute 21 = .ok (.ifCond .le 5, 3) := by decide +kernel
theorem dX7_mute_24 : decode cX7_mute 24 = .ok (.iconst 0, 1) := by decide +kernel
theorem dX7_mute_25 : decode cX7_mute 25 = .ok (.ireturn, 1) := by decide +kernel
theorem dX7_mute_26 : decode cX7_mute 26 = .ok (.aload_n 0, 1) := by decide +kernel
theorem dX7_mute_27 : decode cX7_mute 27 = .ok (.getfield 20, 3) := by decide +kernel
theorem dX7_mute_30 : decode cX7_mute 30 = .ok (.iload_n 1, 1) := by decide +kernel
theorem dX7_mute_31 : decode cX7_mute 31 = .ok (.aload_n 0, 1) := by decide +kernel
theorem dX7_mute_32 : decode cX7_mute 32 = .ok (.getfield 20, 3) := by decide +kernel
theorem dX7_mute_35 : decode cX7_mute 35 = .ok (.iload_n 1, 1) := by decide +kernel
theorem dX7_mute_36 : decode cX7_mute 36 = .ok (.baload, 1) := by decide +kernel
theorem dX7_mute_37 : decode cX7_mute 37 = .ok (.ifCond .ne 7, 3) := by decide +kernel
theorem dX7_mute_40 : decode cX7_mute 40 = .ok (.iconst 1, 1) := by decide +kernel
theorem dX7_mute_41 : decode cX7_mute 41 = .ok (.goto 4, 3) := by decide +kernel
theorem dX7_mute_44 : decode cX7_mute 44 = .ok (.iconst 0, 1) := by decide +kernel
theorem dX7_mute_45 : decode cX7_mute 45 = .ok (.bastore, 1) := by decide +kernel
theorem dX7_mute_46 : decode cX7_mute 46 = .ok (.aload_n 0, 1) := by decide +kernel
theorem dX7_mute_47 : decode cX7_mute 47 = .ok (.getfield 20, 3) := by decide +kernel
theorem dX7_mute_50 : decode cX7_mute 50 = .ok (.iload_n 1, 1) := by decide +kernel
theorem dX7_mute_51 : decode cX7_mute 51 = .ok (.baload, 1) := by decide +kernel
theorem dX7_mute_52 : decode cX7_mute 52 = .ok (.ireturn, 1) := by decide +kernel
set_option maxRecDepth 20000 in
theorem ggX7_setLevel_X7_isPerson : GoodIn wsX7_setLevel wsX7_isPerson := goodIn_r _ [7, 8, 9, 10, 6, 11, 12, 13, 14, 15, 16, 17, 18, 19, 20, 21, 22, 23, 24, 25, 26, 27, 28, 29, 30, 31, 32, 33, 34, 35, 36, 37, 38] (by decide +kernel) (by decide +kernel)
set_option maxRecDepth 20000 in
theorem gX7_setLevel_X7_isPerson : GoodIn wsX7_setLevel (wsV RX7 102 RX7 yX7_isPerson wsX7_isPerson) := goodIn_app (goodIn_of _ (by decide +kernel)) ggX7_setLevel_X7_isPerson
set_option maxRecDepth 20000 in
theorem ggX7_setLevel_X7_in : GoodIn wsX7_setLevel wsX7_in := goodIn_r _ [11] (by decide +kernel) (by decide +kernel)
set_option maxRecDepth 20000 in
theorem gX7_setLevel_X7_in : GoodIn wsX7_setLevel (va_wsS RX7 78 yX7_in wsX7_in) := goodIn_app (goodIn_of _ (by decide +kernel)) ggX7_setLevel_X7_in
theorem dX7_setLevel_0 : decode cX7_setLevel 0 = .ok (.aload_n 0, 1) := by decide +kernel
theorem dX7_setLevel_1 : decode cX7_setLevel 1 = .ok (.aload_n 0, 1) := by decide +kernel
theorem dX7_setLevel_2 : decode cX7_setLevel 2 = .ok (.iload_n 1, 1) := by decide +kernel
theorem dX7_setLevel_3 : decode cX7_setLevel 3 = .ok (.invokevirtual 102, 3) := by decide +kernel
theorem dX7_setLevel_6 : decode cX7_setLevel 6 = .ok (.ifCond .ne 7, 3) := by decide +kernel
theorem dX7_setLevel_9 : decode cX7_setLevel 9 = .ok (.iconst 1, 1) := by decide +kernel
theorem dX7_setLevel_10 : decode cX7_setLevel 10 = .ok (.goto 18, 3) := by decide +kernel
theorem dX7_setLevel_13 : decode cX7_setLevel 13 = .ok (.iload_n 2, 1) := by decide +kernel
theorem dX7_setLevel_14 : decode cX7_setLevel 14 = .ok (.iconst 0, 1) := by decide +kernel
theorem dX7_setLevel_15 : decode cX7_setLevel 15 = .ok (.bipush 100, 2) := by decide +kernel
theorem dX7_setLevel_17 : decode cX7_setLevel 17 = .ok (.invokestatic 78, 3) := by decide +kernel
theorem dX7_setLevel_20 : decode cX7_setLevel 20 = .ok (.ifCond .eq 7, 3) := by decide +kernel
theorem dX7_setLevel_23 : decode cX7_setLevel 23 = .ok (.iconst 0, 1) := by decide +kernel
theorem dX7_setLevel_24 : decode cX7_setLevel 24 = .ok (.goto 4, 3) := by decide +kernel
theorem dX7_setLevel_27 : decode cX7_setLevel 27 = .ok (.iconst 2, 1) := by decide +kernel
theorem dX7_setLevel_28 : decode cX7_setLevel 28 = .ok (.putfield 75, 3) := by decide +kernel
theorem dX7_setLevel_31 : decode cX7_setLevel 31 = .ok (.aload_n 0, 1) := by decide +kernel
theorem dX7_setLevel_32 : decode cX7_setLevel 32 = .ok (.getfield 75, 3) := by decide +kernel
theorem dX7_setLevel_35 : decode cX7_setLevel 35 = .ok (.ifCond .le 5, 3) := by decide +kernel
theorem dX7_setLevel_38 : decode cX7_setLevel 38 = .ok (.iconst 0, 1) := by decide +kernel
theorem dX7_setLevel_39 : decode cX7_setLevel 39 = .ok (.ireturn, 1) := by decide +kernel
theorem dX7_setLevel_40 : decode cX7_setLevel 40 = .ok (.aload_n 0, 1) := by decide +kernel
theorem dX7_setLevel_41 : decode cX7_setLevel 41 = .ok (.getfield 23, 3) := by decide +kernel
theorem dX7_setLevel_44 : decode cX7_setLevel 44 = .ok (.iload_n 1, 1) := by decide +kernel
theorem dX7_setLevel_45 : decode cX7_setLevel 45 = .ok (.iaload, 1) := by decide +kernel
theorem dX7_setLevel_46 : decode cX7_setLevel 46 = .ok (.istore_n 3, 1) := by decide +kernel
theorem dX7_setLevel_47 : decode cX7_setLevel 47 = .ok (.aload_n 0, 1) := by decide +kernel
theorem dX7_setLevel_48 : decode cX7_setLevel 48 = .ok (.getfield 23, 3) := by decide +kernel
theorem dX7_setLevel_51 : decode cX7_setLevel 51 = .ok (.iload_n 1, 1) := by decide +kernel
theorem dX7_setLevel_52 : decode cX7_setLevel 52 = .ok (.iload_n 2, 1) := by decide +kernel
theorem dX7_setLevel_53 : decode cX7_setLevel 53 = .ok (.iastore, 1) := by decide +kernel
theorem dX7_setLevel_54 : decode cX7_setLevel 54 = .ok (.iload_n 3, 1) := by decide +kernel
theorem dX7_setLevel_55 : decode cX7_setLevel 55 = .ok (.ireturn, 1) := by decide +kernel
theorem dX7_people_0 : decode cX7_people 0 = .ok (.aload_n 0, 1) := by decide +kernel
theorem dX7_people_1 : decode cX7_people 1 = .ok (.iconst 0, 1) := by decide +kernel
theorem dX7_people_2 : decode cX7_people 2 = .ok (.putfield 75, 3) := by decide +kernel
theorem dX7_people_5 : decode cX7_people 5 = .ok (.iconst 0, 1) := by decide +kernel
theorem dX7_people_6 : decode cX7_people 6 = .ok (.istore_n 1, 1) := by decide +kernel
theorem dX7_people_7 : decode cX7_people 7 = .ok (.iconst 0, 1) := by decide +kernel
theorem dX7_people_8 : decode cX7_people 8 = .ok (.istore_n 2, 1) := by decide +kernel
theorem dX7_people_9 : decode cX7_people 9 = .ok (.iload_n 2, 1) := by decide +kernel
theorem dX7_people_10 : decode cX7_people 10 = .ok (.bipush 6, 2) := by decide +kernel
theorem dX7_people_12 : decode cX7_people 12 = .ok (.if_icmp .ge 26, 3) := by decide +kernel
theorem dX7_people_15 : decode cX7_people 15 = .ok (.iload_n 1, 1) := by decide +kernel
theorem dX7_people_16 : decode cX7_people 16 = .ok (.aload_n 0, 1) := by decide +kernel
theorem dX7_people_17 : decode cX7_people 17 = .ok (.getfield 16, 3) := by decide +kernel
theorem dX7_people_20 : decode cX7_people 20 = .ok (.iload_n 2, 1) := by decide +kernel
theorem dX7_people_21 : decode cX7_people 21 = .ok (.baload, 1) := by decide +kernel
theorem dX7_people_22 : decode cX7_people 22 = .ok (.ifCond .eq 7, 3) := by decide +kernel
theorem dX7_people_25 : decode cX7_people 25 = .ok (.iconst 1, 1) := by decide +kernel
theorem dX7_people_26 : decode cX7_people 26 = .ok (.goto 4, 3) := by decide +kernel
theorem dX7_people_29 : decode cX7_people 29 = .ok (.iconst 0, 1) := by decide +kernel
theorem dX7_people_30 : decode cX7_people 30 = .ok (.iadd, 1) := by decide +kernel
theorem dX7_people_31 : decode cX7_people 31 = .ok (.istore_n 1, 1) := by decide +kernel
theorem dX7_people_32 : decode cX7_people 32 = .ok (.iinc 2 1, 3) := by decide +kernel
theorem dX7_people_35 : decode cX7_people 35 = .ok (.goto (-26), 3) := by decide +kernel
theorem dX7_people_38 : decode cX7_people 38 = .ok (.iload_n 1, 1) := by decide +kernel
theorem dX7_people_39 : decode cX7_people 39 = .ok (.ireturn, 1) := by decide +kernel
set_option maxRecDepth 20000 in
theorem ggX7_pin_X7_isPerson : GoodIn wsX7_pin wsX7_isPerson := goodIn_r _ [7, 8, 9, 10, 6, 11, 12, 13, 14, 15, 16, 17, 18, 19, 20, 21, 22, 23, 24, 25, 26, 27, 28, 29, 30, 31, 32, 33, 34, 35, 36, 37, 38] (by decide +kernel) (by decide +kernel)
set_option maxRecDepth 20000 in
theorem gX7_pin_X7_isPerson : GoodIn wsX7_pin (wsV RX7 102 RX7 yX7_isPerson wsX7_isPerson) := goodIn_app (goodIn_of _ (by decide +kernel)) ggX7_pin_X7_isPerson
theorem dX7_pin_0 : decode cX7_pin 0 = .ok (.aload_n 0, 1) := by decide +kernel
theorem dX7_pin_1 : decode cX7_pin 1 = .ok (.aload_n 0, 1) := by decide +kernel
theorem dX7_pin_2 : decode cX7_pin 2 = .ok (.iload_n 1, 1) := by decide +kernel
theorem dX7_pin_3 : decode cX7_pin 3 = .ok (.invokevirtual 102, 3) := by decide +kernel
theorem dX7_pin_6 : decode cX7_pin 6 = .ok (.ifCond .eq 16, 3) := by decide +kernel
theorem dX7_pin_9 : decode cX7_pin 9 = .ok (.iload_n 2, 1) := by decide +kernel
theorem dX7_pin_10 : decode cX7_pin 10 = .ok (.iconst (-1), 1) := by decide +kernel
theorem dX7_pin_11 : decode cX7_pin 11 = .ok (.if_icmp .eq 15, 3) := by decide +kernel
theorem dX7_pin_14 : decode cX7_pin 14 = .ok (.aload_n 0, 1) := by decide +kernel
theorem dX7_pin_15 : decode cX7_pin 15 = .ok (.iload_n 2, 1) := by decide +kernel
theorem dX7_pin_16 : decode cX7_pin 16 = .ok (.invokevirtual 102, 3) := by decide +kernel
theorem dX7_pin_19 : decode cX7_pin 19 = .ok (.ifCond .ne 7, 3) := by decide +kernel
theorem dX7_pin_22 : decode cX7_pin 22 = .ok (.iconst 1, 1) := by decide +kernel
theorem dX7_pin_23 : decode cX7_pin 23 = .ok (.goto 13, 3) := by decide +kernel
theorem dX7_pin_26 : decode cX7_pin 26 = .ok (.iload_n 1, 1) := by decide +kernel
theorem dX7_pin_27 : decode cX7_pin 27 = .ok (.iload_n 2, 1) := by decide +kernel
theorem dX7_pin_28 : decode cX7_pin 28 = .ok (.if_icmp .ne 7, 3) := by decide +kernel
theorem dX7_pin_31 : decode cX7_pin 31 = .ok (.iconst 2, 1) := by decide +kernel
theorem dX7_pin_32 : decode cX7_pin 32 = .ok (.goto 4, 3) := by decide +kernel
theorem dX7_pin_35 : decode cX7_pin 35 = .ok (.iconst 0, 1) := by decide +kernel
theorem dX7_pin_36 : decode cX7_pin 36 = .ok (.putfield 75, 3) := by decide +kernel
theorem dX7_pin_39 : decode cX7_pin 39 = .ok (.aload_n 0, 1) := by decide +kernel
theorem dX7_pin_40 : decode cX7_pin 40 = .ok (.getfield 75, 3) := by decide +kernel
theorem dX7_pin_43 : decode cX7_pin 43 = .ok (.ifCond .le 5, 3) := by decide +kernel
theorem dX7_pin_46 : decode cX7_pin 46 = .ok (.iconst 0, 1) := by decide +kernel
theorem dX7_pin_47 : decode cX7_pin 47 = .ok (.ireturn, 1) := by decide +kernel
theorem dX7_pin_48 : decode cX7_pin 48 = .ok (.aload_n 0, 1) := by decide +kernel
theorem dX7_pin_49 : decode cX7_pin 49 = .ok (.getfield 27, 3) := by decide +kernel
theorem dX7_pin_52 : decode cX7_pin 52 = .ok (.iload_n 1, 1) := by decide +kernel
theorem dX7_pin_53 : decode cX7_pin 53 = .ok (.iaload, 1) := by decide +kernel
theorem dX7_pin_54 : decode cX7_pin 54 = .ok (.istore_n 3, 1) := by decide +kernel
theorem dX7_pin_55 : decode cX7_pin 55 = .ok (.aload_n 0, 1) := by decide +kernel
theorem dX7_pin_56 : decode cX7_pin 56 = .ok (.getfield 27, 3) := by decide +kernel
theorem dX7_pin_59 : decode cX7_pin 59 = .ok (.iload_n 1, 1) := by decide +kernel
theorem dX7_pin_60 : decode cX7_pin 60 = .ok (.iload_n 2, 1) := by decide +kernel
theorem dX7_pin_61 : decode cX7_pin 61 = .ok (.iastore, 1) := by decide +kernel
theorem dX7_pin_62 : decode cX7_pin 62 = .ok (.iload_n 3, 1) := by decide +kernel
theorem dX7_pin_63 : decode cX7_pin 63 = .ok (.ireturn, 1) := by decide +kernel
set_option maxRecDepth 20000 in
theorem ggX7_setPlaces_X7_isPerson : GoodIn wsX7_setPlaces wsX7_isPerson := goodIn_r _ [7, 8, 9, 10, 6, 11, 12, 13, 14, 15, 16, 17, 18, 19, 20, 21, 22, 23, 24, 25, 26, 27, 28, 29, 30, 31, 32, 33, 34, 35, 36, 37, 38] (by decide +kernel) (by decide +kernel)
set_option maxRecDepth 20000 in
theorem gX7_setPlaces_X7_isPerson : GoodIn wsX7_setPlaces (wsV RX7 102 RX7 yX7_isPerson wsX7_isPerson) := goodIn_app (goodIn_of _ (by decide +kernel)) ggX7_setPlaces_X7_isPerson
set_option maxRecDepth 20000 in
theorem ggX7_setPlaces_X7_in : GoodIn wsX7_setPlaces wsX7_in := goodIn_r _ [11] (by decide +kernel) (by decide +kernel)
set_option maxRecDepth 20000 in
theorem gX7_setPlaces_X7_in : GoodIn wsX7_setPlaces (va_wsS RX7 78 yX7_in wsX7_in) := goodIn_app (goodIn_of _ (by decide +kernel)) ggX7_setPlaces_X7_in
theorem dX7_setPlaces_0 : decode cX7_setPlaces 0 = .ok (.aload_n 0, 1) := by decide +kernel
theorem dX7_setPlaces_1 : decode cX7_setPlaces 1 = .ok (.aload_n 0, 1) := by decide +kernel
theorem dX7_setPlaces_2 : decode cX7_setPlaces 2 = .ok (.iload_n 1, 1) := by decide +kernel
theorem dX7_setPlaces_3 : decode cX7_setPlaces 3 = .ok (.invokevirtual 102, 3) := by decide +kernel
theorem dX7_setPlaces_6 : decode cX7_setPlaces 6 = .ok (.ifCond .ne 7, 3) := by decide +kernel
theorem dX7_setPlaces_9 : decode cX7_setPlaces 9 = .ok (.iconst 1, 1) := by decide +kernel
theorem dX7_setPlaces_10 : decode cX7_setPlaces 10 = .ok (.goto 17, 3) := by decide +kernel
theorem dX7_setPlaces_13 : decode cX7_setPlaces 13 = .ok (.iload_n 2, 1) := by decide +kernel
theorem dX7_setPlaces_14 : decode cX7_setPlaces 14 = .ok (.iconst 0, 1) := by decide +kernel
theorem dX7_setPlaces_15 : decode cX7_setPlaces 15 = .ok (.iconst 5, 1) := by decide +kernel
theorem dX7_setPlaces_16 : decode cX7_setPlaces 16 = .ok (.invokestatic 78, 3) := by decide +kernel
theorem dX7_setPlaces_19 : decode cX7_setPlaces 19 = .ok (.ifCond .eq 7, 3) := by decide +kernel
theorem dX7_setPlaces_22 : decode cX7_setPlaces 22 = .ok (.iconst 0, 1) := by decide +kernel
theorem dX7_setPlaces_23 : decode cX7_setPlaces 23 = .ok (.goto 4, 3) := by decide +kernel
theorem dX7_setPlaces_26 : decode cX7_setPlaces 26 = .ok (.iconst 2, 1) := by decide +kernel
theorem dX7_setPlaces_27 : decode cX7_setPlaces 27 = .ok (.putfield 75, 3) := by decide +kernel
theorem dX7_setPlaces_30 : decode cX7_setPlaces 30 = .ok (.aload_n 0, 1) := by decide +kernel
theorem dX7_setPlaces_31 : decode cX7_setPlaces 31 = .ok (.getfield 75, 3) := by decide +kernel
theorem dX7_setPlaces_34 : decode cX7_setPlaces 34 = .ok (.ifCond .le 5, 3) := by decide +kernel
theorem dX7_setPlaces_37 : decode cX7_setPlaces 37 = .ok (.iconst 0, 1) := by decide +kernel
theorem dX7_setPlaces_38 : decode cX7_setPlaces 38 = .ok (.ireturn, 1) := by decide +kernel
theorem dX7_setPlaces_39 : decode cX7_setPlaces 39 = .ok (.aload_n 0, 1) := by decide +kernel
theorem dX7_setPlaces_40 : decode cX7_setPlaces 40 = .ok (.getfield 30, 3) := by decide +kernel
theorem dX7_setPlaces_43 : decode cX7_setPlaces 43 = .ok (.iload_n 1, 1) := by decide +kernel
theorem dX7_setPlaces_44 : decode cX7_setPlaces 44 = .ok (.iaload, 1) := by decide +kernel
theorem dX7_setPlaces_45 : decode cX7_setPlaces 45 = .ok (.istore_n 3, 1) := by decide +kernel
theorem dX7_setPlaces_46 : decode cX7_setPlaces 46 = .ok (.aload_n 0, 1) := by decide +kernel
theorem dX7_setPlaces_47 : decode cX7_setPlaces 47 = .ok (.getfield 30, 3) := by decide +kernel
theorem dX7_setPlaces_50 : decode cX7_setPlaces 50 = .ok (.iload_n 1, 1) := by decide +kernel
theorem dX7_setPlaces_51 : decode cX7_setPlaces 51 = .ok (.iload_n 2, 1) := by decide +kernel
theorem dX7_setPlaces_52 : decode cX7_setPlaces 52 = .ok (.iastore, 1) := by decide +kernel
theorem dX7_setPlaces_53 : decode cX7_setPlaces 53 = .ok (.iload_n 3, 1) := by decide +kernel
theorem dX7_setPlaces_54 : decode cX7_setPlaces 54 = .ok (.ireturn, 1) := by decide +kernel
set_option maxRecDepth 20000 in
theorem ggX7_setEstimate_X7_isPerson : GoodIn wsX7_setEstimate wsX7_isPerson := goodIn_r _ [7, 8, 9, 10, 6, 11, 12, 13, 14, 15, 16, 17, 18, 19, 20, 21, 22, 23, 24, 25, 26, 27, 28, 29, 30, 31, 32, 33, 34, 35, 36, 37, 38] (by decide +kernel) (by decide +kernel)
set_option maxRecDepth 20000 in
theorem gX7_setEstimate_X7_isPerson : GoodIn wsX7_setEstimate (wsV RX7 102 RX7 yX7_isPerson wsX7_isPerson) := goodIn_app (goodIn_of _ (by decide +kernel)) ggX7_setEstimate_X7_isPerson
set_option maxRecDepth 20000 in
theorem ggX7_setEstimate_X7_in : GoodIn wsX7_setEstimate wsX7_in := goodIn_r _ [11] (by decide +kernel) (by decide +kernel)
set_option maxRecDepth 20000 in
theorem gX7_setEstimate_X7_in : GoodIn wsX7_setEstimate (va_wsS RX7 78 yX7_in wsX7_in) := goodIn_app (goodIn_of _ (by decide +kernel)) ggX7_setEstimate_X7_in
theorem dX7_setEstimate_0 : decode cX7_setEstimate 0 = .ok (.aload_n 0, 1) := by decide +kernel
theorem dX7_setEstimate_1 : decode cX7_setEstimate 1 = .ok (.aload_n 0, 1) := by decide +kernel
theorem dX7_setEstimate_2 : decode cX7_setEstimate 2 = .ok (.iload_n 1, 1) := by decide +kernel
theorem dX7_setEstimate_3 : decode cX7_setEstimate 3 = .ok (.invokevirtual 102, 3) := by decide +kernel
theorem dX7_setEstimate_6 : decode cX7_setEstimate 6 = .ok (.ifCond .ne 7, 3) := by decide +kernel
theorem dX7_setEstimate_9 : decode cX7_setEstimate 9 = .ok (.iconst 1, 1) := by decide +kernel
theorem dX7_setEstimate_10 : decode cX7_setEstimate 10 = .ok (.goto 19, 3) := by decide +kernel
theorem dX7_setEstimate_13 : decode cX7_setEstimate 13 = .ok (.iload_n 2, 1) := by decide +kernel
theorem dX7_setEstimate_14 : decode cX7_setEstimate 14 = .ok (.iconst 0, 1) := by decide +kernel
theorem dX7_setEstimate_15 : decode cX7_setEstimate 15 = .ok (.sipush 2000, 3) := by decide +kernel
theorem dX7_setEstimate_18 : decode cX7_setEstimate 18 = .ok (.invokestatic 78, 3) := by decide +kernel
theorem dX7_setEstimate_21 : decode cX7_setEstimate 21 = .ok (.ifCond .eq 7, 3) := by decide +kernel
theorem dX7_setEstimate_24 : decode cX7_setEstimate 24 = .ok (.iconst 0, 1) := by decide +kernel
theorem dX7_setEstimate_25 : decode cX7_setEstimate 25 = .ok (.goto 4, 3) := by decide +kernel
theorem dX7_setEstimate_28 : decode cX7_setEstimate 28 = .ok (.iconst 2, 1) := by decide +kernel
theorem dX7_setEstimate_29 : decode cX7_setEstimate 29 = .ok (.putfield 75, 3) := by decide +kernel
theorem dX7_setEstimate_32 : decode cX7_setEstimate 32 = .ok (.aload_n 0, 1) := by decide +kernel
theorem dX7_setEstimate_33 : decode cX7_setEstimate 33 = .ok (.getfield 75, 3) := by decide +kernel
theorem dX7_setEstimate_36 : decode cX7_setEstimate 36 = .ok (.ifCond .le 5, 3) := by decide +kernel
theorem dX7_setEstimate_39 : decode cX7_setEstimate 39 = .ok (.iconst 0, 1) := by decide +kernel
theorem dX7_setEstimate_40 : decode cX7_setEstimate 40 = .ok (.ireturn, 1) := by decide +kernel
theorem dX7_setEstimate_41 : decode cX7_setEstimate 41 = .ok (.aload_n 0, 1) := by decide +kernel
theorem dX7_setEstimate_42 : decode cX7_setEstimate 42 = .ok (.getfield 33, 3) := by decide +kernel
theorem dX7_setEstimate_45 : decode cX7_setEstimate 45 = .ok (.iload_n 1, 1) := by decide +kernel
theorem dX7_setEstimate_46 : decode cX7_setEstimate 46 = .ok (.iaload, 1) := by decide +kernel
theorem dX7_setEstimate_47 : decode cX7_setEstimate 47 = .ok (.istore_n 3, 1) := by decide +kernel
theorem dX7_setEstimate_48 : decode cX7_setEstimate 48 = .ok (.aload_n 0, 1) := by decide +kernel
theorem dX7_setEstimate_49 : decode cX7_setEstimate 49 = .ok (.getfield 33, 3) := by decide +kernel
theorem dX7_setEstimate_52 : decode cX7_setEstimate 52 = .ok (.iload_n 1, 1) := by decide +kernel
theorem dX7_setEstimate_53 : decode cX7_setEstimate 53 = .ok (.iload_n 2, 1) := by decide +kernel
theorem dX7_setEstimate_54 : decode cX7_setEstimate 54 = .ok (.iastore, 1) := by decide +kernel
theorem dX7_setEstimate_55 : decode cX7_setEstimate 55 = .ok (.iload_n 3, 1) := by decide +kernel
theorem dX7_setEstimate_56 : decode cX7_setEstimate 56 = .ok (.ireturn, 1) := by decide +kernel
set_option maxRecDepth 20000 in
theorem ggX7_setTimes_X7_in : GoodIn wsX7_setTimes wsX7_in := goodIn_r _ [7] (by decide +kernel) (by decide +kernel)
set_option maxRecDepth 20000 in
theorem gX7_setTimes_X7_in : GoodIn wsX7_setTimes (va_wsS RX7 78 yX7_in wsX7_in) := goodIn_app (goodIn_of _ (by decide +kernel)) ggX7_setTimes_X7_in
theorem dX7_setTimes_0 : decode cX7_setTimes 0 = .ok (.aload_n 0, 1) := by decide +kernel
theorem dX7_setTimes_1 : decode cX7_setTimes 1 = .ok (.iload_n 1, 1) := by decide +kernel
theorem dX7_setTimes_2 : decode cX7_setTimes 2 = .ok (.iconst 1, 1) := by decide +kernel
theorem dX7_setTimes_3 : decode cX7_setTimes 3 = .ok (.bipush 10, 2) := by decide +kernel
theorem dX7_setTimes_5 : decode cX7_setTimes 5 = .ok (.invokestatic 78, 3) := by decide +kernel
theorem dX7_setTimes_8 : decode cX7_setTimes 8 = .ok (.ifCond .eq 17, 3) := by decide +kernel
theorem dX7_setTimes_11 : decode cX7_setTimes 11 = .ok (.iload_n 2, 1) := by decide +kernel
theorem dX7_setTimes_12 : decode cX7_setTimes 12 = .ok (.iconst 0, 1) := by decide +kernel
theorem dX7_setTimes_13 : decode cX7_setTimes 13 = .ok (.bipush 10, 2) := by decide +kernel
theorem dX7_setTimes_15 : decode cX7_setTimes 15 = .ok (.invokestatic 78, 3) := by decide +kernel
theorem dX7_setTimes_18 : decode cX7_setTimes 18 = .ok (.ifCond .eq 7, 3) := by decide +kernel
theorem dX7_setTimes_21 : decode cX7_setTimes 21 = .ok (.iconst 0, 1) := by decide +kernel
theorem dX7_setTimes_22 : decode cX7_setTimes 22 = .ok (.goto 4, 3) := by decide +kernel
theorem dX7_setTimes_25 : decode cX7_setTimes 25 = .ok (.iconst 1, 1) := by decide +kernel
theorem dX7_setTimes_26 : decode cX7_setTimes 26 = .ok (.putfield 75, 3) := by decide +kernel
theorem dX7_setTimes_29 : decode cX7_setTimes 29 = .ok (.aload_n 0, 1) := by decide +kernel
theorem dX7_setTimes_30 : decode cX7_setTimes 30 = .ok (.getfield 75, 3) := by decide +kernel
theorem dX7_setTimes_33 : decode cX7_setTimes 33 = .ok (.ifCond .ne 13, 3) := by decide +kernel
theorem dX7_setTimes_36 : decode cX7_setTimes 36 = .ok (.aload_n 0, 1) := by decide +kernel
theorem dX7_setTimes_37 : decode cX7_setTimes 37 = .ok (.iload_n 1, 1) := by decide +kernel
theorem dX7_setTimes_38 : decode cX7_setTimes 38 = .ok (.putfield 7, 3) := by decide +kernel
theorem dX7_setTimes_41 : decode cX7_setTimes 41 = .ok (.aload_n 0, 1) := by decide +kernel
theorem dX7_setTimes_42 : decode cX7_setTimes 42 = .ok (.iload_n 2, 1) := by decide +kernel
theorem dX7_setTimes_43 : decode cX7_setTimes 43 = .ok (.putfield 13, 3) := by decide +kernel
theorem dX7_setTimes_46 : decode cX7_setTimes 46 = .ok (.return_, 1) := by decide +kernel
set_option maxRecDepth 20000 in
theorem ggX7_listens_X7_unspeaks : GoodIn wsX7_listens wsX7_unspeaks := goodIn_r _ [14, 8, 9, 15, 16, 17, 18, 19, 20, 21, 22, 23, 24, 25, 26, 27, 28, 29, 30, 31, 32, 33, 34, 35, 36, 37, 38, 39, 40, 41] (by decide +kernel) (by decide +kernel)
set_option maxRecDepth 20000 in
theorem gX7_listens_X7_unspeaks : GoodIn wsX7_listens (wsV RX7 106 RX7 yX7_unspeaks wsX7_unspeaks) := goodIn_app (goodIn_of _ (by decide +kernel)) ggX7_listens_X7_unspeaks
theorem dX7_listens_0 : decode cX7_listens 0 = .ok (.iconst (-1), 1) := by decide +kernel
theorem dX7_listens_1 : decode cX7_listens 1 = .ok (.istore_n 1, 1) := by decide +kernel
theorem dX7_listens_2 : decode cX7_listens 2 = .ok (.iconst 0, 1) := by decide +kernel
theorem dX7_listens_3 : decode cX7_listens 3 = .ok (.istore_n 2, 1) := by decide +kernel
theorem dX7_listens_4 : decode cX7_listens 4 = .ok (.iload_n 2, 1) := by decide +kernel
theorem dX7_listens_5 : decode cX7_listens 5 = .ok (.bipush 6, 2) := by decide +kernel
theorem dX7_listens_7 : decode cX7_listens 7 = .ok (.if_icmp .ge 74, 3) := by decide +kernel
theorem dX7_listens_10 : decode cX7_listens 10 = .ok (.aload_n 0, 1) := by decide +kernel
theorem dX7_listens_11 : decode cX7_listens 11 = .ok (.getfield 16, 3) := by decide +kernel
theorem dX7_listens_14 : decode cX7_listens 14 = .ok (.iload_n 2, 1) := by decide +kernel
theorem dX7_listens_15 : decode cX7_listens 15 = .ok (.baload, 1) := by decide +kernel
theorem dX7_listens_16 : decode cX7_listens 16 = .ok (.ifCond .eq 27, 3) := by decide +kernel
theorem dX7_listens_19 : decode cX7_listens 19 = .ok (.aload_n 0, 1) := by decide +kernel
theorem dX7_listens_20 : decode cX7_listens 20 = .ok (.getfield 20, 3) := by decide +kernel
theorem dX7_listens_23 : decode cX7_listens 23 = .ok (.iload_n 2, 1) := by decide +kernel
theorem dX7_listens_24 : decode cX7_listens 24 = .ok (.baload, 1) := by decide +kernel
theorem dX7_listens_25 : decode cX7_listens 25 = .ok (.ifCond .ne 18, 3) := by decide +kernel
theorem dX7_listens_28 : decode cX7_listens 28 = .ok (.aload_n 0, 1) := by decide +kernel
theorem dX7_listens_29 : decode cX7_listens 29 = .ok (.getfield 23, 3) := by decide +kernel
theorem dX7_listens_32 : decode cX7_listens 32 = .ok (.iload_n 2, 1) := by decide +kernel
theorem dX7_listens_33 : decode cX7_listens 33 = .ok (.iaload, 1) := by decide +kernel
theorem dX7_listens_34 : decode cX7_listens 34 = .ok (.bipush 30, 2) := by decide +kernel
theorem dX7_listens_36 : decode cX7_listens 36 = .ok (.if_icmp .lt 7, 3) := by decide +kernel
theorem dX7_listens_39 : decode cX7_listens 39 = .ok (.iconst 1, 1) := by decide +kernel
theorem dX7_listens_40 : decode cX7_listens 40 = .ok (.goto 4, 3) := by decide +kernel
theorem dX7_listens_43 : decode cX7_listens 43 = .ok (.iconst 0, 1) := by decide +kernel
theorem dX7_listens_44 : decode cX7_listens 44 = .ok (.istore_n 3, 1) := by decide +kernel
theorem dX7_listens_45 : decode cX7_listens 45 = .ok (.iload_n 3, 1) := by decide +kernel
theorem dX7_listens_46 : decode cX7_listens 46 = .ok (.ifCond .eq 27, 3) := by decide +kernel
theorem dX7_listens_49 : decode cX7_listens 49 = .ok (.iload_n 1, 1) := by decide +kernel
theorem dX7_listens_50 : decode cX7_listens 50 = .ok (.iconst (-1), 1) := by decide +kernel
theorem dX7_listens_51 : decode cX7_listens 51 = .ok (.if_icmp .eq 18, 3) := by decide +kernel
theorem dX7_listens_54 : decode cX7_listens 54 = .ok (.aload_n 0, 1) := by decide +kernel
theorem dX7_listens_55 : decode cX7_listens 55 = .ok (.getfield 23, 3) := by decide +kernel
theorem dX7_listens_58 : decode cX7_listens 58 = .ok (.iload_n 2, 1) := by decide +kernel
theorem dX7_listens_59 : decode cX7_listens 59 = .ok (.iaload, 1) := by decide +kernel
theorem dX7_listens_60 : decode cX7_listens 60 = .ok (.aload_n 0, 1) := by decide +kernel
theorem dX7_listens_61 : decode cX7_listens 61 = .ok (.getfield 23, 3) := by decide +kernel
theorem dX7_listens_64 : decode cX7_listens 64 = .ok (.iload_n 1, 1) := by decide +kernel
theorem dX7_listens_65 : decode cX7_listens 65 = .ok (.iaload, 1) := by decide +kernel
theorem dX7_listens_66 : decode cX7_listens 66 = .ok (.if_icmp .le 7, 3) := by decide +kernel
theorem dX7_listens_69 : decode cX7_listens 69 = .ok (.iload_n 2, 1) := by decide +kernel
theorem dX7_listens_70 : decode cX7_listens 70 = .ok (.goto 4, 3) := by decide +kernel
theorem dX7_listens_73 : decode cX7_listens 73 = .ok (.iload_n 1, 1) := by decide +kernel
theorem dX7_listens_74 : decode cX7_listens 74 = .ok (.istore_n 1, 1) := by decide +kernel
theorem dX7_listens_75 : decode cX7_listens 75 = .ok (.iinc 2 1, 3) := by decide +kernel
theorem dX7_listens_78 : decode cX7_listens 78 = .ok (.goto (-74), 3) := by decide +kernel
theorem dX7_listens_81 : decode cX7_listens 81 = .ok (.aload_n 0, 1) := by decide +kernel
theorem dX7_listens_82 : decode cX7_listens 82 = .ok (.iload_n 1, 1) := by decide +kernel
theorem dX7_listens_83 : decode cX7_listens 83 = .ok (.iconst (-1), 1) := by decide +kernel
theorem dX7_listens_84 : decode cX7_listens 84 = .ok (.if_icmp .ne 7, 3) := by decide +kernel
theorem dX7_listens_87 : decode cX7_listens 87 = .ok (.iconst 0, 1) := by decide +kernel
theorem dX7_listens_88 : decode cX7_listens 88 = .ok (.goto 21, 3) := by decide +kernel
theorem dX7_listens_91 : decode cX7_listens 91 = .ok (.iload_n 1, 1) := by decide +kernel
theorem dX7_listens_92 : decode cX7_listens 92 = .ok (.aload_n 0, 1) := by decide +kernel
theorem dX7_listens_93 : decode cX7_listens 93 = .ok (.getfield 66, 3) := by decide +kernel
theorem dX7_listens_96 : decode cX7_listens 96 = .ok (.if_icmp .ne 12, 3) := by decide +kernel
theorem dX7_listens_99 : decode cX7_listens 99 = .ok (.aload_n 0, 1) := by decide +kernel
theorem dX7_listens_100 : decode cX7_listens 100 = .ok (.getfield 113, 3) := by decide +kernel
theorem dX7_listens_103 : decode cX7_listens 103 = .ok (.iconst 1, 1) := by decide +kernel
theorem dX7_listens_104 : decode cX7_listens 104 = .ok (.iadd, 1) := by decide +kernel
theorem dX7_listens_105 : decode cX7_listens 105 = .ok (.goto 4, 3) := by decide +kernel
theorem dX7_listens_108 : decode cX7_listens 108 = .ok (.iconst 1, 1) := by decide +kernel
theorem dX7_listens_109 : decode cX7_listens 109 = .ok (.putfield 113, 3) := by decide +kernel
theorem dX7_listens_112 : decode cX7_listens 112 = .ok (.aload_n 0, 1) := by decide +kernel
theorem dX7_listens_113 : decode cX7_listens 113 = .ok (.iload_n 1, 1) := by decide +kernel
theorem dX7_listens_114 : decode cX7_listens 114 = .ok (.putfield 66, 3) := by decide +kernel
theorem dX7_listens_117 : decode cX7_listens 117 = .ok (.iload_n 1, 1) := by decide +kernel
theorem dX7_listens_118 : decode cX7_listens 118 = .ok (.iconst (-1), 1) := by decide +kernel
theorem dX7_listens_119 : decode cX7_listens 119 = .ok (.if_icmp .eq 70, 3) := by decide +kernel
theorem dX7_listens_122 : decode cX7_listens 122 = .ok (.aload_n 0, 1) := by decide +kernel
theorem dX7_listens_123 : decode cX7_listens 123 = .ok (.getfield 113, 3) := by decide +kernel
theorem dX7_listens_126 : decode cX7_listens 126 = .ok (.aload_n 0, 1) := by decide +kernel
theorem dX7_listens_127 : decode cX7_listens 127 = .ok (.getfield 7, 3) := by decide +kernel
theorem dX7_listens_130 : decode cX7_listens 130 = .ok (.if_icmp .lt 59, 3) := by decide +kernel
theorem dX7_listens_133 : decode cX7_listens 133 = .ok (.aload_n 0, 1) := by decide +kernel
theorem dX7_listens_134 : decode cX7_listens 134 = .ok (.iload_n 1, 1) := by decide +kernel
theorem dX7_listens_135 : decode cX7_listens 135 = .ok (.putfield 60, 3) := by decide +kernel
theorem dX7_listens_138 : decode cX7_listens 138 = .ok (.aload_n 0, 1) := by decide +kernel
theorem dX7_listens_139 : decode cX7_listens 139 = .ok (.iload_n 1, 1) := by decide +kernel
theorem dX7_listens_140 : decode cX7_listens 140 = .ok (.invokevirtual 106, 3) := by decide +kernel
theorem dX7_listens_143 : decode cX7_listens 143 = .ok (.aload_n 0, 1) := by decide +kernel
theorem dX7_listens_144 : decode cX7_listens 144 = .ok (.getfield 89, 3) := by decide +kernel
theorem dX7_listens_147 : decode cX7_listens 147 = .ok (.istore_n 2, 1) := by decide +kernel
theorem dX7_listens_148 : decode cX7_listens 148 = .ok (.iload_n 2, 1) := by decide +kernel
theorem dX7_listens_149 : decode cX7_listens 149 = .ok (.ifCond .le 23, 3) := by decide +kernel
theorem dX7_listens_152 : decode cX7_listens 152 = .ok (.aload_n 0, 1) := by decide +kernel
theorem dX7_listens_153 : decode cX7_listens 153 = .ok (.getfield 63, 3) := by decide +kernel
theorem dX7_listens_156 : decode cX7_listens 156 = .ok (.iload_n 2, 1) := by decide +kernel
theorem dX7_listens_157 : decode cX7_listens 157 = .ok (.aload_n 0, 1) := by decide +kernel
theorem dX7_listens_158 : decode cX7_listens 158 = .ok (.getfield 63, 3) := by decide +kernel
theorem dX7_listens_161 : decode cX7_listens 161 = .ok (.iload_n 2, 1) := by decide +kernel
theorem dX7_listens_162 : decode cX7_listens 162 = .ok (.iconst 1, 1) := by decide +kernel
theorem dX7_listens_163 : decode cX7_listens 163 = .ok (.isub, 1) := by decide +kernel
theorem dX7_listens_164 : decode cX7_listens 164 = .ok (.iaload, 1) := by decide +kernel
theorem dX7_listens_165 : decode cX7_listens 165 = .ok (.iastore, 1) := by decide +kernel
theorem dX7_listens_166 : decode cX7_listens 166 = .ok (.iinc 2 (-1), 3) := by decide +kernel
theorem dX7_listens_169 : decode cX7_listens 169 = .ok (.goto (-21), 3) := by decide +kernel
theorem dX7_listens_172 : decode cX7_listens 172 = .ok (.aload_n 0, 1) := by decide +kernel
theorem dX7_listens_173 : decode cX7_listens 173 = .ok (.getfield 63, 3) := by decide +kernel
theorem dX7_listens_176 : decode cX7_listens 176 = .ok (.iconst 0, 1) := by decide +kernel
theorem dX7_listens_177 : decode cX7_listens 177 = .ok (.iload_n 1, 1) := by decide +kernel
theorem dX7_listens_178 : decode cX7_listens 178 = .ok (.iastore, 1) := by decide +kernel
theorem dX7_listens_179 : decode cX7_listens 179 = .ok (.aload_n 0, 1) := by decide +kernel
theorem dX7_listens_180 : decode cX7_listens 180 = .ok (.dup, 1) := by decide +kernel
theorem dX7_listens_181 : decode cX7_listens 181 = .ok (.getfield 89, 3) := by decide +kernel
theorem dX7_listens_184 : decode cX7_listens 184 = .ok (.iconst 1, 1) := by decide +kernel
theorem dX7_listens_185 : decode cX7_listens 185 = .ok (.iadd, 1) := by decide +kernel
theorem dX7_listens_186 : decode cX7_listens 186 = .ok (.putfield 89, 3) := by decide +kernel
theorem dX7_listens_189 : decode cX7_listens 189 = .ok (.return_, 1) := by decide +kernel
set_option maxRecDepth 20000 in
theorem ggX7_lowers_X7_aims : GoodIn wsX7_lowers wsX7_aims := goodIn_r _ [9, 10, 3, 11, 12, 13, 14, 15, 16, 17, 8, 18, 19, 20, 21, 22, 23, 24, 25, 26, 27, 28, 1, 29, 30, 31, 32, 33, 34, 35, 36, 37, 38, 39, 40, 41, 42, 43, 44, 45, 46, 47, 48, 49, 50, 51, 52, 53, 54, 55, 56] (by decide +kernel) (by decide +kernel)
set_option maxRecDepth 20000 in
theorem gX7_lowers_X7_aims : GoodIn wsX7_lowers (wsV RX7 116 RX7 yX7_aims wsX7_aims) := goodIn_app (goodIn_of _ (by decide +kernel)) ggX7_lowers_X7_aims
theorem dX7_lowers_0 : decode cX7_lowers 0 = .ok (.iconst 0, 1) := by decide +kernel
theorem dX7_lowers_1 : decode cX7_lowers 1 = .ok (.istore_n 1, 1) := by decide +kernel
theorem dX7_lowers_2 : decode cX7_lowers 2 = .ok (.iload_n 1, 1) := by decide +kernel
theorem dX7_lowers_3 : decode cX7_lowers 3 = .ok (.bipush 6, 2) := by decide +kernel
theorem dX7_lowers_5 : decode cX7_lowers 5 = .ok (.if_icmp .ge 115, 3) := by decide +kernel
theorem dX7_lowers_8 : decode cX7_lowers 8 = .ok (.aload_n 0, 1) := by decide +kernel
theorem dX7_lowers_9 : decode cX7_lowers 9 = .ok (.getfield 16, 3) := by decide +kernel
theorem dX7_lowers_12 : decode cX7_lowers 12 = .ok (.iload_n 1, 1) := by decide +kernel
theorem dX7_lowers_13 : decode cX7_lowers 13 = .ok (.baload, 1) := by decide +kernel
theorem dX7_lowers_14 : decode cX7_lowers 14 = .ok (.ifCond .eq 100, 3) := by decide +kernel
theorem dX7_lowers_17 : decode cX7_lowers 17 = .ok (.aload_n 0, 1) := by decide +kernel
theorem dX7_lowers_18 : decode cX7_lowers 18 = .ok (.iload_n 1, 1) := by decide +kernel
theorem dX7_lowers_19 : decode cX7_lowers 19 = .ok (.invokevirtual 116, 3) := by decide +kernel
theorem dX7_lowers_22 : decode cX7_lowers 22 = .ok (.iconst 0, 1) := by decide +kernel
theorem dX7_lowers_23 : decode cX7_lowers 23 = .ok (.istore_n 2, 1) := by decide +kernel
theorem dX7_lowers_24 : decode cX7_lowers 24 = .ok (.iload_n 2, 1) := by decide +kernel
theorem dX7_lowers_25 : decode cX7_lowers 25 = .ok (.bipush 6, 2) := by decide +kernel
theorem dX7_lowers_27 : decode cX7_lowers 27 = .ok (.if_icmp .ge 87, 3) := by decide +kernel
theorem dX7_lowers_30 : decode cX7_lowers 30 = .ok (.bipush 6, 2) := by decide +kernel
theorem dX7_lowers_32 : decode cX7_lowers 32 = .ok (.iload_n 1, 1) := by decide +kernel
theorem dX7_lowers_33 : decode cX7_lowers 33 = .ok (.imul, 1) := by decide +kernel
theorem dX7_lowers_34 : decode cX7_lowers 34 = .ok (.iload_n 2, 1) := by decide +kernel
theorem dX7_lowers_35 : decode cX7_lowers 35 = .ok (.iadd, 1) := by decide +kernel
theorem dX7_lowers_36 : decode cX7_lowers 36 = .ok (.istore_n 3, 1) := by decide +kernel
theorem dX7_lowers_37 : decode cX7_lowers 37 = .ok (.aload_n 0, 1) := by decide +kernel
theorem dX7_lowers_38 : decode cX7_lowers 38 = .ok (.getfield 57, 3) := by decide +kernel
theorem dX7_lowers_41 : decode cX7_lowers 41 = .ok (.iload_n 3, 1) := by decide +kernel
theorem dX7_lowers_42 : decode cX7_lowers 42 = .ok (.aload_n 0, 1) := by decide +kernel
theorem dX7_lowers_43 : decode cX7_lowers 43 = .ok (.getfield 57, 3) := by decide +kernel
theorem dX7_lowers_46 : decode cX7_lowers 46 = .ok (.iload_n 3, 1) := by decide +kernel
theorem dX7_lowers_47 : decode cX7_lowers 47 = .ok (.iaload, 1) := by decide +kernel
theorem dX7_lowers_48 : decode cX7_lowers 48 = .ok (.aload_n 0, 1) := by decide +kernel
theorem dX7_lowers_49 : decode cX7_lowers 49 = .ok (.getfield 72, 3) := by decide +kernel
theorem dX7_lowers_52 : decode cX7_lowers 52 = .ok (.iload_n 2, 1) := by decide +kernel
theorem dX7_lowers_53 : decode cX7_lowers 53 = .ok (.iaload, 1) := by decide +kernel
theorem dX7_lowers_54 : decode cX7_lowers 54 = .ok (.if_icmp .le 12, 3) := by decide +kernel
theorem dX7_lowers_57 : decode cX7_lowers 57 = .ok (.aload_n 0, 1) := by decide +kernel
theorem dX7_lowers_58 : decode cX7_lowers 58 = .ok (.getfield 72, 3) := by decide +kernel
theorem dX7_lowers_61 : decode cX7_lowers 61 = .ok (.iload_n 2, 1) := by decide +kernel
theorem dX7_lowers_62 : decode cX7_lowers 62 = .ok (.iaload, 1) := by decide +kernel
theorem dX7_lowers_63 : decode cX7_lowers 63 = .ok (.goto 9, 3) := by decide +kernel
theorem dX7_lowers_66 : decode cX7_lowers 66 = .ok (.aload_n 0, 1) := by decide +kernel
theorem dX7_lowers_67 : decode cX7_lowers 67 = .ok (.getfield 57, 3) := by decide +kernel
theorem dX7_lowers_70 : decode cX7_lowers 70 = .ok (.iload_n 3, 1) := by decide +kernel
theorem dX7_lowers_71 : decode cX7_lowers 71 = .ok (.iaload, 1) := by decide +kernel
theorem dX7_lowers_72 : decode cX7_lowers 72 = .ok (.iastore, 1) := by decide +kernel
theorem dX7_lowers_73 : decode cX7_lowers 73 = .ok (.aload_n 0, 1) := by decide +kernel
theorem dX7_lowers_74 : decode cX7_lowers 74 = .ok (.getfield 54, 3) := by decide +kernel
theorem dX7_lowers_77 : decode cX7_lowers 77 = .ok (.iload_n 2, 1) := by decide +kernel
theorem dX7_lowers_78 : decode cX7_lowers 78 = .ok (.aload_n 0, 1) := by decide +kernel
theorem dX7_lowers_79 : decode cX7_lowers 79 = .ok (.getfield 54, 3) := by decide +kernel
theorem dX7_lowers_82 : decode cX7_lowers 82 = .ok (.iload_n 2, 1) := by decide +kernel
theorem dX7_lowers_83 : decode cX7_lowers 83 = .ok (.baload, 1) := by decide +kernel
theorem dX7_lowers_84 : decode cX7_lowers 84 = .ok (.ifCond .ne 18, 3) := by decide +kernel
theorem dX7_lowers_87 : decode cX7_lowers 87 = .ok (.aload_n 0, 1) := by decide +kernel
theorem dX7_lowers_88 : decode cX7_lowers 88 = .ok (.getfield 72, 3) := by decide +kernel
theorem dX7_lowers_91 : decode cX7_lowers 91 = .ok (.iload_n 2, 1) := by decide +kernel
theorem dX7_lowers_92 : decode cX7_lowers 92 = .ok (.iaload, 1) := by decide +kernel
theorem dX7_lowers_93 : decode cX7_lowers 93 = .ok (.aload_n 0, 1) := by decide +kernel
theorem dX7_lowers_94 : decode cX7_lowers 94 = .ok (.getfield 57, 3) := by decide +kernel
theorem dX7_lowers_97 : decode cX7_lowers 97 = .ok (.iload_n 3, 1) := by decide +kernel
theorem dX7_lowers_98 : decode cX7_lowers 98 = .ok (.iaload, 1) := by decide +kernel
theorem dX7_lowers_99 : decode cX7_lowers 99 = .ok (.if_icmp .le 7, 3) := by decide +kernel
theorem dX7_lowers_102 : decode cX7_lowers 102 = .ok (.iconst 1, 1) := by decide +kernel
theorem dX7_lowers_103 : decode cX7_lowers 103 = .ok (.goto 4, 3) := by decide +kernel
theorem dX7_lowers_106 : decode cX7_lowers 106 = .ok (.iconst 0, 1) := by decide +kernel
theorem dX7_lowers_107 : decode cX7_lowers 107 = .ok (.bastore, 1) := by decide +kernel
theorem dX7_lowers_108 : decode cX7_lowers 108 = .ok (.iinc 2 1, 3) := by decide +kernel
theorem dX7_lowers_111 : decode cX7_lowers 111 = .ok (.goto (-87), 3) := by decide +kernel
theorem dX7_lowers_114 : decode cX7_lowers 114 = .ok (.iinc 1 1, 3) := by decide +kernel
theorem dX7_lowers_117 : decode cX7_lowers 117 = .ok (.goto (-115), 3) := by decide +kernel
theorem dX7_lowers_120 : decode cX7_lowers 120 = .ok (.return_, 1) := by decide +kernel
set_option maxRecDepth 20000 in
theorem ggX7_lifts_X7_aims : GoodIn wsX7_lifts wsX7_aims := goodIn_r _ [8, 9, 3, 10, 11, 12, 13, 14, 15, 16, 7, 17, 18, 19, 20, 21, 22, 23, 24, 25, 26, 27, 1, 28, 29, 30, 31, 32, 33, 34, 35, 36, 37, 38, 39, 40, 41, 42, 43, 44, 45, 46, 47, 48, 49, 50, 51, 52, 53, 54, 55] (by decide +kernel) (by decide +kernel)
set_option maxRecDepth 20000 in
theorem gX7_lifts_X7_aims : GoodIn wsX7_lifts (wsV RX7 116 RX7 yX7_aims wsX7_aims) := goodIn_app (goodIn_of _ (by decide +kernel)) ggX7_lifts_X7_aims
theorem dX7_lifts_0 : decode cX7_lifts 0 = .ok (.iconst 0, 1) := by decide +kernel
theorem dX7_lifts_1 : decode cX7_lifts 1 = .ok (.istore_n 2, 1) := by decide +kernel
theorem dX7_lifts_2 : decode cX7_lifts 2 = .ok (.iload_n 2, 1) := by decide +kernel
theorem dX7_lifts_3 : decode cX7_lifts 3 = .ok (.bipush 6, 2) := by decide +kernel
theorem dX7_lifts_5 : decode cX7_lifts 5 = .ok (.if_icmp .ge 45, 3) := by decide +kernel
theorem dX7_lifts_8 : decode cX7_lifts 8 = .ok (.aload_n 0, 1) := by decide +kernel
theorem dX7_lifts_9 : decode cX7_lifts 9 = .ok (.getfield 16, 3) := by decide +kernel
theorem dX7_lifts_12 : decode cX7_lifts 12 = .ok (.iload_n 2, 1) := by decide +kernel
theorem dX7_lifts_13 : decode cX7_lifts 13 = .ok (.baload, 1) := by decide +kernel
theorem dX7_lifts_14 : decode cX7_lifts 14 = .ok (.ifCond .eq 30, 3) := by decide +kernel
theorem dX7_lifts_17 : decode cX7_lifts 17 = .ok (.iload_n 2, 1) := by decide +kernel
theorem dX7_lifts_18 : decode cX7_lifts 18 = .ok (.iload_n 1, 1) := by decide +kernel
theorem dX7_lifts_19 : decode cX7_lifts 19 = .ok (.if_icmp .eq 25, 3) := by decide +kernel
theorem dX7_lifts_22 : decode cX7_lifts 22 = .ok (.aload_n 0, 1) := by decide +kernel
theorem dX7_lifts_23 : decode cX7_lifts 23 = .ok (.iload_n 2, 1) := by decide +kernel
theorem dX7_lifts_24 : decode cX7_lifts 24 = .ok (.invokevirtual 116, 3) := by decide +kernel
theorem dX7_lifts_27 : decode cX7_lifts 27 = .ok (.aload_n 0, 1) := by decide +kernel
theorem dX7_lifts_28 : decode cX7_lifts 28 = .ok (.getfield 57, 3) := by decide +kernel
theorem dX7_lifts_31 : decode cX7_lifts 31 = .ok (.bipush 6, 2) := by decide +kernel
theorem dX7_lifts_33 : decode cX7_lifts 33 = .ok (.iload_n 2, 1) := by decide +kernel
theorem dX7_lifts_34 : decode cX7_lifts 34 = .ok (.imul, 1) := by decide +kernel
theorem dX7_lifts_35 : decode cX7_lifts 35 = .ok (.iload_n 1, 1) := by decide +kernel
theorem dX7_lifts_36 : decode cX7_lifts 36 = .ok (.iadd, 1) := by decide +kernel
theorem dX7_lifts_37 : decode cX7_lifts 37 = .ok (.aload_n 0, 1) := by decide +kernel
theorem dX7_lifts_38 : decode cX7_lifts 38 = .ok (.getfield 72, 3) := by decide +kernel
theorem dX7_lifts_41 : decode cX7_lifts 41 = .ok (.iload_n 1, 1) := by decide +kernel
theorem dX7_lifts_42 : decode cX7_lifts 42 = .ok (.iaload, 1) := by decide +kernel
theorem dX7_lifts_43 : decode cX7_lifts 43 = .ok (.iastore, 1) := by decide +kernel
theorem dX7_lifts_44 : decode cX7_lifts 44 = .ok (.iinc 2 1, 3) := by decide +kernel
theorem dX7_lifts_47 : decode cX7_lifts 47 = .ok (.goto (-45), 3) := by decide +kernel
theorem dX7_lifts_50 : decode cX7_lifts 50 = .ok (.return_, 1) := by decide +kernel
set_option maxRecDepth 20000 in
theorem ggX7_second_X7_listens : GoodIn wsX7_second wsX7_listens := goodIn_r _ [11, 12, 13, 14, 15, 16, 17, 18, 19, 20, 21, 22, 23, 10, 24, 56, 57, 58, 59, 60, 61, 62, 63, 64, 65, 66, 67, 68, 69, 70, 71, 72, 73, 74, 75, 76, 77, 78, 79, 80, 81, 82] (by decide +kernel) (by decide +kernel)
set_option maxRecDepth 20000 in
theorem gX7_second_X7_listens : GoodIn wsX7_second (wsV RX7 122 RX7 yX7_listens wsX7_listens) := goodIn_app (goodIn_of _ (by decide +kernel)) ggX7_second_X7_listens
set_option maxRecDepth 20000 in
theorem ggX7_second_X7_lowers : GoodIn wsX7_second wsX7_lowers := goodIn_r _ [28, 12, 29, 30, 3, 31, 32, 33, 10, 34, 35, 36, 37, 38, 39, 40, 41, 42, 43, 44, 19, 20, 45, 2, 46, 47, 48, 49, 50, 51, 56, 57, 58, 59, 60, 61, 62, 63, 64, 65, 66, 67, 68, 69, 70, 71, 72, 73, 74, 75, 76, 77, 78, 79, 80, 81, 82] (by decide +kernel) (by decide +kernel)
set_option maxRecDepth 20000 in
theorem gX7_second_X7_lowers : GoodIn wsX7_second (wsV RX7 125 RX7 yX7_lowers wsX7_lowers) := goodIn_app (goodIn_of _ (by decide +kernel)) ggX7_second_X7_lowers
set_option maxRecDepth 20000 in
theorem ggX7_second_X7_lifts : GoodIn wsX7_second wsX7_lifts := goodIn_r _ [55, 12, 29, 30, 31, 32, 33, 10, 34, 35, 36, 37, 38, 39, 40, 41, 42, 43, 44, 19, 20, 45, 2, 46, 47, 48, 49, 50, 51, 56, 57, 58, 59, 60, 61, 62, 63, 64, 65, 66, 67, 68, 69, 70, 71, 72, 73, 74, 75, 76, 77, 78, 79, 80, 81, 82] (by decide +kernel) (by decide +kernel)
set_option maxRecDepth 20000 in
theorem gX7_second_X7_lifts : GoodIn wsX7_second (wsV RX7 128 RX7 yX7_lifts wsX7_lifts) := goodIn_app (goodIn_of _ (by decide +kernel)) ggX7_second_X7_lifts
theorem dX7_second_0 : decode cX7_second 0 = .ok (.iconst 0, 1) := by decide +kernel
theorem dX7_second_1 : decode cX7_second 1 = .ok (.istore_n 1, 1) := by decide +kernel
theorem dX7_second_2 : decode cX7_second 2 = .ok (.aload_n 0, 1) := by decide +kernel
theorem dX7_second_3 : decode cX7_second 3 = .ok (.dup, 1) := by decide +kernel
theorem dX7_second_4 : decode cX7_second 4 = .ok (.getfield 119, 3) := by decide +kernel
theorem dX7_second_7 : decode cX7_second 7 = .ok (.iconst 1, 1) := by decide +kernel
theorem dX7_second_8 : decode cX7_second 8 = .ok (.iadd, 1) := by decide +kernel
theorem dX7_second_9 : decode cX7_second 9 = .ok (.putfield 119, 3) := by decide +kernel
theorem dX7_second_12 : decode cX7_second 12 = .ok (.aload_n 0, 1) := by decide +kernel
theorem dX7_second_13 : decode cX7_second 13 = .ok (.invokevirtual 122, 3) := by decide +kernel
theorem dX7_second_16 : decode cX7_second 16 = .ok (.aload_n 0, 1) := by decide +kernel
theorem dX7_second_17 : decode cX7_second 17 = .ok (.invokevirtual 125, 3) := by decide +kernel
theorem dX7_second_20 : decode cX7_second 20 = .ok (.iconst 0, 1) := by decide +kernel
theorem dX7_second_21 : decode cX7_second 21 = .ok (.istore_n 2, 1) := by decide +kernel
theorem dX7_second_22 : decode cX7_second 22 = .ok (.iload_n 2, 1) := by decide +kernel
theorem dX7_second_23 : decode cX7_second 23 = .ok (.bipush 6, 2) := by decide +kernel
theorem dX7_second_25 : decode cX7_second 25 = .ok (.if_icmp .ge 89, 3) := by decide +kernel
theorem dX7_second_28 : decode cX7_second 28 = .ok (.aload_n 0, 1) := by decide +kernel
theorem dX7_second_29 : decode cX7_second 29 = .ok (.getfield 36, 3) := by decide +kernel
theorem dX7_second_32 : decode cX7_second 32 = .ok (.iload_n 2, 1) := by decide +kernel
theorem dX7_second_33 : decode cX7_second 33 = .ok (.baload, 1) := by decide +kernel
theorem dX7_second_34 : decode cX7_second 34 = .ok (.ifCond .eq 74, 3) := by decide +kernel
theorem dX7_second_37 : decode cX7_second 37 = .ok (.aload_n 0, 1) := by decide +kernel
theorem dX7_second_38 : decode cX7_second 38 = .ok (.getfield 54, 3) := by decide +kernel
theorem dX7_second_41 : decode cX7_second 41 = .ok (.iload_n 2, 1) := by decide +kernel
theorem dX7_second_42 : decode cX7_second 42 = .ok (.baload, 1) := by decide +kernel
theorem dX7_second_43 : decode cX7_second 43 = .ok (.ifCond .eq 65, 3) := by decide +kernel
theorem dX7_second_46 : decode cX7_second 46 = .ok (.aload_n 0, 1) := by decide +kernel
theorem dX7_second_47 : decode cX7_second 47 = .ok (.getfield 48, 3) := by decide +kernel
theorem dX7_second_50 : decode cX7_second 50 = .ok (.iload_n 2, 1) := by decide +kernel
theorem dX7_second_51 : decode cX7_second 51 = .ok (.iaload, 1) := by decide +kernel
theorem dX7_second_52 : decode cX7_second 52 = .ok (.ifCond .eq 21, 3) := by decide +kernel
theorem dX7_second_55 : decode cX7_second 55 = .ok (.aload_n 0, 1) := by decide +kernel
theorem dX7_second_56 : decode cX7_second 56 = .ok (.getfield 119, 3) := by decide +kernel
theorem dX7_second_59 : decode cX7_second 59 = .ok (.aload_n 0, 1) := by decide +kernel
theorem dX7_second_60 : decode cX7_second 60 = .ok (.getfield 51, 3) := by decide +kernel
theorem dX7_second_63 : decode cX7_second 63 = .ok (.iload_n 2, 1) := by decide +kernel
theorem dX7_second_64 : decode cX7_second 64 = .ok (.iaload, 1) := by decide +kernel
theorem dX7_second_65 : decode cX7_second 65 = .ok (.isub, 1) := by decide +kernel
theorem dX7_second_66 : decode cX7_second 66 = .ok (.aload_n 0, 1) := by decide +kernel
theorem dX7_second_67 : decode cX7_second 67 = .ok (.getfield 13, 3) := by decide +kernel
theorem dX7_second_70 : decode cX7_second 70 = .ok (.if_icmp .le 38, 3) := by decide +kernel
theorem dX7_second_73 : decode cX7_second 73 = .ok (.aload_n 0, 1) := by decide +kernel
theorem dX7_second_74 : decode cX7_second 74 = .ok (.getfield 48, 3) := by decide +kernel
theorem dX7_second_77 : decode cX7_second 77 = .ok (.iload_n 2, 1) := by decide +kernel
theorem dX7_second_78 : decode cX7_second 78 = .ok (.dup2, 1) := by decide +kernel
theorem dX7_second_79 : decode cX7_second 79 = .ok (.iaload, 1) := by decide +kernel
theorem dX7_second_80 : decode cX7_second 80 = .ok (.iconst 1, 1) := by decide +kernel
theorem dX7_second_81 : decode cX7_second 81 = .ok (.iadd, 1) := by decide +kernel
theorem dX7_second_82 : decode cX7_second 82 = .ok (.iastore, 1) := by decide +kernel
theorem dX7_second_83 : decode cX7_second 83 = .ok (.aload_n 0, 1) := by decide +kernel
theorem dX7_second_84 : decode cX7_second 84 = .ok (.getfield 51, 3) := by decide +kernel
theorem dX7_second_87 : decode cX7_second 87 = .ok (.iload_n 2, 1) := by decide +kernel
theorem dX7_second_88 : decode cX7_second 88 = .ok (.aload_n 0, 1) := by decide +kernel
theorem dX7_second_89 : decode cX7_second 89 = .ok (.getfield 119, 3) := by decide +kernel
theorem dX7_second_92 : decode cX7_second 92 = .ok (.iastore, 1) := by decide +kernel
theorem dX7_second_93 : decode cX7_second 93 = .ok (.aload_n 0, 1) := by decide +kernel
theorem dX7_second_94 : decode cX7_second 94 = .ok (.getfield 54, 3) := by decide +kernel
theorem dX7_second_97 : decode cX7_second 97 = .ok (.iload_n 2, 1) := by decide +kernel
theorem dX7_second_98 : decode cX7_second 98 = .ok (.iconst 0, 1) := by decide +kernel
theorem dX7_second_99 : decode cX7_second 99 = .ok (.bastore, 1) := by decide +kernel
theorem dX7_second_100 : decode cX7_second 100 = .ok (.aload_n 0, 1) := by decide +kernel
theorem dX7_second_101 : decode cX7_second 101 = .ok (.iload_n 2, 1) := by decide +kernel
theorem dX7_second_102 : decode cX7_second 102 = .ok (.invokevirtual 128, 3) := by decide +kernel
theorem dX7_second_105 : decode cX7_second 105 = .ok (.iinc 1 1, 3) := by decide +kernel
theorem dX7_second_108 : decode cX7_second 108 = .ok (.iinc 2 1, 3) := by decide +kernel
theorem dX7_second_111 : decode cX7_second 111 = .ok (.goto (-89), 3) := by decide +kernel
theorem dX7_second_114 : decode cX7_second 114 = .ok (.iload_n 1, 1) := by decide +kernel
theorem dX7_second_115 : decode cX7_second 115 = .ok (.ireturn, 1) := by decide +kernel
set_option maxRecDepth 20000 in
theorem ggX7_pass_X7_in : GoodIn wsX7_pass wsX7_in := goodIn_r _ [5] (by decide +kernel) (by decide +kernel)
set_option maxRecDepth 20000 in
theorem gX7_pass_X7_in : GoodIn wsX7_pass (va_wsS RX7 78 yX7_in wsX7_in) := goodIn_app (goodIn_of _ (by decide +kernel)) ggX7_pass_X7_in
set_option maxRecDepth 20000 in
theorem ggX7_pass_X7_second : GoodIn wsX7_pass wsX7_second := goodIn_r _ [9, 10, 11, 12, 13, 14, 15, 16, 17, 18, 4, 19, 20, 21, 22, 23, 24, 25, 26, 27, 28, 29, 30, 31, 32, 33, 34, 35, 36, 37, 38, 39, 40, 41, 42, 43, 44, 45, 46, 47, 48, 49, 50, 51, 52, 53, 54, 55, 56, 57, 58, 59, 60, 61, 62, 63, 64, 65, 66, 67, 68, 69, 70, 71, 72, 73, 74, 75, 76, 77, 78, 79, 80, 81, 82, 83, 84, 85, 86, 87, 88, 89, 90] (by decide +kernel) (by decide +kernel)
set_option maxRecDepth 20000 in
theorem gX7_pass_X7_second : GoodIn wsX7_pass (wsV RX7 131 RX7 yX7_second wsX7_second) := goodIn_app (goodIn_of _ (by decide +kernel)) ggX7_pass_X7_second
theorem dX7_pass_0 : decode cX7_pass 0 = .ok (.aload_n 0, 1) := by decide +kernel
theorem dX7_pass_1 : decode cX7_pass 1 = .ok (.iload_n 1, 1) := by decide +kernel
theorem dX7_pass_2 : decode cX7_pass 2 = .ok (.iconst 1, 1) := by decide +kernel
theorem dX7_pass_3 : decode cX7_pass 3 = .ok (.bipush 20, 2) := by decide +kernel
theorem dX7_pass_5 : decode cX7_pass 5 = .ok (.invokestatic 78, 3) := by decide +kernel
theorem dX7_pass_8 : decode cX7_pass 8 = .ok (.ifCond .eq 7, 3) := by decide +kernel
theorem dX7_pass_11 : decode cX7_pass 11 = .ok (.iconst 0, 1) := by decide +kernel
theorem dX7_pass_12 : decode cX7_pass 12 = .ok (.goto 4, 3) := by decide +kernel
theorem dX7_pass_15 : decode cX7_pass 15 = .ok (.iconst 1, 1) := by decide +kernel
theorem dX7_pass_16 : decode cX7_pass 16 = .ok (.putfield 75, 3) := by decide +kernel
theorem dX7_pass_19 : decode cX7_pass 19 = .ok (.iconst 0, 1) := by decide +kernel
theorem dX7_pass_20 : decode cX7_pass 20 = .ok (.istore_n 2, 1) := by decide +kernel
theorem dX7_pass_21 : decode cX7_pass 21 = .ok (.iconst 0, 1) := by decide +kernel
theorem dX7_pass_22 : decode cX7_pass 22 = .ok (.istore_n 3, 1) := by decide +kernel
theorem dX7_pass_23 : decode cX7_pass 23 = .ok (.iload_n 3, 1) := by decide +kernel
theorem dX7_pass_24 : decode cX7_pass 24 = .ok (.iload_n 1, 1) := by decide +kernel
theorem dX7_pass_25 : decode cX7_pass 25 = .ok (.if_icmp .ge 23, 3) := by decide +kernel
theorem dX7_pass_28 : decode cX7_pass 28 = .ok (.aload_n 0, 1) := by decide +kernel
theorem dX7_pass_29 : decode cX7_pass 29 = .ok (.getfield 75, 3) := by decide +kernel
theorem dX7_pass_32 : decode cX7_pass 32 = .ok (.ifCond .ne 16, 3) := by decide +kernel
theorem dX7_pass_35 : decode cX7_pass 35 = .ok (.iload_n 2, 1) := by decide +kernel
theorem dX7_pass_36 : decode cX7_pass 36 = .ok (.aload_n 0, 1) := by decide +kernel
theorem dX7_pass_37 : decode cX7_pass 37 = .ok (.invokevirtual 131, 3) := by decide +kernel
theorem dX7_pass_40 : decode cX7_pass 40 = .ok (.iadd, 1) := by decide +kernel
theorem dX7_pass_41 : decode cX7_pass 41 = .ok (.istore_n 2, 1) := by decide +kernel
theorem dX7_pass_42 : decode cX7_pass 42 = .ok (.iinc 3 1, 3) := by decide +kernel
theorem dX7_pass_45 : decode cX7_pass 45 = .ok (.goto (-22), 3) := by decide +kernel
theorem dX7_pass_48 : decode cX7_pass 48 = .ok (.iload_n 2, 1) := by decide +kernel
theorem dX7_pass_49 : decode cX7_pass 49 = .ok (.ireturn, 1) := by decide +kernel
theorem dX7_now_0 : decode cX7_now 0 = .ok (.aload_n 0, 1) := by decide +kernel
theorem dX7_now_1 : decode cX7_now 1 = .ok (.iconst 0, 1) := by decide +kernel
theorem dX7_now_2 : decode cX7_now 2 = .ok (.putfield 75, 3) := by decide +kernel
theorem dX7_now_5 : decode cX7_now 5 = .ok (.aload_n 0, 1) := by decide +kernel
theorem dX7_now_6 : decode cX7_now 6 = .ok (.getfield 119, 3) := by decide +kernel
theorem dX7_now_9 : decode cX7_now 9 = .ok (.ireturn, 1) := by decide +kernel
theorem dX7_speaker_0 : decode cX7_speaker 0 = .ok (.aload_n 0, 1) := by decide +kernel
theorem dX7_speaker_1 : decode cX7_speaker 1 = .ok (.iconst 0, 1) := by decide +kernel
theorem dX7_speaker_2 : decode cX7_speaker 2 = .ok (.putfield 75, 3) := by decide +kernel
theorem dX7_speaker_5 : decode cX7_speaker 5 = .ok (.aload_n 0, 1) := by decide +kernel
theorem dX7_speaker_6 : decode cX7_speaker 6 = .ok (.getfield 60, 3) := by decide +kernel
theorem dX7_speaker_9 : decode cX7_speaker 9 = .ok (.ireturn, 1) := by decide +kernel
set_option maxRecDepth 20000 in
theorem ggX7_seen_X7_isPerson : GoodIn wsX7_seen wsX7_isPerson := goodIn_r _ [7, 8, 9, 10, 6, 11, 28, 29, 30, 31, 32, 33, 34, 35, 36, 37, 38, 39, 40, 41, 42, 43, 44, 45, 46, 47, 48, 49, 50, 51, 52, 53, 54] (by decide +kernel) (by decide +kernel)
set_option maxRecDepth 20000 in
theorem gX7_seen_X7_isPerson : GoodIn wsX7_seen (wsV RX7 102 RX7 yX7_isPerson wsX7_isPerson) := goodIn_app (goodIn_of _ (by decide +kernel)) ggX7_seen_X7_isPerson
set_option maxRecDepth 20000 in
theorem ggX7_seen_X7_looks : GoodIn wsX7_seen wsX7_looks := goodIn_r _ [15, 2, 16, 17, 18, 19, 20, 21, 22, 23, 24, 6, 25, 8, 26, 27, 28, 29, 30, 31, 32, 33, 34, 35, 36, 37, 38, 39, 40, 41, 42, 43, 44, 45, 46, 47, 48, 49, 50, 51, 52, 53, 54] (by decide +kernel) (by decide +kernel)
set_option maxRecDepth 20000 in
theorem gX7_seen_X7_looks : GoodIn wsX7_seen (wsV RX7 95 RX7 yX7_looks wsX7_looks) := goodIn_app (goodIn_of _ (by decide +kernel)) ggX7_seen_X7_looks
theorem dX7_seen_0 : decode cX7_seen 0 = .ok (.aload_n 0, 1) := by decide +kernel
theorem dX7_seen_1 : decode cX7_seen 1 = .ok (.aload_n 0, 1) := by decide +kernel
theorem dX7_seen_2 : decode cX7_seen 2 = .ok (.iload_n 1, 1) := by decide +kernel
theorem dX7_seen_3 : decode cX7_seen 3 = .ok (.invokevirtual 102, 3) := by decide +kernel
theorem dX7_seen_6 : decode cX7_seen 6 = .ok (.ifCond .eq 7, 3) := by decide +kernel
theorem dX7_seen_9 : decode cX7_seen 9 = .ok (.iconst 0, 1) := by decide +kernel
theorem dX7_seen_10 : decode cX7_seen 10 = .ok (.goto 4, 3) := by decide +kernel
theorem dX7_seen_13 : decode cX7_seen 13 = .ok (.iconst 1, 1) := by decide +kernel
theorem dX7_seen_14 : decode cX7_seen 14 = .ok (.putfield 75, 3) := by decide +kernel
theorem dX7_seen_17 : decode cX7_seen 17 = .ok (.aload_n 0, 1) := by decide +kernel
theorem dX7_seen_18 : decode cX7_seen 18 = .ok (.getfield 75, 3) := by decide +kernel
theorem dX7_seen_21 : decode cX7_seen 21 = .ok (.ifCond .le 5, 3) := by decide +kernel
theorem dX7_seen_24 : decode cX7_seen 24 = .ok (.iconst 0, 1) := by decide +kernel
theorem dX7_seen_25 : decode cX7_seen 25 = .ok (.ireturn, 1) := by decide +kernel
theorem dX7_seen_26 : decode cX7_seen 26 = .ok (.aload_n 0, 1) := by decide +kernel
theorem dX7_seen_27 : decode cX7_seen 27 = .ok (.iload_n 1, 1) := by decide +kernel
theorem dX7_seen_28 : decode cX7_seen 28 = .ok (.invokevirtual 95, 3) := by decide +kernel
theorem dX7_seen_31 : decode cX7_seen 31 = .ok (.aload_n 0, 1) := by decide +kernel
theorem dX7_seen_32 : decode cX7_seen 32 = .ok (.getfield 82, 3) := by decide +kernel
theorem dX7_seen_35 : decode cX7_seen 35 = .ok (.ireturn, 1) := by decide +kernel
set_option maxRecDepth 20000 in
theorem ggX7_seenAt_X7_isPerson : GoodIn wsX7_seenAt wsX7_isPerson := goodIn_r _ [8, 9, 10, 11, 7, 12, 32, 33, 34, 35, 36, 37, 38, 39, 40, 41, 42, 43, 44, 45, 46, 47, 48, 49, 50, 51, 52, 53, 54, 55, 56, 57, 58] (by decide +kernel) (by decide +kernel)
set_option maxRecDepth 20000 in
theorem gX7_seenAt_X7_isPerson : GoodIn wsX7_seenAt (wsV RX7 102 RX7 yX7_isPerson wsX7_isPerson) := goodIn_app (goodIn_of _ (by decide +kernel)) ggX7_seenAt_X7_isPerson
set_option maxRecDepth 20000 in
theorem ggX7_seenAt_X7_looks : GoodIn wsX7_seenAt wsX7_looks := goodIn_r _ [16, 2, 17, 18, 19, 20, 21, 22, 23, 24, 25, 7, 26, 9, 27, 3, 32, 33, 34, 35, 36, 37, 38, 39, 40, 41, 42, 43, 44, 45, 46, 47, 48, 49, 50, 51, 52, 53, 54, 55, 56, 57, 58] (by decide +kernel) (by decide +kernel)
set_option maxRecDepth 20000 in
theorem gX7_seenAt_X7_looks : GoodIn wsX7_seenAt (wsV RX7 95 RX7 yX7_looks wsX7_looks) := goodIn_app (goodIn_of _ (by decide +kernel)) ggX7_seenAt_X7_looks
set_option maxRecDepth 20000 in
theorem ggX7_seenAt_X7_in : GoodIn wsX7_seenAt wsX7_in := goodIn_r _ [12] (by decide +kernel) (by decide +kernel)
set_option maxRecDepth 20000 in
theorem gX7_seenAt_X7_in : GoodIn wsX7_seenAt (va_wsS RX7 78 yX7_in wsX7_in) := goodIn_app (goodIn_of _ (by decide +kernel)) ggX7_seenAt_X7_in
set_option maxRecDepth 20000 in
theorem ggX7_seenAt_X7_fails : GoodIn wsX7_seenAt wsX7_fails := goodIn_r _ [31, 1, 32, 33, 34, 35, 36, 37, 38, 39, 40, 41, 42, 43, 44, 45, 46, 47, 48, 49, 50, 51, 52, 53, 54, 55, 56, 57, 58] (by decide +kernel) (by decide +kernel)
set_option maxRecDepth 20000 in
theorem gX7_seenAt_X7_fails : GoodIn wsX7_seenAt (wsV RX7 135 RX7 yX7_fails wsX7_fails) := goodIn_app (goodIn_of _ (by decide +kernel)) ggX7_seenAt_X7_fails
theorem dX7_seenAt_0 : decode cX7_seenAt 0 = .ok (.aload_n 0, 1) := by decide +kernel
theorem dX7_seenAt_1 : decode cX7_seenAt 1 = .ok (.aload_n 0, 1) := by decide +kernel
theorem dX7_seenAt_2 : decode cX7_seenAt 2 = .ok (.iload_n 1, 1) := by decide +kernel
theorem dX7_seenAt_3 : decode cX7_seenAt 3 = .ok (.invokevirtual 102, 3) := by decide +kernel
theorem dX7_seenAt_6 : decode cX7_seenAt 6 = .ok (.ifCond .eq 7, 3) := by decide +kernel
theorem dX7_seenAt_9 : decode cX7_seenAt 9 = .ok (.iconst 0, 1) := by decide +kernel
theorem dX7_seenAt_10 : decode cX7_seenAt 10 = .ok (.goto 4, 3) := by decide +kernel
theorem dX7_seenAt_13 : decode cX7_seenAt 13 = .ok (.iconst 1, 1) := by decide +kernel
theorem dX7_seenAt_14 : decode cX7_seenAt 14 = .ok (.putfield 75, 3) := by decide +kernel
theorem dX7_seenAt_17 : decode cX7_seenAt 17 = .ok (.aload_n 0, 1) := by decide +kernel
theorem dX7_seenAt_18 : decode cX7_seenAt 18 = .ok (.getfield 75, 3) := by decide +kernel
theorem dX7_seenAt_21 : decode cX7_seenAt 21 = .ok (.ifCond .le 5, 3) := by decide +kernel
theorem dX7_seenAt_24 : decode cX7_seenAt 24 = .ok (.iconst 0, 1) := by decide +kernel
theorem dX7_seenAt_25 : decode cX7_seenAt 25 = .ok (.ireturn, 1) := by decide +kernel
theorem dX7_seenAt_26 : decode cX7_seenAt 26 = .ok (.aload_n 0, 1) := by decide +kernel
theorem dX7_seenAt_27 : decode cX7_seenAt 27 = .ok (.iload_n 1, 1) := by decide +kernel
theorem dX7_seenAt_28 : decode cX7_seenAt 28 = .ok (.invokevirtual 95, 3) := by decide +kernel
theorem dX7_seenAt_31 : decode cX7_seenAt 31 = .ok (.iload_n 2, 1) := by decide +kernel
theorem dX7_seenAt_32 : decode cX7_seenAt 32 = .ok (.iconst 0, 1) := by decide +kernel
theorem dX7_seenAt_33 : decode cX7_seenAt 33 = .ok (.aload_n 0, 1) := by decide +kernel
theorem dX7_seenAt_34 : decode cX7_seenAt 34 = .ok (.getfield 82, 3) := by decide +kernel
theorem dX7_seenAt_37 : decode cX7_seenAt 37 = .ok (.iconst 1, 1) := by decide +kernel
theorem dX7_seenAt_38 : decode cX7_seenAt 38 = .ok (.isub, 1) := by decide +kernel
theorem dX7_seenAt_39 : decode cX7_seenAt 39 = .ok (.invokestatic 78, 3) := by decide +kernel
theorem dX7_seenAt_42 : decode cX7_seenAt 42 = .ok (.ifCond .eq 12, 3) := by decide +kernel
theorem dX7_seenAt_45 : decode cX7_seenAt 45 = .ok (.aload_n 0, 1) := by decide +kernel
theorem dX7_seenAt_46 : decode cX7_seenAt 46 = .ok (.getfield 69, 3) := by decide +kernel
theorem dX7_seenAt_49 : decode cX7_seenAt 49 = .ok (.iload_n 2, 1) := by decide +kernel
theorem dX7_seenAt_50 : decode cX7_seenAt 50 = .ok (.iaload, 1) := by decide +kernel
theorem dX7_seenAt_51 : decode cX7_seenAt 51 = .ok (.goto 8, 3) := by decide +kernel
theorem dX7_seenAt_54 : decode cX7_seenAt 54 = .ok (.aload_n 0, 1) := by decide +kernel
theorem dX7_seenAt_55 : decode cX7_seenAt 55 = .ok (.iconst 2, 1) := by decide +kernel
theorem dX7_seenAt_56 : decode cX7_seenAt 56 = .ok (.invokevirtual 135, 3) := by decide +kernel
theorem dX7_seenAt_59 : decode cX7_seenAt 59 = .ok (.ireturn, 1) := by decide +kernel
set_option maxRecDepth 20000 in
theorem ggX7_aimed_X7_isPerson : GoodIn wsX7_aimed wsX7_isPerson := goodIn_r _ [7, 8, 9, 10, 6, 11, 36, 37, 38, 39, 40, 41, 42, 43, 44, 45, 46, 47, 48, 49, 50, 51, 52, 53, 54, 55, 56, 57, 58, 59, 60, 61, 62] (by decide +kernel) (by decide +kernel)
set_option maxRecDepth 20000 in
theorem gX7_aimed_X7_isPerson : GoodIn wsX7_aimed (wsV RX7 102 RX7 yX7_isPerson wsX7_isPerson) := goodIn_app (goodIn_of _ (by decide +kernel)) ggX7_aimed_X7_isPerson
set_option maxRecDepth 20000 in
theorem ggX7_aimed_X7_aims : GoodIn wsX7_aimed wsX7_aims := goodIn_r _ [15, 16, 2, 17, 18, 19, 20, 21, 22, 23, 6, 24, 25, 26, 27, 28, 29, 30, 31, 32, 33, 34, 8, 35, 36, 37, 38, 39, 40, 41, 42, 43, 44, 45, 46, 47, 48, 49, 50, 51, 52, 53, 54, 55, 56, 57, 58, 59, 60, 61, 62] (by decide +kernel) (by decide +kernel)
set_option maxRecDepth 20000 in
theorem gX7_aimed_X7_aims : GoodIn wsX7_aimed (wsV RX7 116 RX7 yX7_aims wsX7_aims) := goodIn_app (goodIn_of _ (by decide +kernel)) ggX7_aimed_X7_aims
theorem dX7_aimed_0 : decode cX7_aimed 0 = .ok (.aload_n 0, 1) := by decide +kernel
theorem dX7_aimed_1 : decode cX7_aimed 1 = .ok (.aload_n 0, 1) := by decide +kernel
theorem dX7_aimed_2 : decode cX7_aimed 2 = .ok (.iload_n 1, 1) := by decide +kernel
theorem dX7_aimed_3 : decode cX7_aimed 3 = .ok (.invokevirtual 102, 3) := by decide +kernel
theorem dX7_aimed_6 : decode cX7_aimed 6 = .ok (.ifCond .eq 15, 3) := by decide +kernel
theorem dX7_aimed_9 : decode cX7_aimed 9 = .ok (.aload_n 0, 1) := by decide +kernel
theorem dX7_aimed_10 : decode cX7_aimed 10 = .ok (.iload_n 2, 1) := by decide +kernel
theorem dX7_aimed_11 : decode cX7_aimed 11 = .ok (.invokevirtual 102, 3) := by decide +kernel
theorem dX7_aimed_14 : decode cX7_aimed 14 = .ok (.ifCond .eq 7, 3) := by decide +kernel
theorem dX7_aimed_17 : decode cX7_aimed 17 = .ok (.iconst 0, 1) := by decide +kernel
theorem dX7_aimed_18 : decode cX7_aimed 18 = .ok (.goto 4, 3) := by decide +kernel
theorem dX7_aimed_21 : decode cX7_aimed 21 = .ok (.iconst 1, 1) := by decide +kernel
theorem dX7_aimed_22 : decode cX7_aimed 22 = .ok (.putfield 75, 3) := by decide +kernel
theorem dX7_aimed_25 : decode cX7_aimed 25 = .ok (.aload_n 0, 1) := by decide +kernel
theorem dX7_aimed_26 : decode cX7_aimed 26 = .ok (.getfield 75, 3) := by decide +kernel
theorem dX7_aimed_29 : decode cX7_aimed 29 = .ok (.ifCond .le 5, 3) := by decide +kernel
theorem dX7_aimed_32 : decode cX7_aimed 32 = .ok (.iconst 0, 1) := by decide +kernel
theorem dX7_aimed_33 : decode cX7_aimed 33 = .ok (.ireturn, 1) := by decide +kernel
theorem dX7_aimed_34 : decode cX7_aimed 34 = .ok (.aload_n 0, 1) := by decide +kernel
theorem dX7_aimed_35 : decode cX7_aimed 35 = .ok (.iload_n 1, 1) := by decide +kernel
theorem dX7_aimed_36 : decode cX7_aimed 36 = .ok (.invokevirtual 116, 3) := by decide +kernel
theorem dX7_aimed_39 : decode cX7_aimed 39 = .ok (.aload_n 0, 1) := by decide +kernel
theorem dX7_aimed_40 : decode cX7_aimed 40 = .ok (.getfield 72, 3) := by decide +kernel
theorem dX7_aimed_43 : decode cX7_aimed 43 = .ok (.iload_n 2, 1) := by decide +kernel
theorem dX7_aimed_44 : decode cX7_aimed 44 = .ok (.iaload, 1) := by decide +kernel
theorem dX7_aimed_45 : decode cX7_aimed 45 = .ok (.ireturn, 1) := by decide +kernel
set_option maxRecDepth 20000 in
theorem ggX7_target_X7_aimed : GoodIn wsX7_target wsX7_aimed := goodIn_r _ [5, 6, 7, 8, 9, 10, 4, 11, 12, 13, 14, 15, 16, 17, 18, 19, 20, 21, 22, 23, 24, 25, 26, 27, 28, 29, 30, 31, 32, 33, 34, 35, 36, 37, 38, 39, 40, 41, 42, 43, 44, 45, 46, 47, 48, 49, 50, 51, 52, 53, 54, 55, 56, 57, 58, 59, 60, 61, 62, 63, 64, 65, 66] (by decide +kernel) (by decide +kernel)
set_option maxRecDepth 20000 in
theorem gX7_target_X7_aimed : GoodIn wsX7_target (wsV RX7 138 RX7 yX7_aimed wsX7_aimed) := goodIn_app (goodIn_of _ (by decide +kernel)) ggX7_target_X7_aimed
theorem dX7_target_0 : decode cX7_target 0 = .ok (.aload_n 0, 1) := by decide +kernel
theorem dX7_target_1 : decode cX7_target 1 = .ok (.iload_n 1, 1) := by decide +kernel
theorem dX7_target_2 : decode cX7_target 2 = .ok (.iload_n 2, 1) := by decide +kernel
theorem dX7_target_3 : decode cX7_target 3 = .ok (.invokevirtual 138, 3) := by decide +kernel
theorem dX7_target_6 : decode cX7_target 6 = .ok (.ireturn, 1) := by decide +kernel
set_option maxRecDepth 20000 in
theorem ggX7_targetBySteps_X7_aimed : GoodIn wsX7_targetBySteps wsX7_aimed := goodIn_r _ [5, 6, 7, 8, 9, 10, 4, 11, 12, 13, 14, 15, 16, 17, 18, 19, 20, 21, 22, 23, 24, 25, 26, 27, 28, 29, 30, 31, 32, 33, 34, 35, 36, 37, 38, 39, 40, 41, 42, 43, 44, 45, 46, 47, 48, 49, 50, 51, 52, 53, 54, 55, 56, 57, 58, 59, 60, 61, 62, 63, 64, 65, 66] (by decide +kernel) (by decide +kernel)
set_option maxRecDepth 20000 in
theorem gX7_targetBySteps_X7_aimed : GoodIn wsX7_targetBySteps (wsV RX7 138 RX7 yX7_aimed wsX7_aimed) := goodIn_app (goodIn_of _ (by decide +kernel)) ggX7_targetBySteps_X7_aimed
theorem dX7_targetBySteps_0 : decode cX7_targetBySteps 0 = .ok (.aload_n 0, 1) := by decide +kernel
theorem dX7_targetBySteps_1 : decode cX7_targetBySteps 1 = .ok (.iload_n 1, 1) := by decide +kernel
theorem dX7_targetBySteps_2 : decode cX7_targetBySteps 2 = .ok (.iload_n 2, 1) := by decide +kernel
theorem dX7_targetBySteps_3 : decode cX7_targetBySteps 3 = .ok (.invokevirtual 138, 3) := by decide +kernel
theorem dX7_targetBySteps_6 : decode cX7_targetBySteps 6 = .ok (.ireturn, 1) := by decide +kernel
set_option maxRecDepth 20000 in
theorem ggX7_layer_X7_isPerson : GoodIn wsX7_layer wsX7_isPerson := goodIn_r _ [7, 8, 9, 10, 6, 11, 16, 17, 18, 19, 20, 21, 22, 23, 24, 25, 26, 27, 28, 29, 30, 31, 32, 33, 34, 35, 36, 37, 38, 39, 40, 41, 42] (by decide +kernel) (by decide +kernel)
set_option maxRecDepth 20000 in
theorem gX7_layer_X7_isPerson : GoodIn wsX7_layer (wsV RX7 102 RX7 yX7_isPerson wsX7_isPerson) := goodIn_app (goodIn_of _ (by decide +kernel)) ggX7_layer_X7_isPerson
set_option maxRecDepth 20000 in
theorem ggX7_layer_X7_fails : GoodIn wsX7_layer wsX7_fails := goodIn_r _ [15, 1, 16, 17, 18, 19, 20, 21, 22, 23, 24, 25, 26, 27, 28, 29, 30, 31, 32, 33, 34, 35, 36, 37, 38, 39, 40, 41, 42] (by decide +kernel) (by decide +kernel)
set_option maxRecDepth 20000 in
theorem gX7_layer_X7_fails : GoodIn wsX7_layer (wsV RX7 135 RX7 yX7_fails wsX7_fails) := goodIn_app (goodIn_of _ (by decide +kernel)) ggX7_layer_X7_fails
theorem dX7_layer_0 : decode cX7_layer 0 = .ok (.aload_n 0, 1) := by decide +kernel
theorem dX7_layer_1 : decode cX7_layer 1 = .ok (.iconst 0, 1) := by decide +kernel
theorem dX7_layer_2 : decode cX7_layer 2 = .ok (.putfield 75, 3) := by decide +kernel
theorem dX7_layer_5 : decode cX7_layer 5 = .ok (.aload_n 0, 1) := by decide +kernel
theorem dX7_layer_6 : decode cX7_layer 6 = .ok (.iload_n 1, 1) := by decide +kernel
theorem dX7_layer_7 : decode cX7_layer 7 = .ok (.invokevirtual 102, 3) := by decide +kernel
theorem dX7_layer_10 : decode cX7_layer 10 = .ok (.ifCond .eq 25, 3) := by decide +kernel
theorem dX7_layer_13 : decode cX7_layer 13 = .ok (.aload_n 0, 1) := by decide +kernel
theorem dX7_layer_14 : decode cX7_layer 14 = .ok (.iload_n 2, 1) := by decide +kernel
theorem dX7_layer_15 : decode cX7_layer 15 = .ok (.invokevirtual 102, 3) := by decide +kernel
theorem dX7_layer_18 : decode cX7_layer 18 = .ok (.ifCond .eq 17, 3) := by decide +kernel
theorem dX7_layer_21 : decode cX7_layer 21 = .ok (.aload_n 0, 1) := by decide +kernel
theorem dX7_layer_22 : decode cX7_layer 22 = .ok (.getfield 57, 3) := by decide +kernel
theorem dX7_layer_25 : decode cX7_layer 25 = .ok (.bipush 6, 2) := by decide +kernel
theorem dX7_layer_27 : decode cX7_layer 27 = .ok (.iload_n 1, 1) := by decide +kernel
theorem dX7_layer_28 : decode cX7_layer 28 = .ok (.imul, 1) := by decide +kernel
theorem dX7_layer_29 : decode cX7_layer 29 = .ok (.iload_n 2, 1) := by decide +kernel
theorem dX7_layer_30 : decode cX7_layer 30 = .ok (.iadd, 1) := by decide +kernel
theorem dX7_layer_31 : decode cX7_layer 31 = .ok (.iaload, 1) := by decide +kernel
theorem dX7_layer_32 : decode cX7_layer 32 = .ok (.goto 8, 3) := by decide +kernel
theorem dX7_layer_35 : decode cX7_layer 35 = .ok (.aload_n 0, 1) := by decide +kernel
theorem dX7_layer_36 : decode cX7_layer 36 = .ok (.iconst 1, 1) := by decide +kernel
theorem dX7_layer_37 : decode cX7_layer 37 = .ok (.invokevirtual 135, 3) := by decide +kernel
theorem dX7_layer_40 : decode cX7_layer 40 = .ok (.ireturn, 1) := by decide +kernel
set_option maxRecDepth 20000 in
theorem ggX7_sent_X7_isPerson : GoodIn wsX7_sent wsX7_isPerson := goodIn_r _ [9, 10, 11, 12, 8, 13, 14, 15, 16, 17, 18, 19, 20, 21, 22, 23, 24, 25, 26, 27, 28, 29, 30, 31, 32, 33, 34, 35, 36, 37, 38, 39, 40] (by decide +kernel) (by decide +kernel)
set_option maxRecDepth 20000 in
theorem gX7_sent_X7_isPerson : GoodIn wsX7_sent (wsV RX7 102 RX7 yX7_isPerson wsX7_isPerson) := goodIn_app (goodIn_of _ (by decide +kernel)) ggX7_sent_X7_isPerson
theorem dX7_sent_0 : decode cX7_sent 0 = .ok (.aload_n 0, 1) := by decide +kernel
theorem dX7_sent_1 : decode cX7_sent 1 = .ok (.aload_n 0, 1) := by decide +kernel
theorem dX7_sent_2 : decode cX7_sent 2 = .ok (.iload_n 1, 1) := by decide +kernel
theorem dX7_sent_3 : decode cX7_sent 3 = .ok (.invokevirtual 102, 3) := by decide +kernel
theorem dX7_sent_6 : decode cX7_sent 6 = .ok (.ifCond .eq 7, 3) := by decide +kernel
theorem dX7_sent_9 : decode cX7_sent 9 = .ok (.iconst 0, 1) := by decide +kernel
theorem dX7_sent_10 : decode cX7_sent 10 = .ok (.goto 4, 3) := by decide +kernel
theorem dX7_sent_13 : decode cX7_sent 13 = .ok (.iconst 1, 1) := by decide +kernel
theorem dX7_sent_14 : decode cX7_sent 14 = .ok (.putfield 75, 3) := by decide +kernel
theorem dX7_sent_17 : decode cX7_sent 17 = .ok (.iconst 0, 1) := by decide +kernel
theorem dX7_sent_18 : decode cX7_sent 18 = .ok (.istore_n 2, 1) := by decide +kernel
theorem dX7_sent_19 : decode cX7_sent 19 = .ok (.iconst 0, 1) := by decide +kernel
theorem dX7_sent_20 : decode cX7_sent 20 = .ok (.istore_n 3, 1) := by decide +kernel
theorem dX7_sent_21 : decode cX7_sent 21 = .ok (.iload_n 3, 1) := by decide +kernel
theorem dX7_sent_22 : decode cX7_sent 22 = .ok (.bipush 6, 2) := by decide +kernel
theorem dX7_sent_24 : decode cX7_sent 24 = .ok (.if_icmp .ge 59, 3) := by decide +kernel
theorem dX7_sent_27 : decode cX7_sent 27 = .ok (.aload_n 0, 1) := by decide +kernel
theorem dX7_sent_28 : decode cX7_sent 28 = .ok (.getfield 75, 3) := by decide +kernel
theorem dX7_sent_31 : decode cX7_sent 31 = .ok (.ifCond .ne 52, 3) := by decide +kernel
theorem dX7_sent_34 : decode cX7_sent 34 = .ok (.aload_n 0, 1) := by decide +kernel
theorem dX7_sent_35 : decode cX7_sent 35 = .ok (.getfield 57, 3) := by decide +kernel
theorem dX7_sent_38 : decode cX7_sent 38 = .ok (.bipush 6, 2) := by decide +kernel
theorem dX7_sent_40 : decode cX7_sent 40 = .ok (.iload_n 1, 1) := by decide +kernel
theorem dX7_sent_41 : decode cX7_sent 41 = .ok (.imul, 1) := by decide +kernel
theorem dX7_sent_42 : decode cX7_sent 42 = .ok (.iload_n 3, 1) := by decide +kernel
theorem dX7_sent_43 : decode cX7_sent 43 = .ok (.iadd, 1) := by decide +kernel
theorem dX7_sent_44 : decode cX7_sent 44 = .ok (.iaload, 1) := by decide +kernel
theorem dX7_sent_45 : decode cX7_sent 45 = .ok (.istore 4, 2) := by decide +kernel
theorem dX7_sent_47 : decode cX7_sent 47 = .ok (.iload_n 2, 1) := by decide +kernel
theorem dX7_sent_48 : decode cX7_sent 48 = .ok (.iload 4, 2) := by decide +kernel
theorem dX7_sent_50 : decode cX7_sent 50 = .ok (.ifCond .ne 7, 3) := by decide +kernel
theorem dX7_sent_53 : decode cX7_sent 53 = .ok (.iconst 0, 1) := by decide +kernel
theorem dX7_sent_54 : decode cX7_sent 54 = .ok (.goto 21, 3) := by decide +kernel
theorem dX7_sent_57 : decode cX7_sent 57 = .ok (.aload_n 0, 1) := by decide +kernel
theorem dX7_sent_58 : decode cX7_sent 58 = .ok (.getfield 42, 3) := by decide +kernel
theorem dX7_sent_61 : decode cX7_sent 61 = .ok (.iload_n 3, 1) := by decide +kernel
theorem dX7_sent_62 : decode cX7_sent 62 = .ok (.iaload, 1) := by decide +kernel
theorem dX7_sent_63 : decode cX7_sent 63 = .ok (.iload 4, 2) := by decide +kernel
theorem dX7_sent_65 : decode cX7_sent 65 = .ok (.iconst 1, 1) := by decide +kernel
theorem dX7_sent_66 : decode cX7_sent 66 = .ok (.isub, 1) := by decide +kernel
theorem dX7_sent_67 : decode cX7_sent 67 = .ok (.aload_n 0, 1) := by decide +kernel
theorem dX7_sent_68 : decode cX7_sent 68 = .ok (.getfield 45, 3) := by decide +kernel
theorem dX7_sent_71 : decode cX7_sent 71 = .ok (.iload_n 3, 1) := by decide +kernel
theorem dX7_sent_72 : decode cX7_sent 72 = .ok (.iaload, 1) := by decide +kernel
theorem dX7_sent_73 : decode cX7_sent 73 = .ok (.imul, 1) := by decide +kernel
theorem dX7_sent_74 : decode cX7_sent 74 = .ok (.iadd, 1) := by decide +kernel
theorem dX7_sent_75 : decode cX7_sent 75 = .ok (.iadd, 1) := by decide +kernel
theorem dX7_sent_76 : decode cX7_sent 76 = .ok (.istore_n 2, 1) := by decide +kernel
theorem dX7_sent_77 : decode cX7_sent 77 = .ok (.iinc 3 1, 3) := by decide +kernel
theorem dX7_sent_80 : decode cX7_sent 80 = .ok (.goto (-59), 3) := by decide +kernel
theorem dX7_sent_83 : decode cX7_sent 83 = .ok (.iload_n 2, 1) := by decide +kernel
theorem dX7_sent_84 : decode cX7_sent 84 = .ok (.ireturn, 1) := by decide +kernel
set_option maxRecDepth 20000 in
theorem ggX7_keys_X7_barsStream : GoodIn wsX7_keys wsX7_barsStream := goodIn_r _ [7, 8, 9, 10, 11, 6, 12, 13, 14, 15, 16, 17, 18, 19, 20, 21, 22, 23, 24, 25, 26, 27, 28, 29, 30, 31, 32, 33, 34, 35, 36, 37, 38, 39, 40, 41, 42, 43] (by decide +kernel) (by decide +kernel)
set_option maxRecDepth 20000 in
theorem gX7_keys_X7_barsStream : GoodIn wsX7_keys (wsV RX7 109 RX7 yX7_barsStream wsX7_barsStream) := goodIn_app (goodIn_of _ (by decide +kernel)) ggX7_keys_X7_barsStream
theorem dX7_keys_0 : decode cX7_keys 0 = .ok (.aload_n 0, 1) := by decide +kernel
theorem dX7_keys_1 : decode cX7_keys 1 = .ok (.aload_n 0, 1) := by decide +kernel
theorem dX7_keys_2 : decode cX7_keys 2 = .ok (.iload_n 1, 1) := by decide +kernel
theorem dX7_keys_3 : decode cX7_keys 3 = .ok (.invokevirtual 109, 3) := by decide +kernel
theorem dX7_keys_6 : decode cX7_keys 6 = .ok (.putfield 75, 3) := by decide +kernel
theorem dX7_keys_9 : decode cX7_keys 9 = .ok (.aload_n 0, 1) := by decide +kernel
theorem dX7_keys_10 : decode cX7_keys 10 = .ok (.getfield 75, 3) := by decide +kernel
theorem dX7_keys_13 : decode cX7_keys 13 = .ok (.ifCond .le 7, 3) := by decide +kernel
theorem dX7_keys_16 : decode cX7_keys 16 = .ok (.iconst 0, 1) := by decide +kernel
theorem dX7_keys_17 : decode cX7_keys 17 = .ok (.goto 9, 3) := by decide +kernel
theorem dX7_keys_20 : decode cX7_keys 20 = .ok (.aload_n 0, 1) := by decide +kernel
theorem dX7_keys_21 : decode cX7_keys 21 = .ok (.getfield 48, 3) := by decide +kernel
theorem dX7_keys_24 : decode cX7_keys 24 = .ok (.iload_n 1, 1) := by decide +kernel
theorem dX7_keys_25 : decode cX7_keys 25 = .ok (.iaload, 1) := by decide +kernel
theorem dX7_keys_26 : decode cX7_keys 26 = .ok (.ireturn, 1) := by decide +kernel
set_option maxRecDepth 20000 in
theorem ggX7_isAsked_X7_barsStream : GoodIn wsX7_isAsked wsX7_barsStream := goodIn_r _ [7, 8, 9, 10, 11, 6, 12, 13, 14, 15, 16, 17, 18, 19, 20, 21, 22, 23, 24, 25, 26, 27, 28, 29, 30, 31, 32, 33, 34, 35, 36, 37, 38, 39, 40, 41, 42, 43] (by decide +kernel) (by decide +kernel)
set_option maxRecDepth 20000 in
theorem gX7_isAsked_X7_barsStream : GoodIn wsX7_isAsked (wsV RX7 109 RX7 yX7_barsStream wsX7_barsStream) := goodIn_app (goodIn_of _ (by decide +kernel)) ggX7_isAsked_X7_barsStream
theorem dX7_isAsked_0 : decode cX7_isAsked 0 = .ok (.aload_n 0, 1) := by decide +kernel
theorem dX7_isAsked_1 : decode cX7_isAsked 1 = .ok (.aload_n 0, 1) := by decide +kernel
theorem dX7_isAsked_2 : decode cX7_isAsked 2 = .ok (.iload_n 1, 1) := by decide +kernel
theorem dX7_isAsked_3 : decode cX7_isAsked 3 = .ok (.invokevirtual 109, 3) := by decide +kernel
theorem dX7_isAsked_6 : decode cX7_isAsked 6 = .ok (.putfield 75, 3) := by decide +kernel
theorem dX7_isAsked_9 : decode cX7_isAsked 9 = .ok (.aload_n 0, 1) := by decide +kernel
theorem dX7_isAsked_10 : decode cX7_isAsked 10 = .ok (.getfield 75, 3) := by decide +kernel
theorem dX7_isAsked_13 : decode cX7_isAsked 13 = .ok (.ifCond .ne 16, 3) := by decide +kernel
theorem dX7_isAsked_16 : decode cX7_isAsked 16 = .ok (.aload_n 0, 1) := by decide +kernel
theorem dX7_isAsked_17 : decode cX7_isAsked 17 = .ok (.getfield 54, 3) := by decide +kernel
theorem dX7_isAsked_20 : decode cX7_isAsked 20 = .ok (.iload_n 1, 1) := by decide +kernel
theorem dX7_isAsked_21 : decode cX7_isAsked 21 = .ok (.baload, 1) := by decide +kernel
theorem dX7_isAsked_22 : decode cX7_isAsked 22 = .ok (.ifCond .eq 7, 3) := by decide +kernel
theorem dX7_isAsked_25 : decode cX7_isAsked 25 = .ok (.iconst 1, 1) := by decide +kernel
theorem dX7_isAsked_26 : decode cX7_isAsked 26 = .ok (.goto 4, 3) := by decide +kernel
theorem dX7_isAsked_29 : decode cX7_isAsked 29 = .ok (.iconst 0, 1) := by decide +kernel
theorem dX7_isAsked_30 : decode cX7_isAsked 30 = .ok (.ireturn, 1) := by decide +kernel
