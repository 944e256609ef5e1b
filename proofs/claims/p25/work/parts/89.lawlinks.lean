set_option maxRecDepth 20000 in
theorem ggL_law_X6_init : GoodIn wsL_law wsX6_init := goodIn_r _ [6, 7, 8, 9, 10, 11, 12, 13, 14, 15, 16, 17, 18, 19, 20, 21, 22, 23, 24, 25, 26, 27, 28, 29, 30, 31, 32, 33, 34, 35, 36, 37, 38, 39, 3, 40, 41, 42, 43, 44, 45, 46, 47, 48, 49, 50, 51, 52, 53, 54, 55, 56, 57, 58, 59, 60, 61, 62, 63, 64, 65, 66, 67, 68, 69, 70, 71, 72, 73, 74, 75, 76, 77, 78, 79, 80, 379, 380, 381, 382, 383, 384, 385, 386, 372, 373, 374, 375, 376, 377, 378, 387, 388, 389, 390, 391, 392, 393, 394, 395, 396, 397, 398, 399, 400, 401, 402] (by decide +kernel) (by decide +kernel)
set_option maxRecDepth 20000 in
theorem gL_law_X6_init : GoodIn wsL_law (wsX6_init) := ggL_law_X6_init
set_option maxRecDepth 20000 in
theorem ggL_law_L_cell : GoodIn wsL_law wsL_cell := goodIn_r _ [84] (by decide +kernel) (by decide +kernel)
set_option maxRecDepth 20000 in
theorem gL_law_L_cell : GoodIn wsL_law (va_wsS RL 31 yL_cell wsL_cell) := goodIn_app (goodIn_of _ (by decide +kernel)) ggL_law_L_cell
set_option maxRecDepth 20000 in
theorem ggL_law_L_low : GoodIn wsL_law wsL_low := goodIn_r _ [87, 88] (by decide +kernel) (by decide +kernel)
set_option maxRecDepth 20000 in
theorem gL_law_L_low : GoodIn wsL_law (va_wsS RL 37 yL_low wsL_low) := goodIn_app (goodIn_of _ (by decide +kernel)) ggL_law_L_low
set_option maxRecDepth 20000 in
theorem ggL_law_X6_people : GoodIn wsL_law wsX6_people := goodIn_r _ [92, 13, 93, 94, 95, 12, 96, 39, 372, 373, 374, 375, 376, 377, 378, 379, 380, 381, 382, 383, 384, 385, 386] (by decide +kernel) (by decide +kernel)
set_option maxRecDepth 20000 in
theorem gL_law_X6_people : GoodIn wsL_law (wsV RL 40 RX6 yX6_people wsX6_people) := goodIn_app (goodIn_of _ (by decide +kernel)) ggL_law_X6_people
set_option maxRecDepth 20000 in
theorem ggL_law_X6_join : GoodIn wsL_law wsX6_join := goodIn_ca (goodIn_r _ [100, 101, 102, 13, 21, 103, 104, 105, 12, 106, 39, 107, 108, 109, 110, 40, 41, 111, 112, 113, 20, 114, 67, 68, 69, 372, 373, 374, 375, 376, 377, 378, 379, 380, 381, 382, 383, 384, 385, 386, 394, 395, 396] (by decide +kernel) (by decide +kernel)) (goodIn_sub (fun _ h => List.mem_append_left _ (List.mem_append_left _ (List.mem_append_left _ (List.mem_append_right _ h)))) (by decide +kernel))
set_option maxRecDepth 20000 in
theorem gL_law_X6_join : GoodIn wsL_law (wsV RL 44 RX6 yX6_join wsX6_join) := goodIn_app (goodIn_of _ (by decide +kernel)) ggL_law_X6_join
set_option maxRecDepth 20000 in
theorem ggL_law_X6_leave : GoodIn wsL_law wsX6_leave := goodIn_ca (goodIn_r _ [118, 13, 21, 33, 119, 120, 121, 2, 122, 123, 124, 125, 126, 127, 12, 128, 39, 129, 130, 131, 132, 17, 133, 134, 135, 16, 136, 58, 59, 61, 137, 138, 139, 24, 140, 52, 51, 141, 142, 143, 32, 144, 79, 145, 146, 147, 148, 43, 44, 46, 149, 150, 151, 152, 20, 153, 69, 154, 155, 156, 157, 80, 372, 373, 374, 375, 376, 377, 378, 379, 380, 381, 382, 383, 384, 385, 386, 387, 388, 389, 390, 391, 392, 393, 397, 398, 401, 402, 394, 395, 396] (by decide +kernel) (by decide +kernel)) (goodIn_sub (fun _ h => List.mem_append_left _ (List.mem_append_left _ (List.mem_append_right _ h))) (by decide +kernel))
set_option maxRecDepth 20000 in
theorem gL_law_X6_leave : GoodIn wsL_law (wsV RL 47 RX6 yX6_leave wsX6_leave) := goodIn_app (goodIn_of _ (by decide +kernel)) ggL_law_X6_leave
set_option maxRecDepth 20000 in
theorem ggL_law_X6_speaker : GoodIn wsL_law wsX6_speaker := goodIn_r _ [161, 13, 162, 372, 373, 374, 375, 376, 377, 378, 379, 380, 381, 382, 383, 384, 385, 386] (by decide +kernel) (by decide +kernel)
set_option maxRecDepth 20000 in
theorem gL_law_X6_speaker : GoodIn wsL_law (wsV RL 51 RX6 yX6_speaker wsX6_speaker) := goodIn_app (goodIn_of _ (by decide +kernel)) ggL_law_X6_speaker
set_option maxRecDepth 20000 in
theorem ggL_law_X6_publish : GoodIn wsL_law wsX6_publish := goodIn_ca (goodIn_ca (goodIn_r _ [166, 17, 119, 120, 121, 2, 122, 123, 124, 13, 125, 126, 127, 12, 128, 39, 167, 168, 169, 170, 171, 129, 130, 131, 132, 33, 133, 134, 135, 16, 136, 58, 59, 61, 137, 138, 139, 24, 140, 52, 51, 141, 142, 143, 32, 144, 79, 172, 173, 174, 175, 56, 57, 176, 177, 178, 179, 180, 181, 182, 183, 372, 373, 374, 375, 376, 377, 378, 379, 380, 381, 382, 383, 384, 385, 386, 387, 388, 389, 390, 391, 392, 393, 397, 398, 401, 402] (by decide +kernel) (by decide +kernel)) (goodIn_sub (fun _ h => List.mem_append_left _ (List.mem_append_left _ (List.mem_append_right _ h))) (by decide +kernel))) (goodIn_sub (fun _ h => List.mem_append_left _ (List.mem_append_right _ h)) (by decide +kernel))
set_option maxRecDepth 20000 in
theorem gL_law_X6_publish : GoodIn wsL_law (wsV RL 54 RX6 yX6_publish wsX6_publish) := goodIn_app (goodIn_of _ (by decide +kernel)) ggL_law_X6_publish
set_option maxRecDepth 20000 in
theorem ggL_law_X6_end : GoodIn wsL_law wsX6_end := goodIn_ca (goodIn_ca (goodIn_r _ [187, 119, 120, 121, 2, 122, 123, 124, 13, 125, 126, 127, 12, 128, 39, 188, 189, 190, 191, 101, 102, 17, 192, 193, 181, 182, 24, 183, 52, 51, 129, 130, 131, 132, 33, 133, 134, 135, 16, 136, 58, 59, 61, 137, 138, 139, 140, 141, 142, 143, 32, 144, 79, 372, 373, 374, 375, 376, 377, 378, 379, 380, 381, 382, 383, 384, 385, 386, 387, 388, 389, 390, 391, 392, 393, 397, 398, 401, 402] (by decide +kernel) (by decide +kernel)) (goodIn_sub (fun _ h => List.mem_append_left _ (List.mem_append_left _ (List.mem_append_right _ h))) (by decide +kernel))) (goodIn_sub (fun _ h => List.mem_append_left _ (List.mem_append_left _ (List.mem_append_left _ (List.mem_append_right _ h)))) (by decide +kernel))
set_option maxRecDepth 20000 in
theorem gL_law_X6_end : GoodIn wsL_law (wsV RL 58 RX6 yX6_end wsX6_end) := goodIn_app (goodIn_of _ (by decide +kernel)) ggL_law_X6_end
set_option maxRecDepth 20000 in
theorem ggL_law_X6_setPlaces : GoodIn wsL_law wsX6_setPlaces := goodIn_ca (goodIn_ca (goodIn_r _ [197, 21, 198, 119, 120, 121, 2, 122, 123, 124, 13, 125, 126, 127, 12, 128, 39, 167, 168, 169, 170, 171, 372, 373, 374, 375, 376, 377, 378, 394, 395, 396, 379, 380, 381, 382, 383, 384, 385, 386] (by decide +kernel) (by decide +kernel)) (goodIn_sub (fun _ h => List.mem_append_left _ (List.mem_append_left _ (List.mem_append_right _ h))) (by decide +kernel))) (goodIn_sub (fun _ h => List.mem_append_left _ (List.mem_append_right _ h)) (by decide +kernel))
set_option maxRecDepth 20000 in
theorem gL_law_X6_setPlaces : GoodIn wsL_law (wsV RL 61 RX6 yX6_setPlaces wsX6_setPlaces) := goodIn_app (goodIn_of _ (by decide +kernel)) ggL_law_X6_setPlaces
set_option maxRecDepth 20000 in
theorem ggL_law_X6_setEstimate : GoodIn wsL_law wsX6_setEstimate := goodIn_ca (goodIn_ca (goodIn_r _ [202, 21, 203, 119, 120, 121, 2, 122, 123, 124, 13, 125, 126, 127, 12, 128, 39, 167, 168, 169, 170, 171, 372, 373, 374, 375, 376, 377, 378, 394, 395, 396, 379, 380, 381, 382, 383, 384, 385, 386] (by decide +kernel) (by decide +kernel)) (goodIn_sub (fun _ h => List.mem_append_left _ (List.mem_append_left _ (List.mem_append_right _ h))) (by decide +kernel))) (goodIn_sub (fun _ h => List.mem_append_left _ (List.mem_append_right _ h)) (by decide +kernel))
set_option maxRecDepth 20000 in
theorem gL_law_X6_setEstimate : GoodIn wsL_law (wsV RL 64 RX6 yX6_setEstimate wsX6_setEstimate) := goodIn_app (goodIn_of _ (by decide +kernel)) ggL_law_X6_setEstimate
set_option maxRecDepth 20000 in
theorem ggL_law_X6_setLevel : GoodIn wsL_law wsX6_setLevel := goodIn_ca (goodIn_ca (goodIn_r _ [207, 13, 208, 119, 120, 121, 2, 122, 123, 124, 125, 126, 127, 12, 128, 39, 167, 168, 169, 170, 171, 372, 373, 374, 375, 376, 377, 378, 379, 380, 381, 382, 383, 384, 385, 386] (by decide +kernel) (by decide +kernel)) (goodIn_sub (fun _ h => List.mem_append_left _ (List.mem_append_left _ (List.mem_append_right _ h))) (by decide +kernel))) (goodIn_sub (fun _ h => List.mem_append_left _ (List.mem_append_right _ h)) (by decide +kernel))
set_option maxRecDepth 20000 in
theorem gL_law_X6_setLevel : GoodIn wsL_law (wsV RL 67 RX6 yX6_setLevel wsX6_setLevel) := goodIn_app (goodIn_of _ (by decide +kernel)) ggL_law_X6_setLevel
set_option maxRecDepth 20000 in
theorem ggL_law_X6_mute : GoodIn wsL_law wsX6_mute := goodIn_ca (goodIn_r _ [212, 13, 213, 119, 120, 121, 2, 122, 123, 124, 125, 126, 127, 12, 128, 39, 372, 373, 374, 375, 376, 377, 378, 379, 380, 381, 382, 383, 384, 385, 386] (by decide +kernel) (by decide +kernel)) (goodIn_sub (fun _ h => List.mem_append_left _ (List.mem_append_left _ (List.mem_append_right _ h))) (by decide +kernel))
set_option maxRecDepth 20000 in
theorem gL_law_X6_mute : GoodIn wsL_law (wsV RL 70 RX6 yX6_mute wsX6_mute) := goodIn_app (goodIn_of _ (by decide +kernel)) ggL_law_X6_mute
set_option maxRecDepth 20000 in
theorem ggL_law_X6_pin : GoodIn wsL_law wsX6_pin := goodIn_ca (goodIn_ca (goodIn_r _ [217, 170, 171, 21, 218, 119, 120, 121, 2, 122, 123, 124, 13, 125, 126, 127, 12, 128, 39, 372, 373, 374, 375, 376, 377, 378, 394, 395, 396, 379, 380, 381, 382, 383, 384, 385, 386] (by decide +kernel) (by decide +kernel)) (goodIn_sub (fun _ h => List.mem_append_left _ (List.mem_append_right _ h)) (by decide +kernel))) (goodIn_sub (fun _ h => List.mem_append_left _ (List.mem_append_left _ (List.mem_append_right _ h))) (by decide +kernel))
set_option maxRecDepth 20000 in
theorem gL_law_X6_pin : GoodIn wsL_law (wsV RL 74 RX6 yX6_pin wsX6_pin) := goodIn_app (goodIn_of _ (by decide +kernel)) ggL_law_X6_pin
set_option maxRecDepth 20000 in
theorem ggL_law_X6_seenAt : GoodIn wsL_law wsX6_seenAt := goodIn_ca (goodIn_ca (goodIn_r _ [222, 223, 224, 25, 225, 226, 119, 120, 121, 2, 122, 123, 124, 13, 125, 126, 127, 12, 128, 39, 227, 228, 229, 230, 21, 218, 231, 17, 192, 232, 233, 234, 24, 235, 52, 236, 237, 238, 239, 198, 193, 181, 182, 183, 51, 240, 177, 178, 179, 180, 241, 242, 243, 244, 372, 373, 374, 375, 376, 377, 378, 397, 398, 379, 380, 381, 382, 383, 384, 385, 386, 394, 395, 396, 387, 388, 389, 390, 391, 392, 393] (by decide +kernel) (by decide +kernel)) (goodIn_sub (fun _ h => List.mem_append_right _ h) (by decide +kernel))) (goodIn_sub (fun _ h => List.mem_append_left _ (List.mem_append_left _ (List.mem_append_right _ h))) (by decide +kernel))
set_option maxRecDepth 20000 in
theorem gL_law_X6_seenAt : GoodIn wsL_law (wsV RL 14 RX6 yX6_seenAt wsX6_seenAt) := goodIn_app (goodIn_of _ (by decide +kernel)) ggL_law_X6_seenAt
set_option maxRecDepth 20000 in
theorem ggL_law_X6_pass : GoodIn wsL_law wsX6_pass := goodIn_ca (goodIn_r _ [248, 167, 168, 2, 169, 170, 171, 249, 250, 251, 252, 34, 13, 33, 253, 254, 255, 12, 256, 46, 47, 45, 44, 43, 257, 258, 259, 260, 39, 41, 40, 261, 262, 263, 24, 264, 52, 51, 265, 138, 139, 140, 266, 267, 268, 269, 270, 29, 25, 17, 21, 203, 271, 227, 228, 229, 230, 218, 231, 192, 232, 233, 234, 235, 236, 237, 238, 239, 225, 198, 125, 126, 127, 128, 193, 181, 182, 183, 240, 177, 178, 179, 180, 241, 242, 243, 244, 226, 272, 273, 274, 28, 275, 276, 277, 278, 279, 280, 281, 74, 73, 282, 283, 284, 285, 286, 287, 288, 289, 290, 291, 292, 293, 294, 32, 295, 80, 296, 297, 298, 299, 79, 300, 301, 302, 303, 304, 305, 306, 307, 308, 309, 310, 311, 312, 313, 314, 315, 16, 316, 59, 58, 63, 62, 317, 318, 319, 320, 321, 322, 323, 324, 372, 373, 374, 375, 376, 377, 378, 379, 380, 381, 382, 383, 384, 385, 386, 397, 398, 394, 395, 396, 399, 400, 387, 388, 389, 390, 391, 392, 393, 401, 402] (by decide +kernel) (by decide +kernel)) (goodIn_sub (fun _ h => List.mem_append_left _ (List.mem_append_right _ h)) (by decide +kernel))
set_option maxRecDepth 20000 in
theorem gL_law_X6_pass : GoodIn wsL_law (wsV RL 77 RX6 yX6_pass wsX6_pass) := goodIn_app (goodIn_of _ (by decide +kernel)) ggL_law_X6_pass
set_option maxRecDepth 20000 in
theorem ggL_law_X6_now : GoodIn wsL_law wsX6_now := goodIn_r _ [328, 34, 372, 373, 374, 375, 376, 377, 378] (by decide +kernel) (by decide +kernel)
set_option maxRecDepth 20000 in
theorem gL_law_X6_now : GoodIn wsL_law (wsV RL 80 RX6 yX6_now wsX6_now) := goodIn_app (goodIn_of _ (by decide +kernel)) ggL_law_X6_now
set_option maxRecDepth 20000 in
theorem ggL_law_L_isReceiver : GoodIn wsL_law wsL_isReceiver := goodIn_ca (goodIn_ca (goodIn_r _ [331, 332, 333, 334, 2, 335, 25, 225, 119, 120, 121, 122, 123, 124, 13, 125, 126, 127, 12, 128, 39, 227, 228, 229, 230, 21, 218, 231, 17, 192, 232, 233, 234, 24, 235, 52, 236, 237, 238, 239, 198, 193, 181, 182, 183, 51, 240, 177, 178, 179, 180, 241, 242, 243, 244, 226, 219, 220, 221, 222, 223, 224, 336, 337, 338, 339, 29, 203, 271, 272, 273, 274, 28, 275, 276, 277, 278, 279, 280, 281, 74, 73, 282, 283, 284, 285, 286, 287, 288, 289, 290, 291, 340, 341, 342, 343, 344, 345, 346, 347, 348, 349, 350, 351, 352, 353, 354, 355, 356, 357, 358, 359, 33, 360, 372, 373, 374, 375, 376, 377, 378, 397, 398, 379, 380, 381, 382, 383, 384, 385, 386, 394, 395, 396, 387, 388, 389, 390, 391, 392, 393, 399, 400, 401, 402] (by decide +kernel) (by decide +kernel)) (goodIn_sub (fun _ h => List.mem_append_left _ (List.mem_append_left _ (List.mem_append_right _ h))) (by decide +kernel))) (goodIn_sub (fun _ h => List.mem_append_right _ h) (by decide +kernel))
set_option maxRecDepth 20000 in
theorem gL_law_L_isReceiver : GoodIn wsL_law (va_wsS RL 83 yL_isReceiver wsL_isReceiver) := goodIn_app (goodIn_of _ (by decide +kernel)) ggL_law_L_isReceiver
set_option maxRecDepth 20000 in
theorem ggL_law_L_isSent : GoodIn wsL_law wsL_isSent := goodIn_ca (goodIn_r _ [363, 364, 365, 366, 2, 367, 17, 33, 360, 119, 120, 121, 122, 123, 124, 13, 125, 126, 127, 12, 128, 39, 368, 369, 370, 16, 371, 56, 57, 356, 357, 358, 359, 336, 337, 338, 339, 29, 25, 21, 203, 271, 227, 228, 229, 230, 218, 231, 192, 232, 233, 234, 24, 235, 52, 236, 237, 238, 239, 225, 198, 193, 181, 182, 183, 51, 240, 177, 178, 179, 180, 241, 242, 243, 244, 226, 272, 273, 274, 28, 275, 276, 277, 278, 279, 280, 281, 74, 73, 282, 283, 284, 285, 286, 287, 288, 289, 290, 291, 372, 373, 374, 375, 376, 377, 378, 401, 402, 379, 380, 381, 382, 383, 384, 385, 386, 387, 388, 389, 390, 391, 392, 393, 394, 395, 396, 399, 400, 397, 398] (by decide +kernel) (by decide +kernel)) (goodIn_sub (fun _ h => List.mem_append_left _ (List.mem_append_left _ (List.mem_append_right _ h))) (by decide +kernel))
set_option maxRecDepth 20000 in
theorem gL_law_L_isSent : GoodIn wsL_law (va_wsS RL 87 yL_isSent wsL_isSent) := goodIn_app (goodIn_of _ (by decide +kernel)) ggL_law_L_isSent
