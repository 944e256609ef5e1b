set_option maxRecDepth 20000 in
theorem ggL_law_X6_init : GoodIn wsL_law wsX6_init := goodIn_r _ [9, 10, 11, 12, 13, 14, 15, 16, 17, 18, 19, 20, 21, 22, 23, 24, 25, 26, 27, 28, 29, 30, 31, 32, 33, 34, 35, 36, 37, 38, 39, 40, 41, 42, 43, 44, 45, 46, 47, 48, 49, 50, 51, 52, 53, 54, 55, 56, 57, 58, 59, 60, 61, 62, 63, 64, 65, 66, 67, 68, 69, 70, 71, 72, 73, 74, 75, 76, 77, 78, 79, 80, 81, 82, 83, 84, 651, 652, 653, 654, 655, 656, 657, 658, 617, 618, 619, 620, 621, 622, 623, 659, 660, 661, 662, 663, 664, 665, 666, 667, 668, 669, 670, 671, 672, 673, 674] (by decide +kernel) (by decide +kernel)
set_option maxRecDepth 20000 in
theorem gL_law_X6_init : GoodIn wsL_law (wsX6_init) := ggL_law_X6_init
set_option maxRecDepth 20000 in
theorem ggL_law_X7_init : GoodIn wsL_law wsX7_init := goodIn_r _ [87, 88, 11, 12, 89, 90, 41, 91, 92, 43, 93, 94, 95, 96, 97, 98, 99, 100, 101, 102, 103, 104, 105, 106, 107, 108, 109, 110, 624, 625, 626, 627, 628, 629, 630, 631, 632, 633, 634, 635, 636, 637, 638, 639, 640, 641, 642, 643, 644, 645, 646, 647, 648, 649, 650] (by decide +kernel) (by decide +kernel)
set_option maxRecDepth 20000 in
theorem gL_law_X7_init : GoodIn wsL_law (wsX7_init) := ggL_law_X7_init
set_option maxRecDepth 20000 in
theorem ggL_law_L_join : GoodIn wsL_law wsL_join := goodIn_ca (goodIn_r _ [114, 115, 116, 117, 118, 2, 119, 120, 121, 16, 24, 122, 123, 124, 15, 125, 42, 126, 127, 128, 129, 44, 45, 130, 131, 132, 23, 133, 71, 72, 73, 617, 618, 619, 620, 621, 622, 623, 651, 652, 653, 654, 655, 656, 657, 658, 666, 667, 668] (by decide +kernel) (by decide +kernel)) (goodIn_sub (fun _ h => List.mem_append_left _ (List.mem_append_left _ (List.mem_append_left _ (List.mem_append_right _ h)))) (by decide +kernel))
set_option maxRecDepth 20000 in
theorem gL_law_L_join : GoodIn wsL_law (va_wsS RL 85 yL_join wsL_join) := goodIn_app (goodIn_of _ (by decide +kernel)) ggL_law_L_join
set_option maxRecDepth 20000 in
theorem ggL_law_X7_join : GoodIn wsL_law wsX7_join := goodIn_r _ [137, 91, 110, 92, 93, 94, 95, 96, 104, 138, 139, 140, 5, 141, 97, 103, 101, 624, 625, 626, 627, 628, 629, 630, 631, 632, 633, 634, 635, 636, 637, 638, 639, 640, 641, 642, 643, 644, 645, 646, 647, 648, 649, 650] (by decide +kernel) (by decide +kernel)
set_option maxRecDepth 20000 in
theorem gL_law_X7_join : GoodIn wsL_law (wsV RL 90 RX7 yX7_join wsX7_join) := goodIn_app (goodIn_of _ (by decide +kernel)) ggL_law_X7_join
set_option maxRecDepth 20000 in
theorem ggL_law_X7_thrown : GoodIn wsL_law wsX7_thrown := goodIn_r _ [145, 110, 624, 625, 626, 627, 628, 629, 630, 631, 632, 633, 634, 635, 636, 637, 638, 639, 640, 641, 642, 643, 644, 645, 646, 647, 648, 649, 650] (by decide +kernel) (by decide +kernel)
set_option maxRecDepth 20000 in
theorem gL_law_X7_thrown : GoodIn wsL_law (wsV RL 91 RX7 yX7_thrown wsX7_thrown) := goodIn_app (goodIn_of _ (by decide +kernel)) ggL_law_X7_thrown
set_option maxRecDepth 20000 in
theorem ggL_law_L_leave : GoodIn wsL_law wsL_leave := goodIn_ca (goodIn_r _ [148, 149, 150, 151, 152, 2, 153, 16, 24, 36, 154, 155, 156, 157, 158, 159, 160, 161, 162, 15, 163, 42, 164, 165, 166, 167, 20, 168, 169, 170, 19, 171, 62, 63, 65, 172, 173, 174, 27, 175, 56, 55, 176, 177, 178, 35, 179, 83, 180, 181, 182, 183, 47, 48, 50, 184, 185, 186, 187, 23, 188, 73, 189, 190, 191, 192, 84, 617, 618, 619, 620, 621, 622, 623, 651, 652, 653, 654, 655, 656, 657, 658, 659, 660, 661, 662, 663, 664, 665, 669, 670, 673, 674, 666, 667, 668] (by decide +kernel) (by decide +kernel)) (goodIn_sub (fun _ h => List.mem_append_left _ (List.mem_append_left _ (List.mem_append_right _ h))) (by decide +kernel))
set_option maxRecDepth 20000 in
theorem gL_law_L_leave : GoodIn wsL_law (va_wsS RL 94 yL_leave wsL_leave) := goodIn_app (goodIn_of _ (by decide +kernel)) ggL_law_L_leave
set_option maxRecDepth 20000 in
theorem ggL_law_X7_leave : GoodIn wsL_law wsX7_leave := goodIn_r _ [196, 110, 91, 105, 107, 94, 197, 198, 199, 5, 200, 201, 202, 203, 138, 139, 140, 141, 97, 103, 101, 104, 204, 205, 206, 207, 208, 106, 624, 625, 626, 627, 628, 629, 630, 631, 632, 633, 634, 635, 636, 637, 638, 639, 640, 641, 642, 643, 644, 645, 646, 647, 648, 649, 650] (by decide +kernel) (by decide +kernel)
set_option maxRecDepth 20000 in
theorem gL_law_X7_leave : GoodIn wsL_law (wsV RL 97 RX7 yX7_leave wsX7_leave) := goodIn_app (goodIn_of _ (by decide +kernel)) ggL_law_X7_leave
set_option maxRecDepth 20000 in
theorem ggL_law_L_publish : GoodIn wsL_law wsL_publish := goodIn_ca (goodIn_ca (goodIn_r _ [211, 149, 212, 213, 214, 215, 2, 216, 20, 154, 155, 156, 157, 158, 159, 16, 160, 161, 162, 15, 163, 42, 217, 218, 219, 220, 221, 164, 165, 166, 167, 36, 168, 169, 170, 19, 171, 62, 63, 65, 172, 173, 174, 27, 175, 56, 55, 176, 177, 178, 35, 179, 83, 222, 223, 224, 225, 60, 61, 226, 227, 228, 229, 230, 231, 232, 233, 617, 618, 619, 620, 621, 622, 623, 651, 652, 653, 654, 655, 656, 657, 658, 659, 660, 661, 662, 663, 664, 665, 669, 670, 673, 674] (by decide +kernel) (by decide +kernel)) (goodIn_sub (fun _ h => List.mem_append_left _ (List.mem_append_left _ (List.mem_append_right _ h))) (by decide +kernel))) (goodIn_sub (fun _ h => List.mem_append_left _ (List.mem_append_right _ h)) (by decide +kernel))
set_option maxRecDepth 20000 in
theorem gL_law_L_publish : GoodIn wsL_law (va_wsS RL 98 yL_publish wsL_publish) := goodIn_app (goodIn_of _ (by decide +kernel)) ggL_law_L_publish
set_option maxRecDepth 20000 in
theorem ggL_law_X7_publish : GoodIn wsL_law wsX7_publish := goodIn_r _ [237, 110, 97, 98, 238, 99, 100, 197, 198, 199, 5, 200, 91, 201, 202, 203, 138, 139, 140, 141, 103, 101, 104, 624, 625, 626, 627, 628, 629, 630, 631, 632, 633, 634, 635, 636, 637, 638, 639, 640, 641, 642, 643, 644, 645, 646, 647, 648, 649, 650] (by decide +kernel) (by decide +kernel)
set_option maxRecDepth 20000 in
theorem gL_law_X7_publish : GoodIn wsL_law (wsV RL 101 RX7 yX7_publish wsX7_publish) := goodIn_app (goodIn_of _ (by decide +kernel)) ggL_law_X7_publish
set_option maxRecDepth 20000 in
theorem ggL_law_L_end : GoodIn wsL_law wsL_end := goodIn_ca (goodIn_ca (goodIn_r _ [241, 149, 115, 242, 243, 244, 2, 245, 154, 155, 156, 157, 158, 159, 16, 160, 161, 162, 15, 163, 42, 246, 247, 248, 249, 120, 121, 20, 250, 251, 231, 232, 27, 233, 56, 55, 164, 165, 166, 167, 36, 168, 169, 170, 19, 171, 62, 63, 65, 172, 173, 174, 175, 176, 177, 178, 35, 179, 83, 617, 618, 619, 620, 621, 622, 623, 651, 652, 653, 654, 655, 656, 657, 658, 659, 660, 661, 662, 663, 664, 665, 669, 670, 673, 674] (by decide +kernel) (by decide +kernel)) (goodIn_sub (fun _ h => List.mem_append_left _ (List.mem_append_left _ (List.mem_append_right _ h))) (by decide +kernel))) (goodIn_sub (fun _ h => List.mem_append_left _ (List.mem_append_left _ (List.mem_append_left _ (List.mem_append_right _ h)))) (by decide +kernel))
set_option maxRecDepth 20000 in
theorem gL_law_L_end : GoodIn wsL_law (va_wsS RL 102 yL_end wsL_end) := goodIn_app (goodIn_of _ (by decide +kernel)) ggL_law_L_end
set_option maxRecDepth 20000 in
theorem ggL_law_X7_end : GoodIn wsL_law wsX7_end := goodIn_r _ [255, 110, 256, 257, 258, 5, 259, 97, 197, 198, 199, 200, 91, 201, 202, 203, 138, 139, 140, 141, 103, 101, 104, 624, 625, 626, 627, 628, 629, 630, 631, 632, 633, 634, 635, 636, 637, 638, 639, 640, 641, 642, 643, 644, 645, 646, 647, 648, 649, 650] (by decide +kernel) (by decide +kernel)
set_option maxRecDepth 20000 in
theorem gL_law_X7_end : GoodIn wsL_law (wsV RL 104 RX7 yX7_end wsX7_end) := goodIn_app (goodIn_of _ (by decide +kernel)) ggL_law_X7_end
set_option maxRecDepth 20000 in
theorem ggL_law_L_mute : GoodIn wsL_law wsL_mute := goodIn_ca (goodIn_r _ [262, 149, 263, 264, 265, 2, 266, 16, 267, 154, 155, 156, 157, 158, 159, 160, 161, 162, 15, 163, 42, 617, 618, 619, 620, 621, 622, 623, 651, 652, 653, 654, 655, 656, 657, 658] (by decide +kernel) (by decide +kernel)) (goodIn_sub (fun _ h => List.mem_append_left _ (List.mem_append_left _ (List.mem_append_right _ h))) (by decide +kernel))
set_option maxRecDepth 20000 in
theorem gL_law_L_mute : GoodIn wsL_law (va_wsS RL 105 yL_mute wsL_mute) := goodIn_app (goodIn_of _ (by decide +kernel)) ggL_law_L_mute
set_option maxRecDepth 20000 in
theorem ggL_law_X7_mute : GoodIn wsL_law wsX7_mute := goodIn_r _ [271, 110, 92, 197, 198, 199, 5, 200, 91, 201, 202, 203, 624, 625, 626, 627, 628, 629, 630, 631, 632, 633, 634, 635, 636, 637, 638, 639, 640, 641, 642, 643, 644, 645, 646, 647, 648, 649, 650] (by decide +kernel) (by decide +kernel)
set_option maxRecDepth 20000 in
theorem gL_law_X7_mute : GoodIn wsL_law (wsV RL 108 RX7 yX7_mute wsX7_mute) := goodIn_app (goodIn_of _ (by decide +kernel)) ggL_law_X7_mute
set_option maxRecDepth 20000 in
theorem ggL_law_L_setLevel : GoodIn wsL_law wsL_setLevel := goodIn_ca (goodIn_ca (goodIn_r _ [274, 149, 212, 275, 276, 277, 2, 278, 16, 279, 154, 155, 156, 157, 158, 159, 160, 161, 162, 15, 163, 42, 217, 218, 219, 220, 221, 617, 618, 619, 620, 621, 622, 623, 651, 652, 653, 654, 655, 656, 657, 658] (by decide +kernel) (by decide +kernel)) (goodIn_sub (fun _ h => List.mem_append_left _ (List.mem_append_left _ (List.mem_append_right _ h))) (by decide +kernel))) (goodIn_sub (fun _ h => List.mem_append_left _ (List.mem_append_right _ h)) (by decide +kernel))
set_option maxRecDepth 20000 in
theorem gL_law_L_setLevel : GoodIn wsL_law (va_wsS RL 109 yL_setLevel wsL_setLevel) := goodIn_app (goodIn_of _ (by decide +kernel)) ggL_law_L_setLevel
set_option maxRecDepth 20000 in
theorem ggL_law_X7_setLevel : GoodIn wsL_law wsX7_setLevel := goodIn_r _ [283, 110, 93, 197, 198, 199, 5, 200, 91, 201, 202, 203, 624, 625, 626, 627, 628, 629, 630, 631, 632, 633, 634, 635, 636, 637, 638, 639, 640, 641, 642, 643, 644, 645, 646, 647, 648, 649, 650] (by decide +kernel) (by decide +kernel)
set_option maxRecDepth 20000 in
theorem gL_law_X7_setLevel : GoodIn wsL_law (wsV RL 112 RX7 yX7_setLevel wsX7_setLevel) := goodIn_app (goodIn_of _ (by decide +kernel)) ggL_law_X7_setLevel
set_option maxRecDepth 20000 in
theorem ggL_law_X6_people : GoodIn wsL_law wsX6_people := goodIn_r _ [287, 16, 288, 289, 290, 15, 291, 42, 617, 618, 619, 620, 621, 622, 623, 651, 652, 653, 654, 655, 656, 657, 658] (by decide +kernel) (by decide +kernel)
set_option maxRecDepth 20000 in
theorem gL_law_X6_people : GoodIn wsL_law (wsV RL 113 RX6 yX6_people wsX6_people) := goodIn_app (goodIn_of _ (by decide +kernel)) ggL_law_X6_people
set_option maxRecDepth 20000 in
theorem ggL_law_X7_people : GoodIn wsL_law wsX7_people := goodIn_r _ [295, 110, 91, 624, 625, 626, 627, 628, 629, 630, 631, 632, 633, 634, 635, 636, 637, 638, 639, 640, 641, 642, 643, 644, 645, 646, 647, 648, 649, 650] (by decide +kernel) (by decide +kernel)
set_option maxRecDepth 20000 in
theorem gL_law_X7_people : GoodIn wsL_law (wsV RL 116 RX7 yX7_people wsX7_people) := goodIn_app (goodIn_of _ (by decide +kernel)) ggL_law_X7_people
set_option maxRecDepth 20000 in
theorem ggL_law_L_pin : GoodIn wsL_law wsL_pin := goodIn_ca (goodIn_ca (goodIn_r _ [298, 149, 212, 299, 300, 301, 2, 302, 220, 221, 24, 303, 154, 155, 156, 157, 158, 159, 16, 160, 161, 162, 15, 163, 42, 617, 618, 619, 620, 621, 622, 623, 666, 667, 668, 651, 652, 653, 654, 655, 656, 657, 658] (by decide +kernel) (by decide +kernel)) (goodIn_sub (fun _ h => List.mem_append_left _ (List.mem_append_right _ h)) (by decide +kernel))) (goodIn_sub (fun _ h => List.mem_append_left _ (List.mem_append_left _ (List.mem_append_right _ h))) (by decide +kernel))
set_option maxRecDepth 20000 in
theorem gL_law_L_pin : GoodIn wsL_law (va_wsS RL 117 yL_pin wsL_pin) := goodIn_app (goodIn_of _ (by decide +kernel)) ggL_law_L_pin
set_option maxRecDepth 20000 in
theorem ggL_law_X7_pin : GoodIn wsL_law wsX7_pin := goodIn_r _ [307, 110, 94, 197, 198, 199, 5, 200, 91, 201, 202, 203, 624, 625, 626, 627, 628, 629, 630, 631, 632, 633, 634, 635, 636, 637, 638, 639, 640, 641, 642, 643, 644, 645, 646, 647, 648, 649, 650] (by decide +kernel) (by decide +kernel)
set_option maxRecDepth 20000 in
theorem gL_law_X7_pin : GoodIn wsL_law (wsV RL 119 RX7 yX7_pin wsX7_pin) := goodIn_app (goodIn_of _ (by decide +kernel)) ggL_law_X7_pin
set_option maxRecDepth 20000 in
theorem ggL_law_L_setPlaces : GoodIn wsL_law wsL_setPlaces := goodIn_ca (goodIn_ca (goodIn_r _ [310, 149, 212, 311, 312, 313, 2, 314, 24, 315, 154, 155, 156, 157, 158, 159, 16, 160, 161, 162, 15, 163, 42, 217, 218, 219, 220, 221, 617, 618, 619, 620, 621, 622, 623, 666, 667, 668, 651, 652, 653, 654, 655, 656, 657, 658] (by decide +kernel) (by decide +kernel)) (goodIn_sub (fun _ h => List.mem_append_left _ (List.mem_append_left _ (List.mem_append_right _ h))) (by decide +kernel))) (goodIn_sub (fun _ h => List.mem_append_left _ (List.mem_append_right _ h)) (by decide +kernel))
set_option maxRecDepth 20000 in
theorem gL_law_L_setPlaces : GoodIn wsL_law (va_wsS RL 120 yL_setPlaces wsL_setPlaces) := goodIn_app (goodIn_of _ (by decide +kernel)) ggL_law_L_setPlaces
set_option maxRecDepth 20000 in
theorem ggL_law_X7_setPlaces : GoodIn wsL_law wsX7_setPlaces := goodIn_r _ [319, 110, 95, 197, 198, 199, 5, 200, 91, 201, 202, 203, 624, 625, 626, 627, 628, 629, 630, 631, 632, 633, 634, 635, 636, 637, 638, 639, 640, 641, 642, 643, 644, 645, 646, 647, 648, 649, 650] (by decide +kernel) (by decide +kernel)
set_option maxRecDepth 20000 in
theorem gL_law_X7_setPlaces : GoodIn wsL_law (wsV RL 122 RX7 yX7_setPlaces wsX7_setPlaces) := goodIn_app (goodIn_of _ (by decide +kernel)) ggL_law_X7_setPlaces
set_option maxRecDepth 20000 in
theorem ggL_law_L_setEstimate : GoodIn wsL_law wsL_setEstimate := goodIn_ca (goodIn_ca (goodIn_r _ [322, 149, 212, 323, 324, 325, 2, 326, 24, 327, 154, 155, 156, 157, 158, 159, 16, 160, 161, 162, 15, 163, 42, 217, 218, 219, 220, 221, 617, 618, 619, 620, 621, 622, 623, 666, 667, 668, 651, 652, 653, 654, 655, 656, 657, 658] (by decide +kernel) (by decide +kernel)) (goodIn_sub (fun _ h => List.mem_append_left _ (List.mem_append_left _ (List.mem_append_right _ h))) (by decide +kernel))) (goodIn_sub (fun _ h => List.mem_append_left _ (List.mem_append_right _ h)) (by decide +kernel))
set_option maxRecDepth 20000 in
theorem gL_law_L_setEstimate : GoodIn wsL_law (va_wsS RL 123 yL_setEstimate wsL_setEstimate) := goodIn_app (goodIn_of _ (by decide +kernel)) ggL_law_L_setEstimate
set_option maxRecDepth 20000 in
theorem ggL_law_X7_setEstimate : GoodIn wsL_law wsX7_setEstimate := goodIn_r _ [331, 110, 96, 197, 198, 199, 5, 200, 91, 201, 202, 203, 624, 625, 626, 627, 628, 629, 630, 631, 632, 633, 634, 635, 636, 637, 638, 639, 640, 641, 642, 643, 644, 645, 646, 647, 648, 649, 650] (by decide +kernel) (by decide +kernel)
set_option maxRecDepth 20000 in
theorem gL_law_X7_setEstimate : GoodIn wsL_law (wsV RL 125 RX7 yX7_setEstimate wsX7_setEstimate) := goodIn_app (goodIn_of _ (by decide +kernel)) ggL_law_X7_setEstimate
set_option maxRecDepth 20000 in
theorem ggL_law_L_setTimes : GoodIn wsL_law wsL_setTimes := goodIn_ca (goodIn_r _ [334, 212, 335, 336, 337, 2, 338, 16, 339, 20, 340, 217, 218, 219, 220, 221, 617, 618, 619, 620, 621, 622, 623, 651, 652, 653, 654, 655, 656, 657, 658, 659, 660, 661, 662, 663, 664, 665] (by decide +kernel) (by decide +kernel)) (goodIn_sub (fun _ h => List.mem_append_left _ (List.mem_append_right _ h)) (by decide +kernel))
set_option maxRecDepth 20000 in
theorem gL_law_L_setTimes : GoodIn wsL_law (va_wsS RL 126 yL_setTimes wsL_setTimes) := goodIn_app (goodIn_of _ (by decide +kernel)) ggL_law_L_setTimes
set_option maxRecDepth 20000 in
theorem ggL_law_X7_setTimes : GoodIn wsL_law wsX7_setTimes := goodIn_r _ [344, 110, 89, 90, 201, 202, 5, 203, 624, 625, 626, 627, 628, 629, 630, 631, 632, 633, 634, 635, 636, 637, 638, 639, 640, 641, 642, 643, 644, 645, 646, 647, 648, 649, 650] (by decide +kernel) (by decide +kernel)
set_option maxRecDepth 20000 in
theorem gL_law_X7_setTimes : GoodIn wsL_law (wsV RL 129 RX7 yX7_setTimes wsX7_setTimes) := goodIn_app (goodIn_of _ (by decide +kernel)) ggL_law_X7_setTimes
set_option maxRecDepth 20000 in
theorem ggL_law_L_pass : GoodIn wsL_law wsL_pass := goodIn_ca (goodIn_r _ [347, 212, 348, 349, 350, 2, 351, 217, 218, 219, 220, 221, 352, 353, 354, 355, 37, 16, 36, 356, 357, 358, 15, 359, 50, 51, 49, 48, 47, 360, 361, 362, 363, 42, 45, 44, 364, 365, 366, 27, 367, 56, 55, 368, 173, 174, 175, 369, 370, 371, 372, 373, 32, 28, 20, 24, 327, 374, 375, 376, 377, 378, 303, 379, 250, 380, 381, 382, 383, 384, 385, 386, 387, 388, 315, 160, 161, 162, 163, 251, 231, 232, 233, 389, 227, 228, 229, 230, 390, 391, 392, 393, 394, 395, 396, 397, 31, 398, 399, 400, 401, 402, 403, 404, 78, 77, 405, 406, 407, 408, 409, 410, 411, 412, 413, 414, 415, 416, 417, 35, 418, 84, 419, 420, 421, 422, 83, 423, 424, 425, 426, 427, 428, 429, 430, 431, 432, 433, 434, 435, 436, 437, 438, 19, 439, 63, 62, 67, 66, 440, 441, 442, 443, 444, 445, 446, 447, 617, 618, 619, 620, 621, 622, 623, 651, 652, 653, 654, 655, 656, 657, 658, 669, 670, 666, 667, 668, 671, 672, 659, 660, 661, 662, 663, 664, 665, 673, 674] (by decide +kernel) (by decide +kernel)) (goodIn_sub (fun _ h => List.mem_append_left _ (List.mem_append_right _ h)) (by decide +kernel))
set_option maxRecDepth 20000 in
theorem gL_law_L_pass : GoodIn wsL_law (va_wsS RL 130 yL_pass wsL_pass) := goodIn_app (goodIn_of _ (by decide +kernel)) ggL_law_L_pass
set_option maxRecDepth 20000 in
theorem ggL_law_X7_pass : GoodIn wsL_law wsX7_pass := goodIn_r _ [451, 110, 201, 202, 5, 203, 452, 453, 454, 455, 456, 97, 103, 101, 102, 90, 457, 458, 459, 460, 91, 92, 93, 107, 461, 89, 105, 208, 106, 204, 205, 206, 207, 462, 463, 464, 465, 104, 109, 466, 467, 468, 469, 96, 470, 99, 108, 100, 471, 472, 473, 474, 94, 238, 98, 475, 476, 477, 478, 95, 479, 480, 481, 482, 624, 625, 626, 627, 628, 629, 630, 631, 632, 633, 634, 635, 636, 637, 638, 639, 640, 641, 642, 643, 644, 645, 646, 647, 648, 649, 650] (by decide +kernel) (by decide +kernel)
set_option maxRecDepth 20000 in
theorem gL_law_X7_pass : GoodIn wsL_law (wsV RL 132 RX7 yX7_pass wsX7_pass) := goodIn_app (goodIn_of _ (by decide +kernel)) ggL_law_X7_pass
set_option maxRecDepth 20000 in
theorem ggL_law_X6_now : GoodIn wsL_law wsX6_now := goodIn_r _ [486, 37, 617, 618, 619, 620, 621, 622, 623] (by decide +kernel) (by decide +kernel)
set_option maxRecDepth 20000 in
theorem gL_law_X6_now : GoodIn wsL_law (wsV RL 133 RX6 yX6_now wsX6_now) := goodIn_app (goodIn_of _ (by decide +kernel)) ggL_law_X6_now
set_option maxRecDepth 20000 in
theorem ggL_law_X7_now : GoodIn wsL_law wsX7_now := goodIn_r _ [490, 110, 456, 624, 625, 626, 627, 628, 629, 630, 631, 632, 633, 634, 635, 636, 637, 638, 639, 640, 641, 642, 643, 644, 645, 646, 647, 648, 649, 650] (by decide +kernel) (by decide +kernel)
set_option maxRecDepth 20000 in
theorem gL_law_X7_now : GoodIn wsL_law (wsV RL 136 RX7 yX7_now wsX7_now) := goodIn_app (goodIn_of _ (by decide +kernel)) ggL_law_X7_now
set_option maxRecDepth 20000 in
theorem ggL_law_X6_speaker : GoodIn wsL_law wsX6_speaker := goodIn_r _ [494, 16, 495, 617, 618, 619, 620, 621, 622, 623, 651, 652, 653, 654, 655, 656, 657, 658] (by decide +kernel) (by decide +kernel)
set_option maxRecDepth 20000 in
theorem gL_law_X6_speaker : GoodIn wsL_law (wsV RL 137 RX6 yX6_speaker wsX6_speaker) := goodIn_app (goodIn_of _ (by decide +kernel)) ggL_law_X6_speaker
set_option maxRecDepth 20000 in
theorem ggL_law_X7_speaker : GoodIn wsL_law wsX7_speaker := goodIn_r _ [499, 110, 105, 624, 625, 626, 627, 628, 629, 630, 631, 632, 633, 634, 635, 636, 637, 638, 639, 640, 641, 642, 643, 644, 645, 646, 647, 648, 649, 650] (by decide +kernel) (by decide +kernel)
set_option maxRecDepth 20000 in
theorem gL_law_X7_speaker : GoodIn wsL_law (wsV RL 140 RX7 yX7_speaker wsX7_speaker) := goodIn_app (goodIn_of _ (by decide +kernel)) ggL_law_X7_speaker
set_option maxRecDepth 20000 in
theorem ggL_law_L_seen : GoodIn wsL_law wsL_seen := goodIn_ca (goodIn_r _ [502, 149, 503, 504, 505, 2, 506, 28, 388, 154, 155, 156, 157, 158, 159, 16, 160, 161, 162, 15, 163, 42, 375, 376, 377, 378, 24, 303, 379, 20, 250, 380, 381, 382, 27, 383, 56, 384, 385, 386, 387, 315, 251, 231, 232, 233, 55, 389, 227, 228, 229, 230, 390, 391, 392, 393, 394, 617, 618, 619, 620, 621, 622, 623, 669, 670, 651, 652, 653, 654, 655, 656, 657, 658, 666, 667, 668, 659, 660, 661, 662, 663, 664, 665] (by decide +kernel) (by decide +kernel)) (goodIn_sub (fun _ h => List.mem_append_left _ (List.mem_append_left _ (List.mem_append_right _ h))) (by decide +kernel))
set_option maxRecDepth 20000 in
theorem gL_law_L_seen : GoodIn wsL_law (va_wsS RL 141 yL_seen wsL_seen) := goodIn_app (goodIn_of _ (by decide +kernel)) ggL_law_L_seen
set_option maxRecDepth 20000 in
theorem ggL_law_X7_seen : GoodIn wsL_law wsX7_seen := goodIn_r _ [510, 110, 470, 197, 198, 199, 5, 200, 91, 201, 202, 203, 471, 472, 473, 474, 94, 208, 106, 238, 97, 98, 475, 476, 477, 478, 95, 108, 624, 625, 626, 627, 628, 629, 630, 631, 632, 633, 634, 635, 636, 637, 638, 639, 640, 641, 642, 643, 644, 645, 646, 647, 648, 649, 650] (by decide +kernel) (by decide +kernel)
set_option maxRecDepth 20000 in
theorem gL_law_X7_seen : GoodIn wsL_law (wsV RL 143 RX7 yX7_seen wsX7_seen) := goodIn_app (goodIn_of _ (by decide +kernel)) ggL_law_X7_seen
set_option maxRecDepth 20000 in
theorem ggL_law_L_seenAt : GoodIn wsL_law wsL_seenAt := goodIn_ca (goodIn_ca (goodIn_r _ [513, 149, 514, 515, 516, 517, 2, 518, 519, 520, 28, 388, 394, 154, 155, 156, 157, 158, 159, 16, 160, 161, 162, 15, 163, 42, 375, 376, 377, 378, 24, 303, 379, 20, 250, 380, 381, 382, 27, 383, 56, 384, 385, 386, 387, 315, 251, 231, 232, 233, 55, 389, 227, 228, 229, 230, 390, 391, 392, 393, 617, 618, 619, 620, 621, 622, 623, 669, 670, 651, 652, 653, 654, 655, 656, 657, 658, 666, 667, 668, 659, 660, 661, 662, 663, 664, 665] (by decide +kernel) (by decide +kernel)) (goodIn_sub (fun _ h => List.mem_append_right _ h) (by decide +kernel))) (goodIn_sub (fun _ h => List.mem_append_left _ (List.mem_append_left _ (List.mem_append_right _ h))) (by decide +kernel))
set_option maxRecDepth 20000 in
theorem gL_law_L_seenAt : GoodIn wsL_law (va_wsS RL 144 yL_seenAt wsL_seenAt) := goodIn_app (goodIn_of _ (by decide +kernel)) ggL_law_L_seenAt
set_option maxRecDepth 20000 in
theorem ggL_law_X7_seenAt : GoodIn wsL_law wsX7_seenAt := goodIn_r _ [524, 110, 470, 108, 197, 198, 199, 5, 200, 91, 201, 202, 203, 471, 472, 473, 474, 94, 208, 106, 238, 97, 98, 475, 476, 477, 478, 95, 525, 526, 527, 528, 624, 625, 626, 627, 628, 629, 630, 631, 632, 633, 634, 635, 636, 637, 638, 639, 640, 641, 642, 643, 644, 645, 646, 647, 648, 649, 650] (by decide +kernel) (by decide +kernel)
set_option maxRecDepth 20000 in
theorem gL_law_X7_seenAt : GoodIn wsL_law (wsV RL 146 RX7 yX7_seenAt wsX7_seenAt) := goodIn_app (goodIn_of _ (by decide +kernel)) ggL_law_X7_seenAt
set_option maxRecDepth 20000 in
theorem ggL_law_L_target : GoodIn wsL_law wsL_target := goodIn_ca (goodIn_r _ [531, 149, 532, 533, 534, 2, 535, 32, 28, 20, 24, 327, 374, 154, 155, 156, 157, 158, 159, 16, 160, 161, 162, 15, 163, 42, 375, 376, 377, 378, 303, 379, 250, 380, 381, 382, 27, 383, 56, 384, 385, 386, 387, 388, 315, 251, 231, 232, 233, 55, 389, 227, 228, 229, 230, 390, 391, 392, 393, 394, 395, 396, 397, 31, 398, 399, 400, 401, 402, 403, 404, 78, 77, 405, 406, 407, 408, 409, 410, 411, 412, 413, 414, 617, 618, 619, 620, 621, 622, 623, 666, 667, 668, 671, 672, 651, 652, 653, 654, 655, 656, 657, 658, 659, 660, 661, 662, 663, 664, 665, 669, 670] (by decide +kernel) (by decide +kernel)) (goodIn_sub (fun _ h => List.mem_append_left _ (List.mem_append_left _ (List.mem_append_right _ h))) (by decide +kernel))
set_option maxRecDepth 20000 in
theorem gL_law_L_target : GoodIn wsL_law (va_wsS RL 147 yL_target wsL_target) := goodIn_app (goodIn_of _ (by decide +kernel)) ggL_law_L_target
set_option maxRecDepth 20000 in
theorem ggL_law_X7_target : GoodIn wsL_law wsX7_target := goodIn_r _ [539, 540, 541, 542, 5, 543, 110, 109, 197, 198, 199, 200, 91, 201, 202, 203, 466, 467, 468, 469, 96, 470, 99, 108, 100, 471, 472, 473, 474, 94, 208, 106, 238, 97, 98, 475, 476, 477, 478, 95, 624, 625, 626, 627, 628, 629, 630, 631, 632, 633, 634, 635, 636, 637, 638, 639, 640, 641, 642, 643, 644, 645, 646, 647, 648, 649, 650] (by decide +kernel) (by decide +kernel)
set_option maxRecDepth 20000 in
theorem gL_law_X7_target : GoodIn wsL_law (wsV RL 149 RX7 yX7_target wsX7_target) := goodIn_app (goodIn_of _ (by decide +kernel)) ggL_law_X7_target
set_option maxRecDepth 20000 in
theorem ggL_law_L_targetBySteps : GoodIn wsL_law wsL_targetBySteps := goodIn_ca (goodIn_r _ [546, 149, 547, 548, 549, 2, 550, 32, 28, 20, 24, 327, 374, 154, 155, 156, 157, 158, 159, 16, 160, 161, 162, 15, 163, 42, 375, 376, 377, 378, 303, 379, 250, 380, 381, 382, 27, 383, 56, 384, 385, 386, 387, 388, 315, 251, 231, 232, 233, 55, 389, 227, 228, 229, 230, 390, 391, 392, 393, 394, 551, 552, 553, 31, 554, 401, 402, 403, 404, 78, 77, 555, 556, 557, 558, 399, 400, 405, 406, 407, 408, 409, 559, 560, 561, 562, 410, 411, 412, 413, 414, 617, 618, 619, 620, 621, 622, 623, 666, 667, 668, 671, 672, 651, 652, 653, 654, 655, 656, 657, 658, 659, 660, 661, 662, 663, 664, 665, 669, 670] (by decide +kernel) (by decide +kernel)) (goodIn_sub (fun _ h => List.mem_append_left _ (List.mem_append_left _ (List.mem_append_right _ h))) (by decide +kernel))
set_option maxRecDepth 20000 in
theorem gL_law_L_targetBySteps : GoodIn wsL_law (va_wsS RL 150 yL_targetBySteps wsL_targetBySteps) := goodIn_app (goodIn_of _ (by decide +kernel)) ggL_law_L_targetBySteps
set_option maxRecDepth 20000 in
theorem ggL_law_X7_targetBySteps : GoodIn wsL_law wsX7_targetBySteps := goodIn_r _ [566, 540, 541, 542, 5, 543, 110, 109, 197, 198, 199, 200, 91, 201, 202, 203, 466, 467, 468, 469, 96, 470, 99, 108, 100, 471, 472, 473, 474, 94, 208, 106, 238, 97, 98, 475, 476, 477, 478, 95, 624, 625, 626, 627, 628, 629, 630, 631, 632, 633, 634, 635, 636, 637, 638, 639, 640, 641, 642, 643, 644, 645, 646, 647, 648, 649, 650] (by decide +kernel) (by decide +kernel)
set_option maxRecDepth 20000 in
theorem gL_law_X7_targetBySteps : GoodIn wsL_law (wsV RL 152 RX7 yX7_targetBySteps wsX7_targetBySteps) := goodIn_app (goodIn_of _ (by decide +kernel)) ggL_law_X7_targetBySteps
set_option maxRecDepth 20000 in
theorem ggL_law_L_layer : GoodIn wsL_law wsL_layer := goodIn_ca (goodIn_r _ [569, 149, 570, 571, 572, 2, 573, 36, 574, 154, 155, 156, 157, 158, 159, 16, 160, 161, 162, 15, 163, 42, 617, 618, 619, 620, 621, 622, 623, 673, 674, 651, 652, 653, 654, 655, 656, 657, 658] (by decide +kernel) (by decide +kernel)) (goodIn_sub (fun _ h => List.mem_append_left _ (List.mem_append_left _ (List.mem_append_right _ h))) (by decide +kernel))
set_option maxRecDepth 20000 in
theorem gL_law_L_layer : GoodIn wsL_law (va_wsS RL 153 yL_layer wsL_layer) := goodIn_app (goodIn_of _ (by decide +kernel)) ggL_law_L_layer
set_option maxRecDepth 20000 in
theorem ggL_law_X7_layer : GoodIn wsL_law wsX7_layer := goodIn_r _ [578, 110, 104, 197, 198, 199, 5, 200, 91, 201, 202, 203, 525, 526, 527, 528, 624, 625, 626, 627, 628, 629, 630, 631, 632, 633, 634, 635, 636, 637, 638, 639, 640, 641, 642, 643, 644, 645, 646, 647, 648, 649, 650] (by decide +kernel) (by decide +kernel)
set_option maxRecDepth 20000 in
theorem gL_law_X7_layer : GoodIn wsL_law (wsV RL 155 RX7 yX7_layer wsX7_layer) := goodIn_app (goodIn_of _ (by decide +kernel)) ggL_law_X7_layer
set_option maxRecDepth 20000 in
theorem ggL_law_L_sent : GoodIn wsL_law wsL_sent := goodIn_ca (goodIn_r _ [581, 149, 582, 583, 584, 2, 585, 20, 36, 574, 154, 155, 156, 157, 158, 159, 16, 160, 161, 162, 15, 163, 42, 586, 587, 588, 19, 589, 60, 61, 617, 618, 619, 620, 621, 622, 623, 673, 674, 651, 652, 653, 654, 655, 656, 657, 658, 659, 660, 661, 662, 663, 664, 665] (by decide +kernel) (by decide +kernel)) (goodIn_sub (fun _ h => List.mem_append_left _ (List.mem_append_left _ (List.mem_append_right _ h))) (by decide +kernel))
set_option maxRecDepth 20000 in
theorem gL_law_L_sent : GoodIn wsL_law (va_wsS RL 156 yL_sent wsL_sent) := goodIn_app (goodIn_of _ (by decide +kernel)) ggL_law_L_sent
set_option maxRecDepth 20000 in
theorem ggL_law_X7_sent : GoodIn wsL_law wsX7_sent := goodIn_r _ [593, 110, 104, 99, 100, 197, 198, 199, 5, 200, 91, 201, 202, 203, 624, 625, 626, 627, 628, 629, 630, 631, 632, 633, 634, 635, 636, 637, 638, 639, 640, 641, 642, 643, 644, 645, 646, 647, 648, 649, 650] (by decide +kernel) (by decide +kernel)
set_option maxRecDepth 20000 in
theorem gL_law_X7_sent : GoodIn wsL_law (wsV RL 158 RX7 yX7_sent wsX7_sent) := goodIn_app (goodIn_of _ (by decide +kernel)) ggL_law_X7_sent
set_option maxRecDepth 20000 in
theorem ggL_law_L_keys : GoodIn wsL_law wsL_keys := goodIn_ca (goodIn_ca (goodIn_r _ [596, 149, 115, 597, 598, 599, 2, 600, 20, 601, 154, 155, 156, 157, 158, 159, 16, 160, 161, 162, 15, 163, 42, 246, 247, 248, 249, 120, 121, 250, 251, 231, 232, 27, 233, 56, 55, 617, 618, 619, 620, 621, 622, 623, 659, 660, 661, 662, 663, 664, 665, 651, 652, 653, 654, 655, 656, 657, 658, 669, 670] (by decide +kernel) (by decide +kernel)) (goodIn_sub (fun _ h => List.mem_append_left _ (List.mem_append_left _ (List.mem_append_right _ h))) (by decide +kernel))) (goodIn_sub (fun _ h => List.mem_append_left _ (List.mem_append_left _ (List.mem_append_left _ (List.mem_append_right _ h)))) (by decide +kernel))
set_option maxRecDepth 20000 in
theorem gL_law_L_keys : GoodIn wsL_law (va_wsS RL 159 yL_keys wsL_keys) := goodIn_app (goodIn_of _ (by decide +kernel)) ggL_law_L_keys
set_option maxRecDepth 20000 in
theorem ggL_law_X7_keys : GoodIn wsL_law wsX7_keys := goodIn_r _ [605, 110, 101, 256, 257, 258, 5, 259, 97, 197, 198, 199, 200, 91, 201, 202, 203, 624, 625, 626, 627, 628, 629, 630, 631, 632, 633, 634, 635, 636, 637, 638, 639, 640, 641, 642, 643, 644, 645, 646, 647, 648, 649, 650] (by decide +kernel) (by decide +kernel)
set_option maxRecDepth 20000 in
theorem gL_law_X7_keys : GoodIn wsL_law (wsV RL 161 RX7 yX7_keys wsX7_keys) := goodIn_app (goodIn_of _ (by decide +kernel)) ggL_law_X7_keys
set_option maxRecDepth 20000 in
theorem ggL_law_L_isAsked : GoodIn wsL_law wsL_isAsked := goodIn_ca (goodIn_ca (goodIn_r _ [608, 149, 115, 609, 610, 611, 2, 612, 20, 427, 154, 155, 156, 157, 158, 159, 16, 160, 161, 162, 15, 163, 42, 246, 247, 248, 249, 120, 121, 250, 251, 231, 232, 27, 233, 56, 55, 617, 618, 619, 620, 621, 622, 623, 659, 660, 661, 662, 663, 664, 665, 651, 652, 653, 654, 655, 656, 657, 658, 669, 670] (by decide +kernel) (by decide +kernel)) (goodIn_sub (fun _ h => List.mem_append_left _ (List.mem_append_left _ (List.mem_append_right _ h))) (by decide +kernel))) (goodIn_sub (fun _ h => List.mem_append_left _ (List.mem_append_left _ (List.mem_append_left _ (List.mem_append_right _ h)))) (by decide +kernel))
set_option maxRecDepth 20000 in
theorem gL_law_L_isAsked : GoodIn wsL_law (va_wsS RL 162 yL_isAsked wsL_isAsked) := goodIn_app (goodIn_of _ (by decide +kernel)) ggL_law_L_isAsked
set_option maxRecDepth 20000 in
theorem ggL_law_X7_isAsked : GoodIn wsL_law wsX7_isAsked := goodIn_r _ [616, 110, 103, 256, 257, 258, 5, 259, 97, 197, 198, 199, 200, 91, 201, 202, 203, 624, 625, 626, 627, 628, 629, 630, 631, 632, 633, 634, 635, 636, 637, 638, 639, 640, 641, 642, 643, 644, 645, 646, 647, 648, 649, 650] (by decide +kernel) (by decide +kernel)
set_option maxRecDepth 20000 in
theorem gL_law_X7_isAsked : GoodIn wsL_law (wsV RL 164 RX7 yX7_isAsked wsX7_isAsked) := goodIn_app (goodIn_of _ (by decide +kernel)) ggL_law_X7_isAsked
