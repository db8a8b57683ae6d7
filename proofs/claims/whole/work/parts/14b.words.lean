set_option maxRecDepth 20000 in
theorem ggL_law_X5_init : GoodIn wsL_law wsX5_init := goodIn_r _ [8, 9, 10, 11, 12, 13, 14, 15, 16, 17, 18, 19, 20, 21, 22, 23, 24, 25, 26, 27, 28, 29, 30, 31, 32, 33, 34, 35, 36, 37, 38, 39, 40, 41, 42, 43, 44, 45, 46, 47, 48, 49, 776, 777, 778, 779, 780, 781, 782, 783, 734, 735, 736, 737, 738, 739, 740, 741, 784, 785, 786, 787, 788] (by decide +kernel) (by decide +kernel)
set_option maxRecDepth 20000 in
theorem gL_law_X5_init : GoodIn wsL_law (wsX5_init) := ggL_law_X5_init
set_option maxRecDepth 20000 in
theorem ggL_law_X6_init : GoodIn wsL_law wsX6_init := goodIn_r _ [52, 53, 10, 11, 47, 54, 55, 56, 57, 58, 59, 60, 61, 62, 63, 64, 65, 66, 67, 68, 69, 70, 71, 5, 72, 742, 743, 744, 745, 746, 747, 748, 749, 750, 751, 752, 753, 754, 755, 756, 757, 758, 759, 760, 761, 762, 763, 764, 765, 766, 767, 768, 769, 770, 771, 772, 773, 774, 775] (by decide +kernel) (by decide +kernel)
set_option maxRecDepth 20000 in
theorem gL_law_X6_init : GoodIn wsL_law (wsX6_init) := ggL_law_X6_init
set_option maxRecDepth 20000 in
theorem ggL_law_X5_configure : GoodIn wsL_law wsX5_configure := goodIn_r _ [76, 15, 77, 78, 79, 2, 80, 81, 17, 82, 83, 84, 85, 86, 87, 88, 89, 14, 90, 30, 31, 32, 33, 34, 35, 36, 37, 26, 27, 28, 29, 38, 39, 40, 41, 91, 92, 93, 94, 734, 735, 736, 737, 738, 739, 740, 741, 776, 777, 778, 779, 780, 781, 782, 783] (by decide +kernel) (by decide +kernel)
set_option maxRecDepth 20000 in
theorem gL_law_X5_configure : GoodIn wsL_law (wsV RL 13 RX5 yX5_configure wsX5_configure) := goodIn_app (goodIn_of _ (by decide +kernel)) ggL_law_X5_configure
set_option maxRecDepth 20000 in
theorem ggL_law_X6_configure : GoodIn wsL_law wsX6_configure := goodIn_r _ [98, 99, 100, 101, 5, 102, 103, 104, 105, 106, 107, 55, 54, 108, 69, 70, 71, 72, 109, 110, 111, 112, 742, 743, 744, 745, 746, 747, 748, 749, 750, 751, 752, 753, 754, 755, 756, 757, 758, 759, 760, 761, 762, 763, 764, 765, 766, 767, 768, 769, 770, 771, 772, 773, 774, 775] (by decide +kernel) (by decide +kernel)
set_option maxRecDepth 20000 in
theorem gL_law_X6_configure : GoodIn wsL_law (wsV RL 17 RX6 yX6_configure wsX6_configure) := goodIn_app (goodIn_of _ (by decide +kernel)) ggL_law_X6_configure
set_option maxRecDepth 20000 in
theorem ggL_law_X5_nameCount : GoodIn wsL_law wsX5_nameCount := goodIn_r _ [116, 15, 91, 92, 93, 14, 94, 30, 734, 735, 736, 737, 738, 739, 740, 741, 776, 777, 778, 779, 780, 781, 782, 783] (by decide +kernel) (by decide +kernel)
set_option maxRecDepth 20000 in
theorem gL_law_X5_nameCount : GoodIn wsL_law (wsV RL 18 RX5 yX5_nameCount wsX5_nameCount) := goodIn_app (goodIn_of _ (by decide +kernel)) ggL_law_X5_nameCount
set_option maxRecDepth 20000 in
theorem ggL_law_X6_nameCount : GoodIn wsL_law wsX6_nameCount := goodIn_r _ [120, 99, 109, 110, 111, 5, 112, 54, 742, 743, 744, 745, 746, 747, 748, 749, 750, 751, 752, 753, 754, 755, 756, 757, 758, 759, 760, 761, 762, 763, 764, 765, 766, 767, 768, 769, 770, 771, 772, 773, 774, 775] (by decide +kernel) (by decide +kernel)
set_option maxRecDepth 20000 in
theorem gL_law_X6_nameCount : GoodIn wsL_law (wsV RL 22 RX6 yX6_nameCount wsX6_nameCount) := goodIn_app (goodIn_of _ (by decide +kernel)) ggL_law_X6_nameCount
set_option maxRecDepth 20000 in
theorem ggL_law_X5_processCount : GoodIn wsL_law wsX5_processCount := goodIn_r _ [124, 15, 734, 735, 736, 737, 738, 739, 740, 741, 776, 777, 778, 779, 780, 781, 782, 783] (by decide +kernel) (by decide +kernel)
set_option maxRecDepth 20000 in
theorem gL_law_X5_processCount : GoodIn wsL_law (wsV RL 23 RX5 yX5_processCount wsX5_processCount) := goodIn_app (goodIn_of _ (by decide +kernel)) ggL_law_X5_processCount
set_option maxRecDepth 20000 in
theorem ggL_law_X6_processCount : GoodIn wsL_law wsX6_processCount := goodIn_r _ [128, 99, 54, 742, 743, 744, 745, 746, 747, 748, 749, 750, 751, 752, 753, 754, 755, 756, 757, 758, 759, 760, 761, 762, 763, 764, 765, 766, 767, 768, 769, 770, 771, 772, 773, 774, 775] (by decide +kernel) (by decide +kernel)
set_option maxRecDepth 20000 in
theorem gL_law_X6_processCount : GoodIn wsL_law (wsV RL 26 RX6 yX6_processCount wsX6_processCount) := goodIn_app (goodIn_of _ (by decide +kernel)) ggL_law_X6_processCount
set_option maxRecDepth 20000 in
theorem ggL_law_X5_step : GoodIn wsL_law wsX5_step := goodIn_r _ [132, 15, 133, 134, 135, 14, 136, 31, 137, 138, 139, 140, 33, 141, 142, 143, 144, 77, 78, 79, 2, 80, 81, 17, 82, 83, 84, 85, 86, 87, 88, 89, 90, 30, 32, 34, 35, 36, 37, 145, 146, 147, 148, 149, 150, 151, 152, 153, 154, 155, 156, 157, 158, 159, 160, 161, 162, 163, 164, 165, 166, 167, 168, 169, 170, 171, 172, 173, 174, 175, 176, 177, 178, 179, 180, 181, 182, 183, 184, 185, 186, 187, 188, 38, 39, 40, 41, 189, 190, 191, 192, 193, 194, 734, 735, 736, 737, 738, 739, 740, 741, 776, 777, 778, 779, 780, 781, 782, 783] (by decide +kernel) (by decide +kernel)
set_option maxRecDepth 20000 in
theorem gL_law_X5_step : GoodIn wsL_law (wsV RL 27 RX5 yX5_step wsX5_step) := goodIn_app (goodIn_of _ (by decide +kernel)) ggL_law_X5_step
set_option maxRecDepth 20000 in
theorem ggL_law_X6_step : GoodIn wsL_law wsX6_step := goodIn_r _ [198, 99, 199, 200, 201, 5, 202, 54, 100, 101, 102, 203, 204, 205, 206, 207, 208, 209, 210, 211, 212, 103, 104, 105, 106, 107, 55, 108, 213, 214, 215, 216, 217, 218, 219, 220, 221, 222, 223, 224, 225, 226, 227, 228, 229, 230, 231, 232, 233, 234, 235, 236, 237, 238, 239, 240, 241, 242, 243, 244, 245, 246, 247, 248, 249, 250, 251, 252, 253, 254, 255, 256, 257, 258, 259, 260, 261, 742, 743, 744, 745, 746, 747, 748, 749, 750, 751, 752, 753, 754, 755, 756, 757, 758, 759, 760, 761, 762, 763, 764, 765, 766, 767, 768, 769, 770, 771, 772, 773, 774, 775] (by decide +kernel) (by decide +kernel)
set_option maxRecDepth 20000 in
theorem gL_law_X6_step : GoodIn wsL_law (wsV RL 31 RX6 yX6_step wsX6_step) := goodIn_app (goodIn_of _ (by decide +kernel)) ggL_law_X6_step
set_option maxRecDepth 20000 in
theorem ggL_law_X5_crash : GoodIn wsL_law wsX5_crash := goodIn_r _ [265, 15, 133, 134, 135, 14, 136, 31, 137, 138, 139, 140, 33, 141, 142, 143, 144, 77, 78, 79, 2, 80, 81, 17, 82, 83, 84, 85, 86, 87, 88, 89, 90, 30, 32, 34, 35, 36, 37, 266, 267, 268, 269, 270, 187, 188, 161, 162, 271, 272, 273, 274, 275, 734, 735, 736, 737, 738, 739, 740, 741, 776, 777, 778, 779, 780, 781, 782, 783] (by decide +kernel) (by decide +kernel)
set_option maxRecDepth 20000 in
theorem gL_law_X5_crash : GoodIn wsL_law (wsV RL 32 RX5 yX5_crash wsX5_crash) := goodIn_app (goodIn_of _ (by decide +kernel)) ggL_law_X5_crash
set_option maxRecDepth 20000 in
theorem ggL_law_X6_crash : GoodIn wsL_law wsX6_crash := goodIn_r _ [279, 99, 54, 208, 199, 200, 201, 5, 202, 100, 101, 102, 203, 204, 205, 206, 207, 209, 210, 211, 212, 103, 104, 105, 106, 107, 55, 108, 223, 224, 225, 226, 227, 228, 229, 230, 235, 236, 237, 238, 280, 281, 282, 283, 742, 743, 744, 745, 746, 747, 748, 749, 750, 751, 752, 753, 754, 755, 756, 757, 758, 759, 760, 761, 762, 763, 764, 765, 766, 767, 768, 769, 770, 771, 772, 773, 774, 775] (by decide +kernel) (by decide +kernel)
set_option maxRecDepth 20000 in
theorem gL_law_X6_crash : GoodIn wsL_law (wsV RL 35 RX6 yX6_crash wsX6_crash) := goodIn_app (goodIn_of _ (by decide +kernel)) ggL_law_X6_crash
set_option maxRecDepth 20000 in
theorem ggL_law_X5_append : GoodIn wsL_law wsX5_append := goodIn_r _ [287, 22, 288, 289, 290, 21, 291, 292, 46, 293, 294, 295, 296, 297, 734, 735, 736, 737, 738, 739, 740, 741, 784, 785, 786, 787, 788] (by decide +kernel) (by decide +kernel)
set_option maxRecDepth 20000 in
theorem gL_law_X5_append : GoodIn wsL_law (wsV RL 36 RX5 yX5_append wsX5_append) := goodIn_app (goodIn_of _ (by decide +kernel)) ggL_law_X5_append
set_option maxRecDepth 20000 in
theorem ggL_law_X6_append : GoodIn wsL_law wsX6_append := goodIn_r _ [301, 99, 302, 59, 100, 101, 5, 102, 742, 743, 744, 745, 746, 747, 748, 749, 750, 751, 752, 753, 754, 755, 756, 757, 758, 759, 760, 761, 762, 763, 764, 765, 766, 767, 768, 769, 770, 771, 772, 773, 774, 775] (by decide +kernel) (by decide +kernel)
set_option maxRecDepth 20000 in
theorem gL_law_X6_append : GoodIn wsL_law (wsV RL 39 RX6 yX6_append wsX6_append) := goodIn_app (goodIn_of _ (by decide +kernel)) ggL_law_X6_append
set_option maxRecDepth 20000 in
theorem ggL_law_X5_clearText : GoodIn wsL_law wsX5_clearText := goodIn_r _ [306, 22, 307, 308, 309, 21, 310, 292, 734, 735, 736, 737, 738, 739, 740, 741, 784, 785, 786, 787, 788] (by decide +kernel) (by decide +kernel)
set_option maxRecDepth 20000 in
theorem gL_law_X5_clearText : GoodIn wsL_law (wsV RL 40 RX5 yX5_clearText wsX5_clearText) := goodIn_app (goodIn_of _ (by decide +kernel)) ggL_law_X5_clearText
set_option maxRecDepth 20000 in
theorem ggL_law_X6_clearText : GoodIn wsL_law wsX6_clearText := goodIn_r _ [314, 99, 302, 742, 743, 744, 745, 746, 747, 748, 749, 750, 751, 752, 753, 754, 755, 756, 757, 758, 759, 760, 761, 762, 763, 764, 765, 766, 767, 768, 769, 770, 771, 772, 773, 774, 775] (by decide +kernel) (by decide +kernel)
set_option maxRecDepth 20000 in
theorem gL_law_X6_clearText : GoodIn wsL_law (wsV RL 43 RX6 yX6_clearText wsX6_clearText) := goodIn_app (goodIn_of _ (by decide +kernel)) ggL_law_X6_clearText
set_option maxRecDepth 20000 in
theorem ggL_law_X5_runText : GoodIn wsL_law wsX5_runText := goodIn_r _ [318, 22, 15, 319, 320, 321, 21, 322, 323, 292, 324, 325, 326, 327, 328, 329, 330, 331, 332, 333, 334, 335, 46, 336, 337, 338, 339, 340, 341, 342, 343, 344, 345, 346, 347, 48, 49, 348, 349, 350, 351, 77, 78, 79, 2, 80, 81, 17, 82, 83, 84, 85, 86, 87, 88, 89, 14, 90, 30, 31, 32, 33, 34, 35, 36, 37, 352, 353, 354, 355, 356, 357, 358, 359, 275, 138, 139, 140, 141, 142, 143, 144, 360, 146, 147, 148, 149, 150, 151, 152, 153, 154, 155, 156, 157, 158, 159, 160, 161, 162, 163, 164, 165, 166, 167, 168, 169, 170, 171, 172, 173, 174, 175, 176, 177, 178, 179, 180, 181, 182, 183, 184, 185, 186, 187, 188, 38, 39, 40, 41, 189, 190, 191, 192, 193, 194, 307, 308, 309, 310, 734, 735, 736, 737, 738, 739, 740, 741, 776, 777, 778, 779, 780, 781, 782, 783, 784, 785, 786, 787, 788] (by decide +kernel) (by decide +kernel)
set_option maxRecDepth 20000 in
theorem gL_law_X5_runText : GoodIn wsL_law (wsV RL 44 RX5 yX5_runText wsX5_runText) := goodIn_app (goodIn_of _ (by decide +kernel)) ggL_law_X5_runText
set_option maxRecDepth 20000 in
theorem ggL_law_X6_runText : GoodIn wsL_law wsX6_runText := goodIn_r _ [364, 99, 365, 302, 366, 367, 368, 5, 369, 370, 371, 372, 373, 374, 375, 376, 377, 59, 378, 379, 380, 381, 100, 101, 102, 199, 200, 201, 202, 54, 382, 383, 384, 385, 386, 387, 388, 389, 390, 391, 392, 393, 203, 204, 205, 206, 207, 208, 209, 210, 211, 212, 213, 214, 215, 216, 217, 218, 219, 220, 221, 222, 223, 224, 225, 226, 227, 228, 229, 230, 231, 232, 233, 234, 235, 236, 237, 238, 239, 240, 241, 242, 243, 244, 245, 246, 247, 248, 249, 250, 251, 252, 253, 254, 255, 256, 257, 258, 259, 260, 261, 103, 104, 105, 106, 107, 55, 108, 742, 743, 744, 745, 746, 747, 748, 749, 750, 751, 752, 753, 754, 755, 756, 757, 758, 759, 760, 761, 762, 763, 764, 765, 766, 767, 768, 769, 770, 771, 772, 773, 774, 775] (by decide +kernel) (by decide +kernel)
set_option maxRecDepth 20000 in
theorem gL_law_X6_runText : GoodIn wsL_law (wsV RL 47 RX6 yX6_runText wsX6_runText) := goodIn_app (goodIn_of _ (by decide +kernel)) ggL_law_X6_runText
set_option maxRecDepth 20000 in
theorem ggL_law_X5_status : GoodIn wsL_law wsX5_status := goodIn_r _ [397, 15, 133, 134, 135, 14, 136, 31, 398, 142, 143, 144, 734, 735, 736, 737, 738, 739, 740, 741, 776, 777, 778, 779, 780, 781, 782, 783] (by decide +kernel) (by decide +kernel)
set_option maxRecDepth 20000 in
theorem gL_law_X5_status : GoodIn wsL_law (wsV RL 48 RX5 yX5_status wsX5_status) := goodIn_app (goodIn_of _ (by decide +kernel)) ggL_law_X5_status
set_option maxRecDepth 20000 in
theorem ggL_law_X6_status : GoodIn wsL_law wsX6_status := goodIn_r _ [402, 99, 203, 204, 205, 5, 206, 54, 207, 208, 199, 200, 201, 202, 100, 101, 102, 209, 210, 211, 212, 742, 743, 744, 745, 746, 747, 748, 749, 750, 751, 752, 753, 754, 755, 756, 757, 758, 759, 760, 761, 762, 763, 764, 765, 766, 767, 768, 769, 770, 771, 772, 773, 774, 775] (by decide +kernel) (by decide +kernel)
set_option maxRecDepth 20000 in
theorem gL_law_X6_status : GoodIn wsL_law (wsV RL 51 RX6 yX6_status wsX6_status) := goodIn_app (goodIn_of _ (by decide +kernel)) ggL_law_X6_status
set_option maxRecDepth 20000 in
theorem ggL_law_X5_splitterOf : GoodIn wsL_law wsX5_splitterOf := goodIn_r _ [406, 15, 133, 134, 135, 14, 136, 31, 398, 142, 143, 144, 407, 153, 154, 734, 735, 736, 737, 738, 739, 740, 741, 776, 777, 778, 779, 780, 781, 782, 783] (by decide +kernel) (by decide +kernel)
set_option maxRecDepth 20000 in
theorem gL_law_X5_splitterOf : GoodIn wsL_law (wsV RL 52 RX5 yX5_splitterOf wsX5_splitterOf) := goodIn_app (goodIn_of _ (by decide +kernel)) ggL_law_X5_splitterOf
set_option maxRecDepth 20000 in
theorem ggL_law_X6_splitterOf : GoodIn wsL_law wsX6_splitterOf := goodIn_r _ [411, 99, 199, 200, 201, 5, 202, 54, 100, 101, 102, 203, 204, 205, 206, 207, 208, 223, 224, 225, 226, 742, 743, 744, 745, 746, 747, 748, 749, 750, 751, 752, 753, 754, 755, 756, 757, 758, 759, 760, 761, 762, 763, 764, 765, 766, 767, 768, 769, 770, 771, 772, 773, 774, 775] (by decide +kernel) (by decide +kernel)
set_option maxRecDepth 20000 in
theorem gL_law_X6_splitterOf : GoodIn wsL_law (wsV RL 55 RX6 yX6_splitterOf wsX6_splitterOf) := goodIn_app (goodIn_of _ (by decide +kernel)) ggL_law_X6_splitterOf
set_option maxRecDepth 20000 in
theorem ggL_law_X5_phaseOf : GoodIn wsL_law wsX5_phaseOf := goodIn_r _ [415, 15, 133, 134, 135, 14, 136, 31, 398, 142, 143, 144, 416, 156, 157, 734, 735, 736, 737, 738, 739, 740, 741, 776, 777, 778, 779, 780, 781, 782, 783] (by decide +kernel) (by decide +kernel)
set_option maxRecDepth 20000 in
theorem gL_law_X5_phaseOf : GoodIn wsL_law (wsV RL 56 RX5 yX5_phaseOf wsX5_phaseOf) := goodIn_app (goodIn_of _ (by decide +kernel)) ggL_law_X5_phaseOf
set_option maxRecDepth 20000 in
theorem ggL_law_X6_phaseOf : GoodIn wsL_law wsX6_phaseOf := goodIn_r _ [420, 99, 199, 200, 201, 5, 202, 54, 100, 101, 102, 203, 204, 205, 206, 207, 208, 223, 224, 225, 226, 227, 228, 229, 230, 742, 743, 744, 745, 746, 747, 748, 749, 750, 751, 752, 753, 754, 755, 756, 757, 758, 759, 760, 761, 762, 763, 764, 765, 766, 767, 768, 769, 770, 771, 772, 773, 774, 775] (by decide +kernel) (by decide +kernel)
set_option maxRecDepth 20000 in
theorem gL_law_X6_phaseOf : GoodIn wsL_law (wsV RL 59 RX6 yX6_phaseOf wsX6_phaseOf) := goodIn_app (goodIn_of _ (by decide +kernel)) ggL_law_X6_phaseOf
set_option maxRecDepth 20000 in
theorem ggL_law_X5_stepsOf : GoodIn wsL_law wsX5_stepsOf := goodIn_r _ [424, 15, 133, 134, 135, 14, 136, 31, 425, 426, 40, 427, 734, 735, 736, 737, 738, 739, 740, 741, 776, 777, 778, 779, 780, 781, 782, 783] (by decide +kernel) (by decide +kernel)
set_option maxRecDepth 20000 in
theorem gL_law_X5_stepsOf : GoodIn wsL_law (wsV RL 60 RX5 yX5_stepsOf wsX5_stepsOf) := goodIn_app (goodIn_of _ (by decide +kernel)) ggL_law_X5_stepsOf
set_option maxRecDepth 20000 in
theorem ggL_law_X6_stepsOf : GoodIn wsL_law wsX6_stepsOf := goodIn_r _ [431, 99, 54, 199, 200, 201, 5, 202, 100, 101, 102, 742, 743, 744, 745, 746, 747, 748, 749, 750, 751, 752, 753, 754, 755, 756, 757, 758, 759, 760, 761, 762, 763, 764, 765, 766, 767, 768, 769, 770, 771, 772, 773, 774, 775] (by decide +kernel) (by decide +kernel)
set_option maxRecDepth 20000 in
theorem gL_law_X6_stepsOf : GoodIn wsL_law (wsV RL 63 RX6 yX6_stepsOf wsX6_stepsOf) := goodIn_app (goodIn_of _ (by decide +kernel)) ggL_law_X6_stepsOf
set_option maxRecDepth 20000 in
theorem ggL_law_X5_soloSteps : GoodIn wsL_law wsX5_soloSteps := goodIn_r _ [435, 15, 16, 133, 134, 135, 14, 136, 31, 87, 88, 89, 90, 30, 32, 33, 34, 35, 36, 37, 436, 357, 358, 359, 275, 138, 139, 140, 141, 142, 143, 144, 360, 146, 147, 148, 149, 150, 151, 152, 153, 154, 155, 156, 157, 158, 159, 160, 161, 162, 163, 164, 165, 166, 167, 168, 169, 170, 171, 172, 173, 174, 175, 176, 177, 178, 179, 180, 181, 182, 183, 184, 185, 186, 187, 188, 38, 39, 40, 41, 189, 190, 191, 192, 193, 194, 734, 735, 736, 737, 738, 739, 740, 741, 776, 777, 778, 779, 780, 781, 782, 783] (by decide +kernel) (by decide +kernel)
set_option maxRecDepth 20000 in
theorem gL_law_X5_soloSteps : GoodIn wsL_law (wsV RL 64 RX5 yX5_soloSteps wsX5_soloSteps) := goodIn_app (goodIn_of _ (by decide +kernel)) ggL_law_X5_soloSteps
set_option maxRecDepth 20000 in
theorem ggL_law_X6_soloSteps : GoodIn wsL_law wsX6_soloSteps := goodIn_r _ [440, 99, 199, 200, 201, 5, 202, 54, 100, 101, 102, 441, 442, 443, 444, 203, 204, 205, 206, 207, 208, 209, 210, 211, 212, 219, 220, 221, 222, 217, 223, 224, 225, 226, 227, 228, 229, 230, 231, 232, 233, 234, 235, 236, 237, 238, 239, 240, 241, 242, 243, 244, 245, 246, 218, 247, 248, 249, 250, 251, 252, 253, 254, 255, 256, 257, 258, 259, 260, 261, 742, 743, 744, 745, 746, 747, 748, 749, 750, 751, 752, 753, 754, 755, 756, 757, 758, 759, 760, 761, 762, 763, 764, 765, 766, 767, 768, 769, 770, 771, 772, 773, 774, 775] (by decide +kernel) (by decide +kernel)
set_option maxRecDepth 20000 in
theorem gL_law_X6_soloSteps : GoodIn wsL_law (wsV RL 67 RX6 yX6_soloSteps wsX6_soloSteps) := goodIn_app (goodIn_of _ (by decide +kernel)) ggL_law_X6_soloSteps
set_option maxRecDepth 20000 in
theorem ggL_law_X5_soloName : GoodIn wsL_law wsX5_soloName := goodIn_r _ [448, 15, 16, 133, 134, 135, 14, 136, 31, 87, 88, 89, 90, 30, 32, 33, 34, 35, 36, 37, 436, 357, 358, 359, 275, 138, 139, 140, 141, 142, 143, 144, 360, 146, 147, 148, 149, 150, 151, 152, 153, 154, 155, 156, 157, 158, 159, 160, 161, 162, 163, 164, 165, 166, 167, 168, 169, 170, 171, 172, 173, 174, 175, 176, 177, 178, 179, 180, 181, 182, 183, 184, 185, 186, 187, 188, 38, 39, 40, 41, 189, 190, 191, 192, 193, 194, 449, 450, 451, 452, 734, 735, 736, 737, 738, 739, 740, 741, 776, 777, 778, 779, 780, 781, 782, 783] (by decide +kernel) (by decide +kernel)
set_option maxRecDepth 20000 in
theorem gL_law_X5_soloName : GoodIn wsL_law (wsV RL 68 RX5 yX5_soloName wsX5_soloName) := goodIn_app (goodIn_of _ (by decide +kernel)) ggL_law_X5_soloName
set_option maxRecDepth 20000 in
theorem ggL_law_X6_soloName : GoodIn wsL_law wsX6_soloName := goodIn_r _ [456, 99, 199, 200, 201, 5, 202, 54, 100, 101, 102, 441, 442, 443, 444, 203, 204, 205, 206, 207, 208, 209, 210, 211, 212, 219, 220, 221, 222, 217, 223, 224, 225, 226, 227, 228, 229, 230, 231, 232, 233, 234, 235, 236, 237, 238, 239, 240, 241, 242, 243, 244, 245, 246, 218, 247, 248, 249, 250, 251, 252, 253, 254, 255, 256, 257, 258, 259, 260, 261, 742, 743, 744, 745, 746, 747, 748, 749, 750, 751, 752, 753, 754, 755, 756, 757, 758, 759, 760, 761, 762, 763, 764, 765, 766, 767, 768, 769, 770, 771, 772, 773, 774, 775] (by decide +kernel) (by decide +kernel)
set_option maxRecDepth 20000 in
theorem gL_law_X6_soloName : GoodIn wsL_law (wsV RL 71 RX6 yX6_soloName wsX6_soloName) := goodIn_app (goodIn_of _ (by decide +kernel)) ggL_law_X6_soloName
