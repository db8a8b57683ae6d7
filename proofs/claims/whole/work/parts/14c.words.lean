set_option maxRecDepth 20000 in
theorem ggL_law_X5_owner : GoodIn wsL_law wsX5_owner := goodIn_r _ [460, 15, 461, 462, 463, 14, 464, 465, 92, 93, 94, 30, 466, 181, 143, 182, 163, 164, 165, 734, 735, 736, 737, 738, 739, 740, 741, 776, 777, 778, 779, 780, 781, 782, 783] (by decide +kernel) (by decide +kernel)
set_option maxRecDepth 20000 in
theorem gL_law_X5_owner : GoodIn wsL_law (wsV RL 72 RX5 yX5_owner wsX5_owner) := goodIn_app (goodIn_of _ (by decide +kernel)) ggL_law_X5_owner
set_option maxRecDepth 20000 in
theorem ggL_law_X6_owner : GoodIn wsL_law wsX6_owner := goodIn_r _ [470, 99, 471, 472, 473, 5, 474, 109, 110, 111, 112, 54, 100, 101, 102, 203, 204, 205, 206, 207, 208, 250, 251, 252, 253, 742, 743, 744, 745, 746, 747, 748, 749, 750, 751, 752, 753, 754, 755, 756, 757, 758, 759, 760, 761, 762, 763, 764, 765, 766, 767, 768, 769, 770, 771, 772, 773, 774, 775] (by decide +kernel) (by decide +kernel)
set_option maxRecDepth 20000 in
theorem gL_law_X6_owner : GoodIn wsL_law (wsV RL 75 RX6 yX6_owner wsX6_owner) := goodIn_app (goodIn_of _ (by decide +kernel)) ggL_law_X6_owner
set_option maxRecDepth 20000 in
theorem ggL_law_X5_door : GoodIn wsL_law wsX5_door := goodIn_r _ [478, 15, 461, 462, 463, 14, 464, 465, 92, 93, 94, 30, 479, 170, 143, 171, 163, 164, 165, 734, 735, 736, 737, 738, 739, 740, 741, 776, 777, 778, 779, 780, 781, 782, 783] (by decide +kernel) (by decide +kernel)
set_option maxRecDepth 20000 in
theorem gL_law_X5_door : GoodIn wsL_law (wsV RL 76 RX5 yX5_door wsX5_door) := goodIn_app (goodIn_of _ (by decide +kernel)) ggL_law_X5_door
set_option maxRecDepth 20000 in
theorem ggL_law_X6_door : GoodIn wsL_law wsX6_door := goodIn_r _ [483, 99, 203, 204, 205, 5, 206, 54, 207, 208, 471, 472, 473, 474, 109, 110, 111, 112, 100, 101, 102, 239, 240, 241, 242, 742, 743, 744, 745, 746, 747, 748, 749, 750, 751, 752, 753, 754, 755, 756, 757, 758, 759, 760, 761, 762, 763, 764, 765, 766, 767, 768, 769, 770, 771, 772, 773, 774, 775] (by decide +kernel) (by decide +kernel)
set_option maxRecDepth 20000 in
theorem gL_law_X6_door : GoodIn wsL_law (wsV RL 79 RX6 yX6_door wsX6_door) := goodIn_app (goodIn_of _ (by decide +kernel)) ggL_law_X6_door
set_option maxRecDepth 20000 in
theorem ggL_law_X5_entered : GoodIn wsL_law wsX5_entered := goodIn_r _ [487, 15, 461, 462, 463, 14, 464, 465, 92, 93, 94, 30, 425, 426, 40, 427, 734, 735, 736, 737, 738, 739, 740, 741, 776, 777, 778, 779, 780, 781, 782, 783] (by decide +kernel) (by decide +kernel)
set_option maxRecDepth 20000 in
theorem gL_law_X5_entered : GoodIn wsL_law (wsV RL 80 RX5 yX5_entered wsX5_entered) := goodIn_app (goodIn_of _ (by decide +kernel)) ggL_law_X5_entered
set_option maxRecDepth 20000 in
theorem ggL_law_X6_entered : GoodIn wsL_law wsX6_entered := goodIn_r _ [491, 99, 54, 471, 472, 473, 5, 474, 109, 110, 111, 112, 100, 101, 102, 742, 743, 744, 745, 746, 747, 748, 749, 750, 751, 752, 753, 754, 755, 756, 757, 758, 759, 760, 761, 762, 763, 764, 765, 766, 767, 768, 769, 770, 771, 772, 773, 774, 775] (by decide +kernel) (by decide +kernel)
set_option maxRecDepth 20000 in
theorem gL_law_X6_entered : GoodIn wsL_law (wsV RL 83 RX6 yX6_entered wsX6_entered) := goodIn_app (goodIn_of _ (by decide +kernel)) ggL_law_X6_entered
set_option maxRecDepth 20000 in
theorem ggL_law_X5_left : GoodIn wsL_law wsX5_left := goodIn_r _ [495, 15, 461, 462, 463, 14, 464, 465, 92, 93, 94, 30, 425, 426, 40, 427, 734, 735, 736, 737, 738, 739, 740, 741, 776, 777, 778, 779, 780, 781, 782, 783] (by decide +kernel) (by decide +kernel)
set_option maxRecDepth 20000 in
theorem gL_law_X5_left : GoodIn wsL_law (wsV RL 84 RX5 yX5_left wsX5_left) := goodIn_app (goodIn_of _ (by decide +kernel)) ggL_law_X5_left
set_option maxRecDepth 20000 in
theorem ggL_law_X6_left : GoodIn wsL_law wsX6_left := goodIn_r _ [499, 99, 54, 471, 472, 473, 5, 474, 109, 110, 111, 112, 100, 101, 102, 742, 743, 744, 745, 746, 747, 748, 749, 750, 751, 752, 753, 754, 755, 756, 757, 758, 759, 760, 761, 762, 763, 764, 765, 766, 767, 768, 769, 770, 771, 772, 773, 774, 775] (by decide +kernel) (by decide +kernel)
set_option maxRecDepth 20000 in
theorem gL_law_X6_left : GoodIn wsL_law (wsV RL 88 RX6 yX6_left wsX6_left) := goodIn_app (goodIn_of _ (by decide +kernel)) ggL_law_X6_left
set_option maxRecDepth 20000 in
theorem ggL_law_X5_explore : GoodIn wsL_law wsX5_explore := goodIn_r _ [503, 82, 504, 505, 506, 507, 15, 508, 509, 510, 10, 11, 511, 512, 47, 513, 514, 515, 516, 517, 518, 519, 520, 521, 522, 523, 524, 525, 526, 527, 528, 529, 530, 531, 532, 533, 534, 535, 536, 537, 538, 539, 540, 541, 542, 543, 544, 142, 143, 144, 545, 150, 151, 152, 153, 154, 155, 156, 157, 158, 159, 160, 161, 162, 163, 164, 165, 166, 167, 168, 169, 170, 171, 172, 173, 174, 175, 176, 177, 178, 179, 180, 181, 182, 183, 184, 185, 186, 187, 188, 734, 735, 736, 737, 738, 739, 740, 741, 789, 790, 791, 792, 793, 794, 795, 776, 777, 778, 779, 780, 781, 782, 783] (by decide +kernel) (by decide +kernel)
set_option maxRecDepth 20000 in
theorem gL_law_X5_explore : GoodIn wsL_law (wsV RL 89 RX5 yX5_explore wsX5_explore) := goodIn_app (goodIn_of _ (by decide +kernel)) ggL_law_X5_explore
set_option maxRecDepth 20000 in
theorem ggL_law_X6_explore : GoodIn wsL_law wsX6_explore := goodIn_r _ [549, 99, 550, 108, 551, 552, 553, 554, 555, 556, 68, 66, 557, 558, 559, 5, 560, 65, 54, 60, 207, 61, 208, 203, 204, 205, 206, 561, 562, 563, 564, 565, 62, 63, 64, 209, 210, 211, 212, 219, 220, 221, 222, 217, 223, 224, 225, 226, 227, 228, 229, 230, 231, 232, 233, 234, 235, 236, 237, 238, 239, 240, 241, 242, 243, 244, 245, 246, 218, 247, 248, 249, 250, 251, 252, 253, 254, 255, 256, 257, 258, 259, 260, 261, 566, 567, 568, 569, 570, 571, 572, 573, 574, 575, 576, 577, 578, 579, 580, 581, 582, 583, 584, 585, 67, 742, 743, 744, 745, 746, 747, 748, 749, 750, 751, 752, 753, 754, 755, 756, 757, 758, 759, 760, 761, 762, 763, 764, 765, 766, 767, 768, 769, 770, 771, 772, 773, 774, 775] (by decide +kernel) (by decide +kernel)
set_option maxRecDepth 20000 in
theorem gL_law_X6_explore : GoodIn wsL_law (wsV RL 92 RX6 yX6_explore wsX6_explore) := goodIn_app (goodIn_of _ (by decide +kernel)) ggL_law_X6_explore
set_option maxRecDepth 20000 in
theorem ggL_law_X5_finalCount : GoodIn wsL_law wsX5_finalCount := goodIn_r _ [589, 82, 590, 591, 592, 507, 593, 521, 536, 537, 538, 539, 512, 594, 595, 596, 597, 522, 544, 142, 143, 144, 734, 735, 736, 737, 738, 739, 740, 741, 789, 790, 791, 792, 793, 794, 795] (by decide +kernel) (by decide +kernel)
set_option maxRecDepth 20000 in
theorem gL_law_X5_finalCount : GoodIn wsL_law (wsV RL 93 RX5 yX5_finalCount wsX5_finalCount) := goodIn_app (goodIn_of _ (by decide +kernel)) ggL_law_X5_finalCount
set_option maxRecDepth 20000 in
theorem ggL_law_X6_finalCount : GoodIn wsL_law wsX6_finalCount := goodIn_r _ [601, 99, 108, 551, 742, 743, 744, 745, 746, 747, 748, 749, 750, 751, 752, 753, 754, 755, 756, 757, 758, 759, 760, 761, 762, 763, 764, 765, 766, 767, 768, 769, 770, 771, 772, 773, 774, 775] (by decide +kernel) (by decide +kernel)
set_option maxRecDepth 20000 in
theorem gL_law_X6_finalCount : GoodIn wsL_law (wsV RL 96 RX6 yX6_finalCount wsX6_finalCount) := goodIn_app (goodIn_of _ (by decide +kernel)) ggL_law_X6_finalCount
set_option maxRecDepth 20000 in
theorem ggL_law_X5_violationCount : GoodIn wsL_law wsX5_violationCount := goodIn_r _ [605, 82, 606, 607, 608, 507, 609, 521, 536, 537, 538, 539, 512, 610, 611, 612, 613, 522, 614, 450, 143, 451, 452, 142, 144, 152, 153, 154, 734, 735, 736, 737, 738, 739, 740, 741, 789, 790, 791, 792, 793, 794, 795] (by decide +kernel) (by decide +kernel)
set_option maxRecDepth 20000 in
theorem gL_law_X5_violationCount : GoodIn wsL_law (wsV RL 97 RX5 yX5_violationCount wsX5_violationCount) := goodIn_app (goodIn_of _ (by decide +kernel)) ggL_law_X5_violationCount
set_option maxRecDepth 20000 in
theorem ggL_law_X6_violationCount : GoodIn wsL_law wsX6_violationCount := goodIn_r _ [618, 99, 108, 552, 742, 743, 744, 745, 746, 747, 748, 749, 750, 751, 752, 753, 754, 755, 756, 757, 758, 759, 760, 761, 762, 763, 764, 765, 766, 767, 768, 769, 770, 771, 772, 773, 774, 775] (by decide +kernel) (by decide +kernel)
set_option maxRecDepth 20000 in
theorem gL_law_X6_violationCount : GoodIn wsL_law (wsV RL 100 RX6 yX6_violationCount wsX6_violationCount) := goodIn_app (goodIn_of _ (by decide +kernel)) ggL_law_X6_violationCount
set_option maxRecDepth 20000 in
theorem ggL_law_X5_violationStep : GoodIn wsL_law wsX5_violationStep := goodIn_r _ [622, 82, 623, 624, 625, 507, 626, 514, 627, 628, 629, 630, 521, 536, 537, 538, 539, 512, 610, 611, 612, 613, 522, 614, 450, 143, 451, 452, 142, 144, 152, 153, 154, 631, 632, 633, 634, 635, 636, 637, 638, 513, 734, 735, 736, 737, 738, 739, 740, 741, 789, 790, 791, 792, 793, 794, 795] (by decide +kernel) (by decide +kernel)
set_option maxRecDepth 20000 in
theorem gL_law_X5_violationStep : GoodIn wsL_law (wsV RL 101 RX5 yX5_violationStep wsX5_violationStep) := goodIn_app (goodIn_of _ (by decide +kernel)) ggL_law_X5_violationStep
set_option maxRecDepth 20000 in
theorem ggL_law_X6_violationStep : GoodIn wsL_law wsX6_violationStep := goodIn_r _ [642, 99, 108, 552, 556, 67, 742, 743, 744, 745, 746, 747, 748, 749, 750, 751, 752, 753, 754, 755, 756, 757, 758, 759, 760, 761, 762, 763, 764, 765, 766, 767, 768, 769, 770, 771, 772, 773, 774, 775] (by decide +kernel) (by decide +kernel)
set_option maxRecDepth 20000 in
theorem gL_law_X6_violationStep : GoodIn wsL_law (wsV RL 104 RX6 yX6_violationStep wsX6_violationStep) := goodIn_app (goodIn_of _ (by decide +kernel)) ggL_law_X6_violationStep
set_option maxRecDepth 20000 in
theorem ggL_law_X5_greatestDepth : GoodIn wsL_law wsX5_greatestDepth := goodIn_r _ [646, 82, 647, 632, 633, 507, 634, 635, 636, 637, 638, 513, 734, 735, 736, 737, 738, 739, 740, 741, 789, 790, 791, 792, 793, 794, 795] (by decide +kernel) (by decide +kernel)
set_option maxRecDepth 20000 in
theorem gL_law_X5_greatestDepth : GoodIn wsL_law (wsV RL 105 RX5 yX5_greatestDepth wsX5_greatestDepth) := goodIn_app (goodIn_of _ (by decide +kernel)) ggL_law_X5_greatestDepth
set_option maxRecDepth 20000 in
theorem ggL_law_X6_greatestDepth : GoodIn wsL_law wsX6_greatestDepth := goodIn_r _ [651, 99, 108, 553, 742, 743, 744, 745, 746, 747, 748, 749, 750, 751, 752, 753, 754, 755, 756, 757, 758, 759, 760, 761, 762, 763, 764, 765, 766, 767, 768, 769, 770, 771, 772, 773, 774, 775] (by decide +kernel) (by decide +kernel)
set_option maxRecDepth 20000 in
theorem gL_law_X6_greatestDepth : GoodIn wsL_law (wsV RL 108 RX6 yX6_greatestDepth wsX6_greatestDepth) := goodIn_app (goodIn_of _ (by decide +kernel)) ggL_law_X6_greatestDepth
set_option maxRecDepth 20000 in
theorem ggL_law_X5_greatestName : GoodIn wsL_law wsX5_greatestName := goodIn_r _ [655, 82, 656, 657, 658, 507, 659, 521, 522, 660, 661, 662, 663, 536, 537, 538, 539, 512, 614, 450, 143, 451, 452, 142, 144, 152, 153, 154, 734, 735, 736, 737, 738, 739, 740, 741, 789, 790, 791, 792, 793, 794, 795] (by decide +kernel) (by decide +kernel)
set_option maxRecDepth 20000 in
theorem gL_law_X5_greatestName : GoodIn wsL_law (wsV RL 109 RX5 yX5_greatestName wsX5_greatestName) := goodIn_app (goodIn_of _ (by decide +kernel)) ggL_law_X5_greatestName
set_option maxRecDepth 20000 in
theorem ggL_law_X6_greatestName : GoodIn wsL_law wsX6_greatestName := goodIn_r _ [667, 99, 108, 554, 742, 743, 744, 745, 746, 747, 748, 749, 750, 751, 752, 753, 754, 755, 756, 757, 758, 759, 760, 761, 762, 763, 764, 765, 766, 767, 768, 769, 770, 771, 772, 773, 774, 775] (by decide +kernel) (by decide +kernel)
set_option maxRecDepth 20000 in
theorem gL_law_X6_greatestName : GoodIn wsL_law (wsV RL 112 RX6 yX6_greatestName wsX6_greatestName) := goodIn_app (goodIn_of _ (by decide +kernel)) ggL_law_X6_greatestName
set_option maxRecDepth 20000 in
theorem ggL_law_X5_outcomeCount : GoodIn wsL_law wsX5_outcomeCount := goodIn_r _ [671, 82, 672, 673, 674, 507, 675, 516, 521, 676, 677, 525, 678, 536, 537, 538, 539, 512, 594, 595, 596, 597, 522, 544, 142, 143, 144, 679, 680, 681, 682, 614, 450, 451, 452, 152, 153, 154, 683, 684, 685, 686, 687, 688, 689, 690, 691, 692, 693, 734, 735, 736, 737, 738, 739, 740, 741, 789, 790, 791, 792, 793, 794, 795] (by decide +kernel) (by decide +kernel)
set_option maxRecDepth 20000 in
theorem gL_law_X5_outcomeCount : GoodIn wsL_law (wsV RL 113 RX5 yX5_outcomeCount wsX5_outcomeCount) := goodIn_app (goodIn_of _ (by decide +kernel)) ggL_law_X5_outcomeCount
set_option maxRecDepth 20000 in
theorem ggL_law_X6_outcomeCount : GoodIn wsL_law wsX6_outcomeCount := goodIn_r _ [697, 99, 108, 555, 742, 743, 744, 745, 746, 747, 748, 749, 750, 751, 752, 753, 754, 755, 756, 757, 758, 759, 760, 761, 762, 763, 764, 765, 766, 767, 768, 769, 770, 771, 772, 773, 774, 775] (by decide +kernel) (by decide +kernel)
set_option maxRecDepth 20000 in
theorem gL_law_X6_outcomeCount : GoodIn wsL_law (wsV RL 116 RX6 yX6_outcomeCount wsX6_outcomeCount) := goodIn_app (goodIn_of _ (by decide +kernel)) ggL_law_X6_outcomeCount
set_option maxRecDepth 20000 in
theorem ggL_law_X5_finalsWith : GoodIn wsL_law wsX5_finalsWith := goodIn_r _ [701, 15, 82, 133, 134, 135, 14, 136, 31, 461, 462, 463, 464, 465, 92, 93, 94, 30, 702, 703, 704, 507, 705, 521, 536, 537, 538, 539, 512, 594, 595, 596, 597, 522, 544, 142, 143, 144, 614, 450, 451, 452, 152, 153, 154, 734, 735, 736, 737, 738, 739, 740, 741, 776, 777, 778, 779, 780, 781, 782, 783, 789, 790, 791, 792, 793, 794, 795] (by decide +kernel) (by decide +kernel)
set_option maxRecDepth 20000 in
theorem gL_law_X5_finalsWith : GoodIn wsL_law (wsV RL 117 RX5 yX5_finalsWith wsX5_finalsWith) := goodIn_app (goodIn_of _ (by decide +kernel)) ggL_law_X5_finalsWith
set_option maxRecDepth 20000 in
theorem ggL_law_X6_finalsWith : GoodIn wsL_law wsX6_finalsWith := goodIn_r _ [709, 99, 108, 66, 199, 200, 201, 5, 202, 54, 100, 101, 102, 471, 472, 473, 474, 109, 110, 111, 112, 742, 743, 744, 745, 746, 747, 748, 749, 750, 751, 752, 753, 754, 755, 756, 757, 758, 759, 760, 761, 762, 763, 764, 765, 766, 767, 768, 769, 770, 771, 772, 773, 774, 775] (by decide +kernel) (by decide +kernel)
set_option maxRecDepth 20000 in
theorem gL_law_X6_finalsWith : GoodIn wsL_law (wsV RL 120 RX6 yX6_finalsWith wsX6_finalsWith) := goodIn_app (goodIn_of _ (by decide +kernel)) ggL_law_X6_finalsWith
set_option maxRecDepth 20000 in
theorem ggL_law_X5_undo : GoodIn wsL_law wsX5_undo := goodIn_r _ [713, 81, 17, 15, 82, 87, 88, 89, 14, 90, 30, 31, 32, 33, 34, 35, 36, 37, 734, 735, 736, 737, 738, 739, 740, 741, 776, 777, 778, 779, 780, 781, 782, 783] (by decide +kernel) (by decide +kernel)
set_option maxRecDepth 20000 in
theorem gL_law_X5_undo : GoodIn wsL_law (wsV RL 121 RX5 yX5_undo wsX5_undo) := goodIn_app (goodIn_of _ (by decide +kernel)) ggL_law_X5_undo
set_option maxRecDepth 20000 in
theorem ggL_law_X6_undo : GoodIn wsL_law wsX6_undo := goodIn_r _ [717, 99, 107, 54, 55, 108, 742, 743, 744, 745, 746, 747, 748, 749, 750, 751, 752, 753, 754, 755, 756, 757, 758, 759, 760, 761, 762, 763, 764, 765, 766, 767, 768, 769, 770, 771, 772, 773, 774, 775] (by decide +kernel) (by decide +kernel)
set_option maxRecDepth 20000 in
theorem gL_law_X6_undo : GoodIn wsL_law (wsV RL 124 RX6 yX6_undo wsX6_undo) := goodIn_app (goodIn_of _ (by decide +kernel)) ggL_law_X6_undo
set_option maxRecDepth 20000 in
theorem ggL_law_X5_save : GoodIn wsL_law wsX5_save := goodIn_r _ [721, 18, 12, 13, 14, 15, 23, 24, 25, 10, 11, 87, 88, 89, 90, 30, 31, 32, 33, 34, 35, 36, 37, 271, 272, 273, 274, 275, 138, 139, 140, 141, 142, 143, 144, 734, 735, 736, 737, 738, 739, 740, 741, 776, 777, 778, 779, 780, 781, 782, 783] (by decide +kernel) (by decide +kernel)
set_option maxRecDepth 20000 in
theorem gL_law_X5_save : GoodIn wsL_law (wsV RL 125 RX5 yX5_save wsX5_save) := goodIn_app (goodIn_of _ (by decide +kernel)) ggL_law_X5_save
set_option maxRecDepth 20000 in
theorem ggL_law_X6_save : GoodIn wsL_law wsX6_save := goodIn_r _ [725, 99, 56, 54, 58, 100, 101, 5, 102, 280, 281, 282, 283, 203, 204, 205, 206, 207, 208, 209, 210, 211, 212, 742, 743, 744, 745, 746, 747, 748, 749, 750, 751, 752, 753, 754, 755, 756, 757, 758, 759, 760, 761, 762, 763, 764, 765, 766, 767, 768, 769, 770, 771, 772, 773, 774, 775] (by decide +kernel) (by decide +kernel)
set_option maxRecDepth 20000 in
theorem gL_law_X6_save : GoodIn wsL_law (wsV RL 128 RX6 yX6_save wsX6_save) := goodIn_app (goodIn_of _ (by decide +kernel)) ggL_law_X6_save
set_option maxRecDepth 20000 in
theorem ggL_law_X5_restore : GoodIn wsL_law wsX5_restore := goodIn_r _ [729, 18, 15, 81, 82, 87, 88, 89, 14, 90, 30, 31, 32, 33, 34, 35, 36, 37, 271, 272, 273, 274, 275, 138, 139, 140, 141, 142, 143, 144, 734, 735, 736, 737, 738, 739, 740, 741, 776, 777, 778, 779, 780, 781, 782, 783] (by decide +kernel) (by decide +kernel)
set_option maxRecDepth 20000 in
theorem gL_law_X5_restore : GoodIn wsL_law (wsV RL 129 RX5 yX5_restore wsX5_restore) := goodIn_app (goodIn_of _ (by decide +kernel)) ggL_law_X5_restore
set_option maxRecDepth 20000 in
theorem ggL_law_X6_restore : GoodIn wsL_law wsX6_restore := goodIn_r _ [733, 99, 58, 54, 56, 107, 108, 100, 101, 5, 102, 280, 281, 282, 283, 203, 204, 205, 206, 207, 208, 209, 210, 211, 212, 742, 743, 744, 745, 746, 747, 748, 749, 750, 751, 752, 753, 754, 755, 756, 757, 758, 759, 760, 761, 762, 763, 764, 765, 766, 767, 768, 769, 770, 771, 772, 773, 774, 775] (by decide +kernel) (by decide +kernel)
set_option maxRecDepth 20000 in
theorem gL_law_X6_restore : GoodIn wsL_law (wsV RL 132 RX6 yX6_restore wsX6_restore) := goodIn_app (goodIn_of _ (by decide +kernel)) ggL_law_X6_restore
