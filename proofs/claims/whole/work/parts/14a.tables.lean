/-! ===== the law: its words in the tables ===== -/
theorem mem_r {big ws : List Cond} (ps : List Nat) (hp : ws = ps.filterMap (fun i => big[i]?)) : ∀ w ∈ ws, w ∈ big := by
  intro w hw
  rw [hp] at hw
  obtain ⟨i, -, hi⟩ := List.mem_filterMap.mp hw
  exact List.mem_of_getElem? hi

set_option maxRecDepth 20000 in
theorem t_wsL_law_r1 : ∀ w ∈ wsL_law_r1, w ∈ lw_tbl := mem_r [64, 65, 54, 567, 568, 58, 66, 67, 68, 69, 70, 71, 72, 73, 55, 145, 146, 147, 149, 121, 122, 57, 150, 75] (by decide +kernel)
set_option maxRecDepth 20000 in
theorem t_wsL_law_r2 : ∀ w ∈ wsL_law_r2, w ∈ lw_tbl := mem_r [76, 77, 113, 114, 115, 116, 78, 80, 83, 85, 88, 90, 92, 94, 117, 118, 56, 119, 124, 125, 126, 143, 127, 144] (by decide +kernel)
set_option maxRecDepth 20000 in
theorem t_wsL_law_r3 : ∀ w ∈ wsL_law_r3, w ∈ lw_tbl := mem_r [129, 130, 569, 570, 571, 572, 578, 579, 581, 680, 582, 583, 594, 595, 596, 597, 598, 600, 607, 608, 610, 573, 575, 20] (by decide +kernel)
set_option maxRecDepth 20000 in
theorem t_wsL_law_r4 : ∀ w ∈ wsL_law_r4, w ∈ lw_tbl := mem_r [576, 170, 171, 172, 173, 174, 176, 0, 177, 148, 152, 178, 180, 1, 181, 182, 183, 184, 185, 186, 187, 188, 189, 681] (by decide +kernel)
set_option maxRecDepth 20000 in
theorem t_wsL_law_r5 : ∀ w ∈ wsL_law_r5, w ∈ lw_tbl := mem_r [682, 683, 684, 577, 685, 686, 687, 688, 690, 21, 691, 580, 601, 692, 694, 22, 695, 190, 191, 192, 193, 696, 697, 698] (by decide +kernel)
set_option maxRecDepth 20000 in
theorem t_wsL_law_r6 : ∀ w ∈ wsL_law_r6, w ∈ lw_tbl := mem_r [699, 194, 195, 196, 197, 700, 701, 702, 703, 198, 199, 200, 201, 202, 203, 204, 205, 206, 207, 208, 209, 210, 211, 59] (by decide +kernel)
set_option maxRecDepth 20000 in
theorem t_wsL_law_r7 : ∀ w ∈ wsL_law_r7, w ∈ lw_tbl := mem_r [212, 213, 214, 215, 216, 217, 218, 219, 220, 221, 222, 223, 224, 225, 226, 227, 228, 232, 233, 229, 230, 231, 234, 235] (by decide +kernel)
set_option maxRecDepth 20000 in
theorem t_wsL_law_r8 : ∀ w ∈ wsL_law_r8, w ∈ lw_tbl := mem_r [236, 237, 238, 239, 240, 241, 242, 243, 247, 244, 245, 246, 248, 249, 250, 251, 252, 253, 254, 255, 256, 257, 258, 259] (by decide +kernel)
set_option maxRecDepth 20000 in
theorem t_wsL_law_r9 : ∀ w ∈ wsL_law_r9, w ∈ lw_tbl := mem_r [261, 2, 262, 704, 705, 706, 707, 708, 710, 23, 711, 712, 714, 24, 715, 585, 586, 716, 718, 25, 719, 720, 722, 26] (by decide +kernel)
set_option maxRecDepth 20000 in
theorem t_wsL_law_r10 : ∀ w ∈ wsL_law_r10, w ∈ lw_tbl := mem_r [723, 587, 588, 724, 726, 27, 727, 728, 730, 28, 731, 732, 734, 29, 735, 736, 738, 30, 739, 740, 742, 31, 743, 744] (by decide +kernel)
set_option maxRecDepth 20000 in
theorem t_wsL_law_r11 : ∀ w ∈ wsL_law_r11, w ∈ lw_tbl := mem_r [746, 32, 747, 748, 750, 33, 751, 752, 753, 754, 755, 757, 34, 758, 759, 761, 35, 762, 763, 765, 36, 766, 263, 264] (by decide +kernel)
set_option maxRecDepth 20000 in
theorem t_wsL_law_r12 : ∀ w ∈ wsL_law_r12, w ∈ lw_tbl := mem_r [265, 266, 267, 268, 269, 270, 271, 272, 273, 274, 275, 276, 767, 768, 769, 770, 771, 773, 37, 774, 277, 278, 279, 280] (by decide +kernel)
set_option maxRecDepth 20000 in
theorem t_wsL_law_r13 : ∀ w ∈ wsL_law_r13, w ∈ lw_tbl := mem_r [281, 282, 283, 284, 128, 285, 286, 287, 288, 289, 775, 776, 777, 778, 584, 290, 291, 292, 293, 294, 295, 296, 297, 779] (by decide +kernel)
set_option maxRecDepth 20000 in
theorem t_wsL_law_r14 : ∀ w ∈ wsL_law_r14, w ∈ lw_tbl := mem_r [780, 781, 782, 298, 299, 300, 301, 302, 303, 304, 305, 131, 306, 308, 3, 309, 310, 312, 4, 313, 314, 316, 5, 317] (by decide +kernel)
set_option maxRecDepth 20000 in
theorem t_wsL_law_r15 : ∀ w ∈ wsL_law_r15, w ∈ lw_tbl := mem_r [318, 320, 6, 321, 322, 324, 7, 325, 326, 328, 8, 329, 330, 332, 9, 333, 334, 335, 336, 337, 338, 339, 340, 341] (by decide +kernel)
set_option maxRecDepth 20000 in
theorem t_wsL_law_r16 : ∀ w ∈ wsL_law_r16, w ∈ lw_tbl := mem_r [342, 783, 784, 785, 786, 593, 787, 789, 38, 790, 589, 591, 590, 592, 791, 793, 39, 794, 795, 797, 40, 798, 799, 801] (by decide +kernel)
set_option maxRecDepth 20000 in
theorem t_wsL_law_r17 : ∀ w ∈ wsL_law_r17, w ∈ lw_tbl := mem_r [41, 802, 803, 805, 42, 806, 807, 809, 43, 810, 343, 344, 345, 346, 347, 811, 812, 813, 814, 348, 349, 350, 351, 352] (by decide +kernel)
set_option maxRecDepth 20000 in
theorem t_wsL_law_r18 : ∀ w ∈ wsL_law_r18, w ∈ lw_tbl := mem_r [815, 816, 817, 818, 353, 354, 355, 356, 357, 819, 820, 821, 822, 358, 359, 360, 361, 362, 363, 364, 823, 824, 825, 826] (by decide +kernel)
set_option maxRecDepth 20000 in
theorem t_wsL_law_r19 : ∀ w ∈ wsL_law_r19, w ∈ lw_tbl := mem_r [365, 366, 367, 368, 369, 827, 828, 829, 830, 831, 833, 44, 834, 370, 371, 372, 373, 374, 375, 376, 377, 835, 836, 837] (by decide +kernel)
set_option maxRecDepth 20000 in
theorem t_wsL_law_r20 : ∀ w ∈ wsL_law_r20, w ∈ lw_tbl := mem_r [838, 378, 379, 380, 381, 382, 383, 384, 385, 386, 387, 839, 840, 841, 842, 843, 845, 45, 846, 388, 389, 390, 391, 392] (by decide +kernel)
set_option maxRecDepth 20000 in
theorem t_wsL_law_r21 : ∀ w ∈ wsL_law_r21, w ∈ lw_tbl := mem_r [847, 848, 849, 850, 393, 394, 395, 396, 851, 852, 853, 854, 397, 398, 399, 400, 855, 856, 857, 858, 401, 402, 403, 404] (by decide +kernel)
set_option maxRecDepth 20000 in
theorem t_wsL_law_r22 : ∀ w ∈ wsL_law_r22, w ∈ lw_tbl := mem_r [151, 405, 406, 60, 408, 409, 410, 434, 411, 412, 413, 414, 415, 435, 436, 437, 438, 416, 418, 439, 440, 61, 441, 442] (by decide +kernel)
set_option maxRecDepth 20000 in
theorem t_wsL_law_r23 : ∀ w ∈ wsL_law_r23, w ∈ lw_tbl := mem_r [444, 10, 445, 446, 447, 449, 11, 450, 451, 453, 12, 454, 455, 457, 13, 458, 459, 460, 859, 860, 861, 862, 599, 602] (by decide +kernel)
set_option maxRecDepth 20000 in
theorem t_wsL_law_r24 : ∀ w ∈ wsL_law_r24, w ∈ lw_tbl := mem_r [603, 604, 605, 606, 609, 863, 865, 46, 866, 867, 869, 47, 870, 871, 872, 874, 48, 875, 876, 878, 49, 879, 880, 882] (by decide +kernel)
set_option maxRecDepth 20000 in
theorem t_wsL_law_r25 : ∀ w ∈ wsL_law_r25, w ∈ lw_tbl := mem_r [50, 883, 884, 886, 51, 887, 888, 890, 52, 891, 461, 462, 463, 464, 465, 466, 467, 468, 469, 471, 14, 472, 892, 893] (by decide +kernel)
set_option maxRecDepth 20000 in
theorem t_wsL_law_r26 : ∀ w ∈ wsL_law_r26, w ∈ lw_tbl := mem_r [894, 895, 473, 474, 475, 476, 477, 478, 479, 480, 481, 483, 15, 484, 485, 896, 897, 898, 899, 486, 487, 488, 489, 490] (by decide +kernel)
set_option maxRecDepth 20000 in
theorem t_wsL_law_r27 : ∀ w ∈ wsL_law_r27, w ∈ lw_tbl := mem_r [491, 492, 493, 494, 496, 16, 497, 498, 499, 500, 501, 502, 504, 17, 505, 900, 901, 902, 903, 506, 507, 508, 509, 510] (by decide +kernel)
set_option maxRecDepth 20000 in
theorem t_wsL_law_r28 : ∀ w ∈ wsL_law_r28, w ∈ lw_tbl := mem_r [904, 905, 906, 907, 511, 512, 513, 514, 515, 516, 517, 518, 519, 520, 62, 521, 908, 909, 910, 911, 522, 523, 524, 525] (by decide +kernel)
set_option maxRecDepth 20000 in
theorem t_wsL_law_r29 : ∀ w ∈ wsL_law_r29, w ∈ lw_tbl := mem_r [526, 527, 528, 529, 530, 531, 532, 533, 535, 18, 536, 537, 539, 19, 540, 541, 542, 63, 543, 544, 545, 546, 912, 913] (by decide +kernel)
set_option maxRecDepth 20000 in
theorem t_wsL_law_r30 : ∀ w ∈ wsL_law_r30, w ∈ lw_tbl := mem_r [914, 915, 547, 548, 549, 550, 551, 552, 553, 554, 916, 917, 918, 919, 555, 556, 557, 558, 920, 921, 922, 923, 559, 560] (by decide +kernel)
set_option maxRecDepth 20000 in
theorem t_wsL_law_r31 : ∀ w ∈ wsL_law_r31, w ∈ lw_tbl := mem_r [561, 562, 924, 925, 926, 927, 563, 564, 565, 566, 928, 929, 930, 931] (by decide +kernel)
set_option maxRecDepth 20000 in
theorem inX5 : ∀ w ∈ wsX50, w ∈ lw_tbl := mem_r [153, 155, 157, 159, 161, 163, 165, 167] (by decide +kernel)
set_option maxRecDepth 20000 in
theorem inX6 : ∀ w ∈ wsX60, w ∈ lw_tbl := mem_r [611, 613, 615, 617, 619, 621, 623, 625, 627, 629, 631, 633, 635, 637, 639, 641, 643, 645, 647, 649, 651, 653, 655, 657, 659, 661, 663, 665, 667, 669, 671, 673, 675, 677] (by decide +kernel)
set_option maxRecDepth 20000 in
theorem inX4 : ∀ w ∈ wsX40, w ∈ lw_tbl := mem_r [96, 98, 100, 102, 104, 106, 108, 110] (by decide +kernel)
set_option maxRecDepth 20000 in
theorem inX3 : ∀ w ∈ wsX30, w ∈ lw_tbl := mem_r [132, 134, 136, 138, 140] (by decide +kernel)
set_option maxRecDepth 20000 in
theorem inX2 : ∀ w ∈ wsX20, w ∈ lw_tbl := mem_r [419, 421, 423, 425, 427, 429, 431] (by decide +kernel)
theorem wsL_law_in : ∀ w ∈ wsL_law, w ∈ lw_tbl := List.forall_mem_append.mpr ⟨List.forall_mem_append.mpr ⟨List.forall_mem_append.mpr ⟨List.forall_mem_append.mpr ⟨List.forall_mem_append.mpr ⟨List.forall_mem_append.mpr ⟨List.forall_mem_append.mpr ⟨t_wsL_law_r1, List.forall_mem_append.mpr ⟨t_wsL_law_r2, List.forall_mem_append.mpr ⟨t_wsL_law_r3, List.forall_mem_append.mpr ⟨t_wsL_law_r4, List.forall_mem_append.mpr ⟨t_wsL_law_r5, List.forall_mem_append.mpr ⟨t_wsL_law_r6, List.forall_mem_append.mpr ⟨t_wsL_law_r7, List.forall_mem_append.mpr ⟨t_wsL_law_r8, List.forall_mem_append.mpr ⟨t_wsL_law_r9, List.forall_mem_append.mpr ⟨t_wsL_law_r10, List.forall_mem_append.mpr ⟨t_wsL_law_r11, List.forall_mem_append.mpr ⟨t_wsL_law_r12, List.forall_mem_append.mpr ⟨t_wsL_law_r13, List.forall_mem_append.mpr ⟨t_wsL_law_r14, List.forall_mem_append.mpr ⟨t_wsL_law_r15, List.forall_mem_append.mpr ⟨t_wsL_law_r16, List.forall_mem_append.mpr ⟨t_wsL_law_r17, List.forall_mem_append.mpr ⟨t_wsL_law_r18, List.forall_mem_append.mpr ⟨t_wsL_law_r19, List.forall_mem_append.mpr ⟨t_wsL_law_r20, List.forall_mem_append.mpr ⟨t_wsL_law_r21, List.forall_mem_append.mpr ⟨t_wsL_law_r22, List.forall_mem_append.mpr ⟨t_wsL_law_r23, List.forall_mem_append.mpr ⟨t_wsL_law_r24, List.forall_mem_append.mpr ⟨t_wsL_law_r25, List.forall_mem_append.mpr ⟨t_wsL_law_r26, List.forall_mem_append.mpr ⟨t_wsL_law_r27, List.forall_mem_append.mpr ⟨t_wsL_law_r28, List.forall_mem_append.mpr ⟨t_wsL_law_r29, List.forall_mem_append.mpr ⟨t_wsL_law_r30, t_wsL_law_r31⟩⟩⟩⟩⟩⟩⟩⟩⟩⟩⟩⟩⟩⟩⟩⟩⟩⟩⟩⟩⟩⟩⟩⟩⟩⟩⟩⟩⟩⟩, inX5⟩, inX6⟩, inX4⟩, inX3⟩, inX2⟩, fun _ h => absurd h List.not_mem_nil⟩
theorem inlX2 : ∀ w ∈ wsX20, w ∈ wsL_law := fun _ h => List.mem_append_left _ (List.mem_append_right _ h)
theorem inlX3 : ∀ w ∈ wsX30, w ∈ wsL_law := fun _ h => List.mem_append_left _ (List.mem_append_left _ (List.mem_append_right _ h))
theorem inlX4 : ∀ w ∈ wsX40, w ∈ wsL_law := fun _ h => List.mem_append_left _ (List.mem_append_left _ (List.mem_append_left _ (List.mem_append_right _ h)))
theorem inlX5 : ∀ w ∈ wsX50, w ∈ wsL_law := fun _ h => List.mem_append_left _ (List.mem_append_left _ (List.mem_append_left _ (List.mem_append_left _ (List.mem_append_left _ (List.mem_append_right _ h)))))
theorem inlX6 : ∀ w ∈ wsX60, w ∈ wsL_law := fun _ h => List.mem_append_left _ (List.mem_append_left _ (List.mem_append_left _ (List.mem_append_left _ (List.mem_append_right _ h))))
theorem nwF_in : ∀ w ∈ nwF.map (fun q => Cond.fieldLinkNest q.1 q.2.1 q.2.2.1 q.2.2.2.1 q.2.2.2.2 "RenamingGrid"), w ∈ lw_tbl := mem_r [79, 81, 82, 84, 86, 87, 89, 91, 93, 95, 417] (by decide +kernel)
theorem nwM_in : ∀ w ∈ nwM.map (fun q => Cond.methodLinkNest "RenamingGrid" q.1 q.2 "RenamingGrid"), w ∈ lw_tbl := mem_r [74, 123, 407] (by decide +kernel)
theorem aw_int : Cond.arrayClass .int ∈ lw_tbl := List.mem_of_getElem? (i := 144) (by decide +kernel)
theorem aw_long : Cond.arrayClass .long ∈ lw_tbl := List.mem_of_getElem? (i := 434) (by decide +kernel)
theorem aw_char : Cond.arrayClass .char ∈ lw_tbl := List.mem_of_getElem? (i := 143) (by decide +kernel)
theorem aw_boolean : Cond.arrayClass .boolean ∈ lw_tbl := List.mem_of_getElem? (i := 680) (by decide +kernel)
theorem aw_state : Cond.arrayOver (.object "RenamingGrid$State") ∈ lw_tbl := List.mem_of_getElem? (i := 120) (by decide +kernel)
theorem iw_2 : Cond.instantiable RX2 7 ∈ lw_tbl := List.mem_of_getElem? (i := 406) (by decide +kernel)
theorem iw_3 : Cond.instantiable RX3 5 ∈ lw_tbl := List.mem_of_getElem? (i := 122) (by decide +kernel)
theorem iw_4 : Cond.instantiable RX4 8 ∈ lw_tbl := List.mem_of_getElem? (i := 73) (by decide +kernel)
theorem iw_5 : Cond.instantiable RX5 8 ∈ lw_tbl := List.mem_of_getElem? (i := 65) (by decide +kernel)
theorem iw_6 : Cond.instantiable RX6 34 ∈ lw_tbl := List.mem_of_getElem? (i := 568) (by decide +kernel)
theorem lw_cl5 : Cond.classLink RL 7 RX5 ∈ lw_tbl := List.mem_of_getElem? (i := 64) (by decide +kernel)
theorem lw_cl6 : Cond.classLink RL 10 RX6 ∈ lw_tbl := List.mem_of_getElem? (i := 567) (by decide +kernel)
theorem lw_in5 : Cond.initialized RX5 ∈ lw_tbl := List.mem_of_getElem? (i := 54) (by decide +kernel)
theorem lw_in6 : Cond.initialized RX6 ∈ lw_tbl := List.mem_of_getElem? (i := 58) (by decide +kernel)
theorem lw_ml5 : Cond.methodLink RL 9 yX5_init ∈ lw_tbl := List.mem_of_getElem? (i := 66) (by decide +kernel)
theorem lw_ml6 : Cond.methodLink RL 12 yX6_init ∈ lw_tbl := List.mem_of_getElem? (i := 569) (by decide +kernel)
theorem lw_im5 : Cond.instanceMethod yX5_init ∈ lw_tbl := List.mem_of_getElem? (i := 67) (by decide +kernel)
theorem lw_im6 : Cond.instanceMethod yX6_init ∈ lw_tbl := List.mem_of_getElem? (i := 570) (by decide +kernel)
