theorem dX6_init_0 : decode cX6_init 0 = .ok (.aload_n 0, 1) := by decide +kernel
theorem dX6_init_1 : decode cX6_init 1 = .ok (.invokespecial 1, 3) := by decide +kernel
theorem dX6_init_4 : decode cX6_init 4 = .ok (.aload_n 0, 1) := by decide +kernel
theorem dX6_init_5 : decode cX6_init 5 = .ok (.bipush 38, 2) := by decide +kernel
theorem dX6_init_7 : decode cX6_init 7 = .ok (.newarray .int, 2) := by decide +kernel
theorem dX6_init_9 : decode cX6_init 9 = .ok (.putfield 7, 3) := by decide +kernel
theorem dX6_init_12 : decode cX6_init 12 = .ok (.aload_n 0, 1) := by decide +kernel
theorem dX6_init_13 : decode cX6_init 13 = .ok (.sipush 304, 3) := by decide +kernel
theorem dX6_init_16 : decode cX6_init 16 = .ok (.newarray .int, 2) := by decide +kernel
theorem dX6_init_18 : decode cX6_init 18 = .ok (.putfield 13, 3) := by decide +kernel
theorem dX6_init_21 : decode cX6_init 21 = .ok (.aload_n 0, 1) := by decide +kernel
theorem dX6_init_22 : decode cX6_init 22 = .ok (.bipush 76, 2) := by decide +kernel
theorem dX6_init_24 : decode cX6_init 24 = .ok (.newarray .int, 2) := by decide +kernel
theorem dX6_init_26 : decode cX6_init 26 = .ok (.putfield 16, 3) := by decide +kernel
theorem dX6_init_29 : decode cX6_init 29 = .ok (.aload_n 0, 1) := by decide +kernel
theorem dX6_init_30 : decode cX6_init 30 = .ok (.iconst 2, 1) := by decide +kernel
theorem dX6_init_31 : decode cX6_init 31 = .ok (.newarray .boolean, 2) := by decide +kernel
theorem dX6_init_33 : decode cX6_init 33 = .ok (.putfield 19, 3) := by decide +kernel
theorem dX6_init_36 : decode cX6_init 36 = .ok (.aload_n 0, 1) := by decide +kernel
theorem dX6_init_37 : decode cX6_init 37 = .ok (.bipush 80, 2) := by decide +kernel
theorem dX6_init_39 : decode cX6_init 39 = .ok (.newarray .int, 2) := by decide +kernel
theorem dX6_init_41 : decode cX6_init 41 = .ok (.putfield 23, 3) := by decide +kernel
theorem dX6_init_44 : decode cX6_init 44 = .ok (.aload_n 0, 1) := by decide +kernel
theorem dX6_init_45 : decode cX6_init 45 = .ok (.sipush 4001, 3) := by decide +kernel
theorem dX6_init_48 : decode cX6_init 48 = .ok (.newarray .int, 2) := by decide +kernel
theorem dX6_init_50 : decode cX6_init 50 = .ok (.putfield 26, 3) := by decide +kernel
theorem dX6_init_53 : decode cX6_init 53 = .ok (.aload_n 0, 1) := by decide +kernel
theorem dX6_init_54 : decode cX6_init 54 = .ok (.sipush 4001, 3) := by decide +kernel
theorem dX6_init_57 : decode cX6_init 57 = .ok (.newarray .int, 2) := by decide +kernel
theorem dX6_init_59 : decode cX6_init 59 = .ok (.putfield 29, 3) := by decide +kernel
theorem dX6_init_62 : decode cX6_init 62 = .ok (.aload_n 0, 1) := by decide +kernel
theorem dX6_init_63 : decode cX6_init 63 = .ok (.sipush 4001, 3) := by decide +kernel
theorem dX6_init_66 : decode cX6_init 66 = .ok (.newarray .int, 2) := by decide +kernel
theorem dX6_init_68 : decode cX6_init 68 = .ok (.putfield 32, 3) := by decide +kernel
theorem dX6_init_71 : decode cX6_init 71 = .ok (.aload_n 0, 1) := by decide +kernel
theorem dX6_init_72 : decode cX6_init 72 = .ok (.sipush 4001, 3) := by decide +kernel
theorem dX6_init_75 : decode cX6_init 75 = .ok (.newarray .int, 2) := by decide +kernel
theorem dX6_init_77 : decode cX6_init 77 = .ok (.putfield 35, 3) := by decide +kernel
theorem dX6_init_80 : decode cX6_init 80 = .ok (.aload_n 0, 1) := by decide +kernel
theorem dX6_init_81 : decode cX6_init 81 = .ok (.sipush 4001, 3) := by decide +kernel
theorem dX6_init_84 : decode cX6_init 84 = .ok (.newarray .int, 2) := by decide +kernel
theorem dX6_init_86 : decode cX6_init 86 = .ok (.putfield 38, 3) := by decide +kernel
theorem dX6_init_89 : decode cX6_init 89 = .ok (.aload_n 0, 1) := by decide +kernel
theorem dX6_init_90 : decode cX6_init 90 = .ok (.sipush 8192, 3) := by decide +kernel
theorem dX6_init_93 : decode cX6_init 93 = .ok (.newarray .int, 2) := by decide +kernel
theorem dX6_init_95 : decode cX6_init 95 = .ok (.putfield 41, 3) := by decide +kernel
theorem dX6_init_98 : decode cX6_init 98 = .ok (.aload_n 0, 1) := by decide +kernel
theorem dX6_init_99 : decode cX6_init 99 = .ok (.bipush 30, 2) := by decide +kernel
theorem dX6_init_101 : decode cX6_init 101 = .ok (.newarray .int, 2) := by decide +kernel
theorem dX6_init_103 : decode cX6_init 103 = .ok (.putfield 44, 3) := by decide +kernel
theorem dX6_init_106 : decode cX6_init 106 = .ok (.aload_n 0, 1) := by decide +kernel
theorem dX6_init_107 : decode cX6_init 107 = .ok (.bipush 48, 2) := by decide +kernel
theorem dX6_init_109 : decode cX6_init 109 = .ok (.newarray .int, 2) := by decide +kernel
theorem dX6_init_111 : decode cX6_init 111 = .ok (.putfield 47, 3) := by decide +kernel
theorem dX6_init_114 : decode cX6_init 114 = .ok (.aload_n 0, 1) := by decide +kernel
theorem dX6_init_115 : decode cX6_init 115 = .ok (.sipush 1331, 3) := by decide +kernel
theorem dX6_init_118 : decode cX6_init 118 = .ok (.newarray .boolean, 2) := by decide +kernel
theorem dX6_init_120 : decode cX6_init 120 = .ok (.putfield 50, 3) := by decide +kernel
theorem dX6_init_123 : decode cX6_init 123 = .ok (.aload_n 0, 1) := by decide +kernel
theorem dX6_init_124 : decode cX6_init 124 = .ok (.iconst 3, 1) := by decide +kernel
theorem dX6_init_125 : decode cX6_init 125 = .ok (.iconst 2, 1) := by decide +kernel
theorem dX6_init_126 : decode cX6_init 126 = .ok (.iconst 0, 1) := by decide +kernel
theorem dX6_init_127 : decode cX6_init 127 = .ok (.invokevirtual 53, 3) := by decide +kernel
theorem dX6_init_130 : decode cX6_init 130 = .ok (.return_, 1) := by decide +kernel
theorem dX6_in_0 : decode cX6_in 0 = .ok (.iload_n 0, 1) := by decide +kernel
theorem dX6_in_1 : decode cX6_in 1 = .ok (.iload_n 1, 1) := by decide +kernel
theorem dX6_in_2 : decode cX6_in 2 = .ok (.if_icmp .lt 12, 3) := by decide +kernel
theorem dX6_in_5 : decode cX6_in 5 = .ok (.iload_n 0, 1) := by decide +kernel
theorem dX6_in_6 : decode cX6_in 6 = .ok (.iload_n 2, 1) := by decide +kernel
theorem dX6_in_7 : decode cX6_in 7 = .ok (.if_icmp .gt 7, 3) := by decide +kernel
theorem dX6_in_10 : decode cX6_in 10 = .ok (.iconst 1, 1) := by decide +kernel
theorem dX6_in_11 : decode cX6_in 11 = .ok (.goto 4, 3) := by decide +kernel
theorem dX6_in_14 : decode cX6_in 14 = .ok (.iconst 0, 1) := by decide +kernel
theorem dX6_in_15 : decode cX6_in 15 = .ok (.ireturn, 1) := by decide +kernel
theorem dX6_statusIn_0 : decode cX6_statusIn 0 = .ok (.aload_n 0, 1) := by decide +kernel
theorem dX6_statusIn_1 : decode cX6_statusIn 1 = .ok (.getfield 61, 3) := by decide +kernel
theorem dX6_statusIn_4 : decode cX6_statusIn 4 = .ok (.bipush 8, 2) := by decide +kernel
theorem dX6_statusIn_6 : decode cX6_statusIn 6 = .ok (.iload_n 1, 1) := by decide +kernel
theorem dX6_statusIn_7 : decode cX6_statusIn 7 = .ok (.imul, 1) := by decide +kernel
theorem dX6_statusIn_8 : decode cX6_statusIn 8 = .ok (.ishr, 1) := by decide +kernel
theorem dX6_statusIn_9 : decode cX6_statusIn 9 = .ok (.iconst 3, 1) := by decide +kernel
theorem dX6_statusIn_10 : decode cX6_statusIn 10 = .ok (.iand, 1) := by decide +kernel
theorem dX6_statusIn_11 : decode cX6_statusIn 11 = .ok (.ireturn, 1) := by decide +kernel
theorem dX6_splitterIn_0 : decode cX6_splitterIn 0 = .ok (.aload_n 0, 1) := by decide +kernel
theorem dX6_splitterIn_1 : decode cX6_splitterIn 1 = .ok (.getfield 61, 3) := by decide +kernel
theorem dX6_splitterIn_4 : decode cX6_splitterIn 4 = .ok (.bipush 8, 2) := by decide +kernel
theorem dX6_splitterIn_6 : decode cX6_splitterIn 6 = .ok (.iload_n 1, 1) := by decide +kernel
theorem dX6_splitterIn_7 : decode cX6_splitterIn 7 = .ok (.imul, 1) := by decide +kernel
theorem dX6_splitterIn_8 : decode cX6_splitterIn 8 = .ok (.iconst 2, 1) := by decide +kernel
theorem dX6_splitterIn_9 : decode cX6_splitterIn 9 = .ok (.iadd, 1) := by decide +kernel
theorem dX6_splitterIn_10 : decode cX6_splitterIn 10 = .ok (.ishr, 1) := by decide +kernel
theorem dX6_splitterIn_11 : decode cX6_splitterIn 11 = .ok (.bipush 15, 2) := by decide +kernel
theorem dX6_splitterIn_13 : decode cX6_splitterIn 13 = .ok (.iand, 1) := by decide +kernel
theorem dX6_splitterIn_14 : decode cX6_splitterIn 14 = .ok (.ireturn, 1) := by decide +kernel
theorem dX6_phaseIn_0 : decode cX6_phaseIn 0 = .ok (.aload_n 0, 1) := by decide +kernel
theorem dX6_phaseIn_1 : decode cX6_phaseIn 1 = .ok (.getfield 61, 3) := by decide +kernel
theorem dX6_phaseIn_4 : decode cX6_phaseIn 4 = .ok (.bipush 8, 2) := by decide +kernel
theorem dX6_phaseIn_6 : decode cX6_phaseIn 6 = .ok (.iload_n 1, 1) := by decide +kernel
theorem dX6_phaseIn_7 : decode cX6_phaseIn 7 = .ok (.imul, 1) := by decide +kernel
theorem dX6_phaseIn_8 : decode cX6_phaseIn 8 = .ok (.bipush 6, 2) := by decide +kernel
theorem dX6_phaseIn_10 : decode cX6_phaseIn 10 = .ok (.iadd, 1) := by decide +kernel
theorem dX6_phaseIn_11 : decode cX6_phaseIn 11 = .ok (.ishr, 1) := by decide +kernel
theorem dX6_phaseIn_12 : decode cX6_phaseIn 12 = .ok (.iconst 3, 1) := by decide +kernel
theorem dX6_phaseIn_13 : decode cX6_phaseIn 13 = .ok (.iand, 1) := by decide +kernel
theorem dX6_phaseIn_14 : decode cX6_phaseIn 14 = .ok (.ireturn, 1) := by decide +kernel
theorem dX6_setProcess_0 : decode cX6_setProcess 0 = .ok (.iload_n 2, 1) := by decide +kernel
theorem dX6_setProcess_1 : decode cX6_setProcess 1 = .ok (.iload_n 3, 1) := by decide +kernel
theorem dX6_setProcess_2 : decode cX6_setProcess 2 = .ok (.iconst 2, 1) := by decide +kernel
theorem dX6_setProcess_3 : decode cX6_setProcess 3 = .ok (.ishl, 1) := by decide +kernel
theorem dX6_setProcess_4 : decode cX6_setProcess 4 = .ok (.ior, 1) := by decide +kernel
theorem dX6_setProcess_5 : decode cX6_setProcess 5 = .ok (.iload 4, 2) := by decide +kernel
theorem dX6_setProcess_7 : decode cX6_setProcess 7 = .ok (.bipush 6, 2) := by decide +kernel
theorem dX6_setProcess_9 : decode cX6_setProcess 9 = .ok (.ishl, 1) := by decide +kernel
theorem dX6_setProcess_10 : decode cX6_setProcess 10 = .ok (.ior, 1) := by decide +kernel
theorem dX6_setProcess_11 : decode cX6_setProcess 11 = .ok (.istore 5, 2) := by decide +kernel
theorem dX6_setProcess_13 : decode cX6_setProcess 13 = .ok (.aload_n 0, 1) := by decide +kernel
theorem dX6_setProcess_14 : decode cX6_setProcess 14 = .ok (.aload_n 0, 1) := by decide +kernel
theorem dX6_setProcess_15 : decode cX6_setProcess 15 = .ok (.getfield 61, 3) := by decide +kernel
theorem dX6_setProcess_18 : decode cX6_setProcess 18 = .ok (.sipush 255, 3) := by decide +kernel
theorem dX6_setProcess_21 : decode cX6_setProcess 21 = .ok (.bipush 8, 2) := by decide +kernel
theorem dX6_setProcess_23 : decode cX6_setProcess 23 = .ok (.iload_n 1, 1) := by decide +kernel
theorem dX6_setProcess_24 : decode cX6_setProcess 24 = .ok (.imul, 1) := by decide +kernel
theorem dX6_setProcess_25 : decode cX6_setProcess 25 = .ok (.ishl, 1) := by decide +kernel
theorem dX6_setProcess_26 : decode cX6_setProcess 26 = .ok (.iconst (-1), 1) := by decide +kernel
theorem dX6_setProcess_27 : decode cX6_setProcess 27 = .ok (.ixor, 1) := by decide +kernel
theorem dX6_setProcess_28 : decode cX6_setProcess 28 = .ok (.iand, 1) := by decide +kernel
theorem dX6_setProcess_29 : decode cX6_setProcess 29 = .ok (.iload 5, 2) := by decide +kernel
theorem dX6_setProcess_31 : decode cX6_setProcess 31 = .ok (.bipush 8, 2) := by decide +kernel
theorem dX6_setProcess_33 : decode cX6_setProcess 33 = .ok (.iload_n 1, 1) := by decide +kernel
theorem dX6_setProcess_34 : decode cX6_setProcess 34 = .ok (.imul, 1) := by decide +kernel
theorem dX6_setProcess_35 : decode cX6_setProcess 35 = .ok (.ishl, 1) := by decide +kernel
theorem dX6_setProcess_36 : decode cX6_setProcess 36 = .ok (.ior, 1) := by decide +kernel
theorem dX6_setProcess_37 : decode cX6_setProcess 37 = .ok (.putfield 61, 3) := by decide +kernel
theorem dX6_setProcess_40 : decode cX6_setProcess 40 = .ok (.return_, 1) := by decide +kernel
theorem dX6_ownerIn_0 : decode cX6_ownerIn 0 = .ok (.aload_n 0, 1) := by decide +kernel
theorem dX6_ownerIn_1 : decode cX6_ownerIn 1 = .ok (.getfield 64, 3) := by decide +kernel
theorem dX6_ownerIn_4 : decode cX6_ownerIn 4 = .ok (.iconst 3, 1) := by decide +kernel
theorem dX6_ownerIn_5 : decode cX6_ownerIn 5 = .ok (.iload_n 1, 1) := by decide +kernel
theorem dX6_ownerIn_6 : decode cX6_ownerIn 6 = .ok (.imul, 1) := by decide +kernel
theorem dX6_ownerIn_7 : decode cX6_ownerIn 7 = .ok (.ishr, 1) := by decide +kernel
theorem dX6_ownerIn_8 : decode cX6_ownerIn 8 = .ok (.iconst 3, 1) := by decide +kernel
theorem dX6_ownerIn_9 : decode cX6_ownerIn 9 = .ok (.iand, 1) := by decide +kernel
theorem dX6_ownerIn_10 : decode cX6_ownerIn 10 = .ok (.iconst 1, 1) := by decide +kernel
theorem dX6_ownerIn_11 : decode cX6_ownerIn 11 = .ok (.isub, 1) := by decide +kernel
theorem dX6_ownerIn_12 : decode cX6_ownerIn 12 = .ok (.ireturn, 1) := by decide +kernel
theorem dX6_doorIn_0 : decode cX6_doorIn 0 = .ok (.aload_n 0, 1) := by decide +kernel
theorem dX6_doorIn_1 : decode cX6_doorIn 1 = .ok (.getfield 64, 3) := by decide +kernel
theorem dX6_doorIn_4 : decode cX6_doorIn 4 = .ok (.iconst 3, 1) := by decide +kernel
theorem dX6_doorIn_5 : decode cX6_doorIn 5 = .ok (.iload_n 1, 1) := by decide +kernel
theorem dX6_doorIn_6 : decode cX6_doorIn 6 = .ok (.imul, 1) := by decide +kernel
theorem dX6_doorIn_7 : decode cX6_doorIn 7 = .ok (.iconst 2, 1) := by decide +kernel
theorem dX6_doorIn_8 : decode cX6_doorIn 8 = .ok (.iadd, 1) := by decide +kernel
theorem dX6_doorIn_9 : decode cX6_doorIn 9 = .ok (.ishr, 1) := by decide +kernel
theorem dX6_doorIn_10 : decode cX6_doorIn 10 = .ok (.iconst 1, 1) := by decide +kernel
theorem dX6_doorIn_11 : decode cX6_doorIn 11 = .ok (.iand, 1) := by decide +kernel
theorem dX6_doorIn_12 : decode cX6_doorIn 12 = .ok (.ireturn, 1) := by decide +kernel
theorem dX6_diagonal_0 : decode cX6_diagonal 0 = .ok (.iconst 0, 1) := by decide +kernel
theorem dX6_diagonal_1 : decode cX6_diagonal 1 = .ok (.istore_n 1, 1) := by decide +kernel
theorem dX6_diagonal_2 : decode cX6_diagonal 2 = .ok (.iload_n 1, 1) := by decide +kernel
theorem dX6_diagonal_3 : decode cX6_diagonal 3 = .ok (.iconst 1, 1) := by decide +kernel
theorem dX6_diagonal_4 : decode cX6_diagonal 4 = .ok (.iadd, 1) := by decide +kernel
theorem dX6_diagonal_5 : decode cX6_diagonal 5 = .ok (.iload_n 1, 1) := by decide +kernel
theorem dX6_diagonal_6 : decode cX6_diagonal 6 = .ok (.iconst 2, 1) := by decide +kernel
theorem dX6_diagonal_7 : decode cX6_diagonal 7 = .ok (.iadd, 1) := by decide +kernel
theorem dX6_diagonal_8 : decode cX6_diagonal 8 = .ok (.imul, 1) := by decide +kernel
theorem dX6_diagonal_9 : decode cX6_diagonal 9 = .ok (.iconst 2, 1) := by decide +kernel
theorem dX6_diagonal_10 : decode cX6_diagonal 10 = .ok (.idiv, 1) := by decide +kernel
theorem dX6_diagonal_11 : decode cX6_diagonal 11 = .ok (.iload_n 0, 1) := by decide +kernel
theorem dX6_diagonal_12 : decode cX6_diagonal 12 = .ok (.if_icmp .gt 9, 3) := by decide +kernel
theorem dX6_diagonal_15 : decode cX6_diagonal 15 = .ok (.iinc 1 1, 3) := by decide +kernel
theorem dX6_diagonal_18 : decode cX6_diagonal 18 = .ok (.goto (-16), 3) := by decide +kernel
theorem dX6_diagonal_21 : decode cX6_diagonal 21 = .ok (.iload_n 1, 1) := by decide +kernel
theorem dX6_diagonal_22 : decode cX6_diagonal 22 = .ok (.ireturn, 1) := by decide +kernel
set_option maxRecDepth 20000 in
theorem ggX6_move_X6_splitterIn : GoodIn wsX6_move wsX6_splitterIn := goodIn_r _ [8, 9, 17, 18, 19, 20, 21, 22, 23, 24, 25, 26, 27, 28, 29, 30, 31, 32, 33, 34, 35, 36, 37, 38, 39, 40, 41, 42, 43, 44, 45, 46, 47, 48, 49, 50] (by decide +kernel) (by decide +kernel)
set_option maxRecDepth 20000 in
theorem gX6_move_X6_splitterIn : GoodIn wsX6_move (wsV RX6 67 RX6 yX6_splitterIn wsX6_splitterIn) := goodIn_app (goodIn_of _ (by decide +kernel)) ggX6_move_X6_splitterIn
set_option maxRecDepth 20000 in
theorem ggX6_move_X6_diagonal : GoodIn wsX6_move wsX6_diagonal := goodIn_r _ [12] (by decide +kernel) (by decide +kernel)
set_option maxRecDepth 20000 in
theorem gX6_move_X6_diagonal : GoodIn wsX6_move (va_wsS RX6 71 yX6_diagonal wsX6_diagonal) := goodIn_app (goodIn_of _ (by decide +kernel)) ggX6_move_X6_diagonal
set_option maxRecDepth 20000 in
theorem ggX6_move_X6_setProcess : GoodIn wsX6_move wsX6_setProcess := goodIn_r _ [16, 9, 17, 18, 19, 20, 21, 22, 23, 24, 25, 26, 27, 28, 29, 30, 31, 32, 33, 34, 35, 36, 37, 38, 39, 40, 41, 42, 43, 44, 45, 46, 47, 48, 49, 50] (by decide +kernel) (by decide +kernel)
set_option maxRecDepth 20000 in
theorem gX6_move_X6_setProcess : GoodIn wsX6_move (wsV RX6 81 RX6 yX6_setProcess wsX6_setProcess) := goodIn_app (goodIn_of _ (by decide +kernel)) ggX6_move_X6_setProcess
theorem dX6_move_0 : decode cX6_move 0 = .ok (.aload_n 0, 1) := by decide +kernel
theorem dX6_move_1 : decode cX6_move 1 = .ok (.iload_n 1, 1) := by decide +kernel
theorem dX6_move_2 : decode cX6_move 2 = .ok (.invokevirtual 67, 3) := by decide +kernel
theorem dX6_move_5 : decode cX6_move 5 = .ok (.istore_n 3, 1) := by decide +kernel
theorem dX6_move_6 : decode cX6_move 6 = .ok (.iload_n 3, 1) := by decide +kernel
theorem dX6_move_7 : decode cX6_move 7 = .ok (.invokestatic 71, 3) := by decide +kernel
theorem dX6_move_10 : decode cX6_move 10 = .ok (.istore 4, 2) := by decide +kernel
theorem dX6_move_12 : decode cX6_move 12 = .ok (.aload_n 0, 1) := by decide +kernel
theorem dX6_move_13 : decode cX6_move 13 = .ok (.iload_n 3, 1) := by decide +kernel
theorem dX6_move_14 : decode cX6_move 14 = .ok (.putfield 74, 3) := by decide +kernel
theorem dX6_move_17 : decode cX6_move 17 = .ok (.aload_n 0, 1) := by decide +kernel
theorem dX6_move_18 : decode cX6_move 18 = .ok (.iload_n 2, 1) := by decide +kernel
theorem dX6_move_19 : decode cX6_move 19 = .ok (.putfield 77, 3) := by decide +kernel
theorem dX6_move_22 : decode cX6_move 22 = .ok (.iload 4, 2) := by decide +kernel
theorem dX6_move_24 : decode cX6_move 24 = .ok (.iconst 1, 1) := by decide +kernel
theorem dX6_move_25 : decode cX6_move 25 = .ok (.iadd, 1) := by decide +kernel
theorem dX6_move_26 : decode cX6_move 26 = .ok (.aload_n 0, 1) := by decide +kernel
theorem dX6_move_27 : decode cX6_move 27 = .ok (.getfield 7, 3) := by decide +kernel
theorem dX6_move_30 : decode cX6_move 30 = .ok (.iconst 0, 1) := by decide +kernel
theorem dX6_move_31 : decode cX6_move 31 = .ok (.iaload, 1) := by decide +kernel
theorem dX6_move_32 : decode cX6_move 32 = .ok (.if_icmp .ne 14, 3) := by decide +kernel
theorem dX6_move_35 : decode cX6_move 35 = .ok (.aload_n 0, 1) := by decide +kernel
theorem dX6_move_36 : decode cX6_move 36 = .ok (.iload_n 1, 1) := by decide +kernel
theorem dX6_move_37 : decode cX6_move 37 = .ok (.iconst 2, 1) := by decide +kernel
theorem dX6_move_38 : decode cX6_move 38 = .ok (.bipush 15, 2) := by decide +kernel
theorem dX6_move_40 : decode cX6_move 40 = .ok (.iconst 0, 1) := by decide +kernel
theorem dX6_move_41 : decode cX6_move 41 = .ok (.invokevirtual 81, 3) := by decide +kernel
theorem dX6_move_44 : decode cX6_move 44 = .ok (.iconst 4, 1) := by decide +kernel
theorem dX6_move_45 : decode cX6_move 45 = .ok (.ireturn, 1) := by decide +kernel
theorem dX6_move_46 : decode cX6_move 46 = .ok (.aload_n 0, 1) := by decide +kernel
theorem dX6_move_47 : decode cX6_move 47 = .ok (.iload_n 1, 1) := by decide +kernel
theorem dX6_move_48 : decode cX6_move 48 = .ok (.iconst 0, 1) := by decide +kernel
theorem dX6_move_49 : decode cX6_move 49 = .ok (.iload_n 3, 1) := by decide +kernel
theorem dX6_move_50 : decode cX6_move 50 = .ok (.iload 4, 2) := by decide +kernel
theorem dX6_move_52 : decode cX6_move 52 = .ok (.iadd, 1) := by decide +kernel
theorem dX6_move_53 : decode cX6_move 53 = .ok (.iload_n 2, 1) := by decide +kernel
theorem dX6_move_54 : decode cX6_move 54 = .ok (.ifCond .eq 7, 3) := by decide +kernel
theorem dX6_move_57 : decode cX6_move 57 = .ok (.iconst 1, 1) := by decide +kernel
theorem dX6_move_58 : decode cX6_move 58 = .ok (.goto 4, 3) := by decide +kernel
theorem dX6_move_61 : decode cX6_move 61 = .ok (.iconst 2, 1) := by decide +kernel
theorem dX6_move_62 : decode cX6_move 62 = .ok (.iadd, 1) := by decide +kernel
theorem dX6_move_63 : decode cX6_move 63 = .ok (.iconst 0, 1) := by decide +kernel
theorem dX6_move_64 : decode cX6_move 64 = .ok (.invokevirtual 81, 3) := by decide +kernel
theorem dX6_move_67 : decode cX6_move 67 = .ok (.iload_n 2, 1) := by decide +kernel
theorem dX6_move_68 : decode cX6_move 68 = .ok (.ifCond .eq 7, 3) := by decide +kernel
theorem dX6_move_71 : decode cX6_move 71 = .ok (.iconst 2, 1) := by decide +kernel
theorem dX6_move_72 : decode cX6_move 72 = .ok (.goto 4, 3) := by decide +kernel
theorem dX6_move_75 : decode cX6_move 75 = .ok (.iconst 3, 1) := by decide +kernel
theorem dX6_move_76 : decode cX6_move 76 = .ok (.ireturn, 1) := by decide +kernel
set_option maxRecDepth 20000 in
theorem ggX6_proceed_X6_splitterIn : GoodIn wsX6_proceed wsX6_splitterIn := goodIn_r _ [5, 6, 11, 12, 13, 14, 15, 16, 17, 18, 19, 20, 21, 22, 23, 24, 25, 26, 27, 28, 29, 30, 31, 32, 33, 34, 35, 36, 37, 38, 39, 40, 41, 42, 43, 44] (by decide +kernel) (by decide +kernel)
set_option maxRecDepth 20000 in
theorem gX6_proceed_X6_splitterIn : GoodIn wsX6_proceed (wsV RX6 67 RX6 yX6_splitterIn wsX6_splitterIn) := goodIn_app (goodIn_of _ (by decide +kernel)) ggX6_proceed_X6_splitterIn
set_option maxRecDepth 20000 in
theorem ggX6_proceed_X6_setProcess : GoodIn wsX6_proceed wsX6_setProcess := goodIn_r _ [10, 6, 11, 12, 13, 14, 15, 16, 17, 18, 19, 20, 21, 22, 23, 24, 25, 26, 27, 28, 29, 30, 31, 32, 33, 34, 35, 36, 37, 38, 39, 40, 41, 42, 43, 44] (by decide +kernel) (by decide +kernel)
set_option maxRecDepth 20000 in
theorem gX6_proceed_X6_setProcess : GoodIn wsX6_proceed (wsV RX6 81 RX6 yX6_setProcess wsX6_setProcess) := goodIn_app (goodIn_of _ (by decide +kernel)) ggX6_proceed_X6_setProcess
theorem dX6_proceed_0 : decode cX6_proceed 0 = .ok (.aload_n 0, 1) := by decide +kernel
theorem dX6_proceed_1 : decode cX6_proceed 1 = .ok (.iload_n 1, 1) := by decide +kernel
theorem dX6_proceed_2 : decode cX6_proceed 2 = .ok (.iconst 0, 1) := by decide +kernel
theorem dX6_proceed_3 : decode cX6_proceed 3 = .ok (.aload_n 0, 1) := by decide +kernel
theorem dX6_proceed_4 : decode cX6_proceed 4 = .ok (.iload_n 1, 1) := by decide +kernel
theorem dX6_proceed_5 : decode cX6_proceed 5 = .ok (.invokevirtual 67, 3) := by decide +kernel
theorem dX6_proceed_8 : decode cX6_proceed 8 = .ok (.iload_n 2, 1) := by decide +kernel
theorem dX6_proceed_9 : decode cX6_proceed 9 = .ok (.invokevirtual 81, 3) := by decide +kernel
theorem dX6_proceed_12 : decode cX6_proceed 12 = .ok (.iconst 0, 1) := by decide +kernel
theorem dX6_proceed_13 : decode cX6_proceed 13 = .ok (.ireturn, 1) := by decide +kernel
set_option maxRecDepth 20000 in
theorem ggX6_becomeNamed_X6_splitterIn : GoodIn wsX6_becomeNamed wsX6_splitterIn := goodIn_r _ [5, 6, 15, 16, 17, 18, 19, 20, 21, 22, 23, 24, 25, 26, 27, 28, 29, 30, 31, 32, 33, 34, 35, 36, 37, 38, 39, 40, 41, 42, 43, 44, 45, 46, 47, 48] (by decide +kernel) (by decide +kernel)
set_option maxRecDepth 20000 in
theorem gX6_becomeNamed_X6_splitterIn : GoodIn wsX6_becomeNamed (wsV RX6 67 RX6 yX6_splitterIn wsX6_splitterIn) := goodIn_app (goodIn_of _ (by decide +kernel)) ggX6_becomeNamed_X6_splitterIn
set_option maxRecDepth 20000 in
theorem ggX6_becomeNamed_X6_phaseIn : GoodIn wsX6_becomeNamed wsX6_phaseIn := goodIn_r _ [10, 6, 15, 16, 17, 18, 19, 20, 21, 22, 23, 24, 25, 26, 27, 28, 29, 30, 31, 32, 33, 34, 35, 36, 37, 38, 39, 40, 41, 42, 43, 44, 45, 46, 47, 48] (by decide +kernel) (by decide +kernel)
set_option maxRecDepth 20000 in
theorem gX6_becomeNamed_X6_phaseIn : GoodIn wsX6_becomeNamed (wsV RX6 85 RX6 yX6_phaseIn wsX6_phaseIn) := goodIn_app (goodIn_of _ (by decide +kernel)) ggX6_becomeNamed_X6_phaseIn
set_option maxRecDepth 20000 in
theorem ggX6_becomeNamed_X6_setProcess : GoodIn wsX6_becomeNamed wsX6_setProcess := goodIn_r _ [14, 6, 15, 16, 17, 18, 19, 20, 21, 22, 23, 24, 25, 26, 27, 28, 29, 30, 31, 32, 33, 34, 35, 36, 37, 38, 39, 40, 41, 42, 43, 44, 45, 46, 47, 48] (by decide +kernel) (by decide +kernel)
set_option maxRecDepth 20000 in
theorem gX6_becomeNamed_X6_setProcess : GoodIn wsX6_becomeNamed (wsV RX6 81 RX6 yX6_setProcess wsX6_setProcess) := goodIn_app (goodIn_of _ (by decide +kernel)) ggX6_becomeNamed_X6_setProcess
theorem dX6_becomeNamed_0 : decode cX6_becomeNamed 0 = .ok (.aload_n 0, 1) := by decide +kernel
theorem dX6_becomeNamed_1 : decode cX6_becomeNamed 1 = .ok (.iload_n 1, 1) := by decide +kernel
theorem dX6_becomeNamed_2 : decode cX6_becomeNamed 2 = .ok (.iconst 1, 1) := by decide +kernel
theorem dX6_becomeNamed_3 : decode cX6_becomeNamed 3 = .ok (.aload_n 0, 1) := by decide +kernel
theorem dX6_becomeNamed_4 : decode cX6_becomeNamed 4 = .ok (.iload_n 1, 1) := by decide +kernel
theorem dX6_becomeNamed_5 : decode cX6_becomeNamed 5 = .ok (.invokevirtual 67, 3) := by decide +kernel
theorem dX6_becomeNamed_8 : decode cX6_becomeNamed 8 = .ok (.aload_n 0, 1) := by decide +kernel
theorem dX6_becomeNamed_9 : decode cX6_becomeNamed 9 = .ok (.iload_n 1, 1) := by decide +kernel
theorem dX6_becomeNamed_10 : decode cX6_becomeNamed 10 = .ok (.invokevirtual 85, 3) := by decide +kernel
theorem dX6_becomeNamed_13 : decode cX6_becomeNamed 13 = .ok (.invokevirtual 81, 3) := by decide +kernel
theorem dX6_becomeNamed_16 : decode cX6_becomeNamed 16 = .ok (.iconst 1, 1) := by decide +kernel
theorem dX6_becomeNamed_17 : decode cX6_becomeNamed 17 = .ok (.ireturn, 1) := by decide +kernel
set_option maxRecDepth 20000 in
theorem ggX6_closeDoor_X6_splitterIn : GoodIn wsX6_closeDoor wsX6_splitterIn := goodIn_r _ [6, 7, 8, 9, 10, 11, 12, 13, 14, 15, 16, 17, 18, 19, 20, 21, 22, 23, 24, 25, 26, 27, 28, 29, 30, 31, 32, 33, 34, 35, 36, 37, 38, 39, 40, 41] (by decide +kernel) (by decide +kernel)
set_option maxRecDepth 20000 in
theorem gX6_closeDoor_X6_splitterIn : GoodIn wsX6_closeDoor (wsV RX6 67 RX6 yX6_splitterIn wsX6_splitterIn) := goodIn_app (goodIn_of _ (by decide +kernel)) ggX6_closeDoor_X6_splitterIn
theorem dX6_closeDoor_0 : decode cX6_closeDoor 0 = .ok (.aload_n 0, 1) := by decide +kernel
theorem dX6_closeDoor_1 : decode cX6_closeDoor 1 = .ok (.dup, 1) := by decide +kernel
theorem dX6_closeDoor_2 : decode cX6_closeDoor 2 = .ok (.getfield 64, 3) := by decide +kernel
theorem dX6_closeDoor_5 : decode cX6_closeDoor 5 = .ok (.iconst 4, 1) := by decide +kernel
theorem dX6_closeDoor_6 : decode cX6_closeDoor 6 = .ok (.iconst 3, 1) := by decide +kernel
theorem dX6_closeDoor_7 : decode cX6_closeDoor 7 = .ok (.aload_n 0, 1) := by decide +kernel
theorem dX6_closeDoor_8 : decode cX6_closeDoor 8 = .ok (.iload_n 1, 1) := by decide +kernel
theorem dX6_closeDoor_9 : decode cX6_closeDoor 9 = .ok (.invokevirtual 67, 3) := by decide +kernel
theorem dX6_closeDoor_12 : decode cX6_closeDoor 12 = .ok (.imul, 1) := by decide +kernel
theorem dX6_closeDoor_13 : decode cX6_closeDoor 13 = .ok (.ishl, 1) := by decide +kernel
theorem dX6_closeDoor_14 : decode cX6_closeDoor 14 = .ok (.ior, 1) := by decide +kernel
theorem dX6_closeDoor_15 : decode cX6_closeDoor 15 = .ok (.putfield 64, 3) := by decide +kernel
theorem dX6_closeDoor_18 : decode cX6_closeDoor 18 = .ok (.iload_n 1, 1) := by decide +kernel
theorem dX6_closeDoor_19 : decode cX6_closeDoor 19 = .ok (.ireturn, 1) := by decide +kernel
set_option maxRecDepth 20000 in
theorem ggX6_stepOf_X6_splitterIn : GoodIn wsX6_stepOf wsX6_splitterIn := goodIn_r _ [8, 9, 46, 47, 48, 49, 50, 51, 52, 53, 54, 55, 56, 57, 58, 59, 60, 61, 62, 63, 64, 65, 66, 67, 68, 69, 70, 71, 72, 73, 74, 75, 76, 77, 78, 79] (by decide +kernel) (by decide +kernel)
set_option maxRecDepth 20000 in
theorem gX6_stepOf_X6_splitterIn : GoodIn wsX6_stepOf (wsV RX6 67 RX6 yX6_splitterIn wsX6_splitterIn) := goodIn_app (goodIn_of _ (by decide +kernel)) ggX6_stepOf_X6_splitterIn
set_option maxRecDepth 20000 in
theorem ggX6_stepOf_X6_phaseIn : GoodIn wsX6_stepOf wsX6_phaseIn := goodIn_r _ [13, 9, 46, 47, 48, 49, 50, 51, 52, 53, 54, 55, 56, 57, 58, 59, 60, 61, 62, 63, 64, 65, 66, 67, 68, 69, 70, 71, 72, 73, 74, 75, 76, 77, 78, 79] (by decide +kernel) (by decide +kernel)
set_option maxRecDepth 20000 in
theorem gX6_stepOf_X6_phaseIn : GoodIn wsX6_stepOf (wsV RX6 85 RX6 yX6_phaseIn wsX6_phaseIn) := goodIn_app (goodIn_of _ (by decide +kernel)) ggX6_stepOf_X6_phaseIn
set_option maxRecDepth 20000 in
theorem ggX6_stepOf_X6_proceed : GoodIn wsX6_stepOf wsX6_proceed := goodIn_r _ [17, 4, 5, 6, 7, 8, 9, 18, 19, 20, 21, 46, 47, 48, 49, 50, 51, 52, 53, 54, 55, 56, 57, 58, 59, 60, 61, 62, 63, 64, 65, 66, 67, 68, 69, 70, 71, 72, 73, 74, 75, 76, 77, 78, 79] (by decide +kernel) (by decide +kernel)
set_option maxRecDepth 20000 in
theorem gX6_stepOf_X6_proceed : GoodIn wsX6_stepOf (wsV RX6 88 RX6 yX6_proceed wsX6_proceed) := goodIn_app (goodIn_of _ (by decide +kernel)) ggX6_stepOf_X6_proceed
set_option maxRecDepth 20000 in
theorem ggX6_stepOf_X6_doorIn : GoodIn wsX6_stepOf wsX6_doorIn := goodIn_r _ [25, 2, 46, 47, 48, 49, 50, 51, 52, 53, 54, 55, 56, 57, 58, 59, 60, 61, 62, 63, 64, 65, 66, 67, 68, 69, 70, 71, 72, 73, 74, 75, 76, 77, 78, 79] (by decide +kernel) (by decide +kernel)
set_option maxRecDepth 20000 in
theorem gX6_stepOf_X6_doorIn : GoodIn wsX6_stepOf (wsV RX6 92 RX6 yX6_doorIn wsX6_doorIn) := goodIn_app (goodIn_of _ (by decide +kernel)) ggX6_stepOf_X6_doorIn
set_option maxRecDepth 20000 in
theorem ggX6_stepOf_X6_move : GoodIn wsX6_stepOf wsX6_move := goodIn_r _ [29, 1, 30, 3, 4, 5, 6, 7, 8, 9, 31, 32, 33, 18, 19, 20, 21, 46, 47, 48, 49, 50, 51, 52, 53, 54, 55, 56, 57, 58, 59, 60, 61, 62, 63, 64, 65, 66, 67, 68, 69, 70, 71, 72, 73, 74, 75, 76, 77, 78, 79] (by decide +kernel) (by decide +kernel)
set_option maxRecDepth 20000 in
theorem gX6_stepOf_X6_move : GoodIn wsX6_stepOf (wsV RX6 95 RX6 yX6_move wsX6_move) := goodIn_app (goodIn_of _ (by decide +kernel)) ggX6_stepOf_X6_move
set_option maxRecDepth 20000 in
theorem ggX6_stepOf_X6_ownerIn : GoodIn wsX6_stepOf wsX6_ownerIn := goodIn_r _ [37, 2, 46, 47, 48, 49, 50, 51, 52, 53, 54, 55, 56, 57, 58, 59, 60, 61, 62, 63, 64, 65, 66, 67, 68, 69, 70, 71, 72, 73, 74, 75, 76, 77, 78, 79] (by decide +kernel) (by decide +kernel)
set_option maxRecDepth 20000 in
theorem gX6_stepOf_X6_ownerIn : GoodIn wsX6_stepOf (wsV RX6 99 RX6 yX6_ownerIn wsX6_ownerIn) := goodIn_app (goodIn_of _ (by decide +kernel)) ggX6_stepOf_X6_ownerIn
set_option maxRecDepth 20000 in
theorem ggX6_stepOf_X6_closeDoor : GoodIn wsX6_stepOf wsX6_closeDoor := goodIn_r _ [41, 2, 4, 5, 6, 7, 8, 9, 46, 47, 48, 49, 50, 51, 52, 53, 54, 55, 56, 57, 58, 59, 60, 61, 62, 63, 64, 65, 66, 67, 68, 69, 70, 71, 72, 73, 74, 75, 76, 77, 78, 79] (by decide +kernel) (by decide +kernel)
set_option maxRecDepth 20000 in
theorem gX6_stepOf_X6_closeDoor : GoodIn wsX6_stepOf (wsV RX6 102 RX6 yX6_closeDoor wsX6_closeDoor) := goodIn_app (goodIn_of _ (by decide +kernel)) ggX6_stepOf_X6_closeDoor
set_option maxRecDepth 20000 in
theorem ggX6_stepOf_X6_becomeNamed : GoodIn wsX6_stepOf wsX6_becomeNamed := goodIn_r _ [45, 4, 5, 6, 7, 8, 9, 10, 11, 12, 13, 18, 19, 20, 21, 46, 47, 48, 49, 50, 51, 52, 53, 54, 55, 56, 57, 58, 59, 60, 61, 62, 63, 64, 65, 66, 67, 68, 69, 70, 71, 72, 73, 74, 75, 76, 77, 78, 79] (by decide +kernel) (by decide +kernel)
set_option maxRecDepth 20000 in
theorem gX6_stepOf_X6_becomeNamed : GoodIn wsX6_stepOf (wsV RX6 105 RX6 yX6_becomeNamed wsX6_becomeNamed) := goodIn_app (goodIn_of _ (by decide +kernel)) ggX6_stepOf_X6_becomeNamed
theorem dX6_stepOf_0 : decode cX6_stepOf 0 = .ok (.aload_n 0, 1) := by decide +kernel
theorem dX6_stepOf_1 : decode cX6_stepOf 1 = .ok (.iload_n 1, 1) := by decide +kernel
theorem dX6_stepOf_2 : decode cX6_stepOf 2 = .ok (.invokevirtual 67, 3) := by decide +kernel
theorem dX6_stepOf_5 : decode cX6_stepOf 5 = .ok (.istore_n 2, 1) := by decide +kernel
theorem dX6_stepOf_6 : decode cX6_stepOf 6 = .ok (.aload_n 0, 1) := by decide +kernel
theorem dX6_stepOf_7 : decode cX6_stepOf 7 = .ok (.bipush (-9), 2) := by decide +kernel
theorem dX6_stepOf_9 : decode cX6_stepOf 9 = .ok (.putfield 74, 3) := by decide +kernel
theorem dX6_stepOf_12 : decode cX6_stepOf 12 = .ok (.aload_n 0, 1) := by decide +kernel
theorem dX6_stepOf_13 : decode cX6_stepOf 13 = .ok (.iload_n 1, 1) := by decide +kernel
theorem dX6_stepOf_14 : decode cX6_stepOf 14 = .ok (.invokevirtual 85, 3) := by decide +kernel
theorem dX6_stepOf_17 : decode cX6_stepOf 17 = .ok (.tableswitch 143 0 2 #[27, 72, 97], 27) := by decide +kernel
theorem dX6_stepOf_44 : decode cX6_stepOf 44 = .ok (.aload_n 0, 1) := by decide +kernel
theorem dX6_stepOf_45 : decode cX6_stepOf 45 = .ok (.aload_n 0, 1) := by decide +kernel
theorem dX6_stepOf_46 : decode cX6_stepOf 46 = .ok (.getfield 64, 3) := by decide +kernel
theorem dX6_stepOf_49 : decode cX6_stepOf 49 = .ok (.iconst 3, 1) := by decide +kernel
theorem dX6_stepOf_50 : decode cX6_stepOf 50 = .ok (.iconst 3, 1) := by decide +kernel
theorem dX6_stepOf_51 : decode cX6_stepOf 51 = .ok (.iload_n 2, 1) := by decide +kernel
theorem dX6_stepOf_52 : decode cX6_stepOf 52 = .ok (.imul, 1) := by decide +kernel
theorem dX6_stepOf_53 : decode cX6_stepOf 53 = .ok (.ishl, 1) := by decide +kernel
theorem dX6_stepOf_54 : decode cX6_stepOf 54 = .ok (.iconst (-1), 1) := by decide +kernel
theorem dX6_stepOf_55 : decode cX6_stepOf 55 = .ok (.ixor, 1) := by decide +kernel
theorem dX6_stepOf_56 : decode cX6_stepOf 56 = .ok (.iand, 1) := by decide +kernel
theorem dX6_stepOf_57 : decode cX6_stepOf 57 = .ok (.iload_n 1, 1) := by decide +kernel
theorem dX6_stepOf_58 : decode cX6_stepOf 58 = .ok (.iconst 1, 1) := by decide +kernel
theorem dX6_stepOf_59 : decode cX6_stepOf 59 = .ok (.iadd, 1) := by decide +kernel
theorem dX6_stepOf_60 : decode cX6_stepOf 60 = .ok (.iconst 3, 1) := by decide +kernel
theorem dX6_stepOf_61 : decode cX6_stepOf 61 = .ok (.iload_n 2, 1) := by decide +kernel
theorem dX6_stepOf_62 : decode cX6_stepOf 62 = .ok (.imul, 1) := by decide +kernel
theorem dX6_stepOf_63 : decode cX6_stepOf 63 = .ok (.ishl, 1) := by decide +kernel
theorem dX6_stepOf_64 : decode cX6_stepOf 64 = .ok (.ior, 1) := by decide +kernel
theorem dX6_stepOf_65 : decode cX6_stepOf 65 = .ok (.putfield 64, 3) := by decide +kernel
theorem dX6_stepOf_68 : decode cX6_stepOf 68 = .ok (.aload_n 0, 1) := by decide +kernel
theorem dX6_stepOf_69 : decode cX6_stepOf 69 = .ok (.iload_n 1, 1) := by decide +kernel
theorem dX6_stepOf_70 : decode cX6_stepOf 70 = .ok (.aload_n 0, 1) := by decide +kernel
theorem dX6_stepOf_71 : decode cX6_stepOf 71 = .ok (.getfield 7, 3) := by decide +kernel
theorem dX6_stepOf_74 : decode cX6_stepOf 74 = .ok (.iconst 2, 1) := by decide +kernel
theorem dX6_stepOf_75 : decode cX6_stepOf 75 = .ok (.iaload, 1) := by decide +kernel
theorem dX6_stepOf_76 : decode cX6_stepOf 76 = .ok (.iconst 1, 1) := by decide +kernel
theorem dX6_stepOf_77 : decode cX6_stepOf 77 = .ok (.if_icmp .ne 7, 3) := by decide +kernel
theorem dX6_stepOf_80 : decode cX6_stepOf 80 = .ok (.iconst 2, 1) := by decide +kernel
theorem dX6_stepOf_81 : decode cX6_stepOf 81 = .ok (.goto 4, 3) := by decide +kernel
theorem dX6_stepOf_84 : decode cX6_stepOf 84 = .ok (.iconst 1, 1) := by decide +kernel
theorem dX6_stepOf_85 : decode cX6_stepOf 85 = .ok (.invokevirtual 88, 3) := by decide +kernel
theorem dX6_stepOf_88 : decode cX6_stepOf 88 = .ok (.ireturn, 1) := by decide +kernel
theorem dX6_stepOf_89 : decode cX6_stepOf 89 = .ok (.aload_n 0, 1) := by decide +kernel
theorem dX6_stepOf_90 : decode cX6_stepOf 90 = .ok (.iload_n 2, 1) := by decide +kernel
theorem dX6_stepOf_91 : decode cX6_stepOf 91 = .ok (.invokevirtual 92, 3) := by decide +kernel
theorem dX6_stepOf_94 : decode cX6_stepOf 94 = .ok (.iconst 1, 1) := by decide +kernel
theorem dX6_stepOf_95 : decode cX6_stepOf 95 = .ok (.if_icmp .ne 12, 3) := by decide +kernel
theorem dX6_stepOf_98 : decode cX6_stepOf 98 = .ok (.aload_n 0, 1) := by decide +kernel
theorem dX6_stepOf_99 : decode cX6_stepOf 99 = .ok (.iload_n 1, 1) := by decide +kernel
theorem dX6_stepOf_100 : decode cX6_stepOf 100 = .ok (.iconst 1, 1) := by decide +kernel
theorem dX6_stepOf_101 : decode cX6_stepOf 101 = .ok (.invokevirtual 95, 3) := by decide +kernel
theorem dX6_stepOf_104 : decode cX6_stepOf 104 = .ok (.goto 9, 3) := by decide +kernel
theorem dX6_stepOf_107 : decode cX6_stepOf 107 = .ok (.aload_n 0, 1) := by decide +kernel
theorem dX6_stepOf_108 : decode cX6_stepOf 108 = .ok (.iload_n 1, 1) := by decide +kernel
theorem dX6_stepOf_109 : decode cX6_stepOf 109 = .ok (.iconst 2, 1) := by decide +kernel
theorem dX6_stepOf_110 : decode cX6_stepOf 110 = .ok (.invokevirtual 88, 3) := by decide +kernel
theorem dX6_stepOf_113 : decode cX6_stepOf 113 = .ok (.ireturn, 1) := by decide +kernel
theorem dX6_stepOf_114 : decode cX6_stepOf 114 = .ok (.aload_n 0, 1) := by decide +kernel
theorem dX6_stepOf_115 : decode cX6_stepOf 115 = .ok (.getfield 7, 3) := by decide +kernel
theorem dX6_stepOf_118 : decode cX6_stepOf 118 = .ok (.iconst 2, 1) := by decide +kernel
theorem dX6_stepOf_119 : decode cX6_stepOf 119 = .ok (.iaload, 1) := by decide +kernel
theorem dX6_stepOf_120 : decode cX6_stepOf 120 = .ok (.iconst 2, 1) := by decide +kernel
theorem dX6_stepOf_121 : decode cX6_stepOf 121 = .ok (.if_icmp .ne 28, 3) := by decide +kernel
theorem dX6_stepOf_124 : decode cX6_stepOf 124 = .ok (.aload_n 0, 1) := by decide +kernel
theorem dX6_stepOf_125 : decode cX6_stepOf 125 = .ok (.iload_n 2, 1) := by decide +kernel
theorem dX6_stepOf_126 : decode cX6_stepOf 126 = .ok (.invokevirtual 99, 3) := by decide +kernel
theorem dX6_stepOf_129 : decode cX6_stepOf 129 = .ok (.iload_n 1, 1) := by decide +kernel
theorem dX6_stepOf_130 : decode cX6_stepOf 130 = .ok (.if_icmp .ne 12, 3) := by decide +kernel
theorem dX6_stepOf_133 : decode cX6_stepOf 133 = .ok (.aload_n 0, 1) := by decide +kernel
theorem dX6_stepOf_134 : decode cX6_stepOf 134 = .ok (.iload_n 1, 1) := by decide +kernel
theorem dX6_stepOf_135 : decode cX6_stepOf 135 = .ok (.iconst 3, 1) := by decide +kernel
theorem dX6_stepOf_136 : decode cX6_stepOf 136 = .ok (.invokevirtual 88, 3) := by decide +kernel
theorem dX6_stepOf_139 : decode cX6_stepOf 139 = .ok (.goto 9, 3) := by decide +kernel
theorem dX6_stepOf_142 : decode cX6_stepOf 142 = .ok (.aload_n 0, 1) := by decide +kernel
theorem dX6_stepOf_143 : decode cX6_stepOf 143 = .ok (.iload_n 1, 1) := by decide +kernel
theorem dX6_stepOf_144 : decode cX6_stepOf 144 = .ok (.iconst 0, 1) := by decide +kernel
theorem dX6_stepOf_145 : decode cX6_stepOf 145 = .ok (.invokevirtual 95, 3) := by decide +kernel
theorem dX6_stepOf_148 : decode cX6_stepOf 148 = .ok (.ireturn, 1) := by decide +kernel
theorem dX6_stepOf_149 : decode cX6_stepOf 149 = .ok (.aload_n 0, 1) := by decide +kernel
theorem dX6_stepOf_150 : decode cX6_stepOf 150 = .ok (.aload_n 0, 1) := by decide +kernel
theorem dX6_stepOf_151 : decode cX6_stepOf 151 = .ok (.iload_n 1, 1) := by decide +kernel
theorem dX6_stepOf_152 : decode cX6_stepOf 152 = .ok (.invokevirtual 102, 3) := by decide +kernel
theorem dX6_stepOf_155 : decode cX6_stepOf 155 = .ok (.iconst 3, 1) := by decide +kernel
theorem dX6_stepOf_156 : decode cX6_stepOf 156 = .ok (.invokevirtual 88, 3) := by decide +kernel
theorem dX6_stepOf_159 : decode cX6_stepOf 159 = .ok (.ireturn, 1) := by decide +kernel
theorem dX6_stepOf_160 : decode cX6_stepOf 160 = .ok (.aload_n 0, 1) := by decide +kernel
theorem dX6_stepOf_161 : decode cX6_stepOf 161 = .ok (.getfield 7, 3) := by decide +kernel
theorem dX6_stepOf_164 : decode cX6_stepOf 164 = .ok (.iconst 2, 1) := by decide +kernel
theorem dX6_stepOf_165 : decode cX6_stepOf 165 = .ok (.iaload, 1) := by decide +kernel
theorem dX6_stepOf_166 : decode cX6_stepOf 166 = .ok (.iconst 2, 1) := by decide +kernel
theorem dX6_stepOf_167 : decode cX6_stepOf 167 = .ok (.if_icmp .ne 13, 3) := by decide +kernel
theorem dX6_stepOf_170 : decode cX6_stepOf 170 = .ok (.aload_n 0, 1) := by decide +kernel
theorem dX6_stepOf_171 : decode cX6_stepOf 171 = .ok (.aload_n 0, 1) := by decide +kernel
theorem dX6_stepOf_172 : decode cX6_stepOf 172 = .ok (.iload_n 1, 1) := by decide +kernel
theorem dX6_stepOf_173 : decode cX6_stepOf 173 = .ok (.invokevirtual 102, 3) := by decide +kernel
theorem dX6_stepOf_176 : decode cX6_stepOf 176 = .ok (.invokevirtual 105, 3) := by decide +kernel
theorem dX6_stepOf_179 : decode cX6_stepOf 179 = .ok (.ireturn, 1) := by decide +kernel
theorem dX6_stepOf_180 : decode cX6_stepOf 180 = .ok (.aload_n 0, 1) := by decide +kernel
theorem dX6_stepOf_181 : decode cX6_stepOf 181 = .ok (.iload_n 2, 1) := by decide +kernel
theorem dX6_stepOf_182 : decode cX6_stepOf 182 = .ok (.invokevirtual 99, 3) := by decide +kernel
theorem dX6_stepOf_185 : decode cX6_stepOf 185 = .ok (.iload_n 1, 1) := by decide +kernel
theorem dX6_stepOf_186 : decode cX6_stepOf 186 = .ok (.if_icmp .ne 11, 3) := by decide +kernel
theorem dX6_stepOf_189 : decode cX6_stepOf 189 = .ok (.aload_n 0, 1) := by decide +kernel
theorem dX6_stepOf_190 : decode cX6_stepOf 190 = .ok (.iload_n 1, 1) := by decide +kernel
theorem dX6_stepOf_191 : decode cX6_stepOf 191 = .ok (.invokevirtual 105, 3) := by decide +kernel
theorem dX6_stepOf_194 : decode cX6_stepOf 194 = .ok (.goto 9, 3) := by decide +kernel
theorem dX6_stepOf_197 : decode cX6_stepOf 197 = .ok (.aload_n 0, 1) := by decide +kernel
theorem dX6_stepOf_198 : decode cX6_stepOf 198 = .ok (.iload_n 1, 1) := by decide +kernel
theorem dX6_stepOf_199 : decode cX6_stepOf 199 = .ok (.iconst 0, 1) := by decide +kernel
theorem dX6_stepOf_200 : decode cX6_stepOf 200 = .ok (.invokevirtual 95, 3) := by decide +kernel
theorem dX6_stepOf_203 : decode cX6_stepOf 203 = .ok (.ireturn, 1) := by decide +kernel
theorem dX6_take_0 : decode cX6_take 0 = .ok (.aload_n 0, 1) := by decide +kernel
theorem dX6_take_1 : decode cX6_take 1 = .ok (.aload_n 0, 1) := by decide +kernel
theorem dX6_take_2 : decode cX6_take 2 = .ok (.getfield 7, 3) := by decide +kernel
theorem dX6_take_5 : decode cX6_take 5 = .ok (.iconst 3, 1) := by decide +kernel
theorem dX6_take_6 : decode cX6_take 6 = .ok (.iaload, 1) := by decide +kernel
theorem dX6_take_7 : decode cX6_take 7 = .ok (.putfield 64, 3) := by decide +kernel
theorem dX6_take_10 : decode cX6_take 10 = .ok (.aload_n 0, 1) := by decide +kernel
theorem dX6_take_11 : decode cX6_take 11 = .ok (.aload_n 0, 1) := by decide +kernel
theorem dX6_take_12 : decode cX6_take 12 = .ok (.getfield 7, 3) := by decide +kernel
theorem dX6_take_15 : decode cX6_take 15 = .ok (.iconst 4, 1) := by decide +kernel
theorem dX6_take_16 : decode cX6_take 16 = .ok (.iaload, 1) := by decide +kernel
theorem dX6_take_17 : decode cX6_take 17 = .ok (.putfield 61, 3) := by decide +kernel
theorem dX6_take_20 : decode cX6_take 20 = .ok (.return_, 1) := by decide +kernel
theorem dX6_keep_0 : decode cX6_keep 0 = .ok (.aload_n 0, 1) := by decide +kernel
theorem dX6_keep_1 : decode cX6_keep 1 = .ok (.getfield 108, 3) := by decide +kernel
theorem dX6_keep_4 : decode cX6_keep 4 = .ok (.bipush 8, 2) := by decide +kernel
theorem dX6_keep_6 : decode cX6_keep 6 = .ok (.if_icmp .ne 43, 3) := by decide +kernel
theorem dX6_keep_9 : decode cX6_keep 9 = .ok (.iconst 0, 1) := by decide +kernel
theorem dX6_keep_10 : decode cX6_keep 10 = .ok (.istore_n 1, 1) := by decide +kernel
theorem dX6_keep_11 : decode cX6_keep 11 = .ok (.iload_n 1, 1) := by decide +kernel
theorem dX6_keep_12 : decode cX6_keep 12 = .ok (.sipush 266, 3) := by decide +kernel
theorem dX6_keep_15 : decode cX6_keep 15 = .ok (.if_icmp .ge 24, 3) := by decide +kernel
theorem dX6_keep_18 : decode cX6_keep 18 = .ok (.aload_n 0, 1) := by decide +kernel
theorem dX6_keep_19 : decode cX6_keep 19 = .ok (.getfield 13, 3) := by decide +kernel
theorem dX6_keep_22 : decode cX6_keep 22 = .ok (.iload_n 1, 1) := by decide +kernel
theorem dX6_keep_23 : decode cX6_keep 23 = .ok (.aload_n 0, 1) := by decide +kernel
theorem dX6_keep_24 : decode cX6_keep 24 = .ok (.getfield 13, 3) := by decide +kernel
theorem dX6_keep_27 : decode cX6_keep 27 = .ok (.bipush 38, 2) := by decide +kernel
theorem dX6_keep_29 : decode cX6_keep 29 = .ok (.iload_n 1, 1) := by decide +kernel
theorem dX6_keep_30 : decode cX6_keep 30 = .ok (.iadd, 1) := by decide +kernel
theorem dX6_keep_31 : decode cX6_keep 31 = .ok (.iaload, 1) := by decide +kernel
theorem dX6_keep_32 : decode cX6_keep 32 = .ok (.iastore, 1) := by decide +kernel
theorem dX6_keep_33 : decode cX6_keep 33 = .ok (.iinc 1 1, 3) := by decide +kernel
theorem dX6_keep_36 : decode cX6_keep 36 = .ok (.goto (-25), 3) := by decide +kernel
theorem dX6_keep_39 : decode cX6_keep 39 = .ok (.aload_n 0, 1) := by decide +kernel
theorem dX6_keep_40 : decode cX6_keep 40 = .ok (.dup, 1) := by decide +kernel
theorem dX6_keep_41 : decode cX6_keep 41 = .ok (.getfield 108, 3) := by decide +kernel
theorem dX6_keep_44 : decode cX6_keep 44 = .ok (.iconst 1, 1) := by decide +kernel
theorem dX6_keep_45 : decode cX6_keep 45 = .ok (.isub, 1) := by decide +kernel
theorem dX6_keep_46 : decode cX6_keep 46 = .ok (.putfield 108, 3) := by decide +kernel
theorem dX6_keep_49 : decode cX6_keep 49 = .ok (.iconst 0, 1) := by decide +kernel
theorem dX6_keep_50 : decode cX6_keep 50 = .ok (.istore_n 1, 1) := by decide +kernel
theorem dX6_keep_51 : decode cX6_keep 51 = .ok (.iload_n 1, 1) := by decide +kernel
theorem dX6_keep_52 : decode cX6_keep 52 = .ok (.bipush 38, 2) := by decide +kernel
theorem dX6_keep_54 : decode cX6_keep 54 = .ok (.if_icmp .ge 29, 3) := by decide +kernel
theorem dX6_keep_57 : decode cX6_keep 57 = .ok (.aload_n 0, 1) := by decide +kernel
theorem dX6_keep_58 : decode cX6_keep 58 = .ok (.getfield 13, 3) := by decide +kernel
theorem dX6_keep_61 : decode cX6_keep 61 = .ok (.bipush 38, 2) := by decide +kernel
theorem dX6_keep_63 : decode cX6_keep 63 = .ok (.aload_n 0, 1) := by decide +kernel
theorem dX6_keep_64 : decode cX6_keep 64 = .ok (.getfield 108, 3) := by decide +kernel
theorem dX6_keep_67 : decode cX6_keep 67 = .ok (.imul, 1) := by decide +kernel
theorem dX6_keep_68 : decode cX6_keep 68 = .ok (.iload_n 1, 1) := by decide +kernel
theorem dX6_keep_69 : decode cX6_keep 69 = .ok (.iadd, 1) := by decide +kernel
theorem dX6_keep_70 : decode cX6_keep 70 = .ok (.aload_n 0, 1) := by decide +kernel
theorem dX6_keep_71 : decode cX6_keep 71 = .ok (.getfield 7, 3) := by decide +kernel
theorem dX6_keep_74 : decode cX6_keep 74 = .ok (.iload_n 1, 1) := by decide +kernel
theorem dX6_keep_75 : decode cX6_keep 75 = .ok (.iaload, 1) := by decide +kernel
theorem dX6_keep_76 : decode cX6_keep 76 = .ok (.iastore, 1) := by decide +kernel
theorem dX6_keep_77 : decode cX6_keep 77 = .ok (.iinc 1 1, 3) := by decide +kernel
theorem dX6_keep_80 : decode cX6_keep 80 = .ok (.goto (-29), 3) := by decide +kernel
theorem dX6_keep_83 : decode cX6_keep 83 = .ok (.aload_n 0, 1) := by decide +kernel
theorem dX6_keep_84 : decode cX6_keep 84 = .ok (.dup, 1) := by decide +kernel
theorem dX6_keep_85 : decode cX6_keep 85 = .ok (.getfield 108, 3) := by decide +kernel
theorem dX6_keep_88 : decode cX6_keep 88 = .ok (.iconst 1, 1) := by decide +kernel
theorem dX6_keep_89 : decode cX6_keep 89 = .ok (.iadd, 1) := by decide +kernel
theorem dX6_keep_90 : decode cX6_keep 90 = .ok (.putfield 108, 3) := by decide +kernel
theorem dX6_keep_93 : decode cX6_keep 93 = .ok (.aload_n 0, 1) := by decide +kernel
theorem dX6_keep_94 : decode cX6_keep 94 = .ok (.iconst 0, 1) := by decide +kernel
theorem dX6_keep_95 : decode cX6_keep 95 = .ok (.putfield 111, 3) := by decide +kernel
theorem dX6_keep_98 : decode cX6_keep 98 = .ok (.return_, 1) := by decide +kernel
theorem dX6_begin_0 : decode cX6_begin 0 = .ok (.iconst 0, 1) := by decide +kernel
theorem dX6_begin_1 : decode cX6_begin 1 = .ok (.istore 4, 2) := by decide +kernel
theorem dX6_begin_3 : decode cX6_begin 3 = .ok (.iload 4, 2) := by decide +kernel
theorem dX6_begin_5 : decode cX6_begin 5 = .ok (.bipush 38, 2) := by decide +kernel
theorem dX6_begin_7 : decode cX6_begin 7 = .ok (.if_icmp .ge 17, 3) := by decide +kernel
theorem dX6_begin_10 : decode cX6_begin 10 = .ok (.aload_n 0, 1) := by decide +kernel
theorem dX6_begin_11 : decode cX6_begin 11 = .ok (.getfield 7, 3) := by decide +kernel
theorem dX6_begin_14 : decode cX6_begin 14 = .ok (.iload 4, 2) := by decide +kernel
theorem dX6_begin_16 : decode cX6_begin 16 = .ok (.iconst 0, 1) := by decide +kernel
theorem dX6_begin_17 : decode cX6_begin 17 = .ok (.iastore, 1) := by decide +kernel
theorem dX6_begin_18 : decode cX6_begin 18 = .ok (.iinc 4 1, 3) := by decide +kernel
theorem dX6_begin_21 : decode cX6_begin 21 = .ok (.goto (-18), 3) := by decide +kernel
theorem dX6_begin_24 : decode cX6_begin 24 = .ok (.aload_n 0, 1) := by decide +kernel
theorem dX6_begin_25 : decode cX6_begin 25 = .ok (.getfield 7, 3) := by decide +kernel
theorem dX6_begin_28 : decode cX6_begin 28 = .ok (.iconst 0, 1) := by decide +kernel
theorem dX6_begin_29 : decode cX6_begin 29 = .ok (.iload_n 1, 1) := by decide +kernel
theorem dX6_begin_30 : decode cX6_begin 30 = .ok (.iastore, 1) := by decide +kernel
theorem dX6_begin_31 : decode cX6_begin 31 = .ok (.aload_n 0, 1) := by decide +kernel
theorem dX6_begin_32 : decode cX6_begin 32 = .ok (.getfield 7, 3) := by decide +kernel
theorem dX6_begin_35 : decode cX6_begin 35 = .ok (.iconst 1, 1) := by decide +kernel
theorem dX6_begin_36 : decode cX6_begin 36 = .ok (.iload_n 2, 1) := by decide +kernel
theorem dX6_begin_37 : decode cX6_begin 37 = .ok (.iastore, 1) := by decide +kernel
theorem dX6_begin_38 : decode cX6_begin 38 = .ok (.aload_n 0, 1) := by decide +kernel
theorem dX6_begin_39 : decode cX6_begin 39 = .ok (.getfield 7, 3) := by decide +kernel
theorem dX6_begin_42 : decode cX6_begin 42 = .ok (.iconst 2, 1) := by decide +kernel
theorem dX6_begin_43 : decode cX6_begin 43 = .ok (.iload_n 3, 1) := by decide +kernel
theorem dX6_begin_44 : decode cX6_begin 44 = .ok (.iastore, 1) := by decide +kernel
theorem dX6_begin_45 : decode cX6_begin 45 = .ok (.aload_n 0, 1) := by decide +kernel
theorem dX6_begin_46 : decode cX6_begin 46 = .ok (.getfield 7, 3) := by decide +kernel
theorem dX6_begin_49 : decode cX6_begin 49 = .ok (.bipush 8, 2) := by decide +kernel
theorem dX6_begin_51 : decode cX6_begin 51 = .ok (.iload_n 2, 1) := by decide +kernel
theorem dX6_begin_52 : decode cX6_begin 52 = .ok (.iastore, 1) := by decide +kernel
theorem dX6_begin_53 : decode cX6_begin 53 = .ok (.return_, 1) := by decide +kernel
theorem dX6_names_0 : decode cX6_names 0 = .ok (.aload_n 0, 1) := by decide +kernel
theorem dX6_names_1 : decode cX6_names 1 = .ok (.getfield 7, 3) := by decide +kernel
theorem dX6_names_4 : decode cX6_names 4 = .ok (.iconst 0, 1) := by decide +kernel
theorem dX6_names_5 : decode cX6_names 5 = .ok (.iaload, 1) := by decide +kernel
theorem dX6_names_6 : decode cX6_names 6 = .ok (.aload_n 0, 1) := by decide +kernel
theorem dX6_names_7 : decode cX6_names 7 = .ok (.getfield 7, 3) := by decide +kernel
theorem dX6_names_10 : decode cX6_names 10 = .ok (.iconst 0, 1) := by decide +kernel
theorem dX6_names_11 : decode cX6_names 11 = .ok (.iaload, 1) := by decide +kernel
theorem dX6_names_12 : decode cX6_names 12 = .ok (.iconst 1, 1) := by decide +kernel
theorem dX6_names_13 : decode cX6_names 13 = .ok (.iadd, 1) := by decide +kernel
theorem dX6_names_14 : decode cX6_names 14 = .ok (.imul, 1) := by decide +kernel
theorem dX6_names_15 : decode cX6_names 15 = .ok (.iconst 2, 1) := by decide +kernel
theorem dX6_names_16 : decode cX6_names 16 = .ok (.idiv, 1) := by decide +kernel
theorem dX6_names_17 : decode cX6_names 17 = .ok (.ireturn, 1) := by decide +kernel
set_option maxRecDepth 20000 in
theorem ggX6_configure_X6_in : GoodIn wsX6_configure wsX6_in := goodIn_r _ [5] (by decide +kernel) (by decide +kernel)
set_option maxRecDepth 20000 in
theorem gX6_configure_X6_in : GoodIn wsX6_configure (va_wsS RX6 114 yX6_in wsX6_in) := goodIn_app (goodIn_of _ (by decide +kernel)) ggX6_configure_X6_in
set_option maxRecDepth 20000 in
theorem ggX6_configure_X6_keep : GoodIn wsX6_configure wsX6_keep := goodIn_r _ [9, 10, 11, 12, 13, 22, 23, 24, 25, 26, 27, 28, 29, 30, 31, 32, 33, 34, 35, 36, 37, 38, 39, 40, 41, 42, 43, 44, 45, 46, 47, 48, 49, 50, 51, 52, 53, 54, 55] (by decide +kernel) (by decide +kernel)
set_option maxRecDepth 20000 in
theorem gX6_configure_X6_keep : GoodIn wsX6_configure (wsV RX6 118 RX6 yX6_keep wsX6_keep) := goodIn_app (goodIn_of _ (by decide +kernel)) ggX6_configure_X6_keep
set_option maxRecDepth 20000 in
theorem ggX6_configure_X6_begin : GoodIn wsX6_configure wsX6_begin := goodIn_r _ [17, 12, 22, 23, 24, 25, 26, 27, 28, 29, 30, 31, 32, 33, 34, 35, 36, 37, 38, 39, 40, 41, 42, 43, 44, 45, 46, 47, 48, 49, 50, 51, 52, 53, 54, 55] (by decide +kernel) (by decide +kernel)
set_option maxRecDepth 20000 in
theorem gX6_configure_X6_begin : GoodIn wsX6_configure (wsV RX6 53 RX6 yX6_begin wsX6_begin) := goodIn_app (goodIn_of _ (by decide +kernel)) ggX6_configure_X6_begin
set_option maxRecDepth 20000 in
theorem ggX6_configure_X6_names : GoodIn wsX6_configure wsX6_names := goodIn_r _ [21, 12, 22, 23, 24, 25, 26, 27, 28, 29, 30, 31, 32, 33, 34, 35, 36, 37, 38, 39, 40, 41, 42, 43, 44, 45, 46, 47, 48, 49, 50, 51, 52, 53, 54, 55] (by decide +kernel) (by decide +kernel)
set_option maxRecDepth 20000 in
theorem gX6_configure_X6_names : GoodIn wsX6_configure (wsV RX6 121 RX6 yX6_names wsX6_names) := goodIn_app (goodIn_of _ (by decide +kernel)) ggX6_configure_X6_names
theorem dX6_configure_0 : decode cX6_configure 0 = .ok (.aload_n 0, 1) := by decide +kernel
theorem dX6_configure_1 : decode cX6_configure 1 = .ok (.iconst 0, 1) := by decide +kernel
theorem dX6_configure_2 : decode cX6_configure 2 = .ok (.putfield 57, 3) := by decide +kernel
theorem dX6_configure_5 : decode cX6_configure 5 = .ok (.iload_n 1, 1) := by decide +kernel
theorem dX6_configure_6 : decode cX6_configure 6 = .ok (.iconst 2, 1) := by decide +kernel
theorem dX6_configure_7 : decode cX6_configure 7 = .ok (.iconst 4, 1) := by decide +kernel
theorem dX6_configure_8 : decode cX6_configure 8 = .ok (.invokestatic 114, 3) := by decide +kernel
theorem dX6_configure_11 : decode cX6_configure 11 = .ok (.ifCond .eq 21, 3) := by decide +kernel
theorem dX6_configure_14 : decode cX6_configure 14 = .ok (.iload_n 2, 1) := by decide +kernel
theorem dX6_configure_15 : decode cX6_configure 15 = .ok (.iconst 1, 1) := by decide +kernel
theorem dX6_configure_16 : decode cX6_configure 16 = .ok (.iconst 3, 1) := by decide +kernel
theorem dX6_configure_17 : decode cX6_configure 17 = .ok (.invokestatic 114, 3) := by decide +kernel
theorem dX6_configure_20 : decode cX6_configure 20 = .ok (.ifCond .eq 12, 3) := by decide +kernel
theorem dX6_configure_23 : decode cX6_configure 23 = .ok (.iload_n 3, 1) := by decide +kernel
theorem dX6_configure_24 : decode cX6_configure 24 = .ok (.iconst 0, 1) := by decide +kernel
theorem dX6_configure_25 : decode cX6_configure 25 = .ok (.iconst 2, 1) := by decide +kernel
theorem dX6_configure_26 : decode cX6_configure 26 = .ok (.invokestatic 114, 3) := by decide +kernel
theorem dX6_configure_29 : decode cX6_configure 29 = .ok (.ifCond .ne 5, 3) := by decide +kernel
theorem dX6_configure_32 : decode cX6_configure 32 = .ok (.iconst (-1), 1) := by decide +kernel
theorem dX6_configure_33 : decode cX6_configure 33 = .ok (.ireturn, 1) := by decide +kernel
theorem dX6_configure_34 : decode cX6_configure 34 = .ok (.aload_n 0, 1) := by decide +kernel
theorem dX6_configure_35 : decode cX6_configure 35 = .ok (.invokevirtual 118, 3) := by decide +kernel
theorem dX6_configure_38 : decode cX6_configure 38 = .ok (.aload_n 0, 1) := by decide +kernel
theorem dX6_configure_39 : decode cX6_configure 39 = .ok (.iload_n 1, 1) := by decide +kernel
theorem dX6_configure_40 : decode cX6_configure 40 = .ok (.iload_n 2, 1) := by decide +kernel
theorem dX6_configure_41 : decode cX6_configure 41 = .ok (.iload_n 3, 1) := by decide +kernel
theorem dX6_configure_42 : decode cX6_configure 42 = .ok (.invokevirtual 53, 3) := by decide +kernel
theorem dX6_configure_45 : decode cX6_configure 45 = .ok (.aload_n 0, 1) := by decide +kernel
theorem dX6_configure_46 : decode cX6_configure 46 = .ok (.invokevirtual 121, 3) := by decide +kernel
theorem dX6_configure_49 : decode cX6_configure 49 = .ok (.ireturn, 1) := by decide +kernel
set_option maxRecDepth 20000 in
theorem ggX6_nameCount_X6_names : GoodIn wsX6_nameCount wsX6_names := goodIn_r _ [6, 7, 8, 9, 10, 11, 12, 13, 14, 15, 16, 17, 18, 19, 20, 21, 22, 23, 24, 25, 26, 27, 28, 29, 30, 31, 32, 33, 34, 35, 36, 37, 38, 39, 40, 41] (by decide +kernel) (by decide +kernel)
set_option maxRecDepth 20000 in
theorem gX6_nameCount_X6_names : GoodIn wsX6_nameCount (wsV RX6 121 RX6 yX6_names wsX6_names) := goodIn_app (goodIn_of _ (by decide +kernel)) ggX6_nameCount_X6_names
theorem dX6_nameCount_0 : decode cX6_nameCount 0 = .ok (.aload_n 0, 1) := by decide +kernel
theorem dX6_nameCount_1 : decode cX6_nameCount 1 = .ok (.iconst 0, 1) := by decide +kernel
theorem dX6_nameCount_2 : decode cX6_nameCount 2 = .ok (.putfield 57, 3) := by decide +kernel
theorem dX6_nameCount_5 : decode cX6_nameCount 5 = .ok (.aload_n 0, 1) := by decide +kernel
theorem dX6_nameCount_6 : decode cX6_nameCount 6 = .ok (.invokevirtual 121, 3) := by decide +kernel
theorem dX6_nameCount_9 : decode cX6_nameCount 9 = .ok (.ireturn, 1) := by decide +kernel
theorem dX6_processCount_0 : decode cX6_processCount 0 = .ok (.aload_n 0, 1) := by decide +kernel
theorem dX6_processCount_1 : decode cX6_processCount 1 = .ok (.iconst 0, 1) := by decide +kernel
theorem dX6_processCount_2 : decode cX6_processCount 2 = .ok (.putfield 57, 3) := by decide +kernel
theorem dX6_processCount_5 : decode cX6_processCount 5 = .ok (.aload_n 0, 1) := by decide +kernel
theorem dX6_processCount_6 : decode cX6_processCount 6 = .ok (.getfield 7, 3) := by decide +kernel
theorem dX6_processCount_9 : decode cX6_processCount 9 = .ok (.iconst 1, 1) := by decide +kernel
theorem dX6_processCount_10 : decode cX6_processCount 10 = .ok (.iaload, 1) := by decide +kernel
theorem dX6_processCount_11 : decode cX6_processCount 11 = .ok (.ireturn, 1) := by decide +kernel
set_option maxRecDepth 20000 in
theorem ggX6_isProcess_X6_in : GoodIn wsX6_isProcess wsX6_in := goodIn_r _ [5] (by decide +kernel) (by decide +kernel)
set_option maxRecDepth 20000 in
theorem gX6_isProcess_X6_in : GoodIn wsX6_isProcess (va_wsS RX6 114 yX6_in wsX6_in) := goodIn_app (goodIn_of _ (by decide +kernel)) ggX6_isProcess_X6_in
theorem dX6_isProcess_0 : decode cX6_isProcess 0 = .ok (.iload_n 1, 1) := by decide +kernel
theorem dX6_isProcess_1 : decode cX6_isProcess 1 = .ok (.iconst 0, 1) := by decide +kernel
theorem dX6_isProcess_2 : decode cX6_isProcess 2 = .ok (.aload_n 0, 1) := by decide +kernel
theorem dX6_isProcess_3 : decode cX6_isProcess 3 = .ok (.getfield 7, 3) := by decide +kernel
theorem dX6_isProcess_6 : decode cX6_isProcess 6 = .ok (.iconst 1, 1) := by decide +kernel
theorem dX6_isProcess_7 : decode cX6_isProcess 7 = .ok (.iaload, 1) := by decide +kernel
theorem dX6_isProcess_8 : decode cX6_isProcess 8 = .ok (.iconst 1, 1) := by decide +kernel
theorem dX6_isProcess_9 : decode cX6_isProcess 9 = .ok (.isub, 1) := by decide +kernel
theorem dX6_isProcess_10 : decode cX6_isProcess 10 = .ok (.invokestatic 114, 3) := by decide +kernel
theorem dX6_isProcess_13 : decode cX6_isProcess 13 = .ok (.ireturn, 1) := by decide +kernel
set_option maxRecDepth 20000 in
theorem ggX6_running_X6_take : GoodIn wsX6_running wsX6_take := goodIn_r _ [6, 1, 7, 8, 13, 14, 15, 16, 17, 18, 19, 20, 21, 22, 23, 24, 25, 26, 27, 28, 29, 30, 31, 32, 33, 34, 35, 36, 37, 38, 39, 40, 41, 42, 43, 44, 45, 46] (by decide +kernel) (by decide +kernel)
set_option maxRecDepth 20000 in
theorem gX6_running_X6_take : GoodIn wsX6_running (wsV RX6 125 RX6 yX6_take wsX6_take) := goodIn_app (goodIn_of _ (by decide +kernel)) ggX6_running_X6_take
set_option maxRecDepth 20000 in
theorem ggX6_running_X6_statusIn : GoodIn wsX6_running wsX6_statusIn := goodIn_r _ [12, 8, 13, 14, 15, 16, 17, 18, 19, 20, 21, 22, 23, 24, 25, 26, 27, 28, 29, 30, 31, 32, 33, 34, 35, 36, 37, 38, 39, 40, 41, 42, 43, 44, 45, 46] (by decide +kernel) (by decide +kernel)
set_option maxRecDepth 20000 in
theorem gX6_running_X6_statusIn : GoodIn wsX6_running (wsV RX6 128 RX6 yX6_statusIn wsX6_statusIn) := goodIn_app (goodIn_of _ (by decide +kernel)) ggX6_running_X6_statusIn
theorem dX6_running_0 : decode cX6_running 0 = .ok (.aload_n 0, 1) := by decide +kernel
theorem dX6_running_1 : decode cX6_running 1 = .ok (.invokevirtual 125, 3) := by decide +kernel
theorem dX6_running_4 : decode cX6_running 4 = .ok (.iconst 0, 1) := by decide +kernel
theorem dX6_running_5 : decode cX6_running 5 = .ok (.istore_n 1, 1) := by decide +kernel
theorem dX6_running_6 : decode cX6_running 6 = .ok (.iconst 0, 1) := by decide +kernel
theorem dX6_running_7 : decode cX6_running 7 = .ok (.istore_n 2, 1) := by decide +kernel
theorem dX6_running_8 : decode cX6_running 8 = .ok (.iload_n 2, 1) := by decide +kernel
theorem dX6_running_9 : decode cX6_running 9 = .ok (.aload_n 0, 1) := by decide +kernel
theorem dX6_running_10 : decode cX6_running 10 = .ok (.getfield 7, 3) := by decide +kernel
theorem dX6_running_13 : decode cX6_running 13 = .ok (.iconst 1, 1) := by decide +kernel
theorem dX6_running_14 : decode cX6_running 14 = .ok (.iaload, 1) := by decide +kernel
theorem dX6_running_15 : decode cX6_running 15 = .ok (.if_icmp .ge 25, 3) := by decide +kernel
theorem dX6_running_18 : decode cX6_running 18 = .ok (.iload_n 1, 1) := by decide +kernel
theorem dX6_running_19 : decode cX6_running 19 = .ok (.aload_n 0, 1) := by decide +kernel
theorem dX6_running_20 : decode cX6_running 20 = .ok (.iload_n 2, 1) := by decide +kernel
theorem dX6_running_21 : decode cX6_running 21 = .ok (.invokevirtual 128, 3) := by decide +kernel
theorem dX6_running_24 : decode cX6_running 24 = .ok (.ifCond .ne 7, 3) := by decide +kernel
theorem dX6_running_27 : decode cX6_running 27 = .ok (.iconst 1, 1) := by decide +kernel
theorem dX6_running_28 : decode cX6_running 28 = .ok (.goto 4, 3) := by decide +kernel
theorem dX6_running_31 : decode cX6_running 31 = .ok (.iconst 0, 1) := by decide +kernel
theorem dX6_running_32 : decode cX6_running 32 = .ok (.iadd, 1) := by decide +kernel
theorem dX6_running_33 : decode cX6_running 33 = .ok (.istore_n 1, 1) := by decide +kernel
theorem dX6_running_34 : decode cX6_running 34 = .ok (.iinc 2 1, 3) := by decide +kernel
theorem dX6_running_37 : decode cX6_running 37 = .ok (.goto (-29), 3) := by decide +kernel
theorem dX6_running_40 : decode cX6_running 40 = .ok (.iload_n 1, 1) := by decide +kernel
theorem dX6_running_41 : decode cX6_running 41 = .ok (.ireturn, 1) := by decide +kernel
set_option maxRecDepth 20000 in
theorem ggX6_make_X6_take : GoodIn wsX6_make wsX6_take := goodIn_r _ [10, 1, 2, 3, 54, 55, 56, 57, 58, 59, 60, 61, 62, 63, 64, 65, 66, 67, 68, 69, 70, 71, 72, 73, 74, 75, 76, 77, 78, 79, 80, 81, 82, 83, 84, 85, 86, 87] (by decide +kernel) (by decide +kernel)
set_option maxRecDepth 20000 in
theorem gX6_make_X6_take : GoodIn wsX6_make (wsV RX6 125 RX6 yX6_take wsX6_take) := goodIn_app (goodIn_of _ (by decide +kernel)) ggX6_make_X6_take
set_option maxRecDepth 20000 in
theorem ggX6_make_X6_stepOf : GoodIn wsX6_make wsX6_stepOf := goodIn_r _ [14, 4, 2, 1, 15, 16, 17, 9, 18, 3, 19, 20, 21, 22, 23, 24, 25, 26, 27, 28, 29, 30, 31, 32, 33, 34, 35, 36, 37, 38, 5, 39, 40, 41, 42, 43, 44, 45, 46, 47, 48, 49, 50, 51, 52, 53, 54, 55, 56, 57, 58, 59, 60, 61, 62, 63, 64, 65, 66, 67, 68, 69, 70, 71, 72, 73, 74, 75, 76, 77, 78, 79, 80, 81, 82, 83, 84, 85, 86, 87] (by decide +kernel) (by decide +kernel)
set_option maxRecDepth 20000 in
theorem gX6_make_X6_stepOf : GoodIn wsX6_make (wsV RX6 131 RX6 yX6_stepOf wsX6_stepOf) := goodIn_app (goodIn_of _ (by decide +kernel)) ggX6_make_X6_stepOf
set_option maxRecDepth 20000 in
theorem ggX6_make_X6_splitterIn : GoodIn wsX6_make wsX6_splitterIn := goodIn_r _ [18, 3, 54, 55, 56, 57, 58, 59, 60, 61, 62, 63, 64, 65, 66, 67, 68, 69, 70, 71, 72, 73, 74, 75, 76, 77, 78, 79, 80, 81, 82, 83, 84, 85, 86, 87] (by decide +kernel) (by decide +kernel)
set_option maxRecDepth 20000 in
theorem gX6_make_X6_splitterIn : GoodIn wsX6_make (wsV RX6 67 RX6 yX6_splitterIn wsX6_splitterIn) := goodIn_app (goodIn_of _ (by decide +kernel)) ggX6_make_X6_splitterIn
theorem dX6_make_0 : decode cX6_make 0 = .ok (.aload_n 0, 1) := by decide +kernel
theorem dX6_make_1 : decode cX6_make 1 = .ok (.invokevirtual 125, 3) := by decide +kernel
theorem dX6_make_4 : decode cX6_make 4 = .ok (.aload_n 0, 1) := by decide +kernel
theorem dX6_make_5 : decode cX6_make 5 = .ok (.iload_n 1, 1) := by decide +kernel
theorem dX6_make_6 : decode cX6_make 6 = .ok (.invokevirtual 131, 3) := by decide +kernel
theorem dX6_make_9 : decode cX6_make 9 = .ok (.istore_n 2, 1) := by decide +kernel
theorem dX6_make_10 : decode cX6_make 10 = .ok (.aload_n 0, 1) := by decide +kernel
theorem dX6_make_11 : decode cX6_make 11 = .ok (.getfield 7, 3) := by decide +kernel
theorem dX6_make_14 : decode cX6_make 14 = .ok (.iconst 3, 1) := by decide +kernel
theorem dX6_make_15 : decode cX6_make 15 = .ok (.aload_n 0, 1) := by decide +kernel
theorem dX6_make_16 : decode cX6_make 16 = .ok (.getfield 64, 3) := by decide +kernel
theorem dX6_make_19 : decode cX6_make 19 = .ok (.iastore, 1) := by decide +kernel
theorem dX6_make_20 : decode cX6_make 20 = .ok (.aload_n 0, 1) := by decide +kernel
theorem dX6_make_21 : decode cX6_make 21 = .ok (.getfield 7, 3) := by decide +kernel
theorem dX6_make_24 : decode cX6_make 24 = .ok (.iconst 4, 1) := by decide +kernel
theorem dX6_make_25 : decode cX6_make 25 = .ok (.aload_n 0, 1) := by decide +kernel
theorem dX6_make_26 : decode cX6_make 26 = .ok (.getfield 61, 3) := by decide +kernel
theorem dX6_make_29 : decode cX6_make 29 = .ok (.iastore, 1) := by decide +kernel
theorem dX6_make_30 : decode cX6_make 30 = .ok (.aload_n 0, 1) := by decide +kernel
theorem dX6_make_31 : decode cX6_make 31 = .ok (.getfield 7, 3) := by decide +kernel
theorem dX6_make_34 : decode cX6_make 34 = .ok (.iconst 5, 1) := by decide +kernel
theorem dX6_make_35 : decode cX6_make 35 = .ok (.iload_n 1, 1) := by decide +kernel
theorem dX6_make_36 : decode cX6_make 36 = .ok (.iadd, 1) := by decide +kernel
theorem dX6_make_37 : decode cX6_make 37 = .ok (.dup2, 1) := by decide +kernel
theorem dX6_make_38 : decode cX6_make 38 = .ok (.iaload, 1) := by decide +kernel
theorem dX6_make_39 : decode cX6_make 39 = .ok (.iconst 1, 1) := by decide +kernel
theorem dX6_make_40 : decode cX6_make 40 = .ok (.iadd, 1) := by decide +kernel
theorem dX6_make_41 : decode cX6_make 41 = .ok (.iastore, 1) := by decide +kernel
theorem dX6_make_42 : decode cX6_make 42 = .ok (.aload_n 0, 1) := by decide +kernel
theorem dX6_make_43 : decode cX6_make 43 = .ok (.getfield 74, 3) := by decide +kernel
theorem dX6_make_46 : decode cX6_make 46 = .ok (.bipush (-9), 2) := by decide +kernel
theorem dX6_make_48 : decode cX6_make 48 = .ok (.if_icmp .eq 31, 3) := by decide +kernel
theorem dX6_make_51 : decode cX6_make 51 = .ok (.aload_n 0, 1) := by decide +kernel
theorem dX6_make_52 : decode cX6_make 52 = .ok (.getfield 7, 3) := by decide +kernel
theorem dX6_make_55 : decode cX6_make 55 = .ok (.aload_n 0, 1) := by decide +kernel
theorem dX6_make_56 : decode cX6_make 56 = .ok (.getfield 77, 3) := by decide +kernel
theorem dX6_make_59 : decode cX6_make 59 = .ok (.ifCond .eq 8, 3) := by decide +kernel
theorem dX6_make_62 : decode cX6_make 62 = .ok (.bipush 18, 2) := by decide +kernel
theorem dX6_make_64 : decode cX6_make 64 = .ok (.goto 5, 3) := by decide +kernel
theorem dX6_make_67 : decode cX6_make 67 = .ok (.bipush 28, 2) := by decide +kernel
theorem dX6_make_69 : decode cX6_make 69 = .ok (.aload_n 0, 1) := by decide +kernel
theorem dX6_make_70 : decode cX6_make 70 = .ok (.getfield 74, 3) := by decide +kernel
theorem dX6_make_73 : decode cX6_make 73 = .ok (.iadd, 1) := by decide +kernel
theorem dX6_make_74 : decode cX6_make 74 = .ok (.dup2, 1) := by decide +kernel
theorem dX6_make_75 : decode cX6_make 75 = .ok (.iaload, 1) := by decide +kernel
theorem dX6_make_76 : decode cX6_make 76 = .ok (.iconst 1, 1) := by decide +kernel
theorem dX6_make_77 : decode cX6_make 77 = .ok (.iadd, 1) := by decide +kernel
theorem dX6_make_78 : decode cX6_make 78 = .ok (.iastore, 1) := by decide +kernel
theorem dX6_make_79 : decode cX6_make 79 = .ok (.iload_n 2, 1) := by decide +kernel
theorem dX6_make_80 : decode cX6_make 80 = .ok (.iconst 2, 1) := by decide +kernel
theorem dX6_make_81 : decode cX6_make 81 = .ok (.if_icmp .eq 8, 3) := by decide +kernel
theorem dX6_make_84 : decode cX6_make 84 = .ok (.iload_n 2, 1) := by decide +kernel
theorem dX6_make_85 : decode cX6_make 85 = .ok (.iconst 3, 1) := by decide +kernel
theorem dX6_make_86 : decode cX6_make 86 = .ok (.if_icmp .ne 20, 3) := by decide +kernel
theorem dX6_make_89 : decode cX6_make 89 = .ok (.aload_n 0, 1) := by decide +kernel
theorem dX6_make_90 : decode cX6_make 90 = .ok (.getfield 7, 3) := by decide +kernel
theorem dX6_make_93 : decode cX6_make 93 = .ok (.bipush 8, 2) := by decide +kernel
theorem dX6_make_95 : decode cX6_make 95 = .ok (.aload_n 0, 1) := by decide +kernel
theorem dX6_make_96 : decode cX6_make 96 = .ok (.iload_n 1, 1) := by decide +kernel
theorem dX6_make_97 : decode cX6_make 97 = .ok (.invokevirtual 67, 3) := by decide +kernel
theorem dX6_make_100 : decode cX6_make 100 = .ok (.iadd, 1) := by decide +kernel
theorem dX6_make_101 : decode cX6_make 101 = .ok (.dup2, 1) := by decide +kernel
theorem dX6_make_102 : decode cX6_make 102 = .ok (.iaload, 1) := by decide +kernel
theorem dX6_make_103 : decode cX6_make 103 = .ok (.iconst 1, 1) := by decide +kernel
theorem dX6_make_104 : decode cX6_make 104 = .ok (.iadd, 1) := by decide +kernel
theorem dX6_make_105 : decode cX6_make 105 = .ok (.iastore, 1) := by decide +kernel
theorem dX6_make_106 : decode cX6_make 106 = .ok (.iload_n 2, 1) := by decide +kernel
theorem dX6_make_107 : decode cX6_make 107 = .ok (.ireturn, 1) := by decide +kernel
set_option maxRecDepth 20000 in
theorem ggX6_step_X6_isProcess : GoodIn wsX6_step wsX6_isProcess := goodIn_r _ [6, 7, 8, 9, 5, 10, 77, 78, 79, 80, 81, 82, 83, 84, 85, 86, 87, 88, 89, 90, 91, 92, 93, 94, 95, 96, 97, 98, 99, 100, 101, 102, 103, 104, 105, 106, 107, 108, 109, 110] (by decide +kernel) (by decide +kernel)
set_option maxRecDepth 20000 in
theorem gX6_step_X6_isProcess : GoodIn wsX6_step (wsV RX6 134 RX6 yX6_isProcess wsX6_isProcess) := goodIn_app (goodIn_of _ (by decide +kernel)) ggX6_step_X6_isProcess
set_option maxRecDepth 20000 in
theorem ggX6_step_X6_take : GoodIn wsX6_step wsX6_take := goodIn_r _ [14, 7, 15, 16, 77, 78, 79, 80, 81, 82, 83, 84, 85, 86, 87, 88, 89, 90, 91, 92, 93, 94, 95, 96, 97, 98, 99, 100, 101, 102, 103, 104, 105, 106, 107, 108, 109, 110] (by decide +kernel) (by decide +kernel)
set_option maxRecDepth 20000 in
theorem gX6_step_X6_take : GoodIn wsX6_step (wsV RX6 125 RX6 yX6_take wsX6_take) := goodIn_app (goodIn_of _ (by decide +kernel)) ggX6_step_X6_take
set_option maxRecDepth 20000 in
theorem ggX6_step_X6_statusIn : GoodIn wsX6_step wsX6_statusIn := goodIn_r _ [20, 16, 77, 78, 79, 80, 81, 82, 83, 84, 85, 86, 87, 88, 89, 90, 91, 92, 93, 94, 95, 96, 97, 98, 99, 100, 101, 102, 103, 104, 105, 106, 107, 108, 109, 110] (by decide +kernel) (by decide +kernel)
set_option maxRecDepth 20000 in
theorem gX6_step_X6_statusIn : GoodIn wsX6_step (wsV RX6 128 RX6 yX6_statusIn wsX6_statusIn) := goodIn_app (goodIn_of _ (by decide +kernel)) ggX6_step_X6_statusIn
set_option maxRecDepth 20000 in
theorem ggX6_step_X6_keep : GoodIn wsX6_step wsX6_keep := goodIn_r _ [24, 25, 26, 7, 27, 77, 78, 79, 80, 81, 82, 83, 84, 85, 86, 87, 88, 89, 90, 91, 92, 93, 94, 95, 96, 97, 98, 99, 100, 101, 102, 103, 104, 105, 106, 107, 108, 109, 110] (by decide +kernel) (by decide +kernel)
set_option maxRecDepth 20000 in
theorem gX6_step_X6_keep : GoodIn wsX6_step (wsV RX6 118 RX6 yX6_keep wsX6_keep) := goodIn_app (goodIn_of _ (by decide +kernel)) ggX6_step_X6_keep
set_option maxRecDepth 20000 in
theorem ggX6_step_X6_make : GoodIn wsX6_step wsX6_make := goodIn_r _ [31, 7, 15, 16, 32, 33, 11, 12, 13, 5, 14, 34, 35, 36, 37, 38, 39, 40, 41, 42, 43, 44, 45, 46, 47, 48, 49, 50, 51, 52, 53, 54, 55, 56, 57, 58, 59, 60, 61, 62, 63, 64, 65, 66, 67, 68, 69, 70, 71, 72, 73, 74, 75, 76, 77, 78, 79, 80, 81, 82, 83, 84, 85, 86, 87, 88, 89, 90, 91, 92, 93, 94, 95, 96, 97, 98, 99, 100, 101, 102, 103, 104, 105, 106, 107, 108, 109, 110] (by decide +kernel) (by decide +kernel)
set_option maxRecDepth 20000 in
theorem gX6_step_X6_make : GoodIn wsX6_step (wsV RX6 138 RX6 yX6_make wsX6_make) := goodIn_app (goodIn_of _ (by decide +kernel)) ggX6_step_X6_make
theorem dX6_step_0 : decode cX6_step 0 = .ok (.aload_n 0, 1) := by decide +kernel
theorem dX6_step_1 : decode cX6_step 1 = .ok (.iconst 0, 1) := by decide +kernel
theorem dX6_step_2 : decode cX6_step 2 = .ok (.putfield 57, 3) := by decide +kernel
theorem dX6_step_5 : decode cX6_step 5 = .ok (.aload_n 0, 1) := by decide +kernel
theorem dX6_step_6 : decode cX6_step 6 = .ok (.iload_n 1, 1) := by decide +kernel
theorem dX6_step_7 : decode cX6_step 7 = .ok (.invokevirtual 134, 3) := by decide +kernel
theorem dX6_step_10 : decode cX6_step 10 = .ok (.ifCond .ne 5, 3) := by decide +kernel
theorem dX6_step_13 : decode cX6_step 13 = .ok (.iconst (-1), 1) := by decide +kernel
theorem dX6_step_14 : decode cX6_step 14 = .ok (.ireturn, 1) := by decide +kernel
theorem dX6_step_15 : decode cX6_step 15 = .ok (.aload_n 0, 1) := by decide +kernel
theorem dX6_step_16 : decode cX6_step 16 = .ok (.invokevirtual 125, 3) := by decide +kernel
theorem dX6_step_19 : decode cX6_step 19 = .ok (.aload_n 0, 1) := by decide +kernel
theorem dX6_step_20 : decode cX6_step 20 = .ok (.iload_n 1, 1) := by decide +kernel
theorem dX6_step_21 : decode cX6_step 21 = .ok (.invokevirtual 128, 3) := by decide +kernel
theorem dX6_step_24 : decode cX6_step 24 = .ok (.ifCond .eq 6, 3) := by decide +kernel
theorem dX6_step_27 : decode cX6_step 27 = .ok (.bipush (-2), 2) := by decide +kernel
theorem dX6_step_29 : decode cX6_step 29 = .ok (.ireturn, 1) := by decide +kernel
theorem dX6_step_30 : decode cX6_step 30 = .ok (.aload_n 0, 1) := by decide +kernel
theorem dX6_step_31 : decode cX6_step 31 = .ok (.invokevirtual 118, 3) := by decide +kernel
theorem dX6_step_34 : decode cX6_step 34 = .ok (.aload_n 0, 1) := by decide +kernel
theorem dX6_step_35 : decode cX6_step 35 = .ok (.iload_n 1, 1) := by decide +kernel
theorem dX6_step_36 : decode cX6_step 36 = .ok (.invokevirtual 138, 3) := by decide +kernel
theorem dX6_step_39 : decode cX6_step 39 = .ok (.ireturn, 1) := by decide +kernel
set_option maxRecDepth 20000 in
theorem ggX6_crash_X6_isProcess : GoodIn wsX6_crash wsX6_isProcess := goodIn_r _ [8, 2, 9, 10, 7, 11, 44, 45, 46, 47, 48, 49, 50, 51, 52, 53, 54, 55, 56, 57, 58, 59, 60, 61, 62, 63, 64, 65, 66, 67, 68, 69, 70, 71, 72, 73, 74, 75, 76, 77] (by decide +kernel) (by decide +kernel)
set_option maxRecDepth 20000 in
theorem gX6_crash_X6_isProcess : GoodIn wsX6_crash (wsV RX6 134 RX6 yX6_isProcess wsX6_isProcess) := goodIn_app (goodIn_of _ (by decide +kernel)) ggX6_crash_X6_isProcess
set_option maxRecDepth 20000 in
theorem ggX6_crash_X6_take : GoodIn wsX6_crash wsX6_take := goodIn_r _ [15, 2, 16, 3, 44, 45, 46, 47, 48, 49, 50, 51, 52, 53, 54, 55, 56, 57, 58, 59, 60, 61, 62, 63, 64, 65, 66, 67, 68, 69, 70, 71, 72, 73, 74, 75, 76, 77] (by decide +kernel) (by decide +kernel)
set_option maxRecDepth 20000 in
theorem gX6_crash_X6_take : GoodIn wsX6_crash (wsV RX6 125 RX6 yX6_take wsX6_take) := goodIn_app (goodIn_of _ (by decide +kernel)) ggX6_crash_X6_take
set_option maxRecDepth 20000 in
theorem ggX6_crash_X6_statusIn : GoodIn wsX6_crash wsX6_statusIn := goodIn_r _ [20, 3, 44, 45, 46, 47, 48, 49, 50, 51, 52, 53, 54, 55, 56, 57, 58, 59, 60, 61, 62, 63, 64, 65, 66, 67, 68, 69, 70, 71, 72, 73, 74, 75, 76, 77] (by decide +kernel) (by decide +kernel)
set_option maxRecDepth 20000 in
theorem gX6_crash_X6_statusIn : GoodIn wsX6_crash (wsV RX6 128 RX6 yX6_statusIn wsX6_statusIn) := goodIn_app (goodIn_of _ (by decide +kernel)) ggX6_crash_X6_statusIn
set_option maxRecDepth 20000 in
theorem ggX6_crash_X6_keep : GoodIn wsX6_crash wsX6_keep := goodIn_r _ [24, 25, 26, 2, 27, 44, 45, 46, 47, 48, 49, 50, 51, 52, 53, 54, 55, 56, 57, 58, 59, 60, 61, 62, 63, 64, 65, 66, 67, 68, 69, 70, 71, 72, 73, 74, 75, 76, 77] (by decide +kernel) (by decide +kernel)
set_option maxRecDepth 20000 in
theorem gX6_crash_X6_keep : GoodIn wsX6_crash (wsV RX6 118 RX6 yX6_keep wsX6_keep) := goodIn_app (goodIn_of _ (by decide +kernel)) ggX6_crash_X6_keep
set_option maxRecDepth 20000 in
theorem ggX6_crash_X6_splitterIn : GoodIn wsX6_crash wsX6_splitterIn := goodIn_r _ [31, 3, 44, 45, 46, 47, 48, 49, 50, 51, 52, 53, 54, 55, 56, 57, 58, 59, 60, 61, 62, 63, 64, 65, 66, 67, 68, 69, 70, 71, 72, 73, 74, 75, 76, 77] (by decide +kernel) (by decide +kernel)
set_option maxRecDepth 20000 in
theorem gX6_crash_X6_splitterIn : GoodIn wsX6_crash (wsV RX6 67 RX6 yX6_splitterIn wsX6_splitterIn) := goodIn_app (goodIn_of _ (by decide +kernel)) ggX6_crash_X6_splitterIn
set_option maxRecDepth 20000 in
theorem ggX6_crash_X6_phaseIn : GoodIn wsX6_crash wsX6_phaseIn := goodIn_r _ [35, 3, 44, 45, 46, 47, 48, 49, 50, 51, 52, 53, 54, 55, 56, 57, 58, 59, 60, 61, 62, 63, 64, 65, 66, 67, 68, 69, 70, 71, 72, 73, 74, 75, 76, 77] (by decide +kernel) (by decide +kernel)
set_option maxRecDepth 20000 in
theorem gX6_crash_X6_phaseIn : GoodIn wsX6_crash (wsV RX6 85 RX6 yX6_phaseIn wsX6_phaseIn) := goodIn_app (goodIn_of _ (by decide +kernel)) ggX6_crash_X6_phaseIn
set_option maxRecDepth 20000 in
theorem ggX6_crash_X6_setProcess : GoodIn wsX6_crash wsX6_setProcess := goodIn_r _ [39, 3, 44, 45, 46, 47, 48, 49, 50, 51, 52, 53, 54, 55, 56, 57, 58, 59, 60, 61, 62, 63, 64, 65, 66, 67, 68, 69, 70, 71, 72, 73, 74, 75, 76, 77] (by decide +kernel) (by decide +kernel)
set_option maxRecDepth 20000 in
theorem gX6_crash_X6_setProcess : GoodIn wsX6_crash (wsV RX6 81 RX6 yX6_setProcess wsX6_setProcess) := goodIn_app (goodIn_of _ (by decide +kernel)) ggX6_crash_X6_setProcess
set_option maxRecDepth 20000 in
theorem ggX6_crash_X6_running : GoodIn wsX6_crash wsX6_running := goodIn_r _ [43, 2, 12, 13, 14, 7, 15, 16, 3, 17, 18, 19, 20, 44, 45, 46, 47, 48, 49, 50, 51, 52, 53, 54, 55, 56, 57, 58, 59, 60, 61, 62, 63, 64, 65, 66, 67, 68, 69, 70, 71, 72, 73, 74, 75, 76, 77] (by decide +kernel) (by decide +kernel)
set_option maxRecDepth 20000 in
theorem gX6_crash_X6_running : GoodIn wsX6_crash (wsV RX6 141 RX6 yX6_running wsX6_running) := goodIn_app (goodIn_of _ (by decide +kernel)) ggX6_crash_X6_running
theorem dX6_crash_0 : decode cX6_crash 0 = .ok (.aload_n 0, 1) := by decide +kernel
theorem dX6_crash_1 : decode cX6_crash 1 = .ok (.iconst 0, 1) := by decide +kernel
theorem dX6_crash_2 : decode cX6_crash 2 = .ok (.putfield 57, 3) := by decide +kernel
theorem dX6_crash_5 : decode cX6_crash 5 = .ok (.aload_n 0, 1) := by decide +kernel
theorem dX6_crash_6 : decode cX6_crash 6 = .ok (.iload_n 1, 1) := by decide +kernel
theorem dX6_crash_7 : decode cX6_crash 7 = .ok (.invokevirtual 134, 3) := by decide +kernel
theorem dX6_crash_10 : decode cX6_crash 10 = .ok (.ifCond .ne 5, 3) := by decide +kernel
theorem dX6_crash_13 : decode cX6_crash 13 = .ok (.iconst (-1), 1) := by decide +kernel
theorem dX6_crash_14 : decode cX6_crash 14 = .ok (.ireturn, 1) := by decide +kernel
theorem dX6_crash_15 : decode cX6_crash 15 = .ok (.aload_n 0, 1) := by decide +kernel
theorem dX6_crash_16 : decode cX6_crash 16 = .ok (.invokevirtual 125, 3) := by decide +kernel
theorem dX6_crash_19 : decode cX6_crash 19 = .ok (.aload_n 0, 1) := by decide +kernel
theorem dX6_crash_20 : decode cX6_crash 20 = .ok (.iload_n 1, 1) := by decide +kernel
theorem dX6_crash_21 : decode cX6_crash 21 = .ok (.invokevirtual 128, 3) := by decide +kernel
theorem dX6_crash_24 : decode cX6_crash 24 = .ok (.ifCond .eq 6, 3) := by decide +kernel
theorem dX6_crash_27 : decode cX6_crash 27 = .ok (.bipush (-2), 2) := by decide +kernel
theorem dX6_crash_29 : decode cX6_crash 29 = .ok (.ireturn, 1) := by decide +kernel
theorem dX6_crash_30 : decode cX6_crash 30 = .ok (.aload_n 0, 1) := by decide +kernel
theorem dX6_crash_31 : decode cX6_crash 31 = .ok (.invokevirtual 118, 3) := by decide +kernel
theorem dX6_crash_34 : decode cX6_crash 34 = .ok (.aload_n 0, 1) := by decide +kernel
theorem dX6_crash_35 : decode cX6_crash 35 = .ok (.iload_n 1, 1) := by decide +kernel
theorem dX6_crash_36 : decode cX6_crash 36 = .ok (.iconst 3, 1) := by decide +kernel
theorem dX6_crash_37 : decode cX6_crash 37 = .ok (.aload_n 0, 1) := by decide +kernel
theorem dX6_crash_38 : decode cX6_crash 38 = .ok (.iload_n 1, 1) := by decide +kernel
theorem dX6_crash_39 : decode cX6_crash 39 = .ok (.invokevirtual 67, 3) := by decide +kernel
theorem dX6_crash_42 : decode cX6_crash 42 = .ok (.aload_n 0, 1) := by decide +kernel
theorem dX6_crash_43 : decode cX6_crash 43 = .ok (.iload_n 1, 1) := by decide +kernel
theorem dX6_crash_44 : decode cX6_crash 44 = .ok (.invokevirtual 85, 3) := by decide +kernel
theorem dX6_crash_47 : decode cX6_crash 47 = .ok (.invokevirtual 81, 3) := by decide +kernel
theorem dX6_crash_50 : decode cX6_crash 50 = .ok (.aload_n 0, 1) := by decide +kernel
theorem dX6_crash_51 : decode cX6_crash 51 = .ok (.getfield 7, 3) := by decide +kernel
theorem dX6_crash_54 : decode cX6_crash 54 = .ok (.iconst 4, 1) := by decide +kernel
theorem dX6_crash_55 : decode cX6_crash 55 = .ok (.aload_n 0, 1) := by decide +kernel
theorem dX6_crash_56 : decode cX6_crash 56 = .ok (.getfield 61, 3) := by decide +kernel
theorem dX6_crash_59 : decode cX6_crash 59 = .ok (.iastore, 1) := by decide +kernel
theorem dX6_crash_60 : decode cX6_crash 60 = .ok (.aload_n 0, 1) := by decide +kernel
theorem dX6_crash_61 : decode cX6_crash 61 = .ok (.invokevirtual 141, 3) := by decide +kernel
theorem dX6_crash_64 : decode cX6_crash 64 = .ok (.ireturn, 1) := by decide +kernel
theorem dX6_characterAt_0 : decode cX6_characterAt 0 = .ok (.iload_n 1, 1) := by decide +kernel
theorem dX6_characterAt_1 : decode cX6_characterAt 1 = .ok (.aload_n 0, 1) := by decide +kernel
theorem dX6_characterAt_2 : decode cX6_characterAt 2 = .ok (.getfield 144, 3) := by decide +kernel
theorem dX6_characterAt_5 : decode cX6_characterAt 5 = .ok (.if_icmp .ge 12, 3) := by decide +kernel
theorem dX6_characterAt_8 : decode cX6_characterAt 8 = .ok (.aload_n 0, 1) := by decide +kernel
theorem dX6_characterAt_9 : decode cX6_characterAt 9 = .ok (.getfield 23, 3) := by decide +kernel
theorem dX6_characterAt_12 : decode cX6_characterAt 12 = .ok (.iload_n 1, 1) := by decide +kernel
theorem dX6_characterAt_13 : decode cX6_characterAt 13 = .ok (.iaload, 1) := by decide +kernel
theorem dX6_characterAt_14 : decode cX6_characterAt 14 = .ok (.goto 4, 3) := by decide +kernel
theorem dX6_characterAt_17 : decode cX6_characterAt 17 = .ok (.iconst (-1), 1) := by decide +kernel
theorem dX6_characterAt_18 : decode cX6_characterAt 18 = .ok (.ireturn, 1) := by decide +kernel
set_option maxRecDepth 20000 in
theorem ggX6_advance_X6_characterAt : GoodIn wsX6_advance wsX6_characterAt := goodIn_r _ [10, 11, 5, 15, 16, 17, 18, 19, 20, 21, 22, 23, 24, 25, 26, 27, 28, 29, 30, 31, 32, 33, 34, 35, 36, 37, 38, 39, 40, 41, 42, 43, 44, 45, 46, 47, 48] (by decide +kernel) (by decide +kernel)
set_option maxRecDepth 20000 in
theorem gX6_advance_X6_characterAt : GoodIn wsX6_advance (wsV RX6 150 RX6 yX6_characterAt wsX6_characterAt) := goodIn_app (goodIn_of _ (by decide +kernel)) ggX6_advance_X6_characterAt
set_option maxRecDepth 20000 in
theorem ggX6_advance_X6_in : GoodIn wsX6_advance wsX6_in := goodIn_r _ [14] (by decide +kernel) (by decide +kernel)
set_option maxRecDepth 20000 in
theorem gX6_advance_X6_in : GoodIn wsX6_advance (va_wsS RX6 114 yX6_in wsX6_in) := goodIn_app (goodIn_of _ (by decide +kernel)) ggX6_advance_X6_in
theorem dX6_advance_0 : decode cX6_advance 0 = .ok (.aload_n 0, 1) := by decide +kernel
theorem dX6_advance_1 : decode cX6_advance 1 = .ok (.aload_n 0, 1) := by decide +kernel
theorem dX6_advance_2 : decode cX6_advance 2 = .ok (.getfield 147, 3) := by decide +kernel
theorem dX6_advance_5 : decode cX6_advance 5 = .ok (.invokevirtual 150, 3) := by decide +kernel
theorem dX6_advance_8 : decode cX6_advance 8 = .ok (.bipush 32, 2) := by decide +kernel
theorem dX6_advance_10 : decode cX6_advance 10 = .ok (.if_icmp .ne 16, 3) := by decide +kernel
theorem dX6_advance_13 : decode cX6_advance 13 = .ok (.aload_n 0, 1) := by decide +kernel
theorem dX6_advance_14 : decode cX6_advance 14 = .ok (.dup, 1) := by decide +kernel
theorem dX6_advance_15 : decode cX6_advance 15 = .ok (.getfield 147, 3) := by decide +kernel
theorem dX6_advance_18 : decode cX6_advance 18 = .ok (.iconst 1, 1) := by decide +kernel
theorem dX6_advance_19 : decode cX6_advance 19 = .ok (.iadd, 1) := by decide +kernel
theorem dX6_advance_20 : decode cX6_advance 20 = .ok (.putfield 147, 3) := by decide +kernel
theorem dX6_advance_23 : decode cX6_advance 23 = .ok (.goto (-23), 3) := by decide +kernel
theorem dX6_advance_26 : decode cX6_advance 26 = .ok (.aload_n 0, 1) := by decide +kernel
theorem dX6_advance_27 : decode cX6_advance 27 = .ok (.aload_n 0, 1) := by decide +kernel
theorem dX6_advance_28 : decode cX6_advance 28 = .ok (.getfield 147, 3) := by decide +kernel
theorem dX6_advance_31 : decode cX6_advance 31 = .ok (.putfield 153, 3) := by decide +kernel
theorem dX6_advance_34 : decode cX6_advance 34 = .ok (.aload_n 0, 1) := by decide +kernel
theorem dX6_advance_35 : decode cX6_advance 35 = .ok (.aload_n 0, 1) := by decide +kernel
theorem dX6_advance_36 : decode cX6_advance 36 = .ok (.getfield 147, 3) := by decide +kernel
theorem dX6_advance_39 : decode cX6_advance 39 = .ok (.invokevirtual 150, 3) := by decide +kernel
theorem dX6_advance_42 : decode cX6_advance 42 = .ok (.istore_n 1, 1) := by decide +kernel
theorem dX6_advance_43 : decode cX6_advance 43 = .ok (.aload_n 0, 1) := by decide +kernel
theorem dX6_advance_44 : decode cX6_advance 44 = .ok (.iload_n 1, 1) := by decide +kernel
theorem dX6_advance_45 : decode cX6_advance 45 = .ok (.putfield 156, 3) := by decide +kernel
theorem dX6_advance_48 : decode cX6_advance 48 = .ok (.iload_n 1, 1) := by decide +kernel
theorem dX6_advance_49 : decode cX6_advance 49 = .ok (.ifCond .ge 11, 3) := by decide +kernel
theorem dX6_advance_52 : decode cX6_advance 52 = .ok (.aload_n 0, 1) := by decide +kernel
theorem dX6_advance_53 : decode cX6_advance 53 = .ok (.iconst 0, 1) := by decide +kernel
theorem dX6_advance_54 : decode cX6_advance 54 = .ok (.putfield 159, 3) := by decide +kernel
theorem dX6_advance_57 : decode cX6_advance 57 = .ok (.goto 161, 3) := by decide +kernel
theorem dX6_advance_60 : decode cX6_advance 60 = .ok (.iload_n 1, 1) := by decide +kernel
theorem dX6_advance_61 : decode cX6_advance 61 = .ok (.bipush 48, 2) := by decide +kernel
theorem dX6_advance_63 : decode cX6_advance 63 = .ok (.bipush 57, 2) := by decide +kernel
theorem dX6_advance_65 : decode cX6_advance 65 = .ok (.invokestatic 114, 3) := by decide +kernel
theorem dX6_advance_68 : decode cX6_advance 68 = .ok (.ifCond .eq 135, 3) := by decide +kernel
theorem dX6_advance_71 : decode cX6_advance 71 = .ok (.aload_n 0, 1) := by decide +kernel
theorem dX6_advance_72 : decode cX6_advance 72 = .ok (.aload_n 0, 1) := by decide +kernel
theorem dX6_advance_73 : decode cX6_advance 73 = .ok (.getfield 147, 3) := by decide +kernel
theorem dX6_advance_76 : decode cX6_advance 76 = .ok (.invokevirtual 150, 3) := by decide +kernel
theorem dX6_advance_79 : decode cX6_advance 79 = .ok (.bipush 48, 2) := by decide +kernel
theorem dX6_advance_81 : decode cX6_advance 81 = .ok (.bipush 57, 2) := by decide +kernel
theorem dX6_advance_83 : decode cX6_advance 83 = .ok (.invokestatic 114, 3) := by decide +kernel
theorem dX6_advance_86 : decode cX6_advance 86 = .ok (.ifCond .eq 16, 3) := by decide +kernel
theorem dX6_advance_89 : decode cX6_advance 89 = .ok (.aload_n 0, 1) := by decide +kernel
theorem dX6_advance_90 : decode cX6_advance 90 = .ok (.dup, 1) := by decide +kernel
theorem dX6_advance_91 : decode cX6_advance 91 = .ok (.getfield 147, 3) := by decide +kernel
theorem dX6_advance_94 : decode cX6_advance 94 = .ok (.iconst 1, 1) := by decide +kernel
theorem dX6_advance_95 : decode cX6_advance 95 = .ok (.iadd, 1) := by decide +kernel
theorem dX6_advance_96 : decode cX6_advance 96 = .ok (.putfield 147, 3) := by decide +kernel
theorem dX6_advance_99 : decode cX6_advance 99 = .ok (.goto (-28), 3) := by decide +kernel
theorem dX6_advance_102 : decode cX6_advance 102 = .ok (.aload_n 0, 1) := by decide +kernel
theorem dX6_advance_103 : decode cX6_advance 103 = .ok (.iconst 1, 1) := by decide +kernel
theorem dX6_advance_104 : decode cX6_advance 104 = .ok (.putfield 159, 3) := by decide +kernel
theorem dX6_advance_107 : decode cX6_advance 107 = .ok (.aload_n 0, 1) := by decide +kernel
theorem dX6_advance_108 : decode cX6_advance 108 = .ok (.getfield 147, 3) := by decide +kernel
theorem dX6_advance_111 : decode cX6_advance 111 = .ok (.aload_n 0, 1) := by decide +kernel
theorem dX6_advance_112 : decode cX6_advance 112 = .ok (.getfield 153, 3) := by decide +kernel
theorem dX6_advance_115 : decode cX6_advance 115 = .ok (.isub, 1) := by decide +kernel
theorem dX6_advance_116 : decode cX6_advance 116 = .ok (.iconst 1, 1) := by decide +kernel
theorem dX6_advance_117 : decode cX6_advance 117 = .ok (.if_icmp .eq 22, 3) := by decide +kernel
theorem dX6_advance_120 : decode cX6_advance 120 = .ok (.aload_n 0, 1) := by decide +kernel
theorem dX6_advance_121 : decode cX6_advance 121 = .ok (.getfield 147, 3) := by decide +kernel
theorem dX6_advance_124 : decode cX6_advance 124 = .ok (.aload_n 0, 1) := by decide +kernel
theorem dX6_advance_125 : decode cX6_advance 125 = .ok (.getfield 153, 3) := by decide +kernel
theorem dX6_advance_128 : decode cX6_advance 128 = .ok (.isub, 1) := by decide +kernel
theorem dX6_advance_129 : decode cX6_advance 129 = .ok (.iconst 2, 1) := by decide +kernel
theorem dX6_advance_130 : decode cX6_advance 130 = .ok (.if_icmp .ne 13, 3) := by decide +kernel
theorem dX6_advance_133 : decode cX6_advance 133 = .ok (.iload_n 1, 1) := by decide +kernel
theorem dX6_advance_134 : decode cX6_advance 134 = .ok (.bipush 48, 2) := by decide +kernel
theorem dX6_advance_136 : decode cX6_advance 136 = .ok (.if_icmp .eq 7, 3) := by decide +kernel
theorem dX6_advance_139 : decode cX6_advance 139 = .ok (.iconst 1, 1) := by decide +kernel
theorem dX6_advance_140 : decode cX6_advance 140 = .ok (.goto 4, 3) := by decide +kernel
theorem dX6_advance_143 : decode cX6_advance 143 = .ok (.iconst 0, 1) := by decide +kernel
theorem dX6_advance_144 : decode cX6_advance 144 = .ok (.istore_n 2, 1) := by decide +kernel
theorem dX6_advance_145 : decode cX6_advance 145 = .ok (.aload_n 0, 1) := by decide +kernel
theorem dX6_advance_146 : decode cX6_advance 146 = .ok (.iload_n 2, 1) := by decide +kernel
theorem dX6_advance_147 : decode cX6_advance 147 = .ok (.ifCond .ne 8, 3) := by decide +kernel
theorem dX6_advance_150 : decode cX6_advance 150 = .ok (.bipush (-9), 2) := by decide +kernel
theorem dX6_advance_152 : decode cX6_advance 152 = .ok (.goto 45, 3) := by decide +kernel
theorem dX6_advance_155 : decode cX6_advance 155 = .ok (.aload_n 0, 1) := by decide +kernel
theorem dX6_advance_156 : decode cX6_advance 156 = .ok (.getfield 147, 3) := by decide +kernel
theorem dX6_advance_159 : decode cX6_advance 159 = .ok (.aload_n 0, 1) := by decide +kernel
theorem dX6_advance_160 : decode cX6_advance 160 = .ok (.getfield 153, 3) := by decide +kernel
theorem dX6_advance_163 : decode cX6_advance 163 = .ok (.isub, 1) := by decide +kernel
theorem dX6_advance_164 : decode cX6_advance 164 = .ok (.iconst 1, 1) := by decide +kernel
theorem dX6_advance_165 : decode cX6_advance 165 = .ok (.if_icmp .ne 10, 3) := by decide +kernel
theorem dX6_advance_168 : decode cX6_advance 168 = .ok (.iload_n 1, 1) := by decide +kernel
theorem dX6_advance_169 : decode cX6_advance 169 = .ok (.bipush 48, 2) := by decide +kernel
theorem dX6_advance_171 : decode cX6_advance 171 = .ok (.isub, 1) := by decide +kernel
theorem dX6_advance_172 : decode cX6_advance 172 = .ok (.goto 25, 3) := by decide +kernel
theorem dX6_advance_175 : decode cX6_advance 175 = .ok (.bipush 10, 2) := by decide +kernel
theorem dX6_advance_177 : decode cX6_advance 177 = .ok (.iload_n 1, 1) := by decide +kernel
theorem dX6_advance_178 : decode cX6_advance 178 = .ok (.bipush 48, 2) := by decide +kernel
theorem dX6_advance_180 : decode cX6_advance 180 = .ok (.isub, 1) := by decide +kernel
theorem dX6_advance_181 : decode cX6_advance 181 = .ok (.imul, 1) := by decide +kernel
theorem dX6_advance_182 : decode cX6_advance 182 = .ok (.aload_n 0, 1) := by decide +kernel
theorem dX6_advance_183 : decode cX6_advance 183 = .ok (.getfield 23, 3) := by decide +kernel
theorem dX6_advance_186 : decode cX6_advance 186 = .ok (.aload_n 0, 1) := by decide +kernel
theorem dX6_advance_187 : decode cX6_advance 187 = .ok (.getfield 153, 3) := by decide +kernel
theorem dX6_advance_190 : decode cX6_advance 190 = .ok (.iconst 1, 1) := by decide +kernel
theorem dX6_advance_191 : decode cX6_advance 191 = .ok (.iadd, 1) := by decide +kernel
theorem dX6_advance_192 : decode cX6_advance 192 = .ok (.iaload, 1) := by decide +kernel
theorem dX6_advance_193 : decode cX6_advance 193 = .ok (.iadd, 1) := by decide +kernel
theorem dX6_advance_194 : decode cX6_advance 194 = .ok (.bipush 48, 2) := by decide +kernel
theorem dX6_advance_196 : decode cX6_advance 196 = .ok (.isub, 1) := by decide +kernel
theorem dX6_advance_197 : decode cX6_advance 197 = .ok (.putfield 156, 3) := by decide +kernel
theorem dX6_advance_200 : decode cX6_advance 200 = .ok (.goto 18, 3) := by decide +kernel
theorem dX6_advance_203 : decode cX6_advance 203 = .ok (.aload_n 0, 1) := by decide +kernel
theorem dX6_advance_204 : decode cX6_advance 204 = .ok (.dup, 1) := by decide +kernel
theorem dX6_advance_205 : decode cX6_advance 205 = .ok (.getfield 147, 3) := by decide +kernel
theorem dX6_advance_208 : decode cX6_advance 208 = .ok (.iconst 1, 1) := by decide +kernel
theorem dX6_advance_209 : decode cX6_advance 209 = .ok (.iadd, 1) := by decide +kernel
theorem dX6_advance_210 : decode cX6_advance 210 = .ok (.putfield 147, 3) := by decide +kernel
theorem dX6_advance_213 : decode cX6_advance 213 = .ok (.aload_n 0, 1) := by decide +kernel
theorem dX6_advance_214 : decode cX6_advance 214 = .ok (.iconst 2, 1) := by decide +kernel
theorem dX6_advance_215 : decode cX6_advance 215 = .ok (.putfield 159, 3) := by decide +kernel
theorem dX6_advance_218 : decode cX6_advance 218 = .ok (.return_, 1) := by decide +kernel
theorem dX6_isSign_0 : decode cX6_isSign 0 = .ok (.aload_n 0, 1) := by decide +kernel
theorem dX6_isSign_1 : decode cX6_isSign 1 = .ok (.getfield 159, 3) := by decide +kernel
theorem dX6_isSign_4 : decode cX6_isSign 4 = .ok (.iconst 2, 1) := by decide +kernel
theorem dX6_isSign_5 : decode cX6_isSign 5 = .ok (.if_icmp .ne 15, 3) := by decide +kernel
theorem dX6_isSign_8 : decode cX6_isSign 8 = .ok (.aload_n 0, 1) := by decide +kernel
theorem dX6_isSign_9 : decode cX6_isSign 9 = .ok (.getfield 156, 3) := by decide +kernel
theorem dX6_isSign_12 : decode cX6_isSign 12 = .ok (.iload_n 1, 1) := by decide +kernel
theorem dX6_isSign_13 : decode cX6_isSign 13 = .ok (.if_icmp .ne 7, 3) := by decide +kernel
theorem dX6_isSign_16 : decode cX6_isSign 16 = .ok (.iconst 1, 1) := by decide +kernel
theorem dX6_isSign_17 : decode cX6_isSign 17 = .ok (.goto 4, 3) := by decide +kernel
theorem dX6_isSign_20 : decode cX6_isSign 20 = .ok (.iconst 0, 1) := by decide +kernel
theorem dX6_isSign_21 : decode cX6_isSign 21 = .ok (.ireturn, 1) := by decide +kernel
set_option maxRecDepth 20000 in
theorem ggX6_accept_X6_advance : GoodIn wsX6_accept wsX6_advance := goodIn_r _ [8, 9, 3, 1, 10, 11, 12, 13, 14, 7, 15, 16, 17, 18, 19, 20, 21, 22, 23, 24, 25, 26, 27, 28, 29, 30, 31, 32, 33, 34, 35, 36, 37, 38, 39, 40, 41, 42, 43, 44, 45, 46, 47, 48, 49, 50, 51, 52, 53] (by decide +kernel) (by decide +kernel)
set_option maxRecDepth 20000 in
theorem gX6_accept_X6_advance : GoodIn wsX6_accept (wsV RX6 165 RX6 yX6_advance wsX6_advance) := goodIn_app (goodIn_of _ (by decide +kernel)) ggX6_accept_X6_advance
theorem dX6_accept_0 : decode cX6_accept 0 = .ok (.aload_n 0, 1) := by decide +kernel
theorem dX6_accept_1 : decode cX6_accept 1 = .ok (.getfield 156, 3) := by decide +kernel
theorem dX6_accept_4 : decode cX6_accept 4 = .ok (.istore_n 2, 1) := by decide +kernel
theorem dX6_accept_5 : decode cX6_accept 5 = .ok (.aload_n 0, 1) := by decide +kernel
theorem dX6_accept_6 : decode cX6_accept 6 = .ok (.getfield 162, 3) := by decide +kernel
theorem dX6_accept_9 : decode cX6_accept 9 = .ok (.bipush (-9), 2) := by decide +kernel
theorem dX6_accept_11 : decode cX6_accept 11 = .ok (.if_icmp .ne 22, 3) := by decide +kernel
theorem dX6_accept_14 : decode cX6_accept 14 = .ok (.iload_n 1, 1) := by decide +kernel
theorem dX6_accept_15 : decode cX6_accept 15 = .ok (.ifCond .eq 10, 3) := by decide +kernel
theorem dX6_accept_18 : decode cX6_accept 18 = .ok (.aload_n 0, 1) := by decide +kernel
theorem dX6_accept_19 : decode cX6_accept 19 = .ok (.invokevirtual 165, 3) := by decide +kernel
theorem dX6_accept_22 : decode cX6_accept 22 = .ok (.goto 11, 3) := by decide +kernel
theorem dX6_accept_25 : decode cX6_accept 25 = .ok (.aload_n 0, 1) := by decide +kernel
theorem dX6_accept_26 : decode cX6_accept 26 = .ok (.aload_n 0, 1) := by decide +kernel
theorem dX6_accept_27 : decode cX6_accept 27 = .ok (.getfield 153, 3) := by decide +kernel
theorem dX6_accept_30 : decode cX6_accept 30 = .ok (.putfield 162, 3) := by decide +kernel
theorem dX6_accept_33 : decode cX6_accept 33 = .ok (.iload_n 2, 1) := by decide +kernel
theorem dX6_accept_34 : decode cX6_accept 34 = .ok (.ireturn, 1) := by decide +kernel
set_option maxRecDepth 20000 in
theorem ggX6_read_X6_advance : GoodIn wsX6_read wsX6_advance := goodIn_r _ [10, 2, 4, 5, 3, 11, 12, 13, 14, 9, 15, 16, 17, 18, 19, 96, 97, 98, 99, 100, 101, 102, 103, 104, 105, 106, 107, 108, 109, 110, 111, 112, 113, 114, 115, 116, 117, 118, 119, 120, 121, 122, 123, 124, 125, 126, 127, 128, 129] (by decide +kernel) (by decide +kernel)
set_option maxRecDepth 20000 in
theorem gX6_read_X6_advance : GoodIn wsX6_read (wsV RX6 165 RX6 yX6_advance wsX6_advance) := goodIn_app (goodIn_of _ (by decide +kernel)) ggX6_read_X6_advance
set_option maxRecDepth 20000 in
theorem ggX6_read_X6_isProcess : GoodIn wsX6_read wsX6_isProcess := goodIn_r _ [23, 24, 17, 18, 9, 19, 96, 97, 98, 99, 100, 101, 102, 103, 104, 105, 106, 107, 108, 109, 110, 111, 112, 113, 114, 115, 116, 117, 118, 119, 120, 121, 122, 123, 124, 125, 126, 127, 128, 129] (by decide +kernel) (by decide +kernel)
set_option maxRecDepth 20000 in
theorem gX6_read_X6_isProcess : GoodIn wsX6_read (wsV RX6 134 RX6 yX6_isProcess wsX6_isProcess) := goodIn_app (goodIn_of _ (by decide +kernel)) ggX6_read_X6_isProcess
set_option maxRecDepth 20000 in
theorem ggX6_read_X6_accept : GoodIn wsX6_read wsX6_accept := goodIn_r _ [28, 5, 1, 4, 6, 7, 8, 9, 10, 2, 3, 11, 12, 13, 14, 15, 16, 17, 18, 19, 96, 97, 98, 99, 100, 101, 102, 103, 104, 105, 106, 107, 108, 109, 110, 111, 112, 113, 114, 115, 116, 117, 118, 119, 120, 121, 122, 123, 124, 125, 126, 127, 128, 129] (by decide +kernel) (by decide +kernel)
set_option maxRecDepth 20000 in
theorem gX6_read_X6_accept : GoodIn wsX6_read (wsV RX6 168 RX6 yX6_accept wsX6_accept) := goodIn_app (goodIn_of _ (by decide +kernel)) ggX6_read_X6_accept
set_option maxRecDepth 20000 in
theorem ggX6_read_X6_isSign : GoodIn wsX6_read wsX6_isSign := goodIn_r _ [32, 3, 5, 96, 97, 98, 99, 100, 101, 102, 103, 104, 105, 106, 107, 108, 109, 110, 111, 112, 113, 114, 115, 116, 117, 118, 119, 120, 121, 122, 123, 124, 125, 126, 127, 128, 129] (by decide +kernel) (by decide +kernel)
set_option maxRecDepth 20000 in
theorem gX6_read_X6_isSign : GoodIn wsX6_read (wsV RX6 172 RX6 yX6_isSign wsX6_isSign) := goodIn_app (goodIn_of _ (by decide +kernel)) ggX6_read_X6_isSign
set_option maxRecDepth 20000 in
theorem ggX6_read_X6_in : GoodIn wsX6_read wsX6_in := goodIn_r _ [19] (by decide +kernel) (by decide +kernel)
set_option maxRecDepth 20000 in
theorem gX6_read_X6_in : GoodIn wsX6_read (va_wsS RX6 114 yX6_in wsX6_in) := goodIn_app (goodIn_of _ (by decide +kernel)) ggX6_read_X6_in
set_option maxRecDepth 20000 in
theorem ggX6_read_X6_execute : GoodIn wsX6_read wsX6_execute := goodIn_r _ [36, 37, 38, 39, 9, 40, 24, 41, 42, 43, 44, 45, 46, 47, 48, 49, 50, 51, 52, 53, 54, 55, 56, 57, 58, 59, 60, 61, 62, 63, 64, 65, 66, 67, 68, 69, 70, 71, 72, 73, 74, 75, 76, 77, 78, 79, 80, 81, 82, 83, 84, 85, 86, 87, 88, 89, 90, 91, 92, 93, 94, 95, 96, 97, 98, 99, 100, 101, 102, 103, 104, 105, 106, 107, 108, 109, 110, 111, 112, 113, 114, 115, 116, 117, 118, 119, 120, 121, 122, 123, 124, 125, 126, 127, 128, 129] (by decide +kernel) (by decide +kernel)
set_option maxRecDepth 20000 in
theorem gX6_read_X6_execute : GoodIn wsX6_read (wsV RX6 175 RX6 yX6_execute wsX6_execute) := goodIn_app (goodIn_of _ (by decide +kernel)) ggX6_read_X6_execute
theorem dX6_read_0 : decode cX6_read 0 = .ok (.aload_n 0, 1) := by decide +kernel
theorem dX6_read_1 : decode cX6_read 1 = .ok (.bipush (-9), 2) := by decide +kernel
theorem dX6_read_3 : decode cX6_read 3 = .ok (.putfield 162, 3) := by decide +kernel
theorem dX6_read_6 : decode cX6_read 6 = .ok (.aload_n 0, 1) := by decide +kernel
theorem dX6_read_7 : decode cX6_read 7 = .ok (.iconst 0, 1) := by decide +kernel
theorem dX6_read_8 : decode cX6_read 8 = .ok (.putfield 147, 3) := by decide +kernel
theorem dX6_read_11 : decode cX6_read 11 = .ok (.aload_n 0, 1) := by decide +kernel
theorem dX6_read_12 : decode cX6_read 12 = .ok (.invokevirtual 165, 3) := by decide +kernel
theorem dX6_read_15 : decode cX6_read 15 = .ok (.aload_n 0, 1) := by decide +kernel
theorem dX6_read_16 : decode cX6_read 16 = .ok (.getfield 159, 3) := by decide +kernel
theorem dX6_read_19 : decode cX6_read 19 = .ok (.ifCond .ne 11, 3) := by decide +kernel
theorem dX6_read_22 : decode cX6_read 22 = .ok (.aload_n 0, 1) := by decide +kernel
theorem dX6_read_23 : decode cX6_read 23 = .ok (.aload_n 0, 1) := by decide +kernel
theorem dX6_read_24 : decode cX6_read 24 = .ok (.getfield 153, 3) := by decide +kernel
theorem dX6_read_27 : decode cX6_read 27 = .ok (.putfield 162, 3) := by decide +kernel
theorem dX6_read_30 : decode cX6_read 30 = .ok (.iconst 0, 1) := by decide +kernel
theorem dX6_read_31 : decode cX6_read 31 = .ok (.istore_n 2, 1) := by decide +kernel
theorem dX6_read_32 : decode cX6_read 32 = .ok (.aload_n 0, 1) := by decide +kernel
theorem dX6_read_33 : decode cX6_read 33 = .ok (.getfield 162, 3) := by decide +kernel
theorem dX6_read_36 : decode cX6_read 36 = .ok (.bipush (-9), 2) := by decide +kernel
theorem dX6_read_38 : decode cX6_read 38 = .ok (.if_icmp .ne 130, 3) := by decide +kernel
theorem dX6_read_41 : decode cX6_read 41 = .ok (.aload_n 0, 1) := by decide +kernel
theorem dX6_read_42 : decode cX6_read 42 = .ok (.getfield 159, 3) := by decide +kernel
theorem dX6_read_45 : decode cX6_read 45 = .ok (.ifCond .eq 123, 3) := by decide +kernel
theorem dX6_read_48 : decode cX6_read 48 = .ok (.aload_n 0, 1) := by decide +kernel
theorem dX6_read_49 : decode cX6_read 49 = .ok (.aload_n 0, 1) := by decide +kernel
theorem dX6_read_50 : decode cX6_read 50 = .ok (.getfield 159, 3) := by decide +kernel
theorem dX6_read_53 : decode cX6_read 53 = .ok (.iconst 1, 1) := by decide +kernel
theorem dX6_read_54 : decode cX6_read 54 = .ok (.if_icmp .ne 18, 3) := by decide +kernel
theorem dX6_read_57 : decode cX6_read 57 = .ok (.aload_n 0, 1) := by decide +kernel
theorem dX6_read_58 : decode cX6_read 58 = .ok (.aload_n 0, 1) := by decide +kernel
theorem dX6_read_59 : decode cX6_read 59 = .ok (.getfield 156, 3) := by decide +kernel
theorem dX6_read_62 : decode cX6_read 62 = .ok (.invokevirtual 134, 3) := by decide +kernel
theorem dX6_read_65 : decode cX6_read 65 = .ok (.ifCond .eq 7, 3) := by decide +kernel
theorem dX6_read_68 : decode cX6_read 68 = .ok (.iconst 1, 1) := by decide +kernel
theorem dX6_read_69 : decode cX6_read 69 = .ok (.goto 4, 3) := by decide +kernel
theorem dX6_read_72 : decode cX6_read 72 = .ok (.iconst 0, 1) := by decide +kernel
theorem dX6_read_73 : decode cX6_read 73 = .ok (.invokevirtual 168, 3) := by decide +kernel
theorem dX6_read_76 : decode cX6_read 76 = .ok (.istore_n 3, 1) := by decide +kernel
theorem dX6_read_77 : decode cX6_read 77 = .ok (.iconst 1, 1) := by decide +kernel
theorem dX6_read_78 : decode cX6_read 78 = .ok (.istore 4, 2) := by decide +kernel
theorem dX6_read_80 : decode cX6_read 80 = .ok (.aload_n 0, 1) := by decide +kernel
theorem dX6_read_81 : decode cX6_read 81 = .ok (.getfield 162, 3) := by decide +kernel
theorem dX6_read_84 : decode cX6_read 84 = .ok (.bipush (-9), 2) := by decide +kernel
theorem dX6_read_86 : decode cX6_read 86 = .ok (.if_icmp .ne 50, 3) := by decide +kernel
theorem dX6_read_89 : decode cX6_read 89 = .ok (.aload_n 0, 1) := by decide +kernel
theorem dX6_read_90 : decode cX6_read 90 = .ok (.bipush 42, 2) := by decide +kernel
theorem dX6_read_92 : decode cX6_read 92 = .ok (.invokevirtual 172, 3) := by decide +kernel
theorem dX6_read_95 : decode cX6_read 95 = .ok (.ifCond .eq 41, 3) := by decide +kernel
theorem dX6_read_98 : decode cX6_read 98 = .ok (.aload_n 0, 1) := by decide +kernel
theorem dX6_read_99 : decode cX6_read 99 = .ok (.iconst 1, 1) := by decide +kernel
theorem dX6_read_100 : decode cX6_read 100 = .ok (.invokevirtual 168, 3) := by decide +kernel
theorem dX6_read_103 : decode cX6_read 103 = .ok (.pop, 1) := by decide +kernel
theorem dX6_read_104 : decode cX6_read 104 = .ok (.aload_n 0, 1) := by decide +kernel
theorem dX6_read_105 : decode cX6_read 105 = .ok (.aload_n 0, 1) := by decide +kernel
theorem dX6_read_106 : decode cX6_read 106 = .ok (.getfield 159, 3) := by decide +kernel
theorem dX6_read_109 : decode cX6_read 109 = .ok (.iconst 1, 1) := by decide +kernel
theorem dX6_read_110 : decode cX6_read 110 = .ok (.if_icmp .ne 20, 3) := by decide +kernel
theorem dX6_read_113 : decode cX6_read 113 = .ok (.aload_n 0, 1) := by decide +kernel
theorem dX6_read_114 : decode cX6_read 114 = .ok (.getfield 156, 3) := by decide +kernel
theorem dX6_read_117 : decode cX6_read 117 = .ok (.iconst 1, 1) := by decide +kernel
theorem dX6_read_118 : decode cX6_read 118 = .ok (.bipush 30, 2) := by decide +kernel
theorem dX6_read_120 : decode cX6_read 120 = .ok (.invokestatic 114, 3) := by decide +kernel
theorem dX6_read_123 : decode cX6_read 123 = .ok (.ifCond .eq 7, 3) := by decide +kernel
theorem dX6_read_126 : decode cX6_read 126 = .ok (.iconst 1, 1) := by decide +kernel
theorem dX6_read_127 : decode cX6_read 127 = .ok (.goto 4, 3) := by decide +kernel
theorem dX6_read_130 : decode cX6_read 130 = .ok (.iconst 0, 1) := by decide +kernel
theorem dX6_read_131 : decode cX6_read 131 = .ok (.invokevirtual 168, 3) := by decide +kernel
theorem dX6_read_134 : decode cX6_read 134 = .ok (.istore 4, 2) := by decide +kernel
theorem dX6_read_136 : decode cX6_read 136 = .ok (.aload_n 0, 1) := by decide +kernel
theorem dX6_read_137 : decode cX6_read 137 = .ok (.aload_n 0, 1) := by decide +kernel
theorem dX6_read_138 : decode cX6_read 138 = .ok (.bipush 59, 2) := by decide +kernel
theorem dX6_read_140 : decode cX6_read 140 = .ok (.invokevirtual 172, 3) := by decide +kernel
theorem dX6_read_143 : decode cX6_read 143 = .ok (.invokevirtual 168, 3) := by decide +kernel
theorem dX6_read_146 : decode cX6_read 146 = .ok (.pop, 1) := by decide +kernel
theorem dX6_read_147 : decode cX6_read 147 = .ok (.iload_n 2, 1) := by decide +kernel
theorem dX6_read_148 : decode cX6_read 148 = .ok (.iload_n 1, 1) := by decide +kernel
theorem dX6_read_149 : decode cX6_read 149 = .ok (.ifCond .eq 13, 3) := by decide +kernel
theorem dX6_read_152 : decode cX6_read 152 = .ok (.aload_n 0, 1) := by decide +kernel
theorem dX6_read_153 : decode cX6_read 153 = .ok (.iload_n 3, 1) := by decide +kernel
theorem dX6_read_154 : decode cX6_read 154 = .ok (.iload 4, 2) := by decide +kernel
theorem dX6_read_156 : decode cX6_read 156 = .ok (.invokevirtual 175, 3) := by decide +kernel
theorem dX6_read_159 : decode cX6_read 159 = .ok (.goto 4, 3) := by decide +kernel
theorem dX6_read_162 : decode cX6_read 162 = .ok (.iconst 0, 1) := by decide +kernel
theorem dX6_read_163 : decode cX6_read 163 = .ok (.iadd, 1) := by decide +kernel
theorem dX6_read_164 : decode cX6_read 164 = .ok (.istore_n 2, 1) := by decide +kernel
theorem dX6_read_165 : decode cX6_read 165 = .ok (.goto (-133), 3) := by decide +kernel
theorem dX6_read_168 : decode cX6_read 168 = .ok (.iload_n 2, 1) := by decide +kernel
theorem dX6_read_169 : decode cX6_read 169 = .ok (.ireturn, 1) := by decide +kernel
set_option maxRecDepth 20000 in
theorem ggX6_execute_X6_take : GoodIn wsX6_execute wsX6_take := goodIn_r _ [5, 6, 7, 8, 62, 63, 64, 65, 66, 67, 68, 69, 70, 71, 72, 73, 74, 75, 76, 77, 78, 79, 80, 81, 82, 83, 84, 85, 86, 87, 88, 89, 90, 91, 92, 93, 94, 95] (by decide +kernel) (by decide +kernel)
set_option maxRecDepth 20000 in
theorem gX6_execute_X6_take : GoodIn wsX6_execute (wsV RX6 125 RX6 yX6_take wsX6_take) := goodIn_app (goodIn_of _ (by decide +kernel)) ggX6_execute_X6_take
set_option maxRecDepth 20000 in
theorem ggX6_execute_X6_statusIn : GoodIn wsX6_execute wsX6_statusIn := goodIn_r _ [12, 8, 62, 63, 64, 65, 66, 67, 68, 69, 70, 71, 72, 73, 74, 75, 76, 77, 78, 79, 80, 81, 82, 83, 84, 85, 86, 87, 88, 89, 90, 91, 92, 93, 94, 95] (by decide +kernel) (by decide +kernel)
set_option maxRecDepth 20000 in
theorem gX6_execute_X6_statusIn : GoodIn wsX6_execute (wsV RX6 128 RX6 yX6_statusIn wsX6_statusIn) := goodIn_app (goodIn_of _ (by decide +kernel)) ggX6_execute_X6_statusIn
set_option maxRecDepth 20000 in
theorem ggX6_execute_X6_make : GoodIn wsX6_execute wsX6_make := goodIn_r _ [16, 6, 7, 8, 17, 18, 1, 2, 3, 4, 5, 19, 20, 21, 22, 23, 24, 25, 26, 27, 28, 29, 30, 31, 32, 33, 34, 35, 36, 37, 38, 39, 40, 41, 42, 43, 44, 45, 46, 47, 48, 49, 50, 51, 52, 53, 54, 55, 56, 57, 58, 59, 60, 61, 62, 63, 64, 65, 66, 67, 68, 69, 70, 71, 72, 73, 74, 75, 76, 77, 78, 79, 80, 81, 82, 83, 84, 85, 86, 87, 88, 89, 90, 91, 92, 93, 94, 95] (by decide +kernel) (by decide +kernel)
set_option maxRecDepth 20000 in
theorem gX6_execute_X6_make : GoodIn wsX6_execute (wsV RX6 138 RX6 yX6_make wsX6_make) := goodIn_app (goodIn_of _ (by decide +kernel)) ggX6_execute_X6_make
theorem dX6_execute_0 : decode cX6_execute 0 = .ok (.iconst 0, 1) := by decide +kernel
theorem dX6_execute_1 : decode cX6_execute 1 = .ok (.istore_n 3, 1) := by decide +kernel
theorem dX6_execute_2 : decode cX6_execute 2 = .ok (.aload_n 0, 1) := by decide +kernel
theorem dX6_execute_3 : decode cX6_execute 3 = .ok (.invokevirtual 125, 3) := by decide +kernel
theorem dX6_execute_6 : decode cX6_execute 6 = .ok (.iload_n 3, 1) := by decide +kernel
theorem dX6_execute_7 : decode cX6_execute 7 = .ok (.iload_n 2, 1) := by decide +kernel
theorem dX6_execute_8 : decode cX6_execute 8 = .ok (.if_icmp .ge 23, 3) := by decide +kernel
theorem dX6_execute_11 : decode cX6_execute 11 = .ok (.aload_n 0, 1) := by decide +kernel
theorem dX6_execute_12 : decode cX6_execute 12 = .ok (.iload_n 1, 1) := by decide +kernel
theorem dX6_execute_13 : decode cX6_execute 13 = .ok (.invokevirtual 128, 3) := by decide +kernel
theorem dX6_execute_16 : decode cX6_execute 16 = .ok (.ifCond .ne 15, 3) := by decide +kernel
theorem dX6_execute_19 : decode cX6_execute 19 = .ok (.aload_n 0, 1) := by decide +kernel
theorem dX6_execute_20 : decode cX6_execute 20 = .ok (.iload_n 1, 1) := by decide +kernel
theorem dX6_execute_21 : decode cX6_execute 21 = .ok (.invokevirtual 138, 3) := by decide +kernel
theorem dX6_execute_24 : decode cX6_execute 24 = .ok (.pop, 1) := by decide +kernel
theorem dX6_execute_25 : decode cX6_execute 25 = .ok (.iinc 3 1, 3) := by decide +kernel
theorem dX6_execute_28 : decode cX6_execute 28 = .ok (.goto (-22), 3) := by decide +kernel
theorem dX6_execute_31 : decode cX6_execute 31 = .ok (.iload_n 3, 1) := by decide +kernel
theorem dX6_execute_32 : decode cX6_execute 32 = .ok (.ireturn, 1) := by decide +kernel
set_option maxRecDepth 20000 in
theorem ggX6_append_X6_in : GoodIn wsX6_append wsX6_in := goodIn_r _ [7] (by decide +kernel) (by decide +kernel)
set_option maxRecDepth 20000 in
theorem gX6_append_X6_in : GoodIn wsX6_append (va_wsS RX6 114 yX6_in wsX6_in) := goodIn_app (goodIn_of _ (by decide +kernel)) ggX6_append_X6_in
theorem dX6_append_0 : decode cX6_append 0 = .ok (.aload_n 0, 1) := by decide +kernel
theorem dX6_append_1 : decode cX6_append 1 = .ok (.iconst 0, 1) := by decide +kernel
theorem dX6_append_2 : decode cX6_append 2 = .ok (.putfield 57, 3) := by decide +kernel
theorem dX6_append_5 : decode cX6_append 5 = .ok (.iload_n 1, 1) := by decide +kernel
theorem dX6_append_6 : decode cX6_append 6 = .ok (.iconst 0, 1) := by decide +kernel
theorem dX6_append_7 : decode cX6_append 7 = .ok (.sipush 255, 3) := by decide +kernel
theorem dX6_append_10 : decode cX6_append 10 = .ok (.invokestatic 114, 3) := by decide +kernel
theorem dX6_append_13 : decode cX6_append 13 = .ok (.ifCond .ne 5, 3) := by decide +kernel
theorem dX6_append_16 : decode cX6_append 16 = .ok (.iconst (-1), 1) := by decide +kernel
theorem dX6_append_17 : decode cX6_append 17 = .ok (.ireturn, 1) := by decide +kernel
theorem dX6_append_18 : decode cX6_append 18 = .ok (.aload_n 0, 1) := by decide +kernel
theorem dX6_append_19 : decode cX6_append 19 = .ok (.getfield 144, 3) := by decide +kernel
theorem dX6_append_22 : decode cX6_append 22 = .ok (.bipush 80, 2) := by decide +kernel
theorem dX6_append_24 : decode cX6_append 24 = .ok (.if_icmp .ne 6, 3) := by decide +kernel
theorem dX6_append_27 : decode cX6_append 27 = .ok (.bipush (-3), 2) := by decide +kernel
theorem dX6_append_29 : decode cX6_append 29 = .ok (.ireturn, 1) := by decide +kernel
theorem dX6_append_30 : decode cX6_append 30 = .ok (.aload_n 0, 1) := by decide +kernel
theorem dX6_append_31 : decode cX6_append 31 = .ok (.getfield 23, 3) := by decide +kernel
theorem dX6_append_34 : decode cX6_append 34 = .ok (.aload_n 0, 1) := by decide +kernel
theorem dX6_append_35 : decode cX6_append 35 = .ok (.getfield 144, 3) := by decide +kernel
theorem dX6_append_38 : decode cX6_append 38 = .ok (.iload_n 1, 1) := by decide +kernel
theorem dX6_append_39 : decode cX6_append 39 = .ok (.iastore, 1) := by decide +kernel
theorem dX6_append_40 : decode cX6_append 40 = .ok (.aload_n 0, 1) := by decide +kernel
theorem dX6_append_41 : decode cX6_append 41 = .ok (.dup, 1) := by decide +kernel
theorem dX6_append_42 : decode cX6_append 42 = .ok (.getfield 144, 3) := by decide +kernel
theorem dX6_append_45 : decode cX6_append 45 = .ok (.iconst 1, 1) := by decide +kernel
theorem dX6_append_46 : decode cX6_append 46 = .ok (.iadd, 1) := by decide +kernel
theorem dX6_append_47 : decode cX6_append 47 = .ok (.putfield 144, 3) := by decide +kernel
theorem dX6_append_50 : decode cX6_append 50 = .ok (.aload_n 0, 1) := by decide +kernel
theorem dX6_append_51 : decode cX6_append 51 = .ok (.getfield 144, 3) := by decide +kernel
theorem dX6_append_54 : decode cX6_append 54 = .ok (.ireturn, 1) := by decide +kernel
theorem dX6_clearText_0 : decode cX6_clearText 0 = .ok (.aload_n 0, 1) := by decide +kernel
theorem dX6_clearText_1 : decode cX6_clearText 1 = .ok (.iconst 0, 1) := by decide +kernel
theorem dX6_clearText_2 : decode cX6_clearText 2 = .ok (.putfield 57, 3) := by decide +kernel
theorem dX6_clearText_5 : decode cX6_clearText 5 = .ok (.aload_n 0, 1) := by decide +kernel
theorem dX6_clearText_6 : decode cX6_clearText 6 = .ok (.getfield 144, 3) := by decide +kernel
theorem dX6_clearText_9 : decode cX6_clearText 9 = .ok (.istore_n 1, 1) := by decide +kernel
theorem dX6_clearText_10 : decode cX6_clearText 10 = .ok (.aload_n 0, 1) := by decide +kernel
theorem dX6_clearText_11 : decode cX6_clearText 11 = .ok (.iconst 0, 1) := by decide +kernel
theorem dX6_clearText_12 : decode cX6_clearText 12 = .ok (.putfield 144, 3) := by decide +kernel
theorem dX6_clearText_15 : decode cX6_clearText 15 = .ok (.iload_n 1, 1) := by decide +kernel
theorem dX6_clearText_16 : decode cX6_clearText 16 = .ok (.ireturn, 1) := by decide +kernel
set_option maxRecDepth 20000 in
theorem ggX6_runText_X6_read : GoodIn wsX6_runText wsX6_read := goodIn_r _ [8, 2, 9, 10, 11, 12, 13, 14, 15, 7, 16, 17, 18, 19, 20, 21, 3, 22, 23, 24, 25, 26, 27, 28, 29, 30, 31, 32, 33, 34, 35, 36, 37, 38, 39, 40, 41, 42, 43, 44, 45, 46, 47, 48, 49, 50, 51, 52, 53, 54, 55, 56, 57, 58, 59, 60, 61, 62, 63, 64, 65, 66, 67, 68, 69, 70, 71, 72, 73, 74, 75, 76, 77, 78, 79, 80, 81, 82, 83, 84, 85, 86, 87, 88, 89, 90, 91, 92, 93, 94, 95, 96, 97, 98, 99, 100, 108, 109, 110, 111, 112, 113, 114, 115, 116, 117, 118, 119, 120, 121, 122, 123, 124, 125, 126, 127, 128, 129, 130, 131, 132, 133, 134, 135, 136, 137, 138, 139, 140, 141] (by decide +kernel) (by decide +kernel)
set_option maxRecDepth 20000 in
theorem gX6_runText_X6_read : GoodIn wsX6_runText (wsV RX6 178 RX6 yX6_read wsX6_read) := goodIn_app (goodIn_of _ (by decide +kernel)) ggX6_runText_X6_read
set_option maxRecDepth 20000 in
theorem ggX6_runText_X6_keep : GoodIn wsX6_runText wsX6_keep := goodIn_r _ [104, 105, 106, 29, 107, 108, 109, 110, 111, 112, 113, 114, 115, 116, 117, 118, 119, 120, 121, 122, 123, 124, 125, 126, 127, 128, 129, 130, 131, 132, 133, 134, 135, 136, 137, 138, 139, 140, 141] (by decide +kernel) (by decide +kernel)
set_option maxRecDepth 20000 in
theorem gX6_runText_X6_keep : GoodIn wsX6_runText (wsV RX6 118 RX6 yX6_keep wsX6_keep) := goodIn_app (goodIn_of _ (by decide +kernel)) ggX6_runText_X6_keep
theorem dX6_runText_0 : decode cX6_runText 0 = .ok (.aload_n 0, 1) := by decide +kernel
theorem dX6_runText_1 : decode cX6_runText 1 = .ok (.iconst 0, 1) := by decide +kernel
theorem dX6_runText_2 : decode cX6_runText 2 = .ok (.putfield 57, 3) := by decide +kernel
theorem dX6_runText_5 : decode cX6_runText 5 = .ok (.aload_n 0, 1) := by decide +kernel
theorem dX6_runText_6 : decode cX6_runText 6 = .ok (.iconst 0, 1) := by decide +kernel
theorem dX6_runText_7 : decode cX6_runText 7 = .ok (.invokevirtual 178, 3) := by decide +kernel
theorem dX6_runText_10 : decode cX6_runText 10 = .ok (.pop, 1) := by decide +kernel
theorem dX6_runText_11 : decode cX6_runText 11 = .ok (.aload_n 0, 1) := by decide +kernel
theorem dX6_runText_12 : decode cX6_runText 12 = .ok (.getfield 162, 3) := by decide +kernel
theorem dX6_runText_15 : decode cX6_runText 15 = .ok (.bipush (-9), 2) := by decide +kernel
theorem dX6_runText_17 : decode cX6_runText 17 = .ok (.if_icmp .eq 11, 3) := by decide +kernel
theorem dX6_runText_20 : decode cX6_runText 20 = .ok (.bipush (-10), 2) := by decide +kernel
theorem dX6_runText_22 : decode cX6_runText 22 = .ok (.aload_n 0, 1) := by decide +kernel
theorem dX6_runText_23 : decode cX6_runText 23 = .ok (.getfield 162, 3) := by decide +kernel
theorem dX6_runText_26 : decode cX6_runText 26 = .ok (.isub, 1) := by decide +kernel
theorem dX6_runText_27 : decode cX6_runText 27 = .ok (.ireturn, 1) := by decide +kernel
theorem dX6_runText_28 : decode cX6_runText 28 = .ok (.aload_n 0, 1) := by decide +kernel
theorem dX6_runText_29 : decode cX6_runText 29 = .ok (.invokevirtual 118, 3) := by decide +kernel
theorem dX6_runText_32 : decode cX6_runText 32 = .ok (.aload_n 0, 1) := by decide +kernel
theorem dX6_runText_33 : decode cX6_runText 33 = .ok (.iconst 1, 1) := by decide +kernel
theorem dX6_runText_34 : decode cX6_runText 34 = .ok (.invokevirtual 178, 3) := by decide +kernel
theorem dX6_runText_37 : decode cX6_runText 37 = .ok (.istore_n 1, 1) := by decide +kernel
theorem dX6_runText_38 : decode cX6_runText 38 = .ok (.aload_n 0, 1) := by decide +kernel
theorem dX6_runText_39 : decode cX6_runText 39 = .ok (.iconst 0, 1) := by decide +kernel
theorem dX6_runText_40 : decode cX6_runText 40 = .ok (.putfield 144, 3) := by decide +kernel
theorem dX6_runText_43 : decode cX6_runText 43 = .ok (.iload_n 1, 1) := by decide +kernel
theorem dX6_runText_44 : decode cX6_runText 44 = .ok (.ireturn, 1) := by decide +kernel
set_option maxRecDepth 20000 in
theorem ggX6_status_X6_take : GoodIn wsX6_status wsX6_take := goodIn_r _ [6, 7, 8, 9, 21, 22, 23, 24, 25, 26, 27, 28, 29, 30, 31, 32, 33, 34, 35, 36, 37, 38, 39, 40, 41, 42, 43, 44, 45, 46, 47, 48, 49, 50, 51, 52, 53, 54] (by decide +kernel) (by decide +kernel)
set_option maxRecDepth 20000 in
theorem gX6_status_X6_take : GoodIn wsX6_status (wsV RX6 125 RX6 yX6_take wsX6_take) := goodIn_app (goodIn_of _ (by decide +kernel)) ggX6_status_X6_take
set_option maxRecDepth 20000 in
theorem ggX6_status_X6_isProcess : GoodIn wsX6_status wsX6_isProcess := goodIn_r _ [13, 7, 14, 15, 5, 16, 21, 22, 23, 24, 25, 26, 27, 28, 29, 30, 31, 32, 33, 34, 35, 36, 37, 38, 39, 40, 41, 42, 43, 44, 45, 46, 47, 48, 49, 50, 51, 52, 53, 54] (by decide +kernel) (by decide +kernel)
set_option maxRecDepth 20000 in
theorem gX6_status_X6_isProcess : GoodIn wsX6_status (wsV RX6 134 RX6 yX6_isProcess wsX6_isProcess) := goodIn_app (goodIn_of _ (by decide +kernel)) ggX6_status_X6_isProcess
set_option maxRecDepth 20000 in
theorem ggX6_status_X6_statusIn : GoodIn wsX6_status wsX6_statusIn := goodIn_r _ [20, 9, 21, 22, 23, 24, 25, 26, 27, 28, 29, 30, 31, 32, 33, 34, 35, 36, 37, 38, 39, 40, 41, 42, 43, 44, 45, 46, 47, 48, 49, 50, 51, 52, 53, 54] (by decide +kernel) (by decide +kernel)
set_option maxRecDepth 20000 in
theorem gX6_status_X6_statusIn : GoodIn wsX6_status (wsV RX6 128 RX6 yX6_statusIn wsX6_statusIn) := goodIn_app (goodIn_of _ (by decide +kernel)) ggX6_status_X6_statusIn
theorem dX6_status_0 : decode cX6_status 0 = .ok (.aload_n 0, 1) := by decide +kernel
theorem dX6_status_1 : decode cX6_status 1 = .ok (.iconst 0, 1) := by decide +kernel
theorem dX6_status_2 : decode cX6_status 2 = .ok (.putfield 57, 3) := by decide +kernel
theorem dX6_status_5 : decode cX6_status 5 = .ok (.aload_n 0, 1) := by decide +kernel
theorem dX6_status_6 : decode cX6_status 6 = .ok (.invokevirtual 125, 3) := by decide +kernel
theorem dX6_status_9 : decode cX6_status 9 = .ok (.aload_n 0, 1) := by decide +kernel
theorem dX6_status_10 : decode cX6_status 10 = .ok (.iload_n 1, 1) := by decide +kernel
theorem dX6_status_11 : decode cX6_status 11 = .ok (.invokevirtual 134, 3) := by decide +kernel
theorem dX6_status_14 : decode cX6_status 14 = .ok (.ifCond .eq 11, 3) := by decide +kernel
theorem dX6_status_17 : decode cX6_status 17 = .ok (.aload_n 0, 1) := by decide +kernel
theorem dX6_status_18 : decode cX6_status 18 = .ok (.iload_n 1, 1) := by decide +kernel
theorem dX6_status_19 : decode cX6_status 19 = .ok (.invokevirtual 128, 3) := by decide +kernel
theorem dX6_status_22 : decode cX6_status 22 = .ok (.goto 4, 3) := by decide +kernel
theorem dX6_status_25 : decode cX6_status 25 = .ok (.iconst (-1), 1) := by decide +kernel
theorem dX6_status_26 : decode cX6_status 26 = .ok (.ireturn, 1) := by decide +kernel
set_option maxRecDepth 20000 in
theorem ggX6_splitterOf_X6_isProcess : GoodIn wsX6_splitterOf wsX6_isProcess := goodIn_r _ [6, 7, 8, 9, 5, 10, 21, 22, 23, 24, 25, 26, 27, 28, 29, 30, 31, 32, 33, 34, 35, 36, 37, 38, 39, 40, 41, 42, 43, 44, 45, 46, 47, 48, 49, 50, 51, 52, 53, 54] (by decide +kernel) (by decide +kernel)
set_option maxRecDepth 20000 in
theorem gX6_splitterOf_X6_isProcess : GoodIn wsX6_splitterOf (wsV RX6 134 RX6 yX6_isProcess wsX6_isProcess) := goodIn_app (goodIn_of _ (by decide +kernel)) ggX6_splitterOf_X6_isProcess
set_option maxRecDepth 20000 in
theorem ggX6_splitterOf_X6_take : GoodIn wsX6_splitterOf wsX6_take := goodIn_r _ [14, 7, 15, 16, 21, 22, 23, 24, 25, 26, 27, 28, 29, 30, 31, 32, 33, 34, 35, 36, 37, 38, 39, 40, 41, 42, 43, 44, 45, 46, 47, 48, 49, 50, 51, 52, 53, 54] (by decide +kernel) (by decide +kernel)
set_option maxRecDepth 20000 in
theorem gX6_splitterOf_X6_take : GoodIn wsX6_splitterOf (wsV RX6 125 RX6 yX6_take wsX6_take) := goodIn_app (goodIn_of _ (by decide +kernel)) ggX6_splitterOf_X6_take
set_option maxRecDepth 20000 in
theorem ggX6_splitterOf_X6_splitterIn : GoodIn wsX6_splitterOf wsX6_splitterIn := goodIn_r _ [20, 16, 21, 22, 23, 24, 25, 26, 27, 28, 29, 30, 31, 32, 33, 34, 35, 36, 37, 38, 39, 40, 41, 42, 43, 44, 45, 46, 47, 48, 49, 50, 51, 52, 53, 54] (by decide +kernel) (by decide +kernel)
set_option maxRecDepth 20000 in
theorem gX6_splitterOf_X6_splitterIn : GoodIn wsX6_splitterOf (wsV RX6 67 RX6 yX6_splitterIn wsX6_splitterIn) := goodIn_app (goodIn_of _ (by decide +kernel)) ggX6_splitterOf_X6_splitterIn
theorem dX6_splitterOf_0 : decode cX6_splitterOf 0 = .ok (.aload_n 0, 1) := by decide +kernel
theorem dX6_splitterOf_1 : decode cX6_splitterOf 1 = .ok (.iconst 0, 1) := by decide +kernel
theorem dX6_splitterOf_2 : decode cX6_splitterOf 2 = .ok (.putfield 57, 3) := by decide +kernel
theorem dX6_splitterOf_5 : decode cX6_splitterOf 5 = .ok (.aload_n 0, 1) := by decide +kernel
theorem dX6_splitterOf_6 : decode cX6_splitterOf 6 = .ok (.iload_n 1, 1) := by decide +kernel
theorem dX6_splitterOf_7 : decode cX6_splitterOf 7 = .ok (.invokevirtual 134, 3) := by decide +kernel
theorem dX6_splitterOf_10 : decode cX6_splitterOf 10 = .ok (.ifCond .ne 5, 3) := by decide +kernel
theorem dX6_splitterOf_13 : decode cX6_splitterOf 13 = .ok (.iconst (-1), 1) := by decide +kernel
theorem dX6_splitterOf_14 : decode cX6_splitterOf 14 = .ok (.ireturn, 1) := by decide +kernel
theorem dX6_splitterOf_15 : decode cX6_splitterOf 15 = .ok (.aload_n 0, 1) := by decide +kernel
theorem dX6_splitterOf_16 : decode cX6_splitterOf 16 = .ok (.invokevirtual 125, 3) := by decide +kernel
theorem dX6_splitterOf_19 : decode cX6_splitterOf 19 = .ok (.aload_n 0, 1) := by decide +kernel
theorem dX6_splitterOf_20 : decode cX6_splitterOf 20 = .ok (.iload_n 1, 1) := by decide +kernel
theorem dX6_splitterOf_21 : decode cX6_splitterOf 21 = .ok (.invokevirtual 67, 3) := by decide +kernel
theorem dX6_splitterOf_24 : decode cX6_splitterOf 24 = .ok (.bipush 15, 2) := by decide +kernel
theorem dX6_splitterOf_26 : decode cX6_splitterOf 26 = .ok (.if_icmp .ne 8, 3) := by decide +kernel
theorem dX6_splitterOf_29 : decode cX6_splitterOf 29 = .ok (.bipush (-9), 2) := by decide +kernel
theorem dX6_splitterOf_31 : decode cX6_splitterOf 31 = .ok (.goto 8, 3) := by decide +kernel
theorem dX6_splitterOf_34 : decode cX6_splitterOf 34 = .ok (.aload_n 0, 1) := by decide +kernel
theorem dX6_splitterOf_35 : decode cX6_splitterOf 35 = .ok (.iload_n 1, 1) := by decide +kernel
theorem dX6_splitterOf_36 : decode cX6_splitterOf 36 = .ok (.invokevirtual 67, 3) := by decide +kernel
theorem dX6_splitterOf_39 : decode cX6_splitterOf 39 = .ok (.ireturn, 1) := by decide +kernel
set_option maxRecDepth 20000 in
theorem ggX6_phaseOf_X6_isProcess : GoodIn wsX6_phaseOf wsX6_isProcess := goodIn_r _ [6, 7, 8, 9, 5, 10, 25, 26, 27, 28, 29, 30, 31, 32, 33, 34, 35, 36, 37, 38, 39, 40, 41, 42, 43, 44, 45, 46, 47, 48, 49, 50, 51, 52, 53, 54, 55, 56, 57, 58] (by decide +kernel) (by decide +kernel)
set_option maxRecDepth 20000 in
theorem gX6_phaseOf_X6_isProcess : GoodIn wsX6_phaseOf (wsV RX6 134 RX6 yX6_isProcess wsX6_isProcess) := goodIn_app (goodIn_of _ (by decide +kernel)) ggX6_phaseOf_X6_isProcess
set_option maxRecDepth 20000 in
theorem ggX6_phaseOf_X6_take : GoodIn wsX6_phaseOf wsX6_take := goodIn_r _ [14, 7, 15, 16, 25, 26, 27, 28, 29, 30, 31, 32, 33, 34, 35, 36, 37, 38, 39, 40, 41, 42, 43, 44, 45, 46, 47, 48, 49, 50, 51, 52, 53, 54, 55, 56, 57, 58] (by decide +kernel) (by decide +kernel)
set_option maxRecDepth 20000 in
theorem gX6_phaseOf_X6_take : GoodIn wsX6_phaseOf (wsV RX6 125 RX6 yX6_take wsX6_take) := goodIn_app (goodIn_of _ (by decide +kernel)) ggX6_phaseOf_X6_take
set_option maxRecDepth 20000 in
theorem ggX6_phaseOf_X6_splitterIn : GoodIn wsX6_phaseOf wsX6_splitterIn := goodIn_r _ [20, 16, 25, 26, 27, 28, 29, 30, 31, 32, 33, 34, 35, 36, 37, 38, 39, 40, 41, 42, 43, 44, 45, 46, 47, 48, 49, 50, 51, 52, 53, 54, 55, 56, 57, 58] (by decide +kernel) (by decide +kernel)
set_option maxRecDepth 20000 in
theorem gX6_phaseOf_X6_splitterIn : GoodIn wsX6_phaseOf (wsV RX6 67 RX6 yX6_splitterIn wsX6_splitterIn) := goodIn_app (goodIn_of _ (by decide +kernel)) ggX6_phaseOf_X6_splitterIn
set_option maxRecDepth 20000 in
theorem ggX6_phaseOf_X6_phaseIn : GoodIn wsX6_phaseOf wsX6_phaseIn := goodIn_r _ [24, 16, 25, 26, 27, 28, 29, 30, 31, 32, 33, 34, 35, 36, 37, 38, 39, 40, 41, 42, 43, 44, 45, 46, 47, 48, 49, 50, 51, 52, 53, 54, 55, 56, 57, 58] (by decide +kernel) (by decide +kernel)
set_option maxRecDepth 20000 in
theorem gX6_phaseOf_X6_phaseIn : GoodIn wsX6_phaseOf (wsV RX6 85 RX6 yX6_phaseIn wsX6_phaseIn) := goodIn_app (goodIn_of _ (by decide +kernel)) ggX6_phaseOf_X6_phaseIn
theorem dX6_phaseOf_0 : decode cX6_phaseOf 0 = .ok (.aload_n 0, 1) := by decide +kernel
theorem dX6_phaseOf_1 : decode cX6_phaseOf 1 = .ok (.iconst 0, 1) := by decide +kernel
theorem dX6_phaseOf_2 : decode cX6_phaseOf 2 = .ok (.putfield 57, 3) := by decide +kernel
theorem dX6_phaseOf_5 : decode cX6_phaseOf 5 = .ok (.aload_n 0, 1) := by decide +kernel
theorem dX6_phaseOf_6 : decode cX6_phaseOf 6 = .ok (.iload_n 1, 1) := by decide +kernel
theorem dX6_phaseOf_7 : decode cX6_phaseOf 7 = .ok (.invokevirtual 134, 3) := by decide +kernel
theorem dX6_phaseOf_10 : decode cX6_phaseOf 10 = .ok (.ifCond .ne 5, 3) := by decide +kernel
theorem dX6_phaseOf_13 : decode cX6_phaseOf 13 = .ok (.iconst (-1), 1) := by decide +kernel
theorem dX6_phaseOf_14 : decode cX6_phaseOf 14 = .ok (.ireturn, 1) := by decide +kernel
theorem dX6_phaseOf_15 : decode cX6_phaseOf 15 = .ok (.aload_n 0, 1) := by decide +kernel
theorem dX6_phaseOf_16 : decode cX6_phaseOf 16 = .ok (.invokevirtual 125, 3) := by decide +kernel
theorem dX6_phaseOf_19 : decode cX6_phaseOf 19 = .ok (.aload_n 0, 1) := by decide +kernel
theorem dX6_phaseOf_20 : decode cX6_phaseOf 20 = .ok (.iload_n 1, 1) := by decide +kernel
theorem dX6_phaseOf_21 : decode cX6_phaseOf 21 = .ok (.invokevirtual 67, 3) := by decide +kernel
theorem dX6_phaseOf_24 : decode cX6_phaseOf 24 = .ok (.bipush 15, 2) := by decide +kernel
theorem dX6_phaseOf_26 : decode cX6_phaseOf 26 = .ok (.if_icmp .ne 8, 3) := by decide +kernel
theorem dX6_phaseOf_29 : decode cX6_phaseOf 29 = .ok (.bipush (-9), 2) := by decide +kernel
theorem dX6_phaseOf_31 : decode cX6_phaseOf 31 = .ok (.goto 8, 3) := by decide +kernel
theorem dX6_phaseOf_34 : decode cX6_phaseOf 34 = .ok (.aload_n 0, 1) := by decide +kernel
theorem dX6_phaseOf_35 : decode cX6_phaseOf 35 = .ok (.iload_n 1, 1) := by decide +kernel
theorem dX6_phaseOf_36 : decode cX6_phaseOf 36 = .ok (.invokevirtual 85, 3) := by decide +kernel
theorem dX6_phaseOf_39 : decode cX6_phaseOf 39 = .ok (.ireturn, 1) := by decide +kernel
set_option maxRecDepth 20000 in
theorem ggX6_stepsOf_X6_isProcess : GoodIn wsX6_stepsOf wsX6_isProcess := goodIn_r _ [7, 2, 8, 9, 6, 10, 11, 12, 13, 14, 15, 16, 17, 18, 19, 20, 21, 22, 23, 24, 25, 26, 27, 28, 29, 30, 31, 32, 33, 34, 35, 36, 37, 38, 39, 40, 41, 42, 43, 44] (by decide +kernel) (by decide +kernel)
set_option maxRecDepth 20000 in
theorem gX6_stepsOf_X6_isProcess : GoodIn wsX6_stepsOf (wsV RX6 134 RX6 yX6_isProcess wsX6_isProcess) := goodIn_app (goodIn_of _ (by decide +kernel)) ggX6_stepsOf_X6_isProcess
theorem dX6_stepsOf_0 : decode cX6_stepsOf 0 = .ok (.aload_n 0, 1) := by decide +kernel
theorem dX6_stepsOf_1 : decode cX6_stepsOf 1 = .ok (.iconst 0, 1) := by decide +kernel
theorem dX6_stepsOf_2 : decode cX6_stepsOf 2 = .ok (.putfield 57, 3) := by decide +kernel
theorem dX6_stepsOf_5 : decode cX6_stepsOf 5 = .ok (.aload_n 0, 1) := by decide +kernel
theorem dX6_stepsOf_6 : decode cX6_stepsOf 6 = .ok (.iload_n 1, 1) := by decide +kernel
theorem dX6_stepsOf_7 : decode cX6_stepsOf 7 = .ok (.invokevirtual 134, 3) := by decide +kernel
theorem dX6_stepsOf_10 : decode cX6_stepsOf 10 = .ok (.ifCond .eq 14, 3) := by decide +kernel
theorem dX6_stepsOf_13 : decode cX6_stepsOf 13 = .ok (.aload_n 0, 1) := by decide +kernel
theorem dX6_stepsOf_14 : decode cX6_stepsOf 14 = .ok (.getfield 7, 3) := by decide +kernel
theorem dX6_stepsOf_17 : decode cX6_stepsOf 17 = .ok (.iconst 5, 1) := by decide +kernel
theorem dX6_stepsOf_18 : decode cX6_stepsOf 18 = .ok (.iload_n 1, 1) := by decide +kernel
theorem dX6_stepsOf_19 : decode cX6_stepsOf 19 = .ok (.iadd, 1) := by decide +kernel
theorem dX6_stepsOf_20 : decode cX6_stepsOf 20 = .ok (.iaload, 1) := by decide +kernel
theorem dX6_stepsOf_21 : decode cX6_stepsOf 21 = .ok (.goto 4, 3) := by decide +kernel
theorem dX6_stepsOf_24 : decode cX6_stepsOf 24 = .ok (.iconst (-1), 1) := by decide +kernel
theorem dX6_stepsOf_25 : decode cX6_stepsOf 25 = .ok (.ireturn, 1) := by decide +kernel
set_option maxRecDepth 20000 in
theorem ggX6_runAlone_X6_take : GoodIn wsX6_runAlone wsX6_take := goodIn_r _ [5, 6, 7, 8, 58, 59, 60, 61, 62, 63, 64, 65, 66, 67, 68, 69, 70, 71, 72, 73, 74, 75, 76, 77, 78, 79, 80, 81, 82, 83, 84, 85, 86, 87, 88, 89, 90, 91] (by decide +kernel) (by decide +kernel)
set_option maxRecDepth 20000 in
theorem gX6_runAlone_X6_take : GoodIn wsX6_runAlone (wsV RX6 125 RX6 yX6_take wsX6_take) := goodIn_app (goodIn_of _ (by decide +kernel)) ggX6_runAlone_X6_take
set_option maxRecDepth 20000 in
theorem ggX6_runAlone_X6_statusIn : GoodIn wsX6_runAlone wsX6_statusIn := goodIn_r _ [12, 8, 58, 59, 60, 61, 62, 63, 64, 65, 66, 67, 68, 69, 70, 71, 72, 73, 74, 75, 76, 77, 78, 79, 80, 81, 82, 83, 84, 85, 86, 87, 88, 89, 90, 91] (by decide +kernel) (by decide +kernel)
set_option maxRecDepth 20000 in
theorem gX6_runAlone_X6_statusIn : GoodIn wsX6_runAlone (wsV RX6 128 RX6 yX6_statusIn wsX6_statusIn) := goodIn_app (goodIn_of _ (by decide +kernel)) ggX6_runAlone_X6_statusIn
set_option maxRecDepth 20000 in
theorem ggX6_runAlone_X6_stepOf : GoodIn wsX6_runAlone wsX6_stepOf := goodIn_r _ [16, 17, 7, 6, 18, 19, 20, 4, 21, 8, 22, 23, 24, 25, 26, 27, 28, 29, 30, 31, 32, 33, 34, 35, 36, 37, 38, 39, 40, 41, 42, 43, 44, 45, 46, 47, 48, 49, 50, 51, 52, 53, 54, 55, 56, 57, 58, 59, 60, 61, 62, 63, 64, 65, 66, 67, 68, 69, 70, 71, 72, 73, 74, 75, 76, 77, 78, 79, 80, 81, 82, 83, 84, 85, 86, 87, 88, 89, 90, 91] (by decide +kernel) (by decide +kernel)
set_option maxRecDepth 20000 in
theorem gX6_runAlone_X6_stepOf : GoodIn wsX6_runAlone (wsV RX6 131 RX6 yX6_stepOf wsX6_stepOf) := goodIn_app (goodIn_of _ (by decide +kernel)) ggX6_runAlone_X6_stepOf
theorem dX6_runAlone_0 : decode cX6_runAlone 0 = .ok (.aload_n 0, 1) := by decide +kernel
theorem dX6_runAlone_1 : decode cX6_runAlone 1 = .ok (.invokevirtual 125, 3) := by decide +kernel
theorem dX6_runAlone_4 : decode cX6_runAlone 4 = .ok (.iconst 0, 1) := by decide +kernel
theorem dX6_runAlone_5 : decode cX6_runAlone 5 = .ok (.istore_n 2, 1) := by decide +kernel
theorem dX6_runAlone_6 : decode cX6_runAlone 6 = .ok (.aload_n 0, 1) := by decide +kernel
theorem dX6_runAlone_7 : decode cX6_runAlone 7 = .ok (.iload_n 1, 1) := by decide +kernel
theorem dX6_runAlone_8 : decode cX6_runAlone 8 = .ok (.invokevirtual 128, 3) := by decide +kernel
theorem dX6_runAlone_11 : decode cX6_runAlone 11 = .ok (.ifCond .ne 15, 3) := by decide +kernel
theorem dX6_runAlone_14 : decode cX6_runAlone 14 = .ok (.aload_n 0, 1) := by decide +kernel
theorem dX6_runAlone_15 : decode cX6_runAlone 15 = .ok (.iload_n 1, 1) := by decide +kernel
theorem dX6_runAlone_16 : decode cX6_runAlone 16 = .ok (.invokevirtual 131, 3) := by decide +kernel
theorem dX6_runAlone_19 : decode cX6_runAlone 19 = .ok (.pop, 1) := by decide +kernel
theorem dX6_runAlone_20 : decode cX6_runAlone 20 = .ok (.iinc 2 1, 3) := by decide +kernel
theorem dX6_runAlone_23 : decode cX6_runAlone 23 = .ok (.goto (-17), 3) := by decide +kernel
theorem dX6_runAlone_26 : decode cX6_runAlone 26 = .ok (.iload_n 2, 1) := by decide +kernel
theorem dX6_runAlone_27 : decode cX6_runAlone 27 = .ok (.ireturn, 1) := by decide +kernel
set_option maxRecDepth 20000 in
theorem ggX6_soloSteps_X6_isProcess : GoodIn wsX6_soloSteps wsX6_isProcess := goodIn_r _ [6, 7, 8, 9, 5, 10, 70, 71, 72, 73, 74, 75, 76, 77, 78, 79, 80, 81, 82, 83, 84, 85, 86, 87, 88, 89, 90, 91, 92, 93, 94, 95, 96, 97, 98, 99, 100, 101, 102, 103] (by decide +kernel) (by decide +kernel)
set_option maxRecDepth 20000 in
theorem gX6_soloSteps_X6_isProcess : GoodIn wsX6_soloSteps (wsV RX6 134 RX6 yX6_isProcess wsX6_isProcess) := goodIn_app (goodIn_of _ (by decide +kernel)) ggX6_soloSteps_X6_isProcess
set_option maxRecDepth 20000 in
theorem ggX6_soloSteps_X6_runAlone : GoodIn wsX6_soloSteps wsX6_runAlone := goodIn_r _ [14, 15, 16, 17, 5, 18, 7, 19, 20, 21, 22, 23, 24, 25, 26, 27, 28, 29, 30, 31, 32, 33, 34, 35, 36, 37, 38, 39, 40, 41, 42, 43, 44, 45, 46, 47, 48, 49, 50, 51, 52, 53, 54, 55, 56, 57, 58, 59, 60, 61, 62, 63, 64, 65, 66, 67, 68, 69, 70, 71, 72, 73, 74, 75, 76, 77, 78, 79, 80, 81, 82, 83, 84, 85, 86, 87, 88, 89, 90, 91, 92, 93, 94, 95, 96, 97, 98, 99, 100, 101, 102, 103] (by decide +kernel) (by decide +kernel)
set_option maxRecDepth 20000 in
theorem gX6_soloSteps_X6_runAlone : GoodIn wsX6_soloSteps (wsV RX6 181 RX6 yX6_runAlone wsX6_runAlone) := goodIn_app (goodIn_of _ (by decide +kernel)) ggX6_soloSteps_X6_runAlone
theorem dX6_soloSteps_0 : decode cX6_soloSteps 0 = .ok (.aload_n 0, 1) := by decide +kernel
theorem dX6_soloSteps_1 : decode cX6_soloSteps 1 = .ok (.iconst 0, 1) := by decide +kernel
theorem dX6_soloSteps_2 : decode cX6_soloSteps 2 = .ok (.putfield 57, 3) := by decide +kernel
theorem dX6_soloSteps_5 : decode cX6_soloSteps 5 = .ok (.aload_n 0, 1) := by decide +kernel
theorem dX6_soloSteps_6 : decode cX6_soloSteps 6 = .ok (.iload_n 1, 1) := by decide +kernel
theorem dX6_soloSteps_7 : decode cX6_soloSteps 7 = .ok (.invokevirtual 134, 3) := by decide +kernel
theorem dX6_soloSteps_10 : decode cX6_soloSteps 10 = .ok (.ifCond .eq 11, 3) := by decide +kernel
theorem dX6_soloSteps_13 : decode cX6_soloSteps 13 = .ok (.aload_n 0, 1) := by decide +kernel
theorem dX6_soloSteps_14 : decode cX6_soloSteps 14 = .ok (.iload_n 1, 1) := by decide +kernel
theorem dX6_soloSteps_15 : decode cX6_soloSteps 15 = .ok (.invokevirtual 181, 3) := by decide +kernel
theorem dX6_soloSteps_18 : decode cX6_soloSteps 18 = .ok (.goto 4, 3) := by decide +kernel
theorem dX6_soloSteps_21 : decode cX6_soloSteps 21 = .ok (.iconst (-1), 1) := by decide +kernel
theorem dX6_soloSteps_22 : decode cX6_soloSteps 22 = .ok (.ireturn, 1) := by decide +kernel
set_option maxRecDepth 20000 in
theorem ggX6_soloName_X6_isProcess : GoodIn wsX6_soloName wsX6_isProcess := goodIn_r _ [6, 7, 8, 9, 5, 10, 70, 71, 72, 73, 74, 75, 76, 77, 78, 79, 80, 81, 82, 83, 84, 85, 86, 87, 88, 89, 90, 91, 92, 93, 94, 95, 96, 97, 98, 99, 100, 101, 102, 103] (by decide +kernel) (by decide +kernel)
set_option maxRecDepth 20000 in
theorem gX6_soloName_X6_isProcess : GoodIn wsX6_soloName (wsV RX6 134 RX6 yX6_isProcess wsX6_isProcess) := goodIn_app (goodIn_of _ (by decide +kernel)) ggX6_soloName_X6_isProcess
set_option maxRecDepth 20000 in
theorem ggX6_soloName_X6_runAlone : GoodIn wsX6_soloName wsX6_runAlone := goodIn_r _ [14, 15, 16, 17, 5, 18, 7, 19, 20, 21, 22, 23, 24, 25, 26, 27, 28, 29, 30, 31, 32, 33, 34, 35, 36, 37, 38, 39, 40, 41, 42, 43, 44, 45, 46, 47, 48, 49, 50, 51, 52, 53, 54, 55, 56, 57, 58, 59, 60, 61, 62, 63, 64, 65, 66, 67, 68, 69, 70, 71, 72, 73, 74, 75, 76, 77, 78, 79, 80, 81, 82, 83, 84, 85, 86, 87, 88, 89, 90, 91, 92, 93, 94, 95, 96, 97, 98, 99, 100, 101, 102, 103] (by decide +kernel) (by decide +kernel)
set_option maxRecDepth 20000 in
theorem gX6_soloName_X6_runAlone : GoodIn wsX6_soloName (wsV RX6 181 RX6 yX6_runAlone wsX6_runAlone) := goodIn_app (goodIn_of _ (by decide +kernel)) ggX6_soloName_X6_runAlone
set_option maxRecDepth 20000 in
theorem ggX6_soloName_X6_statusIn : GoodIn wsX6_soloName wsX6_statusIn := goodIn_r _ [24, 20, 70, 71, 72, 73, 74, 75, 76, 77, 78, 79, 80, 81, 82, 83, 84, 85, 86, 87, 88, 89, 90, 91, 92, 93, 94, 95, 96, 97, 98, 99, 100, 101, 102, 103] (by decide +kernel) (by decide +kernel)
set_option maxRecDepth 20000 in
theorem gX6_soloName_X6_statusIn : GoodIn wsX6_soloName (wsV RX6 128 RX6 yX6_statusIn wsX6_statusIn) := goodIn_app (goodIn_of _ (by decide +kernel)) ggX6_soloName_X6_statusIn
set_option maxRecDepth 20000 in
theorem ggX6_soloName_X6_splitterIn : GoodIn wsX6_soloName wsX6_splitterIn := goodIn_r _ [33, 20, 70, 71, 72, 73, 74, 75, 76, 77, 78, 79, 80, 81, 82, 83, 84, 85, 86, 87, 88, 89, 90, 91, 92, 93, 94, 95, 96, 97, 98, 99, 100, 101, 102, 103] (by decide +kernel) (by decide +kernel)
set_option maxRecDepth 20000 in
theorem gX6_soloName_X6_splitterIn : GoodIn wsX6_soloName (wsV RX6 67 RX6 yX6_splitterIn wsX6_splitterIn) := goodIn_app (goodIn_of _ (by decide +kernel)) ggX6_soloName_X6_splitterIn
theorem dX6_soloName_0 : decode cX6_soloName 0 = .ok (.aload_n 0, 1) := by decide +kernel
theorem dX6_soloName_1 : decode cX6_soloName 1 = .ok (.iconst 0, 1) := by decide +kernel
theorem dX6_soloName_2 : decode cX6_soloName 2 = .ok (.putfield 57, 3) := by decide +kernel
theorem dX6_soloName_5 : decode cX6_soloName 5 = .ok (.aload_n 0, 1) := by decide +kernel
theorem dX6_soloName_6 : decode cX6_soloName 6 = .ok (.iload_n 1, 1) := by decide +kernel
theorem dX6_soloName_7 : decode cX6_soloName 7 = .ok (.invokevirtual 134, 3) := by decide +kernel
theorem dX6_soloName_10 : decode cX6_soloName 10 = .ok (.ifCond .ne 5, 3) := by decide +kernel
theorem dX6_soloName_13 : decode cX6_soloName 13 = .ok (.iconst (-1), 1) := by decide +kernel
theorem dX6_soloName_14 : decode cX6_soloName 14 = .ok (.ireturn, 1) := by decide +kernel
theorem dX6_soloName_15 : decode cX6_soloName 15 = .ok (.aload_n 0, 1) := by decide +kernel
theorem dX6_soloName_16 : decode cX6_soloName 16 = .ok (.iload_n 1, 1) := by decide +kernel
theorem dX6_soloName_17 : decode cX6_soloName 17 = .ok (.invokevirtual 181, 3) := by decide +kernel
theorem dX6_soloName_20 : decode cX6_soloName 20 = .ok (.pop, 1) := by decide +kernel
theorem dX6_soloName_21 : decode cX6_soloName 21 = .ok (.aload_n 0, 1) := by decide +kernel
theorem dX6_soloName_22 : decode cX6_soloName 22 = .ok (.iload_n 1, 1) := by decide +kernel
theorem dX6_soloName_23 : decode cX6_soloName 23 = .ok (.invokevirtual 128, 3) := by decide +kernel
theorem dX6_soloName_26 : decode cX6_soloName 26 = .ok (.iconst 1, 1) := by decide +kernel
theorem dX6_soloName_27 : decode cX6_soloName 27 = .ok (.if_icmp .ne 11, 3) := by decide +kernel
theorem dX6_soloName_30 : decode cX6_soloName 30 = .ok (.aload_n 0, 1) := by decide +kernel
theorem dX6_soloName_31 : decode cX6_soloName 31 = .ok (.iload_n 1, 1) := by decide +kernel
theorem dX6_soloName_32 : decode cX6_soloName 32 = .ok (.invokevirtual 67, 3) := by decide +kernel
theorem dX6_soloName_35 : decode cX6_soloName 35 = .ok (.goto 5, 3) := by decide +kernel
theorem dX6_soloName_38 : decode cX6_soloName 38 = .ok (.bipush (-9), 2) := by decide +kernel
theorem dX6_soloName_40 : decode cX6_soloName 40 = .ok (.ireturn, 1) := by decide +kernel
set_option maxRecDepth 20000 in
theorem ggX6_isSplitter_X6_names : GoodIn wsX6_isSplitter wsX6_names := goodIn_r _ [5, 6, 10, 11, 12, 13, 14, 15, 16, 17, 18, 19, 20, 21, 22, 23, 24, 25, 26, 27, 28, 29, 30, 31, 32, 33, 34, 35, 36, 37, 38, 39, 40, 41, 42, 43] (by decide +kernel) (by decide +kernel)
set_option maxRecDepth 20000 in
theorem gX6_isSplitter_X6_names : GoodIn wsX6_isSplitter (wsV RX6 121 RX6 yX6_names wsX6_names) := goodIn_app (goodIn_of _ (by decide +kernel)) ggX6_isSplitter_X6_names
set_option maxRecDepth 20000 in
theorem ggX6_isSplitter_X6_in : GoodIn wsX6_isSplitter wsX6_in := goodIn_r _ [9] (by decide +kernel) (by decide +kernel)
set_option maxRecDepth 20000 in
theorem gX6_isSplitter_X6_in : GoodIn wsX6_isSplitter (va_wsS RX6 114 yX6_in wsX6_in) := goodIn_app (goodIn_of _ (by decide +kernel)) ggX6_isSplitter_X6_in
theorem dX6_isSplitter_0 : decode cX6_isSplitter 0 = .ok (.iload_n 1, 1) := by decide +kernel
theorem dX6_isSplitter_1 : decode cX6_isSplitter 1 = .ok (.iconst 0, 1) := by decide +kernel
theorem dX6_isSplitter_2 : decode cX6_isSplitter 2 = .ok (.aload_n 0, 1) := by decide +kernel
theorem dX6_isSplitter_3 : decode cX6_isSplitter 3 = .ok (.invokevirtual 121, 3) := by decide +kernel
theorem dX6_isSplitter_6 : decode cX6_isSplitter 6 = .ok (.iconst 1, 1) := by decide +kernel
theorem dX6_isSplitter_7 : decode cX6_isSplitter 7 = .ok (.isub, 1) := by decide +kernel
theorem dX6_isSplitter_8 : decode cX6_isSplitter 8 = .ok (.invokestatic 114, 3) := by decide +kernel
theorem dX6_isSplitter_11 : decode cX6_isSplitter 11 = .ok (.ireturn, 1) := by decide +kernel
set_option maxRecDepth 20000 in
theorem ggX6_owner_X6_isSplitter : GoodIn wsX6_owner wsX6_isSplitter := goodIn_r _ [6, 7, 8, 9, 5, 10, 11, 12, 13, 14, 25, 26, 27, 28, 29, 30, 31, 32, 33, 34, 35, 36, 37, 38, 39, 40, 41, 42, 43, 44, 45, 46, 47, 48, 49, 50, 51, 52, 53, 54, 55, 56, 57, 58] (by decide +kernel) (by decide +kernel)
set_option maxRecDepth 20000 in
theorem gX6_owner_X6_isSplitter : GoodIn wsX6_owner (wsV RX6 184 RX6 yX6_isSplitter wsX6_isSplitter) := goodIn_app (goodIn_of _ (by decide +kernel)) ggX6_owner_X6_isSplitter
set_option maxRecDepth 20000 in
theorem ggX6_owner_X6_take : GoodIn wsX6_owner wsX6_take := goodIn_r _ [18, 11, 19, 20, 25, 26, 27, 28, 29, 30, 31, 32, 33, 34, 35, 36, 37, 38, 39, 40, 41, 42, 43, 44, 45, 46, 47, 48, 49, 50, 51, 52, 53, 54, 55, 56, 57, 58] (by decide +kernel) (by decide +kernel)
set_option maxRecDepth 20000 in
theorem gX6_owner_X6_take : GoodIn wsX6_owner (wsV RX6 125 RX6 yX6_take wsX6_take) := goodIn_app (goodIn_of _ (by decide +kernel)) ggX6_owner_X6_take
set_option maxRecDepth 20000 in
theorem ggX6_owner_X6_ownerIn : GoodIn wsX6_owner wsX6_ownerIn := goodIn_r _ [24, 19, 25, 26, 27, 28, 29, 30, 31, 32, 33, 34, 35, 36, 37, 38, 39, 40, 41, 42, 43, 44, 45, 46, 47, 48, 49, 50, 51, 52, 53, 54, 55, 56, 57, 58] (by decide +kernel) (by decide +kernel)
set_option maxRecDepth 20000 in
theorem gX6_owner_X6_ownerIn : GoodIn wsX6_owner (wsV RX6 99 RX6 yX6_ownerIn wsX6_ownerIn) := goodIn_app (goodIn_of _ (by decide +kernel)) ggX6_owner_X6_ownerIn
theorem dX6_owner_0 : decode cX6_owner 0 = .ok (.aload_n 0, 1) := by decide +kernel
theorem dX6_owner_1 : decode cX6_owner 1 = .ok (.iconst 0, 1) := by decide +kernel
theorem dX6_owner_2 : decode cX6_owner 2 = .ok (.putfield 57, 3) := by decide +kernel
theorem dX6_owner_5 : decode cX6_owner 5 = .ok (.aload_n 0, 1) := by decide +kernel
theorem dX6_owner_6 : decode cX6_owner 6 = .ok (.iload_n 1, 1) := by decide +kernel
theorem dX6_owner_7 : decode cX6_owner 7 = .ok (.invokevirtual 184, 3) := by decide +kernel
theorem dX6_owner_10 : decode cX6_owner 10 = .ok (.ifCond .ne 5, 3) := by decide +kernel
theorem dX6_owner_13 : decode cX6_owner 13 = .ok (.iconst (-1), 1) := by decide +kernel
theorem dX6_owner_14 : decode cX6_owner 14 = .ok (.ireturn, 1) := by decide +kernel
theorem dX6_owner_15 : decode cX6_owner 15 = .ok (.aload_n 0, 1) := by decide +kernel
theorem dX6_owner_16 : decode cX6_owner 16 = .ok (.invokevirtual 125, 3) := by decide +kernel
theorem dX6_owner_19 : decode cX6_owner 19 = .ok (.aload_n 0, 1) := by decide +kernel
theorem dX6_owner_20 : decode cX6_owner 20 = .ok (.iload_n 1, 1) := by decide +kernel
theorem dX6_owner_21 : decode cX6_owner 21 = .ok (.invokevirtual 99, 3) := by decide +kernel
theorem dX6_owner_24 : decode cX6_owner 24 = .ok (.ifCond .ge 8, 3) := by decide +kernel
theorem dX6_owner_27 : decode cX6_owner 27 = .ok (.bipush (-9), 2) := by decide +kernel
theorem dX6_owner_29 : decode cX6_owner 29 = .ok (.goto 8, 3) := by decide +kernel
theorem dX6_owner_32 : decode cX6_owner 32 = .ok (.aload_n 0, 1) := by decide +kernel
theorem dX6_owner_33 : decode cX6_owner 33 = .ok (.iload_n 1, 1) := by decide +kernel
theorem dX6_owner_34 : decode cX6_owner 34 = .ok (.invokevirtual 99, 3) := by decide +kernel
theorem dX6_owner_37 : decode cX6_owner 37 = .ok (.ireturn, 1) := by decide +kernel
set_option maxRecDepth 20000 in
theorem ggX6_door_X6_take : GoodIn wsX6_door wsX6_take := goodIn_r _ [6, 7, 8, 9, 25, 26, 27, 28, 29, 30, 31, 32, 33, 34, 35, 36, 37, 38, 39, 40, 41, 42, 43, 44, 45, 46, 47, 48, 49, 50, 51, 52, 53, 54, 55, 56, 57, 58] (by decide +kernel) (by decide +kernel)
set_option maxRecDepth 20000 in
theorem gX6_door_X6_take : GoodIn wsX6_door (wsV RX6 125 RX6 yX6_take wsX6_take) := goodIn_app (goodIn_of _ (by decide +kernel)) ggX6_door_X6_take
set_option maxRecDepth 20000 in
theorem ggX6_door_X6_isSplitter : GoodIn wsX6_door wsX6_isSplitter := goodIn_r _ [13, 14, 15, 16, 5, 17, 7, 18, 19, 20, 25, 26, 27, 28, 29, 30, 31, 32, 33, 34, 35, 36, 37, 38, 39, 40, 41, 42, 43, 44, 45, 46, 47, 48, 49, 50, 51, 52, 53, 54, 55, 56, 57, 58] (by decide +kernel) (by decide +kernel)
set_option maxRecDepth 20000 in
theorem gX6_door_X6_isSplitter : GoodIn wsX6_door (wsV RX6 184 RX6 yX6_isSplitter wsX6_isSplitter) := goodIn_app (goodIn_of _ (by decide +kernel)) ggX6_door_X6_isSplitter
set_option maxRecDepth 20000 in
theorem ggX6_door_X6_doorIn : GoodIn wsX6_door wsX6_doorIn := goodIn_r _ [24, 8, 25, 26, 27, 28, 29, 30, 31, 32, 33, 34, 35, 36, 37, 38, 39, 40, 41, 42, 43, 44, 45, 46, 47, 48, 49, 50, 51, 52, 53, 54, 55, 56, 57, 58] (by decide +kernel) (by decide +kernel)
set_option maxRecDepth 20000 in
theorem gX6_door_X6_doorIn : GoodIn wsX6_door (wsV RX6 92 RX6 yX6_doorIn wsX6_doorIn) := goodIn_app (goodIn_of _ (by decide +kernel)) ggX6_door_X6_doorIn
theorem dX6_door_0 : decode cX6_door 0 = .ok (.aload_n 0, 1) := by decide +kernel
theorem dX6_door_1 : decode cX6_door 1 = .ok (.iconst 0, 1) := by decide +kernel
theorem dX6_door_2 : decode cX6_door 2 = .ok (.putfield 57, 3) := by decide +kernel
theorem dX6_door_5 : decode cX6_door 5 = .ok (.aload_n 0, 1) := by decide +kernel
theorem dX6_door_6 : decode cX6_door 6 = .ok (.invokevirtual 125, 3) := by decide +kernel
theorem dX6_door_9 : decode cX6_door 9 = .ok (.aload_n 0, 1) := by decide +kernel
theorem dX6_door_10 : decode cX6_door 10 = .ok (.iload_n 1, 1) := by decide +kernel
theorem dX6_door_11 : decode cX6_door 11 = .ok (.invokevirtual 184, 3) := by decide +kernel
theorem dX6_door_14 : decode cX6_door 14 = .ok (.ifCond .eq 11, 3) := by decide +kernel
theorem dX6_door_17 : decode cX6_door 17 = .ok (.aload_n 0, 1) := by decide +kernel
theorem dX6_door_18 : decode cX6_door 18 = .ok (.iload_n 1, 1) := by decide +kernel
theorem dX6_door_19 : decode cX6_door 19 = .ok (.invokevirtual 92, 3) := by decide +kernel
theorem dX6_door_22 : decode cX6_door 22 = .ok (.goto 4, 3) := by decide +kernel
theorem dX6_door_25 : decode cX6_door 25 = .ok (.iconst (-1), 1) := by decide +kernel
theorem dX6_door_26 : decode cX6_door 26 = .ok (.ireturn, 1) := by decide +kernel
set_option maxRecDepth 20000 in
theorem ggX6_entered_X6_isSplitter : GoodIn wsX6_entered wsX6_isSplitter := goodIn_r _ [7, 8, 9, 10, 6, 11, 2, 12, 13, 14, 15, 16, 17, 18, 19, 20, 21, 22, 23, 24, 25, 26, 27, 28, 29, 30, 31, 32, 33, 34, 35, 36, 37, 38, 39, 40, 41, 42, 43, 44, 45, 46, 47, 48] (by decide +kernel) (by decide +kernel)
set_option maxRecDepth 20000 in
theorem gX6_entered_X6_isSplitter : GoodIn wsX6_entered (wsV RX6 184 RX6 yX6_isSplitter wsX6_isSplitter) := goodIn_app (goodIn_of _ (by decide +kernel)) ggX6_entered_X6_isSplitter
theorem dX6_entered_0 : decode cX6_entered 0 = .ok (.aload_n 0, 1) := by decide +kernel
theorem dX6_entered_1 : decode cX6_entered 1 = .ok (.iconst 0, 1) := by decide +kernel
theorem dX6_entered_2 : decode cX6_entered 2 = .ok (.putfield 57, 3) := by decide +kernel
theorem dX6_entered_5 : decode cX6_entered 5 = .ok (.aload_n 0, 1) := by decide +kernel
theorem dX6_entered_6 : decode cX6_entered 6 = .ok (.iload_n 1, 1) := by decide +kernel
theorem dX6_entered_7 : decode cX6_entered 7 = .ok (.invokevirtual 184, 3) := by decide +kernel
theorem dX6_entered_10 : decode cX6_entered 10 = .ok (.ifCond .eq 15, 3) := by decide +kernel
theorem dX6_entered_13 : decode cX6_entered 13 = .ok (.aload_n 0, 1) := by decide +kernel
theorem dX6_entered_14 : decode cX6_entered 14 = .ok (.getfield 7, 3) := by decide +kernel
theorem dX6_entered_17 : decode cX6_entered 17 = .ok (.bipush 8, 2) := by decide +kernel
theorem dX6_entered_19 : decode cX6_entered 19 = .ok (.iload_n 1, 1) := by decide +kernel
theorem dX6_entered_20 : decode cX6_entered 20 = .ok (.iadd, 1) := by decide +kernel
theorem dX6_entered_21 : decode cX6_entered 21 = .ok (.iaload, 1) := by decide +kernel
theorem dX6_entered_22 : decode cX6_entered 22 = .ok (.goto 4, 3) := by decide +kernel
theorem dX6_entered_25 : decode cX6_entered 25 = .ok (.iconst (-1), 1) := by decide +kernel
theorem dX6_entered_26 : decode cX6_entered 26 = .ok (.ireturn, 1) := by decide +kernel
set_option maxRecDepth 20000 in
theorem ggX6_left_X6_isSplitter : GoodIn wsX6_left wsX6_isSplitter := goodIn_r _ [7, 8, 9, 10, 6, 11, 2, 12, 13, 14, 15, 16, 17, 18, 19, 20, 21, 22, 23, 24, 25, 26, 27, 28, 29, 30, 31, 32, 33, 34, 35, 36, 37, 38, 39, 40, 41, 42, 43, 44, 45, 46, 47, 48] (by decide +kernel) (by decide +kernel)
set_option maxRecDepth 20000 in
theorem gX6_left_X6_isSplitter : GoodIn wsX6_left (wsV RX6 184 RX6 yX6_isSplitter wsX6_isSplitter) := goodIn_app (goodIn_of _ (by decide +kernel)) ggX6_left_X6_isSplitter
set_option maxRecDepth 20000 in
theorem ggX6_left_X6_in : GoodIn wsX6_left wsX6_in := goodIn_r _ [14] (by decide +kernel) (by decide +kernel)
set_option maxRecDepth 20000 in
theorem gX6_left_X6_in : GoodIn wsX6_left (va_wsS RX6 114 yX6_in wsX6_in) := goodIn_app (goodIn_of _ (by decide +kernel)) ggX6_left_X6_in
theorem dX6_left_0 : decode cX6_left 0 = .ok (.aload_n 0, 1) := by decide +kernel
theorem dX6_left_1 : decode cX6_left 1 = .ok (.iconst 0, 1) := by decide +kernel
theorem dX6_left_2 : decode cX6_left 2 = .ok (.putfield 57, 3) := by decide +kernel
theorem dX6_left_5 : decode cX6_left 5 = .ok (.aload_n 0, 1) := by decide +kernel
theorem dX6_left_6 : decode cX6_left 6 = .ok (.iload_n 1, 1) := by decide +kernel
theorem dX6_left_7 : decode cX6_left 7 = .ok (.invokevirtual 184, 3) := by decide +kernel
theorem dX6_left_10 : decode cX6_left 10 = .ok (.ifCond .eq 12, 3) := by decide +kernel
theorem dX6_left_13 : decode cX6_left 13 = .ok (.iload_n 2, 1) := by decide +kernel
theorem dX6_left_14 : decode cX6_left 14 = .ok (.iconst 0, 1) := by decide +kernel
theorem dX6_left_15 : decode cX6_left 15 = .ok (.iconst 1, 1) := by decide +kernel
theorem dX6_left_16 : decode cX6_left 16 = .ok (.invokestatic 114, 3) := by decide +kernel
theorem dX6_left_19 : decode cX6_left 19 = .ok (.ifCond .ne 5, 3) := by decide +kernel
theorem dX6_left_22 : decode cX6_left 22 = .ok (.iconst (-1), 1) := by decide +kernel
theorem dX6_left_23 : decode cX6_left 23 = .ok (.ireturn, 1) := by decide +kernel
theorem dX6_left_24 : decode cX6_left 24 = .ok (.aload_n 0, 1) := by decide +kernel
theorem dX6_left_25 : decode cX6_left 25 = .ok (.getfield 7, 3) := by decide +kernel
theorem dX6_left_28 : decode cX6_left 28 = .ok (.iload_n 2, 1) := by decide +kernel
theorem dX6_left_29 : decode cX6_left 29 = .ok (.ifCond .ne 8, 3) := by decide +kernel
theorem dX6_left_32 : decode cX6_left 32 = .ok (.bipush 18, 2) := by decide +kernel
theorem dX6_left_34 : decode cX6_left 34 = .ok (.goto 5, 3) := by decide +kernel
theorem dX6_left_37 : decode cX6_left 37 = .ok (.bipush 28, 2) := by decide +kernel
theorem dX6_left_39 : decode cX6_left 39 = .ok (.iload_n 1, 1) := by decide +kernel
theorem dX6_left_40 : decode cX6_left 40 = .ok (.iadd, 1) := by decide +kernel
theorem dX6_left_41 : decode cX6_left 41 = .ok (.iaload, 1) := by decide +kernel
theorem dX6_left_42 : decode cX6_left 42 = .ok (.ireturn, 1) := by decide +kernel
theorem dX6_found_0 : decode cX6_found 0 = .ok (.aload_n 0, 1) := by decide +kernel
theorem dX6_found_1 : decode cX6_found 1 = .ok (.getfield 64, 3) := by decide +kernel
theorem dX6_found_4 : decode cX6_found 4 = .ok (.bipush 31, 2) := by decide +kernel
theorem dX6_found_6 : decode cX6_found 6 = .ok (.imul, 1) := by decide +kernel
theorem dX6_found_7 : decode cX6_found 7 = .ok (.aload_n 0, 1) := by decide +kernel
theorem dX6_found_8 : decode cX6_found 8 = .ok (.getfield 61, 3) := by decide +kernel
theorem dX6_found_11 : decode cX6_found 11 = .ok (.iadd, 1) := by decide +kernel
theorem dX6_found_12 : decode cX6_found 12 = .ok (.ldc 187, 2) := by decide +kernel
theorem dX6_found_14 : decode cX6_found 14 = .ok (.imul, 1) := by decide +kernel
theorem dX6_found_15 : decode cX6_found 15 = .ok (.bipush 19, 2) := by decide +kernel
theorem dX6_found_17 : decode cX6_found 17 = .ok (.iushr, 1) := by decide +kernel
theorem dX6_found_18 : decode cX6_found 18 = .ok (.istore_n 3, 1) := by decide +kernel
theorem dX6_found_19 : decode cX6_found 19 = .ok (.aload_n 0, 1) := by decide +kernel
theorem dX6_found_20 : decode cX6_found 20 = .ok (.getfield 41, 3) := by decide +kernel
theorem dX6_found_23 : decode cX6_found 23 = .ok (.iload_n 3, 1) := by decide +kernel
theorem dX6_found_24 : decode cX6_found 24 = .ok (.iaload, 1) := by decide +kernel
theorem dX6_found_25 : decode cX6_found 25 = .ok (.ifCond .eq 55, 3) := by decide +kernel
theorem dX6_found_28 : decode cX6_found 28 = .ok (.aload_n 0, 1) := by decide +kernel
theorem dX6_found_29 : decode cX6_found 29 = .ok (.getfield 26, 3) := by decide +kernel
theorem dX6_found_32 : decode cX6_found 32 = .ok (.aload_n 0, 1) := by decide +kernel
theorem dX6_found_33 : decode cX6_found 33 = .ok (.getfield 41, 3) := by decide +kernel
theorem dX6_found_36 : decode cX6_found 36 = .ok (.iload_n 3, 1) := by decide +kernel
theorem dX6_found_37 : decode cX6_found 37 = .ok (.iaload, 1) := by decide +kernel
theorem dX6_found_38 : decode cX6_found 38 = .ok (.iconst 1, 1) := by decide +kernel
theorem dX6_found_39 : decode cX6_found 39 = .ok (.isub, 1) := by decide +kernel
theorem dX6_found_40 : decode cX6_found 40 = .ok (.iaload, 1) := by decide +kernel
theorem dX6_found_41 : decode cX6_found 41 = .ok (.aload_n 0, 1) := by decide +kernel
theorem dX6_found_42 : decode cX6_found 42 = .ok (.getfield 64, 3) := by decide +kernel
theorem dX6_found_45 : decode cX6_found 45 = .ok (.if_icmp .ne 24, 3) := by decide +kernel
theorem dX6_found_48 : decode cX6_found 48 = .ok (.aload_n 0, 1) := by decide +kernel
theorem dX6_found_49 : decode cX6_found 49 = .ok (.getfield 29, 3) := by decide +kernel
theorem dX6_found_52 : decode cX6_found 52 = .ok (.aload_n 0, 1) := by decide +kernel
theorem dX6_found_53 : decode cX6_found 53 = .ok (.getfield 41, 3) := by decide +kernel
theorem dX6_found_56 : decode cX6_found 56 = .ok (.iload_n 3, 1) := by decide +kernel
theorem dX6_found_57 : decode cX6_found 57 = .ok (.iaload, 1) := by decide +kernel
theorem dX6_found_58 : decode cX6_found 58 = .ok (.iconst 1, 1) := by decide +kernel
theorem dX6_found_59 : decode cX6_found 59 = .ok (.isub, 1) := by decide +kernel
theorem dX6_found_60 : decode cX6_found 60 = .ok (.iaload, 1) := by decide +kernel
theorem dX6_found_61 : decode cX6_found 61 = .ok (.aload_n 0, 1) := by decide +kernel
theorem dX6_found_62 : decode cX6_found 62 = .ok (.getfield 61, 3) := by decide +kernel
theorem dX6_found_65 : decode cX6_found 65 = .ok (.if_icmp .ne 4, 3) := by decide +kernel
theorem dX6_found_68 : decode cX6_found 68 = .ok (.return_, 1) := by decide +kernel
theorem dX6_found_69 : decode cX6_found 69 = .ok (.iload_n 3, 1) := by decide +kernel
theorem dX6_found_70 : decode cX6_found 70 = .ok (.iconst 1, 1) := by decide +kernel
theorem dX6_found_71 : decode cX6_found 71 = .ok (.iadd, 1) := by decide +kernel
theorem dX6_found_72 : decode cX6_found 72 = .ok (.sipush 8191, 3) := by decide +kernel
theorem dX6_found_75 : decode cX6_found 75 = .ok (.iand, 1) := by decide +kernel
theorem dX6_found_76 : decode cX6_found 76 = .ok (.istore_n 3, 1) := by decide +kernel
theorem dX6_found_77 : decode cX6_found 77 = .ok (.goto (-58), 3) := by decide +kernel
theorem dX6_found_80 : decode cX6_found 80 = .ok (.aload_n 0, 1) := by decide +kernel
theorem dX6_found_81 : decode cX6_found 81 = .ok (.getfield 188, 3) := by decide +kernel
theorem dX6_found_84 : decode cX6_found 84 = .ok (.sipush 4000, 3) := by decide +kernel
theorem dX6_found_87 : decode cX6_found 87 = .ok (.if_icmp .gt 98, 3) := by decide +kernel
theorem dX6_found_90 : decode cX6_found 90 = .ok (.aload_n 0, 1) := by decide +kernel
theorem dX6_found_91 : decode cX6_found 91 = .ok (.getfield 26, 3) := by decide +kernel
theorem dX6_found_94 : decode cX6_found 94 = .ok (.aload_n 0, 1) := by decide +kernel
theorem dX6_found_95 : decode cX6_found 95 = .ok (.getfield 188, 3) := by decide +kernel
theorem dX6_found_98 : decode cX6_found 98 = .ok (.aload_n 0, 1) := by decide +kernel
theorem dX6_found_99 : decode cX6_found 99 = .ok (.getfield 64, 3) := by decide +kernel
theorem dX6_found_102 : decode cX6_found 102 = .ok (.iastore, 1) := by decide +kernel
theorem dX6_found_103 : decode cX6_found 103 = .ok (.aload_n 0, 1) := by decide +kernel
theorem dX6_found_104 : decode cX6_found 104 = .ok (.getfield 29, 3) := by decide +kernel
theorem dX6_found_107 : decode cX6_found 107 = .ok (.aload_n 0, 1) := by decide +kernel
theorem dX6_found_108 : decode cX6_found 108 = .ok (.getfield 188, 3) := by decide +kernel
theorem dX6_found_111 : decode cX6_found 111 = .ok (.aload_n 0, 1) := by decide +kernel
theorem dX6_found_112 : decode cX6_found 112 = .ok (.getfield 61, 3) := by decide +kernel
theorem dX6_found_115 : decode cX6_found 115 = .ok (.iastore, 1) := by decide +kernel
theorem dX6_found_116 : decode cX6_found 116 = .ok (.aload_n 0, 1) := by decide +kernel
theorem dX6_found_117 : decode cX6_found 117 = .ok (.getfield 32, 3) := by decide +kernel
theorem dX6_found_120 : decode cX6_found 120 = .ok (.aload_n 0, 1) := by decide +kernel
theorem dX6_found_121 : decode cX6_found 121 = .ok (.getfield 188, 3) := by decide +kernel
theorem dX6_found_124 : decode cX6_found 124 = .ok (.iload_n 1, 1) := by decide +kernel
theorem dX6_found_125 : decode cX6_found 125 = .ok (.bipush (-9), 2) := by decide +kernel
theorem dX6_found_127 : decode cX6_found 127 = .ok (.if_icmp .ne 7, 3) := by decide +kernel
theorem dX6_found_130 : decode cX6_found 130 = .ok (.iconst 0, 1) := by decide +kernel
theorem dX6_found_131 : decode cX6_found 131 = .ok (.goto 11, 3) := by decide +kernel
theorem dX6_found_134 : decode cX6_found 134 = .ok (.aload_n 0, 1) := by decide +kernel
theorem dX6_found_135 : decode cX6_found 135 = .ok (.getfield 32, 3) := by decide +kernel
theorem dX6_found_138 : decode cX6_found 138 = .ok (.iload_n 1, 1) := by decide +kernel
theorem dX6_found_139 : decode cX6_found 139 = .ok (.iaload, 1) := by decide +kernel
theorem dX6_found_140 : decode cX6_found 140 = .ok (.iconst 1, 1) := by decide +kernel
theorem dX6_found_141 : decode cX6_found 141 = .ok (.iadd, 1) := by decide +kernel
theorem dX6_found_142 : decode cX6_found 142 = .ok (.iastore, 1) := by decide +kernel
theorem dX6_found_143 : decode cX6_found 143 = .ok (.aload_n 0, 1) := by decide +kernel
theorem dX6_found_144 : decode cX6_found 144 = .ok (.getfield 35, 3) := by decide +kernel
theorem dX6_found_147 : decode cX6_found 147 = .ok (.aload_n 0, 1) := by decide +kernel
theorem dX6_found_148 : decode cX6_found 148 = .ok (.getfield 188, 3) := by decide +kernel
theorem dX6_found_151 : decode cX6_found 151 = .ok (.iload_n 1, 1) := by decide +kernel
theorem dX6_found_152 : decode cX6_found 152 = .ok (.iastore, 1) := by decide +kernel
theorem dX6_found_153 : decode cX6_found 153 = .ok (.aload_n 0, 1) := by decide +kernel
theorem dX6_found_154 : decode cX6_found 154 = .ok (.getfield 38, 3) := by decide +kernel
theorem dX6_found_157 : decode cX6_found 157 = .ok (.aload_n 0, 1) := by decide +kernel
theorem dX6_found_158 : decode cX6_found 158 = .ok (.getfield 188, 3) := by decide +kernel
theorem dX6_found_161 : decode cX6_found 161 = .ok (.iload_n 2, 1) := by decide +kernel
theorem dX6_found_162 : decode cX6_found 162 = .ok (.iastore, 1) := by decide +kernel
theorem dX6_found_163 : decode cX6_found 163 = .ok (.aload_n 0, 1) := by decide +kernel
theorem dX6_found_164 : decode cX6_found 164 = .ok (.getfield 41, 3) := by decide +kernel
theorem dX6_found_167 : decode cX6_found 167 = .ok (.iload_n 3, 1) := by decide +kernel
theorem dX6_found_168 : decode cX6_found 168 = .ok (.aload_n 0, 1) := by decide +kernel
theorem dX6_found_169 : decode cX6_found 169 = .ok (.getfield 188, 3) := by decide +kernel
theorem dX6_found_172 : decode cX6_found 172 = .ok (.iconst 1, 1) := by decide +kernel
theorem dX6_found_173 : decode cX6_found 173 = .ok (.iadd, 1) := by decide +kernel
theorem dX6_found_174 : decode cX6_found 174 = .ok (.iastore, 1) := by decide +kernel
theorem dX6_found_175 : decode cX6_found 175 = .ok (.aload_n 0, 1) := by decide +kernel
theorem dX6_found_176 : decode cX6_found 176 = .ok (.dup, 1) := by decide +kernel
theorem dX6_found_177 : decode cX6_found 177 = .ok (.getfield 188, 3) := by decide +kernel
theorem dX6_found_180 : decode cX6_found 180 = .ok (.iconst 1, 1) := by decide +kernel
theorem dX6_found_181 : decode cX6_found 181 = .ok (.iadd, 1) := by decide +kernel
theorem dX6_found_182 : decode cX6_found 182 = .ok (.putfield 188, 3) := by decide +kernel
theorem dX6_found_185 : decode cX6_found 185 = .ok (.return_, 1) := by decide +kernel
set_option maxRecDepth 20000 in
theorem ggX6_findAll_X6_take : GoodIn wsX6_findAll wsX6_take := goodIn_r _ [12, 3, 5, 7, 70, 71, 72, 73, 74, 75, 76, 77, 78, 79, 80, 81, 82, 83, 84, 85, 86, 87, 88, 89, 90, 91, 92, 93, 94, 95, 96, 97, 98, 99, 100, 101, 102, 103] (by decide +kernel) (by decide +kernel)
set_option maxRecDepth 20000 in
theorem gX6_findAll_X6_take : GoodIn wsX6_findAll (wsV RX6 125 RX6 yX6_take wsX6_take) := goodIn_app (goodIn_of _ (by decide +kernel)) ggX6_findAll_X6_take
set_option maxRecDepth 20000 in
theorem ggX6_findAll_X6_found : GoodIn wsX6_findAll wsX6_found := goodIn_r _ [16, 5, 7, 17, 1, 4, 6, 2, 18, 19, 20, 70, 71, 72, 73, 74, 75, 76, 77, 78, 79, 80, 81, 82, 83, 84, 85, 86, 87, 88, 89, 90, 91, 92, 93, 94, 95, 96, 97, 98, 99, 100, 101, 102, 103] (by decide +kernel) (by decide +kernel)
set_option maxRecDepth 20000 in
theorem gX6_findAll_X6_found : GoodIn wsX6_findAll (wsV RX6 191 RX6 yX6_found wsX6_found) := goodIn_app (goodIn_of _ (by decide +kernel)) ggX6_findAll_X6_found
set_option maxRecDepth 20000 in
theorem ggX6_findAll_X6_statusIn : GoodIn wsX6_findAll wsX6_statusIn := goodIn_r _ [24, 7, 70, 71, 72, 73, 74, 75, 76, 77, 78, 79, 80, 81, 82, 83, 84, 85, 86, 87, 88, 89, 90, 91, 92, 93, 94, 95, 96, 97, 98, 99, 100, 101, 102, 103] (by decide +kernel) (by decide +kernel)
set_option maxRecDepth 20000 in
theorem gX6_findAll_X6_statusIn : GoodIn wsX6_findAll (wsV RX6 128 RX6 yX6_statusIn wsX6_statusIn) := goodIn_app (goodIn_of _ (by decide +kernel)) ggX6_findAll_X6_statusIn
set_option maxRecDepth 20000 in
theorem ggX6_findAll_X6_stepOf : GoodIn wsX6_findAll wsX6_stepOf := goodIn_r _ [28, 29, 5, 3, 30, 31, 32, 11, 33, 7, 34, 35, 36, 37, 38, 39, 40, 41, 42, 43, 44, 45, 46, 47, 48, 49, 50, 51, 52, 53, 54, 55, 56, 57, 58, 59, 60, 61, 62, 63, 64, 65, 66, 67, 68, 69, 70, 71, 72, 73, 74, 75, 76, 77, 78, 79, 80, 81, 82, 83, 84, 85, 86, 87, 88, 89, 90, 91, 92, 93, 94, 95, 96, 97, 98, 99, 100, 101, 102, 103] (by decide +kernel) (by decide +kernel)
set_option maxRecDepth 20000 in
theorem gX6_findAll_X6_stepOf : GoodIn wsX6_findAll (wsV RX6 131 RX6 yX6_stepOf wsX6_stepOf) := goodIn_app (goodIn_of _ (by decide +kernel)) ggX6_findAll_X6_stepOf
theorem dX6_findAll_0 : decode cX6_findAll 0 = .ok (.iconst 0, 1) := by decide +kernel
theorem dX6_findAll_1 : decode cX6_findAll 1 = .ok (.istore_n 1, 1) := by decide +kernel
theorem dX6_findAll_2 : decode cX6_findAll 2 = .ok (.iload_n 1, 1) := by decide +kernel
theorem dX6_findAll_3 : decode cX6_findAll 3 = .ok (.sipush 8192, 3) := by decide +kernel
theorem dX6_findAll_6 : decode cX6_findAll 6 = .ok (.if_icmp .ge 16, 3) := by decide +kernel
theorem dX6_findAll_9 : decode cX6_findAll 9 = .ok (.aload_n 0, 1) := by decide +kernel
theorem dX6_findAll_10 : decode cX6_findAll 10 = .ok (.getfield 41, 3) := by decide +kernel
theorem dX6_findAll_13 : decode cX6_findAll 13 = .ok (.iload_n 1, 1) := by decide +kernel
theorem dX6_findAll_14 : decode cX6_findAll 14 = .ok (.iconst 0, 1) := by decide +kernel
theorem dX6_findAll_15 : decode cX6_findAll 15 = .ok (.iastore, 1) := by decide +kernel
theorem dX6_findAll_16 : decode cX6_findAll 16 = .ok (.iinc 1 1, 3) := by decide +kernel
theorem dX6_findAll_19 : decode cX6_findAll 19 = .ok (.goto (-17), 3) := by decide +kernel
theorem dX6_findAll_22 : decode cX6_findAll 22 = .ok (.aload_n 0, 1) := by decide +kernel
theorem dX6_findAll_23 : decode cX6_findAll 23 = .ok (.iconst 0, 1) := by decide +kernel
theorem dX6_findAll_24 : decode cX6_findAll 24 = .ok (.putfield 188, 3) := by decide +kernel
theorem dX6_findAll_27 : decode cX6_findAll 27 = .ok (.aload_n 0, 1) := by decide +kernel
theorem dX6_findAll_28 : decode cX6_findAll 28 = .ok (.invokevirtual 125, 3) := by decide +kernel
theorem dX6_findAll_31 : decode cX6_findAll 31 = .ok (.aload_n 0, 1) := by decide +kernel
theorem dX6_findAll_32 : decode cX6_findAll 32 = .ok (.bipush (-9), 2) := by decide +kernel
theorem dX6_findAll_34 : decode cX6_findAll 34 = .ok (.bipush (-9), 2) := by decide +kernel
theorem dX6_findAll_36 : decode cX6_findAll 36 = .ok (.invokevirtual 191, 3) := by decide +kernel
theorem dX6_findAll_39 : decode cX6_findAll 39 = .ok (.iconst 0, 1) := by decide +kernel
theorem dX6_findAll_40 : decode cX6_findAll 40 = .ok (.istore_n 1, 1) := by decide +kernel
theorem dX6_findAll_41 : decode cX6_findAll 41 = .ok (.iload_n 1, 1) := by decide +kernel
theorem dX6_findAll_42 : decode cX6_findAll 42 = .ok (.aload_n 0, 1) := by decide +kernel
theorem dX6_findAll_43 : decode cX6_findAll 43 = .ok (.getfield 188, 3) := by decide +kernel
theorem dX6_findAll_46 : decode cX6_findAll 46 = .ok (.if_icmp .ge 77, 3) := by decide +kernel
theorem dX6_findAll_49 : decode cX6_findAll 49 = .ok (.aload_n 0, 1) := by decide +kernel
theorem dX6_findAll_50 : decode cX6_findAll 50 = .ok (.getfield 188, 3) := by decide +kernel
theorem dX6_findAll_53 : decode cX6_findAll 53 = .ok (.sipush 4000, 3) := by decide +kernel
theorem dX6_findAll_56 : decode cX6_findAll 56 = .ok (.if_icmp .gt 67, 3) := by decide +kernel
theorem dX6_findAll_59 : decode cX6_findAll 59 = .ok (.iconst 0, 1) := by decide +kernel
theorem dX6_findAll_60 : decode cX6_findAll 60 = .ok (.istore_n 2, 1) := by decide +kernel
theorem dX6_findAll_61 : decode cX6_findAll 61 = .ok (.iload_n 2, 1) := by decide +kernel
theorem dX6_findAll_62 : decode cX6_findAll 62 = .ok (.aload_n 0, 1) := by decide +kernel
theorem dX6_findAll_63 : decode cX6_findAll 63 = .ok (.getfield 7, 3) := by decide +kernel
theorem dX6_findAll_66 : decode cX6_findAll 66 = .ok (.iconst 1, 1) := by decide +kernel
theorem dX6_findAll_67 : decode cX6_findAll 67 = .ok (.iaload, 1) := by decide +kernel
theorem dX6_findAll_68 : decode cX6_findAll 68 = .ok (.if_icmp .ge 49, 3) := by decide +kernel
theorem dX6_findAll_71 : decode cX6_findAll 71 = .ok (.aload_n 0, 1) := by decide +kernel
theorem dX6_findAll_72 : decode cX6_findAll 72 = .ok (.aload_n 0, 1) := by decide +kernel
theorem dX6_findAll_73 : decode cX6_findAll 73 = .ok (.getfield 26, 3) := by decide +kernel
theorem dX6_findAll_76 : decode cX6_findAll 76 = .ok (.iload_n 1, 1) := by decide +kernel
theorem dX6_findAll_77 : decode cX6_findAll 77 = .ok (.iaload, 1) := by decide +kernel
theorem dX6_findAll_78 : decode cX6_findAll 78 = .ok (.putfield 64, 3) := by decide +kernel
theorem dX6_findAll_81 : decode cX6_findAll 81 = .ok (.aload_n 0, 1) := by decide +kernel
theorem dX6_findAll_82 : decode cX6_findAll 82 = .ok (.aload_n 0, 1) := by decide +kernel
theorem dX6_findAll_83 : decode cX6_findAll 83 = .ok (.getfield 29, 3) := by decide +kernel
theorem dX6_findAll_86 : decode cX6_findAll 86 = .ok (.iload_n 1, 1) := by decide +kernel
theorem dX6_findAll_87 : decode cX6_findAll 87 = .ok (.iaload, 1) := by decide +kernel
theorem dX6_findAll_88 : decode cX6_findAll 88 = .ok (.putfield 61, 3) := by decide +kernel
theorem dX6_findAll_91 : decode cX6_findAll 91 = .ok (.aload_n 0, 1) := by decide +kernel
theorem dX6_findAll_92 : decode cX6_findAll 92 = .ok (.iload_n 2, 1) := by decide +kernel
theorem dX6_findAll_93 : decode cX6_findAll 93 = .ok (.invokevirtual 128, 3) := by decide +kernel
theorem dX6_findAll_96 : decode cX6_findAll 96 = .ok (.ifCond .ne 15, 3) := by decide +kernel
theorem dX6_findAll_99 : decode cX6_findAll 99 = .ok (.aload_n 0, 1) := by decide +kernel
theorem dX6_findAll_100 : decode cX6_findAll 100 = .ok (.iload_n 2, 1) := by decide +kernel
theorem dX6_findAll_101 : decode cX6_findAll 101 = .ok (.invokevirtual 131, 3) := by decide +kernel
theorem dX6_findAll_104 : decode cX6_findAll 104 = .ok (.pop, 1) := by decide +kernel
theorem dX6_findAll_105 : decode cX6_findAll 105 = .ok (.aload_n 0, 1) := by decide +kernel
theorem dX6_findAll_106 : decode cX6_findAll 106 = .ok (.iload_n 1, 1) := by decide +kernel
theorem dX6_findAll_107 : decode cX6_findAll 107 = .ok (.iload_n 2, 1) := by decide +kernel
theorem dX6_findAll_108 : decode cX6_findAll 108 = .ok (.invokevirtual 191, 3) := by decide +kernel
theorem dX6_findAll_111 : decode cX6_findAll 111 = .ok (.iinc 2 1, 3) := by decide +kernel
theorem dX6_findAll_114 : decode cX6_findAll 114 = .ok (.goto (-53), 3) := by decide +kernel
theorem dX6_findAll_117 : decode cX6_findAll 117 = .ok (.iinc 1 1, 3) := by decide +kernel
theorem dX6_findAll_120 : decode cX6_findAll 120 = .ok (.goto (-79), 3) := by decide +kernel
theorem dX6_findAll_123 : decode cX6_findAll 123 = .ok (.return_, 1) := by decide +kernel
set_option maxRecDepth 20000 in
theorem ggX6_isFinal_X6_statusIn : GoodIn wsX6_isFinal wsX6_statusIn := goodIn_r _ [6, 7, 8, 9, 10, 11, 12, 13, 14, 15, 16, 17, 18, 19, 20, 21, 22, 23, 24, 25, 26, 27, 28, 29, 30, 31, 32, 33, 34, 35, 36, 37, 38, 39, 40, 41] (by decide +kernel) (by decide +kernel)
set_option maxRecDepth 20000 in
theorem gX6_isFinal_X6_statusIn : GoodIn wsX6_isFinal (wsV RX6 128 RX6 yX6_statusIn wsX6_statusIn) := goodIn_app (goodIn_of _ (by decide +kernel)) ggX6_isFinal_X6_statusIn
theorem dX6_isFinal_0 : decode cX6_isFinal 0 = .ok (.iconst 1, 1) := by decide +kernel
theorem dX6_isFinal_1 : decode cX6_isFinal 1 = .ok (.istore_n 1, 1) := by decide +kernel
theorem dX6_isFinal_2 : decode cX6_isFinal 2 = .ok (.iconst 0, 1) := by decide +kernel
theorem dX6_isFinal_3 : decode cX6_isFinal 3 = .ok (.istore_n 2, 1) := by decide +kernel
theorem dX6_isFinal_4 : decode cX6_isFinal 4 = .ok (.iload_n 2, 1) := by decide +kernel
theorem dX6_isFinal_5 : decode cX6_isFinal 5 = .ok (.aload_n 0, 1) := by decide +kernel
theorem dX6_isFinal_6 : decode cX6_isFinal 6 = .ok (.getfield 7, 3) := by decide +kernel
theorem dX6_isFinal_9 : decode cX6_isFinal 9 = .ok (.iconst 1, 1) := by decide +kernel
theorem dX6_isFinal_10 : decode cX6_isFinal 10 = .ok (.iaload, 1) := by decide +kernel
theorem dX6_isFinal_11 : decode cX6_isFinal 11 = .ok (.if_icmp .ge 27, 3) := by decide +kernel
theorem dX6_isFinal_14 : decode cX6_isFinal 14 = .ok (.iload_n 1, 1) := by decide +kernel
theorem dX6_isFinal_15 : decode cX6_isFinal 15 = .ok (.ifCond .eq 15, 3) := by decide +kernel
theorem dX6_isFinal_18 : decode cX6_isFinal 18 = .ok (.aload_n 0, 1) := by decide +kernel
theorem dX6_isFinal_19 : decode cX6_isFinal 19 = .ok (.iload_n 2, 1) := by decide +kernel
theorem dX6_isFinal_20 : decode cX6_isFinal 20 = .ok (.invokevirtual 128, 3) := by decide +kernel
theorem dX6_isFinal_23 : decode cX6_isFinal 23 = .ok (.ifCond .eq 7, 3) := by decide +kernel
theorem dX6_isFinal_26 : decode cX6_isFinal 26 = .ok (.iconst 1, 1) := by decide +kernel
theorem dX6_isFinal_27 : decode cX6_isFinal 27 = .ok (.goto 4, 3) := by decide +kernel
theorem dX6_isFinal_30 : decode cX6_isFinal 30 = .ok (.iconst 0, 1) := by decide +kernel
theorem dX6_isFinal_31 : decode cX6_isFinal 31 = .ok (.istore_n 1, 1) := by decide +kernel
theorem dX6_isFinal_32 : decode cX6_isFinal 32 = .ok (.iinc 2 1, 3) := by decide +kernel
theorem dX6_isFinal_35 : decode cX6_isFinal 35 = .ok (.goto (-31), 3) := by decide +kernel
theorem dX6_isFinal_38 : decode cX6_isFinal 38 = .ok (.iload_n 1, 1) := by decide +kernel
theorem dX6_isFinal_39 : decode cX6_isFinal 39 = .ok (.ireturn, 1) := by decide +kernel
set_option maxRecDepth 20000 in
theorem ggX6_isViolation_X6_statusIn : GoodIn wsX6_isViolation wsX6_statusIn := goodIn_r _ [6, 7, 12, 13, 14, 15, 16, 17, 18, 19, 20, 21, 22, 23, 24, 25, 26, 27, 28, 29, 30, 31, 32, 33, 34, 35, 36, 37, 38, 39, 40, 41, 42, 43, 44, 45] (by decide +kernel) (by decide +kernel)
set_option maxRecDepth 20000 in
theorem gX6_isViolation_X6_statusIn : GoodIn wsX6_isViolation (wsV RX6 128 RX6 yX6_statusIn wsX6_statusIn) := goodIn_app (goodIn_of _ (by decide +kernel)) ggX6_isViolation_X6_statusIn
set_option maxRecDepth 20000 in
theorem ggX6_isViolation_X6_splitterIn : GoodIn wsX6_isViolation wsX6_splitterIn := goodIn_r _ [11, 7, 12, 13, 14, 15, 16, 17, 18, 19, 20, 21, 22, 23, 24, 25, 26, 27, 28, 29, 30, 31, 32, 33, 34, 35, 36, 37, 38, 39, 40, 41, 42, 43, 44, 45] (by decide +kernel) (by decide +kernel)
set_option maxRecDepth 20000 in
theorem gX6_isViolation_X6_splitterIn : GoodIn wsX6_isViolation (wsV RX6 67 RX6 yX6_splitterIn wsX6_splitterIn) := goodIn_app (goodIn_of _ (by decide +kernel)) ggX6_isViolation_X6_splitterIn
theorem dX6_isViolation_0 : decode cX6_isViolation 0 = .ok (.iconst 0, 1) := by decide +kernel
theorem dX6_isViolation_1 : decode cX6_isViolation 1 = .ok (.istore_n 1, 1) := by decide +kernel
theorem dX6_isViolation_2 : decode cX6_isViolation 2 = .ok (.iconst 0, 1) := by decide +kernel
theorem dX6_isViolation_3 : decode cX6_isViolation 3 = .ok (.istore_n 2, 1) := by decide +kernel
theorem dX6_isViolation_4 : decode cX6_isViolation 4 = .ok (.iload_n 2, 1) := by decide +kernel
theorem dX6_isViolation_5 : decode cX6_isViolation 5 = .ok (.aload_n 0, 1) := by decide +kernel
theorem dX6_isViolation_6 : decode cX6_isViolation 6 = .ok (.getfield 7, 3) := by decide +kernel
theorem dX6_isViolation_9 : decode cX6_isViolation 9 = .ok (.iconst 1, 1) := by decide +kernel
theorem dX6_isViolation_10 : decode cX6_isViolation 10 = .ok (.iaload, 1) := by decide +kernel
theorem dX6_isViolation_11 : decode cX6_isViolation 11 = .ok (.if_icmp .ge 63, 3) := by decide +kernel
theorem dX6_isViolation_14 : decode cX6_isViolation 14 = .ok (.iconst 0, 1) := by decide +kernel
theorem dX6_isViolation_15 : decode cX6_isViolation 15 = .ok (.istore_n 3, 1) := by decide +kernel
theorem dX6_isViolation_16 : decode cX6_isViolation 16 = .ok (.iload_n 3, 1) := by decide +kernel
theorem dX6_isViolation_17 : decode cX6_isViolation 17 = .ok (.iload_n 2, 1) := by decide +kernel
theorem dX6_isViolation_18 : decode cX6_isViolation 18 = .ok (.if_icmp .ge 50, 3) := by decide +kernel
theorem dX6_isViolation_21 : decode cX6_isViolation 21 = .ok (.iload_n 1, 1) := by decide +kernel
theorem dX6_isViolation_22 : decode cX6_isViolation 22 = .ok (.ifCond .ne 34, 3) := by decide +kernel
theorem dX6_isViolation_25 : decode cX6_isViolation 25 = .ok (.aload_n 0, 1) := by decide +kernel
theorem dX6_isViolation_26 : decode cX6_isViolation 26 = .ok (.iload_n 2, 1) := by decide +kernel
theorem dX6_isViolation_27 : decode cX6_isViolation 27 = .ok (.invokevirtual 128, 3) := by decide +kernel
theorem dX6_isViolation_30 : decode cX6_isViolation 30 = .ok (.iconst 1, 1) := by decide +kernel
theorem dX6_isViolation_31 : decode cX6_isViolation 31 = .ok (.if_icmp .ne 29, 3) := by decide +kernel
theorem dX6_isViolation_34 : decode cX6_isViolation 34 = .ok (.aload_n 0, 1) := by decide +kernel
theorem dX6_isViolation_35 : decode cX6_isViolation 35 = .ok (.iload_n 3, 1) := by decide +kernel
theorem dX6_isViolation_36 : decode cX6_isViolation 36 = .ok (.invokevirtual 128, 3) := by decide +kernel
theorem dX6_isViolation_39 : decode cX6_isViolation 39 = .ok (.iconst 1, 1) := by decide +kernel
theorem dX6_isViolation_40 : decode cX6_isViolation 40 = .ok (.if_icmp .ne 20, 3) := by decide +kernel
theorem dX6_isViolation_43 : decode cX6_isViolation 43 = .ok (.aload_n 0, 1) := by decide +kernel
theorem dX6_isViolation_44 : decode cX6_isViolation 44 = .ok (.iload_n 2, 1) := by decide +kernel
theorem dX6_isViolation_45 : decode cX6_isViolation 45 = .ok (.invokevirtual 67, 3) := by decide +kernel
theorem dX6_isViolation_48 : decode cX6_isViolation 48 = .ok (.aload_n 0, 1) := by decide +kernel
theorem dX6_isViolation_49 : decode cX6_isViolation 49 = .ok (.iload_n 3, 1) := by decide +kernel
theorem dX6_isViolation_50 : decode cX6_isViolation 50 = .ok (.invokevirtual 67, 3) := by decide +kernel
theorem dX6_isViolation_53 : decode cX6_isViolation 53 = .ok (.if_icmp .ne 7, 3) := by decide +kernel
theorem dX6_isViolation_56 : decode cX6_isViolation 56 = .ok (.iconst 1, 1) := by decide +kernel
theorem dX6_isViolation_57 : decode cX6_isViolation 57 = .ok (.goto 4, 3) := by decide +kernel
theorem dX6_isViolation_60 : decode cX6_isViolation 60 = .ok (.iconst 0, 1) := by decide +kernel
theorem dX6_isViolation_61 : decode cX6_isViolation 61 = .ok (.istore_n 1, 1) := by decide +kernel
theorem dX6_isViolation_62 : decode cX6_isViolation 62 = .ok (.iinc 3 1, 3) := by decide +kernel
theorem dX6_isViolation_65 : decode cX6_isViolation 65 = .ok (.goto (-49), 3) := by decide +kernel
theorem dX6_isViolation_68 : decode cX6_isViolation 68 = .ok (.iinc 2 1, 3) := by decide +kernel
theorem dX6_isViolation_71 : decode cX6_isViolation 71 = .ok (.goto (-67), 3) := by decide +kernel
theorem dX6_isViolation_74 : decode cX6_isViolation 74 = .ok (.iload_n 1, 1) := by decide +kernel
theorem dX6_isViolation_75 : decode cX6_isViolation 75 = .ok (.ireturn, 1) := by decide +kernel
set_option maxRecDepth 20000 in
theorem ggX6_noteFinal_X6_statusIn : GoodIn wsX6_noteFinal wsX6_statusIn := goodIn_r _ [10, 11, 16, 17, 18, 19, 20, 21, 22, 23, 24, 25, 26, 27, 28, 29, 30, 31, 32, 33, 34, 35, 36, 37, 38, 39, 40, 41, 42, 43, 44, 45, 46, 47, 48, 49] (by decide +kernel) (by decide +kernel)
set_option maxRecDepth 20000 in
theorem gX6_noteFinal_X6_statusIn : GoodIn wsX6_noteFinal (wsV RX6 128 RX6 yX6_statusIn wsX6_statusIn) := goodIn_app (goodIn_of _ (by decide +kernel)) ggX6_noteFinal_X6_statusIn
set_option maxRecDepth 20000 in
theorem ggX6_noteFinal_X6_splitterIn : GoodIn wsX6_noteFinal wsX6_splitterIn := goodIn_r _ [15, 11, 16, 17, 18, 19, 20, 21, 22, 23, 24, 25, 26, 27, 28, 29, 30, 31, 32, 33, 34, 35, 36, 37, 38, 39, 40, 41, 42, 43, 44, 45, 46, 47, 48, 49] (by decide +kernel) (by decide +kernel)
set_option maxRecDepth 20000 in
theorem gX6_noteFinal_X6_splitterIn : GoodIn wsX6_noteFinal (wsV RX6 67 RX6 yX6_splitterIn wsX6_splitterIn) := goodIn_app (goodIn_of _ (by decide +kernel)) ggX6_noteFinal_X6_splitterIn
theorem dX6_noteFinal_0 : decode cX6_noteFinal 0 = .ok (.aload_n 0, 1) := by decide +kernel
theorem dX6_noteFinal_1 : decode cX6_noteFinal 1 = .ok (.dup, 1) := by decide +kernel
theorem dX6_noteFinal_2 : decode cX6_noteFinal 2 = .ok (.getfield 195, 3) := by decide +kernel
theorem dX6_noteFinal_5 : decode cX6_noteFinal 5 = .ok (.iconst 1, 1) := by decide +kernel
theorem dX6_noteFinal_6 : decode cX6_noteFinal 6 = .ok (.iadd, 1) := by decide +kernel
theorem dX6_noteFinal_7 : decode cX6_noteFinal 7 = .ok (.putfield 195, 3) := by decide +kernel
theorem dX6_noteFinal_10 : decode cX6_noteFinal 10 = .ok (.iconst 0, 1) := by decide +kernel
theorem dX6_noteFinal_11 : decode cX6_noteFinal 11 = .ok (.istore_n 1, 1) := by decide +kernel
theorem dX6_noteFinal_12 : decode cX6_noteFinal 12 = .ok (.iconst 0, 1) := by decide +kernel
theorem dX6_noteFinal_13 : decode cX6_noteFinal 13 = .ok (.istore_n 2, 1) := by decide +kernel
theorem dX6_noteFinal_14 : decode cX6_noteFinal 14 = .ok (.iload_n 2, 1) := by decide +kernel
theorem dX6_noteFinal_15 : decode cX6_noteFinal 15 = .ok (.aload_n 0, 1) := by decide +kernel
theorem dX6_noteFinal_16 : decode cX6_noteFinal 16 = .ok (.getfield 7, 3) := by decide +kernel
theorem dX6_noteFinal_19 : decode cX6_noteFinal 19 = .ok (.iconst 1, 1) := by decide +kernel
theorem dX6_noteFinal_20 : decode cX6_noteFinal 20 = .ok (.iaload, 1) := by decide +kernel
theorem dX6_noteFinal_21 : decode cX6_noteFinal 21 = .ok (.if_icmp .ge 68, 3) := by decide +kernel
theorem dX6_noteFinal_24 : decode cX6_noteFinal 24 = .ok (.aload_n 0, 1) := by decide +kernel
theorem dX6_noteFinal_25 : decode cX6_noteFinal 25 = .ok (.iload_n 2, 1) := by decide +kernel
theorem dX6_noteFinal_26 : decode cX6_noteFinal 26 = .ok (.invokevirtual 128, 3) := by decide +kernel
theorem dX6_noteFinal_29 : decode cX6_noteFinal 29 = .ok (.iconst 1, 1) := by decide +kernel
theorem dX6_noteFinal_30 : decode cX6_noteFinal 30 = .ok (.if_icmp .ne 7, 3) := by decide +kernel
theorem dX6_noteFinal_33 : decode cX6_noteFinal 33 = .ok (.iconst 1, 1) := by decide +kernel
theorem dX6_noteFinal_34 : decode cX6_noteFinal 34 = .ok (.goto 4, 3) := by decide +kernel
theorem dX6_noteFinal_37 : decode cX6_noteFinal 37 = .ok (.iconst 0, 1) := by decide +kernel
theorem dX6_noteFinal_38 : decode cX6_noteFinal 38 = .ok (.istore_n 3, 1) := by decide +kernel
theorem dX6_noteFinal_39 : decode cX6_noteFinal 39 = .ok (.bipush 11, 2) := by decide +kernel
theorem dX6_noteFinal_41 : decode cX6_noteFinal 41 = .ok (.iload_n 1, 1) := by decide +kernel
theorem dX6_noteFinal_42 : decode cX6_noteFinal 42 = .ok (.imul, 1) := by decide +kernel
theorem dX6_noteFinal_43 : decode cX6_noteFinal 43 = .ok (.iload_n 3, 1) := by decide +kernel
theorem dX6_noteFinal_44 : decode cX6_noteFinal 44 = .ok (.ifCond .eq 13, 3) := by decide +kernel
theorem dX6_noteFinal_47 : decode cX6_noteFinal 47 = .ok (.aload_n 0, 1) := by decide +kernel
theorem dX6_noteFinal_48 : decode cX6_noteFinal 48 = .ok (.iload_n 2, 1) := by decide +kernel
theorem dX6_noteFinal_49 : decode cX6_noteFinal 49 = .ok (.invokevirtual 67, 3) := by decide +kernel
theorem dX6_noteFinal_52 : decode cX6_noteFinal 52 = .ok (.iconst 1, 1) := by decide +kernel
theorem dX6_noteFinal_53 : decode cX6_noteFinal 53 = .ok (.iadd, 1) := by decide +kernel
theorem dX6_noteFinal_54 : decode cX6_noteFinal 54 = .ok (.goto 4, 3) := by decide +kernel
theorem dX6_noteFinal_57 : decode cX6_noteFinal 57 = .ok (.iconst 0, 1) := by decide +kernel
theorem dX6_noteFinal_58 : decode cX6_noteFinal 58 = .ok (.iadd, 1) := by decide +kernel
theorem dX6_noteFinal_59 : decode cX6_noteFinal 59 = .ok (.istore_n 1, 1) := by decide +kernel
theorem dX6_noteFinal_60 : decode cX6_noteFinal 60 = .ok (.iload_n 3, 1) := by decide +kernel
theorem dX6_noteFinal_61 : decode cX6_noteFinal 61 = .ok (.ifCond .eq 22, 3) := by decide +kernel
theorem dX6_noteFinal_64 : decode cX6_noteFinal 64 = .ok (.aload_n 0, 1) := by decide +kernel
theorem dX6_noteFinal_65 : decode cX6_noteFinal 65 = .ok (.getfield 44, 3) := by decide +kernel
theorem dX6_noteFinal_68 : decode cX6_noteFinal 68 = .ok (.bipush 10, 2) := by decide +kernel
theorem dX6_noteFinal_70 : decode cX6_noteFinal 70 = .ok (.iload_n 2, 1) := by decide +kernel
theorem dX6_noteFinal_71 : decode cX6_noteFinal 71 = .ok (.imul, 1) := by decide +kernel
theorem dX6_noteFinal_72 : decode cX6_noteFinal 72 = .ok (.aload_n 0, 1) := by decide +kernel
theorem dX6_noteFinal_73 : decode cX6_noteFinal 73 = .ok (.iload_n 2, 1) := by decide +kernel
theorem dX6_noteFinal_74 : decode cX6_noteFinal 74 = .ok (.invokevirtual 67, 3) := by decide +kernel
theorem dX6_noteFinal_77 : decode cX6_noteFinal 77 = .ok (.iadd, 1) := by decide +kernel
theorem dX6_noteFinal_78 : decode cX6_noteFinal 78 = .ok (.dup2, 1) := by decide +kernel
theorem dX6_noteFinal_79 : decode cX6_noteFinal 79 = .ok (.iaload, 1) := by decide +kernel
theorem dX6_noteFinal_80 : decode cX6_noteFinal 80 = .ok (.iconst 1, 1) := by decide +kernel
theorem dX6_noteFinal_81 : decode cX6_noteFinal 81 = .ok (.iadd, 1) := by decide +kernel
theorem dX6_noteFinal_82 : decode cX6_noteFinal 82 = .ok (.iastore, 1) := by decide +kernel
theorem dX6_noteFinal_83 : decode cX6_noteFinal 83 = .ok (.iinc 2 1, 3) := by decide +kernel
theorem dX6_noteFinal_86 : decode cX6_noteFinal 86 = .ok (.goto (-72), 3) := by decide +kernel
theorem dX6_noteFinal_89 : decode cX6_noteFinal 89 = .ok (.aload_n 0, 1) := by decide +kernel
theorem dX6_noteFinal_90 : decode cX6_noteFinal 90 = .ok (.dup, 1) := by decide +kernel
theorem dX6_noteFinal_91 : decode cX6_noteFinal 91 = .ok (.getfield 198, 3) := by decide +kernel
theorem dX6_noteFinal_94 : decode cX6_noteFinal 94 = .ok (.aload_n 0, 1) := by decide +kernel
theorem dX6_noteFinal_95 : decode cX6_noteFinal 95 = .ok (.getfield 50, 3) := by decide +kernel
theorem dX6_noteFinal_98 : decode cX6_noteFinal 98 = .ok (.iload_n 1, 1) := by decide +kernel
theorem dX6_noteFinal_99 : decode cX6_noteFinal 99 = .ok (.baload, 1) := by decide +kernel
theorem dX6_noteFinal_100 : decode cX6_noteFinal 100 = .ok (.ifCond .eq 7, 3) := by decide +kernel
theorem dX6_noteFinal_103 : decode cX6_noteFinal 103 = .ok (.iconst 0, 1) := by decide +kernel
theorem dX6_noteFinal_104 : decode cX6_noteFinal 104 = .ok (.goto 4, 3) := by decide +kernel
theorem dX6_noteFinal_107 : decode cX6_noteFinal 107 = .ok (.iconst 1, 1) := by decide +kernel
theorem dX6_noteFinal_108 : decode cX6_noteFinal 108 = .ok (.iadd, 1) := by decide +kernel
theorem dX6_noteFinal_109 : decode cX6_noteFinal 109 = .ok (.putfield 198, 3) := by decide +kernel
theorem dX6_noteFinal_112 : decode cX6_noteFinal 112 = .ok (.aload_n 0, 1) := by decide +kernel
theorem dX6_noteFinal_113 : decode cX6_noteFinal 113 = .ok (.getfield 50, 3) := by decide +kernel
theorem dX6_noteFinal_116 : decode cX6_noteFinal 116 = .ok (.iload_n 1, 1) := by decide +kernel
theorem dX6_noteFinal_117 : decode cX6_noteFinal 117 = .ok (.iconst 1, 1) := by decide +kernel
theorem dX6_noteFinal_118 : decode cX6_noteFinal 118 = .ok (.bastore, 1) := by decide +kernel
theorem dX6_noteFinal_119 : decode cX6_noteFinal 119 = .ok (.return_, 1) := by decide +kernel
theorem dX6_notePath_0 : decode cX6_notePath 0 = .ok (.aload_n 0, 1) := by decide +kernel
theorem dX6_notePath_1 : decode cX6_notePath 1 = .ok (.aload_n 0, 1) := by decide +kernel
theorem dX6_notePath_2 : decode cX6_notePath 2 = .ok (.getfield 32, 3) := by decide +kernel
theorem dX6_notePath_5 : decode cX6_notePath 5 = .ok (.iload_n 1, 1) := by decide +kernel
theorem dX6_notePath_6 : decode cX6_notePath 6 = .ok (.iaload, 1) := by decide +kernel
theorem dX6_notePath_7 : decode cX6_notePath 7 = .ok (.putfield 201, 3) := by decide +kernel
theorem dX6_notePath_10 : decode cX6_notePath 10 = .ok (.iload_n 1, 1) := by decide +kernel
theorem dX6_notePath_11 : decode cX6_notePath 11 = .ok (.istore_n 2, 1) := by decide +kernel
theorem dX6_notePath_12 : decode cX6_notePath 12 = .ok (.aload_n 0, 1) := by decide +kernel
theorem dX6_notePath_13 : decode cX6_notePath 13 = .ok (.getfield 201, 3) := by decide +kernel
theorem dX6_notePath_16 : decode cX6_notePath 16 = .ok (.iconst 1, 1) := by decide +kernel
theorem dX6_notePath_17 : decode cX6_notePath 17 = .ok (.isub, 1) := by decide +kernel
theorem dX6_notePath_18 : decode cX6_notePath 18 = .ok (.istore_n 3, 1) := by decide +kernel
theorem dX6_notePath_19 : decode cX6_notePath 19 = .ok (.iload_n 3, 1) := by decide +kernel
theorem dX6_notePath_20 : decode cX6_notePath 20 = .ok (.ifCond .lt 28, 3) := by decide +kernel
theorem dX6_notePath_23 : decode cX6_notePath 23 = .ok (.aload_n 0, 1) := by decide +kernel
theorem dX6_notePath_24 : decode cX6_notePath 24 = .ok (.getfield 47, 3) := by decide +kernel
theorem dX6_notePath_27 : decode cX6_notePath 27 = .ok (.iload_n 3, 1) := by decide +kernel
theorem dX6_notePath_28 : decode cX6_notePath 28 = .ok (.aload_n 0, 1) := by decide +kernel
theorem dX6_notePath_29 : decode cX6_notePath 29 = .ok (.getfield 38, 3) := by decide +kernel
theorem dX6_notePath_32 : decode cX6_notePath 32 = .ok (.iload_n 2, 1) := by decide +kernel
theorem dX6_notePath_33 : decode cX6_notePath 33 = .ok (.iaload, 1) := by decide +kernel
theorem dX6_notePath_34 : decode cX6_notePath 34 = .ok (.iastore, 1) := by decide +kernel
theorem dX6_notePath_35 : decode cX6_notePath 35 = .ok (.aload_n 0, 1) := by decide +kernel
theorem dX6_notePath_36 : decode cX6_notePath 36 = .ok (.getfield 35, 3) := by decide +kernel
theorem dX6_notePath_39 : decode cX6_notePath 39 = .ok (.iload_n 2, 1) := by decide +kernel
theorem dX6_notePath_40 : decode cX6_notePath 40 = .ok (.iaload, 1) := by decide +kernel
theorem dX6_notePath_41 : decode cX6_notePath 41 = .ok (.istore_n 2, 1) := by decide +kernel
theorem dX6_notePath_42 : decode cX6_notePath 42 = .ok (.iinc 3 (-1), 3) := by decide +kernel
theorem dX6_notePath_45 : decode cX6_notePath 45 = .ok (.goto (-26), 3) := by decide +kernel
theorem dX6_notePath_48 : decode cX6_notePath 48 = .ok (.return_, 1) := by decide +kernel
set_option maxRecDepth 20000 in
theorem ggX6_note_X6_statusIn : GoodIn wsX6_note wsX6_statusIn := goodIn_r _ [14, 4, 43, 44, 45, 46, 47, 48, 49, 50, 51, 52, 53, 54, 55, 56, 57, 58, 59, 60, 61, 62, 63, 64, 65, 66, 67, 68, 69, 70, 71, 72, 73, 74, 75, 76] (by decide +kernel) (by decide +kernel)
set_option maxRecDepth 20000 in
theorem gX6_note_X6_statusIn : GoodIn wsX6_note (wsV RX6 128 RX6 yX6_statusIn wsX6_statusIn) := goodIn_app (goodIn_of _ (by decide +kernel)) ggX6_note_X6_statusIn
set_option maxRecDepth 20000 in
theorem ggX6_note_X6_splitterIn : GoodIn wsX6_note wsX6_splitterIn := goodIn_r _ [18, 4, 43, 44, 45, 46, 47, 48, 49, 50, 51, 52, 53, 54, 55, 56, 57, 58, 59, 60, 61, 62, 63, 64, 65, 66, 67, 68, 69, 70, 71, 72, 73, 74, 75, 76] (by decide +kernel) (by decide +kernel)
set_option maxRecDepth 20000 in
theorem gX6_note_X6_splitterIn : GoodIn wsX6_note (wsV RX6 67 RX6 yX6_splitterIn wsX6_splitterIn) := goodIn_app (goodIn_of _ (by decide +kernel)) ggX6_note_X6_splitterIn
set_option maxRecDepth 20000 in
theorem ggX6_note_X6_isFinal : GoodIn wsX6_note wsX6_isFinal := goodIn_r _ [22, 7, 10, 11, 12, 13, 14, 4, 43, 44, 45, 46, 47, 48, 49, 50, 51, 52, 53, 54, 55, 56, 57, 58, 59, 60, 61, 62, 63, 64, 65, 66, 67, 68, 69, 70, 71, 72, 73, 74, 75, 76] (by decide +kernel) (by decide +kernel)
set_option maxRecDepth 20000 in
theorem gX6_note_X6_isFinal : GoodIn wsX6_note (wsV RX6 210 RX6 yX6_isFinal wsX6_isFinal) := goodIn_app (goodIn_of _ (by decide +kernel)) ggX6_note_X6_isFinal
set_option maxRecDepth 20000 in
theorem ggX6_note_X6_noteFinal : GoodIn wsX6_note wsX6_noteFinal := goodIn_r _ [26, 27, 7, 28, 29, 30, 10, 11, 12, 13, 14, 4, 15, 16, 17, 18, 43, 44, 45, 46, 47, 48, 49, 50, 51, 52, 53, 54, 55, 56, 57, 58, 59, 60, 61, 62, 63, 64, 65, 66, 67, 68, 69, 70, 71, 72, 73, 74, 75, 76] (by decide +kernel) (by decide +kernel)
set_option maxRecDepth 20000 in
theorem gX6_note_X6_noteFinal : GoodIn wsX6_note (wsV RX6 214 RX6 yX6_noteFinal wsX6_noteFinal) := goodIn_app (goodIn_of _ (by decide +kernel)) ggX6_note_X6_noteFinal
set_option maxRecDepth 20000 in
theorem ggX6_note_X6_isViolation : GoodIn wsX6_note wsX6_isViolation := goodIn_r _ [34, 7, 10, 11, 12, 13, 14, 4, 15, 16, 17, 18, 43, 44, 45, 46, 47, 48, 49, 50, 51, 52, 53, 54, 55, 56, 57, 58, 59, 60, 61, 62, 63, 64, 65, 66, 67, 68, 69, 70, 71, 72, 73, 74, 75, 76] (by decide +kernel) (by decide +kernel)
set_option maxRecDepth 20000 in
theorem gX6_note_X6_isViolation : GoodIn wsX6_note (wsV RX6 217 RX6 yX6_isViolation wsX6_isViolation) := goodIn_app (goodIn_of _ (by decide +kernel)) ggX6_note_X6_isViolation
set_option maxRecDepth 20000 in
theorem ggX6_note_X6_notePath : GoodIn wsX6_note wsX6_notePath := goodIn_r _ [38, 5, 39, 40, 41, 42, 43, 44, 45, 46, 47, 48, 49, 50, 51, 52, 53, 54, 55, 56, 57, 58, 59, 60, 61, 62, 63, 64, 65, 66, 67, 68, 69, 70, 71, 72, 73, 74, 75, 76] (by decide +kernel) (by decide +kernel)
set_option maxRecDepth 20000 in
theorem gX6_note_X6_notePath : GoodIn wsX6_note (wsV RX6 223 RX6 yX6_notePath wsX6_notePath) := goodIn_app (goodIn_of _ (by decide +kernel)) ggX6_note_X6_notePath
theorem dX6_note_0 : decode cX6_note 0 = .ok (.aload_n 0, 1) := by decide +kernel
theorem dX6_note_1 : decode cX6_note 1 = .ok (.aload_n 0, 1) := by decide +kernel
theorem dX6_note_2 : decode cX6_note 2 = .ok (.getfield 26, 3) := by decide +kernel
theorem dX6_note_5 : decode cX6_note 5 = .ok (.iload_n 1, 1) := by decide +kernel
theorem dX6_note_6 : decode cX6_note 6 = .ok (.iaload, 1) := by decide +kernel
theorem dX6_note_7 : decode cX6_note 7 = .ok (.putfield 64, 3) := by decide +kernel
theorem dX6_note_10 : decode cX6_note 10 = .ok (.aload_n 0, 1) := by decide +kernel
theorem dX6_note_11 : decode cX6_note 11 = .ok (.aload_n 0, 1) := by decide +kernel
theorem dX6_note_12 : decode cX6_note 12 = .ok (.getfield 29, 3) := by decide +kernel
theorem dX6_note_15 : decode cX6_note 15 = .ok (.iload_n 1, 1) := by decide +kernel
theorem dX6_note_16 : decode cX6_note 16 = .ok (.iaload, 1) := by decide +kernel
theorem dX6_note_17 : decode cX6_note 17 = .ok (.putfield 61, 3) := by decide +kernel
theorem dX6_note_20 : decode cX6_note 20 = .ok (.aload_n 0, 1) := by decide +kernel
theorem dX6_note_21 : decode cX6_note 21 = .ok (.aload_n 0, 1) := by decide +kernel
theorem dX6_note_22 : decode cX6_note 22 = .ok (.getfield 32, 3) := by decide +kernel
theorem dX6_note_25 : decode cX6_note 25 = .ok (.iload_n 1, 1) := by decide +kernel
theorem dX6_note_26 : decode cX6_note 26 = .ok (.iaload, 1) := by decide +kernel
theorem dX6_note_27 : decode cX6_note 27 = .ok (.aload_n 0, 1) := by decide +kernel
theorem dX6_note_28 : decode cX6_note 28 = .ok (.getfield 204, 3) := by decide +kernel
theorem dX6_note_31 : decode cX6_note 31 = .ok (.if_icmp .le 12, 3) := by decide +kernel
theorem dX6_note_34 : decode cX6_note 34 = .ok (.aload_n 0, 1) := by decide +kernel
theorem dX6_note_35 : decode cX6_note 35 = .ok (.getfield 32, 3) := by decide +kernel
theorem dX6_note_38 : decode cX6_note 38 = .ok (.iload_n 1, 1) := by decide +kernel
theorem dX6_note_39 : decode cX6_note 39 = .ok (.iaload, 1) := by decide +kernel
theorem dX6_note_40 : decode cX6_note 40 = .ok (.goto 7, 3) := by decide +kernel
theorem dX6_note_43 : decode cX6_note 43 = .ok (.aload_n 0, 1) := by decide +kernel
theorem dX6_note_44 : decode cX6_note 44 = .ok (.getfield 204, 3) := by decide +kernel
theorem dX6_note_47 : decode cX6_note 47 = .ok (.putfield 204, 3) := by decide +kernel
theorem dX6_note_50 : decode cX6_note 50 = .ok (.iconst 0, 1) := by decide +kernel
theorem dX6_note_51 : decode cX6_note 51 = .ok (.istore_n 2, 1) := by decide +kernel
theorem dX6_note_52 : decode cX6_note 52 = .ok (.iload_n 2, 1) := by decide +kernel
theorem dX6_note_53 : decode cX6_note 53 = .ok (.aload_n 0, 1) := by decide +kernel
theorem dX6_note_54 : decode cX6_note 54 = .ok (.getfield 7, 3) := by decide +kernel
theorem dX6_note_57 : decode cX6_note 57 = .ok (.iconst 1, 1) := by decide +kernel
theorem dX6_note_58 : decode cX6_note 58 = .ok (.iaload, 1) := by decide +kernel
theorem dX6_note_59 : decode cX6_note 59 = .ok (.if_icmp .ge 46, 3) := by decide +kernel
theorem dX6_note_62 : decode cX6_note 62 = .ok (.aload_n 0, 1) := by decide +kernel
theorem dX6_note_63 : decode cX6_note 63 = .ok (.aload_n 0, 1) := by decide +kernel
theorem dX6_note_64 : decode cX6_note 64 = .ok (.iload_n 2, 1) := by decide +kernel
theorem dX6_note_65 : decode cX6_note 65 = .ok (.invokevirtual 128, 3) := by decide +kernel
theorem dX6_note_68 : decode cX6_note 68 = .ok (.iconst 1, 1) := by decide +kernel
theorem dX6_note_69 : decode cX6_note 69 = .ok (.if_icmp .ne 23, 3) := by decide +kernel
theorem dX6_note_72 : decode cX6_note 72 = .ok (.aload_n 0, 1) := by decide +kernel
theorem dX6_note_73 : decode cX6_note 73 = .ok (.iload_n 2, 1) := by decide +kernel
theorem dX6_note_74 : decode cX6_note 74 = .ok (.invokevirtual 67, 3) := by decide +kernel
theorem dX6_note_77 : decode cX6_note 77 = .ok (.aload_n 0, 1) := by decide +kernel
theorem dX6_note_78 : decode cX6_note 78 = .ok (.getfield 207, 3) := by decide +kernel
theorem dX6_note_81 : decode cX6_note 81 = .ok (.if_icmp .le 11, 3) := by decide +kernel
theorem dX6_note_84 : decode cX6_note 84 = .ok (.aload_n 0, 1) := by decide +kernel
theorem dX6_note_85 : decode cX6_note 85 = .ok (.iload_n 2, 1) := by decide +kernel
theorem dX6_note_86 : decode cX6_note 86 = .ok (.invokevirtual 67, 3) := by decide +kernel
theorem dX6_note_89 : decode cX6_note 89 = .ok (.goto 7, 3) := by decide +kernel
theorem dX6_note_92 : decode cX6_note 92 = .ok (.aload_n 0, 1) := by decide +kernel
theorem dX6_note_93 : decode cX6_note 93 = .ok (.getfield 207, 3) := by decide +kernel
theorem dX6_note_96 : decode cX6_note 96 = .ok (.putfield 207, 3) := by decide +kernel
theorem dX6_note_99 : decode cX6_note 99 = .ok (.iinc 2 1, 3) := by decide +kernel
theorem dX6_note_102 : decode cX6_note 102 = .ok (.goto (-50), 3) := by decide +kernel
theorem dX6_note_105 : decode cX6_note 105 = .ok (.aload_n 0, 1) := by decide +kernel
theorem dX6_note_106 : decode cX6_note 106 = .ok (.invokevirtual 210, 3) := by decide +kernel
theorem dX6_note_109 : decode cX6_note 109 = .ok (.ifCond .eq 7, 3) := by decide +kernel
theorem dX6_note_112 : decode cX6_note 112 = .ok (.aload_n 0, 1) := by decide +kernel
theorem dX6_note_113 : decode cX6_note 113 = .ok (.invokevirtual 214, 3) := by decide +kernel
theorem dX6_note_116 : decode cX6_note 116 = .ok (.aload_n 0, 1) := by decide +kernel
theorem dX6_note_117 : decode cX6_note 117 = .ok (.invokevirtual 217, 3) := by decide +kernel
theorem dX6_note_120 : decode cX6_note 120 = .ok (.ifCond .eq 25, 3) := by decide +kernel
theorem dX6_note_123 : decode cX6_note 123 = .ok (.aload_n 0, 1) := by decide +kernel
theorem dX6_note_124 : decode cX6_note 124 = .ok (.getfield 220, 3) := by decide +kernel
theorem dX6_note_127 : decode cX6_note 127 = .ok (.ifCond .ne 8, 3) := by decide +kernel
theorem dX6_note_130 : decode cX6_note 130 = .ok (.aload_n 0, 1) := by decide +kernel
theorem dX6_note_131 : decode cX6_note 131 = .ok (.iload_n 1, 1) := by decide +kernel
theorem dX6_note_132 : decode cX6_note 132 = .ok (.invokevirtual 223, 3) := by decide +kernel
theorem dX6_note_135 : decode cX6_note 135 = .ok (.aload_n 0, 1) := by decide +kernel
theorem dX6_note_136 : decode cX6_note 136 = .ok (.dup, 1) := by decide +kernel
theorem dX6_note_137 : decode cX6_note 137 = .ok (.getfield 220, 3) := by decide +kernel
theorem dX6_note_140 : decode cX6_note 140 = .ok (.iconst 1, 1) := by decide +kernel
theorem dX6_note_141 : decode cX6_note 141 = .ok (.iadd, 1) := by decide +kernel
theorem dX6_note_142 : decode cX6_note 142 = .ok (.putfield 220, 3) := by decide +kernel
theorem dX6_note_145 : decode cX6_note 145 = .ok (.return_, 1) := by decide +kernel
set_option maxRecDepth 20000 in
theorem ggX6_explore_X6_findAll : GoodIn wsX6_explore wsX6_findAll := goodIn_r _ [16, 17, 2, 18, 19, 20, 21, 22, 23, 24, 25, 15, 26, 27, 28, 29, 30, 31, 32, 33, 34, 35, 36, 37, 38, 39, 40, 41, 42, 43, 44, 45, 46, 47, 48, 49, 50, 51, 52, 53, 54, 55, 56, 57, 58, 59, 60, 61, 62, 63, 64, 65, 66, 67, 68, 69, 70, 71, 72, 73, 74, 75, 76, 77, 78, 79, 80, 81, 82, 83, 105, 106, 107, 108, 109, 110, 111, 112, 113, 114, 115, 116, 117, 118, 119, 120, 121, 122, 123, 124, 125, 126, 127, 128, 129, 130, 131, 132, 133, 134, 135, 136, 137, 138] (by decide +kernel) (by decide +kernel)
set_option maxRecDepth 20000 in
theorem gX6_explore_X6_findAll : GoodIn wsX6_explore (wsV RX6 227 RX6 yX6_findAll wsX6_findAll) := goodIn_app (goodIn_of _ (by decide +kernel)) ggX6_explore_X6_findAll
set_option maxRecDepth 20000 in
theorem ggX6_explore_X6_note : GoodIn wsX6_explore wsX6_note := goodIn_r _ [87, 19, 20, 21, 22, 32, 6, 18, 7, 5, 35, 36, 37, 15, 38, 44, 45, 46, 47, 88, 89, 90, 91, 92, 93, 94, 95, 4, 11, 8, 10, 96, 97, 98, 99, 100, 101, 102, 103, 9, 104, 34, 33, 105, 106, 107, 108, 109, 110, 111, 112, 113, 114, 115, 116, 117, 118, 119, 120, 121, 122, 123, 124, 125, 126, 127, 128, 129, 130, 131, 132, 133, 134, 135, 136, 137, 138] (by decide +kernel) (by decide +kernel)
set_option maxRecDepth 20000 in
theorem gX6_explore_X6_note : GoodIn wsX6_explore (wsV RX6 230 RX6 yX6_note wsX6_note) := goodIn_app (goodIn_of _ (by decide +kernel)) ggX6_explore_X6_note
theorem dX6_explore_0 : decode cX6_explore 0 = .ok (.aload_n 0, 1) := by decide +kernel
theorem dX6_explore_1 : decode cX6_explore 1 = .ok (.iconst 0, 1) := by decide +kernel
theorem dX6_explore_2 : decode cX6_explore 2 = .ok (.putfield 57, 3) := by decide +kernel
theorem dX6_explore_5 : decode cX6_explore 5 = .ok (.aload_n 0, 1) := by decide +kernel
theorem dX6_explore_6 : decode cX6_explore 6 = .ok (.invokevirtual 227, 3) := by decide +kernel
theorem dX6_explore_9 : decode cX6_explore 9 = .ok (.aload_n 0, 1) := by decide +kernel
theorem dX6_explore_10 : decode cX6_explore 10 = .ok (.getfield 188, 3) := by decide +kernel
theorem dX6_explore_13 : decode cX6_explore 13 = .ok (.sipush 4000, 3) := by decide +kernel
theorem dX6_explore_16 : decode cX6_explore 16 = .ok (.if_icmp .le 6, 3) := by decide +kernel
theorem dX6_explore_19 : decode cX6_explore 19 = .ok (.bipush (-3), 2) := by decide +kernel
theorem dX6_explore_21 : decode cX6_explore 21 = .ok (.ireturn, 1) := by decide +kernel
theorem dX6_explore_22 : decode cX6_explore 22 = .ok (.aload_n 0, 1) := by decide +kernel
theorem dX6_explore_23 : decode cX6_explore 23 = .ok (.iconst 1, 1) := by decide +kernel
theorem dX6_explore_24 : decode cX6_explore 24 = .ok (.putfield 111, 3) := by decide +kernel
theorem dX6_explore_27 : decode cX6_explore 27 = .ok (.aload_n 0, 1) := by decide +kernel
theorem dX6_explore_28 : decode cX6_explore 28 = .ok (.iconst 0, 1) := by decide +kernel
theorem dX6_explore_29 : decode cX6_explore 29 = .ok (.putfield 195, 3) := by decide +kernel
theorem dX6_explore_32 : decode cX6_explore 32 = .ok (.aload_n 0, 1) := by decide +kernel
theorem dX6_explore_33 : decode cX6_explore 33 = .ok (.iconst 0, 1) := by decide +kernel
theorem dX6_explore_34 : decode cX6_explore 34 = .ok (.putfield 220, 3) := by decide +kernel
theorem dX6_explore_37 : decode cX6_explore 37 = .ok (.aload_n 0, 1) := by decide +kernel
theorem dX6_explore_38 : decode cX6_explore 38 = .ok (.iconst 0, 1) := by decide +kernel
theorem dX6_explore_39 : decode cX6_explore 39 = .ok (.putfield 204, 3) := by decide +kernel
theorem dX6_explore_42 : decode cX6_explore 42 = .ok (.aload_n 0, 1) := by decide +kernel
theorem dX6_explore_43 : decode cX6_explore 43 = .ok (.bipush (-9), 2) := by decide +kernel
theorem dX6_explore_45 : decode cX6_explore 45 = .ok (.putfield 207, 3) := by decide +kernel
theorem dX6_explore_48 : decode cX6_explore 48 = .ok (.aload_n 0, 1) := by decide +kernel
theorem dX6_explore_49 : decode cX6_explore 49 = .ok (.iconst 0, 1) := by decide +kernel
theorem dX6_explore_50 : decode cX6_explore 50 = .ok (.putfield 198, 3) := by decide +kernel
theorem dX6_explore_53 : decode cX6_explore 53 = .ok (.aload_n 0, 1) := by decide +kernel
theorem dX6_explore_54 : decode cX6_explore 54 = .ok (.iconst 0, 1) := by decide +kernel
theorem dX6_explore_55 : decode cX6_explore 55 = .ok (.putfield 201, 3) := by decide +kernel
theorem dX6_explore_58 : decode cX6_explore 58 = .ok (.iconst 0, 1) := by decide +kernel
theorem dX6_explore_59 : decode cX6_explore 59 = .ok (.istore_n 1, 1) := by decide +kernel
theorem dX6_explore_60 : decode cX6_explore 60 = .ok (.iload_n 1, 1) := by decide +kernel
theorem dX6_explore_61 : decode cX6_explore 61 = .ok (.sipush 1331, 3) := by decide +kernel
theorem dX6_explore_64 : decode cX6_explore 64 = .ok (.if_icmp .ge 16, 3) := by decide +kernel
theorem dX6_explore_67 : decode cX6_explore 67 = .ok (.aload_n 0, 1) := by decide +kernel
theorem dX6_explore_68 : decode cX6_explore 68 = .ok (.getfield 50, 3) := by decide +kernel
theorem dX6_explore_71 : decode cX6_explore 71 = .ok (.iload_n 1, 1) := by decide +kernel
theorem dX6_explore_72 : decode cX6_explore 72 = .ok (.iconst 0, 1) := by decide +kernel
theorem dX6_explore_73 : decode cX6_explore 73 = .ok (.bastore, 1) := by decide +kernel
theorem dX6_explore_74 : decode cX6_explore 74 = .ok (.iinc 1 1, 3) := by decide +kernel
theorem dX6_explore_77 : decode cX6_explore 77 = .ok (.goto (-17), 3) := by decide +kernel
theorem dX6_explore_80 : decode cX6_explore 80 = .ok (.iconst 0, 1) := by decide +kernel
theorem dX6_explore_81 : decode cX6_explore 81 = .ok (.istore_n 1, 1) := by decide +kernel
theorem dX6_explore_82 : decode cX6_explore 82 = .ok (.iload_n 1, 1) := by decide +kernel
theorem dX6_explore_83 : decode cX6_explore 83 = .ok (.bipush 30, 2) := by decide +kernel
theorem dX6_explore_85 : decode cX6_explore 85 = .ok (.if_icmp .ge 16, 3) := by decide +kernel
theorem dX6_explore_88 : decode cX6_explore 88 = .ok (.aload_n 0, 1) := by decide +kernel
theorem dX6_explore_89 : decode cX6_explore 89 = .ok (.getfield 44, 3) := by decide +kernel
theorem dX6_explore_92 : decode cX6_explore 92 = .ok (.iload_n 1, 1) := by decide +kernel
theorem dX6_explore_93 : decode cX6_explore 93 = .ok (.iconst 0, 1) := by decide +kernel
theorem dX6_explore_94 : decode cX6_explore 94 = .ok (.iastore, 1) := by decide +kernel
theorem dX6_explore_95 : decode cX6_explore 95 = .ok (.iinc 1 1, 3) := by decide +kernel
theorem dX6_explore_98 : decode cX6_explore 98 = .ok (.goto (-16), 3) := by decide +kernel
theorem dX6_explore_101 : decode cX6_explore 101 = .ok (.iconst 0, 1) := by decide +kernel
theorem dX6_explore_102 : decode cX6_explore 102 = .ok (.istore_n 1, 1) := by decide +kernel
theorem dX6_explore_103 : decode cX6_explore 103 = .ok (.iload_n 1, 1) := by decide +kernel
theorem dX6_explore_104 : decode cX6_explore 104 = .ok (.aload_n 0, 1) := by decide +kernel
theorem dX6_explore_105 : decode cX6_explore 105 = .ok (.getfield 188, 3) := by decide +kernel
theorem dX6_explore_108 : decode cX6_explore 108 = .ok (.if_icmp .ge 14, 3) := by decide +kernel
theorem dX6_explore_111 : decode cX6_explore 111 = .ok (.aload_n 0, 1) := by decide +kernel
theorem dX6_explore_112 : decode cX6_explore 112 = .ok (.iload_n 1, 1) := by decide +kernel
theorem dX6_explore_113 : decode cX6_explore 113 = .ok (.invokevirtual 230, 3) := by decide +kernel
theorem dX6_explore_116 : decode cX6_explore 116 = .ok (.iinc 1 1, 3) := by decide +kernel
theorem dX6_explore_119 : decode cX6_explore 119 = .ok (.goto (-16), 3) := by decide +kernel
theorem dX6_explore_122 : decode cX6_explore 122 = .ok (.aload_n 0, 1) := by decide +kernel
theorem dX6_explore_123 : decode cX6_explore 123 = .ok (.getfield 188, 3) := by decide +kernel
theorem dX6_explore_126 : decode cX6_explore 126 = .ok (.ireturn, 1) := by decide +kernel
theorem dX6_finalCount_0 : decode cX6_finalCount 0 = .ok (.aload_n 0, 1) := by decide +kernel
theorem dX6_finalCount_1 : decode cX6_finalCount 1 = .ok (.iconst 0, 1) := by decide +kernel
theorem dX6_finalCount_2 : decode cX6_finalCount 2 = .ok (.putfield 57, 3) := by decide +kernel
theorem dX6_finalCount_5 : decode cX6_finalCount 5 = .ok (.aload_n 0, 1) := by decide +kernel
theorem dX6_finalCount_6 : decode cX6_finalCount 6 = .ok (.getfield 111, 3) := by decide +kernel
theorem dX6_finalCount_9 : decode cX6_finalCount 9 = .ok (.ifCond .eq 10, 3) := by decide +kernel
theorem dX6_finalCount_12 : decode cX6_finalCount 12 = .ok (.aload_n 0, 1) := by decide +kernel
theorem dX6_finalCount_13 : decode cX6_finalCount 13 = .ok (.getfield 195, 3) := by decide +kernel
theorem dX6_finalCount_16 : decode cX6_finalCount 16 = .ok (.goto 5, 3) := by decide +kernel
theorem dX6_finalCount_19 : decode cX6_finalCount 19 = .ok (.bipush (-2), 2) := by decide +kernel
theorem dX6_finalCount_21 : decode cX6_finalCount 21 = .ok (.ireturn, 1) := by decide +kernel
theorem dX6_violationCount_0 : decode cX6_violationCount 0 = .ok (.aload_n 0, 1) := by decide +kernel
theorem dX6_violationCount_1 : decode cX6_violationCount 1 = .ok (.iconst 0, 1) := by decide +kernel
theorem dX6_violationCount_2 : decode cX6_violationCount 2 = .ok (.putfield 57, 3) := by decide +kernel
theorem dX6_violationCount_5 : decode cX6_violationCount 5 = .ok (.aload_n 0, 1) := by decide +kernel
theorem dX6_violationCount_6 : decode cX6_violationCount 6 = .ok (.getfield 111, 3) := by decide +kernel
theorem dX6_violationCount_9 : decode cX6_violationCount 9 = .ok (.ifCond .eq 10, 3) := by decide +kernel
theorem dX6_violationCount_12 : decode cX6_violationCount 12 = .ok (.aload_n 0, 1) := by decide +kernel
theorem dX6_violationCount_13 : decode cX6_violationCount 13 = .ok (.getfield 220, 3) := by decide +kernel
theorem dX6_violationCount_16 : decode cX6_violationCount 16 = .ok (.goto 5, 3) := by decide +kernel
theorem dX6_violationCount_19 : decode cX6_violationCount 19 = .ok (.bipush (-2), 2) := by decide +kernel
theorem dX6_violationCount_21 : decode cX6_violationCount 21 = .ok (.ireturn, 1) := by decide +kernel
theorem dX6_violationStep_0 : decode cX6_violationStep 0 = .ok (.aload_n 0, 1) := by decide +kernel
theorem dX6_violationStep_1 : decode cX6_violationStep 1 = .ok (.iconst 0, 1) := by decide +kernel
theorem dX6_violationStep_2 : decode cX6_violationStep 2 = .ok (.putfield 57, 3) := by decide +kernel
theorem dX6_violationStep_5 : decode cX6_violationStep 5 = .ok (.iload_n 1, 1) := by decide +kernel
theorem dX6_violationStep_6 : decode cX6_violationStep 6 = .ok (.ifCond .ge 5, 3) := by decide +kernel
theorem dX6_violationStep_9 : decode cX6_violationStep 9 = .ok (.iconst (-1), 1) := by decide +kernel
theorem dX6_violationStep_10 : decode cX6_violationStep 10 = .ok (.ireturn, 1) := by decide +kernel
theorem dX6_violationStep_11 : decode cX6_violationStep 11 = .ok (.aload_n 0, 1) := by decide +kernel
theorem dX6_violationStep_12 : decode cX6_violationStep 12 = .ok (.getfield 111, 3) := by decide +kernel
theorem dX6_violationStep_15 : decode cX6_violationStep 15 = .ok (.ifCond .ne 6, 3) := by decide +kernel
theorem dX6_violationStep_18 : decode cX6_violationStep 18 = .ok (.bipush (-2), 2) := by decide +kernel
theorem dX6_violationStep_20 : decode cX6_violationStep 20 = .ok (.ireturn, 1) := by decide +kernel
theorem dX6_violationStep_21 : decode cX6_violationStep 21 = .ok (.aload_n 0, 1) := by decide +kernel
theorem dX6_violationStep_22 : decode cX6_violationStep 22 = .ok (.getfield 220, 3) := by decide +kernel
theorem dX6_violationStep_25 : decode cX6_violationStep 25 = .ok (.ifCond .le 20, 3) := by decide +kernel
theorem dX6_violationStep_28 : decode cX6_violationStep 28 = .ok (.iload_n 1, 1) := by decide +kernel
theorem dX6_violationStep_29 : decode cX6_violationStep 29 = .ok (.aload_n 0, 1) := by decide +kernel
theorem dX6_violationStep_30 : decode cX6_violationStep 30 = .ok (.getfield 201, 3) := by decide +kernel
theorem dX6_violationStep_33 : decode cX6_violationStep 33 = .ok (.if_icmp .ge 12, 3) := by decide +kernel
theorem dX6_violationStep_36 : decode cX6_violationStep 36 = .ok (.aload_n 0, 1) := by decide +kernel
theorem dX6_violationStep_37 : decode cX6_violationStep 37 = .ok (.getfield 47, 3) := by decide +kernel
theorem dX6_violationStep_40 : decode cX6_violationStep 40 = .ok (.iload_n 1, 1) := by decide +kernel
theorem dX6_violationStep_41 : decode cX6_violationStep 41 = .ok (.iaload, 1) := by decide +kernel
theorem dX6_violationStep_42 : decode cX6_violationStep 42 = .ok (.goto 5, 3) := by decide +kernel
theorem dX6_violationStep_45 : decode cX6_violationStep 45 = .ok (.bipush (-9), 2) := by decide +kernel
theorem dX6_violationStep_47 : decode cX6_violationStep 47 = .ok (.ireturn, 1) := by decide +kernel
theorem dX6_greatestDepth_0 : decode cX6_greatestDepth 0 = .ok (.aload_n 0, 1) := by decide +kernel
theorem dX6_greatestDepth_1 : decode cX6_greatestDepth 1 = .ok (.iconst 0, 1) := by decide +kernel
theorem dX6_greatestDepth_2 : decode cX6_greatestDepth 2 = .ok (.putfield 57, 3) := by decide +kernel
theorem dX6_greatestDepth_5 : decode cX6_greatestDepth 5 = .ok (.aload_n 0, 1) := by decide +kernel
theorem dX6_greatestDepth_6 : decode cX6_greatestDepth 6 = .ok (.getfield 111, 3) := by decide +kernel
theorem dX6_greatestDepth_9 : decode cX6_greatestDepth 9 = .ok (.ifCond .eq 10, 3) := by decide +kernel
theorem dX6_greatestDepth_12 : decode cX6_greatestDepth 12 = .ok (.aload_n 0, 1) := by decide +kernel
theorem dX6_greatestDepth_13 : decode cX6_greatestDepth 13 = .ok (.getfield 204, 3) := by decide +kernel
theorem dX6_greatestDepth_16 : decode cX6_greatestDepth 16 = .ok (.goto 5, 3) := by decide +kernel
theorem dX6_greatestDepth_19 : decode cX6_greatestDepth 19 = .ok (.bipush (-2), 2) := by decide +kernel
theorem dX6_greatestDepth_21 : decode cX6_greatestDepth 21 = .ok (.ireturn, 1) := by decide +kernel
theorem dX6_greatestName_0 : decode cX6_greatestName 0 = .ok (.aload_n 0, 1) := by decide +kernel
theorem dX6_greatestName_1 : decode cX6_greatestName 1 = .ok (.iconst 0, 1) := by decide +kernel
theorem dX6_greatestName_2 : decode cX6_greatestName 2 = .ok (.putfield 57, 3) := by decide +kernel
theorem dX6_greatestName_5 : decode cX6_greatestName 5 = .ok (.aload_n 0, 1) := by decide +kernel
theorem dX6_greatestName_6 : decode cX6_greatestName 6 = .ok (.getfield 111, 3) := by decide +kernel
theorem dX6_greatestName_9 : decode cX6_greatestName 9 = .ok (.ifCond .eq 10, 3) := by decide +kernel
theorem dX6_greatestName_12 : decode cX6_greatestName 12 = .ok (.aload_n 0, 1) := by decide +kernel
theorem dX6_greatestName_13 : decode cX6_greatestName 13 = .ok (.getfield 207, 3) := by decide +kernel
theorem dX6_greatestName_16 : decode cX6_greatestName 16 = .ok (.goto 5, 3) := by decide +kernel
theorem dX6_greatestName_19 : decode cX6_greatestName 19 = .ok (.bipush (-2), 2) := by decide +kernel
theorem dX6_greatestName_21 : decode cX6_greatestName 21 = .ok (.ireturn, 1) := by decide +kernel
theorem dX6_outcomeCount_0 : decode cX6_outcomeCount 0 = .ok (.aload_n 0, 1) := by decide +kernel
theorem dX6_outcomeCount_1 : decode cX6_outcomeCount 1 = .ok (.iconst 0, 1) := by decide +kernel
theorem dX6_outcomeCount_2 : decode cX6_outcomeCount 2 = .ok (.putfield 57, 3) := by decide +kernel
theorem dX6_outcomeCount_5 : decode cX6_outcomeCount 5 = .ok (.aload_n 0, 1) := by decide +kernel
theorem dX6_outcomeCount_6 : decode cX6_outcomeCount 6 = .ok (.getfield 111, 3) := by decide +kernel
theorem dX6_outcomeCount_9 : decode cX6_outcomeCount 9 = .ok (.ifCond .eq 10, 3) := by decide +kernel
theorem dX6_outcomeCount_12 : decode cX6_outcomeCount 12 = .ok (.aload_n 0, 1) := by decide +kernel
theorem dX6_outcomeCount_13 : decode cX6_outcomeCount 13 = .ok (.getfield 198, 3) := by decide +kernel
theorem dX6_outcomeCount_16 : decode cX6_outcomeCount 16 = .ok (.goto 5, 3) := by decide +kernel
theorem dX6_outcomeCount_19 : decode cX6_outcomeCount 19 = .ok (.bipush (-2), 2) := by decide +kernel
theorem dX6_outcomeCount_21 : decode cX6_outcomeCount 21 = .ok (.ireturn, 1) := by decide +kernel
set_option maxRecDepth 20000 in
theorem ggX6_finalsWith_X6_isProcess : GoodIn wsX6_finalsWith wsX6_isProcess := goodIn_r _ [8, 9, 10, 11, 7, 12, 21, 22, 23, 24, 25, 26, 27, 28, 29, 30, 31, 32, 33, 34, 35, 36, 37, 38, 39, 40, 41, 42, 43, 44, 45, 46, 47, 48, 49, 50, 51, 52, 53, 54] (by decide +kernel) (by decide +kernel)
set_option maxRecDepth 20000 in
theorem gX6_finalsWith_X6_isProcess : GoodIn wsX6_finalsWith (wsV RX6 134 RX6 yX6_isProcess wsX6_isProcess) := goodIn_app (goodIn_of _ (by decide +kernel)) ggX6_finalsWith_X6_isProcess
set_option maxRecDepth 20000 in
theorem ggX6_finalsWith_X6_isSplitter : GoodIn wsX6_finalsWith wsX6_isSplitter := goodIn_r _ [16, 17, 18, 19, 7, 20, 9, 10, 11, 12, 21, 22, 23, 24, 25, 26, 27, 28, 29, 30, 31, 32, 33, 34, 35, 36, 37, 38, 39, 40, 41, 42, 43, 44, 45, 46, 47, 48, 49, 50, 51, 52, 53, 54] (by decide +kernel) (by decide +kernel)
set_option maxRecDepth 20000 in
theorem gX6_finalsWith_X6_isSplitter : GoodIn wsX6_finalsWith (wsV RX6 184 RX6 yX6_isSplitter wsX6_isSplitter) := goodIn_app (goodIn_of _ (by decide +kernel)) ggX6_finalsWith_X6_isSplitter
theorem dX6_finalsWith_0 : decode cX6_finalsWith 0 = .ok (.aload_n 0, 1) := by decide +kernel
theorem dX6_finalsWith_1 : decode cX6_finalsWith 1 = .ok (.iconst 0, 1) := by decide +kernel
theorem dX6_finalsWith_2 : decode cX6_finalsWith 2 = .ok (.putfield 57, 3) := by decide +kernel
theorem dX6_finalsWith_5 : decode cX6_finalsWith 5 = .ok (.aload_n 0, 1) := by decide +kernel
theorem dX6_finalsWith_6 : decode cX6_finalsWith 6 = .ok (.iload_n 1, 1) := by decide +kernel
theorem dX6_finalsWith_7 : decode cX6_finalsWith 7 = .ok (.invokevirtual 134, 3) := by decide +kernel
theorem dX6_finalsWith_10 : decode cX6_finalsWith 10 = .ok (.ifCond .eq 11, 3) := by decide +kernel
theorem dX6_finalsWith_13 : decode cX6_finalsWith 13 = .ok (.aload_n 0, 1) := by decide +kernel
theorem dX6_finalsWith_14 : decode cX6_finalsWith 14 = .ok (.iload_n 2, 1) := by decide +kernel
theorem dX6_finalsWith_15 : decode cX6_finalsWith 15 = .ok (.invokevirtual 184, 3) := by decide +kernel
theorem dX6_finalsWith_18 : decode cX6_finalsWith 18 = .ok (.ifCond .ne 5, 3) := by decide +kernel
theorem dX6_finalsWith_21 : decode cX6_finalsWith 21 = .ok (.iconst (-1), 1) := by decide +kernel
theorem dX6_finalsWith_22 : decode cX6_finalsWith 22 = .ok (.ireturn, 1) := by decide +kernel
theorem dX6_finalsWith_23 : decode cX6_finalsWith 23 = .ok (.aload_n 0, 1) := by decide +kernel
theorem dX6_finalsWith_24 : decode cX6_finalsWith 24 = .ok (.getfield 111, 3) := by decide +kernel
theorem dX6_finalsWith_27 : decode cX6_finalsWith 27 = .ok (.ifCond .eq 17, 3) := by decide +kernel
theorem dX6_finalsWith_30 : decode cX6_finalsWith 30 = .ok (.aload_n 0, 1) := by decide +kernel
theorem dX6_finalsWith_31 : decode cX6_finalsWith 31 = .ok (.getfield 44, 3) := by decide +kernel
theorem dX6_finalsWith_34 : decode cX6_finalsWith 34 = .ok (.bipush 10, 2) := by decide +kernel
theorem dX6_finalsWith_36 : decode cX6_finalsWith 36 = .ok (.iload_n 1, 1) := by decide +kernel
theorem dX6_finalsWith_37 : decode cX6_finalsWith 37 = .ok (.imul, 1) := by decide +kernel
theorem dX6_finalsWith_38 : decode cX6_finalsWith 38 = .ok (.iload_n 2, 1) := by decide +kernel
theorem dX6_finalsWith_39 : decode cX6_finalsWith 39 = .ok (.iadd, 1) := by decide +kernel
theorem dX6_finalsWith_40 : decode cX6_finalsWith 40 = .ok (.iaload, 1) := by decide +kernel
theorem dX6_finalsWith_41 : decode cX6_finalsWith 41 = .ok (.goto 5, 3) := by decide +kernel
theorem dX6_finalsWith_44 : decode cX6_finalsWith 44 = .ok (.bipush (-2), 2) := by decide +kernel
theorem dX6_finalsWith_46 : decode cX6_finalsWith 46 = .ok (.ireturn, 1) := by decide +kernel
theorem dX6_undo_0 : decode cX6_undo 0 = .ok (.aload_n 0, 1) := by decide +kernel
theorem dX6_undo_1 : decode cX6_undo 1 = .ok (.iconst 0, 1) := by decide +kernel
theorem dX6_undo_2 : decode cX6_undo 2 = .ok (.putfield 57, 3) := by decide +kernel
theorem dX6_undo_5 : decode cX6_undo 5 = .ok (.aload_n 0, 1) := by decide +kernel
theorem dX6_undo_6 : decode cX6_undo 6 = .ok (.getfield 108, 3) := by decide +kernel
theorem dX6_undo_9 : decode cX6_undo 9 = .ok (.ifCond .ne 6, 3) := by decide +kernel
theorem dX6_undo_12 : decode cX6_undo 12 = .ok (.bipush (-2), 2) := by decide +kernel
theorem dX6_undo_14 : decode cX6_undo 14 = .ok (.ireturn, 1) := by decide +kernel
theorem dX6_undo_15 : decode cX6_undo 15 = .ok (.aload_n 0, 1) := by decide +kernel
theorem dX6_undo_16 : decode cX6_undo 16 = .ok (.dup, 1) := by decide +kernel
theorem dX6_undo_17 : decode cX6_undo 17 = .ok (.getfield 108, 3) := by decide +kernel
theorem dX6_undo_20 : decode cX6_undo 20 = .ok (.iconst 1, 1) := by decide +kernel
theorem dX6_undo_21 : decode cX6_undo 21 = .ok (.isub, 1) := by decide +kernel
theorem dX6_undo_22 : decode cX6_undo 22 = .ok (.putfield 108, 3) := by decide +kernel
theorem dX6_undo_25 : decode cX6_undo 25 = .ok (.iconst 0, 1) := by decide +kernel
theorem dX6_undo_26 : decode cX6_undo 26 = .ok (.istore_n 1, 1) := by decide +kernel
theorem dX6_undo_27 : decode cX6_undo 27 = .ok (.iload_n 1, 1) := by decide +kernel
theorem dX6_undo_28 : decode cX6_undo 28 = .ok (.bipush 38, 2) := by decide +kernel
theorem dX6_undo_30 : decode cX6_undo 30 = .ok (.if_icmp .ge 29, 3) := by decide +kernel
theorem dX6_undo_33 : decode cX6_undo 33 = .ok (.aload_n 0, 1) := by decide +kernel
theorem dX6_undo_34 : decode cX6_undo 34 = .ok (.getfield 7, 3) := by decide +kernel
theorem dX6_undo_37 : decode cX6_undo 37 = .ok (.iload_n 1, 1) := by decide +kernel
theorem dX6_undo_38 : decode cX6_undo 38 = .ok (.aload_n 0, 1) := by decide +kernel
theorem dX6_undo_39 : decode cX6_undo 39 = .ok (.getfield 13, 3) := by decide +kernel
theorem dX6_undo_42 : decode cX6_undo 42 = .ok (.bipush 38, 2) := by decide +kernel
theorem dX6_undo_44 : decode cX6_undo 44 = .ok (.aload_n 0, 1) := by decide +kernel
theorem dX6_undo_45 : decode cX6_undo 45 = .ok (.getfield 108, 3) := by decide +kernel
theorem dX6_undo_48 : decode cX6_undo 48 = .ok (.imul, 1) := by decide +kernel
theorem dX6_undo_49 : decode cX6_undo 49 = .ok (.iload_n 1, 1) := by decide +kernel
theorem dX6_undo_50 : decode cX6_undo 50 = .ok (.iadd, 1) := by decide +kernel
theorem dX6_undo_51 : decode cX6_undo 51 = .ok (.iaload, 1) := by decide +kernel
theorem dX6_undo_52 : decode cX6_undo 52 = .ok (.iastore, 1) := by decide +kernel
theorem dX6_undo_53 : decode cX6_undo 53 = .ok (.iinc 1 1, 3) := by decide +kernel
theorem dX6_undo_56 : decode cX6_undo 56 = .ok (.goto (-29), 3) := by decide +kernel
theorem dX6_undo_59 : decode cX6_undo 59 = .ok (.aload_n 0, 1) := by decide +kernel
theorem dX6_undo_60 : decode cX6_undo 60 = .ok (.iconst 0, 1) := by decide +kernel
theorem dX6_undo_61 : decode cX6_undo 61 = .ok (.putfield 111, 3) := by decide +kernel
theorem dX6_undo_64 : decode cX6_undo 64 = .ok (.aload_n 0, 1) := by decide +kernel
theorem dX6_undo_65 : decode cX6_undo 65 = .ok (.getfield 108, 3) := by decide +kernel
theorem dX6_undo_68 : decode cX6_undo 68 = .ok (.ireturn, 1) := by decide +kernel
set_option maxRecDepth 20000 in
theorem ggX6_save_X6_in : GoodIn wsX6_save wsX6_in := goodIn_r _ [8] (by decide +kernel) (by decide +kernel)
set_option maxRecDepth 20000 in
theorem gX6_save_X6_in : GoodIn wsX6_save (va_wsS RX6 114 yX6_in wsX6_in) := goodIn_app (goodIn_of _ (by decide +kernel)) ggX6_save_X6_in
set_option maxRecDepth 20000 in
theorem ggX6_save_X6_running : GoodIn wsX6_save wsX6_running := goodIn_r _ [12, 3, 13, 14, 15, 7, 16, 17, 18, 19, 20, 21, 22, 23, 24, 25, 26, 27, 28, 29, 30, 31, 32, 33, 34, 35, 36, 37, 38, 39, 40, 41, 42, 43, 44, 45, 46, 47, 48, 49, 50, 51, 52, 53, 54, 55, 56] (by decide +kernel) (by decide +kernel)
set_option maxRecDepth 20000 in
theorem gX6_save_X6_running : GoodIn wsX6_save (wsV RX6 141 RX6 yX6_running wsX6_running) := goodIn_app (goodIn_of _ (by decide +kernel)) ggX6_save_X6_running
theorem dX6_save_0 : decode cX6_save 0 = .ok (.aload_n 0, 1) := by decide +kernel
theorem dX6_save_1 : decode cX6_save 1 = .ok (.iconst 0, 1) := by decide +kernel
theorem dX6_save_2 : decode cX6_save 2 = .ok (.putfield 57, 3) := by decide +kernel
theorem dX6_save_5 : decode cX6_save 5 = .ok (.iload_n 1, 1) := by decide +kernel
theorem dX6_save_6 : decode cX6_save 6 = .ok (.iconst 0, 1) := by decide +kernel
theorem dX6_save_7 : decode cX6_save 7 = .ok (.iconst 1, 1) := by decide +kernel
theorem dX6_save_8 : decode cX6_save 8 = .ok (.invokestatic 114, 3) := by decide +kernel
theorem dX6_save_11 : decode cX6_save 11 = .ok (.ifCond .ne 5, 3) := by decide +kernel
theorem dX6_save_14 : decode cX6_save 14 = .ok (.iconst (-1), 1) := by decide +kernel
theorem dX6_save_15 : decode cX6_save 15 = .ok (.ireturn, 1) := by decide +kernel
theorem dX6_save_16 : decode cX6_save 16 = .ok (.iconst 0, 1) := by decide +kernel
theorem dX6_save_17 : decode cX6_save 17 = .ok (.istore_n 2, 1) := by decide +kernel
theorem dX6_save_18 : decode cX6_save 18 = .ok (.iload_n 2, 1) := by decide +kernel
theorem dX6_save_19 : decode cX6_save 19 = .ok (.bipush 38, 2) := by decide +kernel
theorem dX6_save_21 : decode cX6_save 21 = .ok (.if_icmp .ge 26, 3) := by decide +kernel
theorem dX6_save_24 : decode cX6_save 24 = .ok (.aload_n 0, 1) := by decide +kernel
theorem dX6_save_25 : decode cX6_save 25 = .ok (.getfield 16, 3) := by decide +kernel
theorem dX6_save_28 : decode cX6_save 28 = .ok (.bipush 38, 2) := by decide +kernel
theorem dX6_save_30 : decode cX6_save 30 = .ok (.iload_n 1, 1) := by decide +kernel
theorem dX6_save_31 : decode cX6_save 31 = .ok (.imul, 1) := by decide +kernel
theorem dX6_save_32 : decode cX6_save 32 = .ok (.iload_n 2, 1) := by decide +kernel
theorem dX6_save_33 : decode cX6_save 33 = .ok (.iadd, 1) := by decide +kernel
theorem dX6_save_34 : decode cX6_save 34 = .ok (.aload_n 0, 1) := by decide +kernel
theorem dX6_save_35 : decode cX6_save 35 = .ok (.getfield 7, 3) := by decide +kernel
theorem dX6_save_38 : decode cX6_save 38 = .ok (.iload_n 2, 1) := by decide +kernel
theorem dX6_save_39 : decode cX6_save 39 = .ok (.iaload, 1) := by decide +kernel
theorem dX6_save_40 : decode cX6_save 40 = .ok (.iastore, 1) := by decide +kernel
theorem dX6_save_41 : decode cX6_save 41 = .ok (.iinc 2 1, 3) := by decide +kernel
theorem dX6_save_44 : decode cX6_save 44 = .ok (.goto (-26), 3) := by decide +kernel
theorem dX6_save_47 : decode cX6_save 47 = .ok (.aload_n 0, 1) := by decide +kernel
theorem dX6_save_48 : decode cX6_save 48 = .ok (.getfield 19, 3) := by decide +kernel
theorem dX6_save_51 : decode cX6_save 51 = .ok (.iload_n 1, 1) := by decide +kernel
theorem dX6_save_52 : decode cX6_save 52 = .ok (.iconst 1, 1) := by decide +kernel
theorem dX6_save_53 : decode cX6_save 53 = .ok (.bastore, 1) := by decide +kernel
theorem dX6_save_54 : decode cX6_save 54 = .ok (.aload_n 0, 1) := by decide +kernel
theorem dX6_save_55 : decode cX6_save 55 = .ok (.invokevirtual 141, 3) := by decide +kernel
theorem dX6_save_58 : decode cX6_save 58 = .ok (.ireturn, 1) := by decide +kernel
set_option maxRecDepth 20000 in
theorem ggX6_restore_X6_in : GoodIn wsX6_restore wsX6_in := goodIn_r _ [10] (by decide +kernel) (by decide +kernel)
set_option maxRecDepth 20000 in
theorem gX6_restore_X6_in : GoodIn wsX6_restore (va_wsS RX6 114 yX6_in wsX6_in) := goodIn_app (goodIn_of _ (by decide +kernel)) ggX6_restore_X6_in
set_option maxRecDepth 20000 in
theorem ggX6_restore_X6_running : GoodIn wsX6_restore wsX6_running := goodIn_r _ [14, 3, 15, 16, 17, 9, 18, 19, 20, 21, 22, 23, 24, 25, 26, 27, 28, 29, 30, 31, 32, 33, 34, 35, 36, 37, 38, 39, 40, 41, 42, 43, 44, 45, 46, 47, 48, 49, 50, 51, 52, 53, 54, 55, 56, 57, 58] (by decide +kernel) (by decide +kernel)
set_option maxRecDepth 20000 in
theorem gX6_restore_X6_running : GoodIn wsX6_restore (wsV RX6 141 RX6 yX6_running wsX6_running) := goodIn_app (goodIn_of _ (by decide +kernel)) ggX6_restore_X6_running
theorem dX6_restore_0 : decode cX6_restore 0 = .ok (.aload_n 0, 1) := by decide +kernel
theorem dX6_restore_1 : decode cX6_restore 1 = .ok (.iconst 0, 1) := by decide +kernel
theorem dX6_restore_2 : decode cX6_restore 2 = .ok (.putfield 57, 3) := by decide +kernel
theorem dX6_restore_5 : decode cX6_restore 5 = .ok (.iload_n 1, 1) := by decide +kernel
theorem dX6_restore_6 : decode cX6_restore 6 = .ok (.iconst 0, 1) := by decide +kernel
theorem dX6_restore_7 : decode cX6_restore 7 = .ok (.iconst 1, 1) := by decide +kernel
theorem dX6_restore_8 : decode cX6_restore 8 = .ok (.invokestatic 114, 3) := by decide +kernel
theorem dX6_restore_11 : decode cX6_restore 11 = .ok (.ifCond .ne 5, 3) := by decide +kernel
theorem dX6_restore_14 : decode cX6_restore 14 = .ok (.iconst (-1), 1) := by decide +kernel
theorem dX6_restore_15 : decode cX6_restore 15 = .ok (.ireturn, 1) := by decide +kernel
theorem dX6_restore_16 : decode cX6_restore 16 = .ok (.aload_n 0, 1) := by decide +kernel
theorem dX6_restore_17 : decode cX6_restore 17 = .ok (.getfield 19, 3) := by decide +kernel
theorem dX6_restore_20 : decode cX6_restore 20 = .ok (.iload_n 1, 1) := by decide +kernel
theorem dX6_restore_21 : decode cX6_restore 21 = .ok (.baload, 1) := by decide +kernel
theorem dX6_restore_22 : decode cX6_restore 22 = .ok (.ifCond .ne 6, 3) := by decide +kernel
theorem dX6_restore_25 : decode cX6_restore 25 = .ok (.bipush (-2), 2) := by decide +kernel
theorem dX6_restore_27 : decode cX6_restore 27 = .ok (.ireturn, 1) := by decide +kernel
theorem dX6_restore_28 : decode cX6_restore 28 = .ok (.iconst 0, 1) := by decide +kernel
theorem dX6_restore_29 : decode cX6_restore 29 = .ok (.istore_n 2, 1) := by decide +kernel
theorem dX6_restore_30 : decode cX6_restore 30 = .ok (.iload_n 2, 1) := by decide +kernel
theorem dX6_restore_31 : decode cX6_restore 31 = .ok (.bipush 38, 2) := by decide +kernel
theorem dX6_restore_33 : decode cX6_restore 33 = .ok (.if_icmp .ge 26, 3) := by decide +kernel
theorem dX6_restore_36 : decode cX6_restore 36 = .ok (.aload_n 0, 1) := by decide +kernel
theorem dX6_restore_37 : decode cX6_restore 37 = .ok (.getfield 7, 3) := by decide +kernel
theorem dX6_restore_40 : decode cX6_restore 40 = .ok (.iload_n 2, 1) := by decide +kernel
theorem dX6_restore_41 : decode cX6_restore 41 = .ok (.aload_n 0, 1) := by decide +kernel
theorem dX6_restore_42 : decode cX6_restore 42 = .ok (.getfield 16, 3) := by decide +kernel
theorem dX6_restore_45 : decode cX6_restore 45 = .ok (.bipush 38, 2) := by decide +kernel
theorem dX6_restore_47 : decode cX6_restore 47 = .ok (.iload_n 1, 1) := by decide +kernel
theorem dX6_restore_48 : decode cX6_restore 48 = .ok (.imul, 1) := by decide +kernel
theorem dX6_restore_49 : decode cX6_restore 49 = .ok (.iload_n 2, 1) := by decide +kernel
theorem dX6_restore_50 : decode cX6_restore 50 = .ok (.iadd, 1) := by decide +kernel
theorem dX6_restore_51 : decode cX6_restore 51 = .ok (.iaload, 1) := by decide +kernel
theorem dX6_restore_52 : decode cX6_restore 52 = .ok (.iastore, 1) := by decide +kernel
theorem dX6_restore_53 : decode cX6_restore 53 = .ok (.iinc 2 1, 3) := by decide +kernel
theorem dX6_restore_56 : decode cX6_restore 56 = .ok (.goto (-26), 3) := by decide +kernel
theorem dX6_restore_59 : decode cX6_restore 59 = .ok (.aload_n 0, 1) := by decide +kernel
theorem dX6_restore_60 : decode cX6_restore 60 = .ok (.iconst 0, 1) := by decide +kernel
theorem dX6_restore_61 : decode cX6_restore 61 = .ok (.putfield 108, 3) := by decide +kernel
theorem dX6_restore_64 : decode cX6_restore 64 = .ok (.aload_n 0, 1) := by decide +kernel
theorem dX6_restore_65 : decode cX6_restore 65 = .ok (.iconst 0, 1) := by decide +kernel
theorem dX6_restore_66 : decode cX6_restore 66 = .ok (.putfield 111, 3) := by decide +kernel
theorem dX6_restore_69 : decode cX6_restore 69 = .ok (.aload_n 0, 1) := by decide +kernel
theorem dX6_restore_70 : decode cX6_restore 70 = .ok (.invokevirtual 141, 3) := by decide +kernel
theorem dX6_restore_73 : decode cX6_restore 73 = .ok (.ireturn, 1) := by decide +kernel
theorem dJ13_bitCount_95d88_0 : decode cJ13_bitCount_95d88 0 = .ok (.lload_n 0, 1) := by decide +kernel
theorem dJ13_bitCount_95d88_1 : decode cJ13_bitCount_95d88 1 = .ok (.lload_n 0, 1) := by decide +kernel
theorem dJ13_bitCount_95d88_2 : decode cJ13_bitCount_95d88 2 = .ok (.iconst 1, 1) := by decide +kernel
theorem dJ13_bitCount_95d88_3 : decode cJ13_bitCount_95d88 3 = .ok (.lushr, 1) := by decide +kernel
theorem dJ13_bitCount_95d88_4 : decode cJ13_bitCount_95d88 4 = .ok (.ldc2_w 314, 3) := by decide +kernel
theorem dJ13_bitCount_95d88_7 : decode cJ13_bitCount_95d88 7 = .ok (.land, 1) := by decide +kernel
theorem dJ13_bitCount_95d88_8 : decode cJ13_bitCount_95d88 8 = .ok (.lsub, 1) := by decide +kernel
theorem dJ13_bitCount_95d88_9 : decode cJ13_bitCount_95d88 9 = .ok (.lstore_n 0, 1) := by decide +kernel
theorem dJ13_bitCount_95d88_10 : decode cJ13_bitCount_95d88 10 = .ok (.lload_n 0, 1) := by decide +kernel
theorem dJ13_bitCount_95d88_11 : decode cJ13_bitCount_95d88 11 = .ok (.ldc2_w 316, 3) := by decide +kernel
theorem dJ13_bitCount_95d88_14 : decode cJ13_bitCount_95d88 14 = .ok (.land, 1) := by decide +kernel
theorem dJ13_bitCount_95d88_15 : decode cJ13_bitCount_95d88 15 = .ok (.lload_n 0, 1) := by decide +kernel
theorem dJ13_bitCount_95d88_16 : decode cJ13_bitCount_95d88 16 = .ok (.iconst 2, 1) := by decide +kernel
theorem dJ13_bitCount_95d88_17 : decode cJ13_bitCount_95d88 17 = .ok (.lushr, 1) := by decide +kernel
theorem dJ13_bitCount_95d88_18 : decode cJ13_bitCount_95d88 18 = .ok (.ldc2_w 316, 3) := by decide +kernel
theorem dJ13_bitCount_95d88_21 : decode cJ13_bitCount_95d88 21 = .ok (.land, 1) := by decide +kernel
theorem dJ13_bitCount_95d88_22 : decode cJ13_bitCount_95d88 22 = .ok (.ladd, 1) := by decide +kernel
theorem dJ13_bitCount_95d88_23 : decode cJ13_bitCount_95d88 23 = .ok (.lstore_n 0, 1) := by decide +kernel
theorem dJ13_bitCount_95d88_24 : decode cJ13_bitCount_95d88 24 = .ok (.lload_n 0, 1) := by decide +kernel
theorem dJ13_bitCount_95d88_25 : decode cJ13_bitCount_95d88 25 = .ok (.lload_n 0, 1) := by decide +kernel
theorem dJ13_bitCount_95d88_26 : decode cJ13_bitCount_95d88 26 = .ok (.iconst 4, 1) := by decide +kernel
theorem dJ13_bitCount_95d88_27 : decode cJ13_bitCount_95d88 27 = .ok (.lushr, 1) := by decide +kernel
theorem dJ13_bitCount_95d88_28 : decode cJ13_bitCount_95d88 28 = .ok (.ladd, 1) := by decide +kernel
theorem dJ13_bitCount_95d88_29 : decode cJ13_bitCount_95d88 29 = .ok (.ldc2_w 318, 3) := by decide +kernel
theorem dJ13_bitCount_95d88_32 : decode cJ13_bitCount_95d88 32 = .ok (.land, 1) := by decide +kernel
theorem dJ13_bitCount_95d88_33 : decode cJ13_bitCount_95d88 33 = .ok (.lstore_n 0, 1) := by decide +kernel
theorem dJ13_bitCount_95d88_34 : decode cJ13_bitCount_95d88 34 = .ok (.lload_n 0, 1) := by decide +kernel
theorem dJ13_bitCount_95d88_35 : decode cJ13_bitCount_95d88 35 = .ok (.lload_n 0, 1) := by decide +kernel
theorem dJ13_bitCount_95d88_36 : decode cJ13_bitCount_95d88 36 = .ok (.bipush 8, 2) := by decide +kernel
theorem dJ13_bitCount_95d88_38 : decode cJ13_bitCount_95d88 38 = .ok (.lushr, 1) := by decide +kernel
theorem dJ13_bitCount_95d88_39 : decode cJ13_bitCount_95d88 39 = .ok (.ladd, 1) := by decide +kernel
theorem dJ13_bitCount_95d88_40 : decode cJ13_bitCount_95d88 40 = .ok (.lstore_n 0, 1) := by decide +kernel
theorem dJ13_bitCount_95d88_41 : decode cJ13_bitCount_95d88 41 = .ok (.lload_n 0, 1) := by decide +kernel
theorem dJ13_bitCount_95d88_42 : decode cJ13_bitCount_95d88 42 = .ok (.lload_n 0, 1) := by decide +kernel
theorem dJ13_bitCount_95d88_43 : decode cJ13_bitCount_95d88 43 = .ok (.bipush 16, 2) := by decide +kernel
theorem dJ13_bitCount_95d88_45 : decode cJ13_bitCount_95d88 45 = .ok (.lushr, 1) := by decide +kernel
theorem dJ13_bitCount_95d88_46 : decode cJ13_bitCount_95d88 46 = .ok (.ladd, 1) := by decide +kernel
theorem dJ13_bitCount_95d88_47 : decode cJ13_bitCount_95d88 47 = .ok (.lstore_n 0, 1) := by decide +kernel
theorem dJ13_bitCount_95d88_48 : decode cJ13_bitCount_95d88 48 = .ok (.lload_n 0, 1) := by decide +kernel
theorem dJ13_bitCount_95d88_49 : decode cJ13_bitCount_95d88 49 = .ok (.lload_n 0, 1) := by decide +kernel
theorem dJ13_bitCount_95d88_50 : decode cJ13_bitCount_95d88 50 = .ok (.bipush 32, 2) := by decide +kernel
theorem dJ13_bitCount_95d88_52 : decode cJ13_bitCount_95d88 52 = .ok (.lushr, 1) := by decide +kernel
theorem dJ13_bitCount_95d88_53 : decode cJ13_bitCount_95d88 53 = .ok (.ladd, 1) := by decide +kernel
theorem dJ13_bitCount_95d88_54 : decode cJ13_bitCount_95d88 54 = .ok (.lstore_n 0, 1) := by decide +kernel
theorem dJ13_bitCount_95d88_55 : decode cJ13_bitCount_95d88 55 = .ok (.lload_n 0, 1) := by decide +kernel
theorem dJ13_bitCount_95d88_56 : decode cJ13_bitCount_95d88 56 = .ok (.l2i, 1) := by decide +kernel
theorem dJ13_bitCount_95d88_57 : decode cJ13_bitCount_95d88 57 = .ok (.bipush 127, 2) := by decide +kernel
theorem dJ13_bitCount_95d88_59 : decode cJ13_bitCount_95d88 59 = .ok (.iand, 1) := by decide +kernel
theorem dJ13_bitCount_95d88_60 : decode cJ13_bitCount_95d88 60 = .ok (.ireturn, 1) := by decide +kernel
theorem dJ9_max_7cf53_0 : decode cJ9_max_7cf53 0 = .ok (.iload_n 0, 1) := by decide +kernel
theorem dJ9_max_7cf53_1 : decode cJ9_max_7cf53 1 = .ok (.iload_n 1, 1) := by decide +kernel
theorem dJ9_max_7cf53_2 : decode cJ9_max_7cf53 2 = .ok (.if_icmp .lt 7, 3) := by decide +kernel
theorem dJ9_max_7cf53_5 : decode cJ9_max_7cf53 5 = .ok (.iload_n 0, 1) := by decide +kernel
theorem dJ9_max_7cf53_6 : decode cJ9_max_7cf53 6 = .ok (.goto 4, 3) := by decide +kernel
theorem dJ9_max_7cf53_9 : decode cJ9_max_7cf53 9 = .ok (.iload_n 1, 1) := by decide +kernel
theorem dJ9_max_7cf53_10 : decode cJ9_max_7cf53 10 = .ok (.ireturn, 1) := by decide +kernel
theorem dJ7_fill_d0a16_0 : decode cJ7_fill_d0a16 0 = .ok (.iconst 0, 1) := by decide +kernel
theorem dJ7_fill_d0a16_1 : decode cJ7_fill_d0a16 1 = .ok (.istore_n 3, 1) := by decide +kernel
theorem dJ7_fill_d0a16_2 : decode cJ7_fill_d0a16 2 = .ok (.aload_n 0, 1) := by decide +kernel
theorem dJ7_fill_d0a16_3 : decode cJ7_fill_d0a16 3 = .ok (.arraylength, 1) := by decide +kernel
theorem dJ7_fill_d0a16_4 : decode cJ7_fill_d0a16 4 = .ok (.istore 4, 2) := by decide +kernel
theorem dJ7_fill_d0a16_6 : decode cJ7_fill_d0a16 6 = .ok (.iload_n 3, 1) := by decide +kernel
theorem dJ7_fill_d0a16_7 : decode cJ7_fill_d0a16 7 = .ok (.iload 4, 2) := by decide +kernel
theorem dJ7_fill_d0a16_9 : decode cJ7_fill_d0a16 9 = .ok (.if_icmp .ge 13, 3) := by decide +kernel
theorem dJ7_fill_d0a16_12 : decode cJ7_fill_d0a16 12 = .ok (.aload_n 0, 1) := by decide +kernel
theorem dJ7_fill_d0a16_13 : decode cJ7_fill_d0a16 13 = .ok (.iload_n 3, 1) := by decide +kernel
theorem dJ7_fill_d0a16_14 : decode cJ7_fill_d0a16 14 = .ok (.lload_n 1, 1) := by decide +kernel
theorem dJ7_fill_d0a16_15 : decode cJ7_fill_d0a16 15 = .ok (.lastore, 1) := by decide +kernel
theorem dJ7_fill_d0a16_16 : decode cJ7_fill_d0a16 16 = .ok (.iinc 3 1, 3) := by decide +kernel
theorem dJ7_fill_d0a16_19 : decode cJ7_fill_d0a16 19 = .ok (.goto (-13), 3) := by decide +kernel
theorem dJ7_fill_d0a16_22 : decode cJ7_fill_d0a16 22 = .ok (.return_, 1) := by decide +kernel
theorem dJ7_fill_53178_0 : decode cJ7_fill_53178 0 = .ok (.iconst 0, 1) := by decide +kernel
theorem dJ7_fill_53178_1 : decode cJ7_fill_53178 1 = .ok (.istore_n 2, 1) := by decide +kernel
theorem dJ7_fill_53178_2 : decode cJ7_fill_53178 2 = .ok (.aload_n 0, 1) := by decide +kernel
theorem dJ7_fill_53178_3 : decode cJ7_fill_53178 3 = .ok (.arraylength, 1) := by decide +kernel
theorem dJ7_fill_53178_4 : decode cJ7_fill_53178 4 = .ok (.istore_n 3, 1) := by decide +kernel
theorem dJ7_fill_53178_5 : decode cJ7_fill_53178 5 = .ok (.iload_n 2, 1) := by decide +kernel
theorem dJ7_fill_53178_6 : decode cJ7_fill_53178 6 = .ok (.iload_n 3, 1) := by decide +kernel
theorem dJ7_fill_53178_7 : decode cJ7_fill_53178 7 = .ok (.if_icmp .ge 13, 3) := by decide +kernel
theorem dJ7_fill_53178_10 : decode cJ7_fill_53178 10 = .ok (.aload_n 0, 1) := by decide +kernel
theorem dJ7_fill_53178_11 : decode cJ7_fill_53178 11 = .ok (.iload_n 2, 1) := by decide +kernel
theorem dJ7_fill_53178_12 : decode cJ7_fill_53178 12 = .ok (.iload_n 1, 1) := by decide +kernel
theorem dJ7_fill_53178_13 : decode cJ7_fill_53178 13 = .ok (.iastore, 1) := by decide +kernel
theorem dJ7_fill_53178_14 : decode cJ7_fill_53178 14 = .ok (.iinc 2 1, 3) := by decide +kernel
theorem dJ7_fill_53178_17 : decode cJ7_fill_53178 17 = .ok (.goto (-12), 3) := by decide +kernel
theorem dJ7_fill_53178_20 : decode cJ7_fill_53178 20 = .ok (.return_, 1) := by decide +kernel
