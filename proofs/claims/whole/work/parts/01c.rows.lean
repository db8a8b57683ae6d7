theorem dX0_statusIn_0 : decode cX0_statusIn 0 = .ok (.lload_n 0, 1) := by decide +kernel
theorem dX0_statusIn_1 : decode cX0_statusIn 1 = .ok (.bipush 8, 2) := by decide +kernel
theorem dX0_statusIn_3 : decode cX0_statusIn 3 = .ok (.iload_n 2, 1) := by decide +kernel
theorem dX0_statusIn_4 : decode cX0_statusIn 4 = .ok (.imul, 1) := by decide +kernel
theorem dX0_statusIn_5 : decode cX0_statusIn 5 = .ok (.lushr, 1) := by decide +kernel
theorem dX0_statusIn_6 : decode cX0_statusIn 6 = .ok (.l2i, 1) := by decide +kernel
theorem dX0_statusIn_7 : decode cX0_statusIn 7 = .ok (.iconst 3, 1) := by decide +kernel
theorem dX0_statusIn_8 : decode cX0_statusIn 8 = .ok (.iand, 1) := by decide +kernel
theorem dX0_statusIn_9 : decode cX0_statusIn 9 = .ok (.ireturn, 1) := by decide +kernel
theorem dX0_phaseIn_0 : decode cX0_phaseIn 0 = .ok (.lload_n 0, 1) := by decide +kernel
theorem dX0_phaseIn_1 : decode cX0_phaseIn 1 = .ok (.bipush 8, 2) := by decide +kernel
theorem dX0_phaseIn_3 : decode cX0_phaseIn 3 = .ok (.iload_n 2, 1) := by decide +kernel
theorem dX0_phaseIn_4 : decode cX0_phaseIn 4 = .ok (.imul, 1) := by decide +kernel
theorem dX0_phaseIn_5 : decode cX0_phaseIn 5 = .ok (.iconst 2, 1) := by decide +kernel
theorem dX0_phaseIn_6 : decode cX0_phaseIn 6 = .ok (.iadd, 1) := by decide +kernel
theorem dX0_phaseIn_7 : decode cX0_phaseIn 7 = .ok (.lushr, 1) := by decide +kernel
theorem dX0_phaseIn_8 : decode cX0_phaseIn 8 = .ok (.l2i, 1) := by decide +kernel
theorem dX0_phaseIn_9 : decode cX0_phaseIn 9 = .ok (.iconst 3, 1) := by decide +kernel
theorem dX0_phaseIn_10 : decode cX0_phaseIn 10 = .ok (.iand, 1) := by decide +kernel
theorem dX0_phaseIn_11 : decode cX0_phaseIn 11 = .ok (.ireturn, 1) := by decide +kernel
theorem dX0_splitterIn_0 : decode cX0_splitterIn 0 = .ok (.lload_n 0, 1) := by decide +kernel
theorem dX0_splitterIn_1 : decode cX0_splitterIn 1 = .ok (.bipush 8, 2) := by decide +kernel
theorem dX0_splitterIn_3 : decode cX0_splitterIn 3 = .ok (.iload_n 2, 1) := by decide +kernel
theorem dX0_splitterIn_4 : decode cX0_splitterIn 4 = .ok (.imul, 1) := by decide +kernel
theorem dX0_splitterIn_5 : decode cX0_splitterIn 5 = .ok (.iconst 4, 1) := by decide +kernel
theorem dX0_splitterIn_6 : decode cX0_splitterIn 6 = .ok (.iadd, 1) := by decide +kernel
theorem dX0_splitterIn_7 : decode cX0_splitterIn 7 = .ok (.lushr, 1) := by decide +kernel
theorem dX0_splitterIn_8 : decode cX0_splitterIn 8 = .ok (.l2i, 1) := by decide +kernel
theorem dX0_splitterIn_9 : decode cX0_splitterIn 9 = .ok (.bipush 15, 2) := by decide +kernel
theorem dX0_splitterIn_11 : decode cX0_splitterIn 11 = .ok (.iand, 1) := by decide +kernel
theorem dX0_splitterIn_12 : decode cX0_splitterIn 12 = .ok (.ireturn, 1) := by decide +kernel
set_option maxRecDepth 20000 in
theorem ggX0_nameIn_X0_statusIn : GoodIn wsX0_nameIn wsX0_statusIn := goodIn_r _ [4] (by decide +kernel) (by decide +kernel)
set_option maxRecDepth 20000 in
theorem gX0_nameIn_X0_statusIn : GoodIn wsX0_nameIn (va_wsS RX0 11 yX0_statusIn wsX0_statusIn) := goodIn_app (goodIn_of _ (by decide +kernel)) ggX0_nameIn_X0_statusIn
set_option maxRecDepth 20000 in
theorem ggX0_nameIn_X0_splitterIn : GoodIn wsX0_nameIn wsX0_splitterIn := goodIn_r _ [7] (by decide +kernel) (by decide +kernel)
set_option maxRecDepth 20000 in
theorem gX0_nameIn_X0_splitterIn : GoodIn wsX0_nameIn (va_wsS RX0 15 yX0_splitterIn wsX0_splitterIn) := goodIn_app (goodIn_of _ (by decide +kernel)) ggX0_nameIn_X0_splitterIn
theorem dX0_nameIn_0 : decode cX0_nameIn 0 = .ok (.lload_n 0, 1) := by decide +kernel
theorem dX0_nameIn_1 : decode cX0_nameIn 1 = .ok (.iload_n 2, 1) := by decide +kernel
theorem dX0_nameIn_2 : decode cX0_nameIn 2 = .ok (.invokestatic 11, 3) := by decide +kernel
theorem dX0_nameIn_5 : decode cX0_nameIn 5 = .ok (.iconst 1, 1) := by decide +kernel
theorem dX0_nameIn_6 : decode cX0_nameIn 6 = .ok (.if_icmp .ne 11, 3) := by decide +kernel
theorem dX0_nameIn_9 : decode cX0_nameIn 9 = .ok (.lload_n 0, 1) := by decide +kernel
theorem dX0_nameIn_10 : decode cX0_nameIn 10 = .ok (.iload_n 2, 1) := by decide +kernel
theorem dX0_nameIn_11 : decode cX0_nameIn 11 = .ok (.invokestatic 15, 3) := by decide +kernel
theorem dX0_nameIn_14 : decode cX0_nameIn 14 = .ok (.goto 5, 3) := by decide +kernel
theorem dX0_nameIn_17 : decode cX0_nameIn 17 = .ok (.bipush (-9), 2) := by decide +kernel
theorem dX0_nameIn_19 : decode cX0_nameIn 19 = .ok (.ireturn, 1) := by decide +kernel
set_option maxRecDepth 20000 in
theorem ggX0_ownerIn_X0_ownerShift : GoodIn wsX0_ownerIn wsX0_ownerShift := goodIn_r _ [4] (by decide +kernel) (by decide +kernel)
set_option maxRecDepth 20000 in
theorem gX0_ownerIn_X0_ownerShift : GoodIn wsX0_ownerIn (va_wsS RX0 18 yX0_ownerShift wsX0_ownerShift) := goodIn_app (goodIn_of _ (by decide +kernel)) ggX0_ownerIn_X0_ownerShift
theorem dX0_ownerIn_0 : decode cX0_ownerIn 0 = .ok (.lload_n 0, 1) := by decide +kernel
theorem dX0_ownerIn_1 : decode cX0_ownerIn 1 = .ok (.iload_n 2, 1) := by decide +kernel
theorem dX0_ownerIn_2 : decode cX0_ownerIn 2 = .ok (.invokestatic 18, 3) := by decide +kernel
theorem dX0_ownerIn_5 : decode cX0_ownerIn 5 = .ok (.lushr, 1) := by decide +kernel
theorem dX0_ownerIn_6 : decode cX0_ownerIn 6 = .ok (.l2i, 1) := by decide +kernel
theorem dX0_ownerIn_7 : decode cX0_ownerIn 7 = .ok (.iconst 3, 1) := by decide +kernel
theorem dX0_ownerIn_8 : decode cX0_ownerIn 8 = .ok (.iand, 1) := by decide +kernel
theorem dX0_ownerIn_9 : decode cX0_ownerIn 9 = .ok (.istore_n 3, 1) := by decide +kernel
theorem dX0_ownerIn_10 : decode cX0_ownerIn 10 = .ok (.iload_n 3, 1) := by decide +kernel
theorem dX0_ownerIn_11 : decode cX0_ownerIn 11 = .ok (.ifCond .ne 8, 3) := by decide +kernel
theorem dX0_ownerIn_14 : decode cX0_ownerIn 14 = .ok (.bipush (-9), 2) := by decide +kernel
theorem dX0_ownerIn_16 : decode cX0_ownerIn 16 = .ok (.goto 6, 3) := by decide +kernel
theorem dX0_ownerIn_19 : decode cX0_ownerIn 19 = .ok (.iload_n 3, 1) := by decide +kernel
theorem dX0_ownerIn_20 : decode cX0_ownerIn 20 = .ok (.iconst 1, 1) := by decide +kernel
theorem dX0_ownerIn_21 : decode cX0_ownerIn 21 = .ok (.isub, 1) := by decide +kernel
theorem dX0_ownerIn_22 : decode cX0_ownerIn 22 = .ok (.ireturn, 1) := by decide +kernel
set_option maxRecDepth 20000 in
theorem ggX0_doorIn_X0_ownerShift : GoodIn wsX0_doorIn wsX0_ownerShift := goodIn_r _ [4] (by decide +kernel) (by decide +kernel)
set_option maxRecDepth 20000 in
theorem gX0_doorIn_X0_ownerShift : GoodIn wsX0_doorIn (va_wsS RX0 18 yX0_ownerShift wsX0_ownerShift) := goodIn_app (goodIn_of _ (by decide +kernel)) ggX0_doorIn_X0_ownerShift
theorem dX0_doorIn_0 : decode cX0_doorIn 0 = .ok (.lload_n 0, 1) := by decide +kernel
theorem dX0_doorIn_1 : decode cX0_doorIn 1 = .ok (.iload_n 2, 1) := by decide +kernel
theorem dX0_doorIn_2 : decode cX0_doorIn 2 = .ok (.invokestatic 18, 3) := by decide +kernel
theorem dX0_doorIn_5 : decode cX0_doorIn 5 = .ok (.iconst 2, 1) := by decide +kernel
theorem dX0_doorIn_6 : decode cX0_doorIn 6 = .ok (.iadd, 1) := by decide +kernel
theorem dX0_doorIn_7 : decode cX0_doorIn 7 = .ok (.lushr, 1) := by decide +kernel
theorem dX0_doorIn_8 : decode cX0_doorIn 8 = .ok (.l2i, 1) := by decide +kernel
theorem dX0_doorIn_9 : decode cX0_doorIn 9 = .ok (.iconst 1, 1) := by decide +kernel
theorem dX0_doorIn_10 : decode cX0_doorIn 10 = .ok (.iand, 1) := by decide +kernel
theorem dX0_doorIn_11 : decode cX0_doorIn 11 = .ok (.ireturn, 1) := by decide +kernel
theorem dX0_withStatus_0 : decode cX0_withStatus 0 = .ok (.bipush 8, 2) := by decide +kernel
theorem dX0_withStatus_2 : decode cX0_withStatus 2 = .ok (.iload_n 2, 1) := by decide +kernel
theorem dX0_withStatus_3 : decode cX0_withStatus 3 = .ok (.imul, 1) := by decide +kernel
theorem dX0_withStatus_4 : decode cX0_withStatus 4 = .ok (.istore 4, 2) := by decide +kernel
theorem dX0_withStatus_6 : decode cX0_withStatus 6 = .ok (.lload_n 0, 1) := by decide +kernel
theorem dX0_withStatus_7 : decode cX0_withStatus 7 = .ok (.ldc2_w 22, 3) := by decide +kernel
theorem dX0_withStatus_10 : decode cX0_withStatus 10 = .ok (.iload 4, 2) := by decide +kernel
theorem dX0_withStatus_12 : decode cX0_withStatus 12 = .ok (.lshl, 1) := by decide +kernel
theorem dX0_withStatus_13 : decode cX0_withStatus 13 = .ok (.ldc2_w 24, 3) := by decide +kernel
theorem dX0_withStatus_16 : decode cX0_withStatus 16 = .ok (.lxor, 1) := by decide +kernel
theorem dX0_withStatus_17 : decode cX0_withStatus 17 = .ok (.land, 1) := by decide +kernel
theorem dX0_withStatus_18 : decode cX0_withStatus 18 = .ok (.iload_n 3, 1) := by decide +kernel
theorem dX0_withStatus_19 : decode cX0_withStatus 19 = .ok (.i2l, 1) := by decide +kernel
theorem dX0_withStatus_20 : decode cX0_withStatus 20 = .ok (.iload 4, 2) := by decide +kernel
theorem dX0_withStatus_22 : decode cX0_withStatus 22 = .ok (.lshl, 1) := by decide +kernel
theorem dX0_withStatus_23 : decode cX0_withStatus 23 = .ok (.lor, 1) := by decide +kernel
theorem dX0_withStatus_24 : decode cX0_withStatus 24 = .ok (.lreturn, 1) := by decide +kernel
set_option maxRecDepth 20000 in
theorem ggX0_afterStep_X0_splitterIn : GoodIn wsX0_afterStep wsX0_splitterIn := goodIn_r _ [4] (by decide +kernel) (by decide +kernel)
set_option maxRecDepth 20000 in
theorem gX0_afterStep_X0_splitterIn : GoodIn wsX0_afterStep (va_wsS RX0 15 yX0_splitterIn wsX0_splitterIn) := goodIn_app (goodIn_of _ (by decide +kernel)) ggX0_afterStep_X0_splitterIn
set_option maxRecDepth 20000 in
theorem ggX0_afterStep_X0_phaseIn : GoodIn wsX0_afterStep wsX0_phaseIn := goodIn_r _ [7] (by decide +kernel) (by decide +kernel)
set_option maxRecDepth 20000 in
theorem gX0_afterStep_X0_phaseIn : GoodIn wsX0_afterStep (va_wsS RX0 26 yX0_phaseIn wsX0_phaseIn) := goodIn_app (goodIn_of _ (by decide +kernel)) ggX0_afterStep_X0_phaseIn
set_option maxRecDepth 20000 in
theorem ggX0_afterStep_X0_withOwner : GoodIn wsX0_afterStep wsX0_withOwner := goodIn_r _ [10, 11, 12, 13, 14, 3, 15] (by decide +kernel) (by decide +kernel)
set_option maxRecDepth 20000 in
theorem gX0_afterStep_X0_withOwner : GoodIn wsX0_afterStep (va_wsS RX0 29 yX0_withOwner wsX0_withOwner) := goodIn_app (goodIn_of _ (by decide +kernel)) ggX0_afterStep_X0_withOwner
set_option maxRecDepth 20000 in
theorem ggX0_afterStep_X0_withPhase : GoodIn wsX0_afterStep wsX0_withPhase := goodIn_r _ [18, 11, 12] (by decide +kernel) (by decide +kernel)
set_option maxRecDepth 20000 in
theorem gX0_afterStep_X0_withPhase : GoodIn wsX0_afterStep (va_wsS RX0 33 yX0_withPhase wsX0_withPhase) := goodIn_app (goodIn_of _ (by decide +kernel)) ggX0_afterStep_X0_withPhase
set_option maxRecDepth 20000 in
theorem ggX0_afterStep_X0_doorIn : GoodIn wsX0_afterStep wsX0_doorIn := goodIn_r _ [21, 13, 14, 3, 15] (by decide +kernel) (by decide +kernel)
set_option maxRecDepth 20000 in
theorem gX0_afterStep_X0_doorIn : GoodIn wsX0_afterStep (va_wsS RX0 36 yX0_doorIn wsX0_doorIn) := goodIn_app (goodIn_of _ (by decide +kernel)) ggX0_afterStep_X0_doorIn
set_option maxRecDepth 20000 in
theorem ggX0_afterStep_X0_moved : GoodIn wsX0_afterStep wsX0_moved := goodIn_r _ [24, 25, 12, 26, 1, 2, 3, 4, 27, 28, 29] (by decide +kernel) (by decide +kernel)
set_option maxRecDepth 20000 in
theorem gX0_afterStep_X0_moved : GoodIn wsX0_afterStep (va_wsS RX0 39 yX0_moved wsX0_moved) := goodIn_app (goodIn_of _ (by decide +kernel)) ggX0_afterStep_X0_moved
set_option maxRecDepth 20000 in
theorem ggX0_afterStep_X0_ownerIn : GoodIn wsX0_afterStep wsX0_ownerIn := goodIn_r _ [32, 13, 14, 3, 15] (by decide +kernel) (by decide +kernel)
set_option maxRecDepth 20000 in
theorem gX0_afterStep_X0_ownerIn : GoodIn wsX0_afterStep (va_wsS RX0 43 yX0_ownerIn wsX0_ownerIn) := goodIn_app (goodIn_of _ (by decide +kernel)) ggX0_afterStep_X0_ownerIn
set_option maxRecDepth 20000 in
theorem ggX0_afterStep_X0_withDoorClosed : GoodIn wsX0_afterStep wsX0_withDoorClosed := goodIn_r _ [35, 13, 14, 3, 15] (by decide +kernel) (by decide +kernel)
set_option maxRecDepth 20000 in
theorem gX0_afterStep_X0_withDoorClosed : GoodIn wsX0_afterStep (va_wsS RX0 46 yX0_withDoorClosed wsX0_withDoorClosed) := goodIn_app (goodIn_of _ (by decide +kernel)) ggX0_afterStep_X0_withDoorClosed
set_option maxRecDepth 20000 in
theorem ggX0_afterStep_X0_withStatus : GoodIn wsX0_afterStep wsX0_withStatus := goodIn_r _ [38, 11, 12] (by decide +kernel) (by decide +kernel)
set_option maxRecDepth 20000 in
theorem gX0_afterStep_X0_withStatus : GoodIn wsX0_afterStep (va_wsS RX0 50 yX0_withStatus wsX0_withStatus) := goodIn_app (goodIn_of _ (by decide +kernel)) ggX0_afterStep_X0_withStatus
theorem dX0_afterStep_0 : decode cX0_afterStep 0 = .ok (.lload_n 0, 1) := by decide +kernel
theorem dX0_afterStep_1 : decode cX0_afterStep 1 = .ok (.iload_n 2, 1) := by decide +kernel
theorem dX0_afterStep_2 : decode cX0_afterStep 2 = .ok (.invokestatic 15, 3) := by decide +kernel
theorem dX0_afterStep_5 : decode cX0_afterStep 5 = .ok (.istore 5, 2) := by decide +kernel
theorem dX0_afterStep_7 : decode cX0_afterStep 7 = .ok (.lload_n 0, 1) := by decide +kernel
theorem dX0_afterStep_8 : decode cX0_afterStep 8 = .ok (.iload_n 2, 1) := by decide +kernel
theorem dX0_afterStep_9 : decode cX0_afterStep 9 = .ok (.invokestatic 26, 3) := by decide +kernel
theorem dX0_afterStep_12 : decode cX0_afterStep 12 = .ok (.istore 6, 2) := by decide +kernel
theorem dX0_afterStep_14 : decode cX0_afterStep 14 = .ok (.iload 6, 2) := by decide +kernel
theorem dX0_afterStep_16 : decode cX0_afterStep 16 = .ok (.ifCond .ne 30, 3) := by decide +kernel
theorem dX0_afterStep_19 : decode cX0_afterStep 19 = .ok (.lload_n 0, 1) := by decide +kernel
theorem dX0_afterStep_20 : decode cX0_afterStep 20 = .ok (.iload 5, 2) := by decide +kernel
theorem dX0_afterStep_22 : decode cX0_afterStep 22 = .ok (.iload_n 2, 1) := by decide +kernel
theorem dX0_afterStep_23 : decode cX0_afterStep 23 = .ok (.invokestatic 29, 3) := by decide +kernel
theorem dX0_afterStep_26 : decode cX0_afterStep 26 = .ok (.lstore 7, 2) := by decide +kernel
theorem dX0_afterStep_28 : decode cX0_afterStep 28 = .ok (.lload 7, 2) := by decide +kernel
theorem dX0_afterStep_30 : decode cX0_afterStep 30 = .ok (.iload_n 2, 1) := by decide +kernel
theorem dX0_afterStep_31 : decode cX0_afterStep 31 = .ok (.iload 4, 2) := by decide +kernel
theorem dX0_afterStep_33 : decode cX0_afterStep 33 = .ok (.iconst 1, 1) := by decide +kernel
theorem dX0_afterStep_34 : decode cX0_afterStep 34 = .ok (.if_icmp .ne 7, 3) := by decide +kernel
theorem dX0_afterStep_37 : decode cX0_afterStep 37 = .ok (.iconst 2, 1) := by decide +kernel
theorem dX0_afterStep_38 : decode cX0_afterStep 38 = .ok (.goto 4, 3) := by decide +kernel
theorem dX0_afterStep_41 : decode cX0_afterStep 41 = .ok (.iconst 1, 1) := by decide +kernel
theorem dX0_afterStep_42 : decode cX0_afterStep 42 = .ok (.invokestatic 33, 3) := by decide +kernel
theorem dX0_afterStep_45 : decode cX0_afterStep 45 = .ok (.lreturn, 1) := by decide +kernel
theorem dX0_afterStep_46 : decode cX0_afterStep 46 = .ok (.iload 6, 2) := by decide +kernel
theorem dX0_afterStep_48 : decode cX0_afterStep 48 = .ok (.iconst 1, 1) := by decide +kernel
theorem dX0_afterStep_49 : decode cX0_afterStep 49 = .ok (.if_icmp .ne 30, 3) := by decide +kernel
theorem dX0_afterStep_52 : decode cX0_afterStep 52 = .ok (.lload_n 0, 1) := by decide +kernel
theorem dX0_afterStep_53 : decode cX0_afterStep 53 = .ok (.iload 5, 2) := by decide +kernel
theorem dX0_afterStep_55 : decode cX0_afterStep 55 = .ok (.invokestatic 36, 3) := by decide +kernel
theorem dX0_afterStep_58 : decode cX0_afterStep 58 = .ok (.iconst 1, 1) := by decide +kernel
theorem dX0_afterStep_59 : decode cX0_afterStep 59 = .ok (.if_icmp .ne 13, 3) := by decide +kernel
theorem dX0_afterStep_62 : decode cX0_afterStep 62 = .ok (.lload_n 0, 1) := by decide +kernel
theorem dX0_afterStep_63 : decode cX0_afterStep 63 = .ok (.iload_n 2, 1) := by decide +kernel
theorem dX0_afterStep_64 : decode cX0_afterStep 64 = .ok (.iload_n 3, 1) := by decide +kernel
theorem dX0_afterStep_65 : decode cX0_afterStep 65 = .ok (.iconst 0, 1) := by decide +kernel
theorem dX0_afterStep_66 : decode cX0_afterStep 66 = .ok (.invokestatic 39, 3) := by decide +kernel
theorem dX0_afterStep_69 : decode cX0_afterStep 69 = .ok (.goto 9, 3) := by decide +kernel
theorem dX0_afterStep_72 : decode cX0_afterStep 72 = .ok (.lload_n 0, 1) := by decide +kernel
theorem dX0_afterStep_73 : decode cX0_afterStep 73 = .ok (.iload_n 2, 1) := by decide +kernel
theorem dX0_afterStep_74 : decode cX0_afterStep 74 = .ok (.iconst 2, 1) := by decide +kernel
theorem dX0_afterStep_75 : decode cX0_afterStep 75 = .ok (.invokestatic 33, 3) := by decide +kernel
theorem dX0_afterStep_78 : decode cX0_afterStep 78 = .ok (.lreturn, 1) := by decide +kernel
theorem dX0_afterStep_79 : decode cX0_afterStep 79 = .ok (.iload 6, 2) := by decide +kernel
theorem dX0_afterStep_81 : decode cX0_afterStep 81 = .ok (.iload 4, 2) := by decide +kernel
theorem dX0_afterStep_83 : decode cX0_afterStep 83 = .ok (.iconst 2, 1) := by decide +kernel
theorem dX0_afterStep_84 : decode cX0_afterStep 84 = .ok (.if_icmp .ne 7, 3) := by decide +kernel
theorem dX0_afterStep_87 : decode cX0_afterStep 87 = .ok (.iconst 2, 1) := by decide +kernel
theorem dX0_afterStep_88 : decode cX0_afterStep 88 = .ok (.goto 4, 3) := by decide +kernel
theorem dX0_afterStep_91 : decode cX0_afterStep 91 = .ok (.iconst 3, 1) := by decide +kernel
theorem dX0_afterStep_92 : decode cX0_afterStep 92 = .ok (.if_icmp .ne 7, 3) := by decide +kernel
theorem dX0_afterStep_95 : decode cX0_afterStep 95 = .ok (.iconst 1, 1) := by decide +kernel
theorem dX0_afterStep_96 : decode cX0_afterStep 96 = .ok (.goto 4, 3) := by decide +kernel
theorem dX0_afterStep_99 : decode cX0_afterStep 99 = .ok (.iconst 0, 1) := by decide +kernel
theorem dX0_afterStep_100 : decode cX0_afterStep 100 = .ok (.istore 7, 2) := by decide +kernel
theorem dX0_afterStep_102 : decode cX0_afterStep 102 = .ok (.iload 7, 2) := by decide +kernel
theorem dX0_afterStep_104 : decode cX0_afterStep 104 = .ok (.ifCond .eq 21, 3) := by decide +kernel
theorem dX0_afterStep_107 : decode cX0_afterStep 107 = .ok (.lload_n 0, 1) := by decide +kernel
theorem dX0_afterStep_108 : decode cX0_afterStep 108 = .ok (.iload 5, 2) := by decide +kernel
theorem dX0_afterStep_110 : decode cX0_afterStep 110 = .ok (.invokestatic 43, 3) := by decide +kernel
theorem dX0_afterStep_113 : decode cX0_afterStep 113 = .ok (.iload_n 2, 1) := by decide +kernel
theorem dX0_afterStep_114 : decode cX0_afterStep 114 = .ok (.if_icmp .eq 11, 3) := by decide +kernel
theorem dX0_afterStep_117 : decode cX0_afterStep 117 = .ok (.lload_n 0, 1) := by decide +kernel
theorem dX0_afterStep_118 : decode cX0_afterStep 118 = .ok (.iload_n 2, 1) := by decide +kernel
theorem dX0_afterStep_119 : decode cX0_afterStep 119 = .ok (.iload_n 3, 1) := by decide +kernel
theorem dX0_afterStep_120 : decode cX0_afterStep 120 = .ok (.iconst 1, 1) := by decide +kernel
theorem dX0_afterStep_121 : decode cX0_afterStep 121 = .ok (.invokestatic 39, 3) := by decide +kernel
theorem dX0_afterStep_124 : decode cX0_afterStep 124 = .ok (.lreturn, 1) := by decide +kernel
theorem dX0_afterStep_125 : decode cX0_afterStep 125 = .ok (.iload 7, 2) := by decide +kernel
theorem dX0_afterStep_127 : decode cX0_afterStep 127 = .ok (.ifCond .eq 7, 3) := by decide +kernel
theorem dX0_afterStep_130 : decode cX0_afterStep 130 = .ok (.lload_n 0, 1) := by decide +kernel
theorem dX0_afterStep_131 : decode cX0_afterStep 131 = .ok (.goto 9, 3) := by decide +kernel
theorem dX0_afterStep_134 : decode cX0_afterStep 134 = .ok (.lload_n 0, 1) := by decide +kernel
theorem dX0_afterStep_135 : decode cX0_afterStep 135 = .ok (.iload 5, 2) := by decide +kernel
theorem dX0_afterStep_137 : decode cX0_afterStep 137 = .ok (.invokestatic 46, 3) := by decide +kernel
theorem dX0_afterStep_140 : decode cX0_afterStep 140 = .ok (.lstore 8, 2) := by decide +kernel
theorem dX0_afterStep_142 : decode cX0_afterStep 142 = .ok (.iload 6, 2) := by decide +kernel
theorem dX0_afterStep_144 : decode cX0_afterStep 144 = .ok (.iconst 2, 1) := by decide +kernel
theorem dX0_afterStep_145 : decode cX0_afterStep 145 = .ok (.if_icmp .ne 13, 3) := by decide +kernel
theorem dX0_afterStep_148 : decode cX0_afterStep 148 = .ok (.lload 8, 2) := by decide +kernel
theorem dX0_afterStep_150 : decode cX0_afterStep 150 = .ok (.iload_n 2, 1) := by decide +kernel
theorem dX0_afterStep_151 : decode cX0_afterStep 151 = .ok (.iconst 3, 1) := by decide +kernel
theorem dX0_afterStep_152 : decode cX0_afterStep 152 = .ok (.invokestatic 33, 3) := by decide +kernel
theorem dX0_afterStep_155 : decode cX0_afterStep 155 = .ok (.goto 10, 3) := by decide +kernel
theorem dX0_afterStep_158 : decode cX0_afterStep 158 = .ok (.lload 8, 2) := by decide +kernel
theorem dX0_afterStep_160 : decode cX0_afterStep 160 = .ok (.iload_n 2, 1) := by decide +kernel
theorem dX0_afterStep_161 : decode cX0_afterStep 161 = .ok (.iconst 1, 1) := by decide +kernel
theorem dX0_afterStep_162 : decode cX0_afterStep 162 = .ok (.invokestatic 50, 3) := by decide +kernel
theorem dX0_afterStep_165 : decode cX0_afterStep 165 = .ok (.lreturn, 1) := by decide +kernel
theorem dX0_withPhase_0 : decode cX0_withPhase 0 = .ok (.bipush 8, 2) := by decide +kernel
theorem dX0_withPhase_2 : decode cX0_withPhase 2 = .ok (.iload_n 2, 1) := by decide +kernel
theorem dX0_withPhase_3 : decode cX0_withPhase 3 = .ok (.imul, 1) := by decide +kernel
theorem dX0_withPhase_4 : decode cX0_withPhase 4 = .ok (.iconst 2, 1) := by decide +kernel
theorem dX0_withPhase_5 : decode cX0_withPhase 5 = .ok (.iadd, 1) := by decide +kernel
theorem dX0_withPhase_6 : decode cX0_withPhase 6 = .ok (.istore 4, 2) := by decide +kernel
theorem dX0_withPhase_8 : decode cX0_withPhase 8 = .ok (.lload_n 0, 1) := by decide +kernel
theorem dX0_withPhase_9 : decode cX0_withPhase 9 = .ok (.ldc2_w 22, 3) := by decide +kernel
theorem dX0_withPhase_12 : decode cX0_withPhase 12 = .ok (.iload 4, 2) := by decide +kernel
theorem dX0_withPhase_14 : decode cX0_withPhase 14 = .ok (.lshl, 1) := by decide +kernel
theorem dX0_withPhase_15 : decode cX0_withPhase 15 = .ok (.ldc2_w 24, 3) := by decide +kernel
theorem dX0_withPhase_18 : decode cX0_withPhase 18 = .ok (.lxor, 1) := by decide +kernel
theorem dX0_withPhase_19 : decode cX0_withPhase 19 = .ok (.land, 1) := by decide +kernel
theorem dX0_withPhase_20 : decode cX0_withPhase 20 = .ok (.iload_n 3, 1) := by decide +kernel
theorem dX0_withPhase_21 : decode cX0_withPhase 21 = .ok (.i2l, 1) := by decide +kernel
theorem dX0_withPhase_22 : decode cX0_withPhase 22 = .ok (.iload 4, 2) := by decide +kernel
theorem dX0_withPhase_24 : decode cX0_withPhase 24 = .ok (.lshl, 1) := by decide +kernel
theorem dX0_withPhase_25 : decode cX0_withPhase 25 = .ok (.lor, 1) := by decide +kernel
theorem dX0_withPhase_26 : decode cX0_withPhase 26 = .ok (.lreturn, 1) := by decide +kernel
set_option maxRecDepth 20000 in
theorem ggX0_withOwner_X0_ownerShift : GoodIn wsX0_withOwner wsX0_ownerShift := goodIn_r _ [6] (by decide +kernel) (by decide +kernel)
set_option maxRecDepth 20000 in
theorem gX0_withOwner_X0_ownerShift : GoodIn wsX0_withOwner (va_wsS RX0 18 yX0_ownerShift wsX0_ownerShift) := goodIn_app (goodIn_of _ (by decide +kernel)) ggX0_withOwner_X0_ownerShift
theorem dX0_withOwner_0 : decode cX0_withOwner 0 = .ok (.iload_n 2, 1) := by decide +kernel
theorem dX0_withOwner_1 : decode cX0_withOwner 1 = .ok (.invokestatic 18, 3) := by decide +kernel
theorem dX0_withOwner_4 : decode cX0_withOwner 4 = .ok (.istore 4, 2) := by decide +kernel
theorem dX0_withOwner_6 : decode cX0_withOwner 6 = .ok (.lload_n 0, 1) := by decide +kernel
theorem dX0_withOwner_7 : decode cX0_withOwner 7 = .ok (.ldc2_w 22, 3) := by decide +kernel
theorem dX0_withOwner_10 : decode cX0_withOwner 10 = .ok (.iload 4, 2) := by decide +kernel
theorem dX0_withOwner_12 : decode cX0_withOwner 12 = .ok (.lshl, 1) := by decide +kernel
theorem dX0_withOwner_13 : decode cX0_withOwner 13 = .ok (.ldc2_w 24, 3) := by decide +kernel
theorem dX0_withOwner_16 : decode cX0_withOwner 16 = .ok (.lxor, 1) := by decide +kernel
theorem dX0_withOwner_17 : decode cX0_withOwner 17 = .ok (.land, 1) := by decide +kernel
theorem dX0_withOwner_18 : decode cX0_withOwner 18 = .ok (.iload_n 3, 1) := by decide +kernel
theorem dX0_withOwner_19 : decode cX0_withOwner 19 = .ok (.iconst 1, 1) := by decide +kernel
theorem dX0_withOwner_20 : decode cX0_withOwner 20 = .ok (.iadd, 1) := by decide +kernel
theorem dX0_withOwner_21 : decode cX0_withOwner 21 = .ok (.i2l, 1) := by decide +kernel
theorem dX0_withOwner_22 : decode cX0_withOwner 22 = .ok (.iload 4, 2) := by decide +kernel
theorem dX0_withOwner_24 : decode cX0_withOwner 24 = .ok (.lshl, 1) := by decide +kernel
theorem dX0_withOwner_25 : decode cX0_withOwner 25 = .ok (.lor, 1) := by decide +kernel
theorem dX0_withOwner_26 : decode cX0_withOwner 26 = .ok (.lreturn, 1) := by decide +kernel
set_option maxRecDepth 20000 in
theorem ggX0_withDoorClosed_X0_ownerShift : GoodIn wsX0_withDoorClosed wsX0_ownerShift := goodIn_r _ [4] (by decide +kernel) (by decide +kernel)
set_option maxRecDepth 20000 in
theorem gX0_withDoorClosed_X0_ownerShift : GoodIn wsX0_withDoorClosed (va_wsS RX0 18 yX0_ownerShift wsX0_ownerShift) := goodIn_app (goodIn_of _ (by decide +kernel)) ggX0_withDoorClosed_X0_ownerShift
theorem dX0_withDoorClosed_0 : decode cX0_withDoorClosed 0 = .ok (.lload_n 0, 1) := by decide +kernel
theorem dX0_withDoorClosed_1 : decode cX0_withDoorClosed 1 = .ok (.lconst 1, 1) := by decide +kernel
theorem dX0_withDoorClosed_2 : decode cX0_withDoorClosed 2 = .ok (.iload_n 2, 1) := by decide +kernel
theorem dX0_withDoorClosed_3 : decode cX0_withDoorClosed 3 = .ok (.invokestatic 18, 3) := by decide +kernel
theorem dX0_withDoorClosed_6 : decode cX0_withDoorClosed 6 = .ok (.iconst 2, 1) := by decide +kernel
theorem dX0_withDoorClosed_7 : decode cX0_withDoorClosed 7 = .ok (.iadd, 1) := by decide +kernel
theorem dX0_withDoorClosed_8 : decode cX0_withDoorClosed 8 = .ok (.lshl, 1) := by decide +kernel
theorem dX0_withDoorClosed_9 : decode cX0_withDoorClosed 9 = .ok (.lor, 1) := by decide +kernel
theorem dX0_withDoorClosed_10 : decode cX0_withDoorClosed 10 = .ok (.lreturn, 1) := by decide +kernel
set_option maxRecDepth 20000 in
theorem ggX0_moved_X0_splitterIn : GoodIn wsX0_moved wsX0_splitterIn := goodIn_r _ [7] (by decide +kernel) (by decide +kernel)
set_option maxRecDepth 20000 in
theorem gX0_moved_X0_splitterIn : GoodIn wsX0_moved (va_wsS RX0 15 yX0_splitterIn wsX0_splitterIn) := goodIn_app (goodIn_of _ (by decide +kernel)) ggX0_moved_X0_splitterIn
set_option maxRecDepth 20000 in
theorem ggX0_moved_X0_diagonalOf : GoodIn wsX0_moved wsX0_diagonalOf := goodIn_r _ [10] (by decide +kernel) (by decide +kernel)
set_option maxRecDepth 20000 in
theorem gX0_moved_X0_diagonalOf : GoodIn wsX0_moved (va_wsS RX0 55 yX0_diagonalOf wsX0_diagonalOf) := goodIn_app (goodIn_of _ (by decide +kernel)) ggX0_moved_X0_diagonalOf
theorem dX0_moved_0 : decode cX0_moved 0 = .ok (.bipush 8, 2) := by decide +kernel
theorem dX0_moved_2 : decode cX0_moved 2 = .ok (.iload_n 2, 1) := by decide +kernel
theorem dX0_moved_3 : decode cX0_moved 3 = .ok (.imul, 1) := by decide +kernel
theorem dX0_moved_4 : decode cX0_moved 4 = .ok (.istore 5, 2) := by decide +kernel
theorem dX0_moved_6 : decode cX0_moved 6 = .ok (.lload_n 0, 1) := by decide +kernel
theorem dX0_moved_7 : decode cX0_moved 7 = .ok (.ldc2_w 53, 3) := by decide +kernel
theorem dX0_moved_10 : decode cX0_moved 10 = .ok (.iload 5, 2) := by decide +kernel
theorem dX0_moved_12 : decode cX0_moved 12 = .ok (.lshl, 1) := by decide +kernel
theorem dX0_moved_13 : decode cX0_moved 13 = .ok (.ldc2_w 24, 3) := by decide +kernel
theorem dX0_moved_16 : decode cX0_moved 16 = .ok (.lxor, 1) := by decide +kernel
theorem dX0_moved_17 : decode cX0_moved 17 = .ok (.land, 1) := by decide +kernel
theorem dX0_moved_18 : decode cX0_moved 18 = .ok (.lstore 6, 2) := by decide +kernel
theorem dX0_moved_20 : decode cX0_moved 20 = .ok (.lload_n 0, 1) := by decide +kernel
theorem dX0_moved_21 : decode cX0_moved 21 = .ok (.iload_n 2, 1) := by decide +kernel
theorem dX0_moved_22 : decode cX0_moved 22 = .ok (.invokestatic 15, 3) := by decide +kernel
theorem dX0_moved_25 : decode cX0_moved 25 = .ok (.istore 8, 2) := by decide +kernel
theorem dX0_moved_27 : decode cX0_moved 27 = .ok (.iload 8, 2) := by decide +kernel
theorem dX0_moved_29 : decode cX0_moved 29 = .ok (.invokestatic 55, 3) := by decide +kernel
theorem dX0_moved_32 : decode cX0_moved 32 = .ok (.iconst 1, 1) := by decide +kernel
theorem dX0_moved_33 : decode cX0_moved 33 = .ok (.iadd, 1) := by decide +kernel
theorem dX0_moved_34 : decode cX0_moved 34 = .ok (.istore 9, 2) := by decide +kernel
theorem dX0_moved_36 : decode cX0_moved 36 = .ok (.iload 9, 2) := by decide +kernel
theorem dX0_moved_38 : decode cX0_moved 38 = .ok (.iload_n 3, 1) := by decide +kernel
theorem dX0_moved_39 : decode cX0_moved 39 = .ok (.if_icmp .lt 13, 3) := by decide +kernel
theorem dX0_moved_42 : decode cX0_moved 42 = .ok (.lload 6, 2) := by decide +kernel
theorem dX0_moved_44 : decode cX0_moved 44 = .ok (.ldc2_w 58, 3) := by decide +kernel
theorem dX0_moved_47 : decode cX0_moved 47 = .ok (.iload 5, 2) := by decide +kernel
theorem dX0_moved_49 : decode cX0_moved 49 = .ok (.lshl, 1) := by decide +kernel
theorem dX0_moved_50 : decode cX0_moved 50 = .ok (.lor, 1) := by decide +kernel
theorem dX0_moved_51 : decode cX0_moved 51 = .ok (.lreturn, 1) := by decide +kernel
theorem dX0_moved_52 : decode cX0_moved 52 = .ok (.iload 8, 2) := by decide +kernel
theorem dX0_moved_54 : decode cX0_moved 54 = .ok (.iload 9, 2) := by decide +kernel
theorem dX0_moved_56 : decode cX0_moved 56 = .ok (.iadd, 1) := by decide +kernel
theorem dX0_moved_57 : decode cX0_moved 57 = .ok (.iload 4, 2) := by decide +kernel
theorem dX0_moved_59 : decode cX0_moved 59 = .ok (.iadd, 1) := by decide +kernel
theorem dX0_moved_60 : decode cX0_moved 60 = .ok (.i2l, 1) := by decide +kernel
theorem dX0_moved_61 : decode cX0_moved 61 = .ok (.lstore 10, 2) := by decide +kernel
theorem dX0_moved_63 : decode cX0_moved 63 = .ok (.lload 6, 2) := by decide +kernel
theorem dX0_moved_65 : decode cX0_moved 65 = .ok (.lload 10, 2) := by decide +kernel
theorem dX0_moved_67 : decode cX0_moved 67 = .ok (.iload 5, 2) := by decide +kernel
theorem dX0_moved_69 : decode cX0_moved 69 = .ok (.iconst 4, 1) := by decide +kernel
theorem dX0_moved_70 : decode cX0_moved 70 = .ok (.iadd, 1) := by decide +kernel
theorem dX0_moved_71 : decode cX0_moved 71 = .ok (.lshl, 1) := by decide +kernel
theorem dX0_moved_72 : decode cX0_moved 72 = .ok (.lor, 1) := by decide +kernel
theorem dX0_moved_73 : decode cX0_moved 73 = .ok (.lreturn, 1) := by decide +kernel
theorem dX0_ownerShift_0 : decode cX0_ownerShift 0 = .ok (.bipush 24, 2) := by decide +kernel
theorem dX0_ownerShift_2 : decode cX0_ownerShift 2 = .ok (.iconst 3, 1) := by decide +kernel
theorem dX0_ownerShift_3 : decode cX0_ownerShift 3 = .ok (.iload_n 0, 1) := by decide +kernel
theorem dX0_ownerShift_4 : decode cX0_ownerShift 4 = .ok (.imul, 1) := by decide +kernel
theorem dX0_ownerShift_5 : decode cX0_ownerShift 5 = .ok (.iadd, 1) := by decide +kernel
theorem dX0_ownerShift_6 : decode cX0_ownerShift 6 = .ok (.ireturn, 1) := by decide +kernel
theorem dX0_diagonalOf_0 : decode cX0_diagonalOf 0 = .ok (.iload_n 0, 1) := by decide +kernel
theorem dX0_diagonalOf_1 : decode cX0_diagonalOf 1 = .ok (.iconst 1, 1) := by decide +kernel
theorem dX0_diagonalOf_2 : decode cX0_diagonalOf 2 = .ok (.if_icmp .ge 5, 3) := by decide +kernel
theorem dX0_diagonalOf_5 : decode cX0_diagonalOf 5 = .ok (.iconst 0, 1) := by decide +kernel
theorem dX0_diagonalOf_6 : decode cX0_diagonalOf 6 = .ok (.ireturn, 1) := by decide +kernel
theorem dX0_diagonalOf_7 : decode cX0_diagonalOf 7 = .ok (.iload_n 0, 1) := by decide +kernel
theorem dX0_diagonalOf_8 : decode cX0_diagonalOf 8 = .ok (.iconst 3, 1) := by decide +kernel
theorem dX0_diagonalOf_9 : decode cX0_diagonalOf 9 = .ok (.if_icmp .ge 5, 3) := by decide +kernel
theorem dX0_diagonalOf_12 : decode cX0_diagonalOf 12 = .ok (.iconst 1, 1) := by decide +kernel
theorem dX0_diagonalOf_13 : decode cX0_diagonalOf 13 = .ok (.ireturn, 1) := by decide +kernel
theorem dX0_diagonalOf_14 : decode cX0_diagonalOf 14 = .ok (.iload_n 0, 1) := by decide +kernel
theorem dX0_diagonalOf_15 : decode cX0_diagonalOf 15 = .ok (.bipush 6, 2) := by decide +kernel
theorem dX0_diagonalOf_17 : decode cX0_diagonalOf 17 = .ok (.if_icmp .ge 7, 3) := by decide +kernel
theorem dX0_diagonalOf_20 : decode cX0_diagonalOf 20 = .ok (.iconst 2, 1) := by decide +kernel
theorem dX0_diagonalOf_21 : decode cX0_diagonalOf 21 = .ok (.goto 4, 3) := by decide +kernel
theorem dX0_diagonalOf_24 : decode cX0_diagonalOf 24 = .ok (.iconst 3, 1) := by decide +kernel
theorem dX0_diagonalOf_25 : decode cX0_diagonalOf 25 = .ok (.ireturn, 1) := by decide +kernel
theorem dX1_countIn_0 : decode cX1_countIn 0 = .ok (.lload_n 0, 1) := by decide +kernel
theorem dX1_countIn_1 : decode cX1_countIn 1 = .ok (.bipush 6, 2) := by decide +kernel
theorem dX1_countIn_3 : decode cX1_countIn 3 = .ok (.iload_n 2, 1) := by decide +kernel
theorem dX1_countIn_4 : decode cX1_countIn 4 = .ok (.imul, 1) := by decide +kernel
theorem dX1_countIn_5 : decode cX1_countIn 5 = .ok (.lushr, 1) := by decide +kernel
theorem dX1_countIn_6 : decode cX1_countIn 6 = .ok (.l2i, 1) := by decide +kernel
theorem dX1_countIn_7 : decode cX1_countIn 7 = .ok (.bipush 63, 2) := by decide +kernel
theorem dX1_countIn_9 : decode cX1_countIn 9 = .ok (.iand, 1) := by decide +kernel
theorem dX1_countIn_10 : decode cX1_countIn 10 = .ok (.ireturn, 1) := by decide +kernel
theorem dX1_withOneMore_0 : decode cX1_withOneMore 0 = .ok (.lload_n 0, 1) := by decide +kernel
theorem dX1_withOneMore_1 : decode cX1_withOneMore 1 = .ok (.lconst 1, 1) := by decide +kernel
theorem dX1_withOneMore_2 : decode cX1_withOneMore 2 = .ok (.bipush 6, 2) := by decide +kernel
theorem dX1_withOneMore_4 : decode cX1_withOneMore 4 = .ok (.iload_n 2, 1) := by decide +kernel
theorem dX1_withOneMore_5 : decode cX1_withOneMore 5 = .ok (.imul, 1) := by decide +kernel
theorem dX1_withOneMore_6 : decode cX1_withOneMore 6 = .ok (.lshl, 1) := by decide +kernel
theorem dX1_withOneMore_7 : decode cX1_withOneMore 7 = .ok (.ladd, 1) := by decide +kernel
theorem dX1_withOneMore_8 : decode cX1_withOneMore 8 = .ok (.lreturn, 1) := by decide +kernel
theorem dX2_init_0 : decode cX2_init 0 = .ok (.aload_n 0, 1) := by decide +kernel
theorem dX2_init_1 : decode cX2_init 1 = .ok (.invokespecial 3, 3) := by decide +kernel
theorem dX2_init_4 : decode cX2_init 4 = .ok (.aload_n 0, 1) := by decide +kernel
theorem dX2_init_5 : decode cX2_init 5 = .ok (.sipush 4000, 3) := by decide +kernel
theorem dX2_init_8 : decode cX2_init 8 = .ok (.newarray .long, 2) := by decide +kernel
theorem dX2_init_10 : decode cX2_init 10 = .ok (.putfield 11, 3) := by decide +kernel
theorem dX2_init_13 : decode cX2_init 13 = .ok (.aload_n 0, 1) := by decide +kernel
theorem dX2_init_14 : decode cX2_init 14 = .ok (.sipush 4000, 3) := by decide +kernel
theorem dX2_init_17 : decode cX2_init 17 = .ok (.newarray .int, 2) := by decide +kernel
theorem dX2_init_19 : decode cX2_init 19 = .ok (.putfield 15, 3) := by decide +kernel
theorem dX2_init_22 : decode cX2_init 22 = .ok (.aload_n 0, 1) := by decide +kernel
theorem dX2_init_23 : decode cX2_init 23 = .ok (.sipush 4000, 3) := by decide +kernel
theorem dX2_init_26 : decode cX2_init 26 = .ok (.newarray .int, 2) := by decide +kernel
theorem dX2_init_28 : decode cX2_init 28 = .ok (.putfield 19, 3) := by decide +kernel
theorem dX2_init_31 : decode cX2_init 31 = .ok (.aload_n 0, 1) := by decide +kernel
theorem dX2_init_32 : decode cX2_init 32 = .ok (.sipush 8192, 3) := by decide +kernel
theorem dX2_init_35 : decode cX2_init 35 = .ok (.newarray .int, 2) := by decide +kernel
theorem dX2_init_37 : decode cX2_init 37 = .ok (.putfield 22, 3) := by decide +kernel
theorem dX2_init_40 : decode cX2_init 40 = .ok (.aload_n 0, 1) := by decide +kernel
theorem dX2_init_41 : decode cX2_init 41 = .ok (.bipush 64, 2) := by decide +kernel
theorem dX2_init_43 : decode cX2_init 43 = .ok (.newarray .long, 2) := by decide +kernel
theorem dX2_init_45 : decode cX2_init 45 = .ok (.putfield 25, 3) := by decide +kernel
theorem dX2_init_48 : decode cX2_init 48 = .ok (.return_, 1) := by decide +kernel
set_option maxRecDepth 20000 in
theorem ggX2_findAllFrom_J7_fill_53178 : GoodIn wsX2_findAllFrom wsJ7_fill_53178 := goodIn_r _ [7] (by decide +kernel) (by decide +kernel)
set_option maxRecDepth 20000 in
theorem gX2_findAllFrom_J7_fill_53178 : GoodIn wsX2_findAllFrom (va_wsS RX2 28 yJ7_fill_53178 wsJ7_fill_53178) := goodIn_app (goodIn_of _ (by decide +kernel)) ggX2_findAllFrom_J7_fill_53178
set_option maxRecDepth 20000 in
theorem ggX2_findAllFrom_X2_find : GoodIn wsX2_findAllFrom wsX2_find := goodIn_r _ [12, 13, 1, 2, 14, 15, 16, 11, 17, 18, 19, 20, 21, 22, 23, 24, 73, 74, 75, 76, 77, 78, 79] (by decide +kernel) (by decide +kernel)
set_option maxRecDepth 20000 in
theorem gX2_findAllFrom_X2_find : GoodIn wsX2_findAllFrom (wsV RX2 48 RX2 yX2_find wsX2_find) := goodIn_app (goodIn_of _ (by decide +kernel)) ggX2_findAllFrom_X2_find
set_option maxRecDepth 20000 in
theorem ggX2_findAllFrom_X2_findNext : GoodIn wsX2_findAllFrom wsX2_findNext := goodIn_r _ [28, 3, 21, 22, 23, 11, 24, 18, 29, 30, 31, 32, 33, 34, 35, 36, 37, 38, 39, 40, 41, 42, 43, 44, 45, 46, 47, 48, 49, 50, 51, 52, 53, 54, 55, 56, 57, 58, 59, 60, 61, 62, 63, 64, 65, 66, 67, 68, 69, 70, 71, 72, 8, 9, 10, 12, 13, 1, 2, 14, 15, 16, 17, 19, 20, 73, 74, 75, 76, 77, 78, 79, 80, 81, 82, 83, 84, 85, 86, 87] (by decide +kernel) (by decide +kernel)
set_option maxRecDepth 20000 in
theorem gX2_findAllFrom_X2_findNext : GoodIn wsX2_findAllFrom (wsV RX2 52 RX2 yX2_findNext wsX2_findNext) := goodIn_app (goodIn_of _ (by decide +kernel)) ggX2_findAllFrom_X2_findNext
theorem dX2_findAllFrom_0 : decode cX2_findAllFrom 0 = .ok (.aload_n 0, 1) := by decide +kernel
theorem dX2_findAllFrom_1 : decode cX2_findAllFrom 1 = .ok (.getfield 22, 3) := by decide +kernel
theorem dX2_findAllFrom_4 : decode cX2_findAllFrom 4 = .ok (.iconst 0, 1) := by decide +kernel
theorem dX2_findAllFrom_5 : decode cX2_findAllFrom 5 = .ok (.invokestatic 28, 3) := by decide +kernel
theorem dX2_findAllFrom_8 : decode cX2_findAllFrom 8 = .ok (.aload_n 0, 1) := by decide +kernel
theorem dX2_findAllFrom_9 : decode cX2_findAllFrom 9 = .ok (.iconst 0, 1) := by decide +kernel
theorem dX2_findAllFrom_10 : decode cX2_findAllFrom 10 = .ok (.putfield 34, 3) := by decide +kernel
theorem dX2_findAllFrom_13 : decode cX2_findAllFrom 13 = .ok (.aload_n 0, 1) := by decide +kernel
theorem dX2_findAllFrom_14 : decode cX2_findAllFrom 14 = .ok (.aload_n 1, 1) := by decide +kernel
theorem dX2_findAllFrom_15 : decode cX2_findAllFrom 15 = .ok (.getfield 38, 3) := by decide +kernel
theorem dX2_findAllFrom_18 : decode cX2_findAllFrom 18 = .ok (.putfield 43, 3) := by decide +kernel
theorem dX2_findAllFrom_21 : decode cX2_findAllFrom 21 = .ok (.aload_n 0, 1) := by decide +kernel
theorem dX2_findAllFrom_22 : decode cX2_findAllFrom 22 = .ok (.aload_n 1, 1) := by decide +kernel
theorem dX2_findAllFrom_23 : decode cX2_findAllFrom 23 = .ok (.getfield 44, 3) := by decide +kernel
theorem dX2_findAllFrom_26 : decode cX2_findAllFrom 26 = .ok (.iconst 0, 1) := by decide +kernel
theorem dX2_findAllFrom_27 : decode cX2_findAllFrom 27 = .ok (.bipush (-9), 2) := by decide +kernel
theorem dX2_findAllFrom_29 : decode cX2_findAllFrom 29 = .ok (.invokevirtual 48, 3) := by decide +kernel
theorem dX2_findAllFrom_32 : decode cX2_findAllFrom 32 = .ok (.istore_n 2, 1) := by decide +kernel
theorem dX2_findAllFrom_33 : decode cX2_findAllFrom 33 = .ok (.iconst 0, 1) := by decide +kernel
theorem dX2_findAllFrom_34 : decode cX2_findAllFrom 34 = .ok (.istore_n 3, 1) := by decide +kernel
theorem dX2_findAllFrom_35 : decode cX2_findAllFrom 35 = .ok (.iload_n 2, 1) := by decide +kernel
theorem dX2_findAllFrom_36 : decode cX2_findAllFrom 36 = .ok (.ifCond .eq 31, 3) := by decide +kernel
theorem dX2_findAllFrom_39 : decode cX2_findAllFrom 39 = .ok (.iload_n 3, 1) := by decide +kernel
theorem dX2_findAllFrom_40 : decode cX2_findAllFrom 40 = .ok (.aload_n 0, 1) := by decide +kernel
theorem dX2_findAllFrom_41 : decode cX2_findAllFrom 41 = .ok (.getfield 34, 3) := by decide +kernel
theorem dX2_findAllFrom_44 : decode cX2_findAllFrom 44 = .ok (.if_icmp .ge 23, 3) := by decide +kernel
theorem dX2_findAllFrom_47 : decode cX2_findAllFrom 47 = .ok (.iload_n 3, 1) := by decide +kernel
theorem dX2_findAllFrom_48 : decode cX2_findAllFrom 48 = .ok (.sipush 4000, 3) := by decide +kernel
theorem dX2_findAllFrom_51 : decode cX2_findAllFrom 51 = .ok (.if_icmp .ge 16, 3) := by decide +kernel
theorem dX2_findAllFrom_54 : decode cX2_findAllFrom 54 = .ok (.aload_n 0, 1) := by decide +kernel
theorem dX2_findAllFrom_55 : decode cX2_findAllFrom 55 = .ok (.iload_n 3, 1) := by decide +kernel
theorem dX2_findAllFrom_56 : decode cX2_findAllFrom 56 = .ok (.aload_n 1, 1) := by decide +kernel
theorem dX2_findAllFrom_57 : decode cX2_findAllFrom 57 = .ok (.invokevirtual 52, 3) := by decide +kernel
theorem dX2_findAllFrom_60 : decode cX2_findAllFrom 60 = .ok (.istore_n 2, 1) := by decide +kernel
theorem dX2_findAllFrom_61 : decode cX2_findAllFrom 61 = .ok (.iinc 3 1, 3) := by decide +kernel
theorem dX2_findAllFrom_64 : decode cX2_findAllFrom 64 = .ok (.goto (-29), 3) := by decide +kernel
theorem dX2_findAllFrom_67 : decode cX2_findAllFrom 67 = .ok (.iload_n 2, 1) := by decide +kernel
theorem dX2_findAllFrom_68 : decode cX2_findAllFrom 68 = .ok (.ireturn, 1) := by decide +kernel
set_option maxRecDepth 20000 in
theorem ggX2_findNext_X2_foundAt : GoodIn wsX2_findNext wsX2_foundAt := goodIn_r _ [6, 7, 65, 66, 67, 68, 69, 70, 71] (by decide +kernel) (by decide +kernel)
set_option maxRecDepth 20000 in
theorem gX2_findNext_X2_foundAt : GoodIn wsX2_findNext (wsV RX2 56 RX2 yX2_foundAt wsX2_foundAt) := goodIn_app (goodIn_of _ (by decide +kernel)) ggX2_findNext_X2_foundAt
set_option maxRecDepth 20000 in
theorem ggX2_findNext_X0_statusIn : GoodIn wsX2_findNext wsX0_statusIn := goodIn_r _ [11] (by decide +kernel) (by decide +kernel)
set_option maxRecDepth 20000 in
theorem gX2_findNext_X0_statusIn : GoodIn wsX2_findNext (va_wsS RX2 60 yX0_statusIn wsX0_statusIn) := goodIn_app (goodIn_of _ (by decide +kernel)) ggX2_findNext_X0_statusIn
set_option maxRecDepth 20000 in
theorem ggX2_findNext_X0_afterStep : GoodIn wsX2_findNext wsX0_afterStep := goodIn_r _ [14, 15, 16, 10, 17, 18, 19, 20, 21, 22, 23, 24, 25, 26, 27, 28, 29, 30, 31, 32, 33, 34, 35, 36, 37, 38, 39, 40, 41, 42, 43, 44, 45, 46, 47, 48, 49, 50, 51] (by decide +kernel) (by decide +kernel)
set_option maxRecDepth 20000 in
theorem gX2_findNext_X0_afterStep : GoodIn wsX2_findNext (va_wsS RX2 72 yX0_afterStep wsX0_afterStep) := goodIn_app (goodIn_of _ (by decide +kernel)) ggX2_findNext_X0_afterStep
set_option maxRecDepth 20000 in
theorem ggX2_findNext_X2_find : GoodIn wsX2_findNext wsX2_find := goodIn_r _ [55, 56, 57, 58, 59, 60, 61, 5, 62, 7, 63, 64, 2, 3, 4, 6, 65, 66, 67, 68, 69, 70, 71] (by decide +kernel) (by decide +kernel)
set_option maxRecDepth 20000 in
theorem gX2_findNext_X2_find : GoodIn wsX2_findNext (wsV RX2 48 RX2 yX2_find wsX2_find) := goodIn_app (goodIn_of _ (by decide +kernel)) ggX2_findNext_X2_find
theorem dX2_findNext_0 : decode cX2_findNext 0 = .ok (.aload_n 0, 1) := by decide +kernel
theorem dX2_findNext_1 : decode cX2_findNext 1 = .ok (.iload_n 1, 1) := by decide +kernel
theorem dX2_findNext_2 : decode cX2_findNext 2 = .ok (.invokevirtual 56, 3) := by decide +kernel
theorem dX2_findNext_5 : decode cX2_findNext 5 = .ok (.lstore_n 3, 1) := by decide +kernel
theorem dX2_findNext_6 : decode cX2_findNext 6 = .ok (.iconst 0, 1) := by decide +kernel
theorem dX2_findNext_7 : decode cX2_findNext 7 = .ok (.istore 5, 2) := by decide +kernel
theorem dX2_findNext_9 : decode cX2_findNext 9 = .ok (.iload 5, 2) := by decide +kernel
theorem dX2_findNext_11 : decode cX2_findNext 11 = .ok (.aload_n 0, 1) := by decide +kernel
theorem dX2_findNext_12 : decode cX2_findNext 12 = .ok (.getfield 43, 3) := by decide +kernel
theorem dX2_findNext_15 : decode cX2_findNext 15 = .ok (.if_icmp .ge 48, 3) := by decide +kernel
theorem dX2_findNext_18 : decode cX2_findNext 18 = .ok (.lload_n 3, 1) := by decide +kernel
theorem dX2_findNext_19 : decode cX2_findNext 19 = .ok (.iload 5, 2) := by decide +kernel
theorem dX2_findNext_21 : decode cX2_findNext 21 = .ok (.invokestatic 60, 3) := by decide +kernel
theorem dX2_findNext_24 : decode cX2_findNext 24 = .ok (.ifCond .ne 33, 3) := by decide +kernel
theorem dX2_findNext_27 : decode cX2_findNext 27 = .ok (.lload_n 3, 1) := by decide +kernel
theorem dX2_findNext_28 : decode cX2_findNext 28 = .ok (.iload 5, 2) := by decide +kernel
theorem dX2_findNext_30 : decode cX2_findNext 30 = .ok (.aload_n 2, 1) := by decide +kernel
theorem dX2_findNext_31 : decode cX2_findNext 31 = .ok (.getfield 66, 3) := by decide +kernel
theorem dX2_findNext_34 : decode cX2_findNext 34 = .ok (.aload_n 2, 1) := by decide +kernel
theorem dX2_findNext_35 : decode cX2_findNext 35 = .ok (.getfield 69, 3) := by decide +kernel
theorem dX2_findNext_38 : decode cX2_findNext 38 = .ok (.invokestatic 72, 3) := by decide +kernel
theorem dX2_findNext_41 : decode cX2_findNext 41 = .ok (.lstore 6, 2) := by decide +kernel
theorem dX2_findNext_43 : decode cX2_findNext 43 = .ok (.aload_n 0, 1) := by decide +kernel
theorem dX2_findNext_44 : decode cX2_findNext 44 = .ok (.lload 6, 2) := by decide +kernel
theorem dX2_findNext_46 : decode cX2_findNext 46 = .ok (.iload_n 1, 1) := by decide +kernel
theorem dX2_findNext_47 : decode cX2_findNext 47 = .ok (.iload 5, 2) := by decide +kernel
theorem dX2_findNext_49 : decode cX2_findNext 49 = .ok (.invokevirtual 48, 3) := by decide +kernel
theorem dX2_findNext_52 : decode cX2_findNext 52 = .ok (.ifCond .ne 5, 3) := by decide +kernel
theorem dX2_findNext_55 : decode cX2_findNext 55 = .ok (.iconst 0, 1) := by decide +kernel
theorem dX2_findNext_56 : decode cX2_findNext 56 = .ok (.ireturn, 1) := by decide +kernel
theorem dX2_findNext_57 : decode cX2_findNext 57 = .ok (.iinc 5 1, 3) := by decide +kernel
theorem dX2_findNext_60 : decode cX2_findNext 60 = .ok (.goto (-51), 3) := by decide +kernel
theorem dX2_findNext_63 : decode cX2_findNext 63 = .ok (.iconst 1, 1) := by decide +kernel
theorem dX2_findNext_64 : decode cX2_findNext 64 = .ok (.ireturn, 1) := by decide +kernel
set_option maxRecDepth 20000 in
theorem ggX2_find_X2_keep : GoodIn wsX2_find wsX2_keep := goodIn_r _ [8, 3, 9, 10, 11, 16, 17, 18, 19, 20, 21, 22] (by decide +kernel) (by decide +kernel)
set_option maxRecDepth 20000 in
theorem gX2_find_X2_keep : GoodIn wsX2_find (wsV RX2 78 RX2 yX2_keep wsX2_keep) := goodIn_app (goodIn_of _ (by decide +kernel)) ggX2_find_X2_keep
set_option maxRecDepth 20000 in
theorem ggX2_find_X2_foundAt : GoodIn wsX2_find wsX2_foundAt := goodIn_r _ [15, 9, 16, 17, 18, 19, 20, 21, 22] (by decide +kernel) (by decide +kernel)
set_option maxRecDepth 20000 in
theorem gX2_find_X2_foundAt : GoodIn wsX2_find (wsV RX2 56 RX2 yX2_foundAt wsX2_foundAt) := goodIn_app (goodIn_of _ (by decide +kernel)) ggX2_find_X2_foundAt
theorem dX2_find_0 : decode cX2_find 0 = .ok (.lload_n 1, 1) := by decide +kernel
theorem dX2_find_1 : decode cX2_find 1 = .ok (.ldc2_w 76, 3) := by decide +kernel
theorem dX2_find_4 : decode cX2_find 4 = .ok (.lmul, 1) := by decide +kernel
theorem dX2_find_5 : decode cX2_find 5 = .ok (.bipush 51, 2) := by decide +kernel
theorem dX2_find_7 : decode cX2_find 7 = .ok (.lushr, 1) := by decide +kernel
theorem dX2_find_8 : decode cX2_find 8 = .ok (.l2i, 1) := by decide +kernel
theorem dX2_find_9 : decode cX2_find 9 = .ok (.istore 5, 2) := by decide +kernel
theorem dX2_find_11 : decode cX2_find 11 = .ok (.iconst 0, 1) := by decide +kernel
theorem dX2_find_12 : decode cX2_find 12 = .ok (.istore 6, 2) := by decide +kernel
theorem dX2_find_14 : decode cX2_find 14 = .ok (.iload 6, 2) := by decide +kernel
theorem dX2_find_16 : decode cX2_find 16 = .ok (.sipush 8192, 3) := by decide +kernel
theorem dX2_find_19 : decode cX2_find 19 = .ok (.if_icmp .ge 71, 3) := by decide +kernel
theorem dX2_find_22 : decode cX2_find 22 = .ok (.iload 5, 2) := by decide +kernel
theorem dX2_find_24 : decode cX2_find 24 = .ok (.iload 6, 2) := by decide +kernel
theorem dX2_find_26 : decode cX2_find 26 = .ok (.iadd, 1) := by decide +kernel
theorem dX2_find_27 : decode cX2_find 27 = .ok (.sipush 8191, 3) := by decide +kernel
theorem dX2_find_30 : decode cX2_find 30 = .ok (.iand, 1) := by decide +kernel
theorem dX2_find_31 : decode cX2_find 31 = .ok (.istore 7, 2) := by decide +kernel
theorem dX2_find_33 : decode cX2_find 33 = .ok (.aload_n 0, 1) := by decide +kernel
theorem dX2_find_34 : decode cX2_find 34 = .ok (.getfield 22, 3) := by decide +kernel
theorem dX2_find_37 : decode cX2_find 37 = .ok (.iload 7, 2) := by decide +kernel
theorem dX2_find_39 : decode cX2_find 39 = .ok (.iaload, 1) := by decide +kernel
theorem dX2_find_40 : decode cX2_find 40 = .ok (.iconst 1, 1) := by decide +kernel
theorem dX2_find_41 : decode cX2_find 41 = .ok (.isub, 1) := by decide +kernel
theorem dX2_find_42 : decode cX2_find 42 = .ok (.istore 8, 2) := by decide +kernel
theorem dX2_find_44 : decode cX2_find 44 = .ok (.iload 8, 2) := by decide +kernel
theorem dX2_find_46 : decode cX2_find 46 = .ok (.ifCond .ge 25, 3) := by decide +kernel
theorem dX2_find_49 : decode cX2_find 49 = .ok (.aload_n 0, 1) := by decide +kernel
theorem dX2_find_50 : decode cX2_find 50 = .ok (.getfield 22, 3) := by decide +kernel
theorem dX2_find_53 : decode cX2_find 53 = .ok (.iload 7, 2) := by decide +kernel
theorem dX2_find_55 : decode cX2_find 55 = .ok (.aload_n 0, 1) := by decide +kernel
theorem dX2_find_56 : decode cX2_find 56 = .ok (.getfield 34, 3) := by decide +kernel
theorem dX2_find_59 : decode cX2_find 59 = .ok (.iconst 1, 1) := by decide +kernel
theorem dX2_find_60 : decode cX2_find 60 = .ok (.iadd, 1) := by decide +kernel
theorem dX2_find_61 : decode cX2_find 61 = .ok (.iastore, 1) := by decide +kernel
theorem dX2_find_62 : decode cX2_find 62 = .ok (.aload_n 0, 1) := by decide +kernel
theorem dX2_find_63 : decode cX2_find 63 = .ok (.lload_n 1, 1) := by decide +kernel
theorem dX2_find_64 : decode cX2_find 64 = .ok (.iload_n 3, 1) := by decide +kernel
theorem dX2_find_65 : decode cX2_find 65 = .ok (.iload 4, 2) := by decide +kernel
theorem dX2_find_67 : decode cX2_find 67 = .ok (.invokevirtual 78, 3) := by decide +kernel
theorem dX2_find_70 : decode cX2_find 70 = .ok (.ireturn, 1) := by decide +kernel
theorem dX2_find_71 : decode cX2_find 71 = .ok (.aload_n 0, 1) := by decide +kernel
theorem dX2_find_72 : decode cX2_find 72 = .ok (.iload 8, 2) := by decide +kernel
theorem dX2_find_74 : decode cX2_find 74 = .ok (.invokevirtual 56, 3) := by decide +kernel
theorem dX2_find_77 : decode cX2_find 77 = .ok (.lload_n 1, 1) := by decide +kernel
theorem dX2_find_78 : decode cX2_find 78 = .ok (.lcmp, 1) := by decide +kernel
theorem dX2_find_79 : decode cX2_find 79 = .ok (.ifCond .ne 5, 3) := by decide +kernel
theorem dX2_find_82 : decode cX2_find 82 = .ok (.iconst 1, 1) := by decide +kernel
theorem dX2_find_83 : decode cX2_find 83 = .ok (.ireturn, 1) := by decide +kernel
theorem dX2_find_84 : decode cX2_find 84 = .ok (.iinc 6 1, 3) := by decide +kernel
theorem dX2_find_87 : decode cX2_find 87 = .ok (.goto (-73), 3) := by decide +kernel
theorem dX2_find_90 : decode cX2_find 90 = .ok (.iconst 0, 1) := by decide +kernel
theorem dX2_find_91 : decode cX2_find 91 = .ok (.ireturn, 1) := by decide +kernel
theorem dX2_keep_0 : decode cX2_keep 0 = .ok (.aload_n 0, 1) := by decide +kernel
theorem dX2_keep_1 : decode cX2_keep 1 = .ok (.getfield 34, 3) := by decide +kernel
theorem dX2_keep_4 : decode cX2_keep 4 = .ok (.ifCond .lt 13, 3) := by decide +kernel
theorem dX2_keep_7 : decode cX2_keep 7 = .ok (.aload_n 0, 1) := by decide +kernel
theorem dX2_keep_8 : decode cX2_keep 8 = .ok (.getfield 34, 3) := by decide +kernel
theorem dX2_keep_11 : decode cX2_keep 11 = .ok (.sipush 4000, 3) := by decide +kernel
theorem dX2_keep_14 : decode cX2_keep 14 = .ok (.if_icmp .lt 5, 3) := by decide +kernel
theorem dX2_keep_17 : decode cX2_keep 17 = .ok (.iconst 0, 1) := by decide +kernel
theorem dX2_keep_18 : decode cX2_keep 18 = .ok (.ireturn, 1) := by decide +kernel
theorem dX2_keep_19 : decode cX2_keep 19 = .ok (.aload_n 0, 1) := by decide +kernel
theorem dX2_keep_20 : decode cX2_keep 20 = .ok (.getfield 11, 3) := by decide +kernel
theorem dX2_keep_23 : decode cX2_keep 23 = .ok (.aload_n 0, 1) := by decide +kernel
theorem dX2_keep_24 : decode cX2_keep 24 = .ok (.getfield 34, 3) := by decide +kernel
theorem dX2_keep_27 : decode cX2_keep 27 = .ok (.lload_n 1, 1) := by decide +kernel
theorem dX2_keep_28 : decode cX2_keep 28 = .ok (.lastore, 1) := by decide +kernel
theorem dX2_keep_29 : decode cX2_keep 29 = .ok (.aload_n 0, 1) := by decide +kernel
theorem dX2_keep_30 : decode cX2_keep 30 = .ok (.getfield 15, 3) := by decide +kernel
theorem dX2_keep_33 : decode cX2_keep 33 = .ok (.aload_n 0, 1) := by decide +kernel
theorem dX2_keep_34 : decode cX2_keep 34 = .ok (.getfield 34, 3) := by decide +kernel
theorem dX2_keep_37 : decode cX2_keep 37 = .ok (.iload_n 3, 1) := by decide +kernel
theorem dX2_keep_38 : decode cX2_keep 38 = .ok (.iastore, 1) := by decide +kernel
theorem dX2_keep_39 : decode cX2_keep 39 = .ok (.aload_n 0, 1) := by decide +kernel
theorem dX2_keep_40 : decode cX2_keep 40 = .ok (.getfield 19, 3) := by decide +kernel
theorem dX2_keep_43 : decode cX2_keep 43 = .ok (.aload_n 0, 1) := by decide +kernel
theorem dX2_keep_44 : decode cX2_keep 44 = .ok (.getfield 34, 3) := by decide +kernel
theorem dX2_keep_47 : decode cX2_keep 47 = .ok (.iload 4, 2) := by decide +kernel
theorem dX2_keep_49 : decode cX2_keep 49 = .ok (.iastore, 1) := by decide +kernel
theorem dX2_keep_50 : decode cX2_keep 50 = .ok (.aload_n 0, 1) := by decide +kernel
theorem dX2_keep_51 : decode cX2_keep 51 = .ok (.dup, 1) := by decide +kernel
theorem dX2_keep_52 : decode cX2_keep 52 = .ok (.getfield 34, 3) := by decide +kernel
theorem dX2_keep_55 : decode cX2_keep 55 = .ok (.iconst 1, 1) := by decide +kernel
theorem dX2_keep_56 : decode cX2_keep 56 = .ok (.iadd, 1) := by decide +kernel
theorem dX2_keep_57 : decode cX2_keep 57 = .ok (.putfield 34, 3) := by decide +kernel
theorem dX2_keep_60 : decode cX2_keep 60 = .ok (.iconst 1, 1) := by decide +kernel
theorem dX2_keep_61 : decode cX2_keep 61 = .ok (.ireturn, 1) := by decide +kernel
theorem dX2_foundAt_0 : decode cX2_foundAt 0 = .ok (.iload_n 1, 1) := by decide +kernel
theorem dX2_foundAt_1 : decode cX2_foundAt 1 = .ok (.ifCond .lt 21, 3) := by decide +kernel
theorem dX2_foundAt_4 : decode cX2_foundAt 4 = .ok (.iload_n 1, 1) := by decide +kernel
theorem dX2_foundAt_5 : decode cX2_foundAt 5 = .ok (.aload_n 0, 1) := by decide +kernel
theorem dX2_foundAt_6 : decode cX2_foundAt 6 = .ok (.getfield 11, 3) := by decide +kernel
theorem dX2_foundAt_9 : decode cX2_foundAt 9 = .ok (.arraylength, 1) := by decide +kernel
theorem dX2_foundAt_10 : decode cX2_foundAt 10 = .ok (.if_icmp .ge 12, 3) := by decide +kernel
theorem dX2_foundAt_13 : decode cX2_foundAt 13 = .ok (.aload_n 0, 1) := by decide +kernel
theorem dX2_foundAt_14 : decode cX2_foundAt 14 = .ok (.getfield 11, 3) := by decide +kernel
theorem dX2_foundAt_17 : decode cX2_foundAt 17 = .ok (.iload_n 1, 1) := by decide +kernel
theorem dX2_foundAt_18 : decode cX2_foundAt 18 = .ok (.laload, 1) := by decide +kernel
theorem dX2_foundAt_19 : decode cX2_foundAt 19 = .ok (.goto 4, 3) := by decide +kernel
theorem dX2_foundAt_22 : decode cX2_foundAt 22 = .ok (.lconst 0, 1) := by decide +kernel
theorem dX2_foundAt_23 : decode cX2_foundAt 23 = .ok (.lreturn, 1) := by decide +kernel
set_option maxRecDepth 20000 in
theorem ggX2_countFinals_X2_foundAt : GoodIn wsX2_countFinals wsX2_foundAt := goodIn_r _ [6, 7, 17, 18, 19, 20, 21, 22, 23] (by decide +kernel) (by decide +kernel)
set_option maxRecDepth 20000 in
theorem gX2_countFinals_X2_foundAt : GoodIn wsX2_countFinals (wsV RX2 56 RX2 yX2_foundAt wsX2_foundAt) := goodIn_app (goodIn_of _ (by decide +kernel)) ggX2_countFinals_X2_foundAt
set_option maxRecDepth 20000 in
theorem ggX2_countFinals_X2_isFinal : GoodIn wsX2_countFinals wsX2_isFinal := goodIn_r _ [11, 12, 13, 14, 15, 16, 17, 18, 19, 20, 21, 22, 23] (by decide +kernel) (by decide +kernel)
set_option maxRecDepth 20000 in
theorem gX2_countFinals_X2_isFinal : GoodIn wsX2_countFinals (wsV RX2 81 RX2 yX2_isFinal wsX2_isFinal) := goodIn_app (goodIn_of _ (by decide +kernel)) ggX2_countFinals_X2_isFinal
theorem dX2_countFinals_0 : decode cX2_countFinals 0 = .ok (.iconst 0, 1) := by decide +kernel
theorem dX2_countFinals_1 : decode cX2_countFinals 1 = .ok (.istore_n 1, 1) := by decide +kernel
theorem dX2_countFinals_2 : decode cX2_countFinals 2 = .ok (.iconst 0, 1) := by decide +kernel
theorem dX2_countFinals_3 : decode cX2_countFinals 3 = .ok (.istore_n 2, 1) := by decide +kernel
theorem dX2_countFinals_4 : decode cX2_countFinals 4 = .ok (.iload_n 2, 1) := by decide +kernel
theorem dX2_countFinals_5 : decode cX2_countFinals 5 = .ok (.aload_n 0, 1) := by decide +kernel
theorem dX2_countFinals_6 : decode cX2_countFinals 6 = .ok (.getfield 34, 3) := by decide +kernel
theorem dX2_countFinals_9 : decode cX2_countFinals 9 = .ok (.if_icmp .ge 24, 3) := by decide +kernel
theorem dX2_countFinals_12 : decode cX2_countFinals 12 = .ok (.aload_n 0, 1) := by decide +kernel
theorem dX2_countFinals_13 : decode cX2_countFinals 13 = .ok (.aload_n 0, 1) := by decide +kernel
theorem dX2_countFinals_14 : decode cX2_countFinals 14 = .ok (.iload_n 2, 1) := by decide +kernel
theorem dX2_countFinals_15 : decode cX2_countFinals 15 = .ok (.invokevirtual 56, 3) := by decide +kernel
theorem dX2_countFinals_18 : decode cX2_countFinals 18 = .ok (.invokevirtual 81, 3) := by decide +kernel
theorem dX2_countFinals_21 : decode cX2_countFinals 21 = .ok (.ifCond .eq 6, 3) := by decide +kernel
theorem dX2_countFinals_24 : decode cX2_countFinals 24 = .ok (.iinc 1 1, 3) := by decide +kernel
theorem dX2_countFinals_27 : decode cX2_countFinals 27 = .ok (.iinc 2 1, 3) := by decide +kernel
theorem dX2_countFinals_30 : decode cX2_countFinals 30 = .ok (.goto (-26), 3) := by decide +kernel
theorem dX2_countFinals_33 : decode cX2_countFinals 33 = .ok (.iload_n 1, 1) := by decide +kernel
theorem dX2_countFinals_34 : decode cX2_countFinals 34 = .ok (.ireturn, 1) := by decide +kernel
set_option maxRecDepth 20000 in
theorem ggX2_countFinalsNamed_X2_foundAt : GoodIn wsX2_countFinalsNamed wsX2_foundAt := goodIn_r _ [6, 7, 24, 25, 26, 27, 28, 29, 30] (by decide +kernel) (by decide +kernel)
set_option maxRecDepth 20000 in
theorem gX2_countFinalsNamed_X2_foundAt : GoodIn wsX2_countFinalsNamed (wsV RX2 56 RX2 yX2_foundAt wsX2_foundAt) := goodIn_app (goodIn_of _ (by decide +kernel)) ggX2_countFinalsNamed_X2_foundAt
set_option maxRecDepth 20000 in
theorem ggX2_countFinalsNamed_X2_isFinal : GoodIn wsX2_countFinalsNamed wsX2_isFinal := goodIn_r _ [11, 12, 13, 14, 15, 16, 24, 25, 26, 27, 28, 29, 30] (by decide +kernel) (by decide +kernel)
set_option maxRecDepth 20000 in
theorem gX2_countFinalsNamed_X2_isFinal : GoodIn wsX2_countFinalsNamed (wsV RX2 81 RX2 yX2_isFinal wsX2_isFinal) := goodIn_app (goodIn_of _ (by decide +kernel)) ggX2_countFinalsNamed_X2_isFinal
set_option maxRecDepth 20000 in
theorem ggX2_countFinalsNamed_X0_nameIn : GoodIn wsX2_countFinalsNamed wsX0_nameIn := goodIn_r _ [19, 20, 14, 15, 16, 21, 22, 23] (by decide +kernel) (by decide +kernel)
set_option maxRecDepth 20000 in
theorem gX2_countFinalsNamed_X0_nameIn : GoodIn wsX2_countFinalsNamed (va_wsS RX2 85 yX0_nameIn wsX0_nameIn) := goodIn_app (goodIn_of _ (by decide +kernel)) ggX2_countFinalsNamed_X0_nameIn
theorem dX2_countFinalsNamed_0 : decode cX2_countFinalsNamed 0 = .ok (.iconst 0, 1) := by decide +kernel
theorem dX2_countFinalsNamed_1 : decode cX2_countFinalsNamed 1 = .ok (.istore_n 3, 1) := by decide +kernel
theorem dX2_countFinalsNamed_2 : decode cX2_countFinalsNamed 2 = .ok (.iconst 0, 1) := by decide +kernel
theorem dX2_countFinalsNamed_3 : decode cX2_countFinalsNamed 3 = .ok (.istore 4, 2) := by decide +kernel
theorem dX2_countFinalsNamed_5 : decode cX2_countFinalsNamed 5 = .ok (.iload 4, 2) := by decide +kernel
theorem dX2_countFinalsNamed_7 : decode cX2_countFinalsNamed 7 = .ok (.aload_n 0, 1) := by decide +kernel
theorem dX2_countFinalsNamed_8 : decode cX2_countFinalsNamed 8 = .ok (.getfield 34, 3) := by decide +kernel
theorem dX2_countFinalsNamed_11 : decode cX2_countFinalsNamed 11 = .ok (.if_icmp .ge 39, 3) := by decide +kernel
theorem dX2_countFinalsNamed_14 : decode cX2_countFinalsNamed 14 = .ok (.aload_n 0, 1) := by decide +kernel
theorem dX2_countFinalsNamed_15 : decode cX2_countFinalsNamed 15 = .ok (.iload 4, 2) := by decide +kernel
theorem dX2_countFinalsNamed_17 : decode cX2_countFinalsNamed 17 = .ok (.invokevirtual 56, 3) := by decide +kernel
theorem dX2_countFinalsNamed_20 : decode cX2_countFinalsNamed 20 = .ok (.lstore 5, 2) := by decide +kernel
theorem dX2_countFinalsNamed_22 : decode cX2_countFinalsNamed 22 = .ok (.aload_n 0, 1) := by decide +kernel
theorem dX2_countFinalsNamed_23 : decode cX2_countFinalsNamed 23 = .ok (.lload 5, 2) := by decide +kernel
theorem dX2_countFinalsNamed_25 : decode cX2_countFinalsNamed 25 = .ok (.invokevirtual 81, 3) := by decide +kernel
theorem dX2_countFinalsNamed_28 : decode cX2_countFinalsNamed 28 = .ok (.ifCond .eq 16, 3) := by decide +kernel
theorem dX2_countFinalsNamed_31 : decode cX2_countFinalsNamed 31 = .ok (.lload 5, 2) := by decide +kernel
theorem dX2_countFinalsNamed_33 : decode cX2_countFinalsNamed 33 = .ok (.iload_n 1, 1) := by decide +kernel
theorem dX2_countFinalsNamed_34 : decode cX2_countFinalsNamed 34 = .ok (.invokestatic 85, 3) := by decide +kernel
theorem dX2_countFinalsNamed_37 : decode cX2_countFinalsNamed 37 = .ok (.iload_n 2, 1) := by decide +kernel
theorem dX2_countFinalsNamed_38 : decode cX2_countFinalsNamed 38 = .ok (.if_icmp .ne 6, 3) := by decide +kernel
theorem dX2_countFinalsNamed_41 : decode cX2_countFinalsNamed 41 = .ok (.iinc 3 1, 3) := by decide +kernel
theorem dX2_countFinalsNamed_44 : decode cX2_countFinalsNamed 44 = .ok (.iinc 4 1, 3) := by decide +kernel
theorem dX2_countFinalsNamed_47 : decode cX2_countFinalsNamed 47 = .ok (.goto (-42), 3) := by decide +kernel
theorem dX2_countFinalsNamed_50 : decode cX2_countFinalsNamed 50 = .ok (.iload_n 3, 1) := by decide +kernel
theorem dX2_countFinalsNamed_51 : decode cX2_countFinalsNamed 51 = .ok (.ireturn, 1) := by decide +kernel
set_option maxRecDepth 20000 in
theorem ggX2_countViolations_X2_foundAt : GoodIn wsX2_countViolations wsX2_foundAt := goodIn_r _ [6, 7, 23, 24, 25, 26, 27, 28, 29] (by decide +kernel) (by decide +kernel)
set_option maxRecDepth 20000 in
theorem gX2_countViolations_X2_foundAt : GoodIn wsX2_countViolations (wsV RX2 56 RX2 yX2_foundAt wsX2_foundAt) := goodIn_app (goodIn_of _ (by decide +kernel)) ggX2_countViolations_X2_foundAt
set_option maxRecDepth 20000 in
theorem ggX2_countViolations_X2_isViolation : GoodIn wsX2_countViolations wsX2_isViolation := goodIn_r _ [11, 12, 13, 14, 15, 16, 17, 18, 19, 20, 21, 22, 23, 24, 25, 26, 27, 28, 29] (by decide +kernel) (by decide +kernel)
set_option maxRecDepth 20000 in
theorem gX2_countViolations_X2_isViolation : GoodIn wsX2_countViolations (wsV RX2 88 RX2 yX2_isViolation wsX2_isViolation) := goodIn_app (goodIn_of _ (by decide +kernel)) ggX2_countViolations_X2_isViolation
theorem dX2_countViolations_0 : decode cX2_countViolations 0 = .ok (.iconst 0, 1) := by decide +kernel
theorem dX2_countViolations_1 : decode cX2_countViolations 1 = .ok (.istore_n 1, 1) := by decide +kernel
theorem dX2_countViolations_2 : decode cX2_countViolations 2 = .ok (.iconst 0, 1) := by decide +kernel
theorem dX2_countViolations_3 : decode cX2_countViolations 3 = .ok (.istore_n 2, 1) := by decide +kernel
theorem dX2_countViolations_4 : decode cX2_countViolations 4 = .ok (.iload_n 2, 1) := by decide +kernel
theorem dX2_countViolations_5 : decode cX2_countViolations 5 = .ok (.aload_n 0, 1) := by decide +kernel
theorem dX2_countViolations_6 : decode cX2_countViolations 6 = .ok (.getfield 34, 3) := by decide +kernel
theorem dX2_countViolations_9 : decode cX2_countViolations 9 = .ok (.if_icmp .ge 24, 3) := by decide +kernel
theorem dX2_countViolations_12 : decode cX2_countViolations 12 = .ok (.aload_n 0, 1) := by decide +kernel
theorem dX2_countViolations_13 : decode cX2_countViolations 13 = .ok (.aload_n 0, 1) := by decide +kernel
theorem dX2_countViolations_14 : decode cX2_countViolations 14 = .ok (.iload_n 2, 1) := by decide +kernel
theorem dX2_countViolations_15 : decode cX2_countViolations 15 = .ok (.invokevirtual 56, 3) := by decide +kernel
theorem dX2_countViolations_18 : decode cX2_countViolations 18 = .ok (.invokevirtual 88, 3) := by decide +kernel
theorem dX2_countViolations_21 : decode cX2_countViolations 21 = .ok (.ifCond .eq 6, 3) := by decide +kernel
theorem dX2_countViolations_24 : decode cX2_countViolations 24 = .ok (.iinc 1 1, 3) := by decide +kernel
theorem dX2_countViolations_27 : decode cX2_countViolations 27 = .ok (.iinc 2 1, 3) := by decide +kernel
theorem dX2_countViolations_30 : decode cX2_countViolations 30 = .ok (.goto (-26), 3) := by decide +kernel
theorem dX2_countViolations_33 : decode cX2_countViolations 33 = .ok (.iload_n 1, 1) := by decide +kernel
theorem dX2_countViolations_34 : decode cX2_countViolations 34 = .ok (.ireturn, 1) := by decide +kernel
set_option maxRecDepth 20000 in
theorem ggX2_countOutcomes_J7_fill_d0a16 : GoodIn wsX2_countOutcomes wsJ7_fill_d0a16 := goodIn_r _ [6] (by decide +kernel) (by decide +kernel)
set_option maxRecDepth 20000 in
theorem gX2_countOutcomes_J7_fill_d0a16 : GoodIn wsX2_countOutcomes (va_wsS RX2 91 yJ7_fill_d0a16 wsJ7_fill_d0a16) := goodIn_app (goodIn_of _ (by decide +kernel)) ggX2_countOutcomes_J7_fill_d0a16
set_option maxRecDepth 20000 in
theorem ggX2_countOutcomes_X2_foundAt : GoodIn wsX2_countOutcomes wsX2_foundAt := goodIn_r _ [11, 12, 44, 45, 46, 47, 48, 49, 50] (by decide +kernel) (by decide +kernel)
set_option maxRecDepth 20000 in
theorem gX2_countOutcomes_X2_foundAt : GoodIn wsX2_countOutcomes (wsV RX2 56 RX2 yX2_foundAt wsX2_foundAt) := goodIn_app (goodIn_of _ (by decide +kernel)) ggX2_countOutcomes_X2_foundAt
set_option maxRecDepth 20000 in
theorem ggX2_countOutcomes_X2_isFinal : GoodIn wsX2_countOutcomes wsX2_isFinal := goodIn_r _ [16, 17, 18, 19, 20, 21, 44, 45, 46, 47, 48, 49, 50] (by decide +kernel) (by decide +kernel)
set_option maxRecDepth 20000 in
theorem gX2_countOutcomes_X2_isFinal : GoodIn wsX2_countOutcomes (wsV RX2 81 RX2 yX2_isFinal wsX2_isFinal) := goodIn_app (goodIn_of _ (by decide +kernel)) ggX2_countOutcomes_X2_isFinal
set_option maxRecDepth 20000 in
theorem ggX2_countOutcomes_X2_outcomeOf : GoodIn wsX2_countOutcomes wsX2_outcomeOf := goodIn_r _ [25, 17, 26, 27, 20, 28, 29, 19, 21, 30, 31, 32, 44, 45, 46, 47, 48, 49, 50] (by decide +kernel) (by decide +kernel)
set_option maxRecDepth 20000 in
theorem gX2_countOutcomes_X2_outcomeOf : GoodIn wsX2_countOutcomes (wsV RX2 94 RX2 yX2_outcomeOf wsX2_outcomeOf) := goodIn_app (goodIn_of _ (by decide +kernel)) ggX2_countOutcomes_X2_outcomeOf
set_option maxRecDepth 20000 in
theorem ggX2_countOutcomes_X2_markOutcome : GoodIn wsX2_countOutcomes wsX2_markOutcome := goodIn_r _ [36, 1, 44, 45, 46, 47, 48, 49, 50] (by decide +kernel) (by decide +kernel)
set_option maxRecDepth 20000 in
theorem gX2_countOutcomes_X2_markOutcome : GoodIn wsX2_countOutcomes (wsV RX2 98 RX2 yX2_markOutcome wsX2_markOutcome) := goodIn_app (goodIn_of _ (by decide +kernel)) ggX2_countOutcomes_X2_markOutcome
set_option maxRecDepth 20000 in
theorem ggX2_countOutcomes_J13_bitCount_95d88 : GoodIn wsX2_countOutcomes wsJ13_bitCount_95d88 := goodIn_r _ [40, 41, 42, 43] (by decide +kernel) (by decide +kernel)
set_option maxRecDepth 20000 in
theorem gX2_countOutcomes_J13_bitCount_95d88 : GoodIn wsX2_countOutcomes (va_wsS RX2 102 yJ13_bitCount_95d88 wsJ13_bitCount_95d88) := goodIn_app (goodIn_of _ (by decide +kernel)) ggX2_countOutcomes_J13_bitCount_95d88
theorem dX2_countOutcomes_0 : decode cX2_countOutcomes 0 = .ok (.aload_n 0, 1) := by decide +kernel
theorem dX2_countOutcomes_1 : decode cX2_countOutcomes 1 = .ok (.getfield 25, 3) := by decide +kernel
theorem dX2_countOutcomes_4 : decode cX2_countOutcomes 4 = .ok (.lconst 0, 1) := by decide +kernel
theorem dX2_countOutcomes_5 : decode cX2_countOutcomes 5 = .ok (.invokestatic 91, 3) := by decide +kernel
theorem dX2_countOutcomes_8 : decode cX2_countOutcomes 8 = .ok (.iconst 0, 1) := by decide +kernel
theorem dX2_countOutcomes_9 : decode cX2_countOutcomes 9 = .ok (.istore_n 1, 1) := by decide +kernel
theorem dX2_countOutcomes_10 : decode cX2_countOutcomes 10 = .ok (.iload_n 1, 1) := by decide +kernel
theorem dX2_countOutcomes_11 : decode cX2_countOutcomes 11 = .ok (.aload_n 0, 1) := by decide +kernel
theorem dX2_countOutcomes_12 : decode cX2_countOutcomes 12 = .ok (.getfield 34, 3) := by decide +kernel
theorem dX2_countOutcomes_15 : decode cX2_countOutcomes 15 = .ok (.if_icmp .ge 34, 3) := by decide +kernel
theorem dX2_countOutcomes_18 : decode cX2_countOutcomes 18 = .ok (.aload_n 0, 1) := by decide +kernel
theorem dX2_countOutcomes_19 : decode cX2_countOutcomes 19 = .ok (.aload_n 0, 1) := by decide +kernel
theorem dX2_countOutcomes_20 : decode cX2_countOutcomes 20 = .ok (.iload_n 1, 1) := by decide +kernel
theorem dX2_countOutcomes_21 : decode cX2_countOutcomes 21 = .ok (.invokevirtual 56, 3) := by decide +kernel
theorem dX2_countOutcomes_24 : decode cX2_countOutcomes 24 = .ok (.invokevirtual 81, 3) := by decide +kernel
theorem dX2_countOutcomes_27 : decode cX2_countOutcomes 27 = .ok (.ifCond .eq 16, 3) := by decide +kernel
theorem dX2_countOutcomes_30 : decode cX2_countOutcomes 30 = .ok (.aload_n 0, 1) := by decide +kernel
theorem dX2_countOutcomes_31 : decode cX2_countOutcomes 31 = .ok (.aload_n 0, 1) := by decide +kernel
theorem dX2_countOutcomes_32 : decode cX2_countOutcomes 32 = .ok (.aload_n 0, 1) := by decide +kernel
theorem dX2_countOutcomes_33 : decode cX2_countOutcomes 33 = .ok (.iload_n 1, 1) := by decide +kernel
theorem dX2_countOutcomes_34 : decode cX2_countOutcomes 34 = .ok (.invokevirtual 56, 3) := by decide +kernel
theorem dX2_countOutcomes_37 : decode cX2_countOutcomes 37 = .ok (.invokevirtual 94, 3) := by decide +kernel
theorem dX2_countOutcomes_40 : decode cX2_countOutcomes 40 = .ok (.invokevirtual 98, 3) := by decide +kernel
theorem dX2_countOutcomes_43 : decode cX2_countOutcomes 43 = .ok (.iinc 1 1, 3) := by decide +kernel
theorem dX2_countOutcomes_46 : decode cX2_countOutcomes 46 = .ok (.goto (-36), 3) := by decide +kernel
theorem dX2_countOutcomes_49 : decode cX2_countOutcomes 49 = .ok (.iconst 0, 1) := by decide +kernel
theorem dX2_countOutcomes_50 : decode cX2_countOutcomes 50 = .ok (.istore_n 1, 1) := by decide +kernel
theorem dX2_countOutcomes_51 : decode cX2_countOutcomes 51 = .ok (.iconst 0, 1) := by decide +kernel
theorem dX2_countOutcomes_52 : decode cX2_countOutcomes 52 = .ok (.istore_n 2, 1) := by decide +kernel
theorem dX2_countOutcomes_53 : decode cX2_countOutcomes 53 = .ok (.iload_n 2, 1) := by decide +kernel
theorem dX2_countOutcomes_54 : decode cX2_countOutcomes 54 = .ok (.aload_n 0, 1) := by decide +kernel
theorem dX2_countOutcomes_55 : decode cX2_countOutcomes 55 = .ok (.getfield 25, 3) := by decide +kernel
theorem dX2_countOutcomes_58 : decode cX2_countOutcomes 58 = .ok (.arraylength, 1) := by decide +kernel
theorem dX2_countOutcomes_59 : decode cX2_countOutcomes 59 = .ok (.if_icmp .ge 21, 3) := by decide +kernel
theorem dX2_countOutcomes_62 : decode cX2_countOutcomes 62 = .ok (.iload_n 1, 1) := by decide +kernel
theorem dX2_countOutcomes_63 : decode cX2_countOutcomes 63 = .ok (.aload_n 0, 1) := by decide +kernel
theorem dX2_countOutcomes_64 : decode cX2_countOutcomes 64 = .ok (.getfield 25, 3) := by decide +kernel
theorem dX2_countOutcomes_67 : decode cX2_countOutcomes 67 = .ok (.iload_n 2, 1) := by decide +kernel
theorem dX2_countOutcomes_68 : decode cX2_countOutcomes 68 = .ok (.laload, 1) := by decide +kernel
theorem dX2_countOutcomes_69 : decode cX2_countOutcomes 69 = .ok (.invokestatic 102, 3) := by decide +kernel
theorem dX2_countOutcomes_72 : decode cX2_countOutcomes 72 = .ok (.iadd, 1) := by decide +kernel
theorem dX2_countOutcomes_73 : decode cX2_countOutcomes 73 = .ok (.istore_n 1, 1) := by decide +kernel
theorem dX2_countOutcomes_74 : decode cX2_countOutcomes 74 = .ok (.iinc 2 1, 3) := by decide +kernel
theorem dX2_countOutcomes_77 : decode cX2_countOutcomes 77 = .ok (.goto (-24), 3) := by decide +kernel
theorem dX2_countOutcomes_80 : decode cX2_countOutcomes 80 = .ok (.iload_n 1, 1) := by decide +kernel
theorem dX2_countOutcomes_81 : decode cX2_countOutcomes 81 = .ok (.ireturn, 1) := by decide +kernel
set_option maxRecDepth 20000 in
theorem ggX2_highestName_X2_foundAt : GoodIn wsX2_highestName wsX2_foundAt := goodIn_r _ [11, 12, 23, 24, 25, 26, 27, 28, 29] (by decide +kernel) (by decide +kernel)
set_option maxRecDepth 20000 in
theorem gX2_highestName_X2_foundAt : GoodIn wsX2_highestName (wsV RX2 56 RX2 yX2_foundAt wsX2_foundAt) := goodIn_app (goodIn_of _ (by decide +kernel)) ggX2_highestName_X2_foundAt
set_option maxRecDepth 20000 in
theorem ggX2_highestName_X0_nameIn : GoodIn wsX2_highestName wsX0_nameIn := goodIn_r _ [16, 17, 18, 15, 19, 20, 21, 22] (by decide +kernel) (by decide +kernel)
set_option maxRecDepth 20000 in
theorem gX2_highestName_X0_nameIn : GoodIn wsX2_highestName (va_wsS RX2 85 yX0_nameIn wsX0_nameIn) := goodIn_app (goodIn_of _ (by decide +kernel)) ggX2_highestName_X0_nameIn
theorem dX2_highestName_0 : decode cX2_highestName 0 = .ok (.bipush (-9), 2) := by decide +kernel
theorem dX2_highestName_2 : decode cX2_highestName 2 = .ok (.istore_n 1, 1) := by decide +kernel
theorem dX2_highestName_3 : decode cX2_highestName 3 = .ok (.iconst 0, 1) := by decide +kernel
theorem dX2_highestName_4 : decode cX2_highestName 4 = .ok (.istore_n 2, 1) := by decide +kernel
theorem dX2_highestName_5 : decode cX2_highestName 5 = .ok (.iload_n 2, 1) := by decide +kernel
theorem dX2_highestName_6 : decode cX2_highestName 6 = .ok (.aload_n 0, 1) := by decide +kernel
theorem dX2_highestName_7 : decode cX2_highestName 7 = .ok (.getfield 34, 3) := by decide +kernel
theorem dX2_highestName_10 : decode cX2_highestName 10 = .ok (.if_icmp .ge 39, 3) := by decide +kernel
theorem dX2_highestName_13 : decode cX2_highestName 13 = .ok (.iconst 0, 1) := by decide +kernel
theorem dX2_highestName_14 : decode cX2_highestName 14 = .ok (.istore_n 3, 1) := by decide +kernel
theorem dX2_highestName_15 : decode cX2_highestName 15 = .ok (.iload_n 3, 1) := by decide +kernel
theorem dX2_highestName_16 : decode cX2_highestName 16 = .ok (.aload_n 0, 1) := by decide +kernel
theorem dX2_highestName_17 : decode cX2_highestName 17 = .ok (.getfield 43, 3) := by decide +kernel
theorem dX2_highestName_20 : decode cX2_highestName 20 = .ok (.if_icmp .ge 23, 3) := by decide +kernel
theorem dX2_highestName_23 : decode cX2_highestName 23 = .ok (.iload_n 1, 1) := by decide +kernel
theorem dX2_highestName_24 : decode cX2_highestName 24 = .ok (.aload_n 0, 1) := by decide +kernel
theorem dX2_highestName_25 : decode cX2_highestName 25 = .ok (.iload_n 2, 1) := by decide +kernel
theorem dX2_highestName_26 : decode cX2_highestName 26 = .ok (.invokevirtual 56, 3) := by decide +kernel
theorem dX2_highestName_29 : decode cX2_highestName 29 = .ok (.iload_n 3, 1) := by decide +kernel
theorem dX2_highestName_30 : decode cX2_highestName 30 = .ok (.invokestatic 85, 3) := by decide +kernel
theorem dX2_highestName_33 : decode cX2_highestName 33 = .ok (.invokestatic 107, 3) := by decide +kernel
theorem dX2_highestName_36 : decode cX2_highestName 36 = .ok (.istore_n 1, 1) := by decide +kernel
theorem dX2_highestName_37 : decode cX2_highestName 37 = .ok (.iinc 3 1, 3) := by decide +kernel
theorem dX2_highestName_40 : decode cX2_highestName 40 = .ok (.goto (-25), 3) := by decide +kernel
theorem dX2_highestName_43 : decode cX2_highestName 43 = .ok (.iinc 2 1, 3) := by decide +kernel
theorem dX2_highestName_46 : decode cX2_highestName 46 = .ok (.goto (-41), 3) := by decide +kernel
theorem dX2_highestName_49 : decode cX2_highestName 49 = .ok (.iload_n 1, 1) := by decide +kernel
theorem dX2_highestName_50 : decode cX2_highestName 50 = .ok (.ireturn, 1) := by decide +kernel
set_option maxRecDepth 20000 in
theorem ggX2_depthOf_X2_parentOf : GoodIn wsX2_depthOf wsX2_parentOf := goodIn_r _ [5, 6, 7, 8, 9, 10, 11, 12, 13] (by decide +kernel) (by decide +kernel)
set_option maxRecDepth 20000 in
theorem gX2_depthOf_X2_parentOf : GoodIn wsX2_depthOf (wsV RX2 113 RX2 yX2_parentOf wsX2_parentOf) := goodIn_app (goodIn_of _ (by decide +kernel)) ggX2_depthOf_X2_parentOf
theorem dX2_depthOf_0 : decode cX2_depthOf 0 = .ok (.iload_n 1, 1) := by decide +kernel
theorem dX2_depthOf_1 : decode cX2_depthOf 1 = .ok (.istore_n 2, 1) := by decide +kernel
theorem dX2_depthOf_2 : decode cX2_depthOf 2 = .ok (.iconst 0, 1) := by decide +kernel
theorem dX2_depthOf_3 : decode cX2_depthOf 3 = .ok (.istore_n 3, 1) := by decide +kernel
theorem dX2_depthOf_4 : decode cX2_depthOf 4 = .ok (.iload_n 2, 1) := by decide +kernel
theorem dX2_depthOf_5 : decode cX2_depthOf 5 = .ok (.ifCond .le 22, 3) := by decide +kernel
theorem dX2_depthOf_8 : decode cX2_depthOf 8 = .ok (.iload_n 3, 1) := by decide +kernel
theorem dX2_depthOf_9 : decode cX2_depthOf 9 = .ok (.sipush 4000, 3) := by decide +kernel
theorem dX2_depthOf_12 : decode cX2_depthOf 12 = .ok (.if_icmp .ge 15, 3) := by decide +kernel
theorem dX2_depthOf_15 : decode cX2_depthOf 15 = .ok (.aload_n 0, 1) := by decide +kernel
theorem dX2_depthOf_16 : decode cX2_depthOf 16 = .ok (.iload_n 2, 1) := by decide +kernel
theorem dX2_depthOf_17 : decode cX2_depthOf 17 = .ok (.invokevirtual 113, 3) := by decide +kernel
theorem dX2_depthOf_20 : decode cX2_depthOf 20 = .ok (.istore_n 2, 1) := by decide +kernel
theorem dX2_depthOf_21 : decode cX2_depthOf 21 = .ok (.iinc 3 1, 3) := by decide +kernel
theorem dX2_depthOf_24 : decode cX2_depthOf 24 = .ok (.goto (-20), 3) := by decide +kernel
theorem dX2_depthOf_27 : decode cX2_depthOf 27 = .ok (.iload_n 3, 1) := by decide +kernel
theorem dX2_depthOf_28 : decode cX2_depthOf 28 = .ok (.ireturn, 1) := by decide +kernel
set_option maxRecDepth 20000 in
theorem ggX2_moverTowardsViolation_X2_firstViolation : GoodIn wsX2_moverTowardsViolation wsX2_firstViolation := goodIn_r _ [6, 7, 8, 9, 10, 5, 11, 12, 13, 14, 15, 16, 17, 18, 19, 20, 21, 22, 23, 24, 25, 26, 27, 37, 38, 39, 40, 41, 42, 43] (by decide +kernel) (by decide +kernel)
set_option maxRecDepth 20000 in
theorem gX2_moverTowardsViolation_X2_firstViolation : GoodIn wsX2_moverTowardsViolation (wsV RX2 117 RX2 yX2_firstViolation wsX2_firstViolation) := goodIn_app (goodIn_of _ (by decide +kernel)) ggX2_moverTowardsViolation_X2_firstViolation
set_option maxRecDepth 20000 in
theorem ggX2_moverTowardsViolation_X2_depthOf : GoodIn wsX2_moverTowardsViolation wsX2_depthOf := goodIn_r _ [31, 32, 33, 34, 5, 35, 36, 37, 38, 39, 40, 41, 42, 43] (by decide +kernel) (by decide +kernel)
set_option maxRecDepth 20000 in
theorem gX2_moverTowardsViolation_X2_depthOf : GoodIn wsX2_moverTowardsViolation (wsV RX2 121 RX2 yX2_depthOf wsX2_depthOf) := goodIn_app (goodIn_of _ (by decide +kernel)) ggX2_moverTowardsViolation_X2_depthOf
set_option maxRecDepth 20000 in
theorem ggX2_moverTowardsViolation_X2_parentOf : GoodIn wsX2_moverTowardsViolation wsX2_parentOf := goodIn_r _ [35, 36, 37, 38, 39, 40, 41, 42, 43] (by decide +kernel) (by decide +kernel)
set_option maxRecDepth 20000 in
theorem gX2_moverTowardsViolation_X2_parentOf : GoodIn wsX2_moverTowardsViolation (wsV RX2 113 RX2 yX2_parentOf wsX2_parentOf) := goodIn_app (goodIn_of _ (by decide +kernel)) ggX2_moverTowardsViolation_X2_parentOf
theorem dX2_moverTowardsViolation_0 : decode cX2_moverTowardsViolation 0 = .ok (.aload_n 0, 1) := by decide +kernel
theorem dX2_moverTowardsViolation_1 : decode cX2_moverTowardsViolation 1 = .ok (.invokevirtual 117, 3) := by decide +kernel
theorem dX2_moverTowardsViolation_4 : decode cX2_moverTowardsViolation 4 = .ok (.istore_n 2, 1) := by decide +kernel
theorem dX2_moverTowardsViolation_5 : decode cX2_moverTowardsViolation 5 = .ok (.aload_n 0, 1) := by decide +kernel
theorem dX2_moverTowardsViolation_6 : decode cX2_moverTowardsViolation 6 = .ok (.iload_n 2, 1) := by decide +kernel
theorem dX2_moverTowardsViolation_7 : decode cX2_moverTowardsViolation 7 = .ok (.invokevirtual 121, 3) := by decide +kernel
theorem dX2_moverTowardsViolation_10 : decode cX2_moverTowardsViolation 10 = .ok (.iconst 1, 1) := by decide +kernel
theorem dX2_moverTowardsViolation_11 : decode cX2_moverTowardsViolation 11 = .ok (.isub, 1) := by decide +kernel
theorem dX2_moverTowardsViolation_12 : decode cX2_moverTowardsViolation 12 = .ok (.iload_n 1, 1) := by decide +kernel
theorem dX2_moverTowardsViolation_13 : decode cX2_moverTowardsViolation 13 = .ok (.isub, 1) := by decide +kernel
theorem dX2_moverTowardsViolation_14 : decode cX2_moverTowardsViolation 14 = .ok (.istore_n 3, 1) := by decide +kernel
theorem dX2_moverTowardsViolation_15 : decode cX2_moverTowardsViolation 15 = .ok (.iload_n 3, 1) := by decide +kernel
theorem dX2_moverTowardsViolation_16 : decode cX2_moverTowardsViolation 16 = .ok (.ifCond .ge 6, 3) := by decide +kernel
theorem dX2_moverTowardsViolation_19 : decode cX2_moverTowardsViolation 19 = .ok (.bipush (-9), 2) := by decide +kernel
theorem dX2_moverTowardsViolation_21 : decode cX2_moverTowardsViolation 21 = .ok (.ireturn, 1) := by decide +kernel
theorem dX2_moverTowardsViolation_22 : decode cX2_moverTowardsViolation 22 = .ok (.iconst 0, 1) := by decide +kernel
theorem dX2_moverTowardsViolation_23 : decode cX2_moverTowardsViolation 23 = .ok (.istore 4, 2) := by decide +kernel
theorem dX2_moverTowardsViolation_25 : decode cX2_moverTowardsViolation 25 = .ok (.iload 4, 2) := by decide +kernel
theorem dX2_moverTowardsViolation_27 : decode cX2_moverTowardsViolation 27 = .ok (.iload_n 3, 1) := by decide +kernel
theorem dX2_moverTowardsViolation_28 : decode cX2_moverTowardsViolation 28 = .ok (.if_icmp .ge 15, 3) := by decide +kernel
theorem dX2_moverTowardsViolation_31 : decode cX2_moverTowardsViolation 31 = .ok (.aload_n 0, 1) := by decide +kernel
theorem dX2_moverTowardsViolation_32 : decode cX2_moverTowardsViolation 32 = .ok (.iload_n 2, 1) := by decide +kernel
theorem dX2_moverTowardsViolation_33 : decode cX2_moverTowardsViolation 33 = .ok (.invokevirtual 113, 3) := by decide +kernel
theorem dX2_moverTowardsViolation_36 : decode cX2_moverTowardsViolation 36 = .ok (.istore_n 2, 1) := by decide +kernel
theorem dX2_moverTowardsViolation_37 : decode cX2_moverTowardsViolation 37 = .ok (.iinc 4 1, 3) := by decide +kernel
theorem dX2_moverTowardsViolation_40 : decode cX2_moverTowardsViolation 40 = .ok (.goto (-15), 3) := by decide +kernel
theorem dX2_moverTowardsViolation_43 : decode cX2_moverTowardsViolation 43 = .ok (.iload_n 2, 1) := by decide +kernel
theorem dX2_moverTowardsViolation_44 : decode cX2_moverTowardsViolation 44 = .ok (.ifCond .lt 21, 3) := by decide +kernel
theorem dX2_moverTowardsViolation_47 : decode cX2_moverTowardsViolation 47 = .ok (.iload_n 2, 1) := by decide +kernel
theorem dX2_moverTowardsViolation_48 : decode cX2_moverTowardsViolation 48 = .ok (.aload_n 0, 1) := by decide +kernel
theorem dX2_moverTowardsViolation_49 : decode cX2_moverTowardsViolation 49 = .ok (.getfield 19, 3) := by decide +kernel
theorem dX2_moverTowardsViolation_52 : decode cX2_moverTowardsViolation 52 = .ok (.arraylength, 1) := by decide +kernel
theorem dX2_moverTowardsViolation_53 : decode cX2_moverTowardsViolation 53 = .ok (.if_icmp .ge 12, 3) := by decide +kernel
theorem dX2_moverTowardsViolation_56 : decode cX2_moverTowardsViolation 56 = .ok (.aload_n 0, 1) := by decide +kernel
theorem dX2_moverTowardsViolation_57 : decode cX2_moverTowardsViolation 57 = .ok (.getfield 19, 3) := by decide +kernel
theorem dX2_moverTowardsViolation_60 : decode cX2_moverTowardsViolation 60 = .ok (.iload_n 2, 1) := by decide +kernel
theorem dX2_moverTowardsViolation_61 : decode cX2_moverTowardsViolation 61 = .ok (.iaload, 1) := by decide +kernel
theorem dX2_moverTowardsViolation_62 : decode cX2_moverTowardsViolation 62 = .ok (.goto 5, 3) := by decide +kernel
theorem dX2_moverTowardsViolation_65 : decode cX2_moverTowardsViolation 65 = .ok (.bipush (-9), 2) := by decide +kernel
theorem dX2_moverTowardsViolation_67 : decode cX2_moverTowardsViolation 67 = .ok (.ireturn, 1) := by decide +kernel
set_option maxRecDepth 20000 in
theorem ggX2_firstViolation_X2_foundAt : GoodIn wsX2_firstViolation wsX2_foundAt := goodIn_r _ [6, 7, 23, 24, 25, 26, 27, 28, 29] (by decide +kernel) (by decide +kernel)
set_option maxRecDepth 20000 in
theorem gX2_firstViolation_X2_foundAt : GoodIn wsX2_firstViolation (wsV RX2 56 RX2 yX2_foundAt wsX2_foundAt) := goodIn_app (goodIn_of _ (by decide +kernel)) ggX2_firstViolation_X2_foundAt
set_option maxRecDepth 20000 in
theorem ggX2_firstViolation_X2_isViolation : GoodIn wsX2_firstViolation wsX2_isViolation := goodIn_r _ [11, 12, 13, 14, 15, 16, 17, 18, 19, 20, 21, 22, 23, 24, 25, 26, 27, 28, 29] (by decide +kernel) (by decide +kernel)
set_option maxRecDepth 20000 in
theorem gX2_firstViolation_X2_isViolation : GoodIn wsX2_firstViolation (wsV RX2 88 RX2 yX2_isViolation wsX2_isViolation) := goodIn_app (goodIn_of _ (by decide +kernel)) ggX2_firstViolation_X2_isViolation
theorem dX2_firstViolation_0 : decode cX2_firstViolation 0 = .ok (.iconst 0, 1) := by decide +kernel
theorem dX2_firstViolation_1 : decode cX2_firstViolation 1 = .ok (.istore_n 1, 1) := by decide +kernel
theorem dX2_firstViolation_2 : decode cX2_firstViolation 2 = .ok (.iload_n 1, 1) := by decide +kernel
theorem dX2_firstViolation_3 : decode cX2_firstViolation 3 = .ok (.aload_n 0, 1) := by decide +kernel
theorem dX2_firstViolation_4 : decode cX2_firstViolation 4 = .ok (.getfield 34, 3) := by decide +kernel
theorem dX2_firstViolation_7 : decode cX2_firstViolation 7 = .ok (.if_icmp .ge 23, 3) := by decide +kernel
theorem dX2_firstViolation_10 : decode cX2_firstViolation 10 = .ok (.aload_n 0, 1) := by decide +kernel
theorem dX2_firstViolation_11 : decode cX2_firstViolation 11 = .ok (.aload_n 0, 1) := by decide +kernel
theorem dX2_firstViolation_12 : decode cX2_firstViolation 12 = .ok (.iload_n 1, 1) := by decide +kernel
theorem dX2_firstViolation_13 : decode cX2_firstViolation 13 = .ok (.invokevirtual 56, 3) := by decide +kernel
theorem dX2_firstViolation_16 : decode cX2_firstViolation 16 = .ok (.invokevirtual 88, 3) := by decide +kernel
theorem dX2_firstViolation_19 : decode cX2_firstViolation 19 = .ok (.ifCond .eq 5, 3) := by decide +kernel
theorem dX2_firstViolation_22 : decode cX2_firstViolation 22 = .ok (.iload_n 1, 1) := by decide +kernel
theorem dX2_firstViolation_23 : decode cX2_firstViolation 23 = .ok (.ireturn, 1) := by decide +kernel
theorem dX2_firstViolation_24 : decode cX2_firstViolation 24 = .ok (.iinc 1 1, 3) := by decide +kernel
theorem dX2_firstViolation_27 : decode cX2_firstViolation 27 = .ok (.goto (-25), 3) := by decide +kernel
theorem dX2_firstViolation_30 : decode cX2_firstViolation 30 = .ok (.bipush (-9), 2) := by decide +kernel
theorem dX2_firstViolation_32 : decode cX2_firstViolation 32 = .ok (.ireturn, 1) := by decide +kernel
theorem dX2_parentOf_0 : decode cX2_parentOf 0 = .ok (.iload_n 1, 1) := by decide +kernel
theorem dX2_parentOf_1 : decode cX2_parentOf 1 = .ok (.ifCond .lt 21, 3) := by decide +kernel
theorem dX2_parentOf_4 : decode cX2_parentOf 4 = .ok (.iload_n 1, 1) := by decide +kernel
theorem dX2_parentOf_5 : decode cX2_parentOf 5 = .ok (.aload_n 0, 1) := by decide +kernel
theorem dX2_parentOf_6 : decode cX2_parentOf 6 = .ok (.getfield 15, 3) := by decide +kernel
theorem dX2_parentOf_9 : decode cX2_parentOf 9 = .ok (.arraylength, 1) := by decide +kernel
theorem dX2_parentOf_10 : decode cX2_parentOf 10 = .ok (.if_icmp .ge 12, 3) := by decide +kernel
theorem dX2_parentOf_13 : decode cX2_parentOf 13 = .ok (.aload_n 0, 1) := by decide +kernel
theorem dX2_parentOf_14 : decode cX2_parentOf 14 = .ok (.getfield 15, 3) := by decide +kernel
theorem dX2_parentOf_17 : decode cX2_parentOf 17 = .ok (.iload_n 1, 1) := by decide +kernel
theorem dX2_parentOf_18 : decode cX2_parentOf 18 = .ok (.iaload, 1) := by decide +kernel
theorem dX2_parentOf_19 : decode cX2_parentOf 19 = .ok (.goto 4, 3) := by decide +kernel
theorem dX2_parentOf_22 : decode cX2_parentOf 22 = .ok (.iconst 0, 1) := by decide +kernel
theorem dX2_parentOf_23 : decode cX2_parentOf 23 = .ok (.ireturn, 1) := by decide +kernel
set_option maxRecDepth 20000 in
theorem ggX2_isFinal_X0_statusIn : GoodIn wsX2_isFinal wsX0_statusIn := goodIn_r _ [5] (by decide +kernel) (by decide +kernel)
set_option maxRecDepth 20000 in
theorem gX2_isFinal_X0_statusIn : GoodIn wsX2_isFinal (va_wsS RX2 60 yX0_statusIn wsX0_statusIn) := goodIn_app (goodIn_of _ (by decide +kernel)) ggX2_isFinal_X0_statusIn
theorem dX2_isFinal_0 : decode cX2_isFinal 0 = .ok (.iconst 0, 1) := by decide +kernel
theorem dX2_isFinal_1 : decode cX2_isFinal 1 = .ok (.istore_n 3, 1) := by decide +kernel
theorem dX2_isFinal_2 : decode cX2_isFinal 2 = .ok (.iload_n 3, 1) := by decide +kernel
theorem dX2_isFinal_3 : decode cX2_isFinal 3 = .ok (.aload_n 0, 1) := by decide +kernel
theorem dX2_isFinal_4 : decode cX2_isFinal 4 = .ok (.getfield 43, 3) := by decide +kernel
theorem dX2_isFinal_7 : decode cX2_isFinal 7 = .ok (.if_icmp .ge 19, 3) := by decide +kernel
theorem dX2_isFinal_10 : decode cX2_isFinal 10 = .ok (.lload_n 1, 1) := by decide +kernel
theorem dX2_isFinal_11 : decode cX2_isFinal 11 = .ok (.iload_n 3, 1) := by decide +kernel
theorem dX2_isFinal_12 : decode cX2_isFinal 12 = .ok (.invokestatic 60, 3) := by decide +kernel
theorem dX2_isFinal_15 : decode cX2_isFinal 15 = .ok (.ifCond .ne 5, 3) := by decide +kernel
theorem dX2_isFinal_18 : decode cX2_isFinal 18 = .ok (.iconst 0, 1) := by decide +kernel
theorem dX2_isFinal_19 : decode cX2_isFinal 19 = .ok (.ireturn, 1) := by decide +kernel
theorem dX2_isFinal_20 : decode cX2_isFinal 20 = .ok (.iinc 3 1, 3) := by decide +kernel
theorem dX2_isFinal_23 : decode cX2_isFinal 23 = .ok (.goto (-21), 3) := by decide +kernel
theorem dX2_isFinal_26 : decode cX2_isFinal 26 = .ok (.iconst 1, 1) := by decide +kernel
theorem dX2_isFinal_27 : decode cX2_isFinal 27 = .ok (.ireturn, 1) := by decide +kernel
set_option maxRecDepth 20000 in
theorem ggX2_isViolation_X0_nameIn : GoodIn wsX2_isViolation wsX0_nameIn := goodIn_r _ [5, 6, 7, 4, 8, 9, 10, 11] (by decide +kernel) (by decide +kernel)
set_option maxRecDepth 20000 in
theorem gX2_isViolation_X0_nameIn : GoodIn wsX2_isViolation (va_wsS RX2 85 yX0_nameIn wsX0_nameIn) := goodIn_app (goodIn_of _ (by decide +kernel)) ggX2_isViolation_X0_nameIn
theorem dX2_isViolation_0 : decode cX2_isViolation 0 = .ok (.iconst 1, 1) := by decide +kernel
theorem dX2_isViolation_1 : decode cX2_isViolation 1 = .ok (.istore_n 3, 1) := by decide +kernel
theorem dX2_isViolation_2 : decode cX2_isViolation 2 = .ok (.iload_n 3, 1) := by decide +kernel
theorem dX2_isViolation_3 : decode cX2_isViolation 3 = .ok (.aload_n 0, 1) := by decide +kernel
theorem dX2_isViolation_4 : decode cX2_isViolation 4 = .ok (.getfield 43, 3) := by decide +kernel
theorem dX2_isViolation_7 : decode cX2_isViolation 7 = .ok (.if_icmp .ge 51, 3) := by decide +kernel
theorem dX2_isViolation_10 : decode cX2_isViolation 10 = .ok (.lload_n 1, 1) := by decide +kernel
theorem dX2_isViolation_11 : decode cX2_isViolation 11 = .ok (.iload_n 3, 1) := by decide +kernel
theorem dX2_isViolation_12 : decode cX2_isViolation 12 = .ok (.invokestatic 85, 3) := by decide +kernel
theorem dX2_isViolation_15 : decode cX2_isViolation 15 = .ok (.istore 4, 2) := by decide +kernel
theorem dX2_isViolation_17 : decode cX2_isViolation 17 = .ok (.iconst 0, 1) := by decide +kernel
theorem dX2_isViolation_18 : decode cX2_isViolation 18 = .ok (.istore 5, 2) := by decide +kernel
theorem dX2_isViolation_20 : decode cX2_isViolation 20 = .ok (.iload 5, 2) := by decide +kernel
theorem dX2_isViolation_22 : decode cX2_isViolation 22 = .ok (.iload_n 3, 1) := by decide +kernel
theorem dX2_isViolation_23 : decode cX2_isViolation 23 = .ok (.if_icmp .ge 29, 3) := by decide +kernel
theorem dX2_isViolation_26 : decode cX2_isViolation 26 = .ok (.iload 4, 2) := by decide +kernel
theorem dX2_isViolation_28 : decode cX2_isViolation 28 = .ok (.bipush (-9), 2) := by decide +kernel
theorem dX2_isViolation_30 : decode cX2_isViolation 30 = .ok (.if_icmp .eq 16, 3) := by decide +kernel
theorem dX2_isViolation_33 : decode cX2_isViolation 33 = .ok (.iload 4, 2) := by decide +kernel
theorem dX2_isViolation_35 : decode cX2_isViolation 35 = .ok (.lload_n 1, 1) := by decide +kernel
theorem dX2_isViolation_36 : decode cX2_isViolation 36 = .ok (.iload 5, 2) := by decide +kernel
theorem dX2_isViolation_38 : decode cX2_isViolation 38 = .ok (.invokestatic 85, 3) := by decide +kernel
theorem dX2_isViolation_41 : decode cX2_isViolation 41 = .ok (.if_icmp .ne 5, 3) := by decide +kernel
theorem dX2_isViolation_44 : decode cX2_isViolation 44 = .ok (.iconst 1, 1) := by decide +kernel
theorem dX2_isViolation_45 : decode cX2_isViolation 45 = .ok (.ireturn, 1) := by decide +kernel
theorem dX2_isViolation_46 : decode cX2_isViolation 46 = .ok (.iinc 5 1, 3) := by decide +kernel
theorem dX2_isViolation_49 : decode cX2_isViolation 49 = .ok (.goto (-29), 3) := by decide +kernel
theorem dX2_isViolation_52 : decode cX2_isViolation 52 = .ok (.iinc 3 1, 3) := by decide +kernel
theorem dX2_isViolation_55 : decode cX2_isViolation 55 = .ok (.goto (-53), 3) := by decide +kernel
theorem dX2_isViolation_58 : decode cX2_isViolation 58 = .ok (.iconst 0, 1) := by decide +kernel
theorem dX2_isViolation_59 : decode cX2_isViolation 59 = .ok (.ireturn, 1) := by decide +kernel
set_option maxRecDepth 20000 in
theorem ggX2_outcomeOf_X0_nameIn : GoodIn wsX2_outcomeOf wsX0_nameIn := goodIn_r _ [5, 6, 7, 4, 8, 9, 10, 11] (by decide +kernel) (by decide +kernel)
set_option maxRecDepth 20000 in
theorem gX2_outcomeOf_X0_nameIn : GoodIn wsX2_outcomeOf (va_wsS RX2 85 yX0_nameIn wsX0_nameIn) := goodIn_app (goodIn_of _ (by decide +kernel)) ggX2_outcomeOf_X0_nameIn
theorem dX2_outcomeOf_0 : decode cX2_outcomeOf 0 = .ok (.iconst 0, 1) := by decide +kernel
theorem dX2_outcomeOf_1 : decode cX2_outcomeOf 1 = .ok (.istore_n 3, 1) := by decide +kernel
theorem dX2_outcomeOf_2 : decode cX2_outcomeOf 2 = .ok (.iconst 0, 1) := by decide +kernel
theorem dX2_outcomeOf_3 : decode cX2_outcomeOf 3 = .ok (.istore 4, 2) := by decide +kernel
theorem dX2_outcomeOf_5 : decode cX2_outcomeOf 5 = .ok (.iload 4, 2) := by decide +kernel
theorem dX2_outcomeOf_7 : decode cX2_outcomeOf 7 = .ok (.aload_n 0, 1) := by decide +kernel
theorem dX2_outcomeOf_8 : decode cX2_outcomeOf 8 = .ok (.getfield 43, 3) := by decide +kernel
theorem dX2_outcomeOf_11 : decode cX2_outcomeOf 11 = .ok (.if_icmp .ge 38, 3) := by decide +kernel
theorem dX2_outcomeOf_14 : decode cX2_outcomeOf 14 = .ok (.lload_n 1, 1) := by decide +kernel
theorem dX2_outcomeOf_15 : decode cX2_outcomeOf 15 = .ok (.iload 4, 2) := by decide +kernel
theorem dX2_outcomeOf_17 : decode cX2_outcomeOf 17 = .ok (.invokestatic 85, 3) := by decide +kernel
theorem dX2_outcomeOf_20 : decode cX2_outcomeOf 20 = .ok (.istore 5, 2) := by decide +kernel
theorem dX2_outcomeOf_22 : decode cX2_outcomeOf 22 = .ok (.iload_n 3, 1) := by decide +kernel
theorem dX2_outcomeOf_23 : decode cX2_outcomeOf 23 = .ok (.bipush 16, 2) := by decide +kernel
theorem dX2_outcomeOf_25 : decode cX2_outcomeOf 25 = .ok (.imul, 1) := by decide +kernel
theorem dX2_outcomeOf_26 : decode cX2_outcomeOf 26 = .ok (.iload 5, 2) := by decide +kernel
theorem dX2_outcomeOf_28 : decode cX2_outcomeOf 28 = .ok (.bipush (-9), 2) := by decide +kernel
theorem dX2_outcomeOf_30 : decode cX2_outcomeOf 30 = .ok (.if_icmp .ne 7, 3) := by decide +kernel
theorem dX2_outcomeOf_33 : decode cX2_outcomeOf 33 = .ok (.iconst 0, 1) := by decide +kernel
theorem dX2_outcomeOf_34 : decode cX2_outcomeOf 34 = .ok (.goto 7, 3) := by decide +kernel
theorem dX2_outcomeOf_37 : decode cX2_outcomeOf 37 = .ok (.iload 5, 2) := by decide +kernel
theorem dX2_outcomeOf_39 : decode cX2_outcomeOf 39 = .ok (.iconst 1, 1) := by decide +kernel
theorem dX2_outcomeOf_40 : decode cX2_outcomeOf 40 = .ok (.iadd, 1) := by decide +kernel
theorem dX2_outcomeOf_41 : decode cX2_outcomeOf 41 = .ok (.iadd, 1) := by decide +kernel
theorem dX2_outcomeOf_42 : decode cX2_outcomeOf 42 = .ok (.istore_n 3, 1) := by decide +kernel
theorem dX2_outcomeOf_43 : decode cX2_outcomeOf 43 = .ok (.iinc 4 1, 3) := by decide +kernel
theorem dX2_outcomeOf_46 : decode cX2_outcomeOf 46 = .ok (.goto (-41), 3) := by decide +kernel
theorem dX2_outcomeOf_49 : decode cX2_outcomeOf 49 = .ok (.iload_n 3, 1) := by decide +kernel
theorem dX2_outcomeOf_50 : decode cX2_outcomeOf 50 = .ok (.ireturn, 1) := by decide +kernel
theorem dX2_markOutcome_0 : decode cX2_markOutcome 0 = .ok (.iload_n 1, 1) := by decide +kernel
theorem dX2_markOutcome_1 : decode cX2_markOutcome 1 = .ok (.bipush 6, 2) := by decide +kernel
theorem dX2_markOutcome_3 : decode cX2_markOutcome 3 = .ok (.ishr, 1) := by decide +kernel
theorem dX2_markOutcome_4 : decode cX2_markOutcome 4 = .ok (.istore_n 2, 1) := by decide +kernel
theorem dX2_markOutcome_5 : decode cX2_markOutcome 5 = .ok (.iload_n 2, 1) := by decide +kernel
theorem dX2_markOutcome_6 : decode cX2_markOutcome 6 = .ok (.ifCond .lt 27, 3) := by decide +kernel
theorem dX2_markOutcome_9 : decode cX2_markOutcome 9 = .ok (.iload_n 2, 1) := by decide +kernel
theorem dX2_markOutcome_10 : decode cX2_markOutcome 10 = .ok (.aload_n 0, 1) := by decide +kernel
theorem dX2_markOutcome_11 : decode cX2_markOutcome 11 = .ok (.getfield 25, 3) := by decide +kernel
theorem dX2_markOutcome_14 : decode cX2_markOutcome 14 = .ok (.arraylength, 1) := by decide +kernel
theorem dX2_markOutcome_15 : decode cX2_markOutcome 15 = .ok (.if_icmp .ge 18, 3) := by decide +kernel
theorem dX2_markOutcome_18 : decode cX2_markOutcome 18 = .ok (.aload_n 0, 1) := by decide +kernel
theorem dX2_markOutcome_19 : decode cX2_markOutcome 19 = .ok (.getfield 25, 3) := by decide +kernel
theorem dX2_markOutcome_22 : decode cX2_markOutcome 22 = .ok (.iload_n 2, 1) := by decide +kernel
theorem dX2_markOutcome_23 : decode cX2_markOutcome 23 = .ok (.dup2, 1) := by decide +kernel
theorem dX2_markOutcome_24 : decode cX2_markOutcome 24 = .ok (.laload, 1) := by decide +kernel
theorem dX2_markOutcome_25 : decode cX2_markOutcome 25 = .ok (.lconst 1, 1) := by decide +kernel
theorem dX2_markOutcome_26 : decode cX2_markOutcome 26 = .ok (.iload_n 1, 1) := by decide +kernel
theorem dX2_markOutcome_27 : decode cX2_markOutcome 27 = .ok (.bipush 63, 2) := by decide +kernel
theorem dX2_markOutcome_29 : decode cX2_markOutcome 29 = .ok (.iand, 1) := by decide +kernel
theorem dX2_markOutcome_30 : decode cX2_markOutcome 30 = .ok (.lshl, 1) := by decide +kernel
theorem dX2_markOutcome_31 : decode cX2_markOutcome 31 = .ok (.lor, 1) := by decide +kernel
theorem dX2_markOutcome_32 : decode cX2_markOutcome 32 = .ok (.lastore, 1) := by decide +kernel
theorem dX2_markOutcome_33 : decode cX2_markOutcome 33 = .ok (.return_, 1) := by decide +kernel
theorem dX3_init_0 : decode cX3_init 0 = .ok (.aload_n 0, 1) := by decide +kernel
theorem dX3_init_1 : decode cX3_init 1 = .ok (.invokespecial 3, 3) := by decide +kernel
theorem dX3_init_4 : decode cX3_init 4 = .ok (.aload_n 0, 1) := by decide +kernel
theorem dX3_init_5 : decode cX3_init 5 = .ok (.bipush 80, 2) := by decide +kernel
theorem dX3_init_7 : decode cX3_init 7 = .ok (.newarray .char, 2) := by decide +kernel
theorem dX3_init_9 : decode cX3_init 9 = .ok (.putfield 9, 3) := by decide +kernel
theorem dX3_init_12 : decode cX3_init 12 = .ok (.aload_n 0, 1) := by decide +kernel
theorem dX3_init_13 : decode cX3_init 13 = .ok (.bipush 40, 2) := by decide +kernel
theorem dX3_init_15 : decode cX3_init 15 = .ok (.newarray .int, 2) := by decide +kernel
theorem dX3_init_17 : decode cX3_init 17 = .ok (.putfield 13, 3) := by decide +kernel
theorem dX3_init_20 : decode cX3_init 20 = .ok (.aload_n 0, 1) := by decide +kernel
theorem dX3_init_21 : decode cX3_init 21 = .ok (.bipush 40, 2) := by decide +kernel
theorem dX3_init_23 : decode cX3_init 23 = .ok (.newarray .int, 2) := by decide +kernel
theorem dX3_init_25 : decode cX3_init 25 = .ok (.putfield 17, 3) := by decide +kernel
theorem dX3_init_28 : decode cX3_init 28 = .ok (.return_, 1) := by decide +kernel
theorem dX3_isFull_0 : decode cX3_isFull 0 = .ok (.aload_n 0, 1) := by decide +kernel
theorem dX3_isFull_1 : decode cX3_isFull 1 = .ok (.getfield 20, 3) := by decide +kernel
theorem dX3_isFull_4 : decode cX3_isFull 4 = .ok (.aload_n 0, 1) := by decide +kernel
theorem dX3_isFull_5 : decode cX3_isFull 5 = .ok (.getfield 9, 3) := by decide +kernel
theorem dX3_isFull_8 : decode cX3_isFull 8 = .ok (.arraylength, 1) := by decide +kernel
theorem dX3_isFull_9 : decode cX3_isFull 9 = .ok (.if_icmp .lt 7, 3) := by decide +kernel
theorem dX3_isFull_12 : decode cX3_isFull 12 = .ok (.iconst 1, 1) := by decide +kernel
theorem dX3_isFull_13 : decode cX3_isFull 13 = .ok (.goto 4, 3) := by decide +kernel
theorem dX3_isFull_16 : decode cX3_isFull 16 = .ok (.iconst 0, 1) := by decide +kernel
theorem dX3_isFull_17 : decode cX3_isFull 17 = .ok (.ireturn, 1) := by decide +kernel
set_option maxRecDepth 20000 in
theorem ggX3_add_X3_isFull : GoodIn wsX3_add wsX3_isFull := goodIn_r _ [7, 2, 1, 8, 9, 10, 11, 12] (by decide +kernel) (by decide +kernel)
set_option maxRecDepth 20000 in
theorem gX3_add_X3_isFull : GoodIn wsX3_add (wsV RX3 24 RX3 yX3_isFull wsX3_isFull) := goodIn_app (goodIn_of _ (by decide +kernel)) ggX3_add_X3_isFull
theorem dX3_add_0 : decode cX3_add 0 = .ok (.aload_n 0, 1) := by decide +kernel
theorem dX3_add_1 : decode cX3_add 1 = .ok (.invokevirtual 24, 3) := by decide +kernel
theorem dX3_add_4 : decode cX3_add 4 = .ok (.ifCond .ne 23, 3) := by decide +kernel
theorem dX3_add_7 : decode cX3_add 7 = .ok (.aload_n 0, 1) := by decide +kernel
theorem dX3_add_8 : decode cX3_add 8 = .ok (.getfield 9, 3) := by decide +kernel
theorem dX3_add_11 : decode cX3_add 11 = .ok (.aload_n 0, 1) := by decide +kernel
theorem dX3_add_12 : decode cX3_add 12 = .ok (.getfield 20, 3) := by decide +kernel
theorem dX3_add_15 : decode cX3_add 15 = .ok (.iload_n 1, 1) := by decide +kernel
theorem dX3_add_16 : decode cX3_add 16 = .ok (.castore, 1) := by decide +kernel
theorem dX3_add_17 : decode cX3_add 17 = .ok (.aload_n 0, 1) := by decide +kernel
theorem dX3_add_18 : decode cX3_add 18 = .ok (.dup, 1) := by decide +kernel
theorem dX3_add_19 : decode cX3_add 19 = .ok (.getfield 20, 3) := by decide +kernel
theorem dX3_add_22 : decode cX3_add 22 = .ok (.iconst 1, 1) := by decide +kernel
theorem dX3_add_23 : decode cX3_add 23 = .ok (.iadd, 1) := by decide +kernel
theorem dX3_add_24 : decode cX3_add 24 = .ok (.putfield 20, 3) := by decide +kernel
theorem dX3_add_27 : decode cX3_add 27 = .ok (.aload_n 0, 1) := by decide +kernel
theorem dX3_add_28 : decode cX3_add 28 = .ok (.getfield 20, 3) := by decide +kernel
theorem dX3_add_31 : decode cX3_add 31 = .ok (.ireturn, 1) := by decide +kernel
theorem dX3_clear_0 : decode cX3_clear 0 = .ok (.aload_n 0, 1) := by decide +kernel
theorem dX3_clear_1 : decode cX3_clear 1 = .ok (.getfield 20, 3) := by decide +kernel
theorem dX3_clear_4 : decode cX3_clear 4 = .ok (.istore_n 1, 1) := by decide +kernel
theorem dX3_clear_5 : decode cX3_clear 5 = .ok (.aload_n 0, 1) := by decide +kernel
theorem dX3_clear_6 : decode cX3_clear 6 = .ok (.iconst 0, 1) := by decide +kernel
theorem dX3_clear_7 : decode cX3_clear 7 = .ok (.putfield 20, 3) := by decide +kernel
theorem dX3_clear_10 : decode cX3_clear 10 = .ok (.iload_n 1, 1) := by decide +kernel
theorem dX3_clear_11 : decode cX3_clear 11 = .ok (.ireturn, 1) := by decide +kernel
set_option maxRecDepth 20000 in
theorem ggX3_read_X3_beginsToken : GoodIn wsX3_read wsX3_beginsToken := goodIn_r _ [7, 8, 9, 10, 6, 11, 12, 13, 14, 15, 2, 16, 35, 36, 37, 38, 39] (by decide +kernel) (by decide +kernel)
set_option maxRecDepth 20000 in
theorem gX3_read_X3_beginsToken : GoodIn wsX3_read (wsV RX3 31 RX3 yX3_beginsToken wsX3_beginsToken) := goodIn_app (goodIn_of _ (by decide +kernel)) ggX3_read_X3_beginsToken
set_option maxRecDepth 20000 in
theorem ggX3_read_X3_afterToken : GoodIn wsX3_read wsX3_afterToken := goodIn_r _ [20, 21, 22, 23, 6, 24, 8, 9, 10, 11, 12, 13, 14, 15, 2, 16, 25, 26, 27, 28, 1, 29, 30, 31, 32, 33, 34, 35, 36, 37, 38, 39] (by decide +kernel) (by decide +kernel)
set_option maxRecDepth 20000 in
theorem gX3_read_X3_afterToken : GoodIn wsX3_read (wsV RX3 35 RX3 yX3_afterToken wsX3_afterToken) := goodIn_app (goodIn_of _ (by decide +kernel)) ggX3_read_X3_afterToken
theorem dX3_read_0 : decode cX3_read 0 = .ok (.aload_n 0, 1) := by decide +kernel
theorem dX3_read_1 : decode cX3_read 1 = .ok (.iconst 0, 1) := by decide +kernel
theorem dX3_read_2 : decode cX3_read 2 = .ok (.putfield 28, 3) := by decide +kernel
theorem dX3_read_5 : decode cX3_read 5 = .ok (.iconst 0, 1) := by decide +kernel
theorem dX3_read_6 : decode cX3_read 6 = .ok (.istore_n 2, 1) := by decide +kernel
theorem dX3_read_7 : decode cX3_read 7 = .ok (.iconst 0, 1) := by decide +kernel
theorem dX3_read_8 : decode cX3_read 8 = .ok (.istore_n 3, 1) := by decide +kernel
theorem dX3_read_9 : decode cX3_read 9 = .ok (.iload_n 3, 1) := by decide +kernel
theorem dX3_read_10 : decode cX3_read 10 = .ok (.aload_n 0, 1) := by decide +kernel
theorem dX3_read_11 : decode cX3_read 11 = .ok (.getfield 20, 3) := by decide +kernel
theorem dX3_read_14 : decode cX3_read 14 = .ok (.if_icmp .ge 32, 3) := by decide +kernel
theorem dX3_read_17 : decode cX3_read 17 = .ok (.aload_n 0, 1) := by decide +kernel
theorem dX3_read_18 : decode cX3_read 18 = .ok (.iload_n 3, 1) := by decide +kernel
theorem dX3_read_19 : decode cX3_read 19 = .ok (.invokevirtual 31, 3) := by decide +kernel
theorem dX3_read_22 : decode cX3_read 22 = .ok (.ifCond .eq 18, 3) := by decide +kernel
theorem dX3_read_25 : decode cX3_read 25 = .ok (.aload_n 0, 1) := by decide +kernel
theorem dX3_read_26 : decode cX3_read 26 = .ok (.iload_n 2, 1) := by decide +kernel
theorem dX3_read_27 : decode cX3_read 27 = .ok (.iload_n 3, 1) := by decide +kernel
theorem dX3_read_28 : decode cX3_read 28 = .ok (.iload_n 1, 1) := by decide +kernel
theorem dX3_read_29 : decode cX3_read 29 = .ok (.invokevirtual 35, 3) := by decide +kernel
theorem dX3_read_32 : decode cX3_read 32 = .ok (.istore_n 2, 1) := by decide +kernel
theorem dX3_read_33 : decode cX3_read 33 = .ok (.iload_n 2, 1) := by decide +kernel
theorem dX3_read_34 : decode cX3_read 34 = .ok (.iconst 4, 1) := by decide +kernel
theorem dX3_read_35 : decode cX3_read 35 = .ok (.if_icmp .ne 5, 3) := by decide +kernel
theorem dX3_read_38 : decode cX3_read 38 = .ok (.iload_n 3, 1) := by decide +kernel
theorem dX3_read_39 : decode cX3_read 39 = .ok (.ireturn, 1) := by decide +kernel
theorem dX3_read_40 : decode cX3_read 40 = .ok (.iinc 3 1, 3) := by decide +kernel
theorem dX3_read_43 : decode cX3_read 43 = .ok (.goto (-34), 3) := by decide +kernel
theorem dX3_read_46 : decode cX3_read 46 = .ok (.iload_n 2, 1) := by decide +kernel
theorem dX3_read_47 : decode cX3_read 47 = .ok (.ifCond .ne 14, 3) := by decide +kernel
theorem dX3_read_50 : decode cX3_read 50 = .ok (.aload_n 0, 1) := by decide +kernel
theorem dX3_read_51 : decode cX3_read 51 = .ok (.getfield 28, 3) := by decide +kernel
theorem dX3_read_54 : decode cX3_read 54 = .ok (.ifCond .le 7, 3) := by decide +kernel
theorem dX3_read_57 : decode cX3_read 57 = .ok (.iconst (-1), 1) := by decide +kernel
theorem dX3_read_58 : decode cX3_read 58 = .ok (.goto 7, 3) := by decide +kernel
theorem dX3_read_61 : decode cX3_read 61 = .ok (.aload_n 0, 1) := by decide +kernel
theorem dX3_read_62 : decode cX3_read 62 = .ok (.getfield 20, 3) := by decide +kernel
theorem dX3_read_65 : decode cX3_read 65 = .ok (.ireturn, 1) := by decide +kernel
set_option maxRecDepth 20000 in
theorem ggX3_executeOn_X4_advanceUpTo : GoodIn wsX3_executeOn wsX4_advanceUpTo := goodIn_r _ [8, 9, 10, 11, 7, 12, 13, 14, 15, 16, 17, 18, 19, 20, 21, 22, 23, 24, 25, 26, 27, 28, 29, 30, 31, 32, 33, 34, 35, 36, 37, 38, 39, 40, 41, 42, 43, 44, 45, 46, 47, 48, 49, 50, 51, 52, 53, 54, 55, 56, 57, 58, 59, 60, 61, 62, 63, 64, 65, 66, 67, 68, 69, 70, 71, 72, 73, 74, 75, 76, 77, 83, 84, 85, 86, 87, 88, 89, 90] (by decide +kernel) (by decide +kernel)
set_option maxRecDepth 20000 in
theorem gX3_executeOn_X4_advanceUpTo : GoodIn wsX3_executeOn (wsV RX3 39 RX4 yX4_advanceUpTo wsX4_advanceUpTo) := goodIn_app (goodIn_of _ (by decide +kernel)) ggX3_executeOn_X4_advanceUpTo
theorem dX3_executeOn_0 : decode cX3_executeOn 0 = .ok (.iconst 0, 1) := by decide +kernel
theorem dX3_executeOn_1 : decode cX3_executeOn 1 = .ok (.istore_n 2, 1) := by decide +kernel
theorem dX3_executeOn_2 : decode cX3_executeOn 2 = .ok (.iconst 0, 1) := by decide +kernel
theorem dX3_executeOn_3 : decode cX3_executeOn 3 = .ok (.istore_n 3, 1) := by decide +kernel
theorem dX3_executeOn_4 : decode cX3_executeOn 4 = .ok (.iload_n 3, 1) := by decide +kernel
theorem dX3_executeOn_5 : decode cX3_executeOn 5 = .ok (.aload_n 0, 1) := by decide +kernel
theorem dX3_executeOn_6 : decode cX3_executeOn 6 = .ok (.getfield 28, 3) := by decide +kernel
theorem dX3_executeOn_9 : decode cX3_executeOn 9 = .ok (.if_icmp .ge 46, 3) := by decide +kernel
theorem dX3_executeOn_12 : decode cX3_executeOn 12 = .ok (.iload_n 3, 1) := by decide +kernel
theorem dX3_executeOn_13 : decode cX3_executeOn 13 = .ok (.aload_n 0, 1) := by decide +kernel
theorem dX3_executeOn_14 : decode cX3_executeOn 14 = .ok (.getfield 13, 3) := by decide +kernel
theorem dX3_executeOn_17 : decode cX3_executeOn 17 = .ok (.arraylength, 1) := by decide +kernel
theorem dX3_executeOn_18 : decode cX3_executeOn 18 = .ok (.if_icmp .ge 37, 3) := by decide +kernel
theorem dX3_executeOn_21 : decode cX3_executeOn 21 = .ok (.iload_n 3, 1) := by decide +kernel
theorem dX3_executeOn_22 : decode cX3_executeOn 22 = .ok (.aload_n 0, 1) := by decide +kernel
theorem dX3_executeOn_23 : decode cX3_executeOn 23 = .ok (.getfield 17, 3) := by decide +kernel
theorem dX3_executeOn_26 : decode cX3_executeOn 26 = .ok (.arraylength, 1) := by decide +kernel
theorem dX3_executeOn_27 : decode cX3_executeOn 27 = .ok (.if_icmp .ge 28, 3) := by decide +kernel
theorem dX3_executeOn_30 : decode cX3_executeOn 30 = .ok (.iload_n 2, 1) := by decide +kernel
theorem dX3_executeOn_31 : decode cX3_executeOn 31 = .ok (.aload_n 1, 1) := by decide +kernel
theorem dX3_executeOn_32 : decode cX3_executeOn 32 = .ok (.aload_n 0, 1) := by decide +kernel
theorem dX3_executeOn_33 : decode cX3_executeOn 33 = .ok (.getfield 13, 3) := by decide +kernel
theorem dX3_executeOn_36 : decode cX3_executeOn 36 = .ok (.iload_n 3, 1) := by decide +kernel
theorem dX3_executeOn_37 : decode cX3_executeOn 37 = .ok (.iaload, 1) := by decide +kernel
theorem dX3_executeOn_38 : decode cX3_executeOn 38 = .ok (.aload_n 0, 1) := by decide +kernel
theorem dX3_executeOn_39 : decode cX3_executeOn 39 = .ok (.getfield 17, 3) := by decide +kernel
theorem dX3_executeOn_42 : decode cX3_executeOn 42 = .ok (.iload_n 3, 1) := by decide +kernel
theorem dX3_executeOn_43 : decode cX3_executeOn 43 = .ok (.iaload, 1) := by decide +kernel
theorem dX3_executeOn_44 : decode cX3_executeOn 44 = .ok (.invokevirtual 39, 3) := by decide +kernel
theorem dX3_executeOn_47 : decode cX3_executeOn 47 = .ok (.iadd, 1) := by decide +kernel
theorem dX3_executeOn_48 : decode cX3_executeOn 48 = .ok (.istore_n 2, 1) := by decide +kernel
theorem dX3_executeOn_49 : decode cX3_executeOn 49 = .ok (.iinc 3 1, 3) := by decide +kernel
theorem dX3_executeOn_52 : decode cX3_executeOn 52 = .ok (.goto (-48), 3) := by decide +kernel
theorem dX3_executeOn_55 : decode cX3_executeOn 55 = .ok (.iload_n 2, 1) := by decide +kernel
theorem dX3_executeOn_56 : decode cX3_executeOn 56 = .ok (.ireturn, 1) := by decide +kernel
set_option maxRecDepth 20000 in
theorem ggX3_afterToken_X3_numberAt : GoodIn wsX3_afterToken wsX3_numberAt := goodIn_r _ [5, 6, 7, 8, 4, 9, 10, 11, 12, 13, 14, 15, 27, 28, 29, 30, 31] (by decide +kernel) (by decide +kernel)
set_option maxRecDepth 20000 in
theorem gX3_afterToken_X3_numberAt : GoodIn wsX3_afterToken (wsV RX3 45 RX3 yX3_numberAt wsX3_numberAt) := goodIn_app (goodIn_of _ (by decide +kernel)) ggX3_afterToken_X3_numberAt
set_option maxRecDepth 20000 in
theorem ggX3_afterToken_X3_characterAt : GoodIn wsX3_afterToken wsX3_characterAt := goodIn_r _ [13, 14, 15, 27, 28, 29, 30, 31] (by decide +kernel) (by decide +kernel)
set_option maxRecDepth 20000 in
theorem gX3_afterToken_X3_characterAt : GoodIn wsX3_afterToken (wsV RX3 49 RX3 yX3_characterAt wsX3_characterAt) := goodIn_app (goodIn_of _ (by decide +kernel)) ggX3_afterToken_X3_characterAt
set_option maxRecDepth 20000 in
theorem ggX3_afterToken_X3_addItem : GoodIn wsX3_afterToken wsX3_addItem := goodIn_r _ [19, 20, 21, 22, 27, 28, 29, 30, 31] (by decide +kernel) (by decide +kernel)
set_option maxRecDepth 20000 in
theorem gX3_afterToken_X3_addItem : GoodIn wsX3_afterToken (wsV RX3 52 RX3 yX3_addItem wsX3_addItem) := goodIn_app (goodIn_of _ (by decide +kernel)) ggX3_afterToken_X3_addItem
set_option maxRecDepth 20000 in
theorem ggX3_afterToken_X3_setCount : GoodIn wsX3_afterToken wsX3_setCount := goodIn_r _ [26, 20, 22, 27, 28, 29, 30, 31] (by decide +kernel) (by decide +kernel)
set_option maxRecDepth 20000 in
theorem gX3_afterToken_X3_setCount : GoodIn wsX3_afterToken (wsV RX3 55 RX3 yX3_setCount wsX3_setCount) := goodIn_app (goodIn_of _ (by decide +kernel)) ggX3_afterToken_X3_setCount
theorem dX3_afterToken_0 : decode cX3_afterToken 0 = .ok (.aload_n 0, 1) := by decide +kernel
theorem dX3_afterToken_1 : decode cX3_afterToken 1 = .ok (.iload_n 2, 1) := by decide +kernel
theorem dX3_afterToken_2 : decode cX3_afterToken 2 = .ok (.invokevirtual 45, 3) := by decide +kernel
theorem dX3_afterToken_5 : decode cX3_afterToken 5 = .ok (.istore 4, 2) := by decide +kernel
theorem dX3_afterToken_7 : decode cX3_afterToken 7 = .ok (.aload_n 0, 1) := by decide +kernel
theorem dX3_afterToken_8 : decode cX3_afterToken 8 = .ok (.iload_n 2, 1) := by decide +kernel
theorem dX3_afterToken_9 : decode cX3_afterToken 9 = .ok (.invokevirtual 49, 3) := by decide +kernel
theorem dX3_afterToken_12 : decode cX3_afterToken 12 = .ok (.istore 5, 2) := by decide +kernel
theorem dX3_afterToken_14 : decode cX3_afterToken 14 = .ok (.iload_n 1, 1) := by decide +kernel
theorem dX3_afterToken_15 : decode cX3_afterToken 15 = .ok (.tableswitch 101 0 2 #[25, 51, 73], 25) := by decide +kernel
theorem dX3_afterToken_40 : decode cX3_afterToken 40 = .ok (.iload 4, 2) := by decide +kernel
theorem dX3_afterToken_42 : decode cX3_afterToken 42 = .ok (.ifCond .lt 22, 3) := by decide +kernel
theorem dX3_afterToken_45 : decode cX3_afterToken 45 = .ok (.iload 4, 2) := by decide +kernel
theorem dX3_afterToken_47 : decode cX3_afterToken 47 = .ok (.iload_n 3, 1) := by decide +kernel
theorem dX3_afterToken_48 : decode cX3_afterToken 48 = .ok (.if_icmp .ge 16, 3) := by decide +kernel
theorem dX3_afterToken_51 : decode cX3_afterToken 51 = .ok (.aload_n 0, 1) := by decide +kernel
theorem dX3_afterToken_52 : decode cX3_afterToken 52 = .ok (.iload 4, 2) := by decide +kernel
theorem dX3_afterToken_54 : decode cX3_afterToken 54 = .ok (.invokevirtual 52, 3) := by decide +kernel
theorem dX3_afterToken_57 : decode cX3_afterToken 57 = .ok (.ifCond .eq 7, 3) := by decide +kernel
theorem dX3_afterToken_60 : decode cX3_afterToken 60 = .ok (.iconst 1, 1) := by decide +kernel
theorem dX3_afterToken_61 : decode cX3_afterToken 61 = .ok (.goto 4, 3) := by decide +kernel
theorem dX3_afterToken_64 : decode cX3_afterToken 64 = .ok (.iconst 4, 1) := by decide +kernel
theorem dX3_afterToken_65 : decode cX3_afterToken 65 = .ok (.ireturn, 1) := by decide +kernel
theorem dX3_afterToken_66 : decode cX3_afterToken 66 = .ok (.iload 5, 2) := by decide +kernel
theorem dX3_afterToken_68 : decode cX3_afterToken 68 = .ok (.bipush 42, 2) := by decide +kernel
theorem dX3_afterToken_70 : decode cX3_afterToken 70 = .ok (.if_icmp .ne 5, 3) := by decide +kernel
theorem dX3_afterToken_73 : decode cX3_afterToken 73 = .ok (.iconst 2, 1) := by decide +kernel
theorem dX3_afterToken_74 : decode cX3_afterToken 74 = .ok (.ireturn, 1) := by decide +kernel
theorem dX3_afterToken_75 : decode cX3_afterToken 75 = .ok (.iload 5, 2) := by decide +kernel
theorem dX3_afterToken_77 : decode cX3_afterToken 77 = .ok (.bipush 59, 2) := by decide +kernel
theorem dX3_afterToken_79 : decode cX3_afterToken 79 = .ok (.if_icmp .ne 7, 3) := by decide +kernel
theorem dX3_afterToken_82 : decode cX3_afterToken 82 = .ok (.iconst 0, 1) := by decide +kernel
theorem dX3_afterToken_83 : decode cX3_afterToken 83 = .ok (.goto 4, 3) := by decide +kernel
theorem dX3_afterToken_86 : decode cX3_afterToken 86 = .ok (.iconst 4, 1) := by decide +kernel
theorem dX3_afterToken_87 : decode cX3_afterToken 87 = .ok (.ireturn, 1) := by decide +kernel
theorem dX3_afterToken_88 : decode cX3_afterToken 88 = .ok (.iload 4, 2) := by decide +kernel
theorem dX3_afterToken_90 : decode cX3_afterToken 90 = .ok (.iconst 1, 1) := by decide +kernel
theorem dX3_afterToken_91 : decode cX3_afterToken 91 = .ok (.if_icmp .lt 23, 3) := by decide +kernel
theorem dX3_afterToken_94 : decode cX3_afterToken 94 = .ok (.iload 4, 2) := by decide +kernel
theorem dX3_afterToken_96 : decode cX3_afterToken 96 = .ok (.bipush 30, 2) := by decide +kernel
theorem dX3_afterToken_98 : decode cX3_afterToken 98 = .ok (.if_icmp .gt 16, 3) := by decide +kernel
theorem dX3_afterToken_101 : decode cX3_afterToken 101 = .ok (.aload_n 0, 1) := by decide +kernel
theorem dX3_afterToken_102 : decode cX3_afterToken 102 = .ok (.iload 4, 2) := by decide +kernel
theorem dX3_afterToken_104 : decode cX3_afterToken 104 = .ok (.invokevirtual 55, 3) := by decide +kernel
theorem dX3_afterToken_107 : decode cX3_afterToken 107 = .ok (.ifCond .eq 7, 3) := by decide +kernel
theorem dX3_afterToken_110 : decode cX3_afterToken 110 = .ok (.iconst 3, 1) := by decide +kernel
theorem dX3_afterToken_111 : decode cX3_afterToken 111 = .ok (.goto 4, 3) := by decide +kernel
theorem dX3_afterToken_114 : decode cX3_afterToken 114 = .ok (.iconst 4, 1) := by decide +kernel
theorem dX3_afterToken_115 : decode cX3_afterToken 115 = .ok (.ireturn, 1) := by decide +kernel
theorem dX3_afterToken_116 : decode cX3_afterToken 116 = .ok (.iload 5, 2) := by decide +kernel
theorem dX3_afterToken_118 : decode cX3_afterToken 118 = .ok (.bipush 59, 2) := by decide +kernel
theorem dX3_afterToken_120 : decode cX3_afterToken 120 = .ok (.if_icmp .ne 7, 3) := by decide +kernel
theorem dX3_afterToken_123 : decode cX3_afterToken 123 = .ok (.iconst 0, 1) := by decide +kernel
theorem dX3_afterToken_124 : decode cX3_afterToken 124 = .ok (.goto 4, 3) := by decide +kernel
theorem dX3_afterToken_127 : decode cX3_afterToken 127 = .ok (.iconst 4, 1) := by decide +kernel
theorem dX3_afterToken_128 : decode cX3_afterToken 128 = .ok (.ireturn, 1) := by decide +kernel
theorem dX3_addItem_0 : decode cX3_addItem 0 = .ok (.aload_n 0, 1) := by decide +kernel
theorem dX3_addItem_1 : decode cX3_addItem 1 = .ok (.getfield 28, 3) := by decide +kernel
theorem dX3_addItem_4 : decode cX3_addItem 4 = .ok (.aload_n 0, 1) := by decide +kernel
theorem dX3_addItem_5 : decode cX3_addItem 5 = .ok (.getfield 13, 3) := by decide +kernel
theorem dX3_addItem_8 : decode cX3_addItem 8 = .ok (.arraylength, 1) := by decide +kernel
theorem dX3_addItem_9 : decode cX3_addItem 9 = .ok (.if_icmp .ge 15, 3) := by decide +kernel
theorem dX3_addItem_12 : decode cX3_addItem 12 = .ok (.aload_n 0, 1) := by decide +kernel
theorem dX3_addItem_13 : decode cX3_addItem 13 = .ok (.getfield 28, 3) := by decide +kernel
theorem dX3_addItem_16 : decode cX3_addItem 16 = .ok (.aload_n 0, 1) := by decide +kernel
theorem dX3_addItem_17 : decode cX3_addItem 17 = .ok (.getfield 17, 3) := by decide +kernel
theorem dX3_addItem_20 : decode cX3_addItem 20 = .ok (.arraylength, 1) := by decide +kernel
theorem dX3_addItem_21 : decode cX3_addItem 21 = .ok (.if_icmp .lt 5, 3) := by decide +kernel
theorem dX3_addItem_24 : decode cX3_addItem 24 = .ok (.iconst 0, 1) := by decide +kernel
theorem dX3_addItem_25 : decode cX3_addItem 25 = .ok (.ireturn, 1) := by decide +kernel
theorem dX3_addItem_26 : decode cX3_addItem 26 = .ok (.aload_n 0, 1) := by decide +kernel
theorem dX3_addItem_27 : decode cX3_addItem 27 = .ok (.getfield 13, 3) := by decide +kernel
theorem dX3_addItem_30 : decode cX3_addItem 30 = .ok (.aload_n 0, 1) := by decide +kernel
theorem dX3_addItem_31 : decode cX3_addItem 31 = .ok (.getfield 28, 3) := by decide +kernel
theorem dX3_addItem_34 : decode cX3_addItem 34 = .ok (.iload_n 1, 1) := by decide +kernel
theorem dX3_addItem_35 : decode cX3_addItem 35 = .ok (.iastore, 1) := by decide +kernel
theorem dX3_addItem_36 : decode cX3_addItem 36 = .ok (.aload_n 0, 1) := by decide +kernel
theorem dX3_addItem_37 : decode cX3_addItem 37 = .ok (.getfield 17, 3) := by decide +kernel
theorem dX3_addItem_40 : decode cX3_addItem 40 = .ok (.aload_n 0, 1) := by decide +kernel
theorem dX3_addItem_41 : decode cX3_addItem 41 = .ok (.getfield 28, 3) := by decide +kernel
theorem dX3_addItem_44 : decode cX3_addItem 44 = .ok (.iconst 1, 1) := by decide +kernel
theorem dX3_addItem_45 : decode cX3_addItem 45 = .ok (.iastore, 1) := by decide +kernel
theorem dX3_addItem_46 : decode cX3_addItem 46 = .ok (.aload_n 0, 1) := by decide +kernel
theorem dX3_addItem_47 : decode cX3_addItem 47 = .ok (.dup, 1) := by decide +kernel
theorem dX3_addItem_48 : decode cX3_addItem 48 = .ok (.getfield 28, 3) := by decide +kernel
theorem dX3_addItem_51 : decode cX3_addItem 51 = .ok (.iconst 1, 1) := by decide +kernel
theorem dX3_addItem_52 : decode cX3_addItem 52 = .ok (.iadd, 1) := by decide +kernel
theorem dX3_addItem_53 : decode cX3_addItem 53 = .ok (.putfield 28, 3) := by decide +kernel
theorem dX3_addItem_56 : decode cX3_addItem 56 = .ok (.iconst 1, 1) := by decide +kernel
theorem dX3_addItem_57 : decode cX3_addItem 57 = .ok (.ireturn, 1) := by decide +kernel
theorem dX3_setCount_0 : decode cX3_setCount 0 = .ok (.aload_n 0, 1) := by decide +kernel
theorem dX3_setCount_1 : decode cX3_setCount 1 = .ok (.getfield 28, 3) := by decide +kernel
theorem dX3_setCount_4 : decode cX3_setCount 4 = .ok (.iconst 1, 1) := by decide +kernel
theorem dX3_setCount_5 : decode cX3_setCount 5 = .ok (.if_icmp .lt 15, 3) := by decide +kernel
theorem dX3_setCount_8 : decode cX3_setCount 8 = .ok (.aload_n 0, 1) := by decide +kernel
theorem dX3_setCount_9 : decode cX3_setCount 9 = .ok (.getfield 28, 3) := by decide +kernel
theorem dX3_setCount_12 : decode cX3_setCount 12 = .ok (.aload_n 0, 1) := by decide +kernel
theorem dX3_setCount_13 : decode cX3_setCount 13 = .ok (.getfield 17, 3) := by decide +kernel
theorem dX3_setCount_16 : decode cX3_setCount 16 = .ok (.arraylength, 1) := by decide +kernel
theorem dX3_setCount_17 : decode cX3_setCount 17 = .ok (.if_icmp .le 5, 3) := by decide +kernel
theorem dX3_setCount_20 : decode cX3_setCount 20 = .ok (.iconst 0, 1) := by decide +kernel
theorem dX3_setCount_21 : decode cX3_setCount 21 = .ok (.ireturn, 1) := by decide +kernel
theorem dX3_setCount_22 : decode cX3_setCount 22 = .ok (.aload_n 0, 1) := by decide +kernel
theorem dX3_setCount_23 : decode cX3_setCount 23 = .ok (.getfield 17, 3) := by decide +kernel
theorem dX3_setCount_26 : decode cX3_setCount 26 = .ok (.aload_n 0, 1) := by decide +kernel
theorem dX3_setCount_27 : decode cX3_setCount 27 = .ok (.getfield 28, 3) := by decide +kernel
theorem dX3_setCount_30 : decode cX3_setCount 30 = .ok (.iconst 1, 1) := by decide +kernel
theorem dX3_setCount_31 : decode cX3_setCount 31 = .ok (.isub, 1) := by decide +kernel
theorem dX3_setCount_32 : decode cX3_setCount 32 = .ok (.iload_n 1, 1) := by decide +kernel
theorem dX3_setCount_33 : decode cX3_setCount 33 = .ok (.iastore, 1) := by decide +kernel
theorem dX3_setCount_34 : decode cX3_setCount 34 = .ok (.iconst 1, 1) := by decide +kernel
theorem dX3_setCount_35 : decode cX3_setCount 35 = .ok (.ireturn, 1) := by decide +kernel
set_option maxRecDepth 20000 in
theorem ggX3_beginsToken_X3_digitAt : GoodIn wsX3_beginsToken wsX3_digitAt := goodIn_r _ [5, 6, 7, 8, 4, 9, 10, 11, 12, 13, 14, 15, 16] (by decide +kernel) (by decide +kernel)
set_option maxRecDepth 20000 in
theorem gX3_beginsToken_X3_digitAt : GoodIn wsX3_beginsToken (wsV RX3 58 RX3 yX3_digitAt wsX3_digitAt) := goodIn_app (goodIn_of _ (by decide +kernel)) ggX3_beginsToken_X3_digitAt
set_option maxRecDepth 20000 in
theorem ggX3_beginsToken_X3_characterAt : GoodIn wsX3_beginsToken wsX3_characterAt := goodIn_r _ [9, 10, 11, 12, 13, 14, 15, 16] (by decide +kernel) (by decide +kernel)
set_option maxRecDepth 20000 in
theorem gX3_beginsToken_X3_characterAt : GoodIn wsX3_beginsToken (wsV RX3 49 RX3 yX3_characterAt wsX3_characterAt) := goodIn_app (goodIn_of _ (by decide +kernel)) ggX3_beginsToken_X3_characterAt
theorem dX3_beginsToken_0 : decode cX3_beginsToken 0 = .ok (.aload_n 0, 1) := by decide +kernel
theorem dX3_beginsToken_1 : decode cX3_beginsToken 1 = .ok (.iload_n 1, 1) := by decide +kernel
theorem dX3_beginsToken_2 : decode cX3_beginsToken 2 = .ok (.invokevirtual 58, 3) := by decide +kernel
theorem dX3_beginsToken_5 : decode cX3_beginsToken 5 = .ok (.ifCond .lt 17, 3) := by decide +kernel
theorem dX3_beginsToken_8 : decode cX3_beginsToken 8 = .ok (.aload_n 0, 1) := by decide +kernel
theorem dX3_beginsToken_9 : decode cX3_beginsToken 9 = .ok (.iload_n 1, 1) := by decide +kernel
theorem dX3_beginsToken_10 : decode cX3_beginsToken 10 = .ok (.iconst 1, 1) := by decide +kernel
theorem dX3_beginsToken_11 : decode cX3_beginsToken 11 = .ok (.isub, 1) := by decide +kernel
theorem dX3_beginsToken_12 : decode cX3_beginsToken 12 = .ok (.invokevirtual 58, 3) := by decide +kernel
theorem dX3_beginsToken_15 : decode cX3_beginsToken 15 = .ok (.ifCond .lt 7, 3) := by decide +kernel
theorem dX3_beginsToken_18 : decode cX3_beginsToken 18 = .ok (.iconst 1, 1) := by decide +kernel
theorem dX3_beginsToken_19 : decode cX3_beginsToken 19 = .ok (.goto 4, 3) := by decide +kernel
theorem dX3_beginsToken_22 : decode cX3_beginsToken 22 = .ok (.iconst 0, 1) := by decide +kernel
theorem dX3_beginsToken_23 : decode cX3_beginsToken 23 = .ok (.istore_n 2, 1) := by decide +kernel
theorem dX3_beginsToken_24 : decode cX3_beginsToken 24 = .ok (.aload_n 0, 1) := by decide +kernel
theorem dX3_beginsToken_25 : decode cX3_beginsToken 25 = .ok (.iload_n 1, 1) := by decide +kernel
theorem dX3_beginsToken_26 : decode cX3_beginsToken 26 = .ok (.invokevirtual 49, 3) := by decide +kernel
theorem dX3_beginsToken_29 : decode cX3_beginsToken 29 = .ok (.bipush 32, 2) := by decide +kernel
theorem dX3_beginsToken_31 : decode cX3_beginsToken 31 = .ok (.if_icmp .eq 11, 3) := by decide +kernel
theorem dX3_beginsToken_34 : decode cX3_beginsToken 34 = .ok (.iload_n 2, 1) := by decide +kernel
theorem dX3_beginsToken_35 : decode cX3_beginsToken 35 = .ok (.ifCond .ne 7, 3) := by decide +kernel
theorem dX3_beginsToken_38 : decode cX3_beginsToken 38 = .ok (.iconst 1, 1) := by decide +kernel
theorem dX3_beginsToken_39 : decode cX3_beginsToken 39 = .ok (.goto 4, 3) := by decide +kernel
theorem dX3_beginsToken_42 : decode cX3_beginsToken 42 = .ok (.iconst 0, 1) := by decide +kernel
theorem dX3_beginsToken_43 : decode cX3_beginsToken 43 = .ok (.ireturn, 1) := by decide +kernel
set_option maxRecDepth 20000 in
theorem ggX3_numberAt_X3_digitAt : GoodIn wsX3_numberAt wsX3_digitAt := goodIn_r _ [5, 6, 7, 8, 4, 9, 10, 11, 12, 13, 14, 15, 16] (by decide +kernel) (by decide +kernel)
set_option maxRecDepth 20000 in
theorem gX3_numberAt_X3_digitAt : GoodIn wsX3_numberAt (wsV RX3 58 RX3 yX3_digitAt wsX3_digitAt) := goodIn_app (goodIn_of _ (by decide +kernel)) ggX3_numberAt_X3_digitAt
theorem dX3_numberAt_0 : decode cX3_numberAt 0 = .ok (.aload_n 0, 1) := by decide +kernel
theorem dX3_numberAt_1 : decode cX3_numberAt 1 = .ok (.iload_n 1, 1) := by decide +kernel
theorem dX3_numberAt_2 : decode cX3_numberAt 2 = .ok (.invokevirtual 58, 3) := by decide +kernel
theorem dX3_numberAt_5 : decode cX3_numberAt 5 = .ok (.istore_n 2, 1) := by decide +kernel
theorem dX3_numberAt_6 : decode cX3_numberAt 6 = .ok (.aload_n 0, 1) := by decide +kernel
theorem dX3_numberAt_7 : decode cX3_numberAt 7 = .ok (.iload_n 1, 1) := by decide +kernel
theorem dX3_numberAt_8 : decode cX3_numberAt 8 = .ok (.iconst 1, 1) := by decide +kernel
theorem dX3_numberAt_9 : decode cX3_numberAt 9 = .ok (.iadd, 1) := by decide +kernel
theorem dX3_numberAt_10 : decode cX3_numberAt 10 = .ok (.invokevirtual 58, 3) := by decide +kernel
theorem dX3_numberAt_13 : decode cX3_numberAt 13 = .ok (.istore_n 3, 1) := by decide +kernel
theorem dX3_numberAt_14 : decode cX3_numberAt 14 = .ok (.iload_n 2, 1) := by decide +kernel
theorem dX3_numberAt_15 : decode cX3_numberAt 15 = .ok (.ifCond .ge 5, 3) := by decide +kernel
theorem dX3_numberAt_18 : decode cX3_numberAt 18 = .ok (.iconst (-1), 1) := by decide +kernel
theorem dX3_numberAt_19 : decode cX3_numberAt 19 = .ok (.ireturn, 1) := by decide +kernel
theorem dX3_numberAt_20 : decode cX3_numberAt 20 = .ok (.iload_n 3, 1) := by decide +kernel
theorem dX3_numberAt_21 : decode cX3_numberAt 21 = .ok (.ifCond .ge 5, 3) := by decide +kernel
theorem dX3_numberAt_24 : decode cX3_numberAt 24 = .ok (.iload_n 2, 1) := by decide +kernel
theorem dX3_numberAt_25 : decode cX3_numberAt 25 = .ok (.ireturn, 1) := by decide +kernel
theorem dX3_numberAt_26 : decode cX3_numberAt 26 = .ok (.iload_n 2, 1) := by decide +kernel
theorem dX3_numberAt_27 : decode cX3_numberAt 27 = .ok (.ifCond .eq 13, 3) := by decide +kernel
theorem dX3_numberAt_30 : decode cX3_numberAt 30 = .ok (.aload_n 0, 1) := by decide +kernel
theorem dX3_numberAt_31 : decode cX3_numberAt 31 = .ok (.iload_n 1, 1) := by decide +kernel
theorem dX3_numberAt_32 : decode cX3_numberAt 32 = .ok (.iconst 2, 1) := by decide +kernel
theorem dX3_numberAt_33 : decode cX3_numberAt 33 = .ok (.iadd, 1) := by decide +kernel
theorem dX3_numberAt_34 : decode cX3_numberAt 34 = .ok (.invokevirtual 58, 3) := by decide +kernel
theorem dX3_numberAt_37 : decode cX3_numberAt 37 = .ok (.ifCond .lt 5, 3) := by decide +kernel
theorem dX3_numberAt_40 : decode cX3_numberAt 40 = .ok (.iconst (-1), 1) := by decide +kernel
theorem dX3_numberAt_41 : decode cX3_numberAt 41 = .ok (.ireturn, 1) := by decide +kernel
theorem dX3_numberAt_42 : decode cX3_numberAt 42 = .ok (.iload_n 2, 1) := by decide +kernel
theorem dX3_numberAt_43 : decode cX3_numberAt 43 = .ok (.bipush 10, 2) := by decide +kernel
theorem dX3_numberAt_45 : decode cX3_numberAt 45 = .ok (.imul, 1) := by decide +kernel
theorem dX3_numberAt_46 : decode cX3_numberAt 46 = .ok (.iload_n 3, 1) := by decide +kernel
theorem dX3_numberAt_47 : decode cX3_numberAt 47 = .ok (.iadd, 1) := by decide +kernel
theorem dX3_numberAt_48 : decode cX3_numberAt 48 = .ok (.ireturn, 1) := by decide +kernel
set_option maxRecDepth 20000 in
theorem ggX3_digitAt_X3_characterAt : GoodIn wsX3_digitAt wsX3_characterAt := goodIn_r _ [5, 6, 7, 8, 9, 10, 11, 12] (by decide +kernel) (by decide +kernel)
set_option maxRecDepth 20000 in
theorem gX3_digitAt_X3_characterAt : GoodIn wsX3_digitAt (wsV RX3 49 RX3 yX3_characterAt wsX3_characterAt) := goodIn_app (goodIn_of _ (by decide +kernel)) ggX3_digitAt_X3_characterAt
theorem dX3_digitAt_0 : decode cX3_digitAt 0 = .ok (.aload_n 0, 1) := by decide +kernel
theorem dX3_digitAt_1 : decode cX3_digitAt 1 = .ok (.iload_n 1, 1) := by decide +kernel
theorem dX3_digitAt_2 : decode cX3_digitAt 2 = .ok (.invokevirtual 49, 3) := by decide +kernel
theorem dX3_digitAt_5 : decode cX3_digitAt 5 = .ok (.istore_n 2, 1) := by decide +kernel
theorem dX3_digitAt_6 : decode cX3_digitAt 6 = .ok (.iload_n 2, 1) := by decide +kernel
theorem dX3_digitAt_7 : decode cX3_digitAt 7 = .ok (.bipush 48, 2) := by decide +kernel
theorem dX3_digitAt_9 : decode cX3_digitAt 9 = .ok (.if_icmp .lt 16, 3) := by decide +kernel
theorem dX3_digitAt_12 : decode cX3_digitAt 12 = .ok (.iload_n 2, 1) := by decide +kernel
theorem dX3_digitAt_13 : decode cX3_digitAt 13 = .ok (.bipush 57, 2) := by decide +kernel
theorem dX3_digitAt_15 : decode cX3_digitAt 15 = .ok (.if_icmp .gt 10, 3) := by decide +kernel
theorem dX3_digitAt_18 : decode cX3_digitAt 18 = .ok (.iload_n 2, 1) := by decide +kernel
theorem dX3_digitAt_19 : decode cX3_digitAt 19 = .ok (.bipush 48, 2) := by decide +kernel
theorem dX3_digitAt_21 : decode cX3_digitAt 21 = .ok (.isub, 1) := by decide +kernel
theorem dX3_digitAt_22 : decode cX3_digitAt 22 = .ok (.goto 4, 3) := by decide +kernel
theorem dX3_digitAt_25 : decode cX3_digitAt 25 = .ok (.iconst (-1), 1) := by decide +kernel
theorem dX3_digitAt_26 : decode cX3_digitAt 26 = .ok (.ireturn, 1) := by decide +kernel
theorem dX3_characterAt_0 : decode cX3_characterAt 0 = .ok (.iload_n 1, 1) := by decide +kernel
theorem dX3_characterAt_1 : decode cX3_characterAt 1 = .ok (.ifCond .lt 29, 3) := by decide +kernel
theorem dX3_characterAt_4 : decode cX3_characterAt 4 = .ok (.iload_n 1, 1) := by decide +kernel
theorem dX3_characterAt_5 : decode cX3_characterAt 5 = .ok (.aload_n 0, 1) := by decide +kernel
theorem dX3_characterAt_6 : decode cX3_characterAt 6 = .ok (.getfield 20, 3) := by decide +kernel
theorem dX3_characterAt_9 : decode cX3_characterAt 9 = .ok (.if_icmp .ge 21, 3) := by decide +kernel
theorem dX3_characterAt_12 : decode cX3_characterAt 12 = .ok (.iload_n 1, 1) := by decide +kernel
theorem dX3_characterAt_13 : decode cX3_characterAt 13 = .ok (.aload_n 0, 1) := by decide +kernel
theorem dX3_characterAt_14 : decode cX3_characterAt 14 = .ok (.getfield 9, 3) := by decide +kernel
theorem dX3_characterAt_17 : decode cX3_characterAt 17 = .ok (.arraylength, 1) := by decide +kernel
theorem dX3_characterAt_18 : decode cX3_characterAt 18 = .ok (.if_icmp .ge 12, 3) := by decide +kernel
theorem dX3_characterAt_21 : decode cX3_characterAt 21 = .ok (.aload_n 0, 1) := by decide +kernel
theorem dX3_characterAt_22 : decode cX3_characterAt 22 = .ok (.getfield 9, 3) := by decide +kernel
theorem dX3_characterAt_25 : decode cX3_characterAt 25 = .ok (.iload_n 1, 1) := by decide +kernel
theorem dX3_characterAt_26 : decode cX3_characterAt 26 = .ok (.caload, 1) := by decide +kernel
theorem dX3_characterAt_27 : decode cX3_characterAt 27 = .ok (.goto 4, 3) := by decide +kernel
theorem dX3_characterAt_30 : decode cX3_characterAt 30 = .ok (.iconst (-1), 1) := by decide +kernel
theorem dX3_characterAt_31 : decode cX3_characterAt 31 = .ok (.ireturn, 1) := by decide +kernel
theorem dX4_init_0 : decode cX4_init 0 = .ok (.aload_n 0, 1) := by decide +kernel
theorem dX4_init_1 : decode cX4_init 1 = .ok (.invokespecial 3, 3) := by decide +kernel
theorem dX4_init_4 : decode cX4_init 4 = .ok (.return_, 1) := by decide +kernel
set_option maxRecDepth 20000 in
theorem ggX4_begin_X1_withOneMore : GoodIn wsX4_begin wsX1_withOneMore := goodIn_r _ [12] (by decide +kernel) (by decide +kernel)
set_option maxRecDepth 20000 in
theorem gX4_begin_X1_withOneMore : GoodIn wsX4_begin (va_wsS RX4 37 yX1_withOneMore wsX1_withOneMore) := goodIn_app (goodIn_of _ (by decide +kernel)) ggX4_begin_X1_withOneMore
theorem dX4_begin_0 : decode cX4_begin 0 = .ok (.aload_n 0, 1) := by decide +kernel
theorem dX4_begin_1 : decode cX4_begin 1 = .ok (.iload_n 1, 1) := by decide +kernel
theorem dX4_begin_2 : decode cX4_begin 2 = .ok (.putfield 9, 3) := by decide +kernel
theorem dX4_begin_5 : decode cX4_begin 5 = .ok (.aload_n 0, 1) := by decide +kernel
theorem dX4_begin_6 : decode cX4_begin 6 = .ok (.iload_n 2, 1) := by decide +kernel
theorem dX4_begin_7 : decode cX4_begin 7 = .ok (.putfield 15, 3) := by decide +kernel
theorem dX4_begin_10 : decode cX4_begin 10 = .ok (.aload_n 0, 1) := by decide +kernel
theorem dX4_begin_11 : decode cX4_begin 11 = .ok (.iload_n 3, 1) := by decide +kernel
theorem dX4_begin_12 : decode cX4_begin 12 = .ok (.putfield 18, 3) := by decide +kernel
theorem dX4_begin_15 : decode cX4_begin 15 = .ok (.aload_n 0, 1) := by decide +kernel
theorem dX4_begin_16 : decode cX4_begin 16 = .ok (.lconst 0, 1) := by decide +kernel
theorem dX4_begin_17 : decode cX4_begin 17 = .ok (.putfield 21, 3) := by decide +kernel
theorem dX4_begin_20 : decode cX4_begin 20 = .ok (.aload_n 0, 1) := by decide +kernel
theorem dX4_begin_21 : decode cX4_begin 21 = .ok (.lconst 0, 1) := by decide +kernel
theorem dX4_begin_22 : decode cX4_begin 22 = .ok (.putfield 25, 3) := by decide +kernel
theorem dX4_begin_25 : decode cX4_begin 25 = .ok (.aload_n 0, 1) := by decide +kernel
theorem dX4_begin_26 : decode cX4_begin 26 = .ok (.lconst 0, 1) := by decide +kernel
theorem dX4_begin_27 : decode cX4_begin 27 = .ok (.putfield 28, 3) := by decide +kernel
theorem dX4_begin_30 : decode cX4_begin 30 = .ok (.aload_n 0, 1) := by decide +kernel
theorem dX4_begin_31 : decode cX4_begin 31 = .ok (.lconst 0, 1) := by decide +kernel
theorem dX4_begin_32 : decode cX4_begin 32 = .ok (.putfield 31, 3) := by decide +kernel
theorem dX4_begin_35 : decode cX4_begin 35 = .ok (.aload_n 0, 1) := by decide +kernel
theorem dX4_begin_36 : decode cX4_begin 36 = .ok (.lconst 0, 1) := by decide +kernel
theorem dX4_begin_37 : decode cX4_begin 37 = .ok (.putfield 34, 3) := by decide +kernel
theorem dX4_begin_40 : decode cX4_begin 40 = .ok (.iconst 0, 1) := by decide +kernel
theorem dX4_begin_41 : decode cX4_begin 41 = .ok (.istore 4, 2) := by decide +kernel
theorem dX4_begin_43 : decode cX4_begin 43 = .ok (.iload 4, 2) := by decide +kernel
theorem dX4_begin_45 : decode cX4_begin 45 = .ok (.aload_n 0, 1) := by decide +kernel
theorem dX4_begin_46 : decode cX4_begin 46 = .ok (.getfield 15, 3) := by decide +kernel
theorem dX4_begin_49 : decode cX4_begin 49 = .ok (.if_icmp .ge 21, 3) := by decide +kernel
theorem dX4_begin_52 : decode cX4_begin 52 = .ok (.aload_n 0, 1) := by decide +kernel
theorem dX4_begin_53 : decode cX4_begin 53 = .ok (.aload_n 0, 1) := by decide +kernel
theorem dX4_begin_54 : decode cX4_begin 54 = .ok (.getfield 28, 3) := by decide +kernel
theorem dX4_begin_57 : decode cX4_begin 57 = .ok (.iconst 0, 1) := by decide +kernel
theorem dX4_begin_58 : decode cX4_begin 58 = .ok (.invokestatic 37, 3) := by decide +kernel
theorem dX4_begin_61 : decode cX4_begin 61 = .ok (.putfield 28, 3) := by decide +kernel
theorem dX4_begin_64 : decode cX4_begin 64 = .ok (.iinc 4 1, 3) := by decide +kernel
theorem dX4_begin_67 : decode cX4_begin 67 = .ok (.goto (-24), 3) := by decide +kernel
theorem dX4_begin_70 : decode cX4_begin 70 = .ok (.return_, 1) := by decide +kernel
theorem dX4_copyFrom_0 : decode cX4_copyFrom 0 = .ok (.aload_n 0, 1) := by decide +kernel
theorem dX4_copyFrom_1 : decode cX4_copyFrom 1 = .ok (.aload_n 1, 1) := by decide +kernel
theorem dX4_copyFrom_2 : decode cX4_copyFrom 2 = .ok (.getfield 9, 3) := by decide +kernel
theorem dX4_copyFrom_5 : decode cX4_copyFrom 5 = .ok (.putfield 9, 3) := by decide +kernel
theorem dX4_copyFrom_8 : decode cX4_copyFrom 8 = .ok (.aload_n 0, 1) := by decide +kernel
theorem dX4_copyFrom_9 : decode cX4_copyFrom 9 = .ok (.aload_n 1, 1) := by decide +kernel
theorem dX4_copyFrom_10 : decode cX4_copyFrom 10 = .ok (.getfield 15, 3) := by decide +kernel
theorem dX4_copyFrom_13 : decode cX4_copyFrom 13 = .ok (.putfield 15, 3) := by decide +kernel
theorem dX4_copyFrom_16 : decode cX4_copyFrom 16 = .ok (.aload_n 0, 1) := by decide +kernel
theorem dX4_copyFrom_17 : decode cX4_copyFrom 17 = .ok (.aload_n 1, 1) := by decide +kernel
theorem dX4_copyFrom_18 : decode cX4_copyFrom 18 = .ok (.getfield 18, 3) := by decide +kernel
theorem dX4_copyFrom_21 : decode cX4_copyFrom 21 = .ok (.putfield 18, 3) := by decide +kernel
theorem dX4_copyFrom_24 : decode cX4_copyFrom 24 = .ok (.aload_n 0, 1) := by decide +kernel
theorem dX4_copyFrom_25 : decode cX4_copyFrom 25 = .ok (.aload_n 1, 1) := by decide +kernel
theorem dX4_copyFrom_26 : decode cX4_copyFrom 26 = .ok (.getfield 21, 3) := by decide +kernel
theorem dX4_copyFrom_29 : decode cX4_copyFrom 29 = .ok (.putfield 21, 3) := by decide +kernel
theorem dX4_copyFrom_32 : decode cX4_copyFrom 32 = .ok (.aload_n 0, 1) := by decide +kernel
theorem dX4_copyFrom_33 : decode cX4_copyFrom 33 = .ok (.aload_n 1, 1) := by decide +kernel
theorem dX4_copyFrom_34 : decode cX4_copyFrom 34 = .ok (.getfield 25, 3) := by decide +kernel
theorem dX4_copyFrom_37 : decode cX4_copyFrom 37 = .ok (.putfield 25, 3) := by decide +kernel
theorem dX4_copyFrom_40 : decode cX4_copyFrom 40 = .ok (.aload_n 0, 1) := by decide +kernel
theorem dX4_copyFrom_41 : decode cX4_copyFrom 41 = .ok (.aload_n 1, 1) := by decide +kernel
theorem dX4_copyFrom_42 : decode cX4_copyFrom 42 = .ok (.getfield 28, 3) := by decide +kernel
theorem dX4_copyFrom_45 : decode cX4_copyFrom 45 = .ok (.putfield 28, 3) := by decide +kernel
theorem dX4_copyFrom_48 : decode cX4_copyFrom 48 = .ok (.aload_n 0, 1) := by decide +kernel
theorem dX4_copyFrom_49 : decode cX4_copyFrom 49 = .ok (.aload_n 1, 1) := by decide +kernel
theorem dX4_copyFrom_50 : decode cX4_copyFrom 50 = .ok (.getfield 31, 3) := by decide +kernel
theorem dX4_copyFrom_53 : decode cX4_copyFrom 53 = .ok (.putfield 31, 3) := by decide +kernel
theorem dX4_copyFrom_56 : decode cX4_copyFrom 56 = .ok (.aload_n 0, 1) := by decide +kernel
theorem dX4_copyFrom_57 : decode cX4_copyFrom 57 = .ok (.aload_n 1, 1) := by decide +kernel
theorem dX4_copyFrom_58 : decode cX4_copyFrom 58 = .ok (.getfield 34, 3) := by decide +kernel
theorem dX4_copyFrom_61 : decode cX4_copyFrom 61 = .ok (.putfield 34, 3) := by decide +kernel
theorem dX4_copyFrom_64 : decode cX4_copyFrom 64 = .ok (.return_, 1) := by decide +kernel
theorem dX4_names_0 : decode cX4_names 0 = .ok (.aload_n 0, 1) := by decide +kernel
theorem dX4_names_1 : decode cX4_names 1 = .ok (.getfield 9, 3) := by decide +kernel
theorem dX4_names_4 : decode cX4_names 4 = .ok (.aload_n 0, 1) := by decide +kernel
theorem dX4_names_5 : decode cX4_names 5 = .ok (.getfield 9, 3) := by decide +kernel
theorem dX4_names_8 : decode cX4_names 8 = .ok (.iconst 1, 1) := by decide +kernel
theorem dX4_names_9 : decode cX4_names 9 = .ok (.iadd, 1) := by decide +kernel
theorem dX4_names_10 : decode cX4_names 10 = .ok (.imul, 1) := by decide +kernel
theorem dX4_names_11 : decode cX4_names 11 = .ok (.iconst 2, 1) := by decide +kernel
theorem dX4_names_12 : decode cX4_names 12 = .ok (.idiv, 1) := by decide +kernel
theorem dX4_names_13 : decode cX4_names 13 = .ok (.ireturn, 1) := by decide +kernel
theorem dX4_hasProcess_0 : decode cX4_hasProcess 0 = .ok (.iload_n 1, 1) := by decide +kernel
theorem dX4_hasProcess_1 : decode cX4_hasProcess 1 = .ok (.ifCond .lt 15, 3) := by decide +kernel
theorem dX4_hasProcess_4 : decode cX4_hasProcess 4 = .ok (.iload_n 1, 1) := by decide +kernel
theorem dX4_hasProcess_5 : decode cX4_hasProcess 5 = .ok (.aload_n 0, 1) := by decide +kernel
theorem dX4_hasProcess_6 : decode cX4_hasProcess 6 = .ok (.getfield 15, 3) := by decide +kernel
theorem dX4_hasProcess_9 : decode cX4_hasProcess 9 = .ok (.if_icmp .ge 7, 3) := by decide +kernel
theorem dX4_hasProcess_12 : decode cX4_hasProcess 12 = .ok (.iconst 1, 1) := by decide +kernel
theorem dX4_hasProcess_13 : decode cX4_hasProcess 13 = .ok (.goto 4, 3) := by decide +kernel
theorem dX4_hasProcess_16 : decode cX4_hasProcess 16 = .ok (.iconst 0, 1) := by decide +kernel
theorem dX4_hasProcess_17 : decode cX4_hasProcess 17 = .ok (.ireturn, 1) := by decide +kernel
set_option maxRecDepth 20000 in
theorem ggX4_hasSplitter_X4_names : GoodIn wsX4_hasSplitter wsX4_names := goodIn_r _ [5, 6, 7, 8, 9, 10, 11, 12, 13, 14] (by decide +kernel) (by decide +kernel)
set_option maxRecDepth 20000 in
theorem gX4_hasSplitter_X4_names : GoodIn wsX4_hasSplitter (wsV RX4 43 RX4 yX4_names wsX4_names) := goodIn_app (goodIn_of _ (by decide +kernel)) ggX4_hasSplitter_X4_names
theorem dX4_hasSplitter_0 : decode cX4_hasSplitter 0 = .ok (.iload_n 1, 1) := by decide +kernel
theorem dX4_hasSplitter_1 : decode cX4_hasSplitter 1 = .ok (.ifCond .lt 15, 3) := by decide +kernel
theorem dX4_hasSplitter_4 : decode cX4_hasSplitter 4 = .ok (.iload_n 1, 1) := by decide +kernel
theorem dX4_hasSplitter_5 : decode cX4_hasSplitter 5 = .ok (.aload_n 0, 1) := by decide +kernel
theorem dX4_hasSplitter_6 : decode cX4_hasSplitter 6 = .ok (.invokevirtual 43, 3) := by decide +kernel
theorem dX4_hasSplitter_9 : decode cX4_hasSplitter 9 = .ok (.if_icmp .ge 7, 3) := by decide +kernel
theorem dX4_hasSplitter_12 : decode cX4_hasSplitter 12 = .ok (.iconst 1, 1) := by decide +kernel
theorem dX4_hasSplitter_13 : decode cX4_hasSplitter 13 = .ok (.goto 4, 3) := by decide +kernel
theorem dX4_hasSplitter_16 : decode cX4_hasSplitter 16 = .ok (.iconst 0, 1) := by decide +kernel
theorem dX4_hasSplitter_17 : decode cX4_hasSplitter 17 = .ok (.ireturn, 1) := by decide +kernel
set_option maxRecDepth 20000 in
theorem ggX4_isRunning_X0_statusIn : GoodIn wsX4_isRunning wsX0_statusIn := goodIn_r _ [5] (by decide +kernel) (by decide +kernel)
set_option maxRecDepth 20000 in
theorem gX4_isRunning_X0_statusIn : GoodIn wsX4_isRunning (va_wsS RX4 47 yX0_statusIn wsX0_statusIn) := goodIn_app (goodIn_of _ (by decide +kernel)) ggX4_isRunning_X0_statusIn
theorem dX4_isRunning_0 : decode cX4_isRunning 0 = .ok (.aload_n 0, 1) := by decide +kernel
theorem dX4_isRunning_1 : decode cX4_isRunning 1 = .ok (.getfield 21, 3) := by decide +kernel
theorem dX4_isRunning_4 : decode cX4_isRunning 4 = .ok (.iload_n 1, 1) := by decide +kernel
theorem dX4_isRunning_5 : decode cX4_isRunning 5 = .ok (.invokestatic 47, 3) := by decide +kernel
theorem dX4_isRunning_8 : decode cX4_isRunning 8 = .ok (.ifCond .ne 7, 3) := by decide +kernel
theorem dX4_isRunning_11 : decode cX4_isRunning 11 = .ok (.iconst 1, 1) := by decide +kernel
theorem dX4_isRunning_12 : decode cX4_isRunning 12 = .ok (.goto 4, 3) := by decide +kernel
theorem dX4_isRunning_15 : decode cX4_isRunning 15 = .ok (.iconst 0, 1) := by decide +kernel
theorem dX4_isRunning_16 : decode cX4_isRunning 16 = .ok (.ireturn, 1) := by decide +kernel
set_option maxRecDepth 20000 in
theorem ggX4_countRunning_X4_isRunning : GoodIn wsX4_countRunning wsX4_isRunning := goodIn_r _ [6, 7, 8, 9, 10, 11, 12, 13, 14, 15, 16, 17, 18, 19] (by decide +kernel) (by decide +kernel)
set_option maxRecDepth 20000 in
theorem gX4_countRunning_X4_isRunning : GoodIn wsX4_countRunning (wsV RX4 53 RX4 yX4_isRunning wsX4_isRunning) := goodIn_app (goodIn_of _ (by decide +kernel)) ggX4_countRunning_X4_isRunning
theorem dX4_countRunning_0 : decode cX4_countRunning 0 = .ok (.iconst 0, 1) := by decide +kernel
theorem dX4_countRunning_1 : decode cX4_countRunning 1 = .ok (.istore_n 1, 1) := by decide +kernel
theorem dX4_countRunning_2 : decode cX4_countRunning 2 = .ok (.iconst 0, 1) := by decide +kernel
theorem dX4_countRunning_3 : decode cX4_countRunning 3 = .ok (.istore_n 2, 1) := by decide +kernel
theorem dX4_countRunning_4 : decode cX4_countRunning 4 = .ok (.iload_n 2, 1) := by decide +kernel
theorem dX4_countRunning_5 : decode cX4_countRunning 5 = .ok (.aload_n 0, 1) := by decide +kernel
theorem dX4_countRunning_6 : decode cX4_countRunning 6 = .ok (.getfield 15, 3) := by decide +kernel
theorem dX4_countRunning_9 : decode cX4_countRunning 9 = .ok (.if_icmp .ge 20, 3) := by decide +kernel
theorem dX4_countRunning_12 : decode cX4_countRunning 12 = .ok (.aload_n 0, 1) := by decide +kernel
theorem dX4_countRunning_13 : decode cX4_countRunning 13 = .ok (.iload_n 2, 1) := by decide +kernel
theorem dX4_countRunning_14 : decode cX4_countRunning 14 = .ok (.invokevirtual 53, 3) := by decide +kernel
theorem dX4_countRunning_17 : decode cX4_countRunning 17 = .ok (.ifCond .eq 6, 3) := by decide +kernel
theorem dX4_countRunning_20 : decode cX4_countRunning 20 = .ok (.iinc 1 1, 3) := by decide +kernel
theorem dX4_countRunning_23 : decode cX4_countRunning 23 = .ok (.iinc 2 1, 3) := by decide +kernel
theorem dX4_countRunning_26 : decode cX4_countRunning 26 = .ok (.goto (-22), 3) := by decide +kernel
theorem dX4_countRunning_29 : decode cX4_countRunning 29 = .ok (.iload_n 1, 1) := by decide +kernel
theorem dX4_countRunning_30 : decode cX4_countRunning 30 = .ok (.ireturn, 1) := by decide +kernel
set_option maxRecDepth 20000 in
theorem ggX4_markCrashed_X0_withStatus : GoodIn wsX4_markCrashed wsX0_withStatus := goodIn_r _ [5, 6, 7] (by decide +kernel) (by decide +kernel)
set_option maxRecDepth 20000 in
theorem gX4_markCrashed_X0_withStatus : GoodIn wsX4_markCrashed (va_wsS RX4 57 yX0_withStatus wsX0_withStatus) := goodIn_app (goodIn_of _ (by decide +kernel)) ggX4_markCrashed_X0_withStatus
theorem dX4_markCrashed_0 : decode cX4_markCrashed 0 = .ok (.aload_n 0, 1) := by decide +kernel
theorem dX4_markCrashed_1 : decode cX4_markCrashed 1 = .ok (.aload_n 0, 1) := by decide +kernel
theorem dX4_markCrashed_2 : decode cX4_markCrashed 2 = .ok (.getfield 21, 3) := by decide +kernel
theorem dX4_markCrashed_5 : decode cX4_markCrashed 5 = .ok (.iload_n 1, 1) := by decide +kernel
theorem dX4_markCrashed_6 : decode cX4_markCrashed 6 = .ok (.iconst 3, 1) := by decide +kernel
theorem dX4_markCrashed_7 : decode cX4_markCrashed 7 = .ok (.invokestatic 57, 3) := by decide +kernel
theorem dX4_markCrashed_10 : decode cX4_markCrashed 10 = .ok (.putfield 21, 3) := by decide +kernel
theorem dX4_markCrashed_13 : decode cX4_markCrashed 13 = .ok (.return_, 1) := by decide +kernel
set_option maxRecDepth 20000 in
theorem ggX4_advance_X0_afterStep : GoodIn wsX4_advance wsX0_afterStep := goodIn_r _ [9, 10, 11, 8, 12, 13, 14, 15, 16, 17, 18, 19, 20, 21, 22, 23, 24, 25, 26, 27, 28, 29, 30, 31, 32, 33, 34, 35, 36, 37, 38, 39, 40, 41, 42, 43, 44, 45, 46] (by decide +kernel) (by decide +kernel)
set_option maxRecDepth 20000 in
theorem gX4_advance_X0_afterStep : GoodIn wsX4_advance (va_wsS RX4 61 yX0_afterStep wsX0_afterStep) := goodIn_app (goodIn_of _ (by decide +kernel)) ggX4_advance_X0_afterStep
set_option maxRecDepth 20000 in
theorem ggX4_advance_X1_withOneMore : GoodIn wsX4_advance wsX1_withOneMore := goodIn_r _ [50] (by decide +kernel) (by decide +kernel)
set_option maxRecDepth 20000 in
theorem gX4_advance_X1_withOneMore : GoodIn wsX4_advance (va_wsS RX4 37 yX1_withOneMore wsX1_withOneMore) := goodIn_app (goodIn_of _ (by decide +kernel)) ggX4_advance_X1_withOneMore
set_option maxRecDepth 20000 in
theorem ggX4_advance_X0_statusIn : GoodIn wsX4_advance wsX0_statusIn := goodIn_r _ [53] (by decide +kernel) (by decide +kernel)
set_option maxRecDepth 20000 in
theorem gX4_advance_X0_statusIn : GoodIn wsX4_advance (va_wsS RX4 47 yX0_statusIn wsX0_statusIn) := goodIn_app (goodIn_of _ (by decide +kernel)) ggX4_advance_X0_statusIn
set_option maxRecDepth 20000 in
theorem ggX4_advance_X0_splitterIn : GoodIn wsX4_advance wsX0_splitterIn := goodIn_r _ [12] (by decide +kernel) (by decide +kernel)
set_option maxRecDepth 20000 in
theorem gX4_advance_X0_splitterIn : GoodIn wsX4_advance (va_wsS RX4 65 yX0_splitterIn wsX0_splitterIn) := goodIn_app (goodIn_of _ (by decide +kernel)) ggX4_advance_X0_splitterIn
set_option maxRecDepth 20000 in
theorem ggX4_advance_X0_phaseIn : GoodIn wsX4_advance wsX0_phaseIn := goodIn_r _ [15] (by decide +kernel) (by decide +kernel)
set_option maxRecDepth 20000 in
theorem gX4_advance_X0_phaseIn : GoodIn wsX4_advance (va_wsS RX4 68 yX0_phaseIn wsX0_phaseIn) := goodIn_app (goodIn_of _ (by decide +kernel)) ggX4_advance_X0_phaseIn
set_option maxRecDepth 20000 in
theorem ggX4_advance_X4_countExit : GoodIn wsX4_advance wsX4_countExit := goodIn_r _ [60, 61, 62, 47, 48, 49, 50, 63, 64, 65, 66, 67, 68, 69, 70] (by decide +kernel) (by decide +kernel)
set_option maxRecDepth 20000 in
theorem gX4_advance_X4_countExit : GoodIn wsX4_advance (wsV RX4 71 RX4 yX4_countExit wsX4_countExit) := goodIn_app (goodIn_of _ (by decide +kernel)) ggX4_advance_X4_countExit
theorem dX4_advance_0 : decode cX4_advance 0 = .ok (.aload_n 0, 1) := by decide +kernel
theorem dX4_advance_1 : decode cX4_advance 1 = .ok (.getfield 21, 3) := by decide +kernel
theorem dX4_advance_4 : decode cX4_advance 4 = .ok (.lstore_n 2, 1) := by decide +kernel
theorem dX4_advance_5 : decode cX4_advance 5 = .ok (.aload_n 0, 1) := by decide +kernel
theorem dX4_advance_6 : decode cX4_advance 6 = .ok (.lload_n 2, 1) := by decide +kernel
theorem dX4_advance_7 : decode cX4_advance 7 = .ok (.iload_n 1, 1) := by decide +kernel
theorem dX4_advance_8 : decode cX4_advance 8 = .ok (.aload_n 0, 1) := by decide +kernel
theorem dX4_advance_9 : decode cX4_advance 9 = .ok (.getfield 9, 3) := by decide +kernel
theorem dX4_advance_12 : decode cX4_advance 12 = .ok (.aload_n 0, 1) := by decide +kernel
theorem dX4_advance_13 : decode cX4_advance 13 = .ok (.getfield 18, 3) := by decide +kernel
theorem dX4_advance_16 : decode cX4_advance 16 = .ok (.invokestatic 61, 3) := by decide +kernel
theorem dX4_advance_19 : decode cX4_advance 19 = .ok (.putfield 21, 3) := by decide +kernel
theorem dX4_advance_22 : decode cX4_advance 22 = .ok (.aload_n 0, 1) := by decide +kernel
theorem dX4_advance_23 : decode cX4_advance 23 = .ok (.aload_n 0, 1) := by decide +kernel
theorem dX4_advance_24 : decode cX4_advance 24 = .ok (.getfield 25, 3) := by decide +kernel
theorem dX4_advance_27 : decode cX4_advance 27 = .ok (.iload_n 1, 1) := by decide +kernel
theorem dX4_advance_28 : decode cX4_advance 28 = .ok (.invokestatic 37, 3) := by decide +kernel
theorem dX4_advance_31 : decode cX4_advance 31 = .ok (.putfield 25, 3) := by decide +kernel
theorem dX4_advance_34 : decode cX4_advance 34 = .ok (.aload_n 0, 1) := by decide +kernel
theorem dX4_advance_35 : decode cX4_advance 35 = .ok (.getfield 21, 3) := by decide +kernel
theorem dX4_advance_38 : decode cX4_advance 38 = .ok (.iload_n 1, 1) := by decide +kernel
theorem dX4_advance_39 : decode cX4_advance 39 = .ok (.invokestatic 47, 3) := by decide +kernel
theorem dX4_advance_42 : decode cX4_advance 42 = .ok (.istore 4, 2) := by decide +kernel
theorem dX4_advance_44 : decode cX4_advance 44 = .ok (.iload 4, 2) := by decide +kernel
theorem dX4_advance_46 : decode cX4_advance 46 = .ok (.iconst 1, 1) := by decide +kernel
theorem dX4_advance_47 : decode cX4_advance 47 = .ok (.if_icmp .ne 5, 3) := by decide +kernel
theorem dX4_advance_50 : decode cX4_advance 50 = .ok (.iconst 1, 1) := by decide +kernel
theorem dX4_advance_51 : decode cX4_advance 51 = .ok (.ireturn, 1) := by decide +kernel
theorem dX4_advance_52 : decode cX4_advance 52 = .ok (.lload_n 2, 1) := by decide +kernel
theorem dX4_advance_53 : decode cX4_advance 53 = .ok (.iload_n 1, 1) := by decide +kernel
theorem dX4_advance_54 : decode cX4_advance 54 = .ok (.invokestatic 65, 3) := by decide +kernel
theorem dX4_advance_57 : decode cX4_advance 57 = .ok (.istore 5, 2) := by decide +kernel
theorem dX4_advance_59 : decode cX4_advance 59 = .ok (.aload_n 0, 1) := by decide +kernel
theorem dX4_advance_60 : decode cX4_advance 60 = .ok (.getfield 21, 3) := by decide +kernel
theorem dX4_advance_63 : decode cX4_advance 63 = .ok (.iload_n 1, 1) := by decide +kernel
theorem dX4_advance_64 : decode cX4_advance 64 = .ok (.invokestatic 65, 3) := by decide +kernel
theorem dX4_advance_67 : decode cX4_advance 67 = .ok (.istore 6, 2) := by decide +kernel
theorem dX4_advance_69 : decode cX4_advance 69 = .ok (.iload 4, 2) := by decide +kernel
theorem dX4_advance_71 : decode cX4_advance 71 = .ok (.ifCond .ne 12, 3) := by decide +kernel
theorem dX4_advance_74 : decode cX4_advance 74 = .ok (.iload 6, 2) := by decide +kernel
theorem dX4_advance_76 : decode cX4_advance 76 = .ok (.iload 5, 2) := by decide +kernel
theorem dX4_advance_78 : decode cX4_advance 78 = .ok (.if_icmp .ne 5, 3) := by decide +kernel
theorem dX4_advance_81 : decode cX4_advance 81 = .ok (.iconst 0, 1) := by decide +kernel
theorem dX4_advance_82 : decode cX4_advance 82 = .ok (.ireturn, 1) := by decide +kernel
theorem dX4_advance_83 : decode cX4_advance 83 = .ok (.lload_n 2, 1) := by decide +kernel
theorem dX4_advance_84 : decode cX4_advance 84 = .ok (.iload_n 1, 1) := by decide +kernel
theorem dX4_advance_85 : decode cX4_advance 85 = .ok (.invokestatic 68, 3) := by decide +kernel
theorem dX4_advance_88 : decode cX4_advance 88 = .ok (.iconst 1, 1) := by decide +kernel
theorem dX4_advance_89 : decode cX4_advance 89 = .ok (.if_icmp .ne 7, 3) := by decide +kernel
theorem dX4_advance_92 : decode cX4_advance 92 = .ok (.iconst 1, 1) := by decide +kernel
theorem dX4_advance_93 : decode cX4_advance 93 = .ok (.goto 4, 3) := by decide +kernel
theorem dX4_advance_96 : decode cX4_advance 96 = .ok (.iconst 0, 1) := by decide +kernel
theorem dX4_advance_97 : decode cX4_advance 97 = .ok (.istore 7, 2) := by decide +kernel
theorem dX4_advance_99 : decode cX4_advance 99 = .ok (.aload_n 0, 1) := by decide +kernel
theorem dX4_advance_100 : decode cX4_advance 100 = .ok (.iload 5, 2) := by decide +kernel
theorem dX4_advance_102 : decode cX4_advance 102 = .ok (.iload 7, 2) := by decide +kernel
theorem dX4_advance_104 : decode cX4_advance 104 = .ok (.invokevirtual 71, 3) := by decide +kernel
theorem dX4_advance_107 : decode cX4_advance 107 = .ok (.iload 4, 2) := by decide +kernel
theorem dX4_advance_109 : decode cX4_advance 109 = .ok (.iconst 2, 1) := by decide +kernel
theorem dX4_advance_110 : decode cX4_advance 110 = .ok (.if_icmp .ne 5, 3) := by decide +kernel
theorem dX4_advance_113 : decode cX4_advance 113 = .ok (.iconst 4, 1) := by decide +kernel
theorem dX4_advance_114 : decode cX4_advance 114 = .ok (.ireturn, 1) := by decide +kernel
theorem dX4_advance_115 : decode cX4_advance 115 = .ok (.aload_n 0, 1) := by decide +kernel
theorem dX4_advance_116 : decode cX4_advance 116 = .ok (.aload_n 0, 1) := by decide +kernel
theorem dX4_advance_117 : decode cX4_advance 117 = .ok (.getfield 28, 3) := by decide +kernel
theorem dX4_advance_120 : decode cX4_advance 120 = .ok (.iload 6, 2) := by decide +kernel
theorem dX4_advance_122 : decode cX4_advance 122 = .ok (.invokestatic 37, 3) := by decide +kernel
theorem dX4_advance_125 : decode cX4_advance 125 = .ok (.putfield 28, 3) := by decide +kernel
theorem dX4_advance_128 : decode cX4_advance 128 = .ok (.iload 7, 2) := by decide +kernel
theorem dX4_advance_130 : decode cX4_advance 130 = .ok (.ifCond .eq 7, 3) := by decide +kernel
theorem dX4_advance_133 : decode cX4_advance 133 = .ok (.iconst 2, 1) := by decide +kernel
theorem dX4_advance_134 : decode cX4_advance 134 = .ok (.goto 4, 3) := by decide +kernel
theorem dX4_advance_137 : decode cX4_advance 137 = .ok (.iconst 3, 1) := by decide +kernel
theorem dX4_advance_138 : decode cX4_advance 138 = .ok (.ireturn, 1) := by decide +kernel
set_option maxRecDepth 20000 in
theorem ggX4_advanceUpTo_X4_isRunning : GoodIn wsX4_advanceUpTo wsX4_isRunning := goodIn_r _ [5, 6, 7, 8, 9, 10, 71, 72, 73, 74, 75, 76, 77, 78] (by decide +kernel) (by decide +kernel)
set_option maxRecDepth 20000 in
theorem gX4_advanceUpTo_X4_isRunning : GoodIn wsX4_advanceUpTo (wsV RX4 53 RX4 yX4_isRunning wsX4_isRunning) := goodIn_app (goodIn_of _ (by decide +kernel)) ggX4_advanceUpTo_X4_isRunning
set_option maxRecDepth 20000 in
theorem ggX4_advanceUpTo_X4_advance : GoodIn wsX4_advanceUpTo wsX4_advance := goodIn_r _ [14, 6, 15, 16, 17, 18, 19, 20, 9, 21, 22, 23, 24, 25, 26, 27, 28, 29, 30, 31, 32, 33, 34, 35, 36, 37, 38, 39, 40, 41, 42, 43, 44, 45, 46, 47, 48, 49, 50, 51, 52, 53, 54, 55, 56, 57, 58, 59, 60, 61, 62, 7, 8, 10, 63, 64, 65, 66, 67, 4, 68, 69, 70, 71, 72, 73, 74, 75, 76, 77, 78] (by decide +kernel) (by decide +kernel)
set_option maxRecDepth 20000 in
theorem gX4_advanceUpTo_X4_advance : GoodIn wsX4_advanceUpTo (wsV RX4 75 RX4 yX4_advance wsX4_advance) := goodIn_app (goodIn_of _ (by decide +kernel)) ggX4_advanceUpTo_X4_advance
theorem dX4_advanceUpTo_0 : decode cX4_advanceUpTo 0 = .ok (.iconst 0, 1) := by decide +kernel
theorem dX4_advanceUpTo_1 : decode cX4_advanceUpTo 1 = .ok (.istore_n 3, 1) := by decide +kernel
theorem dX4_advanceUpTo_2 : decode cX4_advanceUpTo 2 = .ok (.iload_n 3, 1) := by decide +kernel
theorem dX4_advanceUpTo_3 : decode cX4_advanceUpTo 3 = .ok (.iload_n 2, 1) := by decide +kernel
theorem dX4_advanceUpTo_4 : decode cX4_advanceUpTo 4 = .ok (.if_icmp .ge 23, 3) := by decide +kernel
theorem dX4_advanceUpTo_7 : decode cX4_advanceUpTo 7 = .ok (.aload_n 0, 1) := by decide +kernel
theorem dX4_advanceUpTo_8 : decode cX4_advanceUpTo 8 = .ok (.iload_n 1, 1) := by decide +kernel
theorem dX4_advanceUpTo_9 : decode cX4_advanceUpTo 9 = .ok (.invokevirtual 53, 3) := by decide +kernel
theorem dX4_advanceUpTo_12 : decode cX4_advanceUpTo 12 = .ok (.ifCond .eq 15, 3) := by decide +kernel
theorem dX4_advanceUpTo_15 : decode cX4_advanceUpTo 15 = .ok (.aload_n 0, 1) := by decide +kernel
theorem dX4_advanceUpTo_16 : decode cX4_advanceUpTo 16 = .ok (.iload_n 1, 1) := by decide +kernel
theorem dX4_advanceUpTo_17 : decode cX4_advanceUpTo 17 = .ok (.invokevirtual 75, 3) := by decide +kernel
theorem dX4_advanceUpTo_20 : decode cX4_advanceUpTo 20 = .ok (.pop, 1) := by decide +kernel
theorem dX4_advanceUpTo_21 : decode cX4_advanceUpTo 21 = .ok (.iinc 3 1, 3) := by decide +kernel
theorem dX4_advanceUpTo_24 : decode cX4_advanceUpTo 24 = .ok (.goto (-22), 3) := by decide +kernel
theorem dX4_advanceUpTo_27 : decode cX4_advanceUpTo 27 = .ok (.iload_n 3, 1) := by decide +kernel
theorem dX4_advanceUpTo_28 : decode cX4_advanceUpTo 28 = .ok (.ireturn, 1) := by decide +kernel
set_option maxRecDepth 20000 in
theorem ggX4_countExit_X1_withOneMore : GoodIn wsX4_countExit wsX1_withOneMore := goodIn_r _ [6] (by decide +kernel) (by decide +kernel)
set_option maxRecDepth 20000 in
theorem gX4_countExit_X1_withOneMore : GoodIn wsX4_countExit (va_wsS RX4 37 yX1_withOneMore wsX1_withOneMore) := goodIn_app (goodIn_of _ (by decide +kernel)) ggX4_countExit_X1_withOneMore
theorem dX4_countExit_0 : decode cX4_countExit 0 = .ok (.iload_n 2, 1) := by decide +kernel
theorem dX4_countExit_1 : decode cX4_countExit 1 = .ok (.ifCond .eq 18, 3) := by decide +kernel
theorem dX4_countExit_4 : decode cX4_countExit 4 = .ok (.aload_n 0, 1) := by decide +kernel
theorem dX4_countExit_5 : decode cX4_countExit 5 = .ok (.aload_n 0, 1) := by decide +kernel
theorem dX4_countExit_6 : decode cX4_countExit 6 = .ok (.getfield 31, 3) := by decide +kernel
theorem dX4_countExit_9 : decode cX4_countExit 9 = .ok (.iload_n 1, 1) := by decide +kernel
theorem dX4_countExit_10 : decode cX4_countExit 10 = .ok (.invokestatic 37, 3) := by decide +kernel
theorem dX4_countExit_13 : decode cX4_countExit 13 = .ok (.putfield 31, 3) := by decide +kernel
theorem dX4_countExit_16 : decode cX4_countExit 16 = .ok (.goto 15, 3) := by decide +kernel
theorem dX4_countExit_19 : decode cX4_countExit 19 = .ok (.aload_n 0, 1) := by decide +kernel
theorem dX4_countExit_20 : decode cX4_countExit 20 = .ok (.aload_n 0, 1) := by decide +kernel
theorem dX4_countExit_21 : decode cX4_countExit 21 = .ok (.getfield 34, 3) := by decide +kernel
theorem dX4_countExit_24 : decode cX4_countExit 24 = .ok (.iload_n 1, 1) := by decide +kernel
theorem dX4_countExit_25 : decode cX4_countExit 25 = .ok (.invokestatic 37, 3) := by decide +kernel
theorem dX4_countExit_28 : decode cX4_countExit 28 = .ok (.putfield 34, 3) := by decide +kernel
theorem dX4_countExit_31 : decode cX4_countExit 31 = .ok (.return_, 1) := by decide +kernel
set_option maxRecDepth 20000 in
theorem ggX5_init_X4_init : GoodIn wsX5_init wsX4_init := goodIn_r _ [16, 17, 2, 3] (by decide +kernel) (by decide +kernel)
set_option maxRecDepth 20000 in
theorem gX5_init_X4_init_n9 : GoodIn wsX5_init (wsX4_init) := ggX5_init_X4_init
set_option maxRecDepth 20000 in
theorem ggX5_init_X4_begin : GoodIn wsX5_init wsX4_begin := goodIn_r _ [21, 22, 23, 24, 25, 26, 27, 28, 29, 30, 31, 32, 33, 42, 43, 44, 45, 46, 47, 48, 49] (by decide +kernel) (by decide +kernel)
set_option maxRecDepth 20000 in
theorem gX5_init_X4_begin : GoodIn wsX5_init (wsV RX5 16 RX4 yX4_begin wsX4_begin) := goodIn_app (goodIn_of _ (by decide +kernel)) ggX5_init_X4_begin
set_option maxRecDepth 20000 in
theorem ggX5_init_X3_init : GoodIn wsX5_init wsX3_init := goodIn_r _ [35, 36, 2, 3, 37, 38, 39, 40, 41, 58, 59, 60, 61, 62] (by decide +kernel) (by decide +kernel)
set_option maxRecDepth 20000 in
theorem gX5_init_X3_init_n32 : GoodIn wsX5_init (wsX3_init) := ggX5_init_X3_init
