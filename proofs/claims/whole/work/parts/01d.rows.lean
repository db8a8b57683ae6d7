theorem dX5_init_0 : decode cX5_init 0 = .ok (.aload_n 0, 1) := by decide +kernel
theorem dX5_init_1 : decode cX5_init 1 = .ok (.invokespecial 1, 3) := by decide +kernel
theorem dX5_init_4 : decode cX5_init 4 = .ok (.aload_n 0, 1) := by decide +kernel
theorem dX5_init_5 : decode cX5_init 5 = .ok (.new 7, 3) := by decide +kernel
theorem dX5_init_8 : decode cX5_init 8 = .ok (.dup, 1) := by decide +kernel
theorem dX5_init_9 : decode cX5_init 9 = .ok (.invokespecial 9, 3) := by decide +kernel
theorem dX5_init_12 : decode cX5_init 12 = .ok (.putfield 10, 3) := by decide +kernel
theorem dX5_init_15 : decode cX5_init 15 = .ok (.aload_n 0, 1) := by decide +kernel
theorem dX5_init_16 : decode cX5_init 16 = .ok (.getfield 10, 3) := by decide +kernel
theorem dX5_init_19 : decode cX5_init 19 = .ok (.iconst 3, 1) := by decide +kernel
theorem dX5_init_20 : decode cX5_init 20 = .ok (.iconst 2, 1) := by decide +kernel
theorem dX5_init_21 : decode cX5_init 21 = .ok (.iconst 0, 1) := by decide +kernel
theorem dX5_init_22 : decode cX5_init 22 = .ok (.invokevirtual 16, 3) := by decide +kernel
theorem dX5_init_25 : decode cX5_init 25 = .ok (.aload_n 0, 1) := by decide +kernel
theorem dX5_init_26 : decode cX5_init 26 = .ok (.new 7, 3) := by decide +kernel
theorem dX5_init_29 : decode cX5_init 29 = .ok (.dup, 1) := by decide +kernel
theorem dX5_init_30 : decode cX5_init 30 = .ok (.invokespecial 9, 3) := by decide +kernel
theorem dX5_init_33 : decode cX5_init 33 = .ok (.putfield 20, 3) := by decide +kernel
theorem dX5_init_36 : decode cX5_init 36 = .ok (.aload_n 0, 1) := by decide +kernel
theorem dX5_init_37 : decode cX5_init 37 = .ok (.bipush 8, 2) := by decide +kernel
theorem dX5_init_39 : decode cX5_init 39 = .ok (.anewarray 7, 3) := by decide +kernel
theorem dX5_init_42 : decode cX5_init 42 = .ok (.putfield 23, 3) := by decide +kernel
theorem dX5_init_45 : decode cX5_init 45 = .ok (.iconst 0, 1) := by decide +kernel
theorem dX5_init_46 : decode cX5_init 46 = .ok (.istore_n 1, 1) := by decide +kernel
theorem dX5_init_47 : decode cX5_init 47 = .ok (.iload_n 1, 1) := by decide +kernel
theorem dX5_init_48 : decode cX5_init 48 = .ok (.aload_n 0, 1) := by decide +kernel
theorem dX5_init_49 : decode cX5_init 49 = .ok (.getfield 23, 3) := by decide +kernel
theorem dX5_init_52 : decode cX5_init 52 = .ok (.arraylength, 1) := by decide +kernel
theorem dX5_init_53 : decode cX5_init 53 = .ok (.if_icmp .ge 22, 3) := by decide +kernel
theorem dX5_init_56 : decode cX5_init 56 = .ok (.aload_n 0, 1) := by decide +kernel
theorem dX5_init_57 : decode cX5_init 57 = .ok (.getfield 23, 3) := by decide +kernel
theorem dX5_init_60 : decode cX5_init 60 = .ok (.iload_n 1, 1) := by decide +kernel
theorem dX5_init_61 : decode cX5_init 61 = .ok (.new 7, 3) := by decide +kernel
theorem dX5_init_64 : decode cX5_init 64 = .ok (.dup, 1) := by decide +kernel
theorem dX5_init_65 : decode cX5_init 65 = .ok (.invokespecial 9, 3) := by decide +kernel
theorem dX5_init_68 : decode cX5_init 68 = .ok (.aastore, 1) := by decide +kernel
theorem dX5_init_69 : decode cX5_init 69 = .ok (.iinc 1 1, 3) := by decide +kernel
theorem dX5_init_72 : decode cX5_init 72 = .ok (.goto (-25), 3) := by decide +kernel
theorem dX5_init_75 : decode cX5_init 75 = .ok (.aload_n 0, 1) := by decide +kernel
theorem dX5_init_76 : decode cX5_init 76 = .ok (.iconst 2, 1) := by decide +kernel
theorem dX5_init_77 : decode cX5_init 77 = .ok (.anewarray 7, 3) := by decide +kernel
theorem dX5_init_80 : decode cX5_init 80 = .ok (.putfield 27, 3) := by decide +kernel
theorem dX5_init_83 : decode cX5_init 83 = .ok (.aload_n 0, 1) := by decide +kernel
theorem dX5_init_84 : decode cX5_init 84 = .ok (.new 30, 3) := by decide +kernel
theorem dX5_init_87 : decode cX5_init 87 = .ok (.dup, 1) := by decide +kernel
theorem dX5_init_88 : decode cX5_init 88 = .ok (.invokespecial 32, 3) := by decide +kernel
theorem dX5_init_91 : decode cX5_init 91 = .ok (.putfield 33, 3) := by decide +kernel
theorem dX5_init_94 : decode cX5_init 94 = .ok (.return_, 1) := by decide +kernel
set_option maxRecDepth 20000 in
theorem ggX5_configure_X5_prepareChange : GoodIn wsX5_configure wsX5_prepareChange := goodIn_r _ [6, 7, 8, 1, 9, 10, 11, 12, 5, 13, 14, 15, 16, 17, 18, 19, 20, 21, 22, 23, 24, 25, 26, 39, 40, 41, 42, 43, 44, 45, 46, 47, 48, 49, 50, 51, 52, 53, 54] (by decide +kernel) (by decide +kernel)
set_option maxRecDepth 20000 in
theorem gX5_configure_X5_prepareChange : GoodIn wsX5_configure (wsV RX5 37 RX5 yX5_prepareChange wsX5_prepareChange) := goodIn_app (goodIn_of _ (by decide +kernel)) ggX5_configure_X5_prepareChange
set_option maxRecDepth 20000 in
theorem ggX5_configure_X4_begin : GoodIn wsX5_configure wsX4_begin := goodIn_r _ [30, 19, 20, 21, 22, 23, 24, 25, 26, 31, 32, 33, 34, 47, 48, 49, 50, 51, 52, 53, 54] (by decide +kernel) (by decide +kernel)
set_option maxRecDepth 20000 in
theorem gX5_configure_X4_begin : GoodIn wsX5_configure (wsV RX5 16 RX4 yX4_begin wsX4_begin) := goodIn_app (goodIn_of _ (by decide +kernel)) ggX5_configure_X4_begin
set_option maxRecDepth 20000 in
theorem ggX5_configure_X4_names : GoodIn wsX5_configure wsX4_names := goodIn_r _ [38, 19, 47, 48, 49, 50, 51, 52, 53, 54] (by decide +kernel) (by decide +kernel)
set_option maxRecDepth 20000 in
theorem gX5_configure_X4_names : GoodIn wsX5_configure (wsV RX5 40 RX4 yX4_names wsX4_names) := goodIn_app (goodIn_of _ (by decide +kernel)) ggX5_configure_X4_names
theorem dX5_configure_0 : decode cX5_configure 0 = .ok (.iload_n 1, 1) := by decide +kernel
theorem dX5_configure_1 : decode cX5_configure 1 = .ok (.iconst 2, 1) := by decide +kernel
theorem dX5_configure_2 : decode cX5_configure 2 = .ok (.if_icmp .lt 31, 3) := by decide +kernel
theorem dX5_configure_5 : decode cX5_configure 5 = .ok (.iload_n 1, 1) := by decide +kernel
theorem dX5_configure_6 : decode cX5_configure 6 = .ok (.iconst 4, 1) := by decide +kernel
theorem dX5_configure_7 : decode cX5_configure 7 = .ok (.if_icmp .gt 26, 3) := by decide +kernel
theorem dX5_configure_10 : decode cX5_configure 10 = .ok (.iload_n 2, 1) := by decide +kernel
theorem dX5_configure_11 : decode cX5_configure 11 = .ok (.iconst 1, 1) := by decide +kernel
theorem dX5_configure_12 : decode cX5_configure 12 = .ok (.if_icmp .lt 21, 3) := by decide +kernel
theorem dX5_configure_15 : decode cX5_configure 15 = .ok (.iload_n 2, 1) := by decide +kernel
theorem dX5_configure_16 : decode cX5_configure 16 = .ok (.iconst 3, 1) := by decide +kernel
theorem dX5_configure_17 : decode cX5_configure 17 = .ok (.if_icmp .gt 16, 3) := by decide +kernel
theorem dX5_configure_20 : decode cX5_configure 20 = .ok (.iload_n 3, 1) := by decide +kernel
theorem dX5_configure_21 : decode cX5_configure 21 = .ok (.ifCond .lt 12, 3) := by decide +kernel
theorem dX5_configure_24 : decode cX5_configure 24 = .ok (.iload_n 3, 1) := by decide +kernel
theorem dX5_configure_25 : decode cX5_configure 25 = .ok (.iconst 2, 1) := by decide +kernel
theorem dX5_configure_26 : decode cX5_configure 26 = .ok (.if_icmp .gt 7, 3) := by decide +kernel
theorem dX5_configure_29 : decode cX5_configure 29 = .ok (.iconst 1, 1) := by decide +kernel
theorem dX5_configure_30 : decode cX5_configure 30 = .ok (.goto 4, 3) := by decide +kernel
theorem dX5_configure_33 : decode cX5_configure 33 = .ok (.iconst 0, 1) := by decide +kernel
theorem dX5_configure_34 : decode cX5_configure 34 = .ok (.istore 4, 2) := by decide +kernel
theorem dX5_configure_36 : decode cX5_configure 36 = .ok (.iload 4, 2) := by decide +kernel
theorem dX5_configure_38 : decode cX5_configure 38 = .ok (.ifCond .ne 5, 3) := by decide +kernel
theorem dX5_configure_41 : decode cX5_configure 41 = .ok (.iconst (-1), 1) := by decide +kernel
theorem dX5_configure_42 : decode cX5_configure 42 = .ok (.ireturn, 1) := by decide +kernel
theorem dX5_configure_43 : decode cX5_configure 43 = .ok (.aload_n 0, 1) := by decide +kernel
theorem dX5_configure_44 : decode cX5_configure 44 = .ok (.invokevirtual 37, 3) := by decide +kernel
theorem dX5_configure_47 : decode cX5_configure 47 = .ok (.aload_n 0, 1) := by decide +kernel
theorem dX5_configure_48 : decode cX5_configure 48 = .ok (.getfield 10, 3) := by decide +kernel
theorem dX5_configure_51 : decode cX5_configure 51 = .ok (.iload_n 1, 1) := by decide +kernel
theorem dX5_configure_52 : decode cX5_configure 52 = .ok (.iload_n 2, 1) := by decide +kernel
theorem dX5_configure_53 : decode cX5_configure 53 = .ok (.iload_n 3, 1) := by decide +kernel
theorem dX5_configure_54 : decode cX5_configure 54 = .ok (.invokevirtual 16, 3) := by decide +kernel
theorem dX5_configure_57 : decode cX5_configure 57 = .ok (.aload_n 0, 1) := by decide +kernel
theorem dX5_configure_58 : decode cX5_configure 58 = .ok (.getfield 10, 3) := by decide +kernel
theorem dX5_configure_61 : decode cX5_configure 61 = .ok (.invokevirtual 40, 3) := by decide +kernel
theorem dX5_configure_64 : decode cX5_configure 64 = .ok (.ireturn, 1) := by decide +kernel
set_option maxRecDepth 20000 in
theorem ggX5_nameCount_X4_names : GoodIn wsX5_nameCount wsX4_names := goodIn_r _ [6, 7, 16, 17, 18, 19, 20, 21, 22, 23] (by decide +kernel) (by decide +kernel)
set_option maxRecDepth 20000 in
theorem gX5_nameCount_X4_names : GoodIn wsX5_nameCount (wsV RX5 40 RX4 yX4_names wsX4_names) := goodIn_app (goodIn_of _ (by decide +kernel)) ggX5_nameCount_X4_names
theorem dX5_nameCount_0 : decode cX5_nameCount 0 = .ok (.aload_n 0, 1) := by decide +kernel
theorem dX5_nameCount_1 : decode cX5_nameCount 1 = .ok (.getfield 10, 3) := by decide +kernel
theorem dX5_nameCount_4 : decode cX5_nameCount 4 = .ok (.invokevirtual 40, 3) := by decide +kernel
theorem dX5_nameCount_7 : decode cX5_nameCount 7 = .ok (.ireturn, 1) := by decide +kernel
theorem dX5_processCount_0 : decode cX5_processCount 0 = .ok (.aload_n 0, 1) := by decide +kernel
theorem dX5_processCount_1 : decode cX5_processCount 1 = .ok (.getfield 10, 3) := by decide +kernel
theorem dX5_processCount_4 : decode cX5_processCount 4 = .ok (.getfield 44, 3) := by decide +kernel
theorem dX5_processCount_7 : decode cX5_processCount 7 = .ok (.ireturn, 1) := by decide +kernel
set_option maxRecDepth 20000 in
theorem ggX5_step_X4_hasProcess : GoodIn wsX5_step wsX4_hasProcess := goodIn_r _ [6, 7, 101, 102, 103, 104, 105, 106, 107, 108] (by decide +kernel) (by decide +kernel)
set_option maxRecDepth 20000 in
theorem gX5_step_X4_hasProcess : GoodIn wsX5_step (wsV RX5 48 RX4 yX4_hasProcess wsX4_hasProcess) := goodIn_app (goodIn_of _ (by decide +kernel)) ggX5_step_X4_hasProcess
set_option maxRecDepth 20000 in
theorem ggX5_step_X4_isRunning : GoodIn wsX5_step wsX4_isRunning := goodIn_r _ [11, 12, 13, 14, 15, 16, 101, 102, 103, 104, 105, 106, 107, 108] (by decide +kernel) (by decide +kernel)
set_option maxRecDepth 20000 in
theorem gX5_step_X4_isRunning : GoodIn wsX5_step (wsV RX5 52 RX4 yX4_isRunning wsX4_isRunning) := goodIn_app (goodIn_of _ (by decide +kernel)) ggX5_step_X4_isRunning
set_option maxRecDepth 20000 in
theorem ggX5_step_X5_prepareChange : GoodIn wsX5_step wsX5_prepareChange := goodIn_r _ [21, 22, 23, 1, 24, 25, 26, 27, 20, 28, 29, 30, 31, 5, 32, 33, 7, 34, 12, 35, 36, 37, 38, 93, 94, 95, 96, 97, 98, 99, 100, 101, 102, 103, 104, 105, 106, 107, 108] (by decide +kernel) (by decide +kernel)
set_option maxRecDepth 20000 in
theorem gX5_step_X5_prepareChange : GoodIn wsX5_step (wsV RX5 37 RX5 yX5_prepareChange wsX5_prepareChange) := goodIn_app (goodIn_of _ (by decide +kernel)) ggX5_step_X5_prepareChange
set_option maxRecDepth 20000 in
theorem ggX5_step_X4_advance : GoodIn wsX5_step wsX4_advance := goodIn_r _ [42, 12, 33, 34, 35, 36, 43, 44, 15, 45, 46, 47, 48, 49, 50, 51, 52, 53, 54, 55, 56, 57, 58, 59, 60, 61, 62, 63, 64, 65, 66, 67, 68, 69, 70, 71, 72, 73, 74, 75, 76, 77, 78, 79, 80, 81, 82, 83, 84, 85, 86, 13, 14, 16, 87, 88, 89, 90, 91, 5, 92, 37, 38, 101, 102, 103, 104, 105, 106, 107, 108] (by decide +kernel) (by decide +kernel)
set_option maxRecDepth 20000 in
theorem gX5_step_X4_advance : GoodIn wsX5_step (wsV RX5 55 RX4 yX4_advance wsX4_advance) := goodIn_app (goodIn_of _ (by decide +kernel)) ggX5_step_X4_advance
theorem dX5_step_0 : decode cX5_step 0 = .ok (.aload_n 0, 1) := by decide +kernel
theorem dX5_step_1 : decode cX5_step 1 = .ok (.getfield 10, 3) := by decide +kernel
theorem dX5_step_4 : decode cX5_step 4 = .ok (.iload_n 1, 1) := by decide +kernel
theorem dX5_step_5 : decode cX5_step 5 = .ok (.invokevirtual 48, 3) := by decide +kernel
theorem dX5_step_8 : decode cX5_step 8 = .ok (.ifCond .ne 5, 3) := by decide +kernel
theorem dX5_step_11 : decode cX5_step 11 = .ok (.iconst (-1), 1) := by decide +kernel
theorem dX5_step_12 : decode cX5_step 12 = .ok (.ireturn, 1) := by decide +kernel
theorem dX5_step_13 : decode cX5_step 13 = .ok (.aload_n 0, 1) := by decide +kernel
theorem dX5_step_14 : decode cX5_step 14 = .ok (.getfield 10, 3) := by decide +kernel
theorem dX5_step_17 : decode cX5_step 17 = .ok (.iload_n 1, 1) := by decide +kernel
theorem dX5_step_18 : decode cX5_step 18 = .ok (.invokevirtual 52, 3) := by decide +kernel
theorem dX5_step_21 : decode cX5_step 21 = .ok (.ifCond .ne 6, 3) := by decide +kernel
theorem dX5_step_24 : decode cX5_step 24 = .ok (.bipush (-2), 2) := by decide +kernel
theorem dX5_step_26 : decode cX5_step 26 = .ok (.ireturn, 1) := by decide +kernel
theorem dX5_step_27 : decode cX5_step 27 = .ok (.aload_n 0, 1) := by decide +kernel
theorem dX5_step_28 : decode cX5_step 28 = .ok (.invokevirtual 37, 3) := by decide +kernel
theorem dX5_step_31 : decode cX5_step 31 = .ok (.aload_n 0, 1) := by decide +kernel
theorem dX5_step_32 : decode cX5_step 32 = .ok (.getfield 10, 3) := by decide +kernel
theorem dX5_step_35 : decode cX5_step 35 = .ok (.iload_n 1, 1) := by decide +kernel
theorem dX5_step_36 : decode cX5_step 36 = .ok (.invokevirtual 55, 3) := by decide +kernel
theorem dX5_step_39 : decode cX5_step 39 = .ok (.ireturn, 1) := by decide +kernel
set_option maxRecDepth 20000 in
theorem ggX5_crash_X4_hasProcess : GoodIn wsX5_crash wsX4_hasProcess := goodIn_r _ [6, 7, 61, 62, 63, 64, 65, 66, 67, 68] (by decide +kernel) (by decide +kernel)
set_option maxRecDepth 20000 in
theorem gX5_crash_X4_hasProcess : GoodIn wsX5_crash (wsV RX5 48 RX4 yX4_hasProcess wsX4_hasProcess) := goodIn_app (goodIn_of _ (by decide +kernel)) ggX5_crash_X4_hasProcess
set_option maxRecDepth 20000 in
theorem ggX5_crash_X4_isRunning : GoodIn wsX5_crash wsX4_isRunning := goodIn_r _ [11, 12, 13, 14, 15, 16, 61, 62, 63, 64, 65, 66, 67, 68] (by decide +kernel) (by decide +kernel)
set_option maxRecDepth 20000 in
theorem gX5_crash_X4_isRunning : GoodIn wsX5_crash (wsV RX5 52 RX4 yX4_isRunning wsX4_isRunning) := goodIn_app (goodIn_of _ (by decide +kernel)) ggX5_crash_X4_isRunning
set_option maxRecDepth 20000 in
theorem ggX5_crash_X5_prepareChange : GoodIn wsX5_crash wsX5_prepareChange := goodIn_r _ [21, 22, 23, 1, 24, 25, 26, 27, 20, 28, 29, 30, 31, 5, 32, 33, 7, 34, 12, 35, 36, 37, 38, 53, 54, 55, 56, 57, 58, 59, 60, 61, 62, 63, 64, 65, 66, 67, 68] (by decide +kernel) (by decide +kernel)
set_option maxRecDepth 20000 in
theorem gX5_crash_X5_prepareChange : GoodIn wsX5_crash (wsV RX5 37 RX5 yX5_prepareChange wsX5_prepareChange) := goodIn_app (goodIn_of _ (by decide +kernel)) ggX5_crash_X5_prepareChange
set_option maxRecDepth 20000 in
theorem ggX5_crash_X4_markCrashed : GoodIn wsX5_crash wsX4_markCrashed := goodIn_r _ [42, 12, 43, 44, 15, 45, 46, 47, 61, 62, 63, 64, 65, 66, 67, 68] (by decide +kernel) (by decide +kernel)
set_option maxRecDepth 20000 in
theorem gX5_crash_X4_markCrashed : GoodIn wsX5_crash (wsV RX5 59 RX4 yX4_markCrashed wsX4_markCrashed) := goodIn_app (goodIn_of _ (by decide +kernel)) ggX5_crash_X4_markCrashed
set_option maxRecDepth 20000 in
theorem ggX5_crash_X4_countRunning : GoodIn wsX5_crash wsX4_countRunning := goodIn_r _ [51, 7, 52, 9, 10, 5, 11, 12, 13, 14, 15, 16, 61, 62, 63, 64, 65, 66, 67, 68] (by decide +kernel) (by decide +kernel)
set_option maxRecDepth 20000 in
theorem gX5_crash_X4_countRunning : GoodIn wsX5_crash (wsV RX5 63 RX4 yX4_countRunning wsX4_countRunning) := goodIn_app (goodIn_of _ (by decide +kernel)) ggX5_crash_X4_countRunning
theorem dX5_crash_0 : decode cX5_crash 0 = .ok (.aload_n 0, 1) := by decide +kernel
theorem dX5_crash_1 : decode cX5_crash 1 = .ok (.getfield 10, 3) := by decide +kernel
theorem dX5_crash_4 : decode cX5_crash 4 = .ok (.iload_n 1, 1) := by decide +kernel
theorem dX5_crash_5 : decode cX5_crash 5 = .ok (.invokevirtual 48, 3) := by decide +kernel
theorem dX5_crash_8 : decode cX5_crash 8 = .ok (.ifCond .ne 5, 3) := by decide +kernel
theorem dX5_crash_11 : decode cX5_crash 11 = .ok (.iconst (-1), 1) := by decide +kernel
theorem dX5_crash_12 : decode cX5_crash 12 = .ok (.ireturn, 1) := by decide +kernel
theorem dX5_crash_13 : decode cX5_crash 13 = .ok (.aload_n 0, 1) := by decide +kernel
theorem dX5_crash_14 : decode cX5_crash 14 = .ok (.getfield 10, 3) := by decide +kernel
theorem dX5_crash_17 : decode cX5_crash 17 = .ok (.iload_n 1, 1) := by decide +kernel
theorem dX5_crash_18 : decode cX5_crash 18 = .ok (.invokevirtual 52, 3) := by decide +kernel
theorem dX5_crash_21 : decode cX5_crash 21 = .ok (.ifCond .ne 6, 3) := by decide +kernel
theorem dX5_crash_24 : decode cX5_crash 24 = .ok (.bipush (-2), 2) := by decide +kernel
theorem dX5_crash_26 : decode cX5_crash 26 = .ok (.ireturn, 1) := by decide +kernel
theorem dX5_crash_27 : decode cX5_crash 27 = .ok (.aload_n 0, 1) := by decide +kernel
theorem dX5_crash_28 : decode cX5_crash 28 = .ok (.invokevirtual 37, 3) := by decide +kernel
theorem dX5_crash_31 : decode cX5_crash 31 = .ok (.aload_n 0, 1) := by decide +kernel
theorem dX5_crash_32 : decode cX5_crash 32 = .ok (.getfield 10, 3) := by decide +kernel
theorem dX5_crash_35 : decode cX5_crash 35 = .ok (.iload_n 1, 1) := by decide +kernel
theorem dX5_crash_36 : decode cX5_crash 36 = .ok (.invokevirtual 59, 3) := by decide +kernel
theorem dX5_crash_39 : decode cX5_crash 39 = .ok (.aload_n 0, 1) := by decide +kernel
theorem dX5_crash_40 : decode cX5_crash 40 = .ok (.getfield 10, 3) := by decide +kernel
theorem dX5_crash_43 : decode cX5_crash 43 = .ok (.invokevirtual 63, 3) := by decide +kernel
theorem dX5_crash_46 : decode cX5_crash 46 = .ok (.ireturn, 1) := by decide +kernel
set_option maxRecDepth 20000 in
theorem ggX5_append_X3_isFull : GoodIn wsX5_append wsX3_isFull := goodIn_r _ [6, 7, 8, 22, 23, 24, 25, 26] (by decide +kernel) (by decide +kernel)
set_option maxRecDepth 20000 in
theorem gX5_append_X3_isFull : GoodIn wsX5_append (wsV RX5 66 RX3 yX3_isFull wsX3_isFull) := goodIn_app (goodIn_of _ (by decide +kernel)) ggX5_append_X3_isFull
set_option maxRecDepth 20000 in
theorem ggX5_append_X3_add : GoodIn wsX5_append wsX3_add := goodIn_r _ [12, 8, 7, 13, 3, 4, 5, 6, 22, 23, 24, 25, 26] (by decide +kernel) (by decide +kernel)
set_option maxRecDepth 20000 in
theorem gX5_append_X3_add : GoodIn wsX5_append (wsV RX5 70 RX3 yX3_add wsX3_add) := goodIn_app (goodIn_of _ (by decide +kernel)) ggX5_append_X3_add
theorem dX5_append_0 : decode cX5_append 0 = .ok (.iload_n 1, 1) := by decide +kernel
theorem dX5_append_1 : decode cX5_append 1 = .ok (.ifCond .lt 10, 3) := by decide +kernel
theorem dX5_append_4 : decode cX5_append 4 = .ok (.iload_n 1, 1) := by decide +kernel
theorem dX5_append_5 : decode cX5_append 5 = .ok (.sipush 255, 3) := by decide +kernel
theorem dX5_append_8 : decode cX5_append 8 = .ok (.if_icmp .le 5, 3) := by decide +kernel
theorem dX5_append_11 : decode cX5_append 11 = .ok (.iconst (-1), 1) := by decide +kernel
theorem dX5_append_12 : decode cX5_append 12 = .ok (.ireturn, 1) := by decide +kernel
theorem dX5_append_13 : decode cX5_append 13 = .ok (.aload_n 0, 1) := by decide +kernel
theorem dX5_append_14 : decode cX5_append 14 = .ok (.getfield 33, 3) := by decide +kernel
theorem dX5_append_17 : decode cX5_append 17 = .ok (.invokevirtual 66, 3) := by decide +kernel
theorem dX5_append_20 : decode cX5_append 20 = .ok (.ifCond .eq 6, 3) := by decide +kernel
theorem dX5_append_23 : decode cX5_append 23 = .ok (.bipush (-3), 2) := by decide +kernel
theorem dX5_append_25 : decode cX5_append 25 = .ok (.ireturn, 1) := by decide +kernel
theorem dX5_append_26 : decode cX5_append 26 = .ok (.aload_n 0, 1) := by decide +kernel
theorem dX5_append_27 : decode cX5_append 27 = .ok (.getfield 33, 3) := by decide +kernel
theorem dX5_append_30 : decode cX5_append 30 = .ok (.iload_n 1, 1) := by decide +kernel
theorem dX5_append_31 : decode cX5_append 31 = .ok (.i2c, 1) := by decide +kernel
theorem dX5_append_32 : decode cX5_append 32 = .ok (.invokevirtual 70, 3) := by decide +kernel
theorem dX5_append_35 : decode cX5_append 35 = .ok (.ireturn, 1) := by decide +kernel
set_option maxRecDepth 20000 in
theorem ggX5_clearText_X3_clear : GoodIn wsX5_clearText wsX3_clear := goodIn_r _ [6, 7, 16, 17, 18, 19, 20] (by decide +kernel) (by decide +kernel)
set_option maxRecDepth 20000 in
theorem gX5_clearText_X3_clear : GoodIn wsX5_clearText (wsV RX5 74 RX3 yX3_clear wsX3_clear) := goodIn_app (goodIn_of _ (by decide +kernel)) ggX5_clearText_X3_clear
theorem dX5_clearText_0 : decode cX5_clearText 0 = .ok (.aload_n 0, 1) := by decide +kernel
theorem dX5_clearText_1 : decode cX5_clearText 1 = .ok (.getfield 33, 3) := by decide +kernel
theorem dX5_clearText_4 : decode cX5_clearText 4 = .ok (.invokevirtual 74, 3) := by decide +kernel
theorem dX5_clearText_7 : decode cX5_clearText 7 = .ok (.ireturn, 1) := by decide +kernel
set_option maxRecDepth 20000 in
theorem ggX5_runText_X3_read : GoodIn wsX5_runText wsX3_read := goodIn_r _ [7, 8, 9, 10, 11, 12, 6, 13, 14, 15, 16, 17, 18, 19, 20, 21, 22, 23, 24, 25, 26, 27, 28, 29, 30, 31, 32, 33, 34, 35, 36, 37, 38, 39, 40, 156, 157, 158, 159, 160] (by decide +kernel) (by decide +kernel)
set_option maxRecDepth 20000 in
theorem gX5_runText_X3_read : GoodIn wsX5_runText (wsV RX5 77 RX3 yX3_read wsX3_read) := goodIn_app (goodIn_of _ (by decide +kernel)) ggX5_runText_X3_read
set_option maxRecDepth 20000 in
theorem ggX5_runText_X5_prepareChange : GoodIn wsX5_runText wsX5_prepareChange := goodIn_r _ [45, 46, 47, 2, 48, 49, 50, 51, 44, 52, 53, 54, 55, 56, 57, 58, 59, 60, 61, 62, 63, 64, 65, 140, 141, 142, 143, 144, 145, 146, 147, 148, 149, 150, 151, 152, 153, 154, 155] (by decide +kernel) (by decide +kernel)
set_option maxRecDepth 20000 in
theorem gX5_runText_X5_prepareChange : GoodIn wsX5_runText (wsV RX5 37 RX5 yX5_prepareChange wsX5_prepareChange) := goodIn_app (goodIn_of _ (by decide +kernel)) ggX5_runText_X5_prepareChange
set_option maxRecDepth 20000 in
theorem ggX5_runText_X3_executeOn : GoodIn wsX5_runText wsX3_executeOn := goodIn_r _ [69, 8, 35, 36, 70, 71, 72, 56, 73, 74, 75, 76, 77, 61, 78, 79, 80, 81, 82, 83, 84, 85, 58, 60, 62, 63, 86, 87, 88, 89, 90, 91, 92, 93, 94, 95, 96, 97, 98, 99, 100, 101, 102, 103, 104, 105, 106, 107, 108, 109, 110, 111, 112, 113, 114, 115, 116, 117, 118, 119, 120, 121, 122, 123, 124, 125, 126, 127, 128, 129, 130, 131, 132, 133, 134, 135, 64, 65, 156, 157, 158, 159, 160, 148, 149, 150, 151, 152, 153, 154, 155] (by decide +kernel) (by decide +kernel)
set_option maxRecDepth 20000 in
theorem gX5_runText_X3_executeOn : GoodIn wsX5_runText (wsV RX5 80 RX3 yX3_executeOn wsX3_executeOn) := goodIn_app (goodIn_of _ (by decide +kernel)) ggX5_runText_X3_executeOn
set_option maxRecDepth 20000 in
theorem ggX5_runText_X3_clear : GoodIn wsX5_runText wsX3_clear := goodIn_r _ [139, 9, 156, 157, 158, 159, 160] (by decide +kernel) (by decide +kernel)
set_option maxRecDepth 20000 in
theorem gX5_runText_X3_clear : GoodIn wsX5_runText (wsV RX5 74 RX3 yX3_clear wsX3_clear) := goodIn_app (goodIn_of _ (by decide +kernel)) ggX5_runText_X3_clear
theorem dX5_runText_0 : decode cX5_runText 0 = .ok (.aload_n 0, 1) := by decide +kernel
theorem dX5_runText_1 : decode cX5_runText 1 = .ok (.getfield 33, 3) := by decide +kernel
theorem dX5_runText_4 : decode cX5_runText 4 = .ok (.aload_n 0, 1) := by decide +kernel
theorem dX5_runText_5 : decode cX5_runText 5 = .ok (.getfield 10, 3) := by decide +kernel
theorem dX5_runText_8 : decode cX5_runText 8 = .ok (.getfield 44, 3) := by decide +kernel
theorem dX5_runText_11 : decode cX5_runText 11 = .ok (.invokevirtual 77, 3) := by decide +kernel
theorem dX5_runText_14 : decode cX5_runText 14 = .ok (.istore_n 1, 1) := by decide +kernel
theorem dX5_runText_15 : decode cX5_runText 15 = .ok (.iload_n 1, 1) := by decide +kernel
theorem dX5_runText_16 : decode cX5_runText 16 = .ok (.iconst (-1), 1) := by decide +kernel
theorem dX5_runText_17 : decode cX5_runText 17 = .ok (.if_icmp .eq 8, 3) := by decide +kernel
theorem dX5_runText_20 : decode cX5_runText 20 = .ok (.bipush (-10), 2) := by decide +kernel
theorem dX5_runText_22 : decode cX5_runText 22 = .ok (.iload_n 1, 1) := by decide +kernel
theorem dX5_runText_23 : decode cX5_runText 23 = .ok (.isub, 1) := by decide +kernel
theorem dX5_runText_24 : decode cX5_runText 24 = .ok (.ireturn, 1) := by decide +kernel
theorem dX5_runText_25 : decode cX5_runText 25 = .ok (.aload_n 0, 1) := by decide +kernel
theorem dX5_runText_26 : decode cX5_runText 26 = .ok (.invokevirtual 37, 3) := by decide +kernel
theorem dX5_runText_29 : decode cX5_runText 29 = .ok (.aload_n 0, 1) := by decide +kernel
theorem dX5_runText_30 : decode cX5_runText 30 = .ok (.getfield 33, 3) := by decide +kernel
theorem dX5_runText_33 : decode cX5_runText 33 = .ok (.aload_n 0, 1) := by decide +kernel
theorem dX5_runText_34 : decode cX5_runText 34 = .ok (.getfield 10, 3) := by decide +kernel
theorem dX5_runText_37 : decode cX5_runText 37 = .ok (.invokevirtual 80, 3) := by decide +kernel
theorem dX5_runText_40 : decode cX5_runText 40 = .ok (.istore_n 2, 1) := by decide +kernel
theorem dX5_runText_41 : decode cX5_runText 41 = .ok (.aload_n 0, 1) := by decide +kernel
theorem dX5_runText_42 : decode cX5_runText 42 = .ok (.getfield 33, 3) := by decide +kernel
theorem dX5_runText_45 : decode cX5_runText 45 = .ok (.invokevirtual 74, 3) := by decide +kernel
theorem dX5_runText_48 : decode cX5_runText 48 = .ok (.pop, 1) := by decide +kernel
theorem dX5_runText_49 : decode cX5_runText 49 = .ok (.iload_n 2, 1) := by decide +kernel
theorem dX5_runText_50 : decode cX5_runText 50 = .ok (.ireturn, 1) := by decide +kernel
set_option maxRecDepth 20000 in
theorem ggX5_status_X4_hasProcess : GoodIn wsX5_status wsX4_hasProcess := goodIn_r _ [6, 7, 20, 21, 22, 23, 24, 25, 26, 27] (by decide +kernel) (by decide +kernel)
set_option maxRecDepth 20000 in
theorem gX5_status_X4_hasProcess : GoodIn wsX5_status (wsV RX5 48 RX4 yX4_hasProcess wsX4_hasProcess) := goodIn_app (goodIn_of _ (by decide +kernel)) ggX5_status_X4_hasProcess
set_option maxRecDepth 20000 in
theorem ggX5_status_X0_statusIn : GoodIn wsX5_status wsX0_statusIn := goodIn_r _ [11] (by decide +kernel) (by decide +kernel)
set_option maxRecDepth 20000 in
theorem gX5_status_X0_statusIn : GoodIn wsX5_status (va_wsS RX5 88 yX0_statusIn wsX0_statusIn) := goodIn_app (goodIn_of _ (by decide +kernel)) ggX5_status_X0_statusIn
theorem dX5_status_0 : decode cX5_status 0 = .ok (.aload_n 0, 1) := by decide +kernel
theorem dX5_status_1 : decode cX5_status 1 = .ok (.getfield 10, 3) := by decide +kernel
theorem dX5_status_4 : decode cX5_status 4 = .ok (.iload_n 1, 1) := by decide +kernel
theorem dX5_status_5 : decode cX5_status 5 = .ok (.invokevirtual 48, 3) := by decide +kernel
theorem dX5_status_8 : decode cX5_status 8 = .ok (.ifCond .ne 5, 3) := by decide +kernel
theorem dX5_status_11 : decode cX5_status 11 = .ok (.iconst (-1), 1) := by decide +kernel
theorem dX5_status_12 : decode cX5_status 12 = .ok (.ireturn, 1) := by decide +kernel
theorem dX5_status_13 : decode cX5_status 13 = .ok (.aload_n 0, 1) := by decide +kernel
theorem dX5_status_14 : decode cX5_status 14 = .ok (.getfield 10, 3) := by decide +kernel
theorem dX5_status_17 : decode cX5_status 17 = .ok (.getfield 84, 3) := by decide +kernel
theorem dX5_status_20 : decode cX5_status 20 = .ok (.iload_n 1, 1) := by decide +kernel
theorem dX5_status_21 : decode cX5_status 21 = .ok (.invokestatic 88, 3) := by decide +kernel
theorem dX5_status_24 : decode cX5_status 24 = .ok (.ireturn, 1) := by decide +kernel
set_option maxRecDepth 20000 in
theorem ggX5_splitterOf_X4_hasProcess : GoodIn wsX5_splitterOf wsX4_hasProcess := goodIn_r _ [6, 7, 23, 24, 25, 26, 27, 28, 29, 30] (by decide +kernel) (by decide +kernel)
set_option maxRecDepth 20000 in
theorem gX5_splitterOf_X4_hasProcess : GoodIn wsX5_splitterOf (wsV RX5 48 RX4 yX4_hasProcess wsX4_hasProcess) := goodIn_app (goodIn_of _ (by decide +kernel)) ggX5_splitterOf_X4_hasProcess
set_option maxRecDepth 20000 in
theorem ggX5_splitterOf_X0_statusIn : GoodIn wsX5_splitterOf wsX0_statusIn := goodIn_r _ [11] (by decide +kernel) (by decide +kernel)
set_option maxRecDepth 20000 in
theorem gX5_splitterOf_X0_statusIn : GoodIn wsX5_splitterOf (va_wsS RX5 88 yX0_statusIn wsX0_statusIn) := goodIn_app (goodIn_of _ (by decide +kernel)) ggX5_splitterOf_X0_statusIn
set_option maxRecDepth 20000 in
theorem ggX5_splitterOf_X0_splitterIn : GoodIn wsX5_splitterOf wsX0_splitterIn := goodIn_r _ [14] (by decide +kernel) (by decide +kernel)
set_option maxRecDepth 20000 in
theorem gX5_splitterOf_X0_splitterIn : GoodIn wsX5_splitterOf (va_wsS RX5 94 yX0_splitterIn wsX0_splitterIn) := goodIn_app (goodIn_of _ (by decide +kernel)) ggX5_splitterOf_X0_splitterIn
theorem dX5_splitterOf_0 : decode cX5_splitterOf 0 = .ok (.aload_n 0, 1) := by decide +kernel
theorem dX5_splitterOf_1 : decode cX5_splitterOf 1 = .ok (.getfield 10, 3) := by decide +kernel
theorem dX5_splitterOf_4 : decode cX5_splitterOf 4 = .ok (.iload_n 1, 1) := by decide +kernel
theorem dX5_splitterOf_5 : decode cX5_splitterOf 5 = .ok (.invokevirtual 48, 3) := by decide +kernel
theorem dX5_splitterOf_8 : decode cX5_splitterOf 8 = .ok (.ifCond .ne 5, 3) := by decide +kernel
theorem dX5_splitterOf_11 : decode cX5_splitterOf 11 = .ok (.iconst (-1), 1) := by decide +kernel
theorem dX5_splitterOf_12 : decode cX5_splitterOf 12 = .ok (.ireturn, 1) := by decide +kernel
theorem dX5_splitterOf_13 : decode cX5_splitterOf 13 = .ok (.aload_n 0, 1) := by decide +kernel
theorem dX5_splitterOf_14 : decode cX5_splitterOf 14 = .ok (.getfield 10, 3) := by decide +kernel
theorem dX5_splitterOf_17 : decode cX5_splitterOf 17 = .ok (.getfield 84, 3) := by decide +kernel
theorem dX5_splitterOf_20 : decode cX5_splitterOf 20 = .ok (.iload_n 1, 1) := by decide +kernel
theorem dX5_splitterOf_21 : decode cX5_splitterOf 21 = .ok (.invokestatic 88, 3) := by decide +kernel
theorem dX5_splitterOf_24 : decode cX5_splitterOf 24 = .ok (.iconst 2, 1) := by decide +kernel
theorem dX5_splitterOf_25 : decode cX5_splitterOf 25 = .ok (.if_icmp .ne 6, 3) := by decide +kernel
theorem dX5_splitterOf_28 : decode cX5_splitterOf 28 = .ok (.bipush (-9), 2) := by decide +kernel
theorem dX5_splitterOf_30 : decode cX5_splitterOf 30 = .ok (.ireturn, 1) := by decide +kernel
theorem dX5_splitterOf_31 : decode cX5_splitterOf 31 = .ok (.aload_n 0, 1) := by decide +kernel
theorem dX5_splitterOf_32 : decode cX5_splitterOf 32 = .ok (.getfield 10, 3) := by decide +kernel
theorem dX5_splitterOf_35 : decode cX5_splitterOf 35 = .ok (.getfield 84, 3) := by decide +kernel
theorem dX5_splitterOf_38 : decode cX5_splitterOf 38 = .ok (.iload_n 1, 1) := by decide +kernel
theorem dX5_splitterOf_39 : decode cX5_splitterOf 39 = .ok (.invokestatic 94, 3) := by decide +kernel
theorem dX5_splitterOf_42 : decode cX5_splitterOf 42 = .ok (.ireturn, 1) := by decide +kernel
set_option maxRecDepth 20000 in
theorem ggX5_phaseOf_X4_hasProcess : GoodIn wsX5_phaseOf wsX4_hasProcess := goodIn_r _ [6, 7, 23, 24, 25, 26, 27, 28, 29, 30] (by decide +kernel) (by decide +kernel)
set_option maxRecDepth 20000 in
theorem gX5_phaseOf_X4_hasProcess : GoodIn wsX5_phaseOf (wsV RX5 48 RX4 yX4_hasProcess wsX4_hasProcess) := goodIn_app (goodIn_of _ (by decide +kernel)) ggX5_phaseOf_X4_hasProcess
set_option maxRecDepth 20000 in
theorem ggX5_phaseOf_X0_statusIn : GoodIn wsX5_phaseOf wsX0_statusIn := goodIn_r _ [11] (by decide +kernel) (by decide +kernel)
set_option maxRecDepth 20000 in
theorem gX5_phaseOf_X0_statusIn : GoodIn wsX5_phaseOf (va_wsS RX5 88 yX0_statusIn wsX0_statusIn) := goodIn_app (goodIn_of _ (by decide +kernel)) ggX5_phaseOf_X0_statusIn
set_option maxRecDepth 20000 in
theorem ggX5_phaseOf_X0_phaseIn : GoodIn wsX5_phaseOf wsX0_phaseIn := goodIn_r _ [14] (by decide +kernel) (by decide +kernel)
set_option maxRecDepth 20000 in
theorem gX5_phaseOf_X0_phaseIn : GoodIn wsX5_phaseOf (va_wsS RX5 97 yX0_phaseIn wsX0_phaseIn) := goodIn_app (goodIn_of _ (by decide +kernel)) ggX5_phaseOf_X0_phaseIn
theorem dX5_phaseOf_0 : decode cX5_phaseOf 0 = .ok (.aload_n 0, 1) := by decide +kernel
theorem dX5_phaseOf_1 : decode cX5_phaseOf 1 = .ok (.getfield 10, 3) := by decide +kernel
theorem dX5_phaseOf_4 : decode cX5_phaseOf 4 = .ok (.iload_n 1, 1) := by decide +kernel
theorem dX5_phaseOf_5 : decode cX5_phaseOf 5 = .ok (.invokevirtual 48, 3) := by decide +kernel
theorem dX5_phaseOf_8 : decode cX5_phaseOf 8 = .ok (.ifCond .ne 5, 3) := by decide +kernel
theorem dX5_phaseOf_11 : decode cX5_phaseOf 11 = .ok (.iconst (-1), 1) := by decide +kernel
theorem dX5_phaseOf_12 : decode cX5_phaseOf 12 = .ok (.ireturn, 1) := by decide +kernel
theorem dX5_phaseOf_13 : decode cX5_phaseOf 13 = .ok (.aload_n 0, 1) := by decide +kernel
theorem dX5_phaseOf_14 : decode cX5_phaseOf 14 = .ok (.getfield 10, 3) := by decide +kernel
theorem dX5_phaseOf_17 : decode cX5_phaseOf 17 = .ok (.getfield 84, 3) := by decide +kernel
theorem dX5_phaseOf_20 : decode cX5_phaseOf 20 = .ok (.iload_n 1, 1) := by decide +kernel
theorem dX5_phaseOf_21 : decode cX5_phaseOf 21 = .ok (.invokestatic 88, 3) := by decide +kernel
theorem dX5_phaseOf_24 : decode cX5_phaseOf 24 = .ok (.iconst 2, 1) := by decide +kernel
theorem dX5_phaseOf_25 : decode cX5_phaseOf 25 = .ok (.if_icmp .ne 6, 3) := by decide +kernel
theorem dX5_phaseOf_28 : decode cX5_phaseOf 28 = .ok (.bipush (-9), 2) := by decide +kernel
theorem dX5_phaseOf_30 : decode cX5_phaseOf 30 = .ok (.ireturn, 1) := by decide +kernel
theorem dX5_phaseOf_31 : decode cX5_phaseOf 31 = .ok (.aload_n 0, 1) := by decide +kernel
theorem dX5_phaseOf_32 : decode cX5_phaseOf 32 = .ok (.getfield 10, 3) := by decide +kernel
theorem dX5_phaseOf_35 : decode cX5_phaseOf 35 = .ok (.getfield 84, 3) := by decide +kernel
theorem dX5_phaseOf_38 : decode cX5_phaseOf 38 = .ok (.iload_n 1, 1) := by decide +kernel
theorem dX5_phaseOf_39 : decode cX5_phaseOf 39 = .ok (.invokestatic 97, 3) := by decide +kernel
theorem dX5_phaseOf_42 : decode cX5_phaseOf 42 = .ok (.ireturn, 1) := by decide +kernel
set_option maxRecDepth 20000 in
theorem ggX5_stepsOf_X4_hasProcess : GoodIn wsX5_stepsOf wsX4_hasProcess := goodIn_r _ [6, 7, 20, 21, 22, 23, 24, 25, 26, 27] (by decide +kernel) (by decide +kernel)
set_option maxRecDepth 20000 in
theorem gX5_stepsOf_X4_hasProcess : GoodIn wsX5_stepsOf (wsV RX5 48 RX4 yX4_hasProcess wsX4_hasProcess) := goodIn_app (goodIn_of _ (by decide +kernel)) ggX5_stepsOf_X4_hasProcess
set_option maxRecDepth 20000 in
theorem ggX5_stepsOf_X1_countIn : GoodIn wsX5_stepsOf wsX1_countIn := goodIn_r _ [11] (by decide +kernel) (by decide +kernel)
set_option maxRecDepth 20000 in
theorem gX5_stepsOf_X1_countIn : GoodIn wsX5_stepsOf (va_wsS RX5 103 yX1_countIn wsX1_countIn) := goodIn_app (goodIn_of _ (by decide +kernel)) ggX5_stepsOf_X1_countIn
theorem dX5_stepsOf_0 : decode cX5_stepsOf 0 = .ok (.aload_n 0, 1) := by decide +kernel
theorem dX5_stepsOf_1 : decode cX5_stepsOf 1 = .ok (.getfield 10, 3) := by decide +kernel
theorem dX5_stepsOf_4 : decode cX5_stepsOf 4 = .ok (.iload_n 1, 1) := by decide +kernel
theorem dX5_stepsOf_5 : decode cX5_stepsOf 5 = .ok (.invokevirtual 48, 3) := by decide +kernel
theorem dX5_stepsOf_8 : decode cX5_stepsOf 8 = .ok (.ifCond .ne 5, 3) := by decide +kernel
theorem dX5_stepsOf_11 : decode cX5_stepsOf 11 = .ok (.iconst (-1), 1) := by decide +kernel
theorem dX5_stepsOf_12 : decode cX5_stepsOf 12 = .ok (.ireturn, 1) := by decide +kernel
theorem dX5_stepsOf_13 : decode cX5_stepsOf 13 = .ok (.aload_n 0, 1) := by decide +kernel
theorem dX5_stepsOf_14 : decode cX5_stepsOf 14 = .ok (.getfield 10, 3) := by decide +kernel
theorem dX5_stepsOf_17 : decode cX5_stepsOf 17 = .ok (.getfield 100, 3) := by decide +kernel
theorem dX5_stepsOf_20 : decode cX5_stepsOf 20 = .ok (.iload_n 1, 1) := by decide +kernel
theorem dX5_stepsOf_21 : decode cX5_stepsOf 21 = .ok (.invokestatic 103, 3) := by decide +kernel
theorem dX5_stepsOf_24 : decode cX5_stepsOf 24 = .ok (.ireturn, 1) := by decide +kernel
set_option maxRecDepth 20000 in
theorem ggX5_soloSteps_X4_hasProcess : GoodIn wsX5_soloSteps wsX4_hasProcess := goodIn_r _ [7, 8, 94, 95, 96, 97, 98, 99, 100, 101] (by decide +kernel) (by decide +kernel)
set_option maxRecDepth 20000 in
theorem gX5_soloSteps_X4_hasProcess : GoodIn wsX5_soloSteps (wsV RX5 48 RX4 yX4_hasProcess wsX4_hasProcess) := goodIn_app (goodIn_of _ (by decide +kernel)) ggX5_soloSteps_X4_hasProcess
set_option maxRecDepth 20000 in
theorem ggX5_soloSteps_X4_copyFrom : GoodIn wsX5_soloSteps wsX4_copyFrom := goodIn_r _ [12, 13, 8, 14, 15, 16, 17, 18, 19, 94, 95, 96, 97, 98, 99, 100, 101] (by decide +kernel) (by decide +kernel)
set_option maxRecDepth 20000 in
theorem gX5_soloSteps_X4_copyFrom : GoodIn wsX5_soloSteps (wsV RX5 108 RX4 yX4_copyFrom wsX4_copyFrom) := goodIn_app (goodIn_of _ (by decide +kernel)) ggX5_soloSteps_X4_copyFrom
set_option maxRecDepth 20000 in
theorem ggX5_soloSteps_X4_advanceUpTo : GoodIn wsX5_soloSteps wsX4_advanceUpTo := goodIn_r _ [23, 24, 25, 26, 6, 27, 15, 28, 29, 30, 31, 32, 33, 34, 35, 13, 14, 16, 17, 36, 37, 38, 39, 40, 41, 42, 43, 44, 45, 46, 47, 48, 49, 50, 51, 52, 53, 54, 55, 56, 57, 58, 59, 60, 61, 62, 63, 64, 65, 66, 67, 68, 69, 70, 71, 72, 73, 74, 75, 76, 77, 78, 79, 80, 81, 82, 83, 84, 85, 18, 19, 94, 95, 96, 97, 98, 99, 100, 101] (by decide +kernel) (by decide +kernel)
set_option maxRecDepth 20000 in
theorem gX5_soloSteps_X4_advanceUpTo : GoodIn wsX5_soloSteps (wsV RX5 112 RX4 yX4_advanceUpTo wsX4_advanceUpTo) := goodIn_app (goodIn_of _ (by decide +kernel)) ggX5_soloSteps_X4_advanceUpTo
theorem dX5_soloSteps_0 : decode cX5_soloSteps 0 = .ok (.aload_n 0, 1) := by decide +kernel
theorem dX5_soloSteps_1 : decode cX5_soloSteps 1 = .ok (.getfield 10, 3) := by decide +kernel
theorem dX5_soloSteps_4 : decode cX5_soloSteps 4 = .ok (.iload_n 1, 1) := by decide +kernel
theorem dX5_soloSteps_5 : decode cX5_soloSteps 5 = .ok (.invokevirtual 48, 3) := by decide +kernel
theorem dX5_soloSteps_8 : decode cX5_soloSteps 8 = .ok (.ifCond .ne 5, 3) := by decide +kernel
theorem dX5_soloSteps_11 : decode cX5_soloSteps 11 = .ok (.iconst (-1), 1) := by decide +kernel
theorem dX5_soloSteps_12 : decode cX5_soloSteps 12 = .ok (.ireturn, 1) := by decide +kernel
theorem dX5_soloSteps_13 : decode cX5_soloSteps 13 = .ok (.aload_n 0, 1) := by decide +kernel
theorem dX5_soloSteps_14 : decode cX5_soloSteps 14 = .ok (.getfield 20, 3) := by decide +kernel
theorem dX5_soloSteps_17 : decode cX5_soloSteps 17 = .ok (.aload_n 0, 1) := by decide +kernel
theorem dX5_soloSteps_18 : decode cX5_soloSteps 18 = .ok (.getfield 10, 3) := by decide +kernel
theorem dX5_soloSteps_21 : decode cX5_soloSteps 21 = .ok (.invokevirtual 108, 3) := by decide +kernel
theorem dX5_soloSteps_24 : decode cX5_soloSteps 24 = .ok (.aload_n 0, 1) := by decide +kernel
theorem dX5_soloSteps_25 : decode cX5_soloSteps 25 = .ok (.getfield 20, 3) := by decide +kernel
theorem dX5_soloSteps_28 : decode cX5_soloSteps 28 = .ok (.iload_n 1, 1) := by decide +kernel
theorem dX5_soloSteps_29 : decode cX5_soloSteps 29 = .ok (.bipush 16, 2) := by decide +kernel
theorem dX5_soloSteps_31 : decode cX5_soloSteps 31 = .ok (.invokevirtual 112, 3) := by decide +kernel
theorem dX5_soloSteps_34 : decode cX5_soloSteps 34 = .ok (.ireturn, 1) := by decide +kernel
set_option maxRecDepth 20000 in
theorem ggX5_soloName_X4_hasProcess : GoodIn wsX5_soloName wsX4_hasProcess := goodIn_r _ [7, 8, 98, 99, 100, 101, 102, 103, 104, 105] (by decide +kernel) (by decide +kernel)
set_option maxRecDepth 20000 in
theorem gX5_soloName_X4_hasProcess : GoodIn wsX5_soloName (wsV RX5 48 RX4 yX4_hasProcess wsX4_hasProcess) := goodIn_app (goodIn_of _ (by decide +kernel)) ggX5_soloName_X4_hasProcess
set_option maxRecDepth 20000 in
theorem ggX5_soloName_X4_copyFrom : GoodIn wsX5_soloName wsX4_copyFrom := goodIn_r _ [12, 13, 8, 14, 15, 16, 17, 18, 19, 98, 99, 100, 101, 102, 103, 104, 105] (by decide +kernel) (by decide +kernel)
set_option maxRecDepth 20000 in
theorem gX5_soloName_X4_copyFrom : GoodIn wsX5_soloName (wsV RX5 108 RX4 yX4_copyFrom wsX4_copyFrom) := goodIn_app (goodIn_of _ (by decide +kernel)) ggX5_soloName_X4_copyFrom
set_option maxRecDepth 20000 in
theorem ggX5_soloName_X4_advanceUpTo : GoodIn wsX5_soloName wsX4_advanceUpTo := goodIn_r _ [23, 24, 25, 26, 6, 27, 15, 28, 29, 30, 31, 32, 33, 34, 35, 13, 14, 16, 17, 36, 37, 38, 39, 40, 41, 42, 43, 44, 45, 46, 47, 48, 49, 50, 51, 52, 53, 54, 55, 56, 57, 58, 59, 60, 61, 62, 63, 64, 65, 66, 67, 68, 69, 70, 71, 72, 73, 74, 75, 76, 77, 78, 79, 80, 81, 82, 83, 84, 85, 18, 19, 98, 99, 100, 101, 102, 103, 104, 105] (by decide +kernel) (by decide +kernel)
set_option maxRecDepth 20000 in
theorem gX5_soloName_X4_advanceUpTo : GoodIn wsX5_soloName (wsV RX5 112 RX4 yX4_advanceUpTo wsX4_advanceUpTo) := goodIn_app (goodIn_of _ (by decide +kernel)) ggX5_soloName_X4_advanceUpTo
set_option maxRecDepth 20000 in
theorem ggX5_soloName_X0_nameIn : GoodIn wsX5_soloName wsX0_nameIn := goodIn_r _ [88, 89, 29, 30, 31, 39, 40, 41] (by decide +kernel) (by decide +kernel)
set_option maxRecDepth 20000 in
theorem gX5_soloName_X0_nameIn : GoodIn wsX5_soloName (va_wsS RX5 116 yX0_nameIn wsX0_nameIn) := goodIn_app (goodIn_of _ (by decide +kernel)) ggX5_soloName_X0_nameIn
theorem dX5_soloName_0 : decode cX5_soloName 0 = .ok (.aload_n 0, 1) := by decide +kernel
theorem dX5_soloName_1 : decode cX5_soloName 1 = .ok (.getfield 10, 3) := by decide +kernel
theorem dX5_soloName_4 : decode cX5_soloName 4 = .ok (.iload_n 1, 1) := by decide +kernel
theorem dX5_soloName_5 : decode cX5_soloName 5 = .ok (.invokevirtual 48, 3) := by decide +kernel
theorem dX5_soloName_8 : decode cX5_soloName 8 = .ok (.ifCond .ne 5, 3) := by decide +kernel
theorem dX5_soloName_11 : decode cX5_soloName 11 = .ok (.iconst (-1), 1) := by decide +kernel
theorem dX5_soloName_12 : decode cX5_soloName 12 = .ok (.ireturn, 1) := by decide +kernel
theorem dX5_soloName_13 : decode cX5_soloName 13 = .ok (.aload_n 0, 1) := by decide +kernel
theorem dX5_soloName_14 : decode cX5_soloName 14 = .ok (.getfield 20, 3) := by decide +kernel
theorem dX5_soloName_17 : decode cX5_soloName 17 = .ok (.aload_n 0, 1) := by decide +kernel
theorem dX5_soloName_18 : decode cX5_soloName 18 = .ok (.getfield 10, 3) := by decide +kernel
theorem dX5_soloName_21 : decode cX5_soloName 21 = .ok (.invokevirtual 108, 3) := by decide +kernel
theorem dX5_soloName_24 : decode cX5_soloName 24 = .ok (.aload_n 0, 1) := by decide +kernel
theorem dX5_soloName_25 : decode cX5_soloName 25 = .ok (.getfield 20, 3) := by decide +kernel
theorem dX5_soloName_28 : decode cX5_soloName 28 = .ok (.iload_n 1, 1) := by decide +kernel
theorem dX5_soloName_29 : decode cX5_soloName 29 = .ok (.bipush 16, 2) := by decide +kernel
theorem dX5_soloName_31 : decode cX5_soloName 31 = .ok (.invokevirtual 112, 3) := by decide +kernel
theorem dX5_soloName_34 : decode cX5_soloName 34 = .ok (.pop, 1) := by decide +kernel
theorem dX5_soloName_35 : decode cX5_soloName 35 = .ok (.aload_n 0, 1) := by decide +kernel
theorem dX5_soloName_36 : decode cX5_soloName 36 = .ok (.getfield 20, 3) := by decide +kernel
theorem dX5_soloName_39 : decode cX5_soloName 39 = .ok (.getfield 84, 3) := by decide +kernel
theorem dX5_soloName_42 : decode cX5_soloName 42 = .ok (.iload_n 1, 1) := by decide +kernel
theorem dX5_soloName_43 : decode cX5_soloName 43 = .ok (.invokestatic 116, 3) := by decide +kernel
theorem dX5_soloName_46 : decode cX5_soloName 46 = .ok (.ireturn, 1) := by decide +kernel
set_option maxRecDepth 20000 in
theorem ggX5_owner_X4_hasSplitter : GoodIn wsX5_owner wsX4_hasSplitter := goodIn_r _ [6, 7, 8, 9, 5, 10, 11, 27, 28, 29, 30, 31, 32, 33, 34] (by decide +kernel) (by decide +kernel)
set_option maxRecDepth 20000 in
theorem gX5_owner_X4_hasSplitter : GoodIn wsX5_owner (wsV RX5 119 RX4 yX4_hasSplitter wsX4_hasSplitter) := goodIn_app (goodIn_of _ (by decide +kernel)) ggX5_owner_X4_hasSplitter
set_option maxRecDepth 20000 in
theorem ggX5_owner_X0_ownerIn : GoodIn wsX5_owner wsX0_ownerIn := goodIn_r _ [15, 16, 17, 14, 18] (by decide +kernel) (by decide +kernel)
set_option maxRecDepth 20000 in
theorem gX5_owner_X0_ownerIn : GoodIn wsX5_owner (va_wsS RX5 122 yX0_ownerIn wsX0_ownerIn) := goodIn_app (goodIn_of _ (by decide +kernel)) ggX5_owner_X0_ownerIn
theorem dX5_owner_0 : decode cX5_owner 0 = .ok (.aload_n 0, 1) := by decide +kernel
theorem dX5_owner_1 : decode cX5_owner 1 = .ok (.getfield 10, 3) := by decide +kernel
theorem dX5_owner_4 : decode cX5_owner 4 = .ok (.iload_n 1, 1) := by decide +kernel
theorem dX5_owner_5 : decode cX5_owner 5 = .ok (.invokevirtual 119, 3) := by decide +kernel
theorem dX5_owner_8 : decode cX5_owner 8 = .ok (.ifCond .ne 5, 3) := by decide +kernel
theorem dX5_owner_11 : decode cX5_owner 11 = .ok (.iconst (-1), 1) := by decide +kernel
theorem dX5_owner_12 : decode cX5_owner 12 = .ok (.ireturn, 1) := by decide +kernel
theorem dX5_owner_13 : decode cX5_owner 13 = .ok (.aload_n 0, 1) := by decide +kernel
theorem dX5_owner_14 : decode cX5_owner 14 = .ok (.getfield 10, 3) := by decide +kernel
theorem dX5_owner_17 : decode cX5_owner 17 = .ok (.getfield 84, 3) := by decide +kernel
theorem dX5_owner_20 : decode cX5_owner 20 = .ok (.iload_n 1, 1) := by decide +kernel
theorem dX5_owner_21 : decode cX5_owner 21 = .ok (.invokestatic 122, 3) := by decide +kernel
theorem dX5_owner_24 : decode cX5_owner 24 = .ok (.ireturn, 1) := by decide +kernel
set_option maxRecDepth 20000 in
theorem ggX5_door_X4_hasSplitter : GoodIn wsX5_door wsX4_hasSplitter := goodIn_r _ [6, 7, 8, 9, 5, 10, 11, 27, 28, 29, 30, 31, 32, 33, 34] (by decide +kernel) (by decide +kernel)
set_option maxRecDepth 20000 in
theorem gX5_door_X4_hasSplitter : GoodIn wsX5_door (wsV RX5 119 RX4 yX4_hasSplitter wsX4_hasSplitter) := goodIn_app (goodIn_of _ (by decide +kernel)) ggX5_door_X4_hasSplitter
set_option maxRecDepth 20000 in
theorem ggX5_door_X0_doorIn : GoodIn wsX5_door wsX0_doorIn := goodIn_r _ [15, 16, 17, 14, 18] (by decide +kernel) (by decide +kernel)
set_option maxRecDepth 20000 in
theorem gX5_door_X0_doorIn : GoodIn wsX5_door (va_wsS RX5 125 yX0_doorIn wsX0_doorIn) := goodIn_app (goodIn_of _ (by decide +kernel)) ggX5_door_X0_doorIn
theorem dX5_door_0 : decode cX5_door 0 = .ok (.aload_n 0, 1) := by decide +kernel
theorem dX5_door_1 : decode cX5_door 1 = .ok (.getfield 10, 3) := by decide +kernel
theorem dX5_door_4 : decode cX5_door 4 = .ok (.iload_n 1, 1) := by decide +kernel
theorem dX5_door_5 : decode cX5_door 5 = .ok (.invokevirtual 119, 3) := by decide +kernel
theorem dX5_door_8 : decode cX5_door 8 = .ok (.ifCond .ne 5, 3) := by decide +kernel
theorem dX5_door_11 : decode cX5_door 11 = .ok (.iconst (-1), 1) := by decide +kernel
theorem dX5_door_12 : decode cX5_door 12 = .ok (.ireturn, 1) := by decide +kernel
theorem dX5_door_13 : decode cX5_door 13 = .ok (.aload_n 0, 1) := by decide +kernel
theorem dX5_door_14 : decode cX5_door 14 = .ok (.getfield 10, 3) := by decide +kernel
theorem dX5_door_17 : decode cX5_door 17 = .ok (.getfield 84, 3) := by decide +kernel
theorem dX5_door_20 : decode cX5_door 20 = .ok (.iload_n 1, 1) := by decide +kernel
theorem dX5_door_21 : decode cX5_door 21 = .ok (.invokestatic 125, 3) := by decide +kernel
theorem dX5_door_24 : decode cX5_door 24 = .ok (.ireturn, 1) := by decide +kernel
set_option maxRecDepth 20000 in
theorem ggX5_entered_X4_hasSplitter : GoodIn wsX5_entered wsX4_hasSplitter := goodIn_r _ [6, 7, 8, 9, 5, 10, 11, 24, 25, 26, 27, 28, 29, 30, 31] (by decide +kernel) (by decide +kernel)
set_option maxRecDepth 20000 in
theorem gX5_entered_X4_hasSplitter : GoodIn wsX5_entered (wsV RX5 119 RX4 yX4_hasSplitter wsX4_hasSplitter) := goodIn_app (goodIn_of _ (by decide +kernel)) ggX5_entered_X4_hasSplitter
set_option maxRecDepth 20000 in
theorem ggX5_entered_X1_countIn : GoodIn wsX5_entered wsX1_countIn := goodIn_r _ [15] (by decide +kernel) (by decide +kernel)
set_option maxRecDepth 20000 in
theorem gX5_entered_X1_countIn : GoodIn wsX5_entered (va_wsS RX5 103 yX1_countIn wsX1_countIn) := goodIn_app (goodIn_of _ (by decide +kernel)) ggX5_entered_X1_countIn
theorem dX5_entered_0 : decode cX5_entered 0 = .ok (.aload_n 0, 1) := by decide +kernel
theorem dX5_entered_1 : decode cX5_entered 1 = .ok (.getfield 10, 3) := by decide +kernel
theorem dX5_entered_4 : decode cX5_entered 4 = .ok (.iload_n 1, 1) := by decide +kernel
theorem dX5_entered_5 : decode cX5_entered 5 = .ok (.invokevirtual 119, 3) := by decide +kernel
theorem dX5_entered_8 : decode cX5_entered 8 = .ok (.ifCond .ne 5, 3) := by decide +kernel
theorem dX5_entered_11 : decode cX5_entered 11 = .ok (.iconst (-1), 1) := by decide +kernel
theorem dX5_entered_12 : decode cX5_entered 12 = .ok (.ireturn, 1) := by decide +kernel
theorem dX5_entered_13 : decode cX5_entered 13 = .ok (.aload_n 0, 1) := by decide +kernel
theorem dX5_entered_14 : decode cX5_entered 14 = .ok (.getfield 10, 3) := by decide +kernel
theorem dX5_entered_17 : decode cX5_entered 17 = .ok (.getfield 128, 3) := by decide +kernel
theorem dX5_entered_20 : decode cX5_entered 20 = .ok (.iload_n 1, 1) := by decide +kernel
theorem dX5_entered_21 : decode cX5_entered 21 = .ok (.invokestatic 103, 3) := by decide +kernel
theorem dX5_entered_24 : decode cX5_entered 24 = .ok (.ireturn, 1) := by decide +kernel
set_option maxRecDepth 20000 in
theorem ggX5_left_X4_hasSplitter : GoodIn wsX5_left wsX4_hasSplitter := goodIn_r _ [6, 7, 8, 9, 5, 10, 11, 24, 25, 26, 27, 28, 29, 30, 31] (by decide +kernel) (by decide +kernel)
set_option maxRecDepth 20000 in
theorem gX5_left_X4_hasSplitter : GoodIn wsX5_left (wsV RX5 119 RX4 yX4_hasSplitter wsX4_hasSplitter) := goodIn_app (goodIn_of _ (by decide +kernel)) ggX5_left_X4_hasSplitter
set_option maxRecDepth 20000 in
theorem ggX5_left_X1_countIn : GoodIn wsX5_left wsX1_countIn := goodIn_r _ [15] (by decide +kernel) (by decide +kernel)
set_option maxRecDepth 20000 in
theorem gX5_left_X1_countIn : GoodIn wsX5_left (va_wsS RX5 103 yX1_countIn wsX1_countIn) := goodIn_app (goodIn_of _ (by decide +kernel)) ggX5_left_X1_countIn
theorem dX5_left_0 : decode cX5_left 0 = .ok (.aload_n 0, 1) := by decide +kernel
theorem dX5_left_1 : decode cX5_left 1 = .ok (.getfield 10, 3) := by decide +kernel
theorem dX5_left_4 : decode cX5_left 4 = .ok (.iload_n 1, 1) := by decide +kernel
theorem dX5_left_5 : decode cX5_left 5 = .ok (.invokevirtual 119, 3) := by decide +kernel
theorem dX5_left_8 : decode cX5_left 8 = .ok (.ifCond .ne 5, 3) := by decide +kernel
theorem dX5_left_11 : decode cX5_left 11 = .ok (.iconst (-1), 1) := by decide +kernel
theorem dX5_left_12 : decode cX5_left 12 = .ok (.ireturn, 1) := by decide +kernel
theorem dX5_left_13 : decode cX5_left 13 = .ok (.iload_n 2, 1) := by decide +kernel
theorem dX5_left_14 : decode cX5_left 14 = .ok (.ifCond .ne 15, 3) := by decide +kernel
theorem dX5_left_17 : decode cX5_left 17 = .ok (.aload_n 0, 1) := by decide +kernel
theorem dX5_left_18 : decode cX5_left 18 = .ok (.getfield 10, 3) := by decide +kernel
theorem dX5_left_21 : decode cX5_left 21 = .ok (.getfield 131, 3) := by decide +kernel
theorem dX5_left_24 : decode cX5_left 24 = .ok (.iload_n 1, 1) := by decide +kernel
theorem dX5_left_25 : decode cX5_left 25 = .ok (.invokestatic 103, 3) := by decide +kernel
theorem dX5_left_28 : decode cX5_left 28 = .ok (.ireturn, 1) := by decide +kernel
theorem dX5_left_29 : decode cX5_left 29 = .ok (.iload_n 2, 1) := by decide +kernel
theorem dX5_left_30 : decode cX5_left 30 = .ok (.iconst 1, 1) := by decide +kernel
theorem dX5_left_31 : decode cX5_left 31 = .ok (.if_icmp .ne 15, 3) := by decide +kernel
theorem dX5_left_34 : decode cX5_left 34 = .ok (.aload_n 0, 1) := by decide +kernel
theorem dX5_left_35 : decode cX5_left 35 = .ok (.getfield 10, 3) := by decide +kernel
theorem dX5_left_38 : decode cX5_left 38 = .ok (.getfield 134, 3) := by decide +kernel
theorem dX5_left_41 : decode cX5_left 41 = .ok (.iload_n 1, 1) := by decide +kernel
theorem dX5_left_42 : decode cX5_left 42 = .ok (.invokestatic 103, 3) := by decide +kernel
theorem dX5_left_45 : decode cX5_left 45 = .ok (.ireturn, 1) := by decide +kernel
theorem dX5_left_46 : decode cX5_left 46 = .ok (.iconst (-1), 1) := by decide +kernel
theorem dX5_left_47 : decode cX5_left 47 = .ok (.ireturn, 1) := by decide +kernel
set_option maxRecDepth 20000 in
theorem ggX5_explore_X2_init : GoodIn wsX5_explore wsX2_init := goodIn_r _ [8, 9, 10, 11, 12, 13, 14, 15, 16, 17, 18, 98, 99, 100, 101, 102, 103, 104] (by decide +kernel) (by decide +kernel)
set_option maxRecDepth 20000 in
theorem gX5_explore_X2_init_n149 : GoodIn wsX5_explore (wsX2_init) := ggX5_explore_X2_init
set_option maxRecDepth 20000 in
theorem ggX5_explore_X2_findAllFrom : GoodIn wsX5_explore wsX2_findAllFrom := goodIn_r _ [22, 17, 23, 24, 25, 26, 27, 28, 29, 30, 31, 5, 32, 33, 34, 35, 36, 37, 13, 15, 16, 38, 39, 40, 41, 42, 43, 44, 45, 46, 47, 48, 49, 50, 51, 52, 53, 54, 55, 56, 57, 58, 59, 60, 61, 62, 63, 64, 65, 66, 67, 68, 69, 70, 71, 72, 73, 74, 75, 76, 77, 78, 79, 80, 81, 82, 83, 84, 85, 86, 87, 88, 89, 98, 99, 100, 101, 102, 103, 104, 105, 106, 107, 108, 109, 110, 111, 112] (by decide +kernel) (by decide +kernel)
set_option maxRecDepth 20000 in
theorem gX5_explore_X2_findAllFrom : GoodIn wsX5_explore (wsV RX5 150 RX2 yX2_findAllFrom wsX2_findAllFrom) := goodIn_app (goodIn_of _ (by decide +kernel)) ggX5_explore_X2_findAllFrom
theorem dX5_explore_0 : decode cX5_explore 0 = .ok (.aload_n 0, 1) := by decide +kernel
theorem dX5_explore_1 : decode cX5_explore 1 = .ok (.getfield 137, 3) := by decide +kernel
theorem dX5_explore_4 : decode cX5_explore 4 = .ok (.ifnull 11, 3) := by decide +kernel
theorem dX5_explore_7 : decode cX5_explore 7 = .ok (.aload_n 0, 1) := by decide +kernel
theorem dX5_explore_8 : decode cX5_explore 8 = .ok (.getfield 137, 3) := by decide +kernel
theorem dX5_explore_11 : decode cX5_explore 11 = .ok (.getfield 141, 3) := by decide +kernel
theorem dX5_explore_14 : decode cX5_explore 14 = .ok (.ireturn, 1) := by decide +kernel
theorem dX5_explore_15 : decode cX5_explore 15 = .ok (.aload_n 0, 1) := by decide +kernel
theorem dX5_explore_16 : decode cX5_explore 16 = .ok (.getfield 146, 3) := by decide +kernel
theorem dX5_explore_19 : decode cX5_explore 19 = .ok (.ifnonnull 14, 3) := by decide +kernel
theorem dX5_explore_22 : decode cX5_explore 22 = .ok (.aload_n 0, 1) := by decide +kernel
theorem dX5_explore_23 : decode cX5_explore 23 = .ok (.new 142, 3) := by decide +kernel
theorem dX5_explore_26 : decode cX5_explore 26 = .ok (.dup, 1) := by decide +kernel
theorem dX5_explore_27 : decode cX5_explore 27 = .ok (.invokespecial 149, 3) := by decide +kernel
theorem dX5_explore_30 : decode cX5_explore 30 = .ok (.putfield 146, 3) := by decide +kernel
theorem dX5_explore_33 : decode cX5_explore 33 = .ok (.aload_n 0, 1) := by decide +kernel
theorem dX5_explore_34 : decode cX5_explore 34 = .ok (.getfield 146, 3) := by decide +kernel
theorem dX5_explore_37 : decode cX5_explore 37 = .ok (.aload_n 0, 1) := by decide +kernel
theorem dX5_explore_38 : decode cX5_explore 38 = .ok (.getfield 10, 3) := by decide +kernel
theorem dX5_explore_41 : decode cX5_explore 41 = .ok (.invokevirtual 150, 3) := by decide +kernel
theorem dX5_explore_44 : decode cX5_explore 44 = .ok (.ifCond .ne 6, 3) := by decide +kernel
theorem dX5_explore_47 : decode cX5_explore 47 = .ok (.bipush (-3), 2) := by decide +kernel
theorem dX5_explore_49 : decode cX5_explore 49 = .ok (.ireturn, 1) := by decide +kernel
theorem dX5_explore_50 : decode cX5_explore 50 = .ok (.aload_n 0, 1) := by decide +kernel
theorem dX5_explore_51 : decode cX5_explore 51 = .ok (.aload_n 0, 1) := by decide +kernel
theorem dX5_explore_52 : decode cX5_explore 52 = .ok (.getfield 146, 3) := by decide +kernel
theorem dX5_explore_55 : decode cX5_explore 55 = .ok (.putfield 137, 3) := by decide +kernel
theorem dX5_explore_58 : decode cX5_explore 58 = .ok (.aload_n 0, 1) := by decide +kernel
theorem dX5_explore_59 : decode cX5_explore 59 = .ok (.getfield 137, 3) := by decide +kernel
theorem dX5_explore_62 : decode cX5_explore 62 = .ok (.getfield 141, 3) := by decide +kernel
theorem dX5_explore_65 : decode cX5_explore 65 = .ok (.ireturn, 1) := by decide +kernel
set_option maxRecDepth 20000 in
theorem ggX5_finalCount_X2_countFinals : GoodIn wsX5_finalCount wsX2_countFinals := goodIn_r _ [6, 7, 8, 9, 10, 5, 11, 12, 13, 14, 15, 16, 17, 18, 19, 20, 21, 30, 31, 32, 33, 34, 35, 36] (by decide +kernel) (by decide +kernel)
set_option maxRecDepth 20000 in
theorem gX5_finalCount_X2_countFinals : GoodIn wsX5_finalCount (wsV RX5 154 RX2 yX2_countFinals wsX2_countFinals) := goodIn_app (goodIn_of _ (by decide +kernel)) ggX5_finalCount_X2_countFinals
theorem dX5_finalCount_0 : decode cX5_finalCount 0 = .ok (.aload_n 0, 1) := by decide +kernel
theorem dX5_finalCount_1 : decode cX5_finalCount 1 = .ok (.getfield 137, 3) := by decide +kernel
theorem dX5_finalCount_4 : decode cX5_finalCount 4 = .ok (.ifnonnull 8, 3) := by decide +kernel
theorem dX5_finalCount_7 : decode cX5_finalCount 7 = .ok (.bipush (-2), 2) := by decide +kernel
theorem dX5_finalCount_9 : decode cX5_finalCount 9 = .ok (.goto 10, 3) := by decide +kernel
theorem dX5_finalCount_12 : decode cX5_finalCount 12 = .ok (.aload_n 0, 1) := by decide +kernel
theorem dX5_finalCount_13 : decode cX5_finalCount 13 = .ok (.getfield 137, 3) := by decide +kernel
theorem dX5_finalCount_16 : decode cX5_finalCount 16 = .ok (.invokevirtual 154, 3) := by decide +kernel
theorem dX5_finalCount_19 : decode cX5_finalCount 19 = .ok (.ireturn, 1) := by decide +kernel
set_option maxRecDepth 20000 in
theorem ggX5_violationCount_X2_countViolations : GoodIn wsX5_violationCount wsX2_countViolations := goodIn_r _ [6, 7, 8, 9, 10, 5, 11, 12, 13, 14, 15, 16, 17, 18, 19, 20, 21, 22, 23, 24, 25, 26, 27, 36, 37, 38, 39, 40, 41, 42] (by decide +kernel) (by decide +kernel)
set_option maxRecDepth 20000 in
theorem gX5_violationCount_X2_countViolations : GoodIn wsX5_violationCount (wsV RX5 157 RX2 yX2_countViolations wsX2_countViolations) := goodIn_app (goodIn_of _ (by decide +kernel)) ggX5_violationCount_X2_countViolations
theorem dX5_violationCount_0 : decode cX5_violationCount 0 = .ok (.aload_n 0, 1) := by decide +kernel
theorem dX5_violationCount_1 : decode cX5_violationCount 1 = .ok (.getfield 137, 3) := by decide +kernel
theorem dX5_violationCount_4 : decode cX5_violationCount 4 = .ok (.ifnonnull 8, 3) := by decide +kernel
theorem dX5_violationCount_7 : decode cX5_violationCount 7 = .ok (.bipush (-2), 2) := by decide +kernel
theorem dX5_violationCount_9 : decode cX5_violationCount 9 = .ok (.goto 10, 3) := by decide +kernel
theorem dX5_violationCount_12 : decode cX5_violationCount 12 = .ok (.aload_n 0, 1) := by decide +kernel
theorem dX5_violationCount_13 : decode cX5_violationCount 13 = .ok (.getfield 137, 3) := by decide +kernel
theorem dX5_violationCount_16 : decode cX5_violationCount 16 = .ok (.invokevirtual 157, 3) := by decide +kernel
theorem dX5_violationCount_19 : decode cX5_violationCount 19 = .ok (.ireturn, 1) := by decide +kernel
set_option maxRecDepth 20000 in
theorem ggX5_violationStep_X2_moverTowardsViolation : GoodIn wsX5_violationStep wsX2_moverTowardsViolation := goodIn_r _ [6, 7, 8, 9, 10, 5, 11, 12, 13, 14, 15, 16, 17, 18, 19, 20, 21, 22, 23, 24, 25, 26, 27, 28, 29, 30, 31, 32, 33, 34, 35, 36, 37, 38, 39, 40, 41, 50, 51, 52, 53, 54, 55, 56] (by decide +kernel) (by decide +kernel)
set_option maxRecDepth 20000 in
theorem gX5_violationStep_X2_moverTowardsViolation : GoodIn wsX5_violationStep (wsV RX5 160 RX2 yX2_moverTowardsViolation wsX2_moverTowardsViolation) := goodIn_app (goodIn_of _ (by decide +kernel)) ggX5_violationStep_X2_moverTowardsViolation
theorem dX5_violationStep_0 : decode cX5_violationStep 0 = .ok (.iload_n 1, 1) := by decide +kernel
theorem dX5_violationStep_1 : decode cX5_violationStep 1 = .ok (.ifCond .ge 5, 3) := by decide +kernel
theorem dX5_violationStep_4 : decode cX5_violationStep 4 = .ok (.iconst (-1), 1) := by decide +kernel
theorem dX5_violationStep_5 : decode cX5_violationStep 5 = .ok (.ireturn, 1) := by decide +kernel
theorem dX5_violationStep_6 : decode cX5_violationStep 6 = .ok (.aload_n 0, 1) := by decide +kernel
theorem dX5_violationStep_7 : decode cX5_violationStep 7 = .ok (.getfield 137, 3) := by decide +kernel
theorem dX5_violationStep_10 : decode cX5_violationStep 10 = .ok (.ifnonnull 8, 3) := by decide +kernel
theorem dX5_violationStep_13 : decode cX5_violationStep 13 = .ok (.bipush (-2), 2) := by decide +kernel
theorem dX5_violationStep_15 : decode cX5_violationStep 15 = .ok (.goto 11, 3) := by decide +kernel
theorem dX5_violationStep_18 : decode cX5_violationStep 18 = .ok (.aload_n 0, 1) := by decide +kernel
theorem dX5_violationStep_19 : decode cX5_violationStep 19 = .ok (.getfield 137, 3) := by decide +kernel
theorem dX5_violationStep_22 : decode cX5_violationStep 22 = .ok (.iload_n 1, 1) := by decide +kernel
theorem dX5_violationStep_23 : decode cX5_violationStep 23 = .ok (.invokevirtual 160, 3) := by decide +kernel
theorem dX5_violationStep_26 : decode cX5_violationStep 26 = .ok (.ireturn, 1) := by decide +kernel
set_option maxRecDepth 20000 in
theorem ggX5_greatestDepth_X2_depthOf : GoodIn wsX5_greatestDepth wsX2_depthOf := goodIn_r _ [6, 7, 8, 9, 5, 10, 11, 20, 21, 22, 23, 24, 25, 26] (by decide +kernel) (by decide +kernel)
set_option maxRecDepth 20000 in
theorem gX5_greatestDepth_X2_depthOf : GoodIn wsX5_greatestDepth (wsV RX5 163 RX2 yX2_depthOf wsX2_depthOf) := goodIn_app (goodIn_of _ (by decide +kernel)) ggX5_greatestDepth_X2_depthOf
theorem dX5_greatestDepth_0 : decode cX5_greatestDepth 0 = .ok (.aload_n 0, 1) := by decide +kernel
theorem dX5_greatestDepth_1 : decode cX5_greatestDepth 1 = .ok (.getfield 137, 3) := by decide +kernel
theorem dX5_greatestDepth_4 : decode cX5_greatestDepth 4 = .ok (.ifnonnull 8, 3) := by decide +kernel
theorem dX5_greatestDepth_7 : decode cX5_greatestDepth 7 = .ok (.bipush (-2), 2) := by decide +kernel
theorem dX5_greatestDepth_9 : decode cX5_greatestDepth 9 = .ok (.goto 19, 3) := by decide +kernel
theorem dX5_greatestDepth_12 : decode cX5_greatestDepth 12 = .ok (.aload_n 0, 1) := by decide +kernel
theorem dX5_greatestDepth_13 : decode cX5_greatestDepth 13 = .ok (.getfield 137, 3) := by decide +kernel
theorem dX5_greatestDepth_16 : decode cX5_greatestDepth 16 = .ok (.aload_n 0, 1) := by decide +kernel
theorem dX5_greatestDepth_17 : decode cX5_greatestDepth 17 = .ok (.getfield 137, 3) := by decide +kernel
theorem dX5_greatestDepth_20 : decode cX5_greatestDepth 20 = .ok (.getfield 141, 3) := by decide +kernel
theorem dX5_greatestDepth_23 : decode cX5_greatestDepth 23 = .ok (.iconst 1, 1) := by decide +kernel
theorem dX5_greatestDepth_24 : decode cX5_greatestDepth 24 = .ok (.isub, 1) := by decide +kernel
theorem dX5_greatestDepth_25 : decode cX5_greatestDepth 25 = .ok (.invokevirtual 163, 3) := by decide +kernel
theorem dX5_greatestDepth_28 : decode cX5_greatestDepth 28 = .ok (.ireturn, 1) := by decide +kernel
set_option maxRecDepth 20000 in
theorem ggX5_greatestName_X2_highestName : GoodIn wsX5_greatestName wsX2_highestName := goodIn_r _ [6, 7, 8, 9, 10, 11, 12, 13, 14, 15, 5, 16, 17, 18, 19, 20, 21, 22, 23, 24, 25, 26, 27, 36, 37, 38, 39, 40, 41, 42] (by decide +kernel) (by decide +kernel)
set_option maxRecDepth 20000 in
theorem gX5_greatestName_X2_highestName : GoodIn wsX5_greatestName (wsV RX5 166 RX2 yX2_highestName wsX2_highestName) := goodIn_app (goodIn_of _ (by decide +kernel)) ggX5_greatestName_X2_highestName
theorem dX5_greatestName_0 : decode cX5_greatestName 0 = .ok (.aload_n 0, 1) := by decide +kernel
theorem dX5_greatestName_1 : decode cX5_greatestName 1 = .ok (.getfield 137, 3) := by decide +kernel
theorem dX5_greatestName_4 : decode cX5_greatestName 4 = .ok (.ifnonnull 8, 3) := by decide +kernel
theorem dX5_greatestName_7 : decode cX5_greatestName 7 = .ok (.bipush (-2), 2) := by decide +kernel
theorem dX5_greatestName_9 : decode cX5_greatestName 9 = .ok (.goto 10, 3) := by decide +kernel
theorem dX5_greatestName_12 : decode cX5_greatestName 12 = .ok (.aload_n 0, 1) := by decide +kernel
theorem dX5_greatestName_13 : decode cX5_greatestName 13 = .ok (.getfield 137, 3) := by decide +kernel
theorem dX5_greatestName_16 : decode cX5_greatestName 16 = .ok (.invokevirtual 166, 3) := by decide +kernel
theorem dX5_greatestName_19 : decode cX5_greatestName 19 = .ok (.ireturn, 1) := by decide +kernel
set_option maxRecDepth 20000 in
theorem ggX5_outcomeCount_X2_countOutcomes : GoodIn wsX5_outcomeCount wsX2_countOutcomes := goodIn_r _ [6, 7, 8, 9, 10, 11, 12, 13, 14, 15, 5, 16, 17, 18, 19, 20, 21, 22, 23, 24, 25, 26, 27, 28, 29, 30, 31, 32, 33, 34, 35, 36, 37, 38, 39, 40, 41, 42, 43, 44, 45, 46, 47, 48, 57, 58, 59, 60, 61, 62, 63] (by decide +kernel) (by decide +kernel)
set_option maxRecDepth 20000 in
theorem gX5_outcomeCount_X2_countOutcomes : GoodIn wsX5_outcomeCount (wsV RX5 169 RX2 yX2_countOutcomes wsX2_countOutcomes) := goodIn_app (goodIn_of _ (by decide +kernel)) ggX5_outcomeCount_X2_countOutcomes
theorem dX5_outcomeCount_0 : decode cX5_outcomeCount 0 = .ok (.aload_n 0, 1) := by decide +kernel
theorem dX5_outcomeCount_1 : decode cX5_outcomeCount 1 = .ok (.getfield 137, 3) := by decide +kernel
theorem dX5_outcomeCount_4 : decode cX5_outcomeCount 4 = .ok (.ifnonnull 8, 3) := by decide +kernel
theorem dX5_outcomeCount_7 : decode cX5_outcomeCount 7 = .ok (.bipush (-2), 2) := by decide +kernel
theorem dX5_outcomeCount_9 : decode cX5_outcomeCount 9 = .ok (.goto 10, 3) := by decide +kernel
theorem dX5_outcomeCount_12 : decode cX5_outcomeCount 12 = .ok (.aload_n 0, 1) := by decide +kernel
theorem dX5_outcomeCount_13 : decode cX5_outcomeCount 13 = .ok (.getfield 137, 3) := by decide +kernel
theorem dX5_outcomeCount_16 : decode cX5_outcomeCount 16 = .ok (.invokevirtual 169, 3) := by decide +kernel
theorem dX5_outcomeCount_19 : decode cX5_outcomeCount 19 = .ok (.ireturn, 1) := by decide +kernel
set_option maxRecDepth 20000 in
theorem ggX5_finalsWith_X4_hasProcess : GoodIn wsX5_finalsWith wsX4_hasProcess := goodIn_r _ [7, 8, 53, 54, 55, 56, 57, 58, 59, 60] (by decide +kernel) (by decide +kernel)
set_option maxRecDepth 20000 in
theorem gX5_finalsWith_X4_hasProcess : GoodIn wsX5_finalsWith (wsV RX5 48 RX4 yX4_hasProcess wsX4_hasProcess) := goodIn_app (goodIn_of _ (by decide +kernel)) ggX5_finalsWith_X4_hasProcess
set_option maxRecDepth 20000 in
theorem ggX5_finalsWith_X4_hasSplitter : GoodIn wsX5_finalsWith wsX4_hasSplitter := goodIn_r _ [12, 13, 14, 15, 6, 16, 17, 53, 54, 55, 56, 57, 58, 59, 60] (by decide +kernel) (by decide +kernel)
set_option maxRecDepth 20000 in
theorem gX5_finalsWith_X4_hasSplitter : GoodIn wsX5_finalsWith (wsV RX5 119 RX4 yX4_hasSplitter wsX4_hasSplitter) := goodIn_app (goodIn_of _ (by decide +kernel)) ggX5_finalsWith_X4_hasSplitter
set_option maxRecDepth 20000 in
theorem ggX5_finalsWith_X2_countFinalsNamed : GoodIn wsX5_finalsWith wsX2_countFinalsNamed := goodIn_r _ [22, 23, 24, 25, 26, 21, 27, 28, 29, 30, 31, 32, 33, 34, 35, 36, 37, 38, 39, 40, 41, 42, 43, 44, 61, 62, 63, 64, 65, 66, 67] (by decide +kernel) (by decide +kernel)
set_option maxRecDepth 20000 in
theorem gX5_finalsWith_X2_countFinalsNamed : GoodIn wsX5_finalsWith (wsV RX5 172 RX2 yX2_countFinalsNamed wsX2_countFinalsNamed) := goodIn_app (goodIn_of _ (by decide +kernel)) ggX5_finalsWith_X2_countFinalsNamed
theorem dX5_finalsWith_0 : decode cX5_finalsWith 0 = .ok (.aload_n 0, 1) := by decide +kernel
theorem dX5_finalsWith_1 : decode cX5_finalsWith 1 = .ok (.getfield 10, 3) := by decide +kernel
theorem dX5_finalsWith_4 : decode cX5_finalsWith 4 = .ok (.iload_n 1, 1) := by decide +kernel
theorem dX5_finalsWith_5 : decode cX5_finalsWith 5 = .ok (.invokevirtual 48, 3) := by decide +kernel
theorem dX5_finalsWith_8 : decode cX5_finalsWith 8 = .ok (.ifCond .eq 14, 3) := by decide +kernel
theorem dX5_finalsWith_11 : decode cX5_finalsWith 11 = .ok (.aload_n 0, 1) := by decide +kernel
theorem dX5_finalsWith_12 : decode cX5_finalsWith 12 = .ok (.getfield 10, 3) := by decide +kernel
theorem dX5_finalsWith_15 : decode cX5_finalsWith 15 = .ok (.iload_n 2, 1) := by decide +kernel
theorem dX5_finalsWith_16 : decode cX5_finalsWith 16 = .ok (.invokevirtual 119, 3) := by decide +kernel
theorem dX5_finalsWith_19 : decode cX5_finalsWith 19 = .ok (.ifCond .ne 5, 3) := by decide +kernel
theorem dX5_finalsWith_22 : decode cX5_finalsWith 22 = .ok (.iconst (-1), 1) := by decide +kernel
theorem dX5_finalsWith_23 : decode cX5_finalsWith 23 = .ok (.ireturn, 1) := by decide +kernel
theorem dX5_finalsWith_24 : decode cX5_finalsWith 24 = .ok (.aload_n 0, 1) := by decide +kernel
theorem dX5_finalsWith_25 : decode cX5_finalsWith 25 = .ok (.getfield 137, 3) := by decide +kernel
theorem dX5_finalsWith_28 : decode cX5_finalsWith 28 = .ok (.ifnonnull 8, 3) := by decide +kernel
theorem dX5_finalsWith_31 : decode cX5_finalsWith 31 = .ok (.bipush (-2), 2) := by decide +kernel
theorem dX5_finalsWith_33 : decode cX5_finalsWith 33 = .ok (.goto 12, 3) := by decide +kernel
theorem dX5_finalsWith_36 : decode cX5_finalsWith 36 = .ok (.aload_n 0, 1) := by decide +kernel
theorem dX5_finalsWith_37 : decode cX5_finalsWith 37 = .ok (.getfield 137, 3) := by decide +kernel
theorem dX5_finalsWith_40 : decode cX5_finalsWith 40 = .ok (.iload_n 1, 1) := by decide +kernel
theorem dX5_finalsWith_41 : decode cX5_finalsWith 41 = .ok (.iload_n 2, 1) := by decide +kernel
theorem dX5_finalsWith_42 : decode cX5_finalsWith 42 = .ok (.invokevirtual 172, 3) := by decide +kernel
theorem dX5_finalsWith_45 : decode cX5_finalsWith 45 = .ok (.ireturn, 1) := by decide +kernel
set_option maxRecDepth 20000 in
theorem ggX5_undo_X4_copyFrom : GoodIn wsX5_undo wsX4_copyFrom := goodIn_r _ [9, 10, 11, 12, 13, 14, 15, 16, 17, 26, 27, 28, 29, 30, 31, 32, 33] (by decide +kernel) (by decide +kernel)
set_option maxRecDepth 20000 in
theorem gX5_undo_X4_copyFrom : GoodIn wsX5_undo (wsV RX5 108 RX4 yX4_copyFrom wsX4_copyFrom) := goodIn_app (goodIn_of _ (by decide +kernel)) ggX5_undo_X4_copyFrom
theorem dX5_undo_0 : decode cX5_undo 0 = .ok (.aload_n 0, 1) := by decide +kernel
theorem dX5_undo_1 : decode cX5_undo 1 = .ok (.getfield 175, 3) := by decide +kernel
theorem dX5_undo_4 : decode cX5_undo 4 = .ok (.ifCond .le 15, 3) := by decide +kernel
theorem dX5_undo_7 : decode cX5_undo 7 = .ok (.aload_n 0, 1) := by decide +kernel
theorem dX5_undo_8 : decode cX5_undo 8 = .ok (.getfield 175, 3) := by decide +kernel
theorem dX5_undo_11 : decode cX5_undo 11 = .ok (.aload_n 0, 1) := by decide +kernel
theorem dX5_undo_12 : decode cX5_undo 12 = .ok (.getfield 23, 3) := by decide +kernel
theorem dX5_undo_15 : decode cX5_undo 15 = .ok (.arraylength, 1) := by decide +kernel
theorem dX5_undo_16 : decode cX5_undo 16 = .ok (.if_icmp .le 6, 3) := by decide +kernel
theorem dX5_undo_19 : decode cX5_undo 19 = .ok (.bipush (-2), 2) := by decide +kernel
theorem dX5_undo_21 : decode cX5_undo 21 = .ok (.ireturn, 1) := by decide +kernel
theorem dX5_undo_22 : decode cX5_undo 22 = .ok (.aload_n 0, 1) := by decide +kernel
theorem dX5_undo_23 : decode cX5_undo 23 = .ok (.dup, 1) := by decide +kernel
theorem dX5_undo_24 : decode cX5_undo 24 = .ok (.getfield 175, 3) := by decide +kernel
theorem dX5_undo_27 : decode cX5_undo 27 = .ok (.iconst 1, 1) := by decide +kernel
theorem dX5_undo_28 : decode cX5_undo 28 = .ok (.isub, 1) := by decide +kernel
theorem dX5_undo_29 : decode cX5_undo 29 = .ok (.putfield 175, 3) := by decide +kernel
theorem dX5_undo_32 : decode cX5_undo 32 = .ok (.aload_n 0, 1) := by decide +kernel
theorem dX5_undo_33 : decode cX5_undo 33 = .ok (.getfield 10, 3) := by decide +kernel
theorem dX5_undo_36 : decode cX5_undo 36 = .ok (.aload_n 0, 1) := by decide +kernel
theorem dX5_undo_37 : decode cX5_undo 37 = .ok (.getfield 23, 3) := by decide +kernel
theorem dX5_undo_40 : decode cX5_undo 40 = .ok (.aload_n 0, 1) := by decide +kernel
theorem dX5_undo_41 : decode cX5_undo 41 = .ok (.getfield 175, 3) := by decide +kernel
theorem dX5_undo_44 : decode cX5_undo 44 = .ok (.aaload, 1) := by decide +kernel
theorem dX5_undo_45 : decode cX5_undo 45 = .ok (.invokevirtual 108, 3) := by decide +kernel
theorem dX5_undo_48 : decode cX5_undo 48 = .ok (.aload_n 0, 1) := by decide +kernel
theorem dX5_undo_49 : decode cX5_undo 49 = .ok (.aconst_null, 1) := by decide +kernel
theorem dX5_undo_50 : decode cX5_undo 50 = .ok (.putfield 137, 3) := by decide +kernel
theorem dX5_undo_53 : decode cX5_undo 53 = .ok (.aload_n 0, 1) := by decide +kernel
theorem dX5_undo_54 : decode cX5_undo 54 = .ok (.getfield 175, 3) := by decide +kernel
theorem dX5_undo_57 : decode cX5_undo 57 = .ok (.ireturn, 1) := by decide +kernel
set_option maxRecDepth 20000 in
theorem ggX5_save_X4_init : GoodIn wsX5_save wsX4_init := goodIn_r _ [7, 8, 9, 10] (by decide +kernel) (by decide +kernel)
set_option maxRecDepth 20000 in
theorem gX5_save_X4_init_n9 : GoodIn wsX5_save (wsX4_init) := ggX5_save_X4_init
set_option maxRecDepth 20000 in
theorem ggX5_save_X4_copyFrom : GoodIn wsX5_save wsX4_copyFrom := goodIn_r _ [14, 15, 16, 17, 18, 19, 20, 21, 22, 43, 44, 45, 46, 47, 48, 49, 50] (by decide +kernel) (by decide +kernel)
set_option maxRecDepth 20000 in
theorem gX5_save_X4_copyFrom : GoodIn wsX5_save (wsV RX5 108 RX4 yX4_copyFrom wsX4_copyFrom) := goodIn_app (goodIn_of _ (by decide +kernel)) ggX5_save_X4_copyFrom
set_option maxRecDepth 20000 in
theorem ggX5_save_X4_countRunning : GoodIn wsX5_save wsX4_countRunning := goodIn_r _ [26, 16, 27, 28, 29, 4, 30, 18, 31, 32, 33, 34, 43, 44, 45, 46, 47, 48, 49, 50] (by decide +kernel) (by decide +kernel)
set_option maxRecDepth 20000 in
theorem gX5_save_X4_countRunning : GoodIn wsX5_save (wsV RX5 63 RX4 yX4_countRunning wsX4_countRunning) := goodIn_app (goodIn_of _ (by decide +kernel)) ggX5_save_X4_countRunning
theorem dX5_save_0 : decode cX5_save 0 = .ok (.iload_n 1, 1) := by decide +kernel
theorem dX5_save_1 : decode cX5_save 1 = .ok (.ifCond .lt 12, 3) := by decide +kernel
theorem dX5_save_4 : decode cX5_save 4 = .ok (.iload_n 1, 1) := by decide +kernel
theorem dX5_save_5 : decode cX5_save 5 = .ok (.aload_n 0, 1) := by decide +kernel
theorem dX5_save_6 : decode cX5_save 6 = .ok (.getfield 27, 3) := by decide +kernel
theorem dX5_save_9 : decode cX5_save 9 = .ok (.arraylength, 1) := by decide +kernel
theorem dX5_save_10 : decode cX5_save 10 = .ok (.if_icmp .lt 5, 3) := by decide +kernel
theorem dX5_save_13 : decode cX5_save 13 = .ok (.iconst (-1), 1) := by decide +kernel
theorem dX5_save_14 : decode cX5_save 14 = .ok (.ireturn, 1) := by decide +kernel
theorem dX5_save_15 : decode cX5_save 15 = .ok (.aload_n 0, 1) := by decide +kernel
theorem dX5_save_16 : decode cX5_save 16 = .ok (.getfield 27, 3) := by decide +kernel
theorem dX5_save_19 : decode cX5_save 19 = .ok (.iload_n 1, 1) := by decide +kernel
theorem dX5_save_20 : decode cX5_save 20 = .ok (.aaload, 1) := by decide +kernel
theorem dX5_save_21 : decode cX5_save 21 = .ok (.ifnonnull 16, 3) := by decide +kernel
theorem dX5_save_24 : decode cX5_save 24 = .ok (.aload_n 0, 1) := by decide +kernel
theorem dX5_save_25 : decode cX5_save 25 = .ok (.getfield 27, 3) := by decide +kernel
theorem dX5_save_28 : decode cX5_save 28 = .ok (.iload_n 1, 1) := by decide +kernel
theorem dX5_save_29 : decode cX5_save 29 = .ok (.new 7, 3) := by decide +kernel
theorem dX5_save_32 : decode cX5_save 32 = .ok (.dup, 1) := by decide +kernel
theorem dX5_save_33 : decode cX5_save 33 = .ok (.invokespecial 9, 3) := by decide +kernel
theorem dX5_save_36 : decode cX5_save 36 = .ok (.aastore, 1) := by decide +kernel
theorem dX5_save_37 : decode cX5_save 37 = .ok (.aload_n 0, 1) := by decide +kernel
theorem dX5_save_38 : decode cX5_save 38 = .ok (.getfield 27, 3) := by decide +kernel
theorem dX5_save_41 : decode cX5_save 41 = .ok (.iload_n 1, 1) := by decide +kernel
theorem dX5_save_42 : decode cX5_save 42 = .ok (.aaload, 1) := by decide +kernel
theorem dX5_save_43 : decode cX5_save 43 = .ok (.aload_n 0, 1) := by decide +kernel
theorem dX5_save_44 : decode cX5_save 44 = .ok (.getfield 10, 3) := by decide +kernel
theorem dX5_save_47 : decode cX5_save 47 = .ok (.invokevirtual 108, 3) := by decide +kernel
theorem dX5_save_50 : decode cX5_save 50 = .ok (.aload_n 0, 1) := by decide +kernel
theorem dX5_save_51 : decode cX5_save 51 = .ok (.getfield 10, 3) := by decide +kernel
theorem dX5_save_54 : decode cX5_save 54 = .ok (.invokevirtual 63, 3) := by decide +kernel
theorem dX5_save_57 : decode cX5_save 57 = .ok (.ireturn, 1) := by decide +kernel
set_option maxRecDepth 20000 in
theorem ggX5_restore_X4_copyFrom : GoodIn wsX5_restore wsX4_copyFrom := goodIn_r _ [9, 10, 11, 12, 13, 14, 15, 16, 17, 38, 39, 40, 41, 42, 43, 44, 45] (by decide +kernel) (by decide +kernel)
set_option maxRecDepth 20000 in
theorem gX5_restore_X4_copyFrom : GoodIn wsX5_restore (wsV RX5 108 RX4 yX4_copyFrom wsX4_copyFrom) := goodIn_app (goodIn_of _ (by decide +kernel)) ggX5_restore_X4_copyFrom
set_option maxRecDepth 20000 in
theorem ggX5_restore_X4_countRunning : GoodIn wsX5_restore wsX4_countRunning := goodIn_r _ [21, 11, 22, 23, 24, 8, 25, 13, 26, 27, 28, 29, 38, 39, 40, 41, 42, 43, 44, 45] (by decide +kernel) (by decide +kernel)
set_option maxRecDepth 20000 in
theorem gX5_restore_X4_countRunning : GoodIn wsX5_restore (wsV RX5 63 RX4 yX4_countRunning wsX4_countRunning) := goodIn_app (goodIn_of _ (by decide +kernel)) ggX5_restore_X4_countRunning
theorem dX5_restore_0 : decode cX5_restore 0 = .ok (.iload_n 1, 1) := by decide +kernel
theorem dX5_restore_1 : decode cX5_restore 1 = .ok (.ifCond .lt 12, 3) := by decide +kernel
theorem dX5_restore_4 : decode cX5_restore 4 = .ok (.iload_n 1, 1) := by decide +kernel
theorem dX5_restore_5 : decode cX5_restore 5 = .ok (.aload_n 0, 1) := by decide +kernel
theorem dX5_restore_6 : decode cX5_restore 6 = .ok (.getfield 27, 3) := by decide +kernel
theorem dX5_restore_9 : decode cX5_restore 9 = .ok (.arraylength, 1) := by decide +kernel
theorem dX5_restore_10 : decode cX5_restore 10 = .ok (.if_icmp .lt 5, 3) := by decide +kernel
theorem dX5_restore_13 : decode cX5_restore 13 = .ok (.iconst (-1), 1) := by decide +kernel
theorem dX5_restore_14 : decode cX5_restore 14 = .ok (.ireturn, 1) := by decide +kernel
theorem dX5_restore_15 : decode cX5_restore 15 = .ok (.aload_n 0, 1) := by decide +kernel
theorem dX5_restore_16 : decode cX5_restore 16 = .ok (.getfield 27, 3) := by decide +kernel
theorem dX5_restore_19 : decode cX5_restore 19 = .ok (.iload_n 1, 1) := by decide +kernel
theorem dX5_restore_20 : decode cX5_restore 20 = .ok (.aaload, 1) := by decide +kernel
theorem dX5_restore_21 : decode cX5_restore 21 = .ok (.ifnonnull 6, 3) := by decide +kernel
theorem dX5_restore_24 : decode cX5_restore 24 = .ok (.bipush (-2), 2) := by decide +kernel
theorem dX5_restore_26 : decode cX5_restore 26 = .ok (.ireturn, 1) := by decide +kernel
theorem dX5_restore_27 : decode cX5_restore 27 = .ok (.aload_n 0, 1) := by decide +kernel
theorem dX5_restore_28 : decode cX5_restore 28 = .ok (.getfield 10, 3) := by decide +kernel
theorem dX5_restore_31 : decode cX5_restore 31 = .ok (.aload_n 0, 1) := by decide +kernel
theorem dX5_restore_32 : decode cX5_restore 32 = .ok (.getfield 27, 3) := by decide +kernel
theorem dX5_restore_35 : decode cX5_restore 35 = .ok (.iload_n 1, 1) := by decide +kernel
theorem dX5_restore_36 : decode cX5_restore 36 = .ok (.aaload, 1) := by decide +kernel
theorem dX5_restore_37 : decode cX5_restore 37 = .ok (.invokevirtual 108, 3) := by decide +kernel
theorem dX5_restore_40 : decode cX5_restore 40 = .ok (.aload_n 0, 1) := by decide +kernel
theorem dX5_restore_41 : decode cX5_restore 41 = .ok (.iconst 0, 1) := by decide +kernel
theorem dX5_restore_42 : decode cX5_restore 42 = .ok (.putfield 175, 3) := by decide +kernel
theorem dX5_restore_45 : decode cX5_restore 45 = .ok (.aload_n 0, 1) := by decide +kernel
theorem dX5_restore_46 : decode cX5_restore 46 = .ok (.aconst_null, 1) := by decide +kernel
theorem dX5_restore_47 : decode cX5_restore 47 = .ok (.putfield 137, 3) := by decide +kernel
theorem dX5_restore_50 : decode cX5_restore 50 = .ok (.aload_n 0, 1) := by decide +kernel
theorem dX5_restore_51 : decode cX5_restore 51 = .ok (.getfield 10, 3) := by decide +kernel
theorem dX5_restore_54 : decode cX5_restore 54 = .ok (.invokevirtual 63, 3) := by decide +kernel
theorem dX5_restore_57 : decode cX5_restore 57 = .ok (.ireturn, 1) := by decide +kernel
set_option maxRecDepth 20000 in
theorem ggX5_prepareChange_X5_discardOldestSaved : GoodIn wsX5_prepareChange wsX5_discardOldestSaved := goodIn_r _ [9, 2, 1, 23, 24, 25, 26, 27, 28, 29, 30] (by decide +kernel) (by decide +kernel)
set_option maxRecDepth 20000 in
theorem gX5_prepareChange_X5_discardOldestSaved : GoodIn wsX5_prepareChange (wsV RX5 178 RX5 yX5_discardOldestSaved wsX5_discardOldestSaved) := goodIn_app (goodIn_of _ (by decide +kernel)) ggX5_prepareChange_X5_discardOldestSaved
set_option maxRecDepth 20000 in
theorem ggX5_prepareChange_X4_copyFrom : GoodIn wsX5_prepareChange wsX4_copyFrom := goodIn_r _ [14, 15, 16, 17, 18, 19, 20, 21, 22, 31, 32, 33, 34, 35, 36, 37, 38] (by decide +kernel) (by decide +kernel)
set_option maxRecDepth 20000 in
theorem gX5_prepareChange_X4_copyFrom : GoodIn wsX5_prepareChange (wsV RX5 108 RX4 yX4_copyFrom wsX4_copyFrom) := goodIn_app (goodIn_of _ (by decide +kernel)) ggX5_prepareChange_X4_copyFrom
theorem dX5_prepareChange_0 : decode cX5_prepareChange 0 = .ok (.aload_n 0, 1) := by decide +kernel
theorem dX5_prepareChange_1 : decode cX5_prepareChange 1 = .ok (.getfield 175, 3) := by decide +kernel
theorem dX5_prepareChange_4 : decode cX5_prepareChange 4 = .ok (.aload_n 0, 1) := by decide +kernel
theorem dX5_prepareChange_5 : decode cX5_prepareChange 5 = .ok (.getfield 23, 3) := by decide +kernel
theorem dX5_prepareChange_8 : decode cX5_prepareChange 8 = .ok (.arraylength, 1) := by decide +kernel
theorem dX5_prepareChange_9 : decode cX5_prepareChange 9 = .ok (.if_icmp .lt 7, 3) := by decide +kernel
theorem dX5_prepareChange_12 : decode cX5_prepareChange 12 = .ok (.aload_n 0, 1) := by decide +kernel
theorem dX5_prepareChange_13 : decode cX5_prepareChange 13 = .ok (.invokevirtual 178, 3) := by decide +kernel
theorem dX5_prepareChange_16 : decode cX5_prepareChange 16 = .ok (.aload_n 0, 1) := by decide +kernel
theorem dX5_prepareChange_17 : decode cX5_prepareChange 17 = .ok (.getfield 23, 3) := by decide +kernel
theorem dX5_prepareChange_20 : decode cX5_prepareChange 20 = .ok (.aload_n 0, 1) := by decide +kernel
theorem dX5_prepareChange_21 : decode cX5_prepareChange 21 = .ok (.getfield 175, 3) := by decide +kernel
theorem dX5_prepareChange_24 : decode cX5_prepareChange 24 = .ok (.aaload, 1) := by decide +kernel
theorem dX5_prepareChange_25 : decode cX5_prepareChange 25 = .ok (.aload_n 0, 1) := by decide +kernel
theorem dX5_prepareChange_26 : decode cX5_prepareChange 26 = .ok (.getfield 10, 3) := by decide +kernel
theorem dX5_prepareChange_29 : decode cX5_prepareChange 29 = .ok (.invokevirtual 108, 3) := by decide +kernel
theorem dX5_prepareChange_32 : decode cX5_prepareChange 32 = .ok (.aload_n 0, 1) := by decide +kernel
theorem dX5_prepareChange_33 : decode cX5_prepareChange 33 = .ok (.dup, 1) := by decide +kernel
theorem dX5_prepareChange_34 : decode cX5_prepareChange 34 = .ok (.getfield 175, 3) := by decide +kernel
theorem dX5_prepareChange_37 : decode cX5_prepareChange 37 = .ok (.iconst 1, 1) := by decide +kernel
theorem dX5_prepareChange_38 : decode cX5_prepareChange 38 = .ok (.iadd, 1) := by decide +kernel
theorem dX5_prepareChange_39 : decode cX5_prepareChange 39 = .ok (.putfield 175, 3) := by decide +kernel
theorem dX5_prepareChange_42 : decode cX5_prepareChange 42 = .ok (.aload_n 0, 1) := by decide +kernel
theorem dX5_prepareChange_43 : decode cX5_prepareChange 43 = .ok (.aconst_null, 1) := by decide +kernel
theorem dX5_prepareChange_44 : decode cX5_prepareChange 44 = .ok (.putfield 137, 3) := by decide +kernel
theorem dX5_prepareChange_47 : decode cX5_prepareChange 47 = .ok (.return_, 1) := by decide +kernel
theorem dX5_discardOldestSaved_0 : decode cX5_discardOldestSaved 0 = .ok (.aload_n 0, 1) := by decide +kernel
theorem dX5_discardOldestSaved_1 : decode cX5_discardOldestSaved 1 = .ok (.getfield 23, 3) := by decide +kernel
theorem dX5_discardOldestSaved_4 : decode cX5_discardOldestSaved 4 = .ok (.iconst 0, 1) := by decide +kernel
theorem dX5_discardOldestSaved_5 : decode cX5_discardOldestSaved 5 = .ok (.aaload, 1) := by decide +kernel
theorem dX5_discardOldestSaved_6 : decode cX5_discardOldestSaved 6 = .ok (.astore_n 1, 1) := by decide +kernel
theorem dX5_discardOldestSaved_7 : decode cX5_discardOldestSaved 7 = .ok (.iconst 1, 1) := by decide +kernel
theorem dX5_discardOldestSaved_8 : decode cX5_discardOldestSaved 8 = .ok (.istore_n 2, 1) := by decide +kernel
theorem dX5_discardOldestSaved_9 : decode cX5_discardOldestSaved 9 = .ok (.iload_n 2, 1) := by decide +kernel
theorem dX5_discardOldestSaved_10 : decode cX5_discardOldestSaved 10 = .ok (.aload_n 0, 1) := by decide +kernel
theorem dX5_discardOldestSaved_11 : decode cX5_discardOldestSaved 11 = .ok (.getfield 23, 3) := by decide +kernel
theorem dX5_discardOldestSaved_14 : decode cX5_discardOldestSaved 14 = .ok (.arraylength, 1) := by decide +kernel
theorem dX5_discardOldestSaved_15 : decode cX5_discardOldestSaved 15 = .ok (.if_icmp .ge 23, 3) := by decide +kernel
theorem dX5_discardOldestSaved_18 : decode cX5_discardOldestSaved 18 = .ok (.aload_n 0, 1) := by decide +kernel
theorem dX5_discardOldestSaved_19 : decode cX5_discardOldestSaved 19 = .ok (.getfield 23, 3) := by decide +kernel
theorem dX5_discardOldestSaved_22 : decode cX5_discardOldestSaved 22 = .ok (.iload_n 2, 1) := by decide +kernel
theorem dX5_discardOldestSaved_23 : decode cX5_discardOldestSaved 23 = .ok (.iconst 1, 1) := by decide +kernel
theorem dX5_discardOldestSaved_24 : decode cX5_discardOldestSaved 24 = .ok (.isub, 1) := by decide +kernel
theorem dX5_discardOldestSaved_25 : decode cX5_discardOldestSaved 25 = .ok (.aload_n 0, 1) := by decide +kernel
theorem dX5_discardOldestSaved_26 : decode cX5_discardOldestSaved 26 = .ok (.getfield 23, 3) := by decide +kernel
theorem dX5_discardOldestSaved_29 : decode cX5_discardOldestSaved 29 = .ok (.iload_n 2, 1) := by decide +kernel
theorem dX5_discardOldestSaved_30 : decode cX5_discardOldestSaved 30 = .ok (.aaload, 1) := by decide +kernel
theorem dX5_discardOldestSaved_31 : decode cX5_discardOldestSaved 31 = .ok (.aastore, 1) := by decide +kernel
theorem dX5_discardOldestSaved_32 : decode cX5_discardOldestSaved 32 = .ok (.iinc 2 1, 3) := by decide +kernel
theorem dX5_discardOldestSaved_35 : decode cX5_discardOldestSaved 35 = .ok (.goto (-26), 3) := by decide +kernel
theorem dX5_discardOldestSaved_38 : decode cX5_discardOldestSaved 38 = .ok (.aload_n 0, 1) := by decide +kernel
theorem dX5_discardOldestSaved_39 : decode cX5_discardOldestSaved 39 = .ok (.getfield 23, 3) := by decide +kernel
theorem dX5_discardOldestSaved_42 : decode cX5_discardOldestSaved 42 = .ok (.aload_n 0, 1) := by decide +kernel
theorem dX5_discardOldestSaved_43 : decode cX5_discardOldestSaved 43 = .ok (.getfield 23, 3) := by decide +kernel
theorem dX5_discardOldestSaved_46 : decode cX5_discardOldestSaved 46 = .ok (.arraylength, 1) := by decide +kernel
theorem dX5_discardOldestSaved_47 : decode cX5_discardOldestSaved 47 = .ok (.iconst 1, 1) := by decide +kernel
theorem dX5_discardOldestSaved_48 : decode cX5_discardOldestSaved 48 = .ok (.isub, 1) := by decide +kernel
theorem dX5_discardOldestSaved_49 : decode cX5_discardOldestSaved 49 = .ok (.aload_n 1, 1) := by decide +kernel
theorem dX5_discardOldestSaved_50 : decode cX5_discardOldestSaved 50 = .ok (.aastore, 1) := by decide +kernel
theorem dX5_discardOldestSaved_51 : decode cX5_discardOldestSaved 51 = .ok (.aload_n 0, 1) := by decide +kernel
theorem dX5_discardOldestSaved_52 : decode cX5_discardOldestSaved 52 = .ok (.aload_n 0, 1) := by decide +kernel
theorem dX5_discardOldestSaved_53 : decode cX5_discardOldestSaved 53 = .ok (.getfield 23, 3) := by decide +kernel
theorem dX5_discardOldestSaved_56 : decode cX5_discardOldestSaved 56 = .ok (.arraylength, 1) := by decide +kernel
theorem dX5_discardOldestSaved_57 : decode cX5_discardOldestSaved 57 = .ok (.iconst 1, 1) := by decide +kernel
theorem dX5_discardOldestSaved_58 : decode cX5_discardOldestSaved 58 = .ok (.isub, 1) := by decide +kernel
theorem dX5_discardOldestSaved_59 : decode cX5_discardOldestSaved 59 = .ok (.putfield 175, 3) := by decide +kernel
theorem dX5_discardOldestSaved_62 : decode cX5_discardOldestSaved 62 = .ok (.return_, 1) := by decide +kernel
set_option maxRecDepth 20000 in
theorem ggX6_init_X6_begin : GoodIn wsX6_init wsX6_begin := goodIn_r _ [24, 5, 25, 26, 27, 28, 29, 30, 31, 32, 33, 34, 35, 36, 37, 38, 39, 40, 41, 42, 43, 44, 45, 46, 47, 48, 49, 50, 51, 52, 53, 54, 55, 56, 57, 58] (by decide +kernel) (by decide +kernel)
set_option maxRecDepth 20000 in
theorem gX6_init_X6_begin : GoodIn wsX6_init (wsV RX6 53 RX6 yX6_begin wsX6_begin) := goodIn_app (goodIn_of _ (by decide +kernel)) ggX6_init_X6_begin
