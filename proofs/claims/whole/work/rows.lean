section
-- ===== PART A: goes FIRST, ahead of the names: the tables' words, and 'selects' of the private methods out of them =====
/-- a private method of a class that the tables say can be made, by its rows of tables_1 -/
def lw_okq (q : MethodName × Nat) : Prop := (q.1.cls ≠ "java/lang/invoke/MethodHandle" ∧ q.1.cls ≠ "java/lang/invoke/VarHandle") ∧ Cond.instantiable q.1.cls q.2 ∈ tables_1 ∧ Cond.privateMethod q.1 ∈ tables_1 ∧ Cond.instanceMethod q.1 ∈ tables_1
theorem lw_p0 : lw_okq (⟨"RenamingGrid", "prepareChange", "()V"⟩, 8) := ⟨⟨by decide +kernel, by decide +kernel⟩, List.mem_of_getElem? (i := 12) (by decide +kernel), List.mem_of_getElem? (i := 122) (by decide +kernel), List.mem_of_getElem? (i := 123) (by decide +kernel)⟩
theorem lw_p1 : lw_okq (⟨"RenamingGrid", "discardOldestSaved", "()V"⟩, 8) := ⟨⟨by decide +kernel, by decide +kernel⟩, List.mem_of_getElem? (i := 12) (by decide +kernel), List.mem_of_getElem? (i := 126) (by decide +kernel), List.mem_of_getElem? (i := 127) (by decide +kernel)⟩
theorem lw_p2 : lw_okq (⟨"RenamingGrid$State", "countExit", "(IZ)V"⟩, 8) := ⟨⟨by decide +kernel, by decide +kernel⟩, List.mem_of_getElem? (i := 20) (by decide +kernel), List.mem_of_getElem? (i := 207) (by decide +kernel), List.mem_of_getElem? (i := 208) (by decide +kernel)⟩
theorem lw_p3 : lw_okq (⟨"RenamingGrid$Schedule", "beginsToken", "(I)Z"⟩, 5) := ⟨⟨by decide +kernel, by decide +kernel⟩, List.mem_of_getElem? (i := 69) (by decide +kernel), List.mem_of_getElem? (i := 254) (by decide +kernel), List.mem_of_getElem? (i := 255) (by decide +kernel)⟩
theorem lw_p4 : lw_okq (⟨"RenamingGrid$Schedule", "digitAt", "(I)I"⟩, 5) := ⟨⟨by decide +kernel, by decide +kernel⟩, List.mem_of_getElem? (i := 69) (by decide +kernel), List.mem_of_getElem? (i := 258) (by decide +kernel), List.mem_of_getElem? (i := 259) (by decide +kernel)⟩
theorem lw_p5 : lw_okq (⟨"RenamingGrid$Schedule", "characterAt", "(I)I"⟩, 5) := ⟨⟨by decide +kernel, by decide +kernel⟩, List.mem_of_getElem? (i := 69) (by decide +kernel), List.mem_of_getElem? (i := 262) (by decide +kernel), List.mem_of_getElem? (i := 263) (by decide +kernel)⟩
theorem lw_p6 : lw_okq (⟨"RenamingGrid$Schedule", "afterToken", "(III)I"⟩, 5) := ⟨⟨by decide +kernel, by decide +kernel⟩, List.mem_of_getElem? (i := 69) (by decide +kernel), List.mem_of_getElem? (i := 266) (by decide +kernel), List.mem_of_getElem? (i := 267) (by decide +kernel)⟩
theorem lw_p7 : lw_okq (⟨"RenamingGrid$Schedule", "numberAt", "(I)I"⟩, 5) := ⟨⟨by decide +kernel, by decide +kernel⟩, List.mem_of_getElem? (i := 69) (by decide +kernel), List.mem_of_getElem? (i := 270) (by decide +kernel), List.mem_of_getElem? (i := 271) (by decide +kernel)⟩
theorem lw_p8 : lw_okq (⟨"RenamingGrid$Schedule", "addItem", "(I)Z"⟩, 5) := ⟨⟨by decide +kernel, by decide +kernel⟩, List.mem_of_getElem? (i := 69) (by decide +kernel), List.mem_of_getElem? (i := 274) (by decide +kernel), List.mem_of_getElem? (i := 275) (by decide +kernel)⟩
theorem lw_p9 : lw_okq (⟨"RenamingGrid$Schedule", "setCount", "(I)Z"⟩, 5) := ⟨⟨by decide +kernel, by decide +kernel⟩, List.mem_of_getElem? (i := 69) (by decide +kernel), List.mem_of_getElem? (i := 278) (by decide +kernel), List.mem_of_getElem? (i := 279) (by decide +kernel)⟩
theorem lw_p10 : lw_okq (⟨"RenamingGrid$Exploration", "find", "(JII)Z"⟩, 7) := ⟨⟨by decide +kernel, by decide +kernel⟩, List.mem_of_getElem? (i := 353) (by decide +kernel), List.mem_of_getElem? (i := 390) (by decide +kernel), List.mem_of_getElem? (i := 391) (by decide +kernel)⟩
theorem lw_p11 : lw_okq (⟨"RenamingGrid$Exploration", "keep", "(JII)Z"⟩, 7) := ⟨⟨by decide +kernel, by decide +kernel⟩, List.mem_of_getElem? (i := 353) (by decide +kernel), List.mem_of_getElem? (i := 395) (by decide +kernel), List.mem_of_getElem? (i := 396) (by decide +kernel)⟩
theorem lw_p12 : lw_okq (⟨"RenamingGrid$Exploration", "foundAt", "(I)J"⟩, 7) := ⟨⟨by decide +kernel, by decide +kernel⟩, List.mem_of_getElem? (i := 353) (by decide +kernel), List.mem_of_getElem? (i := 399) (by decide +kernel), List.mem_of_getElem? (i := 400) (by decide +kernel)⟩
theorem lw_p13 : lw_okq (⟨"RenamingGrid$Exploration", "findNext", "(ILRenamingGrid$State;)Z"⟩, 7) := ⟨⟨by decide +kernel, by decide +kernel⟩, List.mem_of_getElem? (i := 353) (by decide +kernel), List.mem_of_getElem? (i := 403) (by decide +kernel), List.mem_of_getElem? (i := 404) (by decide +kernel)⟩
theorem lw_p14 : lw_okq (⟨"RenamingGrid$Exploration", "isFinal", "(J)Z"⟩, 7) := ⟨⟨by decide +kernel, by decide +kernel⟩, List.mem_of_getElem? (i := 353) (by decide +kernel), List.mem_of_getElem? (i := 417) (by decide +kernel), List.mem_of_getElem? (i := 418) (by decide +kernel)⟩
theorem lw_p15 : lw_okq (⟨"RenamingGrid$Exploration", "isViolation", "(J)Z"⟩, 7) := ⟨⟨by decide +kernel, by decide +kernel⟩, List.mem_of_getElem? (i := 353) (by decide +kernel), List.mem_of_getElem? (i := 429) (by decide +kernel), List.mem_of_getElem? (i := 430) (by decide +kernel)⟩
def lw_privs_1 : List (MethodName × Nat) := [(⟨"RenamingGrid", "prepareChange", "()V"⟩, 8), (⟨"RenamingGrid", "discardOldestSaved", "()V"⟩, 8), (⟨"RenamingGrid$State", "countExit", "(IZ)V"⟩, 8), (⟨"RenamingGrid$Schedule", "beginsToken", "(I)Z"⟩, 5), (⟨"RenamingGrid$Schedule", "digitAt", "(I)I"⟩, 5), (⟨"RenamingGrid$Schedule", "characterAt", "(I)I"⟩, 5), (⟨"RenamingGrid$Schedule", "afterToken", "(III)I"⟩, 5), (⟨"RenamingGrid$Schedule", "numberAt", "(I)I"⟩, 5), (⟨"RenamingGrid$Schedule", "addItem", "(I)Z"⟩, 5), (⟨"RenamingGrid$Schedule", "setCount", "(I)Z"⟩, 5), (⟨"RenamingGrid$Exploration", "find", "(JII)Z"⟩, 7), (⟨"RenamingGrid$Exploration", "keep", "(JII)Z"⟩, 7), (⟨"RenamingGrid$Exploration", "foundAt", "(I)J"⟩, 7), (⟨"RenamingGrid$Exploration", "findNext", "(ILRenamingGrid$State;)Z"⟩, 7), (⟨"RenamingGrid$Exploration", "isFinal", "(J)Z"⟩, 7), (⟨"RenamingGrid$Exploration", "isViolation", "(J)Z"⟩, 7)]
theorem lw_r1 : ∀ q ∈ lw_privs_1, lw_okq q := List.forall_mem_cons.mpr ⟨lw_p0, List.forall_mem_cons.mpr ⟨lw_p1, List.forall_mem_cons.mpr ⟨lw_p2, List.forall_mem_cons.mpr ⟨lw_p3, List.forall_mem_cons.mpr ⟨lw_p4, List.forall_mem_cons.mpr ⟨lw_p5, List.forall_mem_cons.mpr ⟨lw_p6, List.forall_mem_cons.mpr ⟨lw_p7, List.forall_mem_cons.mpr ⟨lw_p8, List.forall_mem_cons.mpr ⟨lw_p9, List.forall_mem_cons.mpr ⟨lw_p10, List.forall_mem_cons.mpr ⟨lw_p11, List.forall_mem_cons.mpr ⟨lw_p12, List.forall_mem_cons.mpr ⟨lw_p13, List.forall_mem_cons.mpr ⟨lw_p14, List.forall_mem_cons.mpr ⟨lw_p15, fun _ h => absurd h List.not_mem_nil⟩⟩⟩⟩⟩⟩⟩⟩⟩⟩⟩⟩⟩⟩⟩⟩
theorem lw_p16 : lw_okq (⟨"RenamingGrid$Exploration", "firstViolation", "()I"⟩, 7) := ⟨⟨by decide +kernel, by decide +kernel⟩, List.mem_of_getElem? (i := 353) (by decide +kernel), List.mem_of_getElem? (i := 442) (by decide +kernel), List.mem_of_getElem? (i := 443) (by decide +kernel)⟩
theorem lw_p17 : lw_okq (⟨"RenamingGrid$Exploration", "parentOf", "(I)I"⟩, 7) := ⟨⟨by decide +kernel, by decide +kernel⟩, List.mem_of_getElem? (i := 353) (by decide +kernel), List.mem_of_getElem? (i := 450) (by decide +kernel), List.mem_of_getElem? (i := 451) (by decide +kernel)⟩
theorem lw_p18 : lw_okq (⟨"RenamingGrid$Exploration", "outcomeOf", "(J)I"⟩, 7) := ⟨⟨by decide +kernel, by decide +kernel⟩, List.mem_of_getElem? (i := 353) (by decide +kernel), List.mem_of_getElem? (i := 481) (by decide +kernel), List.mem_of_getElem? (i := 482) (by decide +kernel)⟩
theorem lw_p19 : lw_okq (⟨"RenamingGrid$Exploration", "markOutcome", "(I)V"⟩, 7) := ⟨⟨by decide +kernel, by decide +kernel⟩, List.mem_of_getElem? (i := 353) (by decide +kernel), List.mem_of_getElem? (i := 485) (by decide +kernel), List.mem_of_getElem? (i := 486) (by decide +kernel)⟩
theorem lw_p20 : lw_okq (⟨"RenamingGridModel", "begin", "(III)V"⟩, 34) := ⟨⟨by decide +kernel, by decide +kernel⟩, List.mem_of_getElem? (i := 515) (by decide +kernel), List.mem_of_getElem? (i := 521) (by decide +kernel), List.mem_of_getElem? (i := 522) (by decide +kernel)⟩
theorem lw_p21 : lw_okq (⟨"RenamingGridModel", "keep", "()V"⟩, 34) := ⟨⟨by decide +kernel, by decide +kernel⟩, List.mem_of_getElem? (i := 515) (by decide +kernel), List.mem_of_getElem? (i := 636) (by decide +kernel), List.mem_of_getElem? (i := 637) (by decide +kernel)⟩
theorem lw_p22 : lw_okq (⟨"RenamingGridModel", "names", "()I"⟩, 34) := ⟨⟨by decide +kernel, by decide +kernel⟩, List.mem_of_getElem? (i := 515) (by decide +kernel), List.mem_of_getElem? (i := 640) (by decide +kernel), List.mem_of_getElem? (i := 641) (by decide +kernel)⟩
theorem lw_p23 : lw_okq (⟨"RenamingGridModel", "isProcess", "(I)Z"⟩, 34) := ⟨⟨by decide +kernel, by decide +kernel⟩, List.mem_of_getElem? (i := 515) (by decide +kernel), List.mem_of_getElem? (i := 656) (by decide +kernel), List.mem_of_getElem? (i := 657) (by decide +kernel)⟩
theorem lw_p24 : lw_okq (⟨"RenamingGridModel", "take", "()V"⟩, 34) := ⟨⟨by decide +kernel, by decide +kernel⟩, List.mem_of_getElem? (i := 515) (by decide +kernel), List.mem_of_getElem? (i := 660) (by decide +kernel), List.mem_of_getElem? (i := 661) (by decide +kernel)⟩
theorem lw_p25 : lw_okq (⟨"RenamingGridModel", "statusIn", "(I)I"⟩, 34) := ⟨⟨by decide +kernel, by decide +kernel⟩, List.mem_of_getElem? (i := 515) (by decide +kernel), List.mem_of_getElem? (i := 664) (by decide +kernel), List.mem_of_getElem? (i := 665) (by decide +kernel)⟩
theorem lw_p26 : lw_okq (⟨"RenamingGridModel", "make", "(I)I"⟩, 34) := ⟨⟨by decide +kernel, by decide +kernel⟩, List.mem_of_getElem? (i := 515) (by decide +kernel), List.mem_of_getElem? (i := 668) (by decide +kernel), List.mem_of_getElem? (i := 669) (by decide +kernel)⟩
theorem lw_p27 : lw_okq (⟨"RenamingGridModel", "stepOf", "(I)I"⟩, 34) := ⟨⟨by decide +kernel, by decide +kernel⟩, List.mem_of_getElem? (i := 515) (by decide +kernel), List.mem_of_getElem? (i := 672) (by decide +kernel), List.mem_of_getElem? (i := 673) (by decide +kernel)⟩
theorem lw_p28 : lw_okq (⟨"RenamingGridModel", "splitterIn", "(I)I"⟩, 34) := ⟨⟨by decide +kernel, by decide +kernel⟩, List.mem_of_getElem? (i := 515) (by decide +kernel), List.mem_of_getElem? (i := 676) (by decide +kernel), List.mem_of_getElem? (i := 677) (by decide +kernel)⟩
theorem lw_p29 : lw_okq (⟨"RenamingGridModel", "phaseIn", "(I)I"⟩, 34) := ⟨⟨by decide +kernel, by decide +kernel⟩, List.mem_of_getElem? (i := 515) (by decide +kernel), List.mem_of_getElem? (i := 680) (by decide +kernel), List.mem_of_getElem? (i := 681) (by decide +kernel)⟩
theorem lw_p30 : lw_okq (⟨"RenamingGridModel", "proceed", "(II)I"⟩, 34) := ⟨⟨by decide +kernel, by decide +kernel⟩, List.mem_of_getElem? (i := 515) (by decide +kernel), List.mem_of_getElem? (i := 684) (by decide +kernel), List.mem_of_getElem? (i := 685) (by decide +kernel)⟩
theorem lw_p31 : lw_okq (⟨"RenamingGridModel", "setProcess", "(IIII)V"⟩, 34) := ⟨⟨by decide +kernel, by decide +kernel⟩, List.mem_of_getElem? (i := 515) (by decide +kernel), List.mem_of_getElem? (i := 688) (by decide +kernel), List.mem_of_getElem? (i := 689) (by decide +kernel)⟩
def lw_privs_2 : List (MethodName × Nat) := [(⟨"RenamingGrid$Exploration", "firstViolation", "()I"⟩, 7), (⟨"RenamingGrid$Exploration", "parentOf", "(I)I"⟩, 7), (⟨"RenamingGrid$Exploration", "outcomeOf", "(J)I"⟩, 7), (⟨"RenamingGrid$Exploration", "markOutcome", "(I)V"⟩, 7), (⟨"RenamingGridModel", "begin", "(III)V"⟩, 34), (⟨"RenamingGridModel", "keep", "()V"⟩, 34), (⟨"RenamingGridModel", "names", "()I"⟩, 34), (⟨"RenamingGridModel", "isProcess", "(I)Z"⟩, 34), (⟨"RenamingGridModel", "take", "()V"⟩, 34), (⟨"RenamingGridModel", "statusIn", "(I)I"⟩, 34), (⟨"RenamingGridModel", "make", "(I)I"⟩, 34), (⟨"RenamingGridModel", "stepOf", "(I)I"⟩, 34), (⟨"RenamingGridModel", "splitterIn", "(I)I"⟩, 34), (⟨"RenamingGridModel", "phaseIn", "(I)I"⟩, 34), (⟨"RenamingGridModel", "proceed", "(II)I"⟩, 34), (⟨"RenamingGridModel", "setProcess", "(IIII)V"⟩, 34)]
theorem lw_r2 : ∀ q ∈ lw_privs_2, lw_okq q := List.forall_mem_cons.mpr ⟨lw_p16, List.forall_mem_cons.mpr ⟨lw_p17, List.forall_mem_cons.mpr ⟨lw_p18, List.forall_mem_cons.mpr ⟨lw_p19, List.forall_mem_cons.mpr ⟨lw_p20, List.forall_mem_cons.mpr ⟨lw_p21, List.forall_mem_cons.mpr ⟨lw_p22, List.forall_mem_cons.mpr ⟨lw_p23, List.forall_mem_cons.mpr ⟨lw_p24, List.forall_mem_cons.mpr ⟨lw_p25, List.forall_mem_cons.mpr ⟨lw_p26, List.forall_mem_cons.mpr ⟨lw_p27, List.forall_mem_cons.mpr ⟨lw_p28, List.forall_mem_cons.mpr ⟨lw_p29, List.forall_mem_cons.mpr ⟨lw_p30, List.forall_mem_cons.mpr ⟨lw_p31, fun _ h => absurd h List.not_mem_nil⟩⟩⟩⟩⟩⟩⟩⟩⟩⟩⟩⟩⟩⟩⟩⟩
theorem lw_p32 : lw_okq (⟨"RenamingGridModel", "doorIn", "(I)I"⟩, 34) := ⟨⟨by decide +kernel, by decide +kernel⟩, List.mem_of_getElem? (i := 515) (by decide +kernel), List.mem_of_getElem? (i := 692) (by decide +kernel), List.mem_of_getElem? (i := 693) (by decide +kernel)⟩
theorem lw_p33 : lw_okq (⟨"RenamingGridModel", "move", "(IZ)I"⟩, 34) := ⟨⟨by decide +kernel, by decide +kernel⟩, List.mem_of_getElem? (i := 515) (by decide +kernel), List.mem_of_getElem? (i := 696) (by decide +kernel), List.mem_of_getElem? (i := 697) (by decide +kernel)⟩
theorem lw_p34 : lw_okq (⟨"RenamingGridModel", "ownerIn", "(I)I"⟩, 34) := ⟨⟨by decide +kernel, by decide +kernel⟩, List.mem_of_getElem? (i := 515) (by decide +kernel), List.mem_of_getElem? (i := 703) (by decide +kernel), List.mem_of_getElem? (i := 704) (by decide +kernel)⟩
theorem lw_p35 : lw_okq (⟨"RenamingGridModel", "closeDoor", "(I)I"⟩, 34) := ⟨⟨by decide +kernel, by decide +kernel⟩, List.mem_of_getElem? (i := 515) (by decide +kernel), List.mem_of_getElem? (i := 707) (by decide +kernel), List.mem_of_getElem? (i := 708) (by decide +kernel)⟩
theorem lw_p36 : lw_okq (⟨"RenamingGridModel", "becomeNamed", "(I)I"⟩, 34) := ⟨⟨by decide +kernel, by decide +kernel⟩, List.mem_of_getElem? (i := 515) (by decide +kernel), List.mem_of_getElem? (i := 711) (by decide +kernel), List.mem_of_getElem? (i := 712) (by decide +kernel)⟩
theorem lw_p37 : lw_okq (⟨"RenamingGridModel", "running", "()I"⟩, 34) := ⟨⟨by decide +kernel, by decide +kernel⟩, List.mem_of_getElem? (i := 515) (by decide +kernel), List.mem_of_getElem? (i := 719) (by decide +kernel), List.mem_of_getElem? (i := 720) (by decide +kernel)⟩
theorem lw_p38 : lw_okq (⟨"RenamingGridModel", "read", "(Z)I"⟩, 34) := ⟨⟨by decide +kernel, by decide +kernel⟩, List.mem_of_getElem? (i := 515) (by decide +kernel), List.mem_of_getElem? (i := 735) (by decide +kernel), List.mem_of_getElem? (i := 736) (by decide +kernel)⟩
theorem lw_p39 : lw_okq (⟨"RenamingGridModel", "advance", "()V"⟩, 34) := ⟨⟨by decide +kernel, by decide +kernel⟩, List.mem_of_getElem? (i := 515) (by decide +kernel), List.mem_of_getElem? (i := 739) (by decide +kernel), List.mem_of_getElem? (i := 740) (by decide +kernel)⟩
theorem lw_p40 : lw_okq (⟨"RenamingGridModel", "characterAt", "(I)I"⟩, 34) := ⟨⟨by decide +kernel, by decide +kernel⟩, List.mem_of_getElem? (i := 515) (by decide +kernel), List.mem_of_getElem? (i := 743) (by decide +kernel), List.mem_of_getElem? (i := 744) (by decide +kernel)⟩
theorem lw_p41 : lw_okq (⟨"RenamingGridModel", "accept", "(Z)I"⟩, 34) := ⟨⟨by decide +kernel, by decide +kernel⟩, List.mem_of_getElem? (i := 515) (by decide +kernel), List.mem_of_getElem? (i := 747) (by decide +kernel), List.mem_of_getElem? (i := 748) (by decide +kernel)⟩
theorem lw_p42 : lw_okq (⟨"RenamingGridModel", "isSign", "(I)Z"⟩, 34) := ⟨⟨by decide +kernel, by decide +kernel⟩, List.mem_of_getElem? (i := 515) (by decide +kernel), List.mem_of_getElem? (i := 751) (by decide +kernel), List.mem_of_getElem? (i := 752) (by decide +kernel)⟩
theorem lw_p43 : lw_okq (⟨"RenamingGridModel", "execute", "(II)I"⟩, 34) := ⟨⟨by decide +kernel, by decide +kernel⟩, List.mem_of_getElem? (i := 515) (by decide +kernel), List.mem_of_getElem? (i := 755) (by decide +kernel), List.mem_of_getElem? (i := 756) (by decide +kernel)⟩
theorem lw_p44 : lw_okq (⟨"RenamingGridModel", "runAlone", "(I)I"⟩, 34) := ⟨⟨by decide +kernel, by decide +kernel⟩, List.mem_of_getElem? (i := 515) (by decide +kernel), List.mem_of_getElem? (i := 779) (by decide +kernel), List.mem_of_getElem? (i := 780) (by decide +kernel)⟩
theorem lw_p45 : lw_okq (⟨"RenamingGridModel", "isSplitter", "(I)Z"⟩, 34) := ⟨⟨by decide +kernel, by decide +kernel⟩, List.mem_of_getElem? (i := 515) (by decide +kernel), List.mem_of_getElem? (i := 791) (by decide +kernel), List.mem_of_getElem? (i := 792) (by decide +kernel)⟩
theorem lw_p46 : lw_okq (⟨"RenamingGridModel", "findAll", "()V"⟩, 34) := ⟨⟨by decide +kernel, by decide +kernel⟩, List.mem_of_getElem? (i := 515) (by decide +kernel), List.mem_of_getElem? (i := 811) (by decide +kernel), List.mem_of_getElem? (i := 812) (by decide +kernel)⟩
theorem lw_p47 : lw_okq (⟨"RenamingGridModel", "found", "(II)V"⟩, 34) := ⟨⟨by decide +kernel, by decide +kernel⟩, List.mem_of_getElem? (i := 515) (by decide +kernel), List.mem_of_getElem? (i := 815) (by decide +kernel), List.mem_of_getElem? (i := 816) (by decide +kernel)⟩
def lw_privs_3 : List (MethodName × Nat) := [(⟨"RenamingGridModel", "doorIn", "(I)I"⟩, 34), (⟨"RenamingGridModel", "move", "(IZ)I"⟩, 34), (⟨"RenamingGridModel", "ownerIn", "(I)I"⟩, 34), (⟨"RenamingGridModel", "closeDoor", "(I)I"⟩, 34), (⟨"RenamingGridModel", "becomeNamed", "(I)I"⟩, 34), (⟨"RenamingGridModel", "running", "()I"⟩, 34), (⟨"RenamingGridModel", "read", "(Z)I"⟩, 34), (⟨"RenamingGridModel", "advance", "()V"⟩, 34), (⟨"RenamingGridModel", "characterAt", "(I)I"⟩, 34), (⟨"RenamingGridModel", "accept", "(Z)I"⟩, 34), (⟨"RenamingGridModel", "isSign", "(I)Z"⟩, 34), (⟨"RenamingGridModel", "execute", "(II)I"⟩, 34), (⟨"RenamingGridModel", "runAlone", "(I)I"⟩, 34), (⟨"RenamingGridModel", "isSplitter", "(I)Z"⟩, 34), (⟨"RenamingGridModel", "findAll", "()V"⟩, 34), (⟨"RenamingGridModel", "found", "(II)V"⟩, 34)]
theorem lw_r3 : ∀ q ∈ lw_privs_3, lw_okq q := List.forall_mem_cons.mpr ⟨lw_p32, List.forall_mem_cons.mpr ⟨lw_p33, List.forall_mem_cons.mpr ⟨lw_p34, List.forall_mem_cons.mpr ⟨lw_p35, List.forall_mem_cons.mpr ⟨lw_p36, List.forall_mem_cons.mpr ⟨lw_p37, List.forall_mem_cons.mpr ⟨lw_p38, List.forall_mem_cons.mpr ⟨lw_p39, List.forall_mem_cons.mpr ⟨lw_p40, List.forall_mem_cons.mpr ⟨lw_p41, List.forall_mem_cons.mpr ⟨lw_p42, List.forall_mem_cons.mpr ⟨lw_p43, List.forall_mem_cons.mpr ⟨lw_p44, List.forall_mem_cons.mpr ⟨lw_p45, List.forall_mem_cons.mpr ⟨lw_p46, List.forall_mem_cons.mpr ⟨lw_p47, fun _ h => absurd h List.not_mem_nil⟩⟩⟩⟩⟩⟩⟩⟩⟩⟩⟩⟩⟩⟩⟩⟩
theorem lw_p48 : lw_okq (⟨"RenamingGridModel", "note", "(I)V"⟩, 34) := ⟨⟨by decide +kernel, by decide +kernel⟩, List.mem_of_getElem? (i := 515) (by decide +kernel), List.mem_of_getElem? (i := 820) (by decide +kernel), List.mem_of_getElem? (i := 821) (by decide +kernel)⟩
theorem lw_p49 : lw_okq (⟨"RenamingGridModel", "isFinal", "()Z"⟩, 34) := ⟨⟨by decide +kernel, by decide +kernel⟩, List.mem_of_getElem? (i := 515) (by decide +kernel), List.mem_of_getElem? (i := 824) (by decide +kernel), List.mem_of_getElem? (i := 825) (by decide +kernel)⟩
theorem lw_p50 : lw_okq (⟨"RenamingGridModel", "noteFinal", "()V"⟩, 34) := ⟨⟨by decide +kernel, by decide +kernel⟩, List.mem_of_getElem? (i := 515) (by decide +kernel), List.mem_of_getElem? (i := 828) (by decide +kernel), List.mem_of_getElem? (i := 829) (by decide +kernel)⟩
theorem lw_p51 : lw_okq (⟨"RenamingGridModel", "isViolation", "()Z"⟩, 34) := ⟨⟨by decide +kernel, by decide +kernel⟩, List.mem_of_getElem? (i := 515) (by decide +kernel), List.mem_of_getElem? (i := 832) (by decide +kernel), List.mem_of_getElem? (i := 833) (by decide +kernel)⟩
theorem lw_p52 : lw_okq (⟨"RenamingGridModel", "notePath", "(I)V"⟩, 34) := ⟨⟨by decide +kernel, by decide +kernel⟩, List.mem_of_getElem? (i := 515) (by decide +kernel), List.mem_of_getElem? (i := 836) (by decide +kernel), List.mem_of_getElem? (i := 837) (by decide +kernel)⟩
def lw_privs_4 : List (MethodName × Nat) := [(⟨"RenamingGridModel", "note", "(I)V"⟩, 34), (⟨"RenamingGridModel", "isFinal", "()Z"⟩, 34), (⟨"RenamingGridModel", "noteFinal", "()V"⟩, 34), (⟨"RenamingGridModel", "isViolation", "()Z"⟩, 34), (⟨"RenamingGridModel", "notePath", "(I)V"⟩, 34)]
theorem lw_r4 : ∀ q ∈ lw_privs_4, lw_okq q := List.forall_mem_cons.mpr ⟨lw_p48, List.forall_mem_cons.mpr ⟨lw_p49, List.forall_mem_cons.mpr ⟨lw_p50, List.forall_mem_cons.mpr ⟨lw_p51, List.forall_mem_cons.mpr ⟨lw_p52, fun _ h => absurd h List.not_mem_nil⟩⟩⟩⟩⟩
def lw_privs : List (MethodName × Nat) := lw_privs_1 ++ (lw_privs_2 ++ (lw_privs_3 ++ (lw_privs_4)))
def lw_tbl : List Cond := k2_sels lw_privs ++ tables_1
theorem lw_privs_ok : ∀ q ∈ lw_privs, lw_okq q := by
  show ∀ q ∈ lw_privs_1 ++ (lw_privs_2 ++ (lw_privs_3 ++ (lw_privs_4))), lw_okq q
  exact List.forall_mem_append.mpr ⟨lw_r1, List.forall_mem_append.mpr ⟨lw_r2, List.forall_mem_append.mpr ⟨lw_r3, lw_r4⟩⟩⟩
-- ===== end of PART A; then your names; then what follows =====
/-! ===== BEGIN words of one list among another's, by their places ===== -/
theorem goodIn_r {big : List Cond} (ws : List Cond) (ps : List Nat) (hp : ws = ps.filterMap (fun i => big[i]?)) (h : ws.all goodWord = true) : GoodIn big ws := by
  intro w hw
  have h1 := List.all_eq_true.mp h w hw
  rw [hp] at hw
  obtain ⟨i, -, hi⟩ := List.mem_filterMap.mp hw
  have hm : w ∈ big := by first | exact List.mem_of_getElem? hi | exact List.getElem?_mem hi
  exact ⟨hm, good_of_word h1⟩
theorem goodIn_app {big a b : List Cond} (ha : GoodIn big a) (hb : GoodIn big b) : GoodIn big (a ++ b) := fun w h => (List.mem_append.mp h).elim (ha w) (hb w)
theorem goodIn_ca {big a b : List Cond} {c : Cond} (ha : GoodIn big (c :: a)) (hb : GoodIn big b) : GoodIn big (c :: (a ++ b)) := fun w h => (List.mem_cons.mp h).elim (fun e => ha w (List.mem_cons.mpr (Or.inl e))) (fun h => (List.mem_append.mp h).elim (fun h => ha w (List.mem_cons.mpr (Or.inr h))) (hb w))
theorem goodIn_sub {big ws : List Cond} (hm : ∀ w ∈ ws, w ∈ big) (h : ws.all goodWord = true) : GoodIn big ws := fun w hw => ⟨hm w hw, good_of_word (List.all_eq_true.mp h w hw)⟩
/-! ===== END ===== -/

/-! ===== BEGIN printed: names, fields, word lists, decode rows ===== -/
def RX0 : String := "RenamingGrid$Configuration"
def TX0 : u_T := fun k => match k with
  | _ => ("", "", "", false)
def tyX0 : Nat → FieldType := fun k => match k with
  | _ => .int
abbrev wsX00 : List Cond := u_ws RX0 TX0 0
theorem nmX0 : ∀ a, a < 0 → ∀ b, b < 0 → a ≠ b → (TX0 a).2.1 ≠ (TX0 b).2.1 := by decide +kernel
theorem tyX0_ok : ∀ k, k < 0 → parseFieldDescriptor (TX0 k).2.2.1 = some (tyX0 k) := by decide +kernel
abbrev cX0_statusIn : ByteArray := prog_2_method_2_code
def yX0_statusIn : MethodName := ⟨RX0, "statusIn", "(JI)I"⟩
abbrev cX0_phaseIn : ByteArray := prog_2_method_3_code
def yX0_phaseIn : MethodName := ⟨RX0, "phaseIn", "(JI)I"⟩
abbrev cX0_splitterIn : ByteArray := prog_2_method_4_code
def yX0_splitterIn : MethodName := ⟨RX0, "splitterIn", "(JI)I"⟩
abbrev cX0_nameIn : ByteArray := prog_2_method_5_code
def yX0_nameIn : MethodName := ⟨RX0, "nameIn", "(JI)I"⟩
abbrev cX0_ownerIn : ByteArray := prog_2_method_6_code
def yX0_ownerIn : MethodName := ⟨RX0, "ownerIn", "(JI)I"⟩
abbrev cX0_doorIn : ByteArray := prog_2_method_7_code
def yX0_doorIn : MethodName := ⟨RX0, "doorIn", "(JI)I"⟩
abbrev cX0_withStatus : ByteArray := prog_2_method_8_code
def yX0_withStatus : MethodName := ⟨RX0, "withStatus", "(JII)J"⟩
abbrev cX0_afterStep : ByteArray := prog_2_method_9_code
def yX0_afterStep : MethodName := ⟨RX0, "afterStep", "(JIII)J"⟩
abbrev cX0_withPhase : ByteArray := prog_2_method_10_code
def yX0_withPhase : MethodName := ⟨RX0, "withPhase", "(JII)J"⟩
abbrev cX0_withOwner : ByteArray := prog_2_method_11_code
def yX0_withOwner : MethodName := ⟨RX0, "withOwner", "(JII)J"⟩
abbrev cX0_withDoorClosed : ByteArray := prog_2_method_12_code
def yX0_withDoorClosed : MethodName := ⟨RX0, "withDoorClosed", "(JI)J"⟩
abbrev cX0_moved : ByteArray := prog_2_method_13_code
def yX0_moved : MethodName := ⟨RX0, "moved", "(JIII)J"⟩
abbrev cX0_ownerShift : ByteArray := prog_2_method_14_code
def yX0_ownerShift : MethodName := ⟨RX0, "ownerShift", "(I)I"⟩
abbrev cX0_diagonalOf : ByteArray := prog_2_method_15_code
def yX0_diagonalOf : MethodName := ⟨RX0, "diagonalOf", "(I)I"⟩
def RX1 : String := "RenamingGrid$Counts"
def TX1 : u_T := fun k => match k with
  | _ => ("", "", "", false)
def tyX1 : Nat → FieldType := fun k => match k with
  | _ => .int
abbrev wsX10 : List Cond := u_ws RX1 TX1 0
theorem nmX1 : ∀ a, a < 0 → ∀ b, b < 0 → a ≠ b → (TX1 a).2.1 ≠ (TX1 b).2.1 := by decide +kernel
theorem tyX1_ok : ∀ k, k < 0 → parseFieldDescriptor (TX1 k).2.2.1 = some (tyX1 k) := by decide +kernel
abbrev cX1_countIn : ByteArray := prog_3_method_2_code
def yX1_countIn : MethodName := ⟨RX1, "countIn", "(JI)I"⟩
abbrev cX1_withOneMore : ByteArray := prog_3_method_3_code
def yX1_withOneMore : MethodName := ⟨RX1, "withOneMore", "(JI)J"⟩
def RX2 : String := "RenamingGrid$Exploration"
def TX2 : u_T := fun k => match k with
  | 0 => ("RenamingGrid$Exploration", "found", "[J", true)
  | 1 => ("RenamingGrid$Exploration", "parents", "[I", true)
  | 2 => ("RenamingGrid$Exploration", "movers", "[I", true)
  | 3 => ("RenamingGrid$Exploration", "table", "[I", true)
  | 4 => ("RenamingGrid$Exploration", "outcomes", "[J", true)
  | 5 => ("RenamingGrid$Exploration", "count", "I", false)
  | _ => ("RenamingGrid$Exploration", "processes", "I", false)
def tyX2 : Nat → FieldType := fun k => match k with
  | 0 => .array .long
  | 1 => .array .int
  | 2 => .array .int
  | 3 => .array .int
  | 4 => .array .long
  | 5 => .int
  | _ => .int
abbrev wsX20 : List Cond := u_ws RX2 TX2 7
theorem nmX2 : ∀ a, a < 7 → ∀ b, b < 7 → a ≠ b → (TX2 a).2.1 ≠ (TX2 b).2.1 := by decide +kernel
theorem tyX2_ok : ∀ k, k < 7 → parseFieldDescriptor (TX2 k).2.2.1 = some (tyX2 k) := by decide +kernel
abbrev cX2_init : ByteArray := prog_4_method_1_code
def yX2_init : MethodName := ⟨RX2, "<init>", "()V"⟩
abbrev cX2_findAllFrom : ByteArray := prog_4_method_2_code
def yX2_findAllFrom : MethodName := ⟨RX2, "findAllFrom", "(LRenamingGrid$State;)Z"⟩
abbrev cX2_findNext : ByteArray := prog_4_method_3_code
def yX2_findNext : MethodName := ⟨RX2, "findNext", "(ILRenamingGrid$State;)Z"⟩
abbrev cX2_find : ByteArray := prog_4_method_4_code
def yX2_find : MethodName := ⟨RX2, "find", "(JII)Z"⟩
abbrev cX2_keep : ByteArray := prog_4_method_5_code
def yX2_keep : MethodName := ⟨RX2, "keep", "(JII)Z"⟩
abbrev cX2_foundAt : ByteArray := prog_4_method_6_code
def yX2_foundAt : MethodName := ⟨RX2, "foundAt", "(I)J"⟩
abbrev cX2_countFinals : ByteArray := prog_4_method_7_code
def yX2_countFinals : MethodName := ⟨RX2, "countFinals", "()I"⟩
abbrev cX2_countFinalsNamed : ByteArray := prog_4_method_8_code
def yX2_countFinalsNamed : MethodName := ⟨RX2, "countFinalsNamed", "(II)I"⟩
abbrev cX2_countViolations : ByteArray := prog_4_method_9_code
def yX2_countViolations : MethodName := ⟨RX2, "countViolations", "()I"⟩
abbrev cX2_countOutcomes : ByteArray := prog_4_method_10_code
def yX2_countOutcomes : MethodName := ⟨RX2, "countOutcomes", "()I"⟩
abbrev cX2_highestName : ByteArray := prog_4_method_11_code
def yX2_highestName : MethodName := ⟨RX2, "highestName", "()I"⟩
abbrev cX2_depthOf : ByteArray := prog_4_method_12_code
def yX2_depthOf : MethodName := ⟨RX2, "depthOf", "(I)I"⟩
abbrev cX2_moverTowardsViolation : ByteArray := prog_4_method_13_code
def yX2_moverTowardsViolation : MethodName := ⟨RX2, "moverTowardsViolation", "(I)I"⟩
abbrev cX2_firstViolation : ByteArray := prog_4_method_14_code
def yX2_firstViolation : MethodName := ⟨RX2, "firstViolation", "()I"⟩
abbrev cX2_parentOf : ByteArray := prog_4_method_15_code
def yX2_parentOf : MethodName := ⟨RX2, "parentOf", "(I)I"⟩
abbrev cX2_isFinal : ByteArray := prog_4_method_16_code
def yX2_isFinal : MethodName := ⟨RX2, "isFinal", "(J)Z"⟩
abbrev cX2_isViolation : ByteArray := prog_4_method_17_code
def yX2_isViolation : MethodName := ⟨RX2, "isViolation", "(J)Z"⟩
abbrev cX2_outcomeOf : ByteArray := prog_4_method_18_code
def yX2_outcomeOf : MethodName := ⟨RX2, "outcomeOf", "(J)I"⟩
abbrev cX2_markOutcome : ByteArray := prog_4_method_19_code
def yX2_markOutcome : MethodName := ⟨RX2, "markOutcome", "(I)V"⟩
def RX3 : String := "RenamingGrid$Schedule"
def TX3 : u_T := fun k => match k with
  | 0 => ("RenamingGrid$Schedule", "text", "[C", true)
  | 1 => ("RenamingGrid$Schedule", "length", "I", false)
  | 2 => ("RenamingGrid$Schedule", "itemProcesses", "[I", true)
  | 3 => ("RenamingGrid$Schedule", "itemCounts", "[I", true)
  | _ => ("RenamingGrid$Schedule", "items", "I", false)
def tyX3 : Nat → FieldType := fun k => match k with
  | 0 => .array .char
  | 1 => .int
  | 2 => .array .int
  | 3 => .array .int
  | _ => .int
abbrev wsX30 : List Cond := u_ws RX3 TX3 5
theorem nmX3 : ∀ a, a < 5 → ∀ b, b < 5 → a ≠ b → (TX3 a).2.1 ≠ (TX3 b).2.1 := by decide +kernel
theorem tyX3_ok : ∀ k, k < 5 → parseFieldDescriptor (TX3 k).2.2.1 = some (tyX3 k) := by decide +kernel
abbrev cX3_init : ByteArray := prog_5_method_1_code
def yX3_init : MethodName := ⟨RX3, "<init>", "()V"⟩
abbrev cX3_isFull : ByteArray := prog_5_method_2_code
def yX3_isFull : MethodName := ⟨RX3, "isFull", "()Z"⟩
abbrev cX3_add : ByteArray := prog_5_method_3_code
def yX3_add : MethodName := ⟨RX3, "add", "(C)I"⟩
abbrev cX3_clear : ByteArray := prog_5_method_4_code
def yX3_clear : MethodName := ⟨RX3, "clear", "()I"⟩
abbrev cX3_read : ByteArray := prog_5_method_5_code
def yX3_read : MethodName := ⟨RX3, "read", "(I)I"⟩
abbrev cX3_executeOn : ByteArray := prog_5_method_6_code
def yX3_executeOn : MethodName := ⟨RX3, "executeOn", "(LRenamingGrid$State;)I"⟩
abbrev cX3_afterToken : ByteArray := prog_5_method_7_code
def yX3_afterToken : MethodName := ⟨RX3, "afterToken", "(III)I"⟩
abbrev cX3_addItem : ByteArray := prog_5_method_8_code
def yX3_addItem : MethodName := ⟨RX3, "addItem", "(I)Z"⟩
abbrev cX3_setCount : ByteArray := prog_5_method_9_code
def yX3_setCount : MethodName := ⟨RX3, "setCount", "(I)Z"⟩
abbrev cX3_beginsToken : ByteArray := prog_5_method_10_code
def yX3_beginsToken : MethodName := ⟨RX3, "beginsToken", "(I)Z"⟩
abbrev cX3_numberAt : ByteArray := prog_5_method_11_code
def yX3_numberAt : MethodName := ⟨RX3, "numberAt", "(I)I"⟩
abbrev cX3_digitAt : ByteArray := prog_5_method_12_code
def yX3_digitAt : MethodName := ⟨RX3, "digitAt", "(I)I"⟩
abbrev cX3_characterAt : ByteArray := prog_5_method_13_code
def yX3_characterAt : MethodName := ⟨RX3, "characterAt", "(I)I"⟩
def RX4 : String := "RenamingGrid$State"
def TX4 : u_T := fun k => match k with
  | 0 => ("RenamingGrid$State", "size", "I", false)
  | 1 => ("RenamingGrid$State", "processes", "I", false)
  | 2 => ("RenamingGrid$State", "program", "I", false)
  | 3 => ("RenamingGrid$State", "configuration", "J", false)
  | 4 => ("RenamingGrid$State", "stepsMade", "J", false)
  | 5 => ("RenamingGrid$State", "entries", "J", false)
  | 6 => ("RenamingGrid$State", "rightExits", "J", false)
  | _ => ("RenamingGrid$State", "downExits", "J", false)
def tyX4 : Nat → FieldType := fun k => match k with
  | 0 => .int
  | 1 => .int
  | 2 => .int
  | 3 => .long
  | 4 => .long
  | 5 => .long
  | 6 => .long
  | _ => .long
abbrev wsX40 : List Cond := u_ws RX4 TX4 8
theorem nmX4 : ∀ a, a < 8 → ∀ b, b < 8 → a ≠ b → (TX4 a).2.1 ≠ (TX4 b).2.1 := by decide +kernel
theorem tyX4_ok : ∀ k, k < 8 → parseFieldDescriptor (TX4 k).2.2.1 = some (tyX4 k) := by decide +kernel
abbrev cX4_init : ByteArray := prog_6_method_1_code
def yX4_init : MethodName := ⟨RX4, "<init>", "()V"⟩
abbrev cX4_begin : ByteArray := prog_6_method_2_code
def yX4_begin : MethodName := ⟨RX4, "begin", "(III)V"⟩
abbrev cX4_copyFrom : ByteArray := prog_6_method_3_code
def yX4_copyFrom : MethodName := ⟨RX4, "copyFrom", "(LRenamingGrid$State;)V"⟩
abbrev cX4_names : ByteArray := prog_6_method_4_code
def yX4_names : MethodName := ⟨RX4, "names", "()I"⟩
abbrev cX4_hasProcess : ByteArray := prog_6_method_5_code
def yX4_hasProcess : MethodName := ⟨RX4, "hasProcess", "(I)Z"⟩
abbrev cX4_hasSplitter : ByteArray := prog_6_method_6_code
def yX4_hasSplitter : MethodName := ⟨RX4, "hasSplitter", "(I)Z"⟩
abbrev cX4_isRunning : ByteArray := prog_6_method_7_code
def yX4_isRunning : MethodName := ⟨RX4, "isRunning", "(I)Z"⟩
abbrev cX4_countRunning : ByteArray := prog_6_method_8_code
def yX4_countRunning : MethodName := ⟨RX4, "countRunning", "()I"⟩
abbrev cX4_markCrashed : ByteArray := prog_6_method_9_code
def yX4_markCrashed : MethodName := ⟨RX4, "markCrashed", "(I)V"⟩
abbrev cX4_advance : ByteArray := prog_6_method_10_code
def yX4_advance : MethodName := ⟨RX4, "advance", "(I)I"⟩
abbrev cX4_advanceUpTo : ByteArray := prog_6_method_11_code
def yX4_advanceUpTo : MethodName := ⟨RX4, "advanceUpTo", "(II)I"⟩
abbrev cX4_countExit : ByteArray := prog_6_method_12_code
def yX4_countExit : MethodName := ⟨RX4, "countExit", "(IZ)V"⟩
def RX5 : String := "RenamingGrid"
def TX5 : u_T := fun k => match k with
  | 0 => ("RenamingGrid", "present", "LRenamingGrid$State;", true)
  | 1 => ("RenamingGrid", "scratch", "LRenamingGrid$State;", true)
  | 2 => ("RenamingGrid", "saved", "[LRenamingGrid$State;", true)
  | 3 => ("RenamingGrid", "savedCount", "I", false)
  | 4 => ("RenamingGrid", "slots", "[LRenamingGrid$State;", true)
  | 5 => ("RenamingGrid", "schedule", "LRenamingGrid$Schedule;", true)
  | 6 => ("RenamingGrid", "workspace", "LRenamingGrid$Exploration;", false)
  | _ => ("RenamingGrid", "told", "LRenamingGrid$Exploration;", false)
def tyX5 : Nat → FieldType := fun k => match k with
  | 0 => .object "RenamingGrid$State"
  | 1 => .object "RenamingGrid$State"
  | 2 => .array (.object "RenamingGrid$State")
  | 3 => .int
  | 4 => .array (.object "RenamingGrid$State")
  | 5 => .object "RenamingGrid$Schedule"
  | 6 => .object "RenamingGrid$Exploration"
  | _ => .object "RenamingGrid$Exploration"
abbrev wsX50 : List Cond := u_ws RX5 TX5 8
theorem nmX5 : ∀ a, a < 8 → ∀ b, b < 8 → a ≠ b → (TX5 a).2.1 ≠ (TX5 b).2.1 := by decide +kernel
theorem tyX5_ok : ∀ k, k < 8 → parseFieldDescriptor (TX5 k).2.2.1 = some (tyX5 k) := by decide +kernel
abbrev cX5_init : ByteArray := prog_1_method_1_code
def yX5_init : MethodName := ⟨RX5, "<init>", "()V"⟩
abbrev cX5_configure : ByteArray := prog_1_method_2_code
def yX5_configure : MethodName := ⟨RX5, "configure", "(III)I"⟩
abbrev cX5_nameCount : ByteArray := prog_1_method_3_code
def yX5_nameCount : MethodName := ⟨RX5, "nameCount", "()I"⟩
abbrev cX5_processCount : ByteArray := prog_1_method_4_code
def yX5_processCount : MethodName := ⟨RX5, "processCount", "()I"⟩
abbrev cX5_step : ByteArray := prog_1_method_5_code
def yX5_step : MethodName := ⟨RX5, "step", "(I)I"⟩
abbrev cX5_crash : ByteArray := prog_1_method_6_code
def yX5_crash : MethodName := ⟨RX5, "crash", "(I)I"⟩
abbrev cX5_append : ByteArray := prog_1_method_7_code
def yX5_append : MethodName := ⟨RX5, "append", "(I)I"⟩
abbrev cX5_clearText : ByteArray := prog_1_method_8_code
def yX5_clearText : MethodName := ⟨RX5, "clearText", "()I"⟩
abbrev cX5_runText : ByteArray := prog_1_method_9_code
def yX5_runText : MethodName := ⟨RX5, "runText", "()I"⟩
abbrev cX5_status : ByteArray := prog_1_method_10_code
def yX5_status : MethodName := ⟨RX5, "status", "(I)I"⟩
abbrev cX5_splitterOf : ByteArray := prog_1_method_11_code
def yX5_splitterOf : MethodName := ⟨RX5, "splitterOf", "(I)I"⟩
abbrev cX5_phaseOf : ByteArray := prog_1_method_12_code
def yX5_phaseOf : MethodName := ⟨RX5, "phaseOf", "(I)I"⟩
abbrev cX5_stepsOf : ByteArray := prog_1_method_13_code
def yX5_stepsOf : MethodName := ⟨RX5, "stepsOf", "(I)I"⟩
abbrev cX5_soloSteps : ByteArray := prog_1_method_14_code
def yX5_soloSteps : MethodName := ⟨RX5, "soloSteps", "(I)I"⟩
abbrev cX5_soloName : ByteArray := prog_1_method_15_code
def yX5_soloName : MethodName := ⟨RX5, "soloName", "(I)I"⟩
abbrev cX5_owner : ByteArray := prog_1_method_16_code
def yX5_owner : MethodName := ⟨RX5, "owner", "(I)I"⟩
abbrev cX5_door : ByteArray := prog_1_method_17_code
def yX5_door : MethodName := ⟨RX5, "door", "(I)I"⟩
abbrev cX5_entered : ByteArray := prog_1_method_18_code
def yX5_entered : MethodName := ⟨RX5, "entered", "(I)I"⟩
abbrev cX5_left : ByteArray := prog_1_method_19_code
def yX5_left : MethodName := ⟨RX5, "left", "(II)I"⟩
abbrev cX5_explore : ByteArray := prog_1_method_20_code
def yX5_explore : MethodName := ⟨RX5, "explore", "()I"⟩
abbrev cX5_finalCount : ByteArray := prog_1_method_21_code
def yX5_finalCount : MethodName := ⟨RX5, "finalCount", "()I"⟩
abbrev cX5_violationCount : ByteArray := prog_1_method_22_code
def yX5_violationCount : MethodName := ⟨RX5, "violationCount", "()I"⟩
abbrev cX5_violationStep : ByteArray := prog_1_method_23_code
def yX5_violationStep : MethodName := ⟨RX5, "violationStep", "(I)I"⟩
abbrev cX5_greatestDepth : ByteArray := prog_1_method_24_code
def yX5_greatestDepth : MethodName := ⟨RX5, "greatestDepth", "()I"⟩
abbrev cX5_greatestName : ByteArray := prog_1_method_25_code
def yX5_greatestName : MethodName := ⟨RX5, "greatestName", "()I"⟩
abbrev cX5_outcomeCount : ByteArray := prog_1_method_26_code
def yX5_outcomeCount : MethodName := ⟨RX5, "outcomeCount", "()I"⟩
abbrev cX5_finalsWith : ByteArray := prog_1_method_27_code
def yX5_finalsWith : MethodName := ⟨RX5, "finalsWith", "(II)I"⟩
abbrev cX5_undo : ByteArray := prog_1_method_28_code
def yX5_undo : MethodName := ⟨RX5, "undo", "()I"⟩
abbrev cX5_save : ByteArray := prog_1_method_29_code
def yX5_save : MethodName := ⟨RX5, "save", "(I)I"⟩
abbrev cX5_restore : ByteArray := prog_1_method_30_code
def yX5_restore : MethodName := ⟨RX5, "restore", "(I)I"⟩
abbrev cX5_prepareChange : ByteArray := prog_1_method_31_code
def yX5_prepareChange : MethodName := ⟨RX5, "prepareChange", "()V"⟩
abbrev cX5_discardOldestSaved : ByteArray := prog_1_method_32_code
def yX5_discardOldestSaved : MethodName := ⟨RX5, "discardOldestSaved", "()V"⟩
def RX6 : String := "RenamingGridModel"
def TX6 : u_T := fun k => match k with
  | 0 => ("RenamingGridModel", "thrown", "I", false)
  | 1 => ("RenamingGridModel", "s", "[I", true)
  | 2 => ("RenamingGridModel", "history", "[I", true)
  | 3 => ("RenamingGridModel", "depth", "I", false)
  | 4 => ("RenamingGridModel", "slots", "[I", true)
  | 5 => ("RenamingGridModel", "isSaved", "[Z", true)
  | 6 => ("RenamingGridModel", "text", "[I", true)
  | 7 => ("RenamingGridModel", "length", "I", false)
  | 8 => ("RenamingGridModel", "registers", "I", false)
  | 9 => ("RenamingGridModel", "processes", "I", false)
  | 10 => ("RenamingGridModel", "leftSplitter", "I", false)
  | 11 => ("RenamingGridModel", "wentRight", "Z", false)
  | 12 => ("RenamingGridModel", "next", "I", false)
  | 13 => ("RenamingGridModel", "start", "I", false)
  | 14 => ("RenamingGridModel", "token", "I", false)
  | 15 => ("RenamingGridModel", "value", "I", false)
  | 16 => ("RenamingGridModel", "error", "I", false)
  | 17 => ("RenamingGridModel", "registersOf", "[I", true)
  | 18 => ("RenamingGridModel", "processesOf", "[I", true)
  | 19 => ("RenamingGridModel", "depthOf", "[I", true)
  | 20 => ("RenamingGridModel", "parentOf", "[I", true)
  | 21 => ("RenamingGridModel", "byOf", "[I", true)
  | 22 => ("RenamingGridModel", "count", "I", false)
  | 23 => ("RenamingGridModel", "table", "[I", true)
  | 24 => ("RenamingGridModel", "isExplored", "Z", false)
  | 25 => ("RenamingGridModel", "finals", "I", false)
  | 26 => ("RenamingGridModel", "violations", "I", false)
  | 27 => ("RenamingGridModel", "deepest", "I", false)
  | 28 => ("RenamingGridModel", "greatest", "I", false)
  | 29 => ("RenamingGridModel", "outcomes", "I", false)
  | 30 => ("RenamingGridModel", "finalsBy", "[I", true)
  | 31 => ("RenamingGridModel", "path", "[I", true)
  | 32 => ("RenamingGridModel", "pathLength", "I", false)
  | _ => ("RenamingGridModel", "isOutcome", "[Z", true)
def tyX6 : Nat → FieldType := fun k => match k with
  | 0 => .int
  | 1 => .array .int
  | 2 => .array .int
  | 3 => .int
  | 4 => .array .int
  | 5 => .array .boolean
  | 6 => .array .int
  | 7 => .int
  | 8 => .int
  | 9 => .int
  | 10 => .int
  | 11 => .boolean
  | 12 => .int
  | 13 => .int
  | 14 => .int
  | 15 => .int
  | 16 => .int
  | 17 => .array .int
  | 18 => .array .int
  | 19 => .array .int
  | 20 => .array .int
  | 21 => .array .int
  | 22 => .int
  | 23 => .array .int
  | 24 => .boolean
  | 25 => .int
  | 26 => .int
  | 27 => .int
  | 28 => .int
  | 29 => .int
  | 30 => .array .int
  | 31 => .array .int
  | 32 => .int
  | _ => .array .boolean
abbrev wsX60 : List Cond := u_ws RX6 TX6 34
theorem nmX6 : ∀ a, a < 34 → ∀ b, b < 34 → a ≠ b → (TX6 a).2.1 ≠ (TX6 b).2.1 := by decide +kernel
theorem tyX6_ok : ∀ k, k < 34 → parseFieldDescriptor (TX6 k).2.2.1 = some (tyX6 k) := by decide +kernel
abbrev cX6_init : ByteArray := prog_8_method_1_code
def yX6_init : MethodName := ⟨RX6, "<init>", "()V"⟩
abbrev cX6_in : ByteArray := prog_8_method_3_code
def yX6_in : MethodName := ⟨RX6, "in", "(III)Z"⟩
abbrev cX6_statusIn : ByteArray := prog_8_method_4_code
def yX6_statusIn : MethodName := ⟨RX6, "statusIn", "(I)I"⟩
abbrev cX6_splitterIn : ByteArray := prog_8_method_5_code
def yX6_splitterIn : MethodName := ⟨RX6, "splitterIn", "(I)I"⟩
abbrev cX6_phaseIn : ByteArray := prog_8_method_6_code
def yX6_phaseIn : MethodName := ⟨RX6, "phaseIn", "(I)I"⟩
abbrev cX6_setProcess : ByteArray := prog_8_method_7_code
def yX6_setProcess : MethodName := ⟨RX6, "setProcess", "(IIII)V"⟩
abbrev cX6_ownerIn : ByteArray := prog_8_method_8_code
def yX6_ownerIn : MethodName := ⟨RX6, "ownerIn", "(I)I"⟩
abbrev cX6_doorIn : ByteArray := prog_8_method_9_code
def yX6_doorIn : MethodName := ⟨RX6, "doorIn", "(I)I"⟩
abbrev cX6_diagonal : ByteArray := prog_8_method_10_code
def yX6_diagonal : MethodName := ⟨RX6, "diagonal", "(I)I"⟩
abbrev cX6_move : ByteArray := prog_8_method_11_code
def yX6_move : MethodName := ⟨RX6, "move", "(IZ)I"⟩
abbrev cX6_proceed : ByteArray := prog_8_method_12_code
def yX6_proceed : MethodName := ⟨RX6, "proceed", "(II)I"⟩
abbrev cX6_becomeNamed : ByteArray := prog_8_method_13_code
def yX6_becomeNamed : MethodName := ⟨RX6, "becomeNamed", "(I)I"⟩
abbrev cX6_closeDoor : ByteArray := prog_8_method_14_code
def yX6_closeDoor : MethodName := ⟨RX6, "closeDoor", "(I)I"⟩
abbrev cX6_stepOf : ByteArray := prog_8_method_15_code
def yX6_stepOf : MethodName := ⟨RX6, "stepOf", "(I)I"⟩
abbrev cX6_take : ByteArray := prog_8_method_16_code
def yX6_take : MethodName := ⟨RX6, "take", "()V"⟩
abbrev cX6_keep : ByteArray := prog_8_method_17_code
def yX6_keep : MethodName := ⟨RX6, "keep", "()V"⟩
abbrev cX6_begin : ByteArray := prog_8_method_18_code
def yX6_begin : MethodName := ⟨RX6, "begin", "(III)V"⟩
abbrev cX6_names : ByteArray := prog_8_method_19_code
def yX6_names : MethodName := ⟨RX6, "names", "()I"⟩
abbrev cX6_configure : ByteArray := prog_8_method_20_code
def yX6_configure : MethodName := ⟨RX6, "configure", "(III)I"⟩
abbrev cX6_nameCount : ByteArray := prog_8_method_21_code
def yX6_nameCount : MethodName := ⟨RX6, "nameCount", "()I"⟩
abbrev cX6_processCount : ByteArray := prog_8_method_22_code
def yX6_processCount : MethodName := ⟨RX6, "processCount", "()I"⟩
abbrev cX6_isProcess : ByteArray := prog_8_method_23_code
def yX6_isProcess : MethodName := ⟨RX6, "isProcess", "(I)Z"⟩
abbrev cX6_running : ByteArray := prog_8_method_24_code
def yX6_running : MethodName := ⟨RX6, "running", "()I"⟩
abbrev cX6_make : ByteArray := prog_8_method_25_code
def yX6_make : MethodName := ⟨RX6, "make", "(I)I"⟩
abbrev cX6_step : ByteArray := prog_8_method_26_code
def yX6_step : MethodName := ⟨RX6, "step", "(I)I"⟩
abbrev cX6_crash : ByteArray := prog_8_method_27_code
def yX6_crash : MethodName := ⟨RX6, "crash", "(I)I"⟩
abbrev cX6_characterAt : ByteArray := prog_8_method_28_code
def yX6_characterAt : MethodName := ⟨RX6, "characterAt", "(I)I"⟩
abbrev cX6_advance : ByteArray := prog_8_method_29_code
def yX6_advance : MethodName := ⟨RX6, "advance", "()V"⟩
abbrev cX6_isSign : ByteArray := prog_8_method_30_code
def yX6_isSign : MethodName := ⟨RX6, "isSign", "(I)Z"⟩
abbrev cX6_accept : ByteArray := prog_8_method_31_code
def yX6_accept : MethodName := ⟨RX6, "accept", "(Z)I"⟩
abbrev cX6_read : ByteArray := prog_8_method_32_code
def yX6_read : MethodName := ⟨RX6, "read", "(Z)I"⟩
abbrev cX6_execute : ByteArray := prog_8_method_33_code
def yX6_execute : MethodName := ⟨RX6, "execute", "(II)I"⟩
abbrev cX6_append : ByteArray := prog_8_method_34_code
def yX6_append : MethodName := ⟨RX6, "append", "(I)I"⟩
abbrev cX6_clearText : ByteArray := prog_8_method_35_code
def yX6_clearText : MethodName := ⟨RX6, "clearText", "()I"⟩
abbrev cX6_runText : ByteArray := prog_8_method_36_code
def yX6_runText : MethodName := ⟨RX6, "runText", "()I"⟩
abbrev cX6_status : ByteArray := prog_8_method_37_code
def yX6_status : MethodName := ⟨RX6, "status", "(I)I"⟩
abbrev cX6_splitterOf : ByteArray := prog_8_method_38_code
def yX6_splitterOf : MethodName := ⟨RX6, "splitterOf", "(I)I"⟩
abbrev cX6_phaseOf : ByteArray := prog_8_method_39_code
def yX6_phaseOf : MethodName := ⟨RX6, "phaseOf", "(I)I"⟩
abbrev cX6_stepsOf : ByteArray := prog_8_method_40_code
def yX6_stepsOf : MethodName := ⟨RX6, "stepsOf", "(I)I"⟩
abbrev cX6_runAlone : ByteArray := prog_8_method_41_code
def yX6_runAlone : MethodName := ⟨RX6, "runAlone", "(I)I"⟩
abbrev cX6_soloSteps : ByteArray := prog_8_method_42_code
def yX6_soloSteps : MethodName := ⟨RX6, "soloSteps", "(I)I"⟩
abbrev cX6_soloName : ByteArray := prog_8_method_43_code
def yX6_soloName : MethodName := ⟨RX6, "soloName", "(I)I"⟩
abbrev cX6_isSplitter : ByteArray := prog_8_method_44_code
def yX6_isSplitter : MethodName := ⟨RX6, "isSplitter", "(I)Z"⟩
abbrev cX6_owner : ByteArray := prog_8_method_45_code
def yX6_owner : MethodName := ⟨RX6, "owner", "(I)I"⟩
abbrev cX6_door : ByteArray := prog_8_method_46_code
def yX6_door : MethodName := ⟨RX6, "door", "(I)I"⟩
abbrev cX6_entered : ByteArray := prog_8_method_47_code
def yX6_entered : MethodName := ⟨RX6, "entered", "(I)I"⟩
abbrev cX6_left : ByteArray := prog_8_method_48_code
def yX6_left : MethodName := ⟨RX6, "left", "(II)I"⟩
abbrev cX6_found : ByteArray := prog_8_method_49_code
def yX6_found : MethodName := ⟨RX6, "found", "(II)V"⟩
abbrev cX6_findAll : ByteArray := prog_8_method_50_code
def yX6_findAll : MethodName := ⟨RX6, "findAll", "()V"⟩
abbrev cX6_isFinal : ByteArray := prog_8_method_51_code
def yX6_isFinal : MethodName := ⟨RX6, "isFinal", "()Z"⟩
abbrev cX6_isViolation : ByteArray := prog_8_method_52_code
def yX6_isViolation : MethodName := ⟨RX6, "isViolation", "()Z"⟩
abbrev cX6_noteFinal : ByteArray := prog_8_method_53_code
def yX6_noteFinal : MethodName := ⟨RX6, "noteFinal", "()V"⟩
abbrev cX6_notePath : ByteArray := prog_8_method_54_code
def yX6_notePath : MethodName := ⟨RX6, "notePath", "(I)V"⟩
abbrev cX6_note : ByteArray := prog_8_method_55_code
def yX6_note : MethodName := ⟨RX6, "note", "(I)V"⟩
abbrev cX6_explore : ByteArray := prog_8_method_56_code
def yX6_explore : MethodName := ⟨RX6, "explore", "()I"⟩
abbrev cX6_finalCount : ByteArray := prog_8_method_57_code
def yX6_finalCount : MethodName := ⟨RX6, "finalCount", "()I"⟩
abbrev cX6_violationCount : ByteArray := prog_8_method_58_code
def yX6_violationCount : MethodName := ⟨RX6, "violationCount", "()I"⟩
abbrev cX6_violationStep : ByteArray := prog_8_method_59_code
def yX6_violationStep : MethodName := ⟨RX6, "violationStep", "(I)I"⟩
abbrev cX6_greatestDepth : ByteArray := prog_8_method_60_code
def yX6_greatestDepth : MethodName := ⟨RX6, "greatestDepth", "()I"⟩
abbrev cX6_greatestName : ByteArray := prog_8_method_61_code
def yX6_greatestName : MethodName := ⟨RX6, "greatestName", "()I"⟩
abbrev cX6_outcomeCount : ByteArray := prog_8_method_62_code
def yX6_outcomeCount : MethodName := ⟨RX6, "outcomeCount", "()I"⟩
abbrev cX6_finalsWith : ByteArray := prog_8_method_63_code
def yX6_finalsWith : MethodName := ⟨RX6, "finalsWith", "(II)I"⟩
abbrev cX6_undo : ByteArray := prog_8_method_64_code
def yX6_undo : MethodName := ⟨RX6, "undo", "()I"⟩
abbrev cX6_save : ByteArray := prog_8_method_65_code
def yX6_save : MethodName := ⟨RX6, "save", "(I)I"⟩
abbrev cX6_restore : ByteArray := prog_8_method_66_code
def yX6_restore : MethodName := ⟨RX6, "restore", "(I)I"⟩
def RJ13 : String := "java/lang/Long"
def TJ13 : u_T := fun k => match k with
  | _ => ("", "", "", false)
def tyJ13 : Nat → FieldType := fun k => match k with
  | _ => .int
abbrev wsJ130 : List Cond := u_ws RJ13 TJ13 0
theorem nmJ13 : ∀ a, a < 0 → ∀ b, b < 0 → a ≠ b → (TJ13 a).2.1 ≠ (TJ13 b).2.1 := by decide +kernel
theorem tyJ13_ok : ∀ k, k < 0 → parseFieldDescriptor (TJ13 k).2.2.1 = some (tyJ13 k) := by decide +kernel
abbrev cJ13_bitCount_95d88 : ByteArray := prog_9_method_50_code
def yJ13_bitCount_95d88 : MethodName := ⟨RJ13, "bitCount", "(J)I"⟩
def RJ9 : String := "java/lang/Math"
def TJ9 : u_T := fun k => match k with
  | _ => ("", "", "", false)
def tyJ9 : Nat → FieldType := fun k => match k with
  | _ => .int
abbrev wsJ90 : List Cond := u_ws RJ9 TJ9 0
theorem nmJ9 : ∀ a, a < 0 → ∀ b, b < 0 → a ≠ b → (TJ9 a).2.1 ≠ (TJ9 b).2.1 := by decide +kernel
theorem tyJ9_ok : ∀ k, k < 0 → parseFieldDescriptor (TJ9 k).2.2.1 = some (tyJ9 k) := by decide +kernel
abbrev cJ9_max_7cf53 : ByteArray := prog_10_method_65_code
def yJ9_max_7cf53 : MethodName := ⟨RJ9, "max", "(II)I"⟩
def RJ7 : String := "java/util/Arrays"
def TJ7 : u_T := fun k => match k with
  | _ => ("", "", "", false)
def tyJ7 : Nat → FieldType := fun k => match k with
  | _ => .int
abbrev wsJ70 : List Cond := u_ws RJ7 TJ7 0
theorem nmJ7 : ∀ a, a < 0 → ∀ b, b < 0 → a ≠ b → (TJ7 a).2.1 ≠ (TJ7 b).2.1 := by decide +kernel
theorem tyJ7_ok : ∀ k, k < 0 → parseFieldDescriptor (TJ7 k).2.2.1 = some (tyJ7 k) := by decide +kernel
abbrev cJ7_fill_d0a16 : ByteArray := prog_11_method_101_code
def yJ7_fill_d0a16 : MethodName := ⟨RJ7, "fill", "([JJ)V"⟩
abbrev cJ7_fill_53178 : ByteArray := prog_11_method_103_code
def yJ7_fill_53178 : MethodName := ⟨RJ7, "fill", "([II)V"⟩
def RL : String := "RenamingGridLaw"
abbrev cL_law : ByteArray := code
def yL_law : MethodName := ⟨RL, "law", "([I)Z"⟩
def wsX0_statusIn : List Cond := .code yX0_statusIn cX0_statusIn 3 (some .int) :: ([])
def wsX0_phaseIn : List Cond := .code yX0_phaseIn cX0_phaseIn 3 (some .int) :: ([])
def wsX0_splitterIn : List Cond := .code yX0_splitterIn cX0_splitterIn 3 (some .int) :: ([])
def wsX0_nameIn : List Cond := .code yX0_nameIn cX0_nameIn 3 (some .int) :: ([.methodLink RX0 11 yX0_statusIn, .static yX0_statusIn, .initialized RX0, .code yX0_statusIn cX0_statusIn 3 (some .int), .methodLink RX0 15 yX0_splitterIn, .static yX0_splitterIn, .code yX0_splitterIn cX0_splitterIn 3 (some .int)])
def wsX0_ownerShift : List Cond := .code yX0_ownerShift cX0_ownerShift 1 (some .int) :: ([])
def wsX0_ownerIn : List Cond := .code yX0_ownerIn cX0_ownerIn 4 (some .int) :: ([.methodLink RX0 18 yX0_ownerShift, .static yX0_ownerShift, .initialized RX0, .code yX0_ownerShift cX0_ownerShift 1 (some .int)])
def wsX0_doorIn : List Cond := .code yX0_doorIn cX0_doorIn 3 (some .int) :: ([.methodLink RX0 18 yX0_ownerShift, .static yX0_ownerShift, .initialized RX0, .code yX0_ownerShift cX0_ownerShift 1 (some .int)])
def wsX0_withStatus : List Cond := .code yX0_withStatus cX0_withStatus 5 (some .long) :: ([.constantLong RX0 22 (3), .constantLong RX0 24 (-1)])
def wsX0_withOwner : List Cond := .code yX0_withOwner cX0_withOwner 5 (some .long) :: ([.constantLong RX0 22 (3), .constantLong RX0 24 (-1), .methodLink RX0 18 yX0_ownerShift, .static yX0_ownerShift, .initialized RX0, .code yX0_ownerShift cX0_ownerShift 1 (some .int)])
def wsX0_withPhase : List Cond := .code yX0_withPhase cX0_withPhase 5 (some .long) :: ([.constantLong RX0 22 (3), .constantLong RX0 24 (-1)])
def wsX0_diagonalOf : List Cond := .code yX0_diagonalOf cX0_diagonalOf 1 (some .int) :: ([])
def wsX0_moved : List Cond := .code yX0_moved cX0_moved 12 (some .long) :: ([.constantLong RX0 53 (255), .constantLong RX0 24 (-1), .constantLong RX0 58 (2), .methodLink RX0 15 yX0_splitterIn, .static yX0_splitterIn, .initialized RX0, .code yX0_splitterIn cX0_splitterIn 3 (some .int), .methodLink RX0 55 yX0_diagonalOf, .static yX0_diagonalOf, .code yX0_diagonalOf cX0_diagonalOf 1 (some .int)])
def wsX0_withDoorClosed : List Cond := .code yX0_withDoorClosed cX0_withDoorClosed 3 (some .long) :: ([.methodLink RX0 18 yX0_ownerShift, .static yX0_ownerShift, .initialized RX0, .code yX0_ownerShift cX0_ownerShift 1 (some .int)])
def wsX0_afterStep_r1 : List Cond := [Cond.methodLink RX0 15 yX0_splitterIn, Cond.static yX0_splitterIn, Cond.initialized RX0, Cond.code yX0_splitterIn cX0_splitterIn 3 (some .int), Cond.methodLink RX0 26 yX0_phaseIn, Cond.static yX0_phaseIn, Cond.code yX0_phaseIn cX0_phaseIn 3 (some .int), Cond.methodLink RX0 29 yX0_withOwner, Cond.static yX0_withOwner, Cond.code yX0_withOwner cX0_withOwner 5 (some .long), Cond.constantLong RX0 22 (3), Cond.constantLong RX0 24 (-1), Cond.methodLink RX0 18 yX0_ownerShift, Cond.static yX0_ownerShift, Cond.code yX0_ownerShift cX0_ownerShift 1 (some .int), Cond.methodLink RX0 33 yX0_withPhase, Cond.static yX0_withPhase, Cond.code yX0_withPhase cX0_withPhase 5 (some .long), Cond.methodLink RX0 36 yX0_doorIn, Cond.static yX0_doorIn, Cond.code yX0_doorIn cX0_doorIn 3 (some .int), Cond.methodLink RX0 39 yX0_moved, Cond.static yX0_moved, Cond.code yX0_moved cX0_moved 12 (some .long)]
def wsX0_afterStep_r2 : List Cond := [Cond.constantLong RX0 53 (255), Cond.constantLong RX0 58 (2), Cond.methodLink RX0 55 yX0_diagonalOf, Cond.static yX0_diagonalOf, Cond.code yX0_diagonalOf cX0_diagonalOf 1 (some .int), Cond.methodLink RX0 43 yX0_ownerIn, Cond.static yX0_ownerIn, Cond.code yX0_ownerIn cX0_ownerIn 4 (some .int), Cond.methodLink RX0 46 yX0_withDoorClosed, Cond.static yX0_withDoorClosed, Cond.code yX0_withDoorClosed cX0_withDoorClosed 3 (some .long), Cond.methodLink RX0 50 yX0_withStatus, Cond.static yX0_withStatus, Cond.code yX0_withStatus cX0_withStatus 5 (some .long)]
def wsX0_afterStep : List Cond := .code yX0_afterStep cX0_afterStep 10 (some .long) :: ((wsX0_afterStep_r1 ++ wsX0_afterStep_r2))
def wsX1_countIn : List Cond := .code yX1_countIn cX1_countIn 3 (some .int) :: ([])
def wsX1_withOneMore : List Cond := .code yX1_withOneMore cX1_withOneMore 3 (some .long) :: ([])
def wsX2_init : List Cond := .code yX2_init cX2_init 1 none :: ([.methodLink RX2 3 objectInit, .instanceMethod objectInit, .code objectInit ⟨#[0xb1]⟩ 1 none, .arrayClass .long, .fieldLink RX2 11 "RenamingGrid$Exploration" "found" "[J", .arrayClass .int, .fieldLink RX2 15 "RenamingGrid$Exploration" "parents" "[I", .fieldLink RX2 19 "RenamingGrid$Exploration" "movers" "[I", .fieldLink RX2 22 "RenamingGrid$Exploration" "table" "[I", .fieldLink RX2 25 "RenamingGrid$Exploration" "outcomes" "[J"] ++ wsX20)
def wsJ7_fill_53178 : List Cond := .code yJ7_fill_53178 cJ7_fill_53178 4 none :: ([])
def wsX2_keep : List Cond := .code yX2_keep cX2_keep 5 (some .boolean) :: ([.fieldLink RX2 34 "RenamingGrid$Exploration" "count" "I", .fieldLink RX2 11 "RenamingGrid$Exploration" "found" "[J", .fieldLink RX2 15 "RenamingGrid$Exploration" "parents" "[I", .fieldLink RX2 19 "RenamingGrid$Exploration" "movers" "[I"] ++ wsX20)
def wsX2_foundAt : List Cond := .code yX2_foundAt cX2_foundAt 2 (some .long) :: ([.fieldLink RX2 11 "RenamingGrid$Exploration" "found" "[J"] ++ wsX20)
def wsX2_find : List Cond := .code yX2_find cX2_find 9 (some .boolean) :: ([.constantLong RX2 76 (-7046029254386353131), .fieldLink RX2 22 "RenamingGrid$Exploration" "table" "[I", .fieldLink RX2 34 "RenamingGrid$Exploration" "count" "I", .methodLink RX2 78 yX2_keep, .instanceMethod yX2_keep, .selects RX2 yX2_keep yX2_keep, .initialized RX2, .code yX2_keep cX2_keep 5 (some .boolean), .fieldLink RX2 11 "RenamingGrid$Exploration" "found" "[J", .fieldLink RX2 15 "RenamingGrid$Exploration" "parents" "[I", .fieldLink RX2 19 "RenamingGrid$Exploration" "movers" "[I", .methodLink RX2 56 yX2_foundAt, .instanceMethod yX2_foundAt, .selects RX2 yX2_foundAt yX2_foundAt, .code yX2_foundAt cX2_foundAt 2 (some .long)] ++ wsX20)
def wsX2_findNext_r1 : List Cond := [Cond.fieldLink RX2 43 "RenamingGrid$Exploration" "processes" "I", Cond.methodLink RX2 56 yX2_foundAt, Cond.instanceMethod yX2_foundAt, Cond.selects RX2 yX2_foundAt yX2_foundAt, Cond.initialized RX2, Cond.code yX2_foundAt cX2_foundAt 2 (some .long), Cond.fieldLink RX2 11 "RenamingGrid$Exploration" "found" "[J", Cond.methodLink RX2 60 yX0_statusIn, Cond.static yX0_statusIn, Cond.initialized RX0, Cond.code yX0_statusIn cX0_statusIn 3 (some .int), Cond.methodLink RX2 72 yX0_afterStep, Cond.static yX0_afterStep, Cond.code yX0_afterStep cX0_afterStep 10 (some .long), Cond.methodLink RX0 15 yX0_splitterIn, Cond.static yX0_splitterIn, Cond.code yX0_splitterIn cX0_splitterIn 3 (some .int), Cond.methodLink RX0 26 yX0_phaseIn, Cond.static yX0_phaseIn, Cond.code yX0_phaseIn cX0_phaseIn 3 (some .int), Cond.methodLink RX0 29 yX0_withOwner, Cond.static yX0_withOwner, Cond.code yX0_withOwner cX0_withOwner 5 (some .long), Cond.constantLong RX0 22 (3)]
def wsX2_findNext_r2 : List Cond := [Cond.constantLong RX0 24 (-1), Cond.methodLink RX0 18 yX0_ownerShift, Cond.static yX0_ownerShift, Cond.code yX0_ownerShift cX0_ownerShift 1 (some .int), Cond.methodLink RX0 33 yX0_withPhase, Cond.static yX0_withPhase, Cond.code yX0_withPhase cX0_withPhase 5 (some .long), Cond.methodLink RX0 36 yX0_doorIn, Cond.static yX0_doorIn, Cond.code yX0_doorIn cX0_doorIn 3 (some .int), Cond.methodLink RX0 39 yX0_moved, Cond.static yX0_moved, Cond.code yX0_moved cX0_moved 12 (some .long), Cond.constantLong RX0 53 (255), Cond.constantLong RX0 58 (2), Cond.methodLink RX0 55 yX0_diagonalOf, Cond.static yX0_diagonalOf, Cond.code yX0_diagonalOf cX0_diagonalOf 1 (some .int), Cond.methodLink RX0 43 yX0_ownerIn, Cond.static yX0_ownerIn, Cond.code yX0_ownerIn cX0_ownerIn 4 (some .int), Cond.methodLink RX0 46 yX0_withDoorClosed, Cond.static yX0_withDoorClosed, Cond.code yX0_withDoorClosed cX0_withDoorClosed 3 (some .long)]
def wsX2_findNext_r3 : List Cond := [Cond.methodLink RX0 50 yX0_withStatus, Cond.static yX0_withStatus, Cond.code yX0_withStatus cX0_withStatus 5 (some .long), Cond.methodLink RX2 48 yX2_find, Cond.instanceMethod yX2_find, Cond.selects RX2 yX2_find yX2_find, Cond.code yX2_find cX2_find 9 (some .boolean), Cond.constantLong RX2 76 (-7046029254386353131), Cond.fieldLink RX2 22 "RenamingGrid$Exploration" "table" "[I", Cond.fieldLink RX2 34 "RenamingGrid$Exploration" "count" "I", Cond.methodLink RX2 78 yX2_keep, Cond.instanceMethod yX2_keep, Cond.selects RX2 yX2_keep yX2_keep, Cond.code yX2_keep cX2_keep 5 (some .boolean), Cond.fieldLink RX2 15 "RenamingGrid$Exploration" "parents" "[I", Cond.fieldLink RX2 19 "RenamingGrid$Exploration" "movers" "[I"]
def wsX2_findNext : List Cond := .code yX2_findNext cX2_findNext 8 (some .boolean) :: ((wsX2_findNext_r1 ++ (wsX2_findNext_r2 ++ wsX2_findNext_r3)) ++ wsX20 ++ wsX40)
def wsX2_findAllFrom_r1 : List Cond := [Cond.fieldLink RX2 22 "RenamingGrid$Exploration" "table" "[I", Cond.fieldLink RX2 34 "RenamingGrid$Exploration" "count" "I", Cond.fieldLink RX2 43 "RenamingGrid$Exploration" "processes" "I", Cond.methodLink RX2 28 yJ7_fill_53178, Cond.static yJ7_fill_53178, Cond.initialized RJ7, Cond.code yJ7_fill_53178 cJ7_fill_53178 4 none, Cond.methodLink RX2 48 yX2_find, Cond.instanceMethod yX2_find, Cond.selects RX2 yX2_find yX2_find, Cond.initialized RX2, Cond.code yX2_find cX2_find 9 (some .boolean), Cond.constantLong RX2 76 (-7046029254386353131), Cond.methodLink RX2 78 yX2_keep, Cond.instanceMethod yX2_keep, Cond.selects RX2 yX2_keep yX2_keep, Cond.code yX2_keep cX2_keep 5 (some .boolean), Cond.fieldLink RX2 11 "RenamingGrid$Exploration" "found" "[J", Cond.fieldLink RX2 15 "RenamingGrid$Exploration" "parents" "[I", Cond.fieldLink RX2 19 "RenamingGrid$Exploration" "movers" "[I", Cond.methodLink RX2 56 yX2_foundAt, Cond.instanceMethod yX2_foundAt, Cond.selects RX2 yX2_foundAt yX2_foundAt, Cond.code yX2_foundAt cX2_foundAt 2 (some .long)]
def wsX2_findAllFrom_r2 : List Cond := [Cond.methodLink RX2 52 yX2_findNext, Cond.instanceMethod yX2_findNext, Cond.selects RX2 yX2_findNext yX2_findNext, Cond.code yX2_findNext cX2_findNext 8 (some .boolean), Cond.methodLink RX2 60 yX0_statusIn, Cond.static yX0_statusIn, Cond.initialized RX0, Cond.code yX0_statusIn cX0_statusIn 3 (some .int), Cond.methodLink RX2 72 yX0_afterStep, Cond.static yX0_afterStep, Cond.code yX0_afterStep cX0_afterStep 10 (some .long), Cond.methodLink RX0 15 yX0_splitterIn, Cond.static yX0_splitterIn, Cond.code yX0_splitterIn cX0_splitterIn 3 (some .int), Cond.methodLink RX0 26 yX0_phaseIn, Cond.static yX0_phaseIn, Cond.code yX0_phaseIn cX0_phaseIn 3 (some .int), Cond.methodLink RX0 29 yX0_withOwner, Cond.static yX0_withOwner, Cond.code yX0_withOwner cX0_withOwner 5 (some .long), Cond.constantLong RX0 22 (3), Cond.constantLong RX0 24 (-1), Cond.methodLink RX0 18 yX0_ownerShift, Cond.static yX0_ownerShift]
def wsX2_findAllFrom_r3 : List Cond := [Cond.code yX0_ownerShift cX0_ownerShift 1 (some .int), Cond.methodLink RX0 33 yX0_withPhase, Cond.static yX0_withPhase, Cond.code yX0_withPhase cX0_withPhase 5 (some .long), Cond.methodLink RX0 36 yX0_doorIn, Cond.static yX0_doorIn, Cond.code yX0_doorIn cX0_doorIn 3 (some .int), Cond.methodLink RX0 39 yX0_moved, Cond.static yX0_moved, Cond.code yX0_moved cX0_moved 12 (some .long), Cond.constantLong RX0 53 (255), Cond.constantLong RX0 58 (2), Cond.methodLink RX0 55 yX0_diagonalOf, Cond.static yX0_diagonalOf, Cond.code yX0_diagonalOf cX0_diagonalOf 1 (some .int), Cond.methodLink RX0 43 yX0_ownerIn, Cond.static yX0_ownerIn, Cond.code yX0_ownerIn cX0_ownerIn 4 (some .int), Cond.methodLink RX0 46 yX0_withDoorClosed, Cond.static yX0_withDoorClosed, Cond.code yX0_withDoorClosed cX0_withDoorClosed 3 (some .long), Cond.methodLink RX0 50 yX0_withStatus, Cond.static yX0_withStatus, Cond.code yX0_withStatus cX0_withStatus 5 (some .long)]
def wsX2_findAllFrom : List Cond := .code yX2_findAllFrom cX2_findAllFrom 4 (some .boolean) :: ((wsX2_findAllFrom_r1 ++ (wsX2_findAllFrom_r2 ++ wsX2_findAllFrom_r3)) ++ wsX20 ++ wsX40)
def wsX2_isFinal : List Cond := .code yX2_isFinal cX2_isFinal 4 (some .boolean) :: ([.fieldLink RX2 43 "RenamingGrid$Exploration" "processes" "I", .methodLink RX2 60 yX0_statusIn, .static yX0_statusIn, .initialized RX0, .code yX0_statusIn cX0_statusIn 3 (some .int)] ++ wsX20)
def wsX2_countFinals : List Cond := .code yX2_countFinals cX2_countFinals 3 (some .int) :: ([.fieldLink RX2 34 "RenamingGrid$Exploration" "count" "I", .methodLink RX2 56 yX2_foundAt, .instanceMethod yX2_foundAt, .selects RX2 yX2_foundAt yX2_foundAt, .initialized RX2, .code yX2_foundAt cX2_foundAt 2 (some .long), .fieldLink RX2 11 "RenamingGrid$Exploration" "found" "[J", .methodLink RX2 81 yX2_isFinal, .instanceMethod yX2_isFinal, .selects RX2 yX2_isFinal yX2_isFinal, .code yX2_isFinal cX2_isFinal 4 (some .boolean), .fieldLink RX2 43 "RenamingGrid$Exploration" "processes" "I", .methodLink RX2 60 yX0_statusIn, .static yX0_statusIn, .initialized RX0, .code yX0_statusIn cX0_statusIn 3 (some .int)] ++ wsX20)
def wsX2_countFinalsNamed : List Cond := .code yX2_countFinalsNamed cX2_countFinalsNamed 7 (some .int) :: ([.fieldLink RX2 34 "RenamingGrid$Exploration" "count" "I", .methodLink RX2 56 yX2_foundAt, .instanceMethod yX2_foundAt, .selects RX2 yX2_foundAt yX2_foundAt, .initialized RX2, .code yX2_foundAt cX2_foundAt 2 (some .long), .fieldLink RX2 11 "RenamingGrid$Exploration" "found" "[J", .methodLink RX2 81 yX2_isFinal, .instanceMethod yX2_isFinal, .selects RX2 yX2_isFinal yX2_isFinal, .code yX2_isFinal cX2_isFinal 4 (some .boolean), .fieldLink RX2 43 "RenamingGrid$Exploration" "processes" "I", .methodLink RX2 60 yX0_statusIn, .static yX0_statusIn, .initialized RX0, .code yX0_statusIn cX0_statusIn 3 (some .int), .methodLink RX2 85 yX0_nameIn, .static yX0_nameIn, .code yX0_nameIn cX0_nameIn 3 (some .int), .methodLink RX0 11 yX0_statusIn, .methodLink RX0 15 yX0_splitterIn, .static yX0_splitterIn, .code yX0_splitterIn cX0_splitterIn 3 (some .int)] ++ wsX20)
def wsX2_isViolation : List Cond := .code yX2_isViolation cX2_isViolation 6 (some .boolean) :: ([.fieldLink RX2 43 "RenamingGrid$Exploration" "processes" "I", .methodLink RX2 85 yX0_nameIn, .static yX0_nameIn, .initialized RX0, .code yX0_nameIn cX0_nameIn 3 (some .int), .methodLink RX0 11 yX0_statusIn, .static yX0_statusIn, .code yX0_statusIn cX0_statusIn 3 (some .int), .methodLink RX0 15 yX0_splitterIn, .static yX0_splitterIn, .code yX0_splitterIn cX0_splitterIn 3 (some .int)] ++ wsX20)
def wsX2_countViolations : List Cond := .code yX2_countViolations cX2_countViolations 3 (some .int) :: ([.fieldLink RX2 34 "RenamingGrid$Exploration" "count" "I", .methodLink RX2 56 yX2_foundAt, .instanceMethod yX2_foundAt, .selects RX2 yX2_foundAt yX2_foundAt, .initialized RX2, .code yX2_foundAt cX2_foundAt 2 (some .long), .fieldLink RX2 11 "RenamingGrid$Exploration" "found" "[J", .methodLink RX2 88 yX2_isViolation, .instanceMethod yX2_isViolation, .selects RX2 yX2_isViolation yX2_isViolation, .code yX2_isViolation cX2_isViolation 6 (some .boolean), .fieldLink RX2 43 "RenamingGrid$Exploration" "processes" "I", .methodLink RX2 85 yX0_nameIn, .static yX0_nameIn, .initialized RX0, .code yX0_nameIn cX0_nameIn 3 (some .int), .methodLink RX0 11 yX0_statusIn, .static yX0_statusIn, .code yX0_statusIn cX0_statusIn 3 (some .int), .methodLink RX0 15 yX0_splitterIn, .static yX0_splitterIn, .code yX0_splitterIn cX0_splitterIn 3 (some .int)] ++ wsX20)
def wsJ7_fill_d0a16 : List Cond := .code yJ7_fill_d0a16 cJ7_fill_d0a16 5 none :: ([])
def wsX2_outcomeOf : List Cond := .code yX2_outcomeOf cX2_outcomeOf 6 (some .int) :: ([.fieldLink RX2 43 "RenamingGrid$Exploration" "processes" "I", .methodLink RX2 85 yX0_nameIn, .static yX0_nameIn, .initialized RX0, .code yX0_nameIn cX0_nameIn 3 (some .int), .methodLink RX0 11 yX0_statusIn, .static yX0_statusIn, .code yX0_statusIn cX0_statusIn 3 (some .int), .methodLink RX0 15 yX0_splitterIn, .static yX0_splitterIn, .code yX0_splitterIn cX0_splitterIn 3 (some .int)] ++ wsX20)
def wsX2_markOutcome : List Cond := .code yX2_markOutcome cX2_markOutcome 3 none :: ([.fieldLink RX2 25 "RenamingGrid$Exploration" "outcomes" "[J"] ++ wsX20)
def wsJ13_bitCount_95d88 : List Cond := .code yJ13_bitCount_95d88 cJ13_bitCount_95d88 2 (some .int) :: ([.constantLong RJ13 314 (6148914691236517205), .constantLong RJ13 316 (3689348814741910323), .constantLong RJ13 318 (1085102592571150095)])
def wsX2_countOutcomes_r1 : List Cond := [Cond.fieldLink RX2 25 "RenamingGrid$Exploration" "outcomes" "[J", Cond.fieldLink RX2 34 "RenamingGrid$Exploration" "count" "I", Cond.methodLink RX2 91 yJ7_fill_d0a16, Cond.static yJ7_fill_d0a16, Cond.initialized RJ7, Cond.code yJ7_fill_d0a16 cJ7_fill_d0a16 5 none, Cond.methodLink RX2 56 yX2_foundAt, Cond.instanceMethod yX2_foundAt, Cond.selects RX2 yX2_foundAt yX2_foundAt, Cond.initialized RX2, Cond.code yX2_foundAt cX2_foundAt 2 (some .long), Cond.fieldLink RX2 11 "RenamingGrid$Exploration" "found" "[J", Cond.methodLink RX2 81 yX2_isFinal, Cond.instanceMethod yX2_isFinal, Cond.selects RX2 yX2_isFinal yX2_isFinal, Cond.code yX2_isFinal cX2_isFinal 4 (some .boolean), Cond.fieldLink RX2 43 "RenamingGrid$Exploration" "processes" "I", Cond.methodLink RX2 60 yX0_statusIn, Cond.static yX0_statusIn, Cond.initialized RX0, Cond.code yX0_statusIn cX0_statusIn 3 (some .int), Cond.methodLink RX2 94 yX2_outcomeOf, Cond.instanceMethod yX2_outcomeOf, Cond.selects RX2 yX2_outcomeOf yX2_outcomeOf]
def wsX2_countOutcomes_r2 : List Cond := [Cond.code yX2_outcomeOf cX2_outcomeOf 6 (some .int), Cond.methodLink RX2 85 yX0_nameIn, Cond.static yX0_nameIn, Cond.code yX0_nameIn cX0_nameIn 3 (some .int), Cond.methodLink RX0 11 yX0_statusIn, Cond.methodLink RX0 15 yX0_splitterIn, Cond.static yX0_splitterIn, Cond.code yX0_splitterIn cX0_splitterIn 3 (some .int), Cond.methodLink RX2 98 yX2_markOutcome, Cond.instanceMethod yX2_markOutcome, Cond.selects RX2 yX2_markOutcome yX2_markOutcome, Cond.code yX2_markOutcome cX2_markOutcome 3 none, Cond.methodLink RX2 102 yJ13_bitCount_95d88, Cond.static yJ13_bitCount_95d88, Cond.initialized RJ13, Cond.code yJ13_bitCount_95d88 cJ13_bitCount_95d88 2 (some .int), Cond.constantLong RJ13 314 (6148914691236517205), Cond.constantLong RJ13 316 (3689348814741910323), Cond.constantLong RJ13 318 (1085102592571150095)]
def wsX2_countOutcomes : List Cond := .code yX2_countOutcomes cX2_countOutcomes 3 (some .int) :: ((wsX2_countOutcomes_r1 ++ wsX2_countOutcomes_r2) ++ wsX20)
def wsX2_highestName : List Cond := .code yX2_highestName cX2_highestName 4 (some .int) :: ([.fieldLink RX2 34 "RenamingGrid$Exploration" "count" "I", .fieldLink RX2 43 "RenamingGrid$Exploration" "processes" "I", .methodLink RX2 107 Lib.Math.max.name, .static Lib.Math.max.name, .initialized "java/lang/Math", .code Lib.Math.max.name Lib.Math.max.code 2 (some .int), .methodLink RX2 56 yX2_foundAt, .instanceMethod yX2_foundAt, .selects RX2 yX2_foundAt yX2_foundAt, .initialized RX2, .code yX2_foundAt cX2_foundAt 2 (some .long), .fieldLink RX2 11 "RenamingGrid$Exploration" "found" "[J", .methodLink RX2 85 yX0_nameIn, .static yX0_nameIn, .initialized RX0, .code yX0_nameIn cX0_nameIn 3 (some .int), .methodLink RX0 11 yX0_statusIn, .static yX0_statusIn, .code yX0_statusIn cX0_statusIn 3 (some .int), .methodLink RX0 15 yX0_splitterIn, .static yX0_splitterIn, .code yX0_splitterIn cX0_splitterIn 3 (some .int)] ++ wsX20)
def wsX2_parentOf : List Cond := .code yX2_parentOf cX2_parentOf 2 (some .int) :: ([.fieldLink RX2 15 "RenamingGrid$Exploration" "parents" "[I"] ++ wsX20)
def wsX2_depthOf : List Cond := .code yX2_depthOf cX2_depthOf 4 (some .int) :: ([.methodLink RX2 113 yX2_parentOf, .instanceMethod yX2_parentOf, .selects RX2 yX2_parentOf yX2_parentOf, .initialized RX2, .code yX2_parentOf cX2_parentOf 2 (some .int), .fieldLink RX2 15 "RenamingGrid$Exploration" "parents" "[I"] ++ wsX20)
def wsX2_firstViolation : List Cond := .code yX2_firstViolation cX2_firstViolation 2 (some .int) :: ([.fieldLink RX2 34 "RenamingGrid$Exploration" "count" "I", .methodLink RX2 56 yX2_foundAt, .instanceMethod yX2_foundAt, .selects RX2 yX2_foundAt yX2_foundAt, .initialized RX2, .code yX2_foundAt cX2_foundAt 2 (some .long), .fieldLink RX2 11 "RenamingGrid$Exploration" "found" "[J", .methodLink RX2 88 yX2_isViolation, .instanceMethod yX2_isViolation, .selects RX2 yX2_isViolation yX2_isViolation, .code yX2_isViolation cX2_isViolation 6 (some .boolean), .fieldLink RX2 43 "RenamingGrid$Exploration" "processes" "I", .methodLink RX2 85 yX0_nameIn, .static yX0_nameIn, .initialized RX0, .code yX0_nameIn cX0_nameIn 3 (some .int), .methodLink RX0 11 yX0_statusIn, .static yX0_statusIn, .code yX0_statusIn cX0_statusIn 3 (some .int), .methodLink RX0 15 yX0_splitterIn, .static yX0_splitterIn, .code yX0_splitterIn cX0_splitterIn 3 (some .int)] ++ wsX20)
def wsX2_moverTowardsViolation_r1 : List Cond := [Cond.fieldLink RX2 19 "RenamingGrid$Exploration" "movers" "[I", Cond.methodLink RX2 117 yX2_firstViolation, Cond.instanceMethod yX2_firstViolation, Cond.selects RX2 yX2_firstViolation yX2_firstViolation, Cond.initialized RX2, Cond.code yX2_firstViolation cX2_firstViolation 2 (some .int), Cond.fieldLink RX2 34 "RenamingGrid$Exploration" "count" "I", Cond.methodLink RX2 56 yX2_foundAt, Cond.instanceMethod yX2_foundAt, Cond.selects RX2 yX2_foundAt yX2_foundAt, Cond.code yX2_foundAt cX2_foundAt 2 (some .long), Cond.fieldLink RX2 11 "RenamingGrid$Exploration" "found" "[J", Cond.methodLink RX2 88 yX2_isViolation, Cond.instanceMethod yX2_isViolation, Cond.selects RX2 yX2_isViolation yX2_isViolation, Cond.code yX2_isViolation cX2_isViolation 6 (some .boolean), Cond.fieldLink RX2 43 "RenamingGrid$Exploration" "processes" "I", Cond.methodLink RX2 85 yX0_nameIn, Cond.static yX0_nameIn, Cond.initialized RX0, Cond.code yX0_nameIn cX0_nameIn 3 (some .int), Cond.methodLink RX0 11 yX0_statusIn, Cond.static yX0_statusIn, Cond.code yX0_statusIn cX0_statusIn 3 (some .int)]
def wsX2_moverTowardsViolation_r2 : List Cond := [Cond.methodLink RX0 15 yX0_splitterIn, Cond.static yX0_splitterIn, Cond.code yX0_splitterIn cX0_splitterIn 3 (some .int), Cond.methodLink RX2 121 yX2_depthOf, Cond.instanceMethod yX2_depthOf, Cond.selects RX2 yX2_depthOf yX2_depthOf, Cond.code yX2_depthOf cX2_depthOf 4 (some .int), Cond.methodLink RX2 113 yX2_parentOf, Cond.instanceMethod yX2_parentOf, Cond.selects RX2 yX2_parentOf yX2_parentOf, Cond.code yX2_parentOf cX2_parentOf 2 (some .int), Cond.fieldLink RX2 15 "RenamingGrid$Exploration" "parents" "[I"]
def wsX2_moverTowardsViolation : List Cond := .code yX2_moverTowardsViolation cX2_moverTowardsViolation 5 (some .int) :: ((wsX2_moverTowardsViolation_r1 ++ wsX2_moverTowardsViolation_r2) ++ wsX20)
def wsX3_init : List Cond := .code yX3_init cX3_init 1 none :: ([.methodLink RX3 3 objectInit, .instanceMethod objectInit, .code objectInit ⟨#[0xb1]⟩ 1 none, .arrayClass .char, .fieldLink RX3 9 "RenamingGrid$Schedule" "text" "[C", .arrayClass .int, .fieldLink RX3 13 "RenamingGrid$Schedule" "itemProcesses" "[I", .fieldLink RX3 17 "RenamingGrid$Schedule" "itemCounts" "[I"] ++ wsX30)
def wsX3_isFull : List Cond := .code yX3_isFull cX3_isFull 1 (some .boolean) :: ([.fieldLink RX3 20 "RenamingGrid$Schedule" "length" "I", .fieldLink RX3 9 "RenamingGrid$Schedule" "text" "[C"] ++ wsX30)
def wsX3_add : List Cond := .code yX3_add cX3_add 2 (some .int) :: ([.fieldLink RX3 9 "RenamingGrid$Schedule" "text" "[C", .fieldLink RX3 20 "RenamingGrid$Schedule" "length" "I", .methodLink RX3 24 yX3_isFull, .instanceMethod yX3_isFull, .selects RX3 yX3_isFull yX3_isFull, .initialized RX3, .code yX3_isFull cX3_isFull 1 (some .boolean)] ++ wsX30)
def wsX3_clear : List Cond := .code yX3_clear cX3_clear 2 (some .int) :: ([.fieldLink RX3 20 "RenamingGrid$Schedule" "length" "I"] ++ wsX30)
def wsX3_characterAt : List Cond := .code yX3_characterAt cX3_characterAt 2 (some .int) :: ([.fieldLink RX3 20 "RenamingGrid$Schedule" "length" "I", .fieldLink RX3 9 "RenamingGrid$Schedule" "text" "[C"] ++ wsX30)
def wsX3_digitAt : List Cond := .code yX3_digitAt cX3_digitAt 3 (some .int) :: ([.methodLink RX3 49 yX3_characterAt, .instanceMethod yX3_characterAt, .selects RX3 yX3_characterAt yX3_characterAt, .initialized RX3, .code yX3_characterAt cX3_characterAt 2 (some .int), .fieldLink RX3 20 "RenamingGrid$Schedule" "length" "I", .fieldLink RX3 9 "RenamingGrid$Schedule" "text" "[C"] ++ wsX30)
def wsX3_beginsToken : List Cond := .code yX3_beginsToken cX3_beginsToken 3 (some .boolean) :: ([.methodLink RX3 58 yX3_digitAt, .instanceMethod yX3_digitAt, .selects RX3 yX3_digitAt yX3_digitAt, .initialized RX3, .code yX3_digitAt cX3_digitAt 3 (some .int), .methodLink RX3 49 yX3_characterAt, .instanceMethod yX3_characterAt, .selects RX3 yX3_characterAt yX3_characterAt, .code yX3_characterAt cX3_characterAt 2 (some .int), .fieldLink RX3 20 "RenamingGrid$Schedule" "length" "I", .fieldLink RX3 9 "RenamingGrid$Schedule" "text" "[C"] ++ wsX30)
def wsX3_numberAt : List Cond := .code yX3_numberAt cX3_numberAt 4 (some .int) :: ([.methodLink RX3 58 yX3_digitAt, .instanceMethod yX3_digitAt, .selects RX3 yX3_digitAt yX3_digitAt, .initialized RX3, .code yX3_digitAt cX3_digitAt 3 (some .int), .methodLink RX3 49 yX3_characterAt, .instanceMethod yX3_characterAt, .selects RX3 yX3_characterAt yX3_characterAt, .code yX3_characterAt cX3_characterAt 2 (some .int), .fieldLink RX3 20 "RenamingGrid$Schedule" "length" "I", .fieldLink RX3 9 "RenamingGrid$Schedule" "text" "[C"] ++ wsX30)
def wsX3_addItem : List Cond := .code yX3_addItem cX3_addItem 2 (some .boolean) :: ([.fieldLink RX3 28 "RenamingGrid$Schedule" "items" "I", .fieldLink RX3 13 "RenamingGrid$Schedule" "itemProcesses" "[I", .fieldLink RX3 17 "RenamingGrid$Schedule" "itemCounts" "[I"] ++ wsX30)
def wsX3_setCount : List Cond := .code yX3_setCount cX3_setCount 2 (some .boolean) :: ([.fieldLink RX3 28 "RenamingGrid$Schedule" "items" "I", .fieldLink RX3 17 "RenamingGrid$Schedule" "itemCounts" "[I"] ++ wsX30)
def wsX3_afterToken_r1 : List Cond := [Cond.methodLink RX3 45 yX3_numberAt, Cond.instanceMethod yX3_numberAt, Cond.selects RX3 yX3_numberAt yX3_numberAt, Cond.initialized RX3, Cond.code yX3_numberAt cX3_numberAt 4 (some .int), Cond.methodLink RX3 58 yX3_digitAt, Cond.instanceMethod yX3_digitAt, Cond.selects RX3 yX3_digitAt yX3_digitAt, Cond.code yX3_digitAt cX3_digitAt 3 (some .int), Cond.methodLink RX3 49 yX3_characterAt, Cond.instanceMethod yX3_characterAt, Cond.selects RX3 yX3_characterAt yX3_characterAt, Cond.code yX3_characterAt cX3_characterAt 2 (some .int), Cond.fieldLink RX3 20 "RenamingGrid$Schedule" "length" "I", Cond.fieldLink RX3 9 "RenamingGrid$Schedule" "text" "[C", Cond.methodLink RX3 52 yX3_addItem, Cond.instanceMethod yX3_addItem, Cond.selects RX3 yX3_addItem yX3_addItem, Cond.code yX3_addItem cX3_addItem 2 (some .boolean), Cond.fieldLink RX3 28 "RenamingGrid$Schedule" "items" "I", Cond.fieldLink RX3 13 "RenamingGrid$Schedule" "itemProcesses" "[I", Cond.fieldLink RX3 17 "RenamingGrid$Schedule" "itemCounts" "[I", Cond.methodLink RX3 55 yX3_setCount, Cond.instanceMethod yX3_setCount]
def wsX3_afterToken_r2 : List Cond := [Cond.selects RX3 yX3_setCount yX3_setCount, Cond.code yX3_setCount cX3_setCount 2 (some .boolean)]
def wsX3_afterToken : List Cond := .code yX3_afterToken cX3_afterToken 6 (some .int) :: ((wsX3_afterToken_r1 ++ wsX3_afterToken_r2) ++ wsX30)
def wsX3_read_r1 : List Cond := [Cond.fieldLink RX3 28 "RenamingGrid$Schedule" "items" "I", Cond.fieldLink RX3 20 "RenamingGrid$Schedule" "length" "I", Cond.methodLink RX3 31 yX3_beginsToken, Cond.instanceMethod yX3_beginsToken, Cond.selects RX3 yX3_beginsToken yX3_beginsToken, Cond.initialized RX3, Cond.code yX3_beginsToken cX3_beginsToken 3 (some .boolean), Cond.methodLink RX3 58 yX3_digitAt, Cond.instanceMethod yX3_digitAt, Cond.selects RX3 yX3_digitAt yX3_digitAt, Cond.code yX3_digitAt cX3_digitAt 3 (some .int), Cond.methodLink RX3 49 yX3_characterAt, Cond.instanceMethod yX3_characterAt, Cond.selects RX3 yX3_characterAt yX3_characterAt, Cond.code yX3_characterAt cX3_characterAt 2 (some .int), Cond.fieldLink RX3 9 "RenamingGrid$Schedule" "text" "[C", Cond.methodLink RX3 35 yX3_afterToken, Cond.instanceMethod yX3_afterToken, Cond.selects RX3 yX3_afterToken yX3_afterToken, Cond.code yX3_afterToken cX3_afterToken 6 (some .int), Cond.methodLink RX3 45 yX3_numberAt, Cond.instanceMethod yX3_numberAt, Cond.selects RX3 yX3_numberAt yX3_numberAt, Cond.code yX3_numberAt cX3_numberAt 4 (some .int)]
def wsX3_read_r2 : List Cond := [Cond.methodLink RX3 52 yX3_addItem, Cond.instanceMethod yX3_addItem, Cond.selects RX3 yX3_addItem yX3_addItem, Cond.code yX3_addItem cX3_addItem 2 (some .boolean), Cond.fieldLink RX3 13 "RenamingGrid$Schedule" "itemProcesses" "[I", Cond.fieldLink RX3 17 "RenamingGrid$Schedule" "itemCounts" "[I", Cond.methodLink RX3 55 yX3_setCount, Cond.instanceMethod yX3_setCount, Cond.selects RX3 yX3_setCount yX3_setCount, Cond.code yX3_setCount cX3_setCount 2 (some .boolean)]
def wsX3_read : List Cond := .code yX3_read cX3_read 4 (some .int) :: ((wsX3_read_r1 ++ wsX3_read_r2) ++ wsX30)
def wsX4_isRunning : List Cond := .code yX4_isRunning cX4_isRunning 2 (some .boolean) :: ([.fieldLink RX4 21 "RenamingGrid$State" "configuration" "J", .methodLink RX4 47 yX0_statusIn, .static yX0_statusIn, .initialized RX0, .code yX0_statusIn cX0_statusIn 3 (some .int)] ++ wsX40)
def wsX4_countExit : List Cond := .code yX4_countExit cX4_countExit 3 none :: ([.fieldLink RX4 31 "RenamingGrid$State" "rightExits" "J", .fieldLink RX4 34 "RenamingGrid$State" "downExits" "J", .methodLink RX4 37 yX1_withOneMore, .static yX1_withOneMore, .initialized RX1, .code yX1_withOneMore cX1_withOneMore 3 (some .long)] ++ wsX40)
def wsX4_advance_r1 : List Cond := [Cond.fieldLink RX4 21 "RenamingGrid$State" "configuration" "J", Cond.fieldLink RX4 9 "RenamingGrid$State" "size" "I", Cond.fieldLink RX4 18 "RenamingGrid$State" "program" "I", Cond.fieldLink RX4 25 "RenamingGrid$State" "stepsMade" "J", Cond.fieldLink RX4 28 "RenamingGrid$State" "entries" "J", Cond.methodLink RX4 61 yX0_afterStep, Cond.static yX0_afterStep, Cond.initialized RX0, Cond.code yX0_afterStep cX0_afterStep 10 (some .long), Cond.methodLink RX0 15 yX0_splitterIn, Cond.static yX0_splitterIn, Cond.code yX0_splitterIn cX0_splitterIn 3 (some .int), Cond.methodLink RX0 26 yX0_phaseIn, Cond.static yX0_phaseIn, Cond.code yX0_phaseIn cX0_phaseIn 3 (some .int), Cond.methodLink RX0 29 yX0_withOwner, Cond.static yX0_withOwner, Cond.code yX0_withOwner cX0_withOwner 5 (some .long), Cond.constantLong RX0 22 (3), Cond.constantLong RX0 24 (-1), Cond.methodLink RX0 18 yX0_ownerShift, Cond.static yX0_ownerShift, Cond.code yX0_ownerShift cX0_ownerShift 1 (some .int), Cond.methodLink RX0 33 yX0_withPhase]
def wsX4_advance_r2 : List Cond := [Cond.static yX0_withPhase, Cond.code yX0_withPhase cX0_withPhase 5 (some .long), Cond.methodLink RX0 36 yX0_doorIn, Cond.static yX0_doorIn, Cond.code yX0_doorIn cX0_doorIn 3 (some .int), Cond.methodLink RX0 39 yX0_moved, Cond.static yX0_moved, Cond.code yX0_moved cX0_moved 12 (some .long), Cond.constantLong RX0 53 (255), Cond.constantLong RX0 58 (2), Cond.methodLink RX0 55 yX0_diagonalOf, Cond.static yX0_diagonalOf, Cond.code yX0_diagonalOf cX0_diagonalOf 1 (some .int), Cond.methodLink RX0 43 yX0_ownerIn, Cond.static yX0_ownerIn, Cond.code yX0_ownerIn cX0_ownerIn 4 (some .int), Cond.methodLink RX0 46 yX0_withDoorClosed, Cond.static yX0_withDoorClosed, Cond.code yX0_withDoorClosed cX0_withDoorClosed 3 (some .long), Cond.methodLink RX0 50 yX0_withStatus, Cond.static yX0_withStatus, Cond.code yX0_withStatus cX0_withStatus 5 (some .long), Cond.methodLink RX4 37 yX1_withOneMore, Cond.static yX1_withOneMore]
def wsX4_advance_r3 : List Cond := [Cond.initialized RX1, Cond.code yX1_withOneMore cX1_withOneMore 3 (some .long), Cond.methodLink RX4 47 yX0_statusIn, Cond.static yX0_statusIn, Cond.code yX0_statusIn cX0_statusIn 3 (some .int), Cond.methodLink RX4 65 yX0_splitterIn, Cond.methodLink RX4 68 yX0_phaseIn, Cond.methodLink RX4 71 yX4_countExit, Cond.instanceMethod yX4_countExit, Cond.selects RX4 yX4_countExit yX4_countExit, Cond.initialized RX4, Cond.code yX4_countExit cX4_countExit 3 none, Cond.fieldLink RX4 31 "RenamingGrid$State" "rightExits" "J", Cond.fieldLink RX4 34 "RenamingGrid$State" "downExits" "J"]
def wsX4_advance : List Cond := .code yX4_advance cX4_advance 8 (some .int) :: ((wsX4_advance_r1 ++ (wsX4_advance_r2 ++ wsX4_advance_r3)) ++ wsX40)
def wsX4_advanceUpTo_r1 : List Cond := [Cond.methodLink RX4 53 yX4_isRunning, Cond.instanceMethod yX4_isRunning, Cond.selects RX4 yX4_isRunning yX4_isRunning, Cond.initialized RX4, Cond.code yX4_isRunning cX4_isRunning 2 (some .boolean), Cond.fieldLink RX4 21 "RenamingGrid$State" "configuration" "J", Cond.methodLink RX4 47 yX0_statusIn, Cond.static yX0_statusIn, Cond.initialized RX0, Cond.code yX0_statusIn cX0_statusIn 3 (some .int), Cond.methodLink RX4 75 yX4_advance, Cond.instanceMethod yX4_advance, Cond.selects RX4 yX4_advance yX4_advance, Cond.code yX4_advance cX4_advance 8 (some .int), Cond.fieldLink RX4 9 "RenamingGrid$State" "size" "I", Cond.fieldLink RX4 18 "RenamingGrid$State" "program" "I", Cond.fieldLink RX4 25 "RenamingGrid$State" "stepsMade" "J", Cond.fieldLink RX4 28 "RenamingGrid$State" "entries" "J", Cond.methodLink RX4 61 yX0_afterStep, Cond.static yX0_afterStep, Cond.code yX0_afterStep cX0_afterStep 10 (some .long), Cond.methodLink RX0 15 yX0_splitterIn, Cond.static yX0_splitterIn, Cond.code yX0_splitterIn cX0_splitterIn 3 (some .int)]
def wsX4_advanceUpTo_r2 : List Cond := [Cond.methodLink RX0 26 yX0_phaseIn, Cond.static yX0_phaseIn, Cond.code yX0_phaseIn cX0_phaseIn 3 (some .int), Cond.methodLink RX0 29 yX0_withOwner, Cond.static yX0_withOwner, Cond.code yX0_withOwner cX0_withOwner 5 (some .long), Cond.constantLong RX0 22 (3), Cond.constantLong RX0 24 (-1), Cond.methodLink RX0 18 yX0_ownerShift, Cond.static yX0_ownerShift, Cond.code yX0_ownerShift cX0_ownerShift 1 (some .int), Cond.methodLink RX0 33 yX0_withPhase, Cond.static yX0_withPhase, Cond.code yX0_withPhase cX0_withPhase 5 (some .long), Cond.methodLink RX0 36 yX0_doorIn, Cond.static yX0_doorIn, Cond.code yX0_doorIn cX0_doorIn 3 (some .int), Cond.methodLink RX0 39 yX0_moved, Cond.static yX0_moved, Cond.code yX0_moved cX0_moved 12 (some .long), Cond.constantLong RX0 53 (255), Cond.constantLong RX0 58 (2), Cond.methodLink RX0 55 yX0_diagonalOf, Cond.static yX0_diagonalOf]
def wsX4_advanceUpTo_r3 : List Cond := [Cond.code yX0_diagonalOf cX0_diagonalOf 1 (some .int), Cond.methodLink RX0 43 yX0_ownerIn, Cond.static yX0_ownerIn, Cond.code yX0_ownerIn cX0_ownerIn 4 (some .int), Cond.methodLink RX0 46 yX0_withDoorClosed, Cond.static yX0_withDoorClosed, Cond.code yX0_withDoorClosed cX0_withDoorClosed 3 (some .long), Cond.methodLink RX0 50 yX0_withStatus, Cond.static yX0_withStatus, Cond.code yX0_withStatus cX0_withStatus 5 (some .long), Cond.methodLink RX4 37 yX1_withOneMore, Cond.static yX1_withOneMore, Cond.initialized RX1, Cond.code yX1_withOneMore cX1_withOneMore 3 (some .long), Cond.methodLink RX4 65 yX0_splitterIn, Cond.methodLink RX4 68 yX0_phaseIn, Cond.methodLink RX4 71 yX4_countExit, Cond.instanceMethod yX4_countExit, Cond.selects RX4 yX4_countExit yX4_countExit, Cond.code yX4_countExit cX4_countExit 3 none, Cond.fieldLink RX4 31 "RenamingGrid$State" "rightExits" "J", Cond.fieldLink RX4 34 "RenamingGrid$State" "downExits" "J"]
def wsX4_advanceUpTo : List Cond := .code yX4_advanceUpTo cX4_advanceUpTo 4 (some .int) :: ((wsX4_advanceUpTo_r1 ++ (wsX4_advanceUpTo_r2 ++ wsX4_advanceUpTo_r3)) ++ wsX40)
def wsX3_executeOn_r1 : List Cond := [Cond.fieldLink RX3 28 "RenamingGrid$Schedule" "items" "I", Cond.fieldLink RX3 13 "RenamingGrid$Schedule" "itemProcesses" "[I", Cond.fieldLink RX3 17 "RenamingGrid$Schedule" "itemCounts" "[I", Cond.methodLink RX3 39 yX4_advanceUpTo, Cond.instanceMethod yX4_advanceUpTo, Cond.selects RX4 yX4_advanceUpTo yX4_advanceUpTo, Cond.initialized RX4, Cond.code yX4_advanceUpTo cX4_advanceUpTo 4 (some .int), Cond.methodLink RX4 53 yX4_isRunning, Cond.instanceMethod yX4_isRunning, Cond.selects RX4 yX4_isRunning yX4_isRunning, Cond.code yX4_isRunning cX4_isRunning 2 (some .boolean), Cond.fieldLink RX4 21 "RenamingGrid$State" "configuration" "J", Cond.methodLink RX4 47 yX0_statusIn, Cond.static yX0_statusIn, Cond.initialized RX0, Cond.code yX0_statusIn cX0_statusIn 3 (some .int), Cond.methodLink RX4 75 yX4_advance, Cond.instanceMethod yX4_advance, Cond.selects RX4 yX4_advance yX4_advance, Cond.code yX4_advance cX4_advance 8 (some .int), Cond.fieldLink RX4 9 "RenamingGrid$State" "size" "I", Cond.fieldLink RX4 18 "RenamingGrid$State" "program" "I", Cond.fieldLink RX4 25 "RenamingGrid$State" "stepsMade" "J"]
def wsX3_executeOn_r2 : List Cond := [Cond.fieldLink RX4 28 "RenamingGrid$State" "entries" "J", Cond.methodLink RX4 61 yX0_afterStep, Cond.static yX0_afterStep, Cond.code yX0_afterStep cX0_afterStep 10 (some .long), Cond.methodLink RX0 15 yX0_splitterIn, Cond.static yX0_splitterIn, Cond.code yX0_splitterIn cX0_splitterIn 3 (some .int), Cond.methodLink RX0 26 yX0_phaseIn, Cond.static yX0_phaseIn, Cond.code yX0_phaseIn cX0_phaseIn 3 (some .int), Cond.methodLink RX0 29 yX0_withOwner, Cond.static yX0_withOwner, Cond.code yX0_withOwner cX0_withOwner 5 (some .long), Cond.constantLong RX0 22 (3), Cond.constantLong RX0 24 (-1), Cond.methodLink RX0 18 yX0_ownerShift, Cond.static yX0_ownerShift, Cond.code yX0_ownerShift cX0_ownerShift 1 (some .int), Cond.methodLink RX0 33 yX0_withPhase, Cond.static yX0_withPhase, Cond.code yX0_withPhase cX0_withPhase 5 (some .long), Cond.methodLink RX0 36 yX0_doorIn, Cond.static yX0_doorIn, Cond.code yX0_doorIn cX0_doorIn 3 (some .int)]
def wsX3_executeOn_r3 : List Cond := [Cond.methodLink RX0 39 yX0_moved, Cond.static yX0_moved, Cond.code yX0_moved cX0_moved 12 (some .long), Cond.constantLong RX0 53 (255), Cond.constantLong RX0 58 (2), Cond.methodLink RX0 55 yX0_diagonalOf, Cond.static yX0_diagonalOf, Cond.code yX0_diagonalOf cX0_diagonalOf 1 (some .int), Cond.methodLink RX0 43 yX0_ownerIn, Cond.static yX0_ownerIn, Cond.code yX0_ownerIn cX0_ownerIn 4 (some .int), Cond.methodLink RX0 46 yX0_withDoorClosed, Cond.static yX0_withDoorClosed, Cond.code yX0_withDoorClosed cX0_withDoorClosed 3 (some .long), Cond.methodLink RX0 50 yX0_withStatus, Cond.static yX0_withStatus, Cond.code yX0_withStatus cX0_withStatus 5 (some .long), Cond.methodLink RX4 37 yX1_withOneMore, Cond.static yX1_withOneMore, Cond.initialized RX1, Cond.code yX1_withOneMore cX1_withOneMore 3 (some .long), Cond.methodLink RX4 65 yX0_splitterIn, Cond.methodLink RX4 68 yX0_phaseIn, Cond.methodLink RX4 71 yX4_countExit]
def wsX3_executeOn_r4 : List Cond := [Cond.instanceMethod yX4_countExit, Cond.selects RX4 yX4_countExit yX4_countExit, Cond.code yX4_countExit cX4_countExit 3 none, Cond.fieldLink RX4 31 "RenamingGrid$State" "rightExits" "J", Cond.fieldLink RX4 34 "RenamingGrid$State" "downExits" "J"]
def wsX3_executeOn : List Cond := .code yX3_executeOn cX3_executeOn 4 (some .int) :: ((wsX3_executeOn_r1 ++ (wsX3_executeOn_r2 ++ (wsX3_executeOn_r3 ++ wsX3_executeOn_r4))) ++ wsX30 ++ wsX40)
def wsX4_init : List Cond := .code yX4_init cX4_init 1 none :: ([.methodLink RX4 3 objectInit, .instanceMethod objectInit, .code objectInit ⟨#[0xb1]⟩ 1 none])
def wsX4_begin : List Cond := .code yX4_begin cX4_begin 5 none :: ([.fieldLink RX4 9 "RenamingGrid$State" "size" "I", .fieldLink RX4 15 "RenamingGrid$State" "processes" "I", .fieldLink RX4 18 "RenamingGrid$State" "program" "I", .fieldLink RX4 21 "RenamingGrid$State" "configuration" "J", .fieldLink RX4 25 "RenamingGrid$State" "stepsMade" "J", .fieldLink RX4 28 "RenamingGrid$State" "entries" "J", .fieldLink RX4 31 "RenamingGrid$State" "rightExits" "J", .fieldLink RX4 34 "RenamingGrid$State" "downExits" "J", .methodLink RX4 37 yX1_withOneMore, .static yX1_withOneMore, .initialized RX1, .code yX1_withOneMore cX1_withOneMore 3 (some .long)] ++ wsX40)
def wsX4_copyFrom : List Cond := .code yX4_copyFrom cX4_copyFrom 2 none :: ([.fieldLink RX4 9 "RenamingGrid$State" "size" "I", .fieldLink RX4 15 "RenamingGrid$State" "processes" "I", .fieldLink RX4 18 "RenamingGrid$State" "program" "I", .fieldLink RX4 21 "RenamingGrid$State" "configuration" "J", .fieldLink RX4 25 "RenamingGrid$State" "stepsMade" "J", .fieldLink RX4 28 "RenamingGrid$State" "entries" "J", .fieldLink RX4 31 "RenamingGrid$State" "rightExits" "J", .fieldLink RX4 34 "RenamingGrid$State" "downExits" "J"] ++ wsX40)
def wsX4_names : List Cond := .code yX4_names cX4_names 1 (some .int) :: ([.fieldLink RX4 9 "RenamingGrid$State" "size" "I"] ++ wsX40)
def wsX4_hasProcess : List Cond := .code yX4_hasProcess cX4_hasProcess 2 (some .boolean) :: ([.fieldLink RX4 15 "RenamingGrid$State" "processes" "I"] ++ wsX40)
def wsX4_hasSplitter : List Cond := .code yX4_hasSplitter cX4_hasSplitter 2 (some .boolean) :: ([.methodLink RX4 43 yX4_names, .instanceMethod yX4_names, .selects RX4 yX4_names yX4_names, .initialized RX4, .code yX4_names cX4_names 1 (some .int), .fieldLink RX4 9 "RenamingGrid$State" "size" "I"] ++ wsX40)
def wsX4_countRunning : List Cond := .code yX4_countRunning cX4_countRunning 3 (some .int) :: ([.fieldLink RX4 15 "RenamingGrid$State" "processes" "I", .methodLink RX4 53 yX4_isRunning, .instanceMethod yX4_isRunning, .selects RX4 yX4_isRunning yX4_isRunning, .initialized RX4, .code yX4_isRunning cX4_isRunning 2 (some .boolean), .fieldLink RX4 21 "RenamingGrid$State" "configuration" "J", .methodLink RX4 47 yX0_statusIn, .static yX0_statusIn, .initialized RX0, .code yX0_statusIn cX0_statusIn 3 (some .int)] ++ wsX40)
def wsX4_markCrashed : List Cond := .code yX4_markCrashed cX4_markCrashed 2 none :: ([.fieldLink RX4 21 "RenamingGrid$State" "configuration" "J", .methodLink RX4 57 yX0_withStatus, .static yX0_withStatus, .initialized RX0, .code yX0_withStatus cX0_withStatus 5 (some .long), .constantLong RX0 22 (3), .constantLong RX0 24 (-1)] ++ wsX40)
def wsX5_init_r1 : List Cond := [Cond.methodLink RX5 1 objectInit, Cond.instanceMethod objectInit, Cond.code objectInit ⟨#[0xb1]⟩ 1 none, Cond.classLink RX5 7 RX4, Cond.instantiable RX4 8, Cond.initialized RX4, Cond.fieldLink RX5 10 "RenamingGrid" "present" "LRenamingGrid$State;", Cond.fieldLink RX5 20 "RenamingGrid" "scratch" "LRenamingGrid$State;", Cond.fieldLink RX5 23 "RenamingGrid" "saved" "[LRenamingGrid$State;", Cond.fieldLink RX5 27 "RenamingGrid" "slots" "[LRenamingGrid$State;", Cond.classLink RX5 30 RX3, Cond.instantiable RX3 5, Cond.initialized RX3, Cond.fieldLink RX5 33 "RenamingGrid" "schedule" "LRenamingGrid$Schedule;", Cond.instanceMethod yX4_init, Cond.code yX4_init cX4_init 1 none, Cond.methodLink RX4 3 objectInit, Cond.methodLink RX5 16 yX4_begin, Cond.instanceMethod yX4_begin, Cond.selects RX4 yX4_begin yX4_begin, Cond.code yX4_begin cX4_begin 5 none, Cond.fieldLink RX4 9 "RenamingGrid$State" "size" "I", Cond.fieldLink RX4 15 "RenamingGrid$State" "processes" "I", Cond.fieldLink RX4 18 "RenamingGrid$State" "program" "I"]
def wsX5_init_r2 : List Cond := [Cond.fieldLink RX4 21 "RenamingGrid$State" "configuration" "J", Cond.fieldLink RX4 25 "RenamingGrid$State" "stepsMade" "J", Cond.fieldLink RX4 28 "RenamingGrid$State" "entries" "J", Cond.fieldLink RX4 31 "RenamingGrid$State" "rightExits" "J", Cond.fieldLink RX4 34 "RenamingGrid$State" "downExits" "J", Cond.methodLink RX4 37 yX1_withOneMore, Cond.static yX1_withOneMore, Cond.initialized RX1, Cond.code yX1_withOneMore cX1_withOneMore 3 (some .long), Cond.instanceMethod yX3_init, Cond.code yX3_init cX3_init 1 none, Cond.methodLink RX3 3 objectInit, Cond.arrayClass .char, Cond.fieldLink RX3 9 "RenamingGrid$Schedule" "text" "[C", Cond.arrayClass .int, Cond.fieldLink RX3 13 "RenamingGrid$Schedule" "itemProcesses" "[I", Cond.fieldLink RX3 17 "RenamingGrid$Schedule" "itemCounts" "[I"]
def wsX5_init : List Cond := .code yX5_init cX5_init 2 none :: ((wsX5_init_r1 ++ wsX5_init_r2) ++ wsX40 ++ wsX50 ++ wsX30)
def wsX5_discardOldestSaved : List Cond := .code yX5_discardOldestSaved cX5_discardOldestSaved 3 none :: ([.fieldLink RX5 23 "RenamingGrid" "saved" "[LRenamingGrid$State;", .fieldLink RX5 175 "RenamingGrid" "savedCount" "I"] ++ wsX50)
def wsX5_prepareChange : List Cond := .code yX5_prepareChange cX5_prepareChange 1 none :: ([.fieldLink RX5 175 "RenamingGrid" "savedCount" "I", .fieldLink RX5 23 "RenamingGrid" "saved" "[LRenamingGrid$State;", .fieldLink RX5 10 "RenamingGrid" "present" "LRenamingGrid$State;", .fieldLink RX5 137 "RenamingGrid" "told" "LRenamingGrid$Exploration;", .methodLink RX5 178 yX5_discardOldestSaved, .instanceMethod yX5_discardOldestSaved, .selects RX5 yX5_discardOldestSaved yX5_discardOldestSaved, .initialized RX5, .code yX5_discardOldestSaved cX5_discardOldestSaved 3 none, .methodLink RX5 108 yX4_copyFrom, .instanceMethod yX4_copyFrom, .selects RX4 yX4_copyFrom yX4_copyFrom, .initialized RX4, .code yX4_copyFrom cX4_copyFrom 2 none, .fieldLink RX4 9 "RenamingGrid$State" "size" "I", .fieldLink RX4 15 "RenamingGrid$State" "processes" "I", .fieldLink RX4 18 "RenamingGrid$State" "program" "I", .fieldLink RX4 21 "RenamingGrid$State" "configuration" "J", .fieldLink RX4 25 "RenamingGrid$State" "stepsMade" "J", .fieldLink RX4 28 "RenamingGrid$State" "entries" "J", .fieldLink RX4 31 "RenamingGrid$State" "rightExits" "J", .fieldLink RX4 34 "RenamingGrid$State" "downExits" "J"] ++ wsX50 ++ wsX40)
def wsX5_configure_r1 : List Cond := [Cond.fieldLink RX5 10 "RenamingGrid" "present" "LRenamingGrid$State;", Cond.methodLink RX5 37 yX5_prepareChange, Cond.instanceMethod yX5_prepareChange, Cond.selects RX5 yX5_prepareChange yX5_prepareChange, Cond.initialized RX5, Cond.code yX5_prepareChange cX5_prepareChange 1 none, Cond.fieldLink RX5 175 "RenamingGrid" "savedCount" "I", Cond.fieldLink RX5 23 "RenamingGrid" "saved" "[LRenamingGrid$State;", Cond.fieldLink RX5 137 "RenamingGrid" "told" "LRenamingGrid$Exploration;", Cond.methodLink RX5 178 yX5_discardOldestSaved, Cond.instanceMethod yX5_discardOldestSaved, Cond.selects RX5 yX5_discardOldestSaved yX5_discardOldestSaved, Cond.code yX5_discardOldestSaved cX5_discardOldestSaved 3 none, Cond.methodLink RX5 108 yX4_copyFrom, Cond.instanceMethod yX4_copyFrom, Cond.selects RX4 yX4_copyFrom yX4_copyFrom, Cond.initialized RX4, Cond.code yX4_copyFrom cX4_copyFrom 2 none, Cond.fieldLink RX4 9 "RenamingGrid$State" "size" "I", Cond.fieldLink RX4 15 "RenamingGrid$State" "processes" "I", Cond.fieldLink RX4 18 "RenamingGrid$State" "program" "I", Cond.fieldLink RX4 21 "RenamingGrid$State" "configuration" "J", Cond.fieldLink RX4 25 "RenamingGrid$State" "stepsMade" "J", Cond.fieldLink RX4 28 "RenamingGrid$State" "entries" "J"]
def wsX5_configure_r2 : List Cond := [Cond.fieldLink RX4 31 "RenamingGrid$State" "rightExits" "J", Cond.fieldLink RX4 34 "RenamingGrid$State" "downExits" "J", Cond.methodLink RX5 16 yX4_begin, Cond.instanceMethod yX4_begin, Cond.selects RX4 yX4_begin yX4_begin, Cond.code yX4_begin cX4_begin 5 none, Cond.methodLink RX4 37 yX1_withOneMore, Cond.static yX1_withOneMore, Cond.initialized RX1, Cond.code yX1_withOneMore cX1_withOneMore 3 (some .long), Cond.methodLink RX5 40 yX4_names, Cond.instanceMethod yX4_names, Cond.selects RX4 yX4_names yX4_names, Cond.code yX4_names cX4_names 1 (some .int)]
def wsX5_configure : List Cond := .code yX5_configure cX5_configure 5 (some .int) :: ((wsX5_configure_r1 ++ wsX5_configure_r2) ++ wsX50 ++ wsX40)
def wsX5_nameCount : List Cond := .code yX5_nameCount cX5_nameCount 1 (some .int) :: ([.fieldLink RX5 10 "RenamingGrid" "present" "LRenamingGrid$State;", .methodLink RX5 40 yX4_names, .instanceMethod yX4_names, .selects RX4 yX4_names yX4_names, .initialized RX4, .code yX4_names cX4_names 1 (some .int), .fieldLink RX4 9 "RenamingGrid$State" "size" "I"] ++ wsX50 ++ wsX40)
def wsX5_processCount : List Cond := .code yX5_processCount cX5_processCount 1 (some .int) :: ([.fieldLink RX5 10 "RenamingGrid" "present" "LRenamingGrid$State;"] ++ wsX50 ++ wsX40)
def wsX5_step_r1 : List Cond := [Cond.fieldLink RX5 10 "RenamingGrid" "present" "LRenamingGrid$State;", Cond.methodLink RX5 48 yX4_hasProcess, Cond.instanceMethod yX4_hasProcess, Cond.selects RX4 yX4_hasProcess yX4_hasProcess, Cond.initialized RX4, Cond.code yX4_hasProcess cX4_hasProcess 2 (some .boolean), Cond.fieldLink RX4 15 "RenamingGrid$State" "processes" "I", Cond.methodLink RX5 52 yX4_isRunning, Cond.instanceMethod yX4_isRunning, Cond.selects RX4 yX4_isRunning yX4_isRunning, Cond.code yX4_isRunning cX4_isRunning 2 (some .boolean), Cond.fieldLink RX4 21 "RenamingGrid$State" "configuration" "J", Cond.methodLink RX4 47 yX0_statusIn, Cond.static yX0_statusIn, Cond.initialized RX0, Cond.code yX0_statusIn cX0_statusIn 3 (some .int), Cond.methodLink RX5 37 yX5_prepareChange, Cond.instanceMethod yX5_prepareChange, Cond.selects RX5 yX5_prepareChange yX5_prepareChange, Cond.initialized RX5, Cond.code yX5_prepareChange cX5_prepareChange 1 none, Cond.fieldLink RX5 175 "RenamingGrid" "savedCount" "I", Cond.fieldLink RX5 23 "RenamingGrid" "saved" "[LRenamingGrid$State;", Cond.fieldLink RX5 137 "RenamingGrid" "told" "LRenamingGrid$Exploration;"]
def wsX5_step_r2 : List Cond := [Cond.methodLink RX5 178 yX5_discardOldestSaved, Cond.instanceMethod yX5_discardOldestSaved, Cond.selects RX5 yX5_discardOldestSaved yX5_discardOldestSaved, Cond.code yX5_discardOldestSaved cX5_discardOldestSaved 3 none, Cond.methodLink RX5 108 yX4_copyFrom, Cond.instanceMethod yX4_copyFrom, Cond.selects RX4 yX4_copyFrom yX4_copyFrom, Cond.code yX4_copyFrom cX4_copyFrom 2 none, Cond.fieldLink RX4 9 "RenamingGrid$State" "size" "I", Cond.fieldLink RX4 18 "RenamingGrid$State" "program" "I", Cond.fieldLink RX4 25 "RenamingGrid$State" "stepsMade" "J", Cond.fieldLink RX4 28 "RenamingGrid$State" "entries" "J", Cond.fieldLink RX4 31 "RenamingGrid$State" "rightExits" "J", Cond.fieldLink RX4 34 "RenamingGrid$State" "downExits" "J", Cond.methodLink RX5 55 yX4_advance, Cond.instanceMethod yX4_advance, Cond.selects RX4 yX4_advance yX4_advance, Cond.code yX4_advance cX4_advance 8 (some .int), Cond.methodLink RX4 61 yX0_afterStep, Cond.static yX0_afterStep, Cond.code yX0_afterStep cX0_afterStep 10 (some .long), Cond.methodLink RX0 15 yX0_splitterIn, Cond.static yX0_splitterIn, Cond.code yX0_splitterIn cX0_splitterIn 3 (some .int)]
def wsX5_step_r3 : List Cond := [Cond.methodLink RX0 26 yX0_phaseIn, Cond.static yX0_phaseIn, Cond.code yX0_phaseIn cX0_phaseIn 3 (some .int), Cond.methodLink RX0 29 yX0_withOwner, Cond.static yX0_withOwner, Cond.code yX0_withOwner cX0_withOwner 5 (some .long), Cond.constantLong RX0 22 (3), Cond.constantLong RX0 24 (-1), Cond.methodLink RX0 18 yX0_ownerShift, Cond.static yX0_ownerShift, Cond.code yX0_ownerShift cX0_ownerShift 1 (some .int), Cond.methodLink RX0 33 yX0_withPhase, Cond.static yX0_withPhase, Cond.code yX0_withPhase cX0_withPhase 5 (some .long), Cond.methodLink RX0 36 yX0_doorIn, Cond.static yX0_doorIn, Cond.code yX0_doorIn cX0_doorIn 3 (some .int), Cond.methodLink RX0 39 yX0_moved, Cond.static yX0_moved, Cond.code yX0_moved cX0_moved 12 (some .long), Cond.constantLong RX0 53 (255), Cond.constantLong RX0 58 (2), Cond.methodLink RX0 55 yX0_diagonalOf, Cond.static yX0_diagonalOf]
def wsX5_step_r4 : List Cond := [Cond.code yX0_diagonalOf cX0_diagonalOf 1 (some .int), Cond.methodLink RX0 43 yX0_ownerIn, Cond.static yX0_ownerIn, Cond.code yX0_ownerIn cX0_ownerIn 4 (some .int), Cond.methodLink RX0 46 yX0_withDoorClosed, Cond.static yX0_withDoorClosed, Cond.code yX0_withDoorClosed cX0_withDoorClosed 3 (some .long), Cond.methodLink RX0 50 yX0_withStatus, Cond.static yX0_withStatus, Cond.code yX0_withStatus cX0_withStatus 5 (some .long), Cond.methodLink RX4 37 yX1_withOneMore, Cond.static yX1_withOneMore, Cond.initialized RX1, Cond.code yX1_withOneMore cX1_withOneMore 3 (some .long), Cond.methodLink RX4 65 yX0_splitterIn, Cond.methodLink RX4 68 yX0_phaseIn, Cond.methodLink RX4 71 yX4_countExit, Cond.instanceMethod yX4_countExit, Cond.selects RX4 yX4_countExit yX4_countExit, Cond.code yX4_countExit cX4_countExit 3 none]
def wsX5_step : List Cond := .code yX5_step cX5_step 2 (some .int) :: ((wsX5_step_r1 ++ (wsX5_step_r2 ++ (wsX5_step_r3 ++ wsX5_step_r4))) ++ wsX50 ++ wsX40)
def wsX5_crash_r1 : List Cond := [Cond.fieldLink RX5 10 "RenamingGrid" "present" "LRenamingGrid$State;", Cond.methodLink RX5 48 yX4_hasProcess, Cond.instanceMethod yX4_hasProcess, Cond.selects RX4 yX4_hasProcess yX4_hasProcess, Cond.initialized RX4, Cond.code yX4_hasProcess cX4_hasProcess 2 (some .boolean), Cond.fieldLink RX4 15 "RenamingGrid$State" "processes" "I", Cond.methodLink RX5 52 yX4_isRunning, Cond.instanceMethod yX4_isRunning, Cond.selects RX4 yX4_isRunning yX4_isRunning, Cond.code yX4_isRunning cX4_isRunning 2 (some .boolean), Cond.fieldLink RX4 21 "RenamingGrid$State" "configuration" "J", Cond.methodLink RX4 47 yX0_statusIn, Cond.static yX0_statusIn, Cond.initialized RX0, Cond.code yX0_statusIn cX0_statusIn 3 (some .int), Cond.methodLink RX5 37 yX5_prepareChange, Cond.instanceMethod yX5_prepareChange, Cond.selects RX5 yX5_prepareChange yX5_prepareChange, Cond.initialized RX5, Cond.code yX5_prepareChange cX5_prepareChange 1 none, Cond.fieldLink RX5 175 "RenamingGrid" "savedCount" "I", Cond.fieldLink RX5 23 "RenamingGrid" "saved" "[LRenamingGrid$State;", Cond.fieldLink RX5 137 "RenamingGrid" "told" "LRenamingGrid$Exploration;"]
def wsX5_crash_r2 : List Cond := [Cond.methodLink RX5 178 yX5_discardOldestSaved, Cond.instanceMethod yX5_discardOldestSaved, Cond.selects RX5 yX5_discardOldestSaved yX5_discardOldestSaved, Cond.code yX5_discardOldestSaved cX5_discardOldestSaved 3 none, Cond.methodLink RX5 108 yX4_copyFrom, Cond.instanceMethod yX4_copyFrom, Cond.selects RX4 yX4_copyFrom yX4_copyFrom, Cond.code yX4_copyFrom cX4_copyFrom 2 none, Cond.fieldLink RX4 9 "RenamingGrid$State" "size" "I", Cond.fieldLink RX4 18 "RenamingGrid$State" "program" "I", Cond.fieldLink RX4 25 "RenamingGrid$State" "stepsMade" "J", Cond.fieldLink RX4 28 "RenamingGrid$State" "entries" "J", Cond.fieldLink RX4 31 "RenamingGrid$State" "rightExits" "J", Cond.fieldLink RX4 34 "RenamingGrid$State" "downExits" "J", Cond.methodLink RX5 59 yX4_markCrashed, Cond.instanceMethod yX4_markCrashed, Cond.selects RX4 yX4_markCrashed yX4_markCrashed, Cond.code yX4_markCrashed cX4_markCrashed 2 none, Cond.methodLink RX4 57 yX0_withStatus, Cond.static yX0_withStatus, Cond.code yX0_withStatus cX0_withStatus 5 (some .long), Cond.constantLong RX0 22 (3), Cond.constantLong RX0 24 (-1), Cond.methodLink RX5 63 yX4_countRunning]
def wsX5_crash_r3 : List Cond := [Cond.instanceMethod yX4_countRunning, Cond.selects RX4 yX4_countRunning yX4_countRunning, Cond.code yX4_countRunning cX4_countRunning 3 (some .int), Cond.methodLink RX4 53 yX4_isRunning]
def wsX5_crash : List Cond := .code yX5_crash cX5_crash 2 (some .int) :: ((wsX5_crash_r1 ++ (wsX5_crash_r2 ++ wsX5_crash_r3)) ++ wsX50 ++ wsX40)
def wsX5_append : List Cond := .code yX5_append cX5_append 2 (some .int) :: ([.fieldLink RX5 33 "RenamingGrid" "schedule" "LRenamingGrid$Schedule;", .methodLink RX5 66 yX3_isFull, .instanceMethod yX3_isFull, .selects RX3 yX3_isFull yX3_isFull, .initialized RX3, .code yX3_isFull cX3_isFull 1 (some .boolean), .fieldLink RX3 20 "RenamingGrid$Schedule" "length" "I", .fieldLink RX3 9 "RenamingGrid$Schedule" "text" "[C", .methodLink RX5 70 yX3_add, .instanceMethod yX3_add, .selects RX3 yX3_add yX3_add, .code yX3_add cX3_add 2 (some .int), .methodLink RX3 24 yX3_isFull] ++ wsX50 ++ wsX30)
def wsX5_clearText : List Cond := .code yX5_clearText cX5_clearText 1 (some .int) :: ([.fieldLink RX5 33 "RenamingGrid" "schedule" "LRenamingGrid$Schedule;", .methodLink RX5 74 yX3_clear, .instanceMethod yX3_clear, .selects RX3 yX3_clear yX3_clear, .initialized RX3, .code yX3_clear cX3_clear 2 (some .int), .fieldLink RX3 20 "RenamingGrid$Schedule" "length" "I"] ++ wsX50 ++ wsX30)
def wsX5_runText_r1 : List Cond := [Cond.fieldLink RX5 33 "RenamingGrid" "schedule" "LRenamingGrid$Schedule;", Cond.fieldLink RX5 10 "RenamingGrid" "present" "LRenamingGrid$State;", Cond.methodLink RX5 77 yX3_read, Cond.instanceMethod yX3_read, Cond.selects RX3 yX3_read yX3_read, Cond.initialized RX3, Cond.code yX3_read cX3_read 4 (some .int), Cond.fieldLink RX3 28 "RenamingGrid$Schedule" "items" "I", Cond.fieldLink RX3 20 "RenamingGrid$Schedule" "length" "I", Cond.methodLink RX3 31 yX3_beginsToken, Cond.instanceMethod yX3_beginsToken, Cond.selects RX3 yX3_beginsToken yX3_beginsToken, Cond.code yX3_beginsToken cX3_beginsToken 3 (some .boolean), Cond.methodLink RX3 58 yX3_digitAt, Cond.instanceMethod yX3_digitAt, Cond.selects RX3 yX3_digitAt yX3_digitAt, Cond.code yX3_digitAt cX3_digitAt 3 (some .int), Cond.methodLink RX3 49 yX3_characterAt, Cond.instanceMethod yX3_characterAt, Cond.selects RX3 yX3_characterAt yX3_characterAt, Cond.code yX3_characterAt cX3_characterAt 2 (some .int), Cond.fieldLink RX3 9 "RenamingGrid$Schedule" "text" "[C", Cond.methodLink RX3 35 yX3_afterToken, Cond.instanceMethod yX3_afterToken]
def wsX5_runText_r2 : List Cond := [Cond.selects RX3 yX3_afterToken yX3_afterToken, Cond.code yX3_afterToken cX3_afterToken 6 (some .int), Cond.methodLink RX3 45 yX3_numberAt, Cond.instanceMethod yX3_numberAt, Cond.selects RX3 yX3_numberAt yX3_numberAt, Cond.code yX3_numberAt cX3_numberAt 4 (some .int), Cond.methodLink RX3 52 yX3_addItem, Cond.instanceMethod yX3_addItem, Cond.selects RX3 yX3_addItem yX3_addItem, Cond.code yX3_addItem cX3_addItem 2 (some .boolean), Cond.fieldLink RX3 13 "RenamingGrid$Schedule" "itemProcesses" "[I", Cond.fieldLink RX3 17 "RenamingGrid$Schedule" "itemCounts" "[I", Cond.methodLink RX3 55 yX3_setCount, Cond.instanceMethod yX3_setCount, Cond.selects RX3 yX3_setCount yX3_setCount, Cond.code yX3_setCount cX3_setCount 2 (some .boolean), Cond.methodLink RX5 37 yX5_prepareChange, Cond.instanceMethod yX5_prepareChange, Cond.selects RX5 yX5_prepareChange yX5_prepareChange, Cond.initialized RX5, Cond.code yX5_prepareChange cX5_prepareChange 1 none, Cond.fieldLink RX5 175 "RenamingGrid" "savedCount" "I", Cond.fieldLink RX5 23 "RenamingGrid" "saved" "[LRenamingGrid$State;", Cond.fieldLink RX5 137 "RenamingGrid" "told" "LRenamingGrid$Exploration;"]
def wsX5_runText_r3 : List Cond := [Cond.methodLink RX5 178 yX5_discardOldestSaved, Cond.instanceMethod yX5_discardOldestSaved, Cond.selects RX5 yX5_discardOldestSaved yX5_discardOldestSaved, Cond.code yX5_discardOldestSaved cX5_discardOldestSaved 3 none, Cond.methodLink RX5 108 yX4_copyFrom, Cond.instanceMethod yX4_copyFrom, Cond.selects RX4 yX4_copyFrom yX4_copyFrom, Cond.initialized RX4, Cond.code yX4_copyFrom cX4_copyFrom 2 none, Cond.fieldLink RX4 9 "RenamingGrid$State" "size" "I", Cond.fieldLink RX4 15 "RenamingGrid$State" "processes" "I", Cond.fieldLink RX4 18 "RenamingGrid$State" "program" "I", Cond.fieldLink RX4 21 "RenamingGrid$State" "configuration" "J", Cond.fieldLink RX4 25 "RenamingGrid$State" "stepsMade" "J", Cond.fieldLink RX4 28 "RenamingGrid$State" "entries" "J", Cond.fieldLink RX4 31 "RenamingGrid$State" "rightExits" "J", Cond.fieldLink RX4 34 "RenamingGrid$State" "downExits" "J", Cond.methodLink RX5 80 yX3_executeOn, Cond.instanceMethod yX3_executeOn, Cond.selects RX3 yX3_executeOn yX3_executeOn, Cond.code yX3_executeOn cX3_executeOn 4 (some .int), Cond.methodLink RX3 39 yX4_advanceUpTo, Cond.instanceMethod yX4_advanceUpTo, Cond.selects RX4 yX4_advanceUpTo yX4_advanceUpTo]
def wsX5_runText_r4 : List Cond := [Cond.code yX4_advanceUpTo cX4_advanceUpTo 4 (some .int), Cond.methodLink RX4 53 yX4_isRunning, Cond.instanceMethod yX4_isRunning, Cond.selects RX4 yX4_isRunning yX4_isRunning, Cond.code yX4_isRunning cX4_isRunning 2 (some .boolean), Cond.methodLink RX4 47 yX0_statusIn, Cond.static yX0_statusIn, Cond.initialized RX0, Cond.code yX0_statusIn cX0_statusIn 3 (some .int), Cond.methodLink RX4 75 yX4_advance, Cond.instanceMethod yX4_advance, Cond.selects RX4 yX4_advance yX4_advance, Cond.code yX4_advance cX4_advance 8 (some .int), Cond.methodLink RX4 61 yX0_afterStep, Cond.static yX0_afterStep, Cond.code yX0_afterStep cX0_afterStep 10 (some .long), Cond.methodLink RX0 15 yX0_splitterIn, Cond.static yX0_splitterIn, Cond.code yX0_splitterIn cX0_splitterIn 3 (some .int), Cond.methodLink RX0 26 yX0_phaseIn, Cond.static yX0_phaseIn, Cond.code yX0_phaseIn cX0_phaseIn 3 (some .int), Cond.methodLink RX0 29 yX0_withOwner, Cond.static yX0_withOwner]
def wsX5_runText_r5 : List Cond := [Cond.code yX0_withOwner cX0_withOwner 5 (some .long), Cond.constantLong RX0 22 (3), Cond.constantLong RX0 24 (-1), Cond.methodLink RX0 18 yX0_ownerShift, Cond.static yX0_ownerShift, Cond.code yX0_ownerShift cX0_ownerShift 1 (some .int), Cond.methodLink RX0 33 yX0_withPhase, Cond.static yX0_withPhase, Cond.code yX0_withPhase cX0_withPhase 5 (some .long), Cond.methodLink RX0 36 yX0_doorIn, Cond.static yX0_doorIn, Cond.code yX0_doorIn cX0_doorIn 3 (some .int), Cond.methodLink RX0 39 yX0_moved, Cond.static yX0_moved, Cond.code yX0_moved cX0_moved 12 (some .long), Cond.constantLong RX0 53 (255), Cond.constantLong RX0 58 (2), Cond.methodLink RX0 55 yX0_diagonalOf, Cond.static yX0_diagonalOf, Cond.code yX0_diagonalOf cX0_diagonalOf 1 (some .int), Cond.methodLink RX0 43 yX0_ownerIn, Cond.static yX0_ownerIn, Cond.code yX0_ownerIn cX0_ownerIn 4 (some .int), Cond.methodLink RX0 46 yX0_withDoorClosed]
def wsX5_runText_r6 : List Cond := [Cond.static yX0_withDoorClosed, Cond.code yX0_withDoorClosed cX0_withDoorClosed 3 (some .long), Cond.methodLink RX0 50 yX0_withStatus, Cond.static yX0_withStatus, Cond.code yX0_withStatus cX0_withStatus 5 (some .long), Cond.methodLink RX4 37 yX1_withOneMore, Cond.static yX1_withOneMore, Cond.initialized RX1, Cond.code yX1_withOneMore cX1_withOneMore 3 (some .long), Cond.methodLink RX4 65 yX0_splitterIn, Cond.methodLink RX4 68 yX0_phaseIn, Cond.methodLink RX4 71 yX4_countExit, Cond.instanceMethod yX4_countExit, Cond.selects RX4 yX4_countExit yX4_countExit, Cond.code yX4_countExit cX4_countExit 3 none, Cond.methodLink RX5 74 yX3_clear, Cond.instanceMethod yX3_clear, Cond.selects RX3 yX3_clear yX3_clear, Cond.code yX3_clear cX3_clear 2 (some .int)]
def wsX5_runText : List Cond := .code yX5_runText cX5_runText 3 (some .int) :: ((wsX5_runText_r1 ++ (wsX5_runText_r2 ++ (wsX5_runText_r3 ++ (wsX5_runText_r4 ++ (wsX5_runText_r5 ++ wsX5_runText_r6))))) ++ wsX50 ++ wsX40 ++ wsX30)
def wsX5_status : List Cond := .code yX5_status cX5_status 2 (some .int) :: ([.fieldLink RX5 10 "RenamingGrid" "present" "LRenamingGrid$State;", .methodLink RX5 48 yX4_hasProcess, .instanceMethod yX4_hasProcess, .selects RX4 yX4_hasProcess yX4_hasProcess, .initialized RX4, .code yX4_hasProcess cX4_hasProcess 2 (some .boolean), .fieldLink RX4 15 "RenamingGrid$State" "processes" "I", .methodLink RX5 88 yX0_statusIn, .static yX0_statusIn, .initialized RX0, .code yX0_statusIn cX0_statusIn 3 (some .int)] ++ wsX50 ++ wsX40)
def wsX5_splitterOf : List Cond := .code yX5_splitterOf cX5_splitterOf 2 (some .int) :: ([.fieldLink RX5 10 "RenamingGrid" "present" "LRenamingGrid$State;", .methodLink RX5 48 yX4_hasProcess, .instanceMethod yX4_hasProcess, .selects RX4 yX4_hasProcess yX4_hasProcess, .initialized RX4, .code yX4_hasProcess cX4_hasProcess 2 (some .boolean), .fieldLink RX4 15 "RenamingGrid$State" "processes" "I", .methodLink RX5 88 yX0_statusIn, .static yX0_statusIn, .initialized RX0, .code yX0_statusIn cX0_statusIn 3 (some .int), .methodLink RX5 94 yX0_splitterIn, .static yX0_splitterIn, .code yX0_splitterIn cX0_splitterIn 3 (some .int)] ++ wsX50 ++ wsX40)
def wsX5_phaseOf : List Cond := .code yX5_phaseOf cX5_phaseOf 2 (some .int) :: ([.fieldLink RX5 10 "RenamingGrid" "present" "LRenamingGrid$State;", .methodLink RX5 48 yX4_hasProcess, .instanceMethod yX4_hasProcess, .selects RX4 yX4_hasProcess yX4_hasProcess, .initialized RX4, .code yX4_hasProcess cX4_hasProcess 2 (some .boolean), .fieldLink RX4 15 "RenamingGrid$State" "processes" "I", .methodLink RX5 88 yX0_statusIn, .static yX0_statusIn, .initialized RX0, .code yX0_statusIn cX0_statusIn 3 (some .int), .methodLink RX5 97 yX0_phaseIn, .static yX0_phaseIn, .code yX0_phaseIn cX0_phaseIn 3 (some .int)] ++ wsX50 ++ wsX40)
def wsX5_stepsOf : List Cond := .code yX5_stepsOf cX5_stepsOf 2 (some .int) :: ([.fieldLink RX5 10 "RenamingGrid" "present" "LRenamingGrid$State;", .methodLink RX5 48 yX4_hasProcess, .instanceMethod yX4_hasProcess, .selects RX4 yX4_hasProcess yX4_hasProcess, .initialized RX4, .code yX4_hasProcess cX4_hasProcess 2 (some .boolean), .fieldLink RX4 15 "RenamingGrid$State" "processes" "I", .methodLink RX5 103 yX1_countIn, .static yX1_countIn, .initialized RX1, .code yX1_countIn cX1_countIn 3 (some .int)] ++ wsX50 ++ wsX40)
def wsX5_soloSteps_r1 : List Cond := [Cond.fieldLink RX5 10 "RenamingGrid" "present" "LRenamingGrid$State;", Cond.fieldLink RX5 20 "RenamingGrid" "scratch" "LRenamingGrid$State;", Cond.methodLink RX5 48 yX4_hasProcess, Cond.instanceMethod yX4_hasProcess, Cond.selects RX4 yX4_hasProcess yX4_hasProcess, Cond.initialized RX4, Cond.code yX4_hasProcess cX4_hasProcess 2 (some .boolean), Cond.fieldLink RX4 15 "RenamingGrid$State" "processes" "I", Cond.methodLink RX5 108 yX4_copyFrom, Cond.instanceMethod yX4_copyFrom, Cond.selects RX4 yX4_copyFrom yX4_copyFrom, Cond.code yX4_copyFrom cX4_copyFrom 2 none, Cond.fieldLink RX4 9 "RenamingGrid$State" "size" "I", Cond.fieldLink RX4 18 "RenamingGrid$State" "program" "I", Cond.fieldLink RX4 21 "RenamingGrid$State" "configuration" "J", Cond.fieldLink RX4 25 "RenamingGrid$State" "stepsMade" "J", Cond.fieldLink RX4 28 "RenamingGrid$State" "entries" "J", Cond.fieldLink RX4 31 "RenamingGrid$State" "rightExits" "J", Cond.fieldLink RX4 34 "RenamingGrid$State" "downExits" "J", Cond.methodLink RX5 112 yX4_advanceUpTo, Cond.instanceMethod yX4_advanceUpTo, Cond.selects RX4 yX4_advanceUpTo yX4_advanceUpTo, Cond.code yX4_advanceUpTo cX4_advanceUpTo 4 (some .int), Cond.methodLink RX4 53 yX4_isRunning]
def wsX5_soloSteps_r2 : List Cond := [Cond.instanceMethod yX4_isRunning, Cond.selects RX4 yX4_isRunning yX4_isRunning, Cond.code yX4_isRunning cX4_isRunning 2 (some .boolean), Cond.methodLink RX4 47 yX0_statusIn, Cond.static yX0_statusIn, Cond.initialized RX0, Cond.code yX0_statusIn cX0_statusIn 3 (some .int), Cond.methodLink RX4 75 yX4_advance, Cond.instanceMethod yX4_advance, Cond.selects RX4 yX4_advance yX4_advance, Cond.code yX4_advance cX4_advance 8 (some .int), Cond.methodLink RX4 61 yX0_afterStep, Cond.static yX0_afterStep, Cond.code yX0_afterStep cX0_afterStep 10 (some .long), Cond.methodLink RX0 15 yX0_splitterIn, Cond.static yX0_splitterIn, Cond.code yX0_splitterIn cX0_splitterIn 3 (some .int), Cond.methodLink RX0 26 yX0_phaseIn, Cond.static yX0_phaseIn, Cond.code yX0_phaseIn cX0_phaseIn 3 (some .int), Cond.methodLink RX0 29 yX0_withOwner, Cond.static yX0_withOwner, Cond.code yX0_withOwner cX0_withOwner 5 (some .long), Cond.constantLong RX0 22 (3)]
def wsX5_soloSteps_r3 : List Cond := [Cond.constantLong RX0 24 (-1), Cond.methodLink RX0 18 yX0_ownerShift, Cond.static yX0_ownerShift, Cond.code yX0_ownerShift cX0_ownerShift 1 (some .int), Cond.methodLink RX0 33 yX0_withPhase, Cond.static yX0_withPhase, Cond.code yX0_withPhase cX0_withPhase 5 (some .long), Cond.methodLink RX0 36 yX0_doorIn, Cond.static yX0_doorIn, Cond.code yX0_doorIn cX0_doorIn 3 (some .int), Cond.methodLink RX0 39 yX0_moved, Cond.static yX0_moved, Cond.code yX0_moved cX0_moved 12 (some .long), Cond.constantLong RX0 53 (255), Cond.constantLong RX0 58 (2), Cond.methodLink RX0 55 yX0_diagonalOf, Cond.static yX0_diagonalOf, Cond.code yX0_diagonalOf cX0_diagonalOf 1 (some .int), Cond.methodLink RX0 43 yX0_ownerIn, Cond.static yX0_ownerIn, Cond.code yX0_ownerIn cX0_ownerIn 4 (some .int), Cond.methodLink RX0 46 yX0_withDoorClosed, Cond.static yX0_withDoorClosed, Cond.code yX0_withDoorClosed cX0_withDoorClosed 3 (some .long)]
def wsX5_soloSteps_r4 : List Cond := [Cond.methodLink RX0 50 yX0_withStatus, Cond.static yX0_withStatus, Cond.code yX0_withStatus cX0_withStatus 5 (some .long), Cond.methodLink RX4 37 yX1_withOneMore, Cond.static yX1_withOneMore, Cond.initialized RX1, Cond.code yX1_withOneMore cX1_withOneMore 3 (some .long), Cond.methodLink RX4 65 yX0_splitterIn, Cond.methodLink RX4 68 yX0_phaseIn, Cond.methodLink RX4 71 yX4_countExit, Cond.instanceMethod yX4_countExit, Cond.selects RX4 yX4_countExit yX4_countExit, Cond.code yX4_countExit cX4_countExit 3 none]
def wsX5_soloSteps : List Cond := .code yX5_soloSteps cX5_soloSteps 2 (some .int) :: ((wsX5_soloSteps_r1 ++ (wsX5_soloSteps_r2 ++ (wsX5_soloSteps_r3 ++ wsX5_soloSteps_r4))) ++ wsX50 ++ wsX40)
def wsX5_soloName_r1 : List Cond := [Cond.fieldLink RX5 10 "RenamingGrid" "present" "LRenamingGrid$State;", Cond.fieldLink RX5 20 "RenamingGrid" "scratch" "LRenamingGrid$State;", Cond.methodLink RX5 48 yX4_hasProcess, Cond.instanceMethod yX4_hasProcess, Cond.selects RX4 yX4_hasProcess yX4_hasProcess, Cond.initialized RX4, Cond.code yX4_hasProcess cX4_hasProcess 2 (some .boolean), Cond.fieldLink RX4 15 "RenamingGrid$State" "processes" "I", Cond.methodLink RX5 108 yX4_copyFrom, Cond.instanceMethod yX4_copyFrom, Cond.selects RX4 yX4_copyFrom yX4_copyFrom, Cond.code yX4_copyFrom cX4_copyFrom 2 none, Cond.fieldLink RX4 9 "RenamingGrid$State" "size" "I", Cond.fieldLink RX4 18 "RenamingGrid$State" "program" "I", Cond.fieldLink RX4 21 "RenamingGrid$State" "configuration" "J", Cond.fieldLink RX4 25 "RenamingGrid$State" "stepsMade" "J", Cond.fieldLink RX4 28 "RenamingGrid$State" "entries" "J", Cond.fieldLink RX4 31 "RenamingGrid$State" "rightExits" "J", Cond.fieldLink RX4 34 "RenamingGrid$State" "downExits" "J", Cond.methodLink RX5 112 yX4_advanceUpTo, Cond.instanceMethod yX4_advanceUpTo, Cond.selects RX4 yX4_advanceUpTo yX4_advanceUpTo, Cond.code yX4_advanceUpTo cX4_advanceUpTo 4 (some .int), Cond.methodLink RX4 53 yX4_isRunning]
def wsX5_soloName_r2 : List Cond := [Cond.instanceMethod yX4_isRunning, Cond.selects RX4 yX4_isRunning yX4_isRunning, Cond.code yX4_isRunning cX4_isRunning 2 (some .boolean), Cond.methodLink RX4 47 yX0_statusIn, Cond.static yX0_statusIn, Cond.initialized RX0, Cond.code yX0_statusIn cX0_statusIn 3 (some .int), Cond.methodLink RX4 75 yX4_advance, Cond.instanceMethod yX4_advance, Cond.selects RX4 yX4_advance yX4_advance, Cond.code yX4_advance cX4_advance 8 (some .int), Cond.methodLink RX4 61 yX0_afterStep, Cond.static yX0_afterStep, Cond.code yX0_afterStep cX0_afterStep 10 (some .long), Cond.methodLink RX0 15 yX0_splitterIn, Cond.static yX0_splitterIn, Cond.code yX0_splitterIn cX0_splitterIn 3 (some .int), Cond.methodLink RX0 26 yX0_phaseIn, Cond.static yX0_phaseIn, Cond.code yX0_phaseIn cX0_phaseIn 3 (some .int), Cond.methodLink RX0 29 yX0_withOwner, Cond.static yX0_withOwner, Cond.code yX0_withOwner cX0_withOwner 5 (some .long), Cond.constantLong RX0 22 (3)]
def wsX5_soloName_r3 : List Cond := [Cond.constantLong RX0 24 (-1), Cond.methodLink RX0 18 yX0_ownerShift, Cond.static yX0_ownerShift, Cond.code yX0_ownerShift cX0_ownerShift 1 (some .int), Cond.methodLink RX0 33 yX0_withPhase, Cond.static yX0_withPhase, Cond.code yX0_withPhase cX0_withPhase 5 (some .long), Cond.methodLink RX0 36 yX0_doorIn, Cond.static yX0_doorIn, Cond.code yX0_doorIn cX0_doorIn 3 (some .int), Cond.methodLink RX0 39 yX0_moved, Cond.static yX0_moved, Cond.code yX0_moved cX0_moved 12 (some .long), Cond.constantLong RX0 53 (255), Cond.constantLong RX0 58 (2), Cond.methodLink RX0 55 yX0_diagonalOf, Cond.static yX0_diagonalOf, Cond.code yX0_diagonalOf cX0_diagonalOf 1 (some .int), Cond.methodLink RX0 43 yX0_ownerIn, Cond.static yX0_ownerIn, Cond.code yX0_ownerIn cX0_ownerIn 4 (some .int), Cond.methodLink RX0 46 yX0_withDoorClosed, Cond.static yX0_withDoorClosed, Cond.code yX0_withDoorClosed cX0_withDoorClosed 3 (some .long)]
def wsX5_soloName_r4 : List Cond := [Cond.methodLink RX0 50 yX0_withStatus, Cond.static yX0_withStatus, Cond.code yX0_withStatus cX0_withStatus 5 (some .long), Cond.methodLink RX4 37 yX1_withOneMore, Cond.static yX1_withOneMore, Cond.initialized RX1, Cond.code yX1_withOneMore cX1_withOneMore 3 (some .long), Cond.methodLink RX4 65 yX0_splitterIn, Cond.methodLink RX4 68 yX0_phaseIn, Cond.methodLink RX4 71 yX4_countExit, Cond.instanceMethod yX4_countExit, Cond.selects RX4 yX4_countExit yX4_countExit, Cond.code yX4_countExit cX4_countExit 3 none, Cond.methodLink RX5 116 yX0_nameIn, Cond.static yX0_nameIn, Cond.code yX0_nameIn cX0_nameIn 3 (some .int), Cond.methodLink RX0 11 yX0_statusIn]
def wsX5_soloName : List Cond := .code yX5_soloName cX5_soloName 2 (some .int) :: ((wsX5_soloName_r1 ++ (wsX5_soloName_r2 ++ (wsX5_soloName_r3 ++ wsX5_soloName_r4))) ++ wsX50 ++ wsX40)
def wsX5_owner : List Cond := .code yX5_owner cX5_owner 2 (some .int) :: ([.fieldLink RX5 10 "RenamingGrid" "present" "LRenamingGrid$State;", .methodLink RX5 119 yX4_hasSplitter, .instanceMethod yX4_hasSplitter, .selects RX4 yX4_hasSplitter yX4_hasSplitter, .initialized RX4, .code yX4_hasSplitter cX4_hasSplitter 2 (some .boolean), .methodLink RX4 43 yX4_names, .instanceMethod yX4_names, .selects RX4 yX4_names yX4_names, .code yX4_names cX4_names 1 (some .int), .fieldLink RX4 9 "RenamingGrid$State" "size" "I", .methodLink RX5 122 yX0_ownerIn, .static yX0_ownerIn, .initialized RX0, .code yX0_ownerIn cX0_ownerIn 4 (some .int), .methodLink RX0 18 yX0_ownerShift, .static yX0_ownerShift, .code yX0_ownerShift cX0_ownerShift 1 (some .int)] ++ wsX50 ++ wsX40)
def wsX5_door : List Cond := .code yX5_door cX5_door 2 (some .int) :: ([.fieldLink RX5 10 "RenamingGrid" "present" "LRenamingGrid$State;", .methodLink RX5 119 yX4_hasSplitter, .instanceMethod yX4_hasSplitter, .selects RX4 yX4_hasSplitter yX4_hasSplitter, .initialized RX4, .code yX4_hasSplitter cX4_hasSplitter 2 (some .boolean), .methodLink RX4 43 yX4_names, .instanceMethod yX4_names, .selects RX4 yX4_names yX4_names, .code yX4_names cX4_names 1 (some .int), .fieldLink RX4 9 "RenamingGrid$State" "size" "I", .methodLink RX5 125 yX0_doorIn, .static yX0_doorIn, .initialized RX0, .code yX0_doorIn cX0_doorIn 3 (some .int), .methodLink RX0 18 yX0_ownerShift, .static yX0_ownerShift, .code yX0_ownerShift cX0_ownerShift 1 (some .int)] ++ wsX50 ++ wsX40)
def wsX5_entered : List Cond := .code yX5_entered cX5_entered 2 (some .int) :: ([.fieldLink RX5 10 "RenamingGrid" "present" "LRenamingGrid$State;", .methodLink RX5 119 yX4_hasSplitter, .instanceMethod yX4_hasSplitter, .selects RX4 yX4_hasSplitter yX4_hasSplitter, .initialized RX4, .code yX4_hasSplitter cX4_hasSplitter 2 (some .boolean), .methodLink RX4 43 yX4_names, .instanceMethod yX4_names, .selects RX4 yX4_names yX4_names, .code yX4_names cX4_names 1 (some .int), .fieldLink RX4 9 "RenamingGrid$State" "size" "I", .methodLink RX5 103 yX1_countIn, .static yX1_countIn, .initialized RX1, .code yX1_countIn cX1_countIn 3 (some .int)] ++ wsX50 ++ wsX40)
def wsX5_left : List Cond := .code yX5_left cX5_left 3 (some .int) :: ([.fieldLink RX5 10 "RenamingGrid" "present" "LRenamingGrid$State;", .methodLink RX5 119 yX4_hasSplitter, .instanceMethod yX4_hasSplitter, .selects RX4 yX4_hasSplitter yX4_hasSplitter, .initialized RX4, .code yX4_hasSplitter cX4_hasSplitter 2 (some .boolean), .methodLink RX4 43 yX4_names, .instanceMethod yX4_names, .selects RX4 yX4_names yX4_names, .code yX4_names cX4_names 1 (some .int), .fieldLink RX4 9 "RenamingGrid$State" "size" "I", .methodLink RX5 103 yX1_countIn, .static yX1_countIn, .initialized RX1, .code yX1_countIn cX1_countIn 3 (some .int)] ++ wsX50 ++ wsX40)
def wsX5_explore_r1 : List Cond := [Cond.fieldLink RX5 137 "RenamingGrid" "told" "LRenamingGrid$Exploration;", Cond.fieldLink RX5 146 "RenamingGrid" "workspace" "LRenamingGrid$Exploration;", Cond.classLink RX5 142 RX2, Cond.instantiable RX2 7, Cond.initialized RX2, Cond.fieldLink RX5 10 "RenamingGrid" "present" "LRenamingGrid$State;", Cond.instanceMethod yX2_init, Cond.code yX2_init cX2_init 1 none, Cond.methodLink RX2 3 objectInit, Cond.instanceMethod objectInit, Cond.code objectInit ⟨#[0xb1]⟩ 1 none, Cond.arrayClass .long, Cond.fieldLink RX2 11 "RenamingGrid$Exploration" "found" "[J", Cond.arrayClass .int, Cond.fieldLink RX2 15 "RenamingGrid$Exploration" "parents" "[I", Cond.fieldLink RX2 19 "RenamingGrid$Exploration" "movers" "[I", Cond.fieldLink RX2 22 "RenamingGrid$Exploration" "table" "[I", Cond.fieldLink RX2 25 "RenamingGrid$Exploration" "outcomes" "[J", Cond.methodLink RX5 150 yX2_findAllFrom, Cond.instanceMethod yX2_findAllFrom, Cond.selects RX2 yX2_findAllFrom yX2_findAllFrom, Cond.code yX2_findAllFrom cX2_findAllFrom 4 (some .boolean), Cond.fieldLink RX2 34 "RenamingGrid$Exploration" "count" "I", Cond.fieldLink RX2 43 "RenamingGrid$Exploration" "processes" "I"]
def wsX5_explore_r2 : List Cond := [Cond.methodLink RX2 28 yJ7_fill_53178, Cond.static yJ7_fill_53178, Cond.initialized RJ7, Cond.code yJ7_fill_53178 cJ7_fill_53178 4 none, Cond.methodLink RX2 48 yX2_find, Cond.instanceMethod yX2_find, Cond.selects RX2 yX2_find yX2_find, Cond.code yX2_find cX2_find 9 (some .boolean), Cond.constantLong RX2 76 (-7046029254386353131), Cond.methodLink RX2 78 yX2_keep, Cond.instanceMethod yX2_keep, Cond.selects RX2 yX2_keep yX2_keep, Cond.code yX2_keep cX2_keep 5 (some .boolean), Cond.methodLink RX2 56 yX2_foundAt, Cond.instanceMethod yX2_foundAt, Cond.selects RX2 yX2_foundAt yX2_foundAt, Cond.code yX2_foundAt cX2_foundAt 2 (some .long), Cond.methodLink RX2 52 yX2_findNext, Cond.instanceMethod yX2_findNext, Cond.selects RX2 yX2_findNext yX2_findNext, Cond.code yX2_findNext cX2_findNext 8 (some .boolean), Cond.methodLink RX2 60 yX0_statusIn, Cond.static yX0_statusIn, Cond.initialized RX0]
def wsX5_explore_r3 : List Cond := [Cond.code yX0_statusIn cX0_statusIn 3 (some .int), Cond.methodLink RX2 72 yX0_afterStep, Cond.static yX0_afterStep, Cond.code yX0_afterStep cX0_afterStep 10 (some .long), Cond.methodLink RX0 15 yX0_splitterIn, Cond.static yX0_splitterIn, Cond.code yX0_splitterIn cX0_splitterIn 3 (some .int), Cond.methodLink RX0 26 yX0_phaseIn, Cond.static yX0_phaseIn, Cond.code yX0_phaseIn cX0_phaseIn 3 (some .int), Cond.methodLink RX0 29 yX0_withOwner, Cond.static yX0_withOwner, Cond.code yX0_withOwner cX0_withOwner 5 (some .long), Cond.constantLong RX0 22 (3), Cond.constantLong RX0 24 (-1), Cond.methodLink RX0 18 yX0_ownerShift, Cond.static yX0_ownerShift, Cond.code yX0_ownerShift cX0_ownerShift 1 (some .int), Cond.methodLink RX0 33 yX0_withPhase, Cond.static yX0_withPhase, Cond.code yX0_withPhase cX0_withPhase 5 (some .long), Cond.methodLink RX0 36 yX0_doorIn, Cond.static yX0_doorIn, Cond.code yX0_doorIn cX0_doorIn 3 (some .int)]
def wsX5_explore_r4 : List Cond := [Cond.methodLink RX0 39 yX0_moved, Cond.static yX0_moved, Cond.code yX0_moved cX0_moved 12 (some .long), Cond.constantLong RX0 53 (255), Cond.constantLong RX0 58 (2), Cond.methodLink RX0 55 yX0_diagonalOf, Cond.static yX0_diagonalOf, Cond.code yX0_diagonalOf cX0_diagonalOf 1 (some .int), Cond.methodLink RX0 43 yX0_ownerIn, Cond.static yX0_ownerIn, Cond.code yX0_ownerIn cX0_ownerIn 4 (some .int), Cond.methodLink RX0 46 yX0_withDoorClosed, Cond.static yX0_withDoorClosed, Cond.code yX0_withDoorClosed cX0_withDoorClosed 3 (some .long), Cond.methodLink RX0 50 yX0_withStatus, Cond.static yX0_withStatus, Cond.code yX0_withStatus cX0_withStatus 5 (some .long)]
def wsX5_explore : List Cond := .code yX5_explore cX5_explore 1 (some .int) :: ((wsX5_explore_r1 ++ (wsX5_explore_r2 ++ (wsX5_explore_r3 ++ wsX5_explore_r4))) ++ wsX50 ++ wsX20 ++ wsX40)
def wsX5_finalCount : List Cond := .code yX5_finalCount cX5_finalCount 1 (some .int) :: ([.fieldLink RX5 137 "RenamingGrid" "told" "LRenamingGrid$Exploration;", .methodLink RX5 154 yX2_countFinals, .instanceMethod yX2_countFinals, .selects RX2 yX2_countFinals yX2_countFinals, .initialized RX2, .code yX2_countFinals cX2_countFinals 3 (some .int), .fieldLink RX2 34 "RenamingGrid$Exploration" "count" "I", .methodLink RX2 56 yX2_foundAt, .instanceMethod yX2_foundAt, .selects RX2 yX2_foundAt yX2_foundAt, .code yX2_foundAt cX2_foundAt 2 (some .long), .fieldLink RX2 11 "RenamingGrid$Exploration" "found" "[J", .methodLink RX2 81 yX2_isFinal, .instanceMethod yX2_isFinal, .selects RX2 yX2_isFinal yX2_isFinal, .code yX2_isFinal cX2_isFinal 4 (some .boolean), .fieldLink RX2 43 "RenamingGrid$Exploration" "processes" "I", .methodLink RX2 60 yX0_statusIn, .static yX0_statusIn, .initialized RX0, .code yX0_statusIn cX0_statusIn 3 (some .int)] ++ wsX50 ++ wsX20)
def wsX5_violationCount_r1 : List Cond := [Cond.fieldLink RX5 137 "RenamingGrid" "told" "LRenamingGrid$Exploration;", Cond.methodLink RX5 157 yX2_countViolations, Cond.instanceMethod yX2_countViolations, Cond.selects RX2 yX2_countViolations yX2_countViolations, Cond.initialized RX2, Cond.code yX2_countViolations cX2_countViolations 3 (some .int), Cond.fieldLink RX2 34 "RenamingGrid$Exploration" "count" "I", Cond.methodLink RX2 56 yX2_foundAt, Cond.instanceMethod yX2_foundAt, Cond.selects RX2 yX2_foundAt yX2_foundAt, Cond.code yX2_foundAt cX2_foundAt 2 (some .long), Cond.fieldLink RX2 11 "RenamingGrid$Exploration" "found" "[J", Cond.methodLink RX2 88 yX2_isViolation, Cond.instanceMethod yX2_isViolation, Cond.selects RX2 yX2_isViolation yX2_isViolation, Cond.code yX2_isViolation cX2_isViolation 6 (some .boolean), Cond.fieldLink RX2 43 "RenamingGrid$Exploration" "processes" "I", Cond.methodLink RX2 85 yX0_nameIn, Cond.static yX0_nameIn, Cond.initialized RX0, Cond.code yX0_nameIn cX0_nameIn 3 (some .int), Cond.methodLink RX0 11 yX0_statusIn, Cond.static yX0_statusIn, Cond.code yX0_statusIn cX0_statusIn 3 (some .int)]
def wsX5_violationCount_r2 : List Cond := [Cond.methodLink RX0 15 yX0_splitterIn, Cond.static yX0_splitterIn, Cond.code yX0_splitterIn cX0_splitterIn 3 (some .int)]
def wsX5_violationCount : List Cond := .code yX5_violationCount cX5_violationCount 1 (some .int) :: ((wsX5_violationCount_r1 ++ wsX5_violationCount_r2) ++ wsX50 ++ wsX20)
def wsX5_violationStep_r1 : List Cond := [Cond.fieldLink RX5 137 "RenamingGrid" "told" "LRenamingGrid$Exploration;", Cond.methodLink RX5 160 yX2_moverTowardsViolation, Cond.instanceMethod yX2_moverTowardsViolation, Cond.selects RX2 yX2_moverTowardsViolation yX2_moverTowardsViolation, Cond.initialized RX2, Cond.code yX2_moverTowardsViolation cX2_moverTowardsViolation 5 (some .int), Cond.fieldLink RX2 19 "RenamingGrid$Exploration" "movers" "[I", Cond.methodLink RX2 117 yX2_firstViolation, Cond.instanceMethod yX2_firstViolation, Cond.selects RX2 yX2_firstViolation yX2_firstViolation, Cond.code yX2_firstViolation cX2_firstViolation 2 (some .int), Cond.fieldLink RX2 34 "RenamingGrid$Exploration" "count" "I", Cond.methodLink RX2 56 yX2_foundAt, Cond.instanceMethod yX2_foundAt, Cond.selects RX2 yX2_foundAt yX2_foundAt, Cond.code yX2_foundAt cX2_foundAt 2 (some .long), Cond.fieldLink RX2 11 "RenamingGrid$Exploration" "found" "[J", Cond.methodLink RX2 88 yX2_isViolation, Cond.instanceMethod yX2_isViolation, Cond.selects RX2 yX2_isViolation yX2_isViolation, Cond.code yX2_isViolation cX2_isViolation 6 (some .boolean), Cond.fieldLink RX2 43 "RenamingGrid$Exploration" "processes" "I", Cond.methodLink RX2 85 yX0_nameIn, Cond.static yX0_nameIn]
def wsX5_violationStep_r2 : List Cond := [Cond.initialized RX0, Cond.code yX0_nameIn cX0_nameIn 3 (some .int), Cond.methodLink RX0 11 yX0_statusIn, Cond.static yX0_statusIn, Cond.code yX0_statusIn cX0_statusIn 3 (some .int), Cond.methodLink RX0 15 yX0_splitterIn, Cond.static yX0_splitterIn, Cond.code yX0_splitterIn cX0_splitterIn 3 (some .int), Cond.methodLink RX2 121 yX2_depthOf, Cond.instanceMethod yX2_depthOf, Cond.selects RX2 yX2_depthOf yX2_depthOf, Cond.code yX2_depthOf cX2_depthOf 4 (some .int), Cond.methodLink RX2 113 yX2_parentOf, Cond.instanceMethod yX2_parentOf, Cond.selects RX2 yX2_parentOf yX2_parentOf, Cond.code yX2_parentOf cX2_parentOf 2 (some .int), Cond.fieldLink RX2 15 "RenamingGrid$Exploration" "parents" "[I"]
def wsX5_violationStep : List Cond := .code yX5_violationStep cX5_violationStep 2 (some .int) :: ((wsX5_violationStep_r1 ++ wsX5_violationStep_r2) ++ wsX50 ++ wsX20)
def wsX5_greatestDepth : List Cond := .code yX5_greatestDepth cX5_greatestDepth 1 (some .int) :: ([.fieldLink RX5 137 "RenamingGrid" "told" "LRenamingGrid$Exploration;", .methodLink RX5 163 yX2_depthOf, .instanceMethod yX2_depthOf, .selects RX2 yX2_depthOf yX2_depthOf, .initialized RX2, .code yX2_depthOf cX2_depthOf 4 (some .int), .methodLink RX2 113 yX2_parentOf, .instanceMethod yX2_parentOf, .selects RX2 yX2_parentOf yX2_parentOf, .code yX2_parentOf cX2_parentOf 2 (some .int), .fieldLink RX2 15 "RenamingGrid$Exploration" "parents" "[I"] ++ wsX50 ++ wsX20)
def wsX5_greatestName_r1 : List Cond := [Cond.fieldLink RX5 137 "RenamingGrid" "told" "LRenamingGrid$Exploration;", Cond.methodLink RX5 166 yX2_highestName, Cond.instanceMethod yX2_highestName, Cond.selects RX2 yX2_highestName yX2_highestName, Cond.initialized RX2, Cond.code yX2_highestName cX2_highestName 4 (some .int), Cond.fieldLink RX2 34 "RenamingGrid$Exploration" "count" "I", Cond.fieldLink RX2 43 "RenamingGrid$Exploration" "processes" "I", Cond.methodLink RX2 107 Lib.Math.max.name, Cond.static Lib.Math.max.name, Cond.initialized "java/lang/Math", Cond.code Lib.Math.max.name Lib.Math.max.code 2 (some .int), Cond.methodLink RX2 56 yX2_foundAt, Cond.instanceMethod yX2_foundAt, Cond.selects RX2 yX2_foundAt yX2_foundAt, Cond.code yX2_foundAt cX2_foundAt 2 (some .long), Cond.fieldLink RX2 11 "RenamingGrid$Exploration" "found" "[J", Cond.methodLink RX2 85 yX0_nameIn, Cond.static yX0_nameIn, Cond.initialized RX0, Cond.code yX0_nameIn cX0_nameIn 3 (some .int), Cond.methodLink RX0 11 yX0_statusIn, Cond.static yX0_statusIn, Cond.code yX0_statusIn cX0_statusIn 3 (some .int)]
def wsX5_greatestName_r2 : List Cond := [Cond.methodLink RX0 15 yX0_splitterIn, Cond.static yX0_splitterIn, Cond.code yX0_splitterIn cX0_splitterIn 3 (some .int)]
def wsX5_greatestName : List Cond := .code yX5_greatestName cX5_greatestName 1 (some .int) :: ((wsX5_greatestName_r1 ++ wsX5_greatestName_r2) ++ wsX50 ++ wsX20)
def wsX5_outcomeCount_r1 : List Cond := [Cond.fieldLink RX5 137 "RenamingGrid" "told" "LRenamingGrid$Exploration;", Cond.methodLink RX5 169 yX2_countOutcomes, Cond.instanceMethod yX2_countOutcomes, Cond.selects RX2 yX2_countOutcomes yX2_countOutcomes, Cond.initialized RX2, Cond.code yX2_countOutcomes cX2_countOutcomes 3 (some .int), Cond.fieldLink RX2 25 "RenamingGrid$Exploration" "outcomes" "[J", Cond.fieldLink RX2 34 "RenamingGrid$Exploration" "count" "I", Cond.methodLink RX2 91 yJ7_fill_d0a16, Cond.static yJ7_fill_d0a16, Cond.initialized RJ7, Cond.code yJ7_fill_d0a16 cJ7_fill_d0a16 5 none, Cond.methodLink RX2 56 yX2_foundAt, Cond.instanceMethod yX2_foundAt, Cond.selects RX2 yX2_foundAt yX2_foundAt, Cond.code yX2_foundAt cX2_foundAt 2 (some .long), Cond.fieldLink RX2 11 "RenamingGrid$Exploration" "found" "[J", Cond.methodLink RX2 81 yX2_isFinal, Cond.instanceMethod yX2_isFinal, Cond.selects RX2 yX2_isFinal yX2_isFinal, Cond.code yX2_isFinal cX2_isFinal 4 (some .boolean), Cond.fieldLink RX2 43 "RenamingGrid$Exploration" "processes" "I", Cond.methodLink RX2 60 yX0_statusIn, Cond.static yX0_statusIn]
def wsX5_outcomeCount_r2 : List Cond := [Cond.initialized RX0, Cond.code yX0_statusIn cX0_statusIn 3 (some .int), Cond.methodLink RX2 94 yX2_outcomeOf, Cond.instanceMethod yX2_outcomeOf, Cond.selects RX2 yX2_outcomeOf yX2_outcomeOf, Cond.code yX2_outcomeOf cX2_outcomeOf 6 (some .int), Cond.methodLink RX2 85 yX0_nameIn, Cond.static yX0_nameIn, Cond.code yX0_nameIn cX0_nameIn 3 (some .int), Cond.methodLink RX0 11 yX0_statusIn, Cond.methodLink RX0 15 yX0_splitterIn, Cond.static yX0_splitterIn, Cond.code yX0_splitterIn cX0_splitterIn 3 (some .int), Cond.methodLink RX2 98 yX2_markOutcome, Cond.instanceMethod yX2_markOutcome, Cond.selects RX2 yX2_markOutcome yX2_markOutcome, Cond.code yX2_markOutcome cX2_markOutcome 3 none, Cond.methodLink RX2 102 yJ13_bitCount_95d88, Cond.static yJ13_bitCount_95d88, Cond.initialized RJ13, Cond.code yJ13_bitCount_95d88 cJ13_bitCount_95d88 2 (some .int), Cond.constantLong RJ13 314 (6148914691236517205), Cond.constantLong RJ13 316 (3689348814741910323), Cond.constantLong RJ13 318 (1085102592571150095)]
def wsX5_outcomeCount : List Cond := .code yX5_outcomeCount cX5_outcomeCount 1 (some .int) :: ((wsX5_outcomeCount_r1 ++ wsX5_outcomeCount_r2) ++ wsX50 ++ wsX20)
def wsX5_finalsWith_r1 : List Cond := [Cond.fieldLink RX5 10 "RenamingGrid" "present" "LRenamingGrid$State;", Cond.fieldLink RX5 137 "RenamingGrid" "told" "LRenamingGrid$Exploration;", Cond.methodLink RX5 48 yX4_hasProcess, Cond.instanceMethod yX4_hasProcess, Cond.selects RX4 yX4_hasProcess yX4_hasProcess, Cond.initialized RX4, Cond.code yX4_hasProcess cX4_hasProcess 2 (some .boolean), Cond.fieldLink RX4 15 "RenamingGrid$State" "processes" "I", Cond.methodLink RX5 119 yX4_hasSplitter, Cond.instanceMethod yX4_hasSplitter, Cond.selects RX4 yX4_hasSplitter yX4_hasSplitter, Cond.code yX4_hasSplitter cX4_hasSplitter 2 (some .boolean), Cond.methodLink RX4 43 yX4_names, Cond.instanceMethod yX4_names, Cond.selects RX4 yX4_names yX4_names, Cond.code yX4_names cX4_names 1 (some .int), Cond.fieldLink RX4 9 "RenamingGrid$State" "size" "I", Cond.methodLink RX5 172 yX2_countFinalsNamed, Cond.instanceMethod yX2_countFinalsNamed, Cond.selects RX2 yX2_countFinalsNamed yX2_countFinalsNamed, Cond.initialized RX2, Cond.code yX2_countFinalsNamed cX2_countFinalsNamed 7 (some .int), Cond.fieldLink RX2 34 "RenamingGrid$Exploration" "count" "I", Cond.methodLink RX2 56 yX2_foundAt]
def wsX5_finalsWith_r2 : List Cond := [Cond.instanceMethod yX2_foundAt, Cond.selects RX2 yX2_foundAt yX2_foundAt, Cond.code yX2_foundAt cX2_foundAt 2 (some .long), Cond.fieldLink RX2 11 "RenamingGrid$Exploration" "found" "[J", Cond.methodLink RX2 81 yX2_isFinal, Cond.instanceMethod yX2_isFinal, Cond.selects RX2 yX2_isFinal yX2_isFinal, Cond.code yX2_isFinal cX2_isFinal 4 (some .boolean), Cond.fieldLink RX2 43 "RenamingGrid$Exploration" "processes" "I", Cond.methodLink RX2 60 yX0_statusIn, Cond.static yX0_statusIn, Cond.initialized RX0, Cond.code yX0_statusIn cX0_statusIn 3 (some .int), Cond.methodLink RX2 85 yX0_nameIn, Cond.static yX0_nameIn, Cond.code yX0_nameIn cX0_nameIn 3 (some .int), Cond.methodLink RX0 11 yX0_statusIn, Cond.methodLink RX0 15 yX0_splitterIn, Cond.static yX0_splitterIn, Cond.code yX0_splitterIn cX0_splitterIn 3 (some .int)]
def wsX5_finalsWith : List Cond := .code yX5_finalsWith cX5_finalsWith 3 (some .int) :: ((wsX5_finalsWith_r1 ++ wsX5_finalsWith_r2) ++ wsX50 ++ wsX40 ++ wsX20)
def wsX5_undo : List Cond := .code yX5_undo cX5_undo 1 (some .int) :: ([.fieldLink RX5 175 "RenamingGrid" "savedCount" "I", .fieldLink RX5 23 "RenamingGrid" "saved" "[LRenamingGrid$State;", .fieldLink RX5 10 "RenamingGrid" "present" "LRenamingGrid$State;", .fieldLink RX5 137 "RenamingGrid" "told" "LRenamingGrid$Exploration;", .methodLink RX5 108 yX4_copyFrom, .instanceMethod yX4_copyFrom, .selects RX4 yX4_copyFrom yX4_copyFrom, .initialized RX4, .code yX4_copyFrom cX4_copyFrom 2 none, .fieldLink RX4 9 "RenamingGrid$State" "size" "I", .fieldLink RX4 15 "RenamingGrid$State" "processes" "I", .fieldLink RX4 18 "RenamingGrid$State" "program" "I", .fieldLink RX4 21 "RenamingGrid$State" "configuration" "J", .fieldLink RX4 25 "RenamingGrid$State" "stepsMade" "J", .fieldLink RX4 28 "RenamingGrid$State" "entries" "J", .fieldLink RX4 31 "RenamingGrid$State" "rightExits" "J", .fieldLink RX4 34 "RenamingGrid$State" "downExits" "J"] ++ wsX50 ++ wsX40)
def wsX5_save_r1 : List Cond := [Cond.fieldLink RX5 27 "RenamingGrid" "slots" "[LRenamingGrid$State;", Cond.classLink RX5 7 RX4, Cond.instantiable RX4 8, Cond.initialized RX4, Cond.fieldLink RX5 10 "RenamingGrid" "present" "LRenamingGrid$State;", Cond.instanceMethod yX4_init, Cond.code yX4_init cX4_init 1 none, Cond.methodLink RX4 3 objectInit, Cond.instanceMethod objectInit, Cond.code objectInit ⟨#[0xb1]⟩ 1 none, Cond.methodLink RX5 108 yX4_copyFrom, Cond.instanceMethod yX4_copyFrom, Cond.selects RX4 yX4_copyFrom yX4_copyFrom, Cond.code yX4_copyFrom cX4_copyFrom 2 none, Cond.fieldLink RX4 9 "RenamingGrid$State" "size" "I", Cond.fieldLink RX4 15 "RenamingGrid$State" "processes" "I", Cond.fieldLink RX4 18 "RenamingGrid$State" "program" "I", Cond.fieldLink RX4 21 "RenamingGrid$State" "configuration" "J", Cond.fieldLink RX4 25 "RenamingGrid$State" "stepsMade" "J", Cond.fieldLink RX4 28 "RenamingGrid$State" "entries" "J", Cond.fieldLink RX4 31 "RenamingGrid$State" "rightExits" "J", Cond.fieldLink RX4 34 "RenamingGrid$State" "downExits" "J", Cond.methodLink RX5 63 yX4_countRunning, Cond.instanceMethod yX4_countRunning]
def wsX5_save_r2 : List Cond := [Cond.selects RX4 yX4_countRunning yX4_countRunning, Cond.code yX4_countRunning cX4_countRunning 3 (some .int), Cond.methodLink RX4 53 yX4_isRunning, Cond.instanceMethod yX4_isRunning, Cond.selects RX4 yX4_isRunning yX4_isRunning, Cond.code yX4_isRunning cX4_isRunning 2 (some .boolean), Cond.methodLink RX4 47 yX0_statusIn, Cond.static yX0_statusIn, Cond.initialized RX0, Cond.code yX0_statusIn cX0_statusIn 3 (some .int)]
def wsX5_save : List Cond := .code yX5_save cX5_save 2 (some .int) :: ((wsX5_save_r1 ++ wsX5_save_r2) ++ wsX50 ++ wsX40)
def wsX5_restore_r1 : List Cond := [Cond.fieldLink RX5 27 "RenamingGrid" "slots" "[LRenamingGrid$State;", Cond.fieldLink RX5 10 "RenamingGrid" "present" "LRenamingGrid$State;", Cond.fieldLink RX5 175 "RenamingGrid" "savedCount" "I", Cond.fieldLink RX5 137 "RenamingGrid" "told" "LRenamingGrid$Exploration;", Cond.methodLink RX5 108 yX4_copyFrom, Cond.instanceMethod yX4_copyFrom, Cond.selects RX4 yX4_copyFrom yX4_copyFrom, Cond.initialized RX4, Cond.code yX4_copyFrom cX4_copyFrom 2 none, Cond.fieldLink RX4 9 "RenamingGrid$State" "size" "I", Cond.fieldLink RX4 15 "RenamingGrid$State" "processes" "I", Cond.fieldLink RX4 18 "RenamingGrid$State" "program" "I", Cond.fieldLink RX4 21 "RenamingGrid$State" "configuration" "J", Cond.fieldLink RX4 25 "RenamingGrid$State" "stepsMade" "J", Cond.fieldLink RX4 28 "RenamingGrid$State" "entries" "J", Cond.fieldLink RX4 31 "RenamingGrid$State" "rightExits" "J", Cond.fieldLink RX4 34 "RenamingGrid$State" "downExits" "J", Cond.methodLink RX5 63 yX4_countRunning, Cond.instanceMethod yX4_countRunning, Cond.selects RX4 yX4_countRunning yX4_countRunning, Cond.code yX4_countRunning cX4_countRunning 3 (some .int), Cond.methodLink RX4 53 yX4_isRunning, Cond.instanceMethod yX4_isRunning, Cond.selects RX4 yX4_isRunning yX4_isRunning]
def wsX5_restore_r2 : List Cond := [Cond.code yX4_isRunning cX4_isRunning 2 (some .boolean), Cond.methodLink RX4 47 yX0_statusIn, Cond.static yX0_statusIn, Cond.initialized RX0, Cond.code yX0_statusIn cX0_statusIn 3 (some .int)]
def wsX5_restore : List Cond := .code yX5_restore cX5_restore 2 (some .int) :: ((wsX5_restore_r1 ++ wsX5_restore_r2) ++ wsX50 ++ wsX40)
def wsX6_begin : List Cond := .code yX6_begin cX6_begin 5 none :: ([.fieldLink RX6 7 "RenamingGridModel" "s" "[I"] ++ wsX60)
def wsX6_init : List Cond := .code yX6_init cX6_init 1 none :: ([.methodLink RX6 1 objectInit, .instanceMethod objectInit, .code objectInit ⟨#[0xb1]⟩ 1 none, .arrayClass .int, .fieldLink RX6 7 "RenamingGridModel" "s" "[I", .fieldLink RX6 13 "RenamingGridModel" "history" "[I", .fieldLink RX6 16 "RenamingGridModel" "slots" "[I", .arrayClass .boolean, .fieldLink RX6 19 "RenamingGridModel" "isSaved" "[Z", .fieldLink RX6 23 "RenamingGridModel" "text" "[I", .fieldLink RX6 26 "RenamingGridModel" "registersOf" "[I", .fieldLink RX6 29 "RenamingGridModel" "processesOf" "[I", .fieldLink RX6 32 "RenamingGridModel" "depthOf" "[I", .fieldLink RX6 35 "RenamingGridModel" "parentOf" "[I", .fieldLink RX6 38 "RenamingGridModel" "byOf" "[I", .fieldLink RX6 41 "RenamingGridModel" "table" "[I", .fieldLink RX6 44 "RenamingGridModel" "finalsBy" "[I", .fieldLink RX6 47 "RenamingGridModel" "path" "[I", .fieldLink RX6 50 "RenamingGridModel" "isOutcome" "[Z", .methodLink RX6 53 yX6_begin, .instanceMethod yX6_begin, .selects RX6 yX6_begin yX6_begin, .initialized RX6, .code yX6_begin cX6_begin 5 none] ++ wsX60)
def wsX6_in : List Cond := .code yX6_in cX6_in 3 (some .boolean) :: ([])
def wsX6_statusIn : List Cond := .code yX6_statusIn cX6_statusIn 2 (some .int) :: ([.fieldLink RX6 61 "RenamingGridModel" "processes" "I"] ++ wsX60)
def wsX6_splitterIn : List Cond := .code yX6_splitterIn cX6_splitterIn 2 (some .int) :: ([.fieldLink RX6 61 "RenamingGridModel" "processes" "I"] ++ wsX60)
def wsX6_phaseIn : List Cond := .code yX6_phaseIn cX6_phaseIn 2 (some .int) :: ([.fieldLink RX6 61 "RenamingGridModel" "processes" "I"] ++ wsX60)
def wsX6_setProcess : List Cond := .code yX6_setProcess cX6_setProcess 6 none :: ([.fieldLink RX6 61 "RenamingGridModel" "processes" "I"] ++ wsX60)
def wsX6_ownerIn : List Cond := .code yX6_ownerIn cX6_ownerIn 2 (some .int) :: ([.fieldLink RX6 64 "RenamingGridModel" "registers" "I"] ++ wsX60)
def wsX6_doorIn : List Cond := .code yX6_doorIn cX6_doorIn 2 (some .int) :: ([.fieldLink RX6 64 "RenamingGridModel" "registers" "I"] ++ wsX60)
def wsX6_diagonal : List Cond := .code yX6_diagonal cX6_diagonal 2 (some .int) :: ([])
def wsX6_move : List Cond := .code yX6_move cX6_move 5 (some .int) :: ([.fieldLink RX6 74 "RenamingGridModel" "leftSplitter" "I", .fieldLink RX6 77 "RenamingGridModel" "wentRight" "Z", .fieldLink RX6 7 "RenamingGridModel" "s" "[I", .methodLink RX6 67 yX6_splitterIn, .instanceMethod yX6_splitterIn, .selects RX6 yX6_splitterIn yX6_splitterIn, .initialized RX6, .code yX6_splitterIn cX6_splitterIn 2 (some .int), .fieldLink RX6 61 "RenamingGridModel" "processes" "I", .methodLink RX6 71 yX6_diagonal, .static yX6_diagonal, .code yX6_diagonal cX6_diagonal 2 (some .int), .methodLink RX6 81 yX6_setProcess, .instanceMethod yX6_setProcess, .selects RX6 yX6_setProcess yX6_setProcess, .code yX6_setProcess cX6_setProcess 6 none] ++ wsX60)
def wsX6_proceed : List Cond := .code yX6_proceed cX6_proceed 3 (some .int) :: ([.methodLink RX6 67 yX6_splitterIn, .instanceMethod yX6_splitterIn, .selects RX6 yX6_splitterIn yX6_splitterIn, .initialized RX6, .code yX6_splitterIn cX6_splitterIn 2 (some .int), .fieldLink RX6 61 "RenamingGridModel" "processes" "I", .methodLink RX6 81 yX6_setProcess, .instanceMethod yX6_setProcess, .selects RX6 yX6_setProcess yX6_setProcess, .code yX6_setProcess cX6_setProcess 6 none] ++ wsX60)
def wsX6_becomeNamed : List Cond := .code yX6_becomeNamed cX6_becomeNamed 2 (some .int) :: ([.methodLink RX6 67 yX6_splitterIn, .instanceMethod yX6_splitterIn, .selects RX6 yX6_splitterIn yX6_splitterIn, .initialized RX6, .code yX6_splitterIn cX6_splitterIn 2 (some .int), .fieldLink RX6 61 "RenamingGridModel" "processes" "I", .methodLink RX6 85 yX6_phaseIn, .instanceMethod yX6_phaseIn, .selects RX6 yX6_phaseIn yX6_phaseIn, .code yX6_phaseIn cX6_phaseIn 2 (some .int), .methodLink RX6 81 yX6_setProcess, .instanceMethod yX6_setProcess, .selects RX6 yX6_setProcess yX6_setProcess, .code yX6_setProcess cX6_setProcess 6 none] ++ wsX60)
def wsX6_closeDoor : List Cond := .code yX6_closeDoor cX6_closeDoor 2 (some .int) :: ([.fieldLink RX6 64 "RenamingGridModel" "registers" "I", .methodLink RX6 67 yX6_splitterIn, .instanceMethod yX6_splitterIn, .selects RX6 yX6_splitterIn yX6_splitterIn, .initialized RX6, .code yX6_splitterIn cX6_splitterIn 2 (some .int), .fieldLink RX6 61 "RenamingGridModel" "processes" "I"] ++ wsX60)
def wsX6_stepOf_r1 : List Cond := [Cond.fieldLink RX6 74 "RenamingGridModel" "leftSplitter" "I", Cond.fieldLink RX6 64 "RenamingGridModel" "registers" "I", Cond.fieldLink RX6 7 "RenamingGridModel" "s" "[I", Cond.methodLink RX6 67 yX6_splitterIn, Cond.instanceMethod yX6_splitterIn, Cond.selects RX6 yX6_splitterIn yX6_splitterIn, Cond.initialized RX6, Cond.code yX6_splitterIn cX6_splitterIn 2 (some .int), Cond.fieldLink RX6 61 "RenamingGridModel" "processes" "I", Cond.methodLink RX6 85 yX6_phaseIn, Cond.instanceMethod yX6_phaseIn, Cond.selects RX6 yX6_phaseIn yX6_phaseIn, Cond.code yX6_phaseIn cX6_phaseIn 2 (some .int), Cond.methodLink RX6 88 yX6_proceed, Cond.instanceMethod yX6_proceed, Cond.selects RX6 yX6_proceed yX6_proceed, Cond.code yX6_proceed cX6_proceed 3 (some .int), Cond.methodLink RX6 81 yX6_setProcess, Cond.instanceMethod yX6_setProcess, Cond.selects RX6 yX6_setProcess yX6_setProcess, Cond.code yX6_setProcess cX6_setProcess 6 none, Cond.methodLink RX6 92 yX6_doorIn, Cond.instanceMethod yX6_doorIn, Cond.selects RX6 yX6_doorIn yX6_doorIn]
def wsX6_stepOf_r2 : List Cond := [Cond.code yX6_doorIn cX6_doorIn 2 (some .int), Cond.methodLink RX6 95 yX6_move, Cond.instanceMethod yX6_move, Cond.selects RX6 yX6_move yX6_move, Cond.code yX6_move cX6_move 5 (some .int), Cond.fieldLink RX6 77 "RenamingGridModel" "wentRight" "Z", Cond.methodLink RX6 71 yX6_diagonal, Cond.static yX6_diagonal, Cond.code yX6_diagonal cX6_diagonal 2 (some .int), Cond.methodLink RX6 99 yX6_ownerIn, Cond.instanceMethod yX6_ownerIn, Cond.selects RX6 yX6_ownerIn yX6_ownerIn, Cond.code yX6_ownerIn cX6_ownerIn 2 (some .int), Cond.methodLink RX6 102 yX6_closeDoor, Cond.instanceMethod yX6_closeDoor, Cond.selects RX6 yX6_closeDoor yX6_closeDoor, Cond.code yX6_closeDoor cX6_closeDoor 2 (some .int), Cond.methodLink RX6 105 yX6_becomeNamed, Cond.instanceMethod yX6_becomeNamed, Cond.selects RX6 yX6_becomeNamed yX6_becomeNamed, Cond.code yX6_becomeNamed cX6_becomeNamed 2 (some .int)]
def wsX6_stepOf : List Cond := .code yX6_stepOf cX6_stepOf 3 (some .int) :: ((wsX6_stepOf_r1 ++ wsX6_stepOf_r2) ++ wsX60)
def wsX6_take : List Cond := .code yX6_take cX6_take 1 none :: ([.fieldLink RX6 7 "RenamingGridModel" "s" "[I", .fieldLink RX6 64 "RenamingGridModel" "registers" "I", .fieldLink RX6 61 "RenamingGridModel" "processes" "I"] ++ wsX60)
def wsX6_keep : List Cond := .code yX6_keep cX6_keep 2 none :: ([.fieldLink RX6 108 "RenamingGridModel" "depth" "I", .fieldLink RX6 13 "RenamingGridModel" "history" "[I", .fieldLink RX6 7 "RenamingGridModel" "s" "[I", .fieldLink RX6 111 "RenamingGridModel" "isExplored" "Z"] ++ wsX60)
def wsX6_names : List Cond := .code yX6_names cX6_names 1 (some .int) :: ([.fieldLink RX6 7 "RenamingGridModel" "s" "[I"] ++ wsX60)
def wsX6_configure : List Cond := .code yX6_configure cX6_configure 4 (some .int) :: ([.fieldLink RX6 57 "RenamingGridModel" "thrown" "I", .methodLink RX6 114 yX6_in, .static yX6_in, .initialized RX6, .code yX6_in cX6_in 3 (some .boolean), .methodLink RX6 118 yX6_keep, .instanceMethod yX6_keep, .selects RX6 yX6_keep yX6_keep, .code yX6_keep cX6_keep 2 none, .fieldLink RX6 108 "RenamingGridModel" "depth" "I", .fieldLink RX6 13 "RenamingGridModel" "history" "[I", .fieldLink RX6 7 "RenamingGridModel" "s" "[I", .fieldLink RX6 111 "RenamingGridModel" "isExplored" "Z", .methodLink RX6 53 yX6_begin, .instanceMethod yX6_begin, .selects RX6 yX6_begin yX6_begin, .code yX6_begin cX6_begin 5 none, .methodLink RX6 121 yX6_names, .instanceMethod yX6_names, .selects RX6 yX6_names yX6_names, .code yX6_names cX6_names 1 (some .int)] ++ wsX60)
def wsX6_nameCount : List Cond := .code yX6_nameCount cX6_nameCount 1 (some .int) :: ([.fieldLink RX6 57 "RenamingGridModel" "thrown" "I", .methodLink RX6 121 yX6_names, .instanceMethod yX6_names, .selects RX6 yX6_names yX6_names, .initialized RX6, .code yX6_names cX6_names 1 (some .int), .fieldLink RX6 7 "RenamingGridModel" "s" "[I"] ++ wsX60)
def wsX6_processCount : List Cond := .code yX6_processCount cX6_processCount 1 (some .int) :: ([.fieldLink RX6 57 "RenamingGridModel" "thrown" "I", .fieldLink RX6 7 "RenamingGridModel" "s" "[I"] ++ wsX60)
def wsX6_isProcess : List Cond := .code yX6_isProcess cX6_isProcess 2 (some .boolean) :: ([.fieldLink RX6 7 "RenamingGridModel" "s" "[I", .methodLink RX6 114 yX6_in, .static yX6_in, .initialized RX6, .code yX6_in cX6_in 3 (some .boolean)] ++ wsX60)
def wsX6_running : List Cond := .code yX6_running cX6_running 3 (some .int) :: ([.fieldLink RX6 7 "RenamingGridModel" "s" "[I", .methodLink RX6 125 yX6_take, .instanceMethod yX6_take, .selects RX6 yX6_take yX6_take, .initialized RX6, .code yX6_take cX6_take 1 none, .fieldLink RX6 64 "RenamingGridModel" "registers" "I", .fieldLink RX6 61 "RenamingGridModel" "processes" "I", .methodLink RX6 128 yX6_statusIn, .instanceMethod yX6_statusIn, .selects RX6 yX6_statusIn yX6_statusIn, .code yX6_statusIn cX6_statusIn 2 (some .int)] ++ wsX60)
def wsX6_make_r1 : List Cond := [Cond.fieldLink RX6 7 "RenamingGridModel" "s" "[I", Cond.fieldLink RX6 64 "RenamingGridModel" "registers" "I", Cond.fieldLink RX6 61 "RenamingGridModel" "processes" "I", Cond.fieldLink RX6 74 "RenamingGridModel" "leftSplitter" "I", Cond.fieldLink RX6 77 "RenamingGridModel" "wentRight" "Z", Cond.methodLink RX6 125 yX6_take, Cond.instanceMethod yX6_take, Cond.selects RX6 yX6_take yX6_take, Cond.initialized RX6, Cond.code yX6_take cX6_take 1 none, Cond.methodLink RX6 131 yX6_stepOf, Cond.instanceMethod yX6_stepOf, Cond.selects RX6 yX6_stepOf yX6_stepOf, Cond.code yX6_stepOf cX6_stepOf 3 (some .int), Cond.methodLink RX6 67 yX6_splitterIn, Cond.instanceMethod yX6_splitterIn, Cond.selects RX6 yX6_splitterIn yX6_splitterIn, Cond.code yX6_splitterIn cX6_splitterIn 2 (some .int), Cond.methodLink RX6 85 yX6_phaseIn, Cond.instanceMethod yX6_phaseIn, Cond.selects RX6 yX6_phaseIn yX6_phaseIn, Cond.code yX6_phaseIn cX6_phaseIn 2 (some .int), Cond.methodLink RX6 88 yX6_proceed, Cond.instanceMethod yX6_proceed]
def wsX6_make_r2 : List Cond := [Cond.selects RX6 yX6_proceed yX6_proceed, Cond.code yX6_proceed cX6_proceed 3 (some .int), Cond.methodLink RX6 81 yX6_setProcess, Cond.instanceMethod yX6_setProcess, Cond.selects RX6 yX6_setProcess yX6_setProcess, Cond.code yX6_setProcess cX6_setProcess 6 none, Cond.methodLink RX6 92 yX6_doorIn, Cond.instanceMethod yX6_doorIn, Cond.selects RX6 yX6_doorIn yX6_doorIn, Cond.code yX6_doorIn cX6_doorIn 2 (some .int), Cond.methodLink RX6 95 yX6_move, Cond.instanceMethod yX6_move, Cond.selects RX6 yX6_move yX6_move, Cond.code yX6_move cX6_move 5 (some .int), Cond.methodLink RX6 71 yX6_diagonal, Cond.static yX6_diagonal, Cond.code yX6_diagonal cX6_diagonal 2 (some .int), Cond.methodLink RX6 99 yX6_ownerIn, Cond.instanceMethod yX6_ownerIn, Cond.selects RX6 yX6_ownerIn yX6_ownerIn, Cond.code yX6_ownerIn cX6_ownerIn 2 (some .int), Cond.methodLink RX6 102 yX6_closeDoor, Cond.instanceMethod yX6_closeDoor, Cond.selects RX6 yX6_closeDoor yX6_closeDoor]
def wsX6_make_r3 : List Cond := [Cond.code yX6_closeDoor cX6_closeDoor 2 (some .int), Cond.methodLink RX6 105 yX6_becomeNamed, Cond.instanceMethod yX6_becomeNamed, Cond.selects RX6 yX6_becomeNamed yX6_becomeNamed, Cond.code yX6_becomeNamed cX6_becomeNamed 2 (some .int)]
def wsX6_make : List Cond := .code yX6_make cX6_make 3 (some .int) :: ((wsX6_make_r1 ++ (wsX6_make_r2 ++ wsX6_make_r3)) ++ wsX60)
def wsX6_step_r1 : List Cond := [Cond.fieldLink RX6 57 "RenamingGridModel" "thrown" "I", Cond.methodLink RX6 134 yX6_isProcess, Cond.instanceMethod yX6_isProcess, Cond.selects RX6 yX6_isProcess yX6_isProcess, Cond.initialized RX6, Cond.code yX6_isProcess cX6_isProcess 2 (some .boolean), Cond.fieldLink RX6 7 "RenamingGridModel" "s" "[I", Cond.methodLink RX6 114 yX6_in, Cond.static yX6_in, Cond.code yX6_in cX6_in 3 (some .boolean), Cond.methodLink RX6 125 yX6_take, Cond.instanceMethod yX6_take, Cond.selects RX6 yX6_take yX6_take, Cond.code yX6_take cX6_take 1 none, Cond.fieldLink RX6 64 "RenamingGridModel" "registers" "I", Cond.fieldLink RX6 61 "RenamingGridModel" "processes" "I", Cond.methodLink RX6 128 yX6_statusIn, Cond.instanceMethod yX6_statusIn, Cond.selects RX6 yX6_statusIn yX6_statusIn, Cond.code yX6_statusIn cX6_statusIn 2 (some .int), Cond.methodLink RX6 118 yX6_keep, Cond.instanceMethod yX6_keep, Cond.selects RX6 yX6_keep yX6_keep, Cond.code yX6_keep cX6_keep 2 none]
def wsX6_step_r2 : List Cond := [Cond.fieldLink RX6 108 "RenamingGridModel" "depth" "I", Cond.fieldLink RX6 13 "RenamingGridModel" "history" "[I", Cond.fieldLink RX6 111 "RenamingGridModel" "isExplored" "Z", Cond.methodLink RX6 138 yX6_make, Cond.instanceMethod yX6_make, Cond.selects RX6 yX6_make yX6_make, Cond.code yX6_make cX6_make 3 (some .int), Cond.fieldLink RX6 74 "RenamingGridModel" "leftSplitter" "I", Cond.fieldLink RX6 77 "RenamingGridModel" "wentRight" "Z", Cond.methodLink RX6 131 yX6_stepOf, Cond.instanceMethod yX6_stepOf, Cond.selects RX6 yX6_stepOf yX6_stepOf, Cond.code yX6_stepOf cX6_stepOf 3 (some .int), Cond.methodLink RX6 67 yX6_splitterIn, Cond.instanceMethod yX6_splitterIn, Cond.selects RX6 yX6_splitterIn yX6_splitterIn, Cond.code yX6_splitterIn cX6_splitterIn 2 (some .int), Cond.methodLink RX6 85 yX6_phaseIn, Cond.instanceMethod yX6_phaseIn, Cond.selects RX6 yX6_phaseIn yX6_phaseIn, Cond.code yX6_phaseIn cX6_phaseIn 2 (some .int), Cond.methodLink RX6 88 yX6_proceed, Cond.instanceMethod yX6_proceed, Cond.selects RX6 yX6_proceed yX6_proceed]
def wsX6_step_r3 : List Cond := [Cond.code yX6_proceed cX6_proceed 3 (some .int), Cond.methodLink RX6 81 yX6_setProcess, Cond.instanceMethod yX6_setProcess, Cond.selects RX6 yX6_setProcess yX6_setProcess, Cond.code yX6_setProcess cX6_setProcess 6 none, Cond.methodLink RX6 92 yX6_doorIn, Cond.instanceMethod yX6_doorIn, Cond.selects RX6 yX6_doorIn yX6_doorIn, Cond.code yX6_doorIn cX6_doorIn 2 (some .int), Cond.methodLink RX6 95 yX6_move, Cond.instanceMethod yX6_move, Cond.selects RX6 yX6_move yX6_move, Cond.code yX6_move cX6_move 5 (some .int), Cond.methodLink RX6 71 yX6_diagonal, Cond.static yX6_diagonal, Cond.code yX6_diagonal cX6_diagonal 2 (some .int), Cond.methodLink RX6 99 yX6_ownerIn, Cond.instanceMethod yX6_ownerIn, Cond.selects RX6 yX6_ownerIn yX6_ownerIn, Cond.code yX6_ownerIn cX6_ownerIn 2 (some .int), Cond.methodLink RX6 102 yX6_closeDoor, Cond.instanceMethod yX6_closeDoor, Cond.selects RX6 yX6_closeDoor yX6_closeDoor, Cond.code yX6_closeDoor cX6_closeDoor 2 (some .int)]
def wsX6_step_r4 : List Cond := [Cond.methodLink RX6 105 yX6_becomeNamed, Cond.instanceMethod yX6_becomeNamed, Cond.selects RX6 yX6_becomeNamed yX6_becomeNamed, Cond.code yX6_becomeNamed cX6_becomeNamed 2 (some .int)]
def wsX6_step : List Cond := .code yX6_step cX6_step 2 (some .int) :: ((wsX6_step_r1 ++ (wsX6_step_r2 ++ (wsX6_step_r3 ++ wsX6_step_r4))) ++ wsX60)
def wsX6_crash_r1 : List Cond := [Cond.fieldLink RX6 57 "RenamingGridModel" "thrown" "I", Cond.fieldLink RX6 7 "RenamingGridModel" "s" "[I", Cond.fieldLink RX6 61 "RenamingGridModel" "processes" "I", Cond.methodLink RX6 134 yX6_isProcess, Cond.instanceMethod yX6_isProcess, Cond.selects RX6 yX6_isProcess yX6_isProcess, Cond.initialized RX6, Cond.code yX6_isProcess cX6_isProcess 2 (some .boolean), Cond.methodLink RX6 114 yX6_in, Cond.static yX6_in, Cond.code yX6_in cX6_in 3 (some .boolean), Cond.methodLink RX6 125 yX6_take, Cond.instanceMethod yX6_take, Cond.selects RX6 yX6_take yX6_take, Cond.code yX6_take cX6_take 1 none, Cond.fieldLink RX6 64 "RenamingGridModel" "registers" "I", Cond.methodLink RX6 128 yX6_statusIn, Cond.instanceMethod yX6_statusIn, Cond.selects RX6 yX6_statusIn yX6_statusIn, Cond.code yX6_statusIn cX6_statusIn 2 (some .int), Cond.methodLink RX6 118 yX6_keep, Cond.instanceMethod yX6_keep, Cond.selects RX6 yX6_keep yX6_keep, Cond.code yX6_keep cX6_keep 2 none]
def wsX6_crash_r2 : List Cond := [Cond.fieldLink RX6 108 "RenamingGridModel" "depth" "I", Cond.fieldLink RX6 13 "RenamingGridModel" "history" "[I", Cond.fieldLink RX6 111 "RenamingGridModel" "isExplored" "Z", Cond.methodLink RX6 67 yX6_splitterIn, Cond.instanceMethod yX6_splitterIn, Cond.selects RX6 yX6_splitterIn yX6_splitterIn, Cond.code yX6_splitterIn cX6_splitterIn 2 (some .int), Cond.methodLink RX6 85 yX6_phaseIn, Cond.instanceMethod yX6_phaseIn, Cond.selects RX6 yX6_phaseIn yX6_phaseIn, Cond.code yX6_phaseIn cX6_phaseIn 2 (some .int), Cond.methodLink RX6 81 yX6_setProcess, Cond.instanceMethod yX6_setProcess, Cond.selects RX6 yX6_setProcess yX6_setProcess, Cond.code yX6_setProcess cX6_setProcess 6 none, Cond.methodLink RX6 141 yX6_running, Cond.instanceMethod yX6_running, Cond.selects RX6 yX6_running yX6_running, Cond.code yX6_running cX6_running 3 (some .int)]
def wsX6_crash : List Cond := .code yX6_crash cX6_crash 2 (some .int) :: ((wsX6_crash_r1 ++ wsX6_crash_r2) ++ wsX60)
def wsX6_characterAt : List Cond := .code yX6_characterAt cX6_characterAt 2 (some .int) :: ([.fieldLink RX6 144 "RenamingGridModel" "length" "I", .fieldLink RX6 23 "RenamingGridModel" "text" "[I"] ++ wsX60)
def wsX6_advance : List Cond := .code yX6_advance cX6_advance 3 none :: ([.fieldLink RX6 147 "RenamingGridModel" "next" "I", .fieldLink RX6 153 "RenamingGridModel" "start" "I", .fieldLink RX6 156 "RenamingGridModel" "value" "I", .fieldLink RX6 159 "RenamingGridModel" "token" "I", .fieldLink RX6 23 "RenamingGridModel" "text" "[I", .methodLink RX6 150 yX6_characterAt, .instanceMethod yX6_characterAt, .selects RX6 yX6_characterAt yX6_characterAt, .initialized RX6, .code yX6_characterAt cX6_characterAt 2 (some .int), .fieldLink RX6 144 "RenamingGridModel" "length" "I", .methodLink RX6 114 yX6_in, .static yX6_in, .code yX6_in cX6_in 3 (some .boolean)] ++ wsX60)
def wsX6_isSign : List Cond := .code yX6_isSign cX6_isSign 2 (some .boolean) :: ([.fieldLink RX6 159 "RenamingGridModel" "token" "I", .fieldLink RX6 156 "RenamingGridModel" "value" "I"] ++ wsX60)
def wsX6_accept : List Cond := .code yX6_accept cX6_accept 3 (some .int) :: ([.fieldLink RX6 156 "RenamingGridModel" "value" "I", .fieldLink RX6 162 "RenamingGridModel" "error" "I", .fieldLink RX6 153 "RenamingGridModel" "start" "I", .methodLink RX6 165 yX6_advance, .instanceMethod yX6_advance, .selects RX6 yX6_advance yX6_advance, .initialized RX6, .code yX6_advance cX6_advance 3 none, .fieldLink RX6 147 "RenamingGridModel" "next" "I", .fieldLink RX6 159 "RenamingGridModel" "token" "I", .fieldLink RX6 23 "RenamingGridModel" "text" "[I", .methodLink RX6 150 yX6_characterAt, .instanceMethod yX6_characterAt, .selects RX6 yX6_characterAt yX6_characterAt, .code yX6_characterAt cX6_characterAt 2 (some .int), .fieldLink RX6 144 "RenamingGridModel" "length" "I", .methodLink RX6 114 yX6_in, .static yX6_in, .code yX6_in cX6_in 3 (some .boolean)] ++ wsX60)
def wsX6_execute_r1 : List Cond := [Cond.methodLink RX6 125 yX6_take, Cond.instanceMethod yX6_take, Cond.selects RX6 yX6_take yX6_take, Cond.initialized RX6, Cond.code yX6_take cX6_take 1 none, Cond.fieldLink RX6 7 "RenamingGridModel" "s" "[I", Cond.fieldLink RX6 64 "RenamingGridModel" "registers" "I", Cond.fieldLink RX6 61 "RenamingGridModel" "processes" "I", Cond.methodLink RX6 128 yX6_statusIn, Cond.instanceMethod yX6_statusIn, Cond.selects RX6 yX6_statusIn yX6_statusIn, Cond.code yX6_statusIn cX6_statusIn 2 (some .int), Cond.methodLink RX6 138 yX6_make, Cond.instanceMethod yX6_make, Cond.selects RX6 yX6_make yX6_make, Cond.code yX6_make cX6_make 3 (some .int), Cond.fieldLink RX6 74 "RenamingGridModel" "leftSplitter" "I", Cond.fieldLink RX6 77 "RenamingGridModel" "wentRight" "Z", Cond.methodLink RX6 131 yX6_stepOf, Cond.instanceMethod yX6_stepOf, Cond.selects RX6 yX6_stepOf yX6_stepOf, Cond.code yX6_stepOf cX6_stepOf 3 (some .int), Cond.methodLink RX6 67 yX6_splitterIn, Cond.instanceMethod yX6_splitterIn]
def wsX6_execute_r2 : List Cond := [Cond.selects RX6 yX6_splitterIn yX6_splitterIn, Cond.code yX6_splitterIn cX6_splitterIn 2 (some .int), Cond.methodLink RX6 85 yX6_phaseIn, Cond.instanceMethod yX6_phaseIn, Cond.selects RX6 yX6_phaseIn yX6_phaseIn, Cond.code yX6_phaseIn cX6_phaseIn 2 (some .int), Cond.methodLink RX6 88 yX6_proceed, Cond.instanceMethod yX6_proceed, Cond.selects RX6 yX6_proceed yX6_proceed, Cond.code yX6_proceed cX6_proceed 3 (some .int), Cond.methodLink RX6 81 yX6_setProcess, Cond.instanceMethod yX6_setProcess, Cond.selects RX6 yX6_setProcess yX6_setProcess, Cond.code yX6_setProcess cX6_setProcess 6 none, Cond.methodLink RX6 92 yX6_doorIn, Cond.instanceMethod yX6_doorIn, Cond.selects RX6 yX6_doorIn yX6_doorIn, Cond.code yX6_doorIn cX6_doorIn 2 (some .int), Cond.methodLink RX6 95 yX6_move, Cond.instanceMethod yX6_move, Cond.selects RX6 yX6_move yX6_move, Cond.code yX6_move cX6_move 5 (some .int), Cond.methodLink RX6 71 yX6_diagonal, Cond.static yX6_diagonal]
def wsX6_execute_r3 : List Cond := [Cond.code yX6_diagonal cX6_diagonal 2 (some .int), Cond.methodLink RX6 99 yX6_ownerIn, Cond.instanceMethod yX6_ownerIn, Cond.selects RX6 yX6_ownerIn yX6_ownerIn, Cond.code yX6_ownerIn cX6_ownerIn 2 (some .int), Cond.methodLink RX6 102 yX6_closeDoor, Cond.instanceMethod yX6_closeDoor, Cond.selects RX6 yX6_closeDoor yX6_closeDoor, Cond.code yX6_closeDoor cX6_closeDoor 2 (some .int), Cond.methodLink RX6 105 yX6_becomeNamed, Cond.instanceMethod yX6_becomeNamed, Cond.selects RX6 yX6_becomeNamed yX6_becomeNamed, Cond.code yX6_becomeNamed cX6_becomeNamed 2 (some .int)]
def wsX6_execute : List Cond := .code yX6_execute cX6_execute 4 (some .int) :: ((wsX6_execute_r1 ++ (wsX6_execute_r2 ++ wsX6_execute_r3)) ++ wsX60)
def wsX6_read_r1 : List Cond := [Cond.fieldLink RX6 162 "RenamingGridModel" "error" "I", Cond.fieldLink RX6 147 "RenamingGridModel" "next" "I", Cond.fieldLink RX6 159 "RenamingGridModel" "token" "I", Cond.fieldLink RX6 153 "RenamingGridModel" "start" "I", Cond.fieldLink RX6 156 "RenamingGridModel" "value" "I", Cond.methodLink RX6 165 yX6_advance, Cond.instanceMethod yX6_advance, Cond.selects RX6 yX6_advance yX6_advance, Cond.initialized RX6, Cond.code yX6_advance cX6_advance 3 none, Cond.fieldLink RX6 23 "RenamingGridModel" "text" "[I", Cond.methodLink RX6 150 yX6_characterAt, Cond.instanceMethod yX6_characterAt, Cond.selects RX6 yX6_characterAt yX6_characterAt, Cond.code yX6_characterAt cX6_characterAt 2 (some .int), Cond.fieldLink RX6 144 "RenamingGridModel" "length" "I", Cond.methodLink RX6 114 yX6_in, Cond.static yX6_in, Cond.code yX6_in cX6_in 3 (some .boolean), Cond.methodLink RX6 134 yX6_isProcess, Cond.instanceMethod yX6_isProcess, Cond.selects RX6 yX6_isProcess yX6_isProcess, Cond.code yX6_isProcess cX6_isProcess 2 (some .boolean), Cond.fieldLink RX6 7 "RenamingGridModel" "s" "[I"]
def wsX6_read_r2 : List Cond := [Cond.methodLink RX6 168 yX6_accept, Cond.instanceMethod yX6_accept, Cond.selects RX6 yX6_accept yX6_accept, Cond.code yX6_accept cX6_accept 3 (some .int), Cond.methodLink RX6 172 yX6_isSign, Cond.instanceMethod yX6_isSign, Cond.selects RX6 yX6_isSign yX6_isSign, Cond.code yX6_isSign cX6_isSign 2 (some .boolean), Cond.methodLink RX6 175 yX6_execute, Cond.instanceMethod yX6_execute, Cond.selects RX6 yX6_execute yX6_execute, Cond.code yX6_execute cX6_execute 4 (some .int), Cond.methodLink RX6 125 yX6_take, Cond.instanceMethod yX6_take, Cond.selects RX6 yX6_take yX6_take, Cond.code yX6_take cX6_take 1 none, Cond.fieldLink RX6 64 "RenamingGridModel" "registers" "I", Cond.fieldLink RX6 61 "RenamingGridModel" "processes" "I", Cond.methodLink RX6 128 yX6_statusIn, Cond.instanceMethod yX6_statusIn, Cond.selects RX6 yX6_statusIn yX6_statusIn, Cond.code yX6_statusIn cX6_statusIn 2 (some .int), Cond.methodLink RX6 138 yX6_make, Cond.instanceMethod yX6_make]
def wsX6_read_r3 : List Cond := [Cond.selects RX6 yX6_make yX6_make, Cond.code yX6_make cX6_make 3 (some .int), Cond.fieldLink RX6 74 "RenamingGridModel" "leftSplitter" "I", Cond.fieldLink RX6 77 "RenamingGridModel" "wentRight" "Z", Cond.methodLink RX6 131 yX6_stepOf, Cond.instanceMethod yX6_stepOf, Cond.selects RX6 yX6_stepOf yX6_stepOf, Cond.code yX6_stepOf cX6_stepOf 3 (some .int), Cond.methodLink RX6 67 yX6_splitterIn, Cond.instanceMethod yX6_splitterIn, Cond.selects RX6 yX6_splitterIn yX6_splitterIn, Cond.code yX6_splitterIn cX6_splitterIn 2 (some .int), Cond.methodLink RX6 85 yX6_phaseIn, Cond.instanceMethod yX6_phaseIn, Cond.selects RX6 yX6_phaseIn yX6_phaseIn, Cond.code yX6_phaseIn cX6_phaseIn 2 (some .int), Cond.methodLink RX6 88 yX6_proceed, Cond.instanceMethod yX6_proceed, Cond.selects RX6 yX6_proceed yX6_proceed, Cond.code yX6_proceed cX6_proceed 3 (some .int), Cond.methodLink RX6 81 yX6_setProcess, Cond.instanceMethod yX6_setProcess, Cond.selects RX6 yX6_setProcess yX6_setProcess, Cond.code yX6_setProcess cX6_setProcess 6 none]
def wsX6_read_r4 : List Cond := [Cond.methodLink RX6 92 yX6_doorIn, Cond.instanceMethod yX6_doorIn, Cond.selects RX6 yX6_doorIn yX6_doorIn, Cond.code yX6_doorIn cX6_doorIn 2 (some .int), Cond.methodLink RX6 95 yX6_move, Cond.instanceMethod yX6_move, Cond.selects RX6 yX6_move yX6_move, Cond.code yX6_move cX6_move 5 (some .int), Cond.methodLink RX6 71 yX6_diagonal, Cond.static yX6_diagonal, Cond.code yX6_diagonal cX6_diagonal 2 (some .int), Cond.methodLink RX6 99 yX6_ownerIn, Cond.instanceMethod yX6_ownerIn, Cond.selects RX6 yX6_ownerIn yX6_ownerIn, Cond.code yX6_ownerIn cX6_ownerIn 2 (some .int), Cond.methodLink RX6 102 yX6_closeDoor, Cond.instanceMethod yX6_closeDoor, Cond.selects RX6 yX6_closeDoor yX6_closeDoor, Cond.code yX6_closeDoor cX6_closeDoor 2 (some .int), Cond.methodLink RX6 105 yX6_becomeNamed, Cond.instanceMethod yX6_becomeNamed, Cond.selects RX6 yX6_becomeNamed yX6_becomeNamed, Cond.code yX6_becomeNamed cX6_becomeNamed 2 (some .int)]
def wsX6_read : List Cond := .code yX6_read cX6_read 5 (some .int) :: ((wsX6_read_r1 ++ (wsX6_read_r2 ++ (wsX6_read_r3 ++ wsX6_read_r4))) ++ wsX60)
def wsX6_append : List Cond := .code yX6_append cX6_append 2 (some .int) :: ([.fieldLink RX6 57 "RenamingGridModel" "thrown" "I", .fieldLink RX6 144 "RenamingGridModel" "length" "I", .fieldLink RX6 23 "RenamingGridModel" "text" "[I", .methodLink RX6 114 yX6_in, .static yX6_in, .initialized RX6, .code yX6_in cX6_in 3 (some .boolean)] ++ wsX60)
def wsX6_clearText : List Cond := .code yX6_clearText cX6_clearText 2 (some .int) :: ([.fieldLink RX6 57 "RenamingGridModel" "thrown" "I", .fieldLink RX6 144 "RenamingGridModel" "length" "I"] ++ wsX60)
def wsX6_runText_r1 : List Cond := [Cond.fieldLink RX6 57 "RenamingGridModel" "thrown" "I", Cond.fieldLink RX6 162 "RenamingGridModel" "error" "I", Cond.fieldLink RX6 144 "RenamingGridModel" "length" "I", Cond.methodLink RX6 178 yX6_read, Cond.instanceMethod yX6_read, Cond.selects RX6 yX6_read yX6_read, Cond.initialized RX6, Cond.code yX6_read cX6_read 5 (some .int), Cond.fieldLink RX6 147 "RenamingGridModel" "next" "I", Cond.fieldLink RX6 159 "RenamingGridModel" "token" "I", Cond.fieldLink RX6 153 "RenamingGridModel" "start" "I", Cond.fieldLink RX6 156 "RenamingGridModel" "value" "I", Cond.methodLink RX6 165 yX6_advance, Cond.instanceMethod yX6_advance, Cond.selects RX6 yX6_advance yX6_advance, Cond.code yX6_advance cX6_advance 3 none, Cond.fieldLink RX6 23 "RenamingGridModel" "text" "[I", Cond.methodLink RX6 150 yX6_characterAt, Cond.instanceMethod yX6_characterAt, Cond.selects RX6 yX6_characterAt yX6_characterAt, Cond.code yX6_characterAt cX6_characterAt 2 (some .int), Cond.methodLink RX6 114 yX6_in, Cond.static yX6_in, Cond.code yX6_in cX6_in 3 (some .boolean)]
def wsX6_runText_r2 : List Cond := [Cond.methodLink RX6 134 yX6_isProcess, Cond.instanceMethod yX6_isProcess, Cond.selects RX6 yX6_isProcess yX6_isProcess, Cond.code yX6_isProcess cX6_isProcess 2 (some .boolean), Cond.fieldLink RX6 7 "RenamingGridModel" "s" "[I", Cond.methodLink RX6 168 yX6_accept, Cond.instanceMethod yX6_accept, Cond.selects RX6 yX6_accept yX6_accept, Cond.code yX6_accept cX6_accept 3 (some .int), Cond.methodLink RX6 172 yX6_isSign, Cond.instanceMethod yX6_isSign, Cond.selects RX6 yX6_isSign yX6_isSign, Cond.code yX6_isSign cX6_isSign 2 (some .boolean), Cond.methodLink RX6 175 yX6_execute, Cond.instanceMethod yX6_execute, Cond.selects RX6 yX6_execute yX6_execute, Cond.code yX6_execute cX6_execute 4 (some .int), Cond.methodLink RX6 125 yX6_take, Cond.instanceMethod yX6_take, Cond.selects RX6 yX6_take yX6_take, Cond.code yX6_take cX6_take 1 none, Cond.fieldLink RX6 64 "RenamingGridModel" "registers" "I", Cond.fieldLink RX6 61 "RenamingGridModel" "processes" "I", Cond.methodLink RX6 128 yX6_statusIn]
def wsX6_runText_r3 : List Cond := [Cond.instanceMethod yX6_statusIn, Cond.selects RX6 yX6_statusIn yX6_statusIn, Cond.code yX6_statusIn cX6_statusIn 2 (some .int), Cond.methodLink RX6 138 yX6_make, Cond.instanceMethod yX6_make, Cond.selects RX6 yX6_make yX6_make, Cond.code yX6_make cX6_make 3 (some .int), Cond.fieldLink RX6 74 "RenamingGridModel" "leftSplitter" "I", Cond.fieldLink RX6 77 "RenamingGridModel" "wentRight" "Z", Cond.methodLink RX6 131 yX6_stepOf, Cond.instanceMethod yX6_stepOf, Cond.selects RX6 yX6_stepOf yX6_stepOf, Cond.code yX6_stepOf cX6_stepOf 3 (some .int), Cond.methodLink RX6 67 yX6_splitterIn, Cond.instanceMethod yX6_splitterIn, Cond.selects RX6 yX6_splitterIn yX6_splitterIn, Cond.code yX6_splitterIn cX6_splitterIn 2 (some .int), Cond.methodLink RX6 85 yX6_phaseIn, Cond.instanceMethod yX6_phaseIn, Cond.selects RX6 yX6_phaseIn yX6_phaseIn, Cond.code yX6_phaseIn cX6_phaseIn 2 (some .int), Cond.methodLink RX6 88 yX6_proceed, Cond.instanceMethod yX6_proceed, Cond.selects RX6 yX6_proceed yX6_proceed]
def wsX6_runText_r4 : List Cond := [Cond.code yX6_proceed cX6_proceed 3 (some .int), Cond.methodLink RX6 81 yX6_setProcess, Cond.instanceMethod yX6_setProcess, Cond.selects RX6 yX6_setProcess yX6_setProcess, Cond.code yX6_setProcess cX6_setProcess 6 none, Cond.methodLink RX6 92 yX6_doorIn, Cond.instanceMethod yX6_doorIn, Cond.selects RX6 yX6_doorIn yX6_doorIn, Cond.code yX6_doorIn cX6_doorIn 2 (some .int), Cond.methodLink RX6 95 yX6_move, Cond.instanceMethod yX6_move, Cond.selects RX6 yX6_move yX6_move, Cond.code yX6_move cX6_move 5 (some .int), Cond.methodLink RX6 71 yX6_diagonal, Cond.static yX6_diagonal, Cond.code yX6_diagonal cX6_diagonal 2 (some .int), Cond.methodLink RX6 99 yX6_ownerIn, Cond.instanceMethod yX6_ownerIn, Cond.selects RX6 yX6_ownerIn yX6_ownerIn, Cond.code yX6_ownerIn cX6_ownerIn 2 (some .int), Cond.methodLink RX6 102 yX6_closeDoor, Cond.instanceMethod yX6_closeDoor, Cond.selects RX6 yX6_closeDoor yX6_closeDoor, Cond.code yX6_closeDoor cX6_closeDoor 2 (some .int)]
def wsX6_runText_r5 : List Cond := [Cond.methodLink RX6 105 yX6_becomeNamed, Cond.instanceMethod yX6_becomeNamed, Cond.selects RX6 yX6_becomeNamed yX6_becomeNamed, Cond.code yX6_becomeNamed cX6_becomeNamed 2 (some .int), Cond.methodLink RX6 118 yX6_keep, Cond.instanceMethod yX6_keep, Cond.selects RX6 yX6_keep yX6_keep, Cond.code yX6_keep cX6_keep 2 none, Cond.fieldLink RX6 108 "RenamingGridModel" "depth" "I", Cond.fieldLink RX6 13 "RenamingGridModel" "history" "[I", Cond.fieldLink RX6 111 "RenamingGridModel" "isExplored" "Z"]
def wsX6_runText : List Cond := .code yX6_runText cX6_runText 2 (some .int) :: ((wsX6_runText_r1 ++ (wsX6_runText_r2 ++ (wsX6_runText_r3 ++ (wsX6_runText_r4 ++ wsX6_runText_r5)))) ++ wsX60)
def wsX6_status : List Cond := .code yX6_status cX6_status 2 (some .int) :: ([.fieldLink RX6 57 "RenamingGridModel" "thrown" "I", .methodLink RX6 125 yX6_take, .instanceMethod yX6_take, .selects RX6 yX6_take yX6_take, .initialized RX6, .code yX6_take cX6_take 1 none, .fieldLink RX6 7 "RenamingGridModel" "s" "[I", .fieldLink RX6 64 "RenamingGridModel" "registers" "I", .fieldLink RX6 61 "RenamingGridModel" "processes" "I", .methodLink RX6 134 yX6_isProcess, .instanceMethod yX6_isProcess, .selects RX6 yX6_isProcess yX6_isProcess, .code yX6_isProcess cX6_isProcess 2 (some .boolean), .methodLink RX6 114 yX6_in, .static yX6_in, .code yX6_in cX6_in 3 (some .boolean), .methodLink RX6 128 yX6_statusIn, .instanceMethod yX6_statusIn, .selects RX6 yX6_statusIn yX6_statusIn, .code yX6_statusIn cX6_statusIn 2 (some .int)] ++ wsX60)
def wsX6_splitterOf : List Cond := .code yX6_splitterOf cX6_splitterOf 2 (some .int) :: ([.fieldLink RX6 57 "RenamingGridModel" "thrown" "I", .methodLink RX6 134 yX6_isProcess, .instanceMethod yX6_isProcess, .selects RX6 yX6_isProcess yX6_isProcess, .initialized RX6, .code yX6_isProcess cX6_isProcess 2 (some .boolean), .fieldLink RX6 7 "RenamingGridModel" "s" "[I", .methodLink RX6 114 yX6_in, .static yX6_in, .code yX6_in cX6_in 3 (some .boolean), .methodLink RX6 125 yX6_take, .instanceMethod yX6_take, .selects RX6 yX6_take yX6_take, .code yX6_take cX6_take 1 none, .fieldLink RX6 64 "RenamingGridModel" "registers" "I", .fieldLink RX6 61 "RenamingGridModel" "processes" "I", .methodLink RX6 67 yX6_splitterIn, .instanceMethod yX6_splitterIn, .selects RX6 yX6_splitterIn yX6_splitterIn, .code yX6_splitterIn cX6_splitterIn 2 (some .int)] ++ wsX60)
def wsX6_phaseOf : List Cond := .code yX6_phaseOf cX6_phaseOf 2 (some .int) :: ([.fieldLink RX6 57 "RenamingGridModel" "thrown" "I", .methodLink RX6 134 yX6_isProcess, .instanceMethod yX6_isProcess, .selects RX6 yX6_isProcess yX6_isProcess, .initialized RX6, .code yX6_isProcess cX6_isProcess 2 (some .boolean), .fieldLink RX6 7 "RenamingGridModel" "s" "[I", .methodLink RX6 114 yX6_in, .static yX6_in, .code yX6_in cX6_in 3 (some .boolean), .methodLink RX6 125 yX6_take, .instanceMethod yX6_take, .selects RX6 yX6_take yX6_take, .code yX6_take cX6_take 1 none, .fieldLink RX6 64 "RenamingGridModel" "registers" "I", .fieldLink RX6 61 "RenamingGridModel" "processes" "I", .methodLink RX6 67 yX6_splitterIn, .instanceMethod yX6_splitterIn, .selects RX6 yX6_splitterIn yX6_splitterIn, .code yX6_splitterIn cX6_splitterIn 2 (some .int), .methodLink RX6 85 yX6_phaseIn, .instanceMethod yX6_phaseIn, .selects RX6 yX6_phaseIn yX6_phaseIn, .code yX6_phaseIn cX6_phaseIn 2 (some .int)] ++ wsX60)
def wsX6_stepsOf : List Cond := .code yX6_stepsOf cX6_stepsOf 2 (some .int) :: ([.fieldLink RX6 57 "RenamingGridModel" "thrown" "I", .fieldLink RX6 7 "RenamingGridModel" "s" "[I", .methodLink RX6 134 yX6_isProcess, .instanceMethod yX6_isProcess, .selects RX6 yX6_isProcess yX6_isProcess, .initialized RX6, .code yX6_isProcess cX6_isProcess 2 (some .boolean), .methodLink RX6 114 yX6_in, .static yX6_in, .code yX6_in cX6_in 3 (some .boolean)] ++ wsX60)
def wsX6_runAlone_r1 : List Cond := [Cond.methodLink RX6 125 yX6_take, Cond.instanceMethod yX6_take, Cond.selects RX6 yX6_take yX6_take, Cond.initialized RX6, Cond.code yX6_take cX6_take 1 none, Cond.fieldLink RX6 7 "RenamingGridModel" "s" "[I", Cond.fieldLink RX6 64 "RenamingGridModel" "registers" "I", Cond.fieldLink RX6 61 "RenamingGridModel" "processes" "I", Cond.methodLink RX6 128 yX6_statusIn, Cond.instanceMethod yX6_statusIn, Cond.selects RX6 yX6_statusIn yX6_statusIn, Cond.code yX6_statusIn cX6_statusIn 2 (some .int), Cond.methodLink RX6 131 yX6_stepOf, Cond.instanceMethod yX6_stepOf, Cond.selects RX6 yX6_stepOf yX6_stepOf, Cond.code yX6_stepOf cX6_stepOf 3 (some .int), Cond.fieldLink RX6 74 "RenamingGridModel" "leftSplitter" "I", Cond.methodLink RX6 67 yX6_splitterIn, Cond.instanceMethod yX6_splitterIn, Cond.selects RX6 yX6_splitterIn yX6_splitterIn, Cond.code yX6_splitterIn cX6_splitterIn 2 (some .int), Cond.methodLink RX6 85 yX6_phaseIn, Cond.instanceMethod yX6_phaseIn, Cond.selects RX6 yX6_phaseIn yX6_phaseIn]
def wsX6_runAlone_r2 : List Cond := [Cond.code yX6_phaseIn cX6_phaseIn 2 (some .int), Cond.methodLink RX6 88 yX6_proceed, Cond.instanceMethod yX6_proceed, Cond.selects RX6 yX6_proceed yX6_proceed, Cond.code yX6_proceed cX6_proceed 3 (some .int), Cond.methodLink RX6 81 yX6_setProcess, Cond.instanceMethod yX6_setProcess, Cond.selects RX6 yX6_setProcess yX6_setProcess, Cond.code yX6_setProcess cX6_setProcess 6 none, Cond.methodLink RX6 92 yX6_doorIn, Cond.instanceMethod yX6_doorIn, Cond.selects RX6 yX6_doorIn yX6_doorIn, Cond.code yX6_doorIn cX6_doorIn 2 (some .int), Cond.methodLink RX6 95 yX6_move, Cond.instanceMethod yX6_move, Cond.selects RX6 yX6_move yX6_move, Cond.code yX6_move cX6_move 5 (some .int), Cond.fieldLink RX6 77 "RenamingGridModel" "wentRight" "Z", Cond.methodLink RX6 71 yX6_diagonal, Cond.static yX6_diagonal, Cond.code yX6_diagonal cX6_diagonal 2 (some .int), Cond.methodLink RX6 99 yX6_ownerIn, Cond.instanceMethod yX6_ownerIn, Cond.selects RX6 yX6_ownerIn yX6_ownerIn]
def wsX6_runAlone_r3 : List Cond := [Cond.code yX6_ownerIn cX6_ownerIn 2 (some .int), Cond.methodLink RX6 102 yX6_closeDoor, Cond.instanceMethod yX6_closeDoor, Cond.selects RX6 yX6_closeDoor yX6_closeDoor, Cond.code yX6_closeDoor cX6_closeDoor 2 (some .int), Cond.methodLink RX6 105 yX6_becomeNamed, Cond.instanceMethod yX6_becomeNamed, Cond.selects RX6 yX6_becomeNamed yX6_becomeNamed, Cond.code yX6_becomeNamed cX6_becomeNamed 2 (some .int)]
def wsX6_runAlone : List Cond := .code yX6_runAlone cX6_runAlone 3 (some .int) :: ((wsX6_runAlone_r1 ++ (wsX6_runAlone_r2 ++ wsX6_runAlone_r3)) ++ wsX60)
def wsX6_soloSteps_r1 : List Cond := [Cond.fieldLink RX6 57 "RenamingGridModel" "thrown" "I", Cond.methodLink RX6 134 yX6_isProcess, Cond.instanceMethod yX6_isProcess, Cond.selects RX6 yX6_isProcess yX6_isProcess, Cond.initialized RX6, Cond.code yX6_isProcess cX6_isProcess 2 (some .boolean), Cond.fieldLink RX6 7 "RenamingGridModel" "s" "[I", Cond.methodLink RX6 114 yX6_in, Cond.static yX6_in, Cond.code yX6_in cX6_in 3 (some .boolean), Cond.methodLink RX6 181 yX6_runAlone, Cond.instanceMethod yX6_runAlone, Cond.selects RX6 yX6_runAlone yX6_runAlone, Cond.code yX6_runAlone cX6_runAlone 3 (some .int), Cond.methodLink RX6 125 yX6_take, Cond.instanceMethod yX6_take, Cond.selects RX6 yX6_take yX6_take, Cond.code yX6_take cX6_take 1 none, Cond.fieldLink RX6 64 "RenamingGridModel" "registers" "I", Cond.fieldLink RX6 61 "RenamingGridModel" "processes" "I", Cond.methodLink RX6 128 yX6_statusIn, Cond.instanceMethod yX6_statusIn, Cond.selects RX6 yX6_statusIn yX6_statusIn, Cond.code yX6_statusIn cX6_statusIn 2 (some .int)]
def wsX6_soloSteps_r2 : List Cond := [Cond.methodLink RX6 131 yX6_stepOf, Cond.instanceMethod yX6_stepOf, Cond.selects RX6 yX6_stepOf yX6_stepOf, Cond.code yX6_stepOf cX6_stepOf 3 (some .int), Cond.fieldLink RX6 74 "RenamingGridModel" "leftSplitter" "I", Cond.methodLink RX6 67 yX6_splitterIn, Cond.instanceMethod yX6_splitterIn, Cond.selects RX6 yX6_splitterIn yX6_splitterIn, Cond.code yX6_splitterIn cX6_splitterIn 2 (some .int), Cond.methodLink RX6 85 yX6_phaseIn, Cond.instanceMethod yX6_phaseIn, Cond.selects RX6 yX6_phaseIn yX6_phaseIn, Cond.code yX6_phaseIn cX6_phaseIn 2 (some .int), Cond.methodLink RX6 88 yX6_proceed, Cond.instanceMethod yX6_proceed, Cond.selects RX6 yX6_proceed yX6_proceed, Cond.code yX6_proceed cX6_proceed 3 (some .int), Cond.methodLink RX6 81 yX6_setProcess, Cond.instanceMethod yX6_setProcess, Cond.selects RX6 yX6_setProcess yX6_setProcess, Cond.code yX6_setProcess cX6_setProcess 6 none, Cond.methodLink RX6 92 yX6_doorIn, Cond.instanceMethod yX6_doorIn, Cond.selects RX6 yX6_doorIn yX6_doorIn]
def wsX6_soloSteps_r3 : List Cond := [Cond.code yX6_doorIn cX6_doorIn 2 (some .int), Cond.methodLink RX6 95 yX6_move, Cond.instanceMethod yX6_move, Cond.selects RX6 yX6_move yX6_move, Cond.code yX6_move cX6_move 5 (some .int), Cond.fieldLink RX6 77 "RenamingGridModel" "wentRight" "Z", Cond.methodLink RX6 71 yX6_diagonal, Cond.static yX6_diagonal, Cond.code yX6_diagonal cX6_diagonal 2 (some .int), Cond.methodLink RX6 99 yX6_ownerIn, Cond.instanceMethod yX6_ownerIn, Cond.selects RX6 yX6_ownerIn yX6_ownerIn, Cond.code yX6_ownerIn cX6_ownerIn 2 (some .int), Cond.methodLink RX6 102 yX6_closeDoor, Cond.instanceMethod yX6_closeDoor, Cond.selects RX6 yX6_closeDoor yX6_closeDoor, Cond.code yX6_closeDoor cX6_closeDoor 2 (some .int), Cond.methodLink RX6 105 yX6_becomeNamed, Cond.instanceMethod yX6_becomeNamed, Cond.selects RX6 yX6_becomeNamed yX6_becomeNamed, Cond.code yX6_becomeNamed cX6_becomeNamed 2 (some .int)]
def wsX6_soloSteps : List Cond := .code yX6_soloSteps cX6_soloSteps 2 (some .int) :: ((wsX6_soloSteps_r1 ++ (wsX6_soloSteps_r2 ++ wsX6_soloSteps_r3)) ++ wsX60)
def wsX6_soloName_r1 : List Cond := [Cond.fieldLink RX6 57 "RenamingGridModel" "thrown" "I", Cond.methodLink RX6 134 yX6_isProcess, Cond.instanceMethod yX6_isProcess, Cond.selects RX6 yX6_isProcess yX6_isProcess, Cond.initialized RX6, Cond.code yX6_isProcess cX6_isProcess 2 (some .boolean), Cond.fieldLink RX6 7 "RenamingGridModel" "s" "[I", Cond.methodLink RX6 114 yX6_in, Cond.static yX6_in, Cond.code yX6_in cX6_in 3 (some .boolean), Cond.methodLink RX6 181 yX6_runAlone, Cond.instanceMethod yX6_runAlone, Cond.selects RX6 yX6_runAlone yX6_runAlone, Cond.code yX6_runAlone cX6_runAlone 3 (some .int), Cond.methodLink RX6 125 yX6_take, Cond.instanceMethod yX6_take, Cond.selects RX6 yX6_take yX6_take, Cond.code yX6_take cX6_take 1 none, Cond.fieldLink RX6 64 "RenamingGridModel" "registers" "I", Cond.fieldLink RX6 61 "RenamingGridModel" "processes" "I", Cond.methodLink RX6 128 yX6_statusIn, Cond.instanceMethod yX6_statusIn, Cond.selects RX6 yX6_statusIn yX6_statusIn, Cond.code yX6_statusIn cX6_statusIn 2 (some .int)]
def wsX6_soloName_r2 : List Cond := [Cond.methodLink RX6 131 yX6_stepOf, Cond.instanceMethod yX6_stepOf, Cond.selects RX6 yX6_stepOf yX6_stepOf, Cond.code yX6_stepOf cX6_stepOf 3 (some .int), Cond.fieldLink RX6 74 "RenamingGridModel" "leftSplitter" "I", Cond.methodLink RX6 67 yX6_splitterIn, Cond.instanceMethod yX6_splitterIn, Cond.selects RX6 yX6_splitterIn yX6_splitterIn, Cond.code yX6_splitterIn cX6_splitterIn 2 (some .int), Cond.methodLink RX6 85 yX6_phaseIn, Cond.instanceMethod yX6_phaseIn, Cond.selects RX6 yX6_phaseIn yX6_phaseIn, Cond.code yX6_phaseIn cX6_phaseIn 2 (some .int), Cond.methodLink RX6 88 yX6_proceed, Cond.instanceMethod yX6_proceed, Cond.selects RX6 yX6_proceed yX6_proceed, Cond.code yX6_proceed cX6_proceed 3 (some .int), Cond.methodLink RX6 81 yX6_setProcess, Cond.instanceMethod yX6_setProcess, Cond.selects RX6 yX6_setProcess yX6_setProcess, Cond.code yX6_setProcess cX6_setProcess 6 none, Cond.methodLink RX6 92 yX6_doorIn, Cond.instanceMethod yX6_doorIn, Cond.selects RX6 yX6_doorIn yX6_doorIn]
def wsX6_soloName_r3 : List Cond := [Cond.code yX6_doorIn cX6_doorIn 2 (some .int), Cond.methodLink RX6 95 yX6_move, Cond.instanceMethod yX6_move, Cond.selects RX6 yX6_move yX6_move, Cond.code yX6_move cX6_move 5 (some .int), Cond.fieldLink RX6 77 "RenamingGridModel" "wentRight" "Z", Cond.methodLink RX6 71 yX6_diagonal, Cond.static yX6_diagonal, Cond.code yX6_diagonal cX6_diagonal 2 (some .int), Cond.methodLink RX6 99 yX6_ownerIn, Cond.instanceMethod yX6_ownerIn, Cond.selects RX6 yX6_ownerIn yX6_ownerIn, Cond.code yX6_ownerIn cX6_ownerIn 2 (some .int), Cond.methodLink RX6 102 yX6_closeDoor, Cond.instanceMethod yX6_closeDoor, Cond.selects RX6 yX6_closeDoor yX6_closeDoor, Cond.code yX6_closeDoor cX6_closeDoor 2 (some .int), Cond.methodLink RX6 105 yX6_becomeNamed, Cond.instanceMethod yX6_becomeNamed, Cond.selects RX6 yX6_becomeNamed yX6_becomeNamed, Cond.code yX6_becomeNamed cX6_becomeNamed 2 (some .int)]
def wsX6_soloName : List Cond := .code yX6_soloName cX6_soloName 2 (some .int) :: ((wsX6_soloName_r1 ++ (wsX6_soloName_r2 ++ wsX6_soloName_r3)) ++ wsX60)
def wsX6_isSplitter : List Cond := .code yX6_isSplitter cX6_isSplitter 2 (some .boolean) :: ([.methodLink RX6 121 yX6_names, .instanceMethod yX6_names, .selects RX6 yX6_names yX6_names, .initialized RX6, .code yX6_names cX6_names 1 (some .int), .fieldLink RX6 7 "RenamingGridModel" "s" "[I", .methodLink RX6 114 yX6_in, .static yX6_in, .code yX6_in cX6_in 3 (some .boolean)] ++ wsX60)
def wsX6_owner : List Cond := .code yX6_owner cX6_owner 2 (some .int) :: ([.fieldLink RX6 57 "RenamingGridModel" "thrown" "I", .methodLink RX6 184 yX6_isSplitter, .instanceMethod yX6_isSplitter, .selects RX6 yX6_isSplitter yX6_isSplitter, .initialized RX6, .code yX6_isSplitter cX6_isSplitter 2 (some .boolean), .methodLink RX6 121 yX6_names, .instanceMethod yX6_names, .selects RX6 yX6_names yX6_names, .code yX6_names cX6_names 1 (some .int), .fieldLink RX6 7 "RenamingGridModel" "s" "[I", .methodLink RX6 114 yX6_in, .static yX6_in, .code yX6_in cX6_in 3 (some .boolean), .methodLink RX6 125 yX6_take, .instanceMethod yX6_take, .selects RX6 yX6_take yX6_take, .code yX6_take cX6_take 1 none, .fieldLink RX6 64 "RenamingGridModel" "registers" "I", .fieldLink RX6 61 "RenamingGridModel" "processes" "I", .methodLink RX6 99 yX6_ownerIn, .instanceMethod yX6_ownerIn, .selects RX6 yX6_ownerIn yX6_ownerIn, .code yX6_ownerIn cX6_ownerIn 2 (some .int)] ++ wsX60)
def wsX6_door : List Cond := .code yX6_door cX6_door 2 (some .int) :: ([.fieldLink RX6 57 "RenamingGridModel" "thrown" "I", .methodLink RX6 125 yX6_take, .instanceMethod yX6_take, .selects RX6 yX6_take yX6_take, .initialized RX6, .code yX6_take cX6_take 1 none, .fieldLink RX6 7 "RenamingGridModel" "s" "[I", .fieldLink RX6 64 "RenamingGridModel" "registers" "I", .fieldLink RX6 61 "RenamingGridModel" "processes" "I", .methodLink RX6 184 yX6_isSplitter, .instanceMethod yX6_isSplitter, .selects RX6 yX6_isSplitter yX6_isSplitter, .code yX6_isSplitter cX6_isSplitter 2 (some .boolean), .methodLink RX6 121 yX6_names, .instanceMethod yX6_names, .selects RX6 yX6_names yX6_names, .code yX6_names cX6_names 1 (some .int), .methodLink RX6 114 yX6_in, .static yX6_in, .code yX6_in cX6_in 3 (some .boolean), .methodLink RX6 92 yX6_doorIn, .instanceMethod yX6_doorIn, .selects RX6 yX6_doorIn yX6_doorIn, .code yX6_doorIn cX6_doorIn 2 (some .int)] ++ wsX60)
def wsX6_entered : List Cond := .code yX6_entered cX6_entered 2 (some .int) :: ([.fieldLink RX6 57 "RenamingGridModel" "thrown" "I", .fieldLink RX6 7 "RenamingGridModel" "s" "[I", .methodLink RX6 184 yX6_isSplitter, .instanceMethod yX6_isSplitter, .selects RX6 yX6_isSplitter yX6_isSplitter, .initialized RX6, .code yX6_isSplitter cX6_isSplitter 2 (some .boolean), .methodLink RX6 121 yX6_names, .instanceMethod yX6_names, .selects RX6 yX6_names yX6_names, .code yX6_names cX6_names 1 (some .int), .methodLink RX6 114 yX6_in, .static yX6_in, .code yX6_in cX6_in 3 (some .boolean)] ++ wsX60)
def wsX6_left : List Cond := .code yX6_left cX6_left 3 (some .int) :: ([.fieldLink RX6 57 "RenamingGridModel" "thrown" "I", .fieldLink RX6 7 "RenamingGridModel" "s" "[I", .methodLink RX6 184 yX6_isSplitter, .instanceMethod yX6_isSplitter, .selects RX6 yX6_isSplitter yX6_isSplitter, .initialized RX6, .code yX6_isSplitter cX6_isSplitter 2 (some .boolean), .methodLink RX6 121 yX6_names, .instanceMethod yX6_names, .selects RX6 yX6_names yX6_names, .code yX6_names cX6_names 1 (some .int), .methodLink RX6 114 yX6_in, .static yX6_in, .code yX6_in cX6_in 3 (some .boolean)] ++ wsX60)
def wsX6_found : List Cond := .code yX6_found cX6_found 4 none :: ([.fieldLink RX6 64 "RenamingGridModel" "registers" "I", .fieldLink RX6 61 "RenamingGridModel" "processes" "I", .constant RX6 187 (1540483477), .fieldLink RX6 41 "RenamingGridModel" "table" "[I", .fieldLink RX6 26 "RenamingGridModel" "registersOf" "[I", .fieldLink RX6 29 "RenamingGridModel" "processesOf" "[I", .fieldLink RX6 188 "RenamingGridModel" "count" "I", .fieldLink RX6 32 "RenamingGridModel" "depthOf" "[I", .fieldLink RX6 35 "RenamingGridModel" "parentOf" "[I", .fieldLink RX6 38 "RenamingGridModel" "byOf" "[I"] ++ wsX60)
def wsX6_findAll_r1 : List Cond := [Cond.fieldLink RX6 41 "RenamingGridModel" "table" "[I", Cond.fieldLink RX6 188 "RenamingGridModel" "count" "I", Cond.fieldLink RX6 7 "RenamingGridModel" "s" "[I", Cond.fieldLink RX6 26 "RenamingGridModel" "registersOf" "[I", Cond.fieldLink RX6 64 "RenamingGridModel" "registers" "I", Cond.fieldLink RX6 29 "RenamingGridModel" "processesOf" "[I", Cond.fieldLink RX6 61 "RenamingGridModel" "processes" "I", Cond.methodLink RX6 125 yX6_take, Cond.instanceMethod yX6_take, Cond.selects RX6 yX6_take yX6_take, Cond.initialized RX6, Cond.code yX6_take cX6_take 1 none, Cond.methodLink RX6 191 yX6_found, Cond.instanceMethod yX6_found, Cond.selects RX6 yX6_found yX6_found, Cond.code yX6_found cX6_found 4 none, Cond.constant RX6 187 (1540483477), Cond.fieldLink RX6 32 "RenamingGridModel" "depthOf" "[I", Cond.fieldLink RX6 35 "RenamingGridModel" "parentOf" "[I", Cond.fieldLink RX6 38 "RenamingGridModel" "byOf" "[I", Cond.methodLink RX6 128 yX6_statusIn, Cond.instanceMethod yX6_statusIn, Cond.selects RX6 yX6_statusIn yX6_statusIn, Cond.code yX6_statusIn cX6_statusIn 2 (some .int)]
def wsX6_findAll_r2 : List Cond := [Cond.methodLink RX6 131 yX6_stepOf, Cond.instanceMethod yX6_stepOf, Cond.selects RX6 yX6_stepOf yX6_stepOf, Cond.code yX6_stepOf cX6_stepOf 3 (some .int), Cond.fieldLink RX6 74 "RenamingGridModel" "leftSplitter" "I", Cond.methodLink RX6 67 yX6_splitterIn, Cond.instanceMethod yX6_splitterIn, Cond.selects RX6 yX6_splitterIn yX6_splitterIn, Cond.code yX6_splitterIn cX6_splitterIn 2 (some .int), Cond.methodLink RX6 85 yX6_phaseIn, Cond.instanceMethod yX6_phaseIn, Cond.selects RX6 yX6_phaseIn yX6_phaseIn, Cond.code yX6_phaseIn cX6_phaseIn 2 (some .int), Cond.methodLink RX6 88 yX6_proceed, Cond.instanceMethod yX6_proceed, Cond.selects RX6 yX6_proceed yX6_proceed, Cond.code yX6_proceed cX6_proceed 3 (some .int), Cond.methodLink RX6 81 yX6_setProcess, Cond.instanceMethod yX6_setProcess, Cond.selects RX6 yX6_setProcess yX6_setProcess, Cond.code yX6_setProcess cX6_setProcess 6 none, Cond.methodLink RX6 92 yX6_doorIn, Cond.instanceMethod yX6_doorIn, Cond.selects RX6 yX6_doorIn yX6_doorIn]
def wsX6_findAll_r3 : List Cond := [Cond.code yX6_doorIn cX6_doorIn 2 (some .int), Cond.methodLink RX6 95 yX6_move, Cond.instanceMethod yX6_move, Cond.selects RX6 yX6_move yX6_move, Cond.code yX6_move cX6_move 5 (some .int), Cond.fieldLink RX6 77 "RenamingGridModel" "wentRight" "Z", Cond.methodLink RX6 71 yX6_diagonal, Cond.static yX6_diagonal, Cond.code yX6_diagonal cX6_diagonal 2 (some .int), Cond.methodLink RX6 99 yX6_ownerIn, Cond.instanceMethod yX6_ownerIn, Cond.selects RX6 yX6_ownerIn yX6_ownerIn, Cond.code yX6_ownerIn cX6_ownerIn 2 (some .int), Cond.methodLink RX6 102 yX6_closeDoor, Cond.instanceMethod yX6_closeDoor, Cond.selects RX6 yX6_closeDoor yX6_closeDoor, Cond.code yX6_closeDoor cX6_closeDoor 2 (some .int), Cond.methodLink RX6 105 yX6_becomeNamed, Cond.instanceMethod yX6_becomeNamed, Cond.selects RX6 yX6_becomeNamed yX6_becomeNamed, Cond.code yX6_becomeNamed cX6_becomeNamed 2 (some .int)]
def wsX6_findAll : List Cond := .code yX6_findAll cX6_findAll 3 none :: ((wsX6_findAll_r1 ++ (wsX6_findAll_r2 ++ wsX6_findAll_r3)) ++ wsX60)
def wsX6_isFinal : List Cond := .code yX6_isFinal cX6_isFinal 3 (some .boolean) :: ([.fieldLink RX6 7 "RenamingGridModel" "s" "[I", .methodLink RX6 128 yX6_statusIn, .instanceMethod yX6_statusIn, .selects RX6 yX6_statusIn yX6_statusIn, .initialized RX6, .code yX6_statusIn cX6_statusIn 2 (some .int), .fieldLink RX6 61 "RenamingGridModel" "processes" "I"] ++ wsX60)
def wsX6_isViolation : List Cond := .code yX6_isViolation cX6_isViolation 4 (some .boolean) :: ([.fieldLink RX6 7 "RenamingGridModel" "s" "[I", .methodLink RX6 128 yX6_statusIn, .instanceMethod yX6_statusIn, .selects RX6 yX6_statusIn yX6_statusIn, .initialized RX6, .code yX6_statusIn cX6_statusIn 2 (some .int), .fieldLink RX6 61 "RenamingGridModel" "processes" "I", .methodLink RX6 67 yX6_splitterIn, .instanceMethod yX6_splitterIn, .selects RX6 yX6_splitterIn yX6_splitterIn, .code yX6_splitterIn cX6_splitterIn 2 (some .int)] ++ wsX60)
def wsX6_noteFinal : List Cond := .code yX6_noteFinal cX6_noteFinal 4 none :: ([.fieldLink RX6 195 "RenamingGridModel" "finals" "I", .fieldLink RX6 7 "RenamingGridModel" "s" "[I", .fieldLink RX6 44 "RenamingGridModel" "finalsBy" "[I", .fieldLink RX6 198 "RenamingGridModel" "outcomes" "I", .fieldLink RX6 50 "RenamingGridModel" "isOutcome" "[Z", .methodLink RX6 128 yX6_statusIn, .instanceMethod yX6_statusIn, .selects RX6 yX6_statusIn yX6_statusIn, .initialized RX6, .code yX6_statusIn cX6_statusIn 2 (some .int), .fieldLink RX6 61 "RenamingGridModel" "processes" "I", .methodLink RX6 67 yX6_splitterIn, .instanceMethod yX6_splitterIn, .selects RX6 yX6_splitterIn yX6_splitterIn, .code yX6_splitterIn cX6_splitterIn 2 (some .int)] ++ wsX60)
def wsX6_notePath : List Cond := .code yX6_notePath cX6_notePath 4 none :: ([.fieldLink RX6 32 "RenamingGridModel" "depthOf" "[I", .fieldLink RX6 201 "RenamingGridModel" "pathLength" "I", .fieldLink RX6 47 "RenamingGridModel" "path" "[I", .fieldLink RX6 38 "RenamingGridModel" "byOf" "[I", .fieldLink RX6 35 "RenamingGridModel" "parentOf" "[I"] ++ wsX60)
def wsX6_note_r1 : List Cond := [Cond.fieldLink RX6 26 "RenamingGridModel" "registersOf" "[I", Cond.fieldLink RX6 64 "RenamingGridModel" "registers" "I", Cond.fieldLink RX6 29 "RenamingGridModel" "processesOf" "[I", Cond.fieldLink RX6 61 "RenamingGridModel" "processes" "I", Cond.fieldLink RX6 32 "RenamingGridModel" "depthOf" "[I", Cond.fieldLink RX6 204 "RenamingGridModel" "deepest" "I", Cond.fieldLink RX6 7 "RenamingGridModel" "s" "[I", Cond.fieldLink RX6 207 "RenamingGridModel" "greatest" "I", Cond.fieldLink RX6 220 "RenamingGridModel" "violations" "I", Cond.methodLink RX6 128 yX6_statusIn, Cond.instanceMethod yX6_statusIn, Cond.selects RX6 yX6_statusIn yX6_statusIn, Cond.initialized RX6, Cond.code yX6_statusIn cX6_statusIn 2 (some .int), Cond.methodLink RX6 67 yX6_splitterIn, Cond.instanceMethod yX6_splitterIn, Cond.selects RX6 yX6_splitterIn yX6_splitterIn, Cond.code yX6_splitterIn cX6_splitterIn 2 (some .int), Cond.methodLink RX6 210 yX6_isFinal, Cond.instanceMethod yX6_isFinal, Cond.selects RX6 yX6_isFinal yX6_isFinal, Cond.code yX6_isFinal cX6_isFinal 3 (some .boolean), Cond.methodLink RX6 214 yX6_noteFinal, Cond.instanceMethod yX6_noteFinal]
def wsX6_note_r2 : List Cond := [Cond.selects RX6 yX6_noteFinal yX6_noteFinal, Cond.code yX6_noteFinal cX6_noteFinal 4 none, Cond.fieldLink RX6 195 "RenamingGridModel" "finals" "I", Cond.fieldLink RX6 44 "RenamingGridModel" "finalsBy" "[I", Cond.fieldLink RX6 198 "RenamingGridModel" "outcomes" "I", Cond.fieldLink RX6 50 "RenamingGridModel" "isOutcome" "[Z", Cond.methodLink RX6 217 yX6_isViolation, Cond.instanceMethod yX6_isViolation, Cond.selects RX6 yX6_isViolation yX6_isViolation, Cond.code yX6_isViolation cX6_isViolation 4 (some .boolean), Cond.methodLink RX6 223 yX6_notePath, Cond.instanceMethod yX6_notePath, Cond.selects RX6 yX6_notePath yX6_notePath, Cond.code yX6_notePath cX6_notePath 4 none, Cond.fieldLink RX6 201 "RenamingGridModel" "pathLength" "I", Cond.fieldLink RX6 47 "RenamingGridModel" "path" "[I", Cond.fieldLink RX6 38 "RenamingGridModel" "byOf" "[I", Cond.fieldLink RX6 35 "RenamingGridModel" "parentOf" "[I"]
def wsX6_note : List Cond := .code yX6_note cX6_note 3 none :: ((wsX6_note_r1 ++ wsX6_note_r2) ++ wsX60)
def wsX6_explore_r1 : List Cond := [Cond.fieldLink RX6 57 "RenamingGridModel" "thrown" "I", Cond.fieldLink RX6 188 "RenamingGridModel" "count" "I", Cond.fieldLink RX6 111 "RenamingGridModel" "isExplored" "Z", Cond.fieldLink RX6 195 "RenamingGridModel" "finals" "I", Cond.fieldLink RX6 220 "RenamingGridModel" "violations" "I", Cond.fieldLink RX6 204 "RenamingGridModel" "deepest" "I", Cond.fieldLink RX6 207 "RenamingGridModel" "greatest" "I", Cond.fieldLink RX6 198 "RenamingGridModel" "outcomes" "I", Cond.fieldLink RX6 201 "RenamingGridModel" "pathLength" "I", Cond.fieldLink RX6 50 "RenamingGridModel" "isOutcome" "[Z", Cond.fieldLink RX6 44 "RenamingGridModel" "finalsBy" "[I", Cond.methodLink RX6 227 yX6_findAll, Cond.instanceMethod yX6_findAll, Cond.selects RX6 yX6_findAll yX6_findAll, Cond.initialized RX6, Cond.code yX6_findAll cX6_findAll 3 none, Cond.fieldLink RX6 41 "RenamingGridModel" "table" "[I", Cond.fieldLink RX6 7 "RenamingGridModel" "s" "[I", Cond.fieldLink RX6 26 "RenamingGridModel" "registersOf" "[I", Cond.fieldLink RX6 64 "RenamingGridModel" "registers" "I", Cond.fieldLink RX6 29 "RenamingGridModel" "processesOf" "[I", Cond.fieldLink RX6 61 "RenamingGridModel" "processes" "I", Cond.methodLink RX6 125 yX6_take, Cond.instanceMethod yX6_take]
def wsX6_explore_r2 : List Cond := [Cond.selects RX6 yX6_take yX6_take, Cond.code yX6_take cX6_take 1 none, Cond.methodLink RX6 191 yX6_found, Cond.instanceMethod yX6_found, Cond.selects RX6 yX6_found yX6_found, Cond.code yX6_found cX6_found 4 none, Cond.constant RX6 187 (1540483477), Cond.fieldLink RX6 32 "RenamingGridModel" "depthOf" "[I", Cond.fieldLink RX6 35 "RenamingGridModel" "parentOf" "[I", Cond.fieldLink RX6 38 "RenamingGridModel" "byOf" "[I", Cond.methodLink RX6 128 yX6_statusIn, Cond.instanceMethod yX6_statusIn, Cond.selects RX6 yX6_statusIn yX6_statusIn, Cond.code yX6_statusIn cX6_statusIn 2 (some .int), Cond.methodLink RX6 131 yX6_stepOf, Cond.instanceMethod yX6_stepOf, Cond.selects RX6 yX6_stepOf yX6_stepOf, Cond.code yX6_stepOf cX6_stepOf 3 (some .int), Cond.fieldLink RX6 74 "RenamingGridModel" "leftSplitter" "I", Cond.methodLink RX6 67 yX6_splitterIn, Cond.instanceMethod yX6_splitterIn, Cond.selects RX6 yX6_splitterIn yX6_splitterIn, Cond.code yX6_splitterIn cX6_splitterIn 2 (some .int), Cond.methodLink RX6 85 yX6_phaseIn]
def wsX6_explore_r3 : List Cond := [Cond.instanceMethod yX6_phaseIn, Cond.selects RX6 yX6_phaseIn yX6_phaseIn, Cond.code yX6_phaseIn cX6_phaseIn 2 (some .int), Cond.methodLink RX6 88 yX6_proceed, Cond.instanceMethod yX6_proceed, Cond.selects RX6 yX6_proceed yX6_proceed, Cond.code yX6_proceed cX6_proceed 3 (some .int), Cond.methodLink RX6 81 yX6_setProcess, Cond.instanceMethod yX6_setProcess, Cond.selects RX6 yX6_setProcess yX6_setProcess, Cond.code yX6_setProcess cX6_setProcess 6 none, Cond.methodLink RX6 92 yX6_doorIn, Cond.instanceMethod yX6_doorIn, Cond.selects RX6 yX6_doorIn yX6_doorIn, Cond.code yX6_doorIn cX6_doorIn 2 (some .int), Cond.methodLink RX6 95 yX6_move, Cond.instanceMethod yX6_move, Cond.selects RX6 yX6_move yX6_move, Cond.code yX6_move cX6_move 5 (some .int), Cond.fieldLink RX6 77 "RenamingGridModel" "wentRight" "Z", Cond.methodLink RX6 71 yX6_diagonal, Cond.static yX6_diagonal, Cond.code yX6_diagonal cX6_diagonal 2 (some .int), Cond.methodLink RX6 99 yX6_ownerIn]
def wsX6_explore_r4 : List Cond := [Cond.instanceMethod yX6_ownerIn, Cond.selects RX6 yX6_ownerIn yX6_ownerIn, Cond.code yX6_ownerIn cX6_ownerIn 2 (some .int), Cond.methodLink RX6 102 yX6_closeDoor, Cond.instanceMethod yX6_closeDoor, Cond.selects RX6 yX6_closeDoor yX6_closeDoor, Cond.code yX6_closeDoor cX6_closeDoor 2 (some .int), Cond.methodLink RX6 105 yX6_becomeNamed, Cond.instanceMethod yX6_becomeNamed, Cond.selects RX6 yX6_becomeNamed yX6_becomeNamed, Cond.code yX6_becomeNamed cX6_becomeNamed 2 (some .int), Cond.methodLink RX6 230 yX6_note, Cond.instanceMethod yX6_note, Cond.selects RX6 yX6_note yX6_note, Cond.code yX6_note cX6_note 3 none, Cond.methodLink RX6 210 yX6_isFinal, Cond.instanceMethod yX6_isFinal, Cond.selects RX6 yX6_isFinal yX6_isFinal, Cond.code yX6_isFinal cX6_isFinal 3 (some .boolean), Cond.methodLink RX6 214 yX6_noteFinal, Cond.instanceMethod yX6_noteFinal, Cond.selects RX6 yX6_noteFinal yX6_noteFinal, Cond.code yX6_noteFinal cX6_noteFinal 4 none, Cond.methodLink RX6 217 yX6_isViolation]
def wsX6_explore_r5 : List Cond := [Cond.instanceMethod yX6_isViolation, Cond.selects RX6 yX6_isViolation yX6_isViolation, Cond.code yX6_isViolation cX6_isViolation 4 (some .boolean), Cond.methodLink RX6 223 yX6_notePath, Cond.instanceMethod yX6_notePath, Cond.selects RX6 yX6_notePath yX6_notePath, Cond.code yX6_notePath cX6_notePath 4 none, Cond.fieldLink RX6 47 "RenamingGridModel" "path" "[I"]
def wsX6_explore : List Cond := .code yX6_explore cX6_explore 2 (some .int) :: ((wsX6_explore_r1 ++ (wsX6_explore_r2 ++ (wsX6_explore_r3 ++ (wsX6_explore_r4 ++ wsX6_explore_r5)))) ++ wsX60)
def wsX6_finalCount : List Cond := .code yX6_finalCount cX6_finalCount 1 (some .int) :: ([.fieldLink RX6 57 "RenamingGridModel" "thrown" "I", .fieldLink RX6 111 "RenamingGridModel" "isExplored" "Z", .fieldLink RX6 195 "RenamingGridModel" "finals" "I"] ++ wsX60)
def wsX6_violationCount : List Cond := .code yX6_violationCount cX6_violationCount 1 (some .int) :: ([.fieldLink RX6 57 "RenamingGridModel" "thrown" "I", .fieldLink RX6 111 "RenamingGridModel" "isExplored" "Z", .fieldLink RX6 220 "RenamingGridModel" "violations" "I"] ++ wsX60)
def wsX6_violationStep : List Cond := .code yX6_violationStep cX6_violationStep 2 (some .int) :: ([.fieldLink RX6 57 "RenamingGridModel" "thrown" "I", .fieldLink RX6 111 "RenamingGridModel" "isExplored" "Z", .fieldLink RX6 220 "RenamingGridModel" "violations" "I", .fieldLink RX6 201 "RenamingGridModel" "pathLength" "I", .fieldLink RX6 47 "RenamingGridModel" "path" "[I"] ++ wsX60)
def wsX6_greatestDepth : List Cond := .code yX6_greatestDepth cX6_greatestDepth 1 (some .int) :: ([.fieldLink RX6 57 "RenamingGridModel" "thrown" "I", .fieldLink RX6 111 "RenamingGridModel" "isExplored" "Z", .fieldLink RX6 204 "RenamingGridModel" "deepest" "I"] ++ wsX60)
def wsX6_greatestName : List Cond := .code yX6_greatestName cX6_greatestName 1 (some .int) :: ([.fieldLink RX6 57 "RenamingGridModel" "thrown" "I", .fieldLink RX6 111 "RenamingGridModel" "isExplored" "Z", .fieldLink RX6 207 "RenamingGridModel" "greatest" "I"] ++ wsX60)
def wsX6_outcomeCount : List Cond := .code yX6_outcomeCount cX6_outcomeCount 1 (some .int) :: ([.fieldLink RX6 57 "RenamingGridModel" "thrown" "I", .fieldLink RX6 111 "RenamingGridModel" "isExplored" "Z", .fieldLink RX6 198 "RenamingGridModel" "outcomes" "I"] ++ wsX60)
def wsX6_finalsWith : List Cond := .code yX6_finalsWith cX6_finalsWith 3 (some .int) :: ([.fieldLink RX6 57 "RenamingGridModel" "thrown" "I", .fieldLink RX6 111 "RenamingGridModel" "isExplored" "Z", .fieldLink RX6 44 "RenamingGridModel" "finalsBy" "[I", .methodLink RX6 134 yX6_isProcess, .instanceMethod yX6_isProcess, .selects RX6 yX6_isProcess yX6_isProcess, .initialized RX6, .code yX6_isProcess cX6_isProcess 2 (some .boolean), .fieldLink RX6 7 "RenamingGridModel" "s" "[I", .methodLink RX6 114 yX6_in, .static yX6_in, .code yX6_in cX6_in 3 (some .boolean), .methodLink RX6 184 yX6_isSplitter, .instanceMethod yX6_isSplitter, .selects RX6 yX6_isSplitter yX6_isSplitter, .code yX6_isSplitter cX6_isSplitter 2 (some .boolean), .methodLink RX6 121 yX6_names, .instanceMethod yX6_names, .selects RX6 yX6_names yX6_names, .code yX6_names cX6_names 1 (some .int)] ++ wsX60)
def wsX6_undo : List Cond := .code yX6_undo cX6_undo 2 (some .int) :: ([.fieldLink RX6 57 "RenamingGridModel" "thrown" "I", .fieldLink RX6 108 "RenamingGridModel" "depth" "I", .fieldLink RX6 7 "RenamingGridModel" "s" "[I", .fieldLink RX6 13 "RenamingGridModel" "history" "[I", .fieldLink RX6 111 "RenamingGridModel" "isExplored" "Z"] ++ wsX60)
def wsX6_save : List Cond := .code yX6_save cX6_save 3 (some .int) :: ([.fieldLink RX6 57 "RenamingGridModel" "thrown" "I", .fieldLink RX6 16 "RenamingGridModel" "slots" "[I", .fieldLink RX6 7 "RenamingGridModel" "s" "[I", .fieldLink RX6 19 "RenamingGridModel" "isSaved" "[Z", .methodLink RX6 114 yX6_in, .static yX6_in, .initialized RX6, .code yX6_in cX6_in 3 (some .boolean), .methodLink RX6 141 yX6_running, .instanceMethod yX6_running, .selects RX6 yX6_running yX6_running, .code yX6_running cX6_running 3 (some .int), .methodLink RX6 125 yX6_take, .instanceMethod yX6_take, .selects RX6 yX6_take yX6_take, .code yX6_take cX6_take 1 none, .fieldLink RX6 64 "RenamingGridModel" "registers" "I", .fieldLink RX6 61 "RenamingGridModel" "processes" "I", .methodLink RX6 128 yX6_statusIn, .instanceMethod yX6_statusIn, .selects RX6 yX6_statusIn yX6_statusIn, .code yX6_statusIn cX6_statusIn 2 (some .int)] ++ wsX60)
def wsX6_restore : List Cond := .code yX6_restore cX6_restore 3 (some .int) :: ([.fieldLink RX6 57 "RenamingGridModel" "thrown" "I", .fieldLink RX6 19 "RenamingGridModel" "isSaved" "[Z", .fieldLink RX6 7 "RenamingGridModel" "s" "[I", .fieldLink RX6 16 "RenamingGridModel" "slots" "[I", .fieldLink RX6 108 "RenamingGridModel" "depth" "I", .fieldLink RX6 111 "RenamingGridModel" "isExplored" "Z", .methodLink RX6 114 yX6_in, .static yX6_in, .initialized RX6, .code yX6_in cX6_in 3 (some .boolean), .methodLink RX6 141 yX6_running, .instanceMethod yX6_running, .selects RX6 yX6_running yX6_running, .code yX6_running cX6_running 3 (some .int), .methodLink RX6 125 yX6_take, .instanceMethod yX6_take, .selects RX6 yX6_take yX6_take, .code yX6_take cX6_take 1 none, .fieldLink RX6 64 "RenamingGridModel" "registers" "I", .fieldLink RX6 61 "RenamingGridModel" "processes" "I", .methodLink RX6 128 yX6_statusIn, .instanceMethod yX6_statusIn, .selects RX6 yX6_statusIn yX6_statusIn, .code yX6_statusIn cX6_statusIn 2 (some .int)] ++ wsX60)
def wsJ9_max_7cf53 : List Cond := .code yJ9_max_7cf53 cJ9_max_7cf53 2 (some .int) :: ([])
def wsL_law_r1 : List Cond := [Cond.classLink RL 7 RX5, Cond.instantiable RX5 8, Cond.initialized RX5, Cond.classLink RL 10 RX6, Cond.instantiable RX6 34, Cond.initialized RX6, Cond.methodLink RL 9 yX5_init, Cond.instanceMethod yX5_init, Cond.code yX5_init cX5_init 2 none, Cond.methodLink RX5 1 objectInit, Cond.instanceMethod objectInit, Cond.code objectInit ⟨#[0xb1]⟩ 1 none, Cond.classLink RX5 7 RX4, Cond.instantiable RX4 8, Cond.initialized RX4, Cond.fieldLink RX5 10 "RenamingGrid" "present" "LRenamingGrid$State;", Cond.fieldLink RX5 20 "RenamingGrid" "scratch" "LRenamingGrid$State;", Cond.fieldLink RX5 23 "RenamingGrid" "saved" "[LRenamingGrid$State;", Cond.fieldLink RX5 27 "RenamingGrid" "slots" "[LRenamingGrid$State;", Cond.classLink RX5 30 RX3, Cond.instantiable RX3 5, Cond.initialized RX3, Cond.fieldLink RX5 33 "RenamingGrid" "schedule" "LRenamingGrid$Schedule;", Cond.instanceMethod yX4_init]
def wsL_law_r2 : List Cond := [Cond.code yX4_init cX4_init 1 none, Cond.methodLink RX4 3 objectInit, Cond.methodLink RX5 16 yX4_begin, Cond.instanceMethod yX4_begin, Cond.selects RX4 yX4_begin yX4_begin, Cond.code yX4_begin cX4_begin 5 none, Cond.fieldLink RX4 9 "RenamingGrid$State" "size" "I", Cond.fieldLink RX4 15 "RenamingGrid$State" "processes" "I", Cond.fieldLink RX4 18 "RenamingGrid$State" "program" "I", Cond.fieldLink RX4 21 "RenamingGrid$State" "configuration" "J", Cond.fieldLink RX4 25 "RenamingGrid$State" "stepsMade" "J", Cond.fieldLink RX4 28 "RenamingGrid$State" "entries" "J", Cond.fieldLink RX4 31 "RenamingGrid$State" "rightExits" "J", Cond.fieldLink RX4 34 "RenamingGrid$State" "downExits" "J", Cond.methodLink RX4 37 yX1_withOneMore, Cond.static yX1_withOneMore, Cond.initialized RX1, Cond.code yX1_withOneMore cX1_withOneMore 3 (some .long), Cond.instanceMethod yX3_init, Cond.code yX3_init cX3_init 1 none, Cond.methodLink RX3 3 objectInit, Cond.arrayClass .char, Cond.fieldLink RX3 9 "RenamingGrid$Schedule" "text" "[C", Cond.arrayClass .int]
def wsL_law_r3 : List Cond := [Cond.fieldLink RX3 13 "RenamingGrid$Schedule" "itemProcesses" "[I", Cond.fieldLink RX3 17 "RenamingGrid$Schedule" "itemCounts" "[I", Cond.methodLink RL 12 yX6_init, Cond.instanceMethod yX6_init, Cond.code yX6_init cX6_init 1 none, Cond.methodLink RX6 1 objectInit, Cond.fieldLink RX6 7 "RenamingGridModel" "s" "[I", Cond.fieldLink RX6 13 "RenamingGridModel" "history" "[I", Cond.fieldLink RX6 16 "RenamingGridModel" "slots" "[I", Cond.arrayClass .boolean, Cond.fieldLink RX6 19 "RenamingGridModel" "isSaved" "[Z", Cond.fieldLink RX6 23 "RenamingGridModel" "text" "[I", Cond.fieldLink RX6 26 "RenamingGridModel" "registersOf" "[I", Cond.fieldLink RX6 29 "RenamingGridModel" "processesOf" "[I", Cond.fieldLink RX6 32 "RenamingGridModel" "depthOf" "[I", Cond.fieldLink RX6 35 "RenamingGridModel" "parentOf" "[I", Cond.fieldLink RX6 38 "RenamingGridModel" "byOf" "[I", Cond.fieldLink RX6 41 "RenamingGridModel" "table" "[I", Cond.fieldLink RX6 44 "RenamingGridModel" "finalsBy" "[I", Cond.fieldLink RX6 47 "RenamingGridModel" "path" "[I", Cond.fieldLink RX6 50 "RenamingGridModel" "isOutcome" "[Z", Cond.methodLink RX6 53 yX6_begin, Cond.instanceMethod yX6_begin, Cond.selects RX6 yX6_begin yX6_begin]
def wsL_law_r4 : List Cond := [Cond.code yX6_begin cX6_begin 5 none, Cond.methodLink RL 13 yX5_configure, Cond.instanceMethod yX5_configure, Cond.selects RX5 yX5_configure yX5_configure, Cond.code yX5_configure cX5_configure 5 (some .int), Cond.methodLink RX5 37 yX5_prepareChange, Cond.instanceMethod yX5_prepareChange, Cond.selects RX5 yX5_prepareChange yX5_prepareChange, Cond.code yX5_prepareChange cX5_prepareChange 1 none, Cond.fieldLink RX5 175 "RenamingGrid" "savedCount" "I", Cond.fieldLink RX5 137 "RenamingGrid" "told" "LRenamingGrid$Exploration;", Cond.methodLink RX5 178 yX5_discardOldestSaved, Cond.instanceMethod yX5_discardOldestSaved, Cond.selects RX5 yX5_discardOldestSaved yX5_discardOldestSaved, Cond.code yX5_discardOldestSaved cX5_discardOldestSaved 3 none, Cond.methodLink RX5 108 yX4_copyFrom, Cond.instanceMethod yX4_copyFrom, Cond.selects RX4 yX4_copyFrom yX4_copyFrom, Cond.code yX4_copyFrom cX4_copyFrom 2 none, Cond.methodLink RX5 40 yX4_names, Cond.instanceMethod yX4_names, Cond.selects RX4 yX4_names yX4_names, Cond.code yX4_names cX4_names 1 (some .int), Cond.methodLink RL 17 yX6_configure]
def wsL_law_r5 : List Cond := [Cond.instanceMethod yX6_configure, Cond.selects RX6 yX6_configure yX6_configure, Cond.code yX6_configure cX6_configure 4 (some .int), Cond.fieldLink RX6 57 "RenamingGridModel" "thrown" "I", Cond.methodLink RX6 114 yX6_in, Cond.static yX6_in, Cond.code yX6_in cX6_in 3 (some .boolean), Cond.methodLink RX6 118 yX6_keep, Cond.instanceMethod yX6_keep, Cond.selects RX6 yX6_keep yX6_keep, Cond.code yX6_keep cX6_keep 2 none, Cond.fieldLink RX6 108 "RenamingGridModel" "depth" "I", Cond.fieldLink RX6 111 "RenamingGridModel" "isExplored" "Z", Cond.methodLink RX6 121 yX6_names, Cond.instanceMethod yX6_names, Cond.selects RX6 yX6_names yX6_names, Cond.code yX6_names cX6_names 1 (some .int), Cond.methodLink RL 18 yX5_nameCount, Cond.instanceMethod yX5_nameCount, Cond.selects RX5 yX5_nameCount yX5_nameCount, Cond.code yX5_nameCount cX5_nameCount 1 (some .int), Cond.methodLink RL 22 yX6_nameCount, Cond.instanceMethod yX6_nameCount, Cond.selects RX6 yX6_nameCount yX6_nameCount]
def wsL_law_r6 : List Cond := [Cond.code yX6_nameCount cX6_nameCount 1 (some .int), Cond.methodLink RL 23 yX5_processCount, Cond.instanceMethod yX5_processCount, Cond.selects RX5 yX5_processCount yX5_processCount, Cond.code yX5_processCount cX5_processCount 1 (some .int), Cond.methodLink RL 26 yX6_processCount, Cond.instanceMethod yX6_processCount, Cond.selects RX6 yX6_processCount yX6_processCount, Cond.code yX6_processCount cX6_processCount 1 (some .int), Cond.methodLink RL 27 yX5_step, Cond.instanceMethod yX5_step, Cond.selects RX5 yX5_step yX5_step, Cond.code yX5_step cX5_step 2 (some .int), Cond.methodLink RX5 48 yX4_hasProcess, Cond.instanceMethod yX4_hasProcess, Cond.selects RX4 yX4_hasProcess yX4_hasProcess, Cond.code yX4_hasProcess cX4_hasProcess 2 (some .boolean), Cond.methodLink RX5 52 yX4_isRunning, Cond.instanceMethod yX4_isRunning, Cond.selects RX4 yX4_isRunning yX4_isRunning, Cond.code yX4_isRunning cX4_isRunning 2 (some .boolean), Cond.methodLink RX4 47 yX0_statusIn, Cond.static yX0_statusIn, Cond.initialized RX0]
def wsL_law_r7 : List Cond := [Cond.code yX0_statusIn cX0_statusIn 3 (some .int), Cond.methodLink RX5 55 yX4_advance, Cond.instanceMethod yX4_advance, Cond.selects RX4 yX4_advance yX4_advance, Cond.code yX4_advance cX4_advance 8 (some .int), Cond.methodLink RX4 61 yX0_afterStep, Cond.static yX0_afterStep, Cond.code yX0_afterStep cX0_afterStep 10 (some .long), Cond.methodLink RX0 15 yX0_splitterIn, Cond.static yX0_splitterIn, Cond.code yX0_splitterIn cX0_splitterIn 3 (some .int), Cond.methodLink RX0 26 yX0_phaseIn, Cond.static yX0_phaseIn, Cond.code yX0_phaseIn cX0_phaseIn 3 (some .int), Cond.methodLink RX0 29 yX0_withOwner, Cond.static yX0_withOwner, Cond.code yX0_withOwner cX0_withOwner 5 (some .long), Cond.constantLong RX0 22 (3), Cond.constantLong RX0 24 (-1), Cond.methodLink RX0 18 yX0_ownerShift, Cond.static yX0_ownerShift, Cond.code yX0_ownerShift cX0_ownerShift 1 (some .int), Cond.methodLink RX0 33 yX0_withPhase, Cond.static yX0_withPhase]
def wsL_law_r8 : List Cond := [Cond.code yX0_withPhase cX0_withPhase 5 (some .long), Cond.methodLink RX0 36 yX0_doorIn, Cond.static yX0_doorIn, Cond.code yX0_doorIn cX0_doorIn 3 (some .int), Cond.methodLink RX0 39 yX0_moved, Cond.static yX0_moved, Cond.code yX0_moved cX0_moved 12 (some .long), Cond.constantLong RX0 53 (255), Cond.constantLong RX0 58 (2), Cond.methodLink RX0 55 yX0_diagonalOf, Cond.static yX0_diagonalOf, Cond.code yX0_diagonalOf cX0_diagonalOf 1 (some .int), Cond.methodLink RX0 43 yX0_ownerIn, Cond.static yX0_ownerIn, Cond.code yX0_ownerIn cX0_ownerIn 4 (some .int), Cond.methodLink RX0 46 yX0_withDoorClosed, Cond.static yX0_withDoorClosed, Cond.code yX0_withDoorClosed cX0_withDoorClosed 3 (some .long), Cond.methodLink RX0 50 yX0_withStatus, Cond.static yX0_withStatus, Cond.code yX0_withStatus cX0_withStatus 5 (some .long), Cond.methodLink RX4 65 yX0_splitterIn, Cond.methodLink RX4 68 yX0_phaseIn, Cond.methodLink RX4 71 yX4_countExit]
def wsL_law_r9 : List Cond := [Cond.instanceMethod yX4_countExit, Cond.selects RX4 yX4_countExit yX4_countExit, Cond.code yX4_countExit cX4_countExit 3 none, Cond.methodLink RL 31 yX6_step, Cond.instanceMethod yX6_step, Cond.selects RX6 yX6_step yX6_step, Cond.code yX6_step cX6_step 2 (some .int), Cond.methodLink RX6 134 yX6_isProcess, Cond.instanceMethod yX6_isProcess, Cond.selects RX6 yX6_isProcess yX6_isProcess, Cond.code yX6_isProcess cX6_isProcess 2 (some .boolean), Cond.methodLink RX6 125 yX6_take, Cond.instanceMethod yX6_take, Cond.selects RX6 yX6_take yX6_take, Cond.code yX6_take cX6_take 1 none, Cond.fieldLink RX6 64 "RenamingGridModel" "registers" "I", Cond.fieldLink RX6 61 "RenamingGridModel" "processes" "I", Cond.methodLink RX6 128 yX6_statusIn, Cond.instanceMethod yX6_statusIn, Cond.selects RX6 yX6_statusIn yX6_statusIn, Cond.code yX6_statusIn cX6_statusIn 2 (some .int), Cond.methodLink RX6 138 yX6_make, Cond.instanceMethod yX6_make, Cond.selects RX6 yX6_make yX6_make]
def wsL_law_r10 : List Cond := [Cond.code yX6_make cX6_make 3 (some .int), Cond.fieldLink RX6 74 "RenamingGridModel" "leftSplitter" "I", Cond.fieldLink RX6 77 "RenamingGridModel" "wentRight" "Z", Cond.methodLink RX6 131 yX6_stepOf, Cond.instanceMethod yX6_stepOf, Cond.selects RX6 yX6_stepOf yX6_stepOf, Cond.code yX6_stepOf cX6_stepOf 3 (some .int), Cond.methodLink RX6 67 yX6_splitterIn, Cond.instanceMethod yX6_splitterIn, Cond.selects RX6 yX6_splitterIn yX6_splitterIn, Cond.code yX6_splitterIn cX6_splitterIn 2 (some .int), Cond.methodLink RX6 85 yX6_phaseIn, Cond.instanceMethod yX6_phaseIn, Cond.selects RX6 yX6_phaseIn yX6_phaseIn, Cond.code yX6_phaseIn cX6_phaseIn 2 (some .int), Cond.methodLink RX6 88 yX6_proceed, Cond.instanceMethod yX6_proceed, Cond.selects RX6 yX6_proceed yX6_proceed, Cond.code yX6_proceed cX6_proceed 3 (some .int), Cond.methodLink RX6 81 yX6_setProcess, Cond.instanceMethod yX6_setProcess, Cond.selects RX6 yX6_setProcess yX6_setProcess, Cond.code yX6_setProcess cX6_setProcess 6 none, Cond.methodLink RX6 92 yX6_doorIn]
def wsL_law_r11 : List Cond := [Cond.instanceMethod yX6_doorIn, Cond.selects RX6 yX6_doorIn yX6_doorIn, Cond.code yX6_doorIn cX6_doorIn 2 (some .int), Cond.methodLink RX6 95 yX6_move, Cond.instanceMethod yX6_move, Cond.selects RX6 yX6_move yX6_move, Cond.code yX6_move cX6_move 5 (some .int), Cond.methodLink RX6 71 yX6_diagonal, Cond.static yX6_diagonal, Cond.code yX6_diagonal cX6_diagonal 2 (some .int), Cond.methodLink RX6 99 yX6_ownerIn, Cond.instanceMethod yX6_ownerIn, Cond.selects RX6 yX6_ownerIn yX6_ownerIn, Cond.code yX6_ownerIn cX6_ownerIn 2 (some .int), Cond.methodLink RX6 102 yX6_closeDoor, Cond.instanceMethod yX6_closeDoor, Cond.selects RX6 yX6_closeDoor yX6_closeDoor, Cond.code yX6_closeDoor cX6_closeDoor 2 (some .int), Cond.methodLink RX6 105 yX6_becomeNamed, Cond.instanceMethod yX6_becomeNamed, Cond.selects RX6 yX6_becomeNamed yX6_becomeNamed, Cond.code yX6_becomeNamed cX6_becomeNamed 2 (some .int), Cond.methodLink RL 32 yX5_crash, Cond.instanceMethod yX5_crash]
def wsL_law_r12 : List Cond := [Cond.selects RX5 yX5_crash yX5_crash, Cond.code yX5_crash cX5_crash 2 (some .int), Cond.methodLink RX5 59 yX4_markCrashed, Cond.instanceMethod yX4_markCrashed, Cond.selects RX4 yX4_markCrashed yX4_markCrashed, Cond.code yX4_markCrashed cX4_markCrashed 2 none, Cond.methodLink RX4 57 yX0_withStatus, Cond.methodLink RX5 63 yX4_countRunning, Cond.instanceMethod yX4_countRunning, Cond.selects RX4 yX4_countRunning yX4_countRunning, Cond.code yX4_countRunning cX4_countRunning 3 (some .int), Cond.methodLink RX4 53 yX4_isRunning, Cond.methodLink RL 35 yX6_crash, Cond.instanceMethod yX6_crash, Cond.selects RX6 yX6_crash yX6_crash, Cond.code yX6_crash cX6_crash 2 (some .int), Cond.methodLink RX6 141 yX6_running, Cond.instanceMethod yX6_running, Cond.selects RX6 yX6_running yX6_running, Cond.code yX6_running cX6_running 3 (some .int), Cond.methodLink RL 36 yX5_append, Cond.instanceMethod yX5_append, Cond.selects RX5 yX5_append yX5_append, Cond.code yX5_append cX5_append 2 (some .int)]
def wsL_law_r13 : List Cond := [Cond.methodLink RX5 66 yX3_isFull, Cond.instanceMethod yX3_isFull, Cond.selects RX3 yX3_isFull yX3_isFull, Cond.code yX3_isFull cX3_isFull 1 (some .boolean), Cond.fieldLink RX3 20 "RenamingGrid$Schedule" "length" "I", Cond.methodLink RX5 70 yX3_add, Cond.instanceMethod yX3_add, Cond.selects RX3 yX3_add yX3_add, Cond.code yX3_add cX3_add 2 (some .int), Cond.methodLink RX3 24 yX3_isFull, Cond.methodLink RL 39 yX6_append, Cond.instanceMethod yX6_append, Cond.selects RX6 yX6_append yX6_append, Cond.code yX6_append cX6_append 2 (some .int), Cond.fieldLink RX6 144 "RenamingGridModel" "length" "I", Cond.methodLink RL 40 yX5_clearText, Cond.instanceMethod yX5_clearText, Cond.selects RX5 yX5_clearText yX5_clearText, Cond.code yX5_clearText cX5_clearText 1 (some .int), Cond.methodLink RX5 74 yX3_clear, Cond.instanceMethod yX3_clear, Cond.selects RX3 yX3_clear yX3_clear, Cond.code yX3_clear cX3_clear 2 (some .int), Cond.methodLink RL 43 yX6_clearText]
def wsL_law_r14 : List Cond := [Cond.instanceMethod yX6_clearText, Cond.selects RX6 yX6_clearText yX6_clearText, Cond.code yX6_clearText cX6_clearText 2 (some .int), Cond.methodLink RL 44 yX5_runText, Cond.instanceMethod yX5_runText, Cond.selects RX5 yX5_runText yX5_runText, Cond.code yX5_runText cX5_runText 3 (some .int), Cond.methodLink RX5 77 yX3_read, Cond.instanceMethod yX3_read, Cond.selects RX3 yX3_read yX3_read, Cond.code yX3_read cX3_read 4 (some .int), Cond.fieldLink RX3 28 "RenamingGrid$Schedule" "items" "I", Cond.methodLink RX3 31 yX3_beginsToken, Cond.instanceMethod yX3_beginsToken, Cond.selects RX3 yX3_beginsToken yX3_beginsToken, Cond.code yX3_beginsToken cX3_beginsToken 3 (some .boolean), Cond.methodLink RX3 58 yX3_digitAt, Cond.instanceMethod yX3_digitAt, Cond.selects RX3 yX3_digitAt yX3_digitAt, Cond.code yX3_digitAt cX3_digitAt 3 (some .int), Cond.methodLink RX3 49 yX3_characterAt, Cond.instanceMethod yX3_characterAt, Cond.selects RX3 yX3_characterAt yX3_characterAt, Cond.code yX3_characterAt cX3_characterAt 2 (some .int)]
def wsL_law_r15 : List Cond := [Cond.methodLink RX3 35 yX3_afterToken, Cond.instanceMethod yX3_afterToken, Cond.selects RX3 yX3_afterToken yX3_afterToken, Cond.code yX3_afterToken cX3_afterToken 6 (some .int), Cond.methodLink RX3 45 yX3_numberAt, Cond.instanceMethod yX3_numberAt, Cond.selects RX3 yX3_numberAt yX3_numberAt, Cond.code yX3_numberAt cX3_numberAt 4 (some .int), Cond.methodLink RX3 52 yX3_addItem, Cond.instanceMethod yX3_addItem, Cond.selects RX3 yX3_addItem yX3_addItem, Cond.code yX3_addItem cX3_addItem 2 (some .boolean), Cond.methodLink RX3 55 yX3_setCount, Cond.instanceMethod yX3_setCount, Cond.selects RX3 yX3_setCount yX3_setCount, Cond.code yX3_setCount cX3_setCount 2 (some .boolean), Cond.methodLink RX5 80 yX3_executeOn, Cond.instanceMethod yX3_executeOn, Cond.selects RX3 yX3_executeOn yX3_executeOn, Cond.code yX3_executeOn cX3_executeOn 4 (some .int), Cond.methodLink RX3 39 yX4_advanceUpTo, Cond.instanceMethod yX4_advanceUpTo, Cond.selects RX4 yX4_advanceUpTo yX4_advanceUpTo, Cond.code yX4_advanceUpTo cX4_advanceUpTo 4 (some .int)]
def wsL_law_r16 : List Cond := [Cond.methodLink RX4 75 yX4_advance, Cond.methodLink RL 47 yX6_runText, Cond.instanceMethod yX6_runText, Cond.selects RX6 yX6_runText yX6_runText, Cond.code yX6_runText cX6_runText 2 (some .int), Cond.fieldLink RX6 162 "RenamingGridModel" "error" "I", Cond.methodLink RX6 178 yX6_read, Cond.instanceMethod yX6_read, Cond.selects RX6 yX6_read yX6_read, Cond.code yX6_read cX6_read 5 (some .int), Cond.fieldLink RX6 147 "RenamingGridModel" "next" "I", Cond.fieldLink RX6 159 "RenamingGridModel" "token" "I", Cond.fieldLink RX6 153 "RenamingGridModel" "start" "I", Cond.fieldLink RX6 156 "RenamingGridModel" "value" "I", Cond.methodLink RX6 165 yX6_advance, Cond.instanceMethod yX6_advance, Cond.selects RX6 yX6_advance yX6_advance, Cond.code yX6_advance cX6_advance 3 none, Cond.methodLink RX6 150 yX6_characterAt, Cond.instanceMethod yX6_characterAt, Cond.selects RX6 yX6_characterAt yX6_characterAt, Cond.code yX6_characterAt cX6_characterAt 2 (some .int), Cond.methodLink RX6 168 yX6_accept, Cond.instanceMethod yX6_accept]
def wsL_law_r17 : List Cond := [Cond.selects RX6 yX6_accept yX6_accept, Cond.code yX6_accept cX6_accept 3 (some .int), Cond.methodLink RX6 172 yX6_isSign, Cond.instanceMethod yX6_isSign, Cond.selects RX6 yX6_isSign yX6_isSign, Cond.code yX6_isSign cX6_isSign 2 (some .boolean), Cond.methodLink RX6 175 yX6_execute, Cond.instanceMethod yX6_execute, Cond.selects RX6 yX6_execute yX6_execute, Cond.code yX6_execute cX6_execute 4 (some .int), Cond.methodLink RL 48 yX5_status, Cond.instanceMethod yX5_status, Cond.selects RX5 yX5_status yX5_status, Cond.code yX5_status cX5_status 2 (some .int), Cond.methodLink RX5 88 yX0_statusIn, Cond.methodLink RL 51 yX6_status, Cond.instanceMethod yX6_status, Cond.selects RX6 yX6_status yX6_status, Cond.code yX6_status cX6_status 2 (some .int), Cond.methodLink RL 52 yX5_splitterOf, Cond.instanceMethod yX5_splitterOf, Cond.selects RX5 yX5_splitterOf yX5_splitterOf, Cond.code yX5_splitterOf cX5_splitterOf 2 (some .int), Cond.methodLink RX5 94 yX0_splitterIn]
def wsL_law_r18 : List Cond := [Cond.methodLink RL 55 yX6_splitterOf, Cond.instanceMethod yX6_splitterOf, Cond.selects RX6 yX6_splitterOf yX6_splitterOf, Cond.code yX6_splitterOf cX6_splitterOf 2 (some .int), Cond.methodLink RL 56 yX5_phaseOf, Cond.instanceMethod yX5_phaseOf, Cond.selects RX5 yX5_phaseOf yX5_phaseOf, Cond.code yX5_phaseOf cX5_phaseOf 2 (some .int), Cond.methodLink RX5 97 yX0_phaseIn, Cond.methodLink RL 59 yX6_phaseOf, Cond.instanceMethod yX6_phaseOf, Cond.selects RX6 yX6_phaseOf yX6_phaseOf, Cond.code yX6_phaseOf cX6_phaseOf 2 (some .int), Cond.methodLink RL 60 yX5_stepsOf, Cond.instanceMethod yX5_stepsOf, Cond.selects RX5 yX5_stepsOf yX5_stepsOf, Cond.code yX5_stepsOf cX5_stepsOf 2 (some .int), Cond.methodLink RX5 103 yX1_countIn, Cond.static yX1_countIn, Cond.code yX1_countIn cX1_countIn 3 (some .int), Cond.methodLink RL 63 yX6_stepsOf, Cond.instanceMethod yX6_stepsOf, Cond.selects RX6 yX6_stepsOf yX6_stepsOf, Cond.code yX6_stepsOf cX6_stepsOf 2 (some .int)]
def wsL_law_r19 : List Cond := [Cond.methodLink RL 64 yX5_soloSteps, Cond.instanceMethod yX5_soloSteps, Cond.selects RX5 yX5_soloSteps yX5_soloSteps, Cond.code yX5_soloSteps cX5_soloSteps 2 (some .int), Cond.methodLink RX5 112 yX4_advanceUpTo, Cond.methodLink RL 67 yX6_soloSteps, Cond.instanceMethod yX6_soloSteps, Cond.selects RX6 yX6_soloSteps yX6_soloSteps, Cond.code yX6_soloSteps cX6_soloSteps 2 (some .int), Cond.methodLink RX6 181 yX6_runAlone, Cond.instanceMethod yX6_runAlone, Cond.selects RX6 yX6_runAlone yX6_runAlone, Cond.code yX6_runAlone cX6_runAlone 3 (some .int), Cond.methodLink RL 68 yX5_soloName, Cond.instanceMethod yX5_soloName, Cond.selects RX5 yX5_soloName yX5_soloName, Cond.code yX5_soloName cX5_soloName 2 (some .int), Cond.methodLink RX5 116 yX0_nameIn, Cond.static yX0_nameIn, Cond.code yX0_nameIn cX0_nameIn 3 (some .int), Cond.methodLink RX0 11 yX0_statusIn, Cond.methodLink RL 71 yX6_soloName, Cond.instanceMethod yX6_soloName, Cond.selects RX6 yX6_soloName yX6_soloName]
def wsL_law_r20 : List Cond := [Cond.code yX6_soloName cX6_soloName 2 (some .int), Cond.methodLink RL 72 yX5_owner, Cond.instanceMethod yX5_owner, Cond.selects RX5 yX5_owner yX5_owner, Cond.code yX5_owner cX5_owner 2 (some .int), Cond.methodLink RX5 119 yX4_hasSplitter, Cond.instanceMethod yX4_hasSplitter, Cond.selects RX4 yX4_hasSplitter yX4_hasSplitter, Cond.code yX4_hasSplitter cX4_hasSplitter 2 (some .boolean), Cond.methodLink RX4 43 yX4_names, Cond.methodLink RX5 122 yX0_ownerIn, Cond.methodLink RL 75 yX6_owner, Cond.instanceMethod yX6_owner, Cond.selects RX6 yX6_owner yX6_owner, Cond.code yX6_owner cX6_owner 2 (some .int), Cond.methodLink RX6 184 yX6_isSplitter, Cond.instanceMethod yX6_isSplitter, Cond.selects RX6 yX6_isSplitter yX6_isSplitter, Cond.code yX6_isSplitter cX6_isSplitter 2 (some .boolean), Cond.methodLink RL 76 yX5_door, Cond.instanceMethod yX5_door, Cond.selects RX5 yX5_door yX5_door, Cond.code yX5_door cX5_door 2 (some .int), Cond.methodLink RX5 125 yX0_doorIn]
def wsL_law_r21 : List Cond := [Cond.methodLink RL 79 yX6_door, Cond.instanceMethod yX6_door, Cond.selects RX6 yX6_door yX6_door, Cond.code yX6_door cX6_door 2 (some .int), Cond.methodLink RL 80 yX5_entered, Cond.instanceMethod yX5_entered, Cond.selects RX5 yX5_entered yX5_entered, Cond.code yX5_entered cX5_entered 2 (some .int), Cond.methodLink RL 83 yX6_entered, Cond.instanceMethod yX6_entered, Cond.selects RX6 yX6_entered yX6_entered, Cond.code yX6_entered cX6_entered 2 (some .int), Cond.methodLink RL 84 yX5_left, Cond.instanceMethod yX5_left, Cond.selects RX5 yX5_left yX5_left, Cond.code yX5_left cX5_left 3 (some .int), Cond.methodLink RL 88 yX6_left, Cond.instanceMethod yX6_left, Cond.selects RX6 yX6_left yX6_left, Cond.code yX6_left cX6_left 3 (some .int), Cond.methodLink RL 89 yX5_explore, Cond.instanceMethod yX5_explore, Cond.selects RX5 yX5_explore yX5_explore, Cond.code yX5_explore cX5_explore 1 (some .int)]
def wsL_law_r22 : List Cond := [Cond.fieldLink RX5 146 "RenamingGrid" "workspace" "LRenamingGrid$Exploration;", Cond.classLink RX5 142 RX2, Cond.instantiable RX2 7, Cond.initialized RX2, Cond.instanceMethod yX2_init, Cond.code yX2_init cX2_init 1 none, Cond.methodLink RX2 3 objectInit, Cond.arrayClass .long, Cond.fieldLink RX2 11 "RenamingGrid$Exploration" "found" "[J", Cond.fieldLink RX2 15 "RenamingGrid$Exploration" "parents" "[I", Cond.fieldLink RX2 19 "RenamingGrid$Exploration" "movers" "[I", Cond.fieldLink RX2 22 "RenamingGrid$Exploration" "table" "[I", Cond.fieldLink RX2 25 "RenamingGrid$Exploration" "outcomes" "[J", Cond.methodLink RX5 150 yX2_findAllFrom, Cond.instanceMethod yX2_findAllFrom, Cond.selects RX2 yX2_findAllFrom yX2_findAllFrom, Cond.code yX2_findAllFrom cX2_findAllFrom 4 (some .boolean), Cond.fieldLink RX2 34 "RenamingGrid$Exploration" "count" "I", Cond.fieldLink RX2 43 "RenamingGrid$Exploration" "processes" "I", Cond.methodLink RX2 28 yJ7_fill_53178, Cond.static yJ7_fill_53178, Cond.initialized RJ7, Cond.code yJ7_fill_53178 cJ7_fill_53178 4 none, Cond.methodLink RX2 48 yX2_find]
def wsL_law_r23 : List Cond := [Cond.instanceMethod yX2_find, Cond.selects RX2 yX2_find yX2_find, Cond.code yX2_find cX2_find 9 (some .boolean), Cond.constantLong RX2 76 (-7046029254386353131), Cond.methodLink RX2 78 yX2_keep, Cond.instanceMethod yX2_keep, Cond.selects RX2 yX2_keep yX2_keep, Cond.code yX2_keep cX2_keep 5 (some .boolean), Cond.methodLink RX2 56 yX2_foundAt, Cond.instanceMethod yX2_foundAt, Cond.selects RX2 yX2_foundAt yX2_foundAt, Cond.code yX2_foundAt cX2_foundAt 2 (some .long), Cond.methodLink RX2 52 yX2_findNext, Cond.instanceMethod yX2_findNext, Cond.selects RX2 yX2_findNext yX2_findNext, Cond.code yX2_findNext cX2_findNext 8 (some .boolean), Cond.methodLink RX2 60 yX0_statusIn, Cond.methodLink RX2 72 yX0_afterStep, Cond.methodLink RL 92 yX6_explore, Cond.instanceMethod yX6_explore, Cond.selects RX6 yX6_explore yX6_explore, Cond.code yX6_explore cX6_explore 2 (some .int), Cond.fieldLink RX6 188 "RenamingGridModel" "count" "I", Cond.fieldLink RX6 195 "RenamingGridModel" "finals" "I"]
def wsL_law_r24 : List Cond := [Cond.fieldLink RX6 220 "RenamingGridModel" "violations" "I", Cond.fieldLink RX6 204 "RenamingGridModel" "deepest" "I", Cond.fieldLink RX6 207 "RenamingGridModel" "greatest" "I", Cond.fieldLink RX6 198 "RenamingGridModel" "outcomes" "I", Cond.fieldLink RX6 201 "RenamingGridModel" "pathLength" "I", Cond.methodLink RX6 227 yX6_findAll, Cond.instanceMethod yX6_findAll, Cond.selects RX6 yX6_findAll yX6_findAll, Cond.code yX6_findAll cX6_findAll 3 none, Cond.methodLink RX6 191 yX6_found, Cond.instanceMethod yX6_found, Cond.selects RX6 yX6_found yX6_found, Cond.code yX6_found cX6_found 4 none, Cond.constant RX6 187 (1540483477), Cond.methodLink RX6 230 yX6_note, Cond.instanceMethod yX6_note, Cond.selects RX6 yX6_note yX6_note, Cond.code yX6_note cX6_note 3 none, Cond.methodLink RX6 210 yX6_isFinal, Cond.instanceMethod yX6_isFinal, Cond.selects RX6 yX6_isFinal yX6_isFinal, Cond.code yX6_isFinal cX6_isFinal 3 (some .boolean), Cond.methodLink RX6 214 yX6_noteFinal, Cond.instanceMethod yX6_noteFinal]
def wsL_law_r25 : List Cond := [Cond.selects RX6 yX6_noteFinal yX6_noteFinal, Cond.code yX6_noteFinal cX6_noteFinal 4 none, Cond.methodLink RX6 217 yX6_isViolation, Cond.instanceMethod yX6_isViolation, Cond.selects RX6 yX6_isViolation yX6_isViolation, Cond.code yX6_isViolation cX6_isViolation 4 (some .boolean), Cond.methodLink RX6 223 yX6_notePath, Cond.instanceMethod yX6_notePath, Cond.selects RX6 yX6_notePath yX6_notePath, Cond.code yX6_notePath cX6_notePath 4 none, Cond.methodLink RL 93 yX5_finalCount, Cond.instanceMethod yX5_finalCount, Cond.selects RX5 yX5_finalCount yX5_finalCount, Cond.code yX5_finalCount cX5_finalCount 1 (some .int), Cond.methodLink RX5 154 yX2_countFinals, Cond.instanceMethod yX2_countFinals, Cond.selects RX2 yX2_countFinals yX2_countFinals, Cond.code yX2_countFinals cX2_countFinals 3 (some .int), Cond.methodLink RX2 81 yX2_isFinal, Cond.instanceMethod yX2_isFinal, Cond.selects RX2 yX2_isFinal yX2_isFinal, Cond.code yX2_isFinal cX2_isFinal 4 (some .boolean), Cond.methodLink RL 96 yX6_finalCount, Cond.instanceMethod yX6_finalCount]
def wsL_law_r26 : List Cond := [Cond.selects RX6 yX6_finalCount yX6_finalCount, Cond.code yX6_finalCount cX6_finalCount 1 (some .int), Cond.methodLink RL 97 yX5_violationCount, Cond.instanceMethod yX5_violationCount, Cond.selects RX5 yX5_violationCount yX5_violationCount, Cond.code yX5_violationCount cX5_violationCount 1 (some .int), Cond.methodLink RX5 157 yX2_countViolations, Cond.instanceMethod yX2_countViolations, Cond.selects RX2 yX2_countViolations yX2_countViolations, Cond.code yX2_countViolations cX2_countViolations 3 (some .int), Cond.methodLink RX2 88 yX2_isViolation, Cond.instanceMethod yX2_isViolation, Cond.selects RX2 yX2_isViolation yX2_isViolation, Cond.code yX2_isViolation cX2_isViolation 6 (some .boolean), Cond.methodLink RX2 85 yX0_nameIn, Cond.methodLink RL 100 yX6_violationCount, Cond.instanceMethod yX6_violationCount, Cond.selects RX6 yX6_violationCount yX6_violationCount, Cond.code yX6_violationCount cX6_violationCount 1 (some .int), Cond.methodLink RL 101 yX5_violationStep, Cond.instanceMethod yX5_violationStep, Cond.selects RX5 yX5_violationStep yX5_violationStep, Cond.code yX5_violationStep cX5_violationStep 2 (some .int), Cond.methodLink RX5 160 yX2_moverTowardsViolation]
def wsL_law_r27 : List Cond := [Cond.instanceMethod yX2_moverTowardsViolation, Cond.selects RX2 yX2_moverTowardsViolation yX2_moverTowardsViolation, Cond.code yX2_moverTowardsViolation cX2_moverTowardsViolation 5 (some .int), Cond.methodLink RX2 117 yX2_firstViolation, Cond.instanceMethod yX2_firstViolation, Cond.selects RX2 yX2_firstViolation yX2_firstViolation, Cond.code yX2_firstViolation cX2_firstViolation 2 (some .int), Cond.methodLink RX2 121 yX2_depthOf, Cond.instanceMethod yX2_depthOf, Cond.selects RX2 yX2_depthOf yX2_depthOf, Cond.code yX2_depthOf cX2_depthOf 4 (some .int), Cond.methodLink RX2 113 yX2_parentOf, Cond.instanceMethod yX2_parentOf, Cond.selects RX2 yX2_parentOf yX2_parentOf, Cond.code yX2_parentOf cX2_parentOf 2 (some .int), Cond.methodLink RL 104 yX6_violationStep, Cond.instanceMethod yX6_violationStep, Cond.selects RX6 yX6_violationStep yX6_violationStep, Cond.code yX6_violationStep cX6_violationStep 2 (some .int), Cond.methodLink RL 105 yX5_greatestDepth, Cond.instanceMethod yX5_greatestDepth, Cond.selects RX5 yX5_greatestDepth yX5_greatestDepth, Cond.code yX5_greatestDepth cX5_greatestDepth 1 (some .int), Cond.methodLink RX5 163 yX2_depthOf]
def wsL_law_r28 : List Cond := [Cond.methodLink RL 108 yX6_greatestDepth, Cond.instanceMethod yX6_greatestDepth, Cond.selects RX6 yX6_greatestDepth yX6_greatestDepth, Cond.code yX6_greatestDepth cX6_greatestDepth 1 (some .int), Cond.methodLink RL 109 yX5_greatestName, Cond.instanceMethod yX5_greatestName, Cond.selects RX5 yX5_greatestName yX5_greatestName, Cond.code yX5_greatestName cX5_greatestName 1 (some .int), Cond.methodLink RX5 166 yX2_highestName, Cond.instanceMethod yX2_highestName, Cond.selects RX2 yX2_highestName yX2_highestName, Cond.code yX2_highestName cX2_highestName 4 (some .int), Cond.methodLink RX2 107 Lib.Math.max.name, Cond.static Lib.Math.max.name, Cond.initialized "java/lang/Math", Cond.code Lib.Math.max.name Lib.Math.max.code 2 (some .int), Cond.methodLink RL 112 yX6_greatestName, Cond.instanceMethod yX6_greatestName, Cond.selects RX6 yX6_greatestName yX6_greatestName, Cond.code yX6_greatestName cX6_greatestName 1 (some .int), Cond.methodLink RL 113 yX5_outcomeCount, Cond.instanceMethod yX5_outcomeCount, Cond.selects RX5 yX5_outcomeCount yX5_outcomeCount, Cond.code yX5_outcomeCount cX5_outcomeCount 1 (some .int)]
def wsL_law_r29 : List Cond := [Cond.methodLink RX5 169 yX2_countOutcomes, Cond.instanceMethod yX2_countOutcomes, Cond.selects RX2 yX2_countOutcomes yX2_countOutcomes, Cond.code yX2_countOutcomes cX2_countOutcomes 3 (some .int), Cond.methodLink RX2 91 yJ7_fill_d0a16, Cond.static yJ7_fill_d0a16, Cond.code yJ7_fill_d0a16 cJ7_fill_d0a16 5 none, Cond.methodLink RX2 94 yX2_outcomeOf, Cond.instanceMethod yX2_outcomeOf, Cond.selects RX2 yX2_outcomeOf yX2_outcomeOf, Cond.code yX2_outcomeOf cX2_outcomeOf 6 (some .int), Cond.methodLink RX2 98 yX2_markOutcome, Cond.instanceMethod yX2_markOutcome, Cond.selects RX2 yX2_markOutcome yX2_markOutcome, Cond.code yX2_markOutcome cX2_markOutcome 3 none, Cond.methodLink RX2 102 yJ13_bitCount_95d88, Cond.static yJ13_bitCount_95d88, Cond.initialized RJ13, Cond.code yJ13_bitCount_95d88 cJ13_bitCount_95d88 2 (some .int), Cond.constantLong RJ13 314 (6148914691236517205), Cond.constantLong RJ13 316 (3689348814741910323), Cond.constantLong RJ13 318 (1085102592571150095), Cond.methodLink RL 116 yX6_outcomeCount, Cond.instanceMethod yX6_outcomeCount]
def wsL_law_r30 : List Cond := [Cond.selects RX6 yX6_outcomeCount yX6_outcomeCount, Cond.code yX6_outcomeCount cX6_outcomeCount 1 (some .int), Cond.methodLink RL 117 yX5_finalsWith, Cond.instanceMethod yX5_finalsWith, Cond.selects RX5 yX5_finalsWith yX5_finalsWith, Cond.code yX5_finalsWith cX5_finalsWith 3 (some .int), Cond.methodLink RX5 172 yX2_countFinalsNamed, Cond.instanceMethod yX2_countFinalsNamed, Cond.selects RX2 yX2_countFinalsNamed yX2_countFinalsNamed, Cond.code yX2_countFinalsNamed cX2_countFinalsNamed 7 (some .int), Cond.methodLink RL 120 yX6_finalsWith, Cond.instanceMethod yX6_finalsWith, Cond.selects RX6 yX6_finalsWith yX6_finalsWith, Cond.code yX6_finalsWith cX6_finalsWith 3 (some .int), Cond.methodLink RL 121 yX5_undo, Cond.instanceMethod yX5_undo, Cond.selects RX5 yX5_undo yX5_undo, Cond.code yX5_undo cX5_undo 1 (some .int), Cond.methodLink RL 124 yX6_undo, Cond.instanceMethod yX6_undo, Cond.selects RX6 yX6_undo yX6_undo, Cond.code yX6_undo cX6_undo 2 (some .int), Cond.methodLink RL 125 yX5_save, Cond.instanceMethod yX5_save]
def wsL_law_r31 : List Cond := [Cond.selects RX5 yX5_save yX5_save, Cond.code yX5_save cX5_save 2 (some .int), Cond.methodLink RL 128 yX6_save, Cond.instanceMethod yX6_save, Cond.selects RX6 yX6_save yX6_save, Cond.code yX6_save cX6_save 3 (some .int), Cond.methodLink RL 129 yX5_restore, Cond.instanceMethod yX5_restore, Cond.selects RX5 yX5_restore yX5_restore, Cond.code yX5_restore cX5_restore 2 (some .int), Cond.methodLink RL 132 yX6_restore, Cond.instanceMethod yX6_restore, Cond.selects RX6 yX6_restore yX6_restore, Cond.code yX6_restore cX6_restore 3 (some .int)]
def wsL_law : List Cond := (wsL_law_r1 ++ (wsL_law_r2 ++ (wsL_law_r3 ++ (wsL_law_r4 ++ (wsL_law_r5 ++ (wsL_law_r6 ++ (wsL_law_r7 ++ (wsL_law_r8 ++ (wsL_law_r9 ++ (wsL_law_r10 ++ (wsL_law_r11 ++ (wsL_law_r12 ++ (wsL_law_r13 ++ (wsL_law_r14 ++ (wsL_law_r15 ++ (wsL_law_r16 ++ (wsL_law_r17 ++ (wsL_law_r18 ++ (wsL_law_r19 ++ (wsL_law_r20 ++ (wsL_law_r21 ++ (wsL_law_r22 ++ (wsL_law_r23 ++ (wsL_law_r24 ++ (wsL_law_r25 ++ (wsL_law_r26 ++ (wsL_law_r27 ++ (wsL_law_r28 ++ (wsL_law_r29 ++ (wsL_law_r30 ++ wsL_law_r31)))))))))))))))))))))))))))))) ++ wsX50 ++ wsX60 ++ wsX40 ++ wsX30 ++ wsX20 ++ ([] : List Cond)
abbrev vwCl : List vw_C := [(RX2, TX2, 7), (RX3, TX3, 5), (RX4, TX4, 8), (RX5, TX5, 8), (RX6, TX6, 34)]
end
section
theorem dX0_statusIn_0 : decode cX0_statusIn 0 = .ok (.lload_n 0, 1) := by decide +kernel
theorem dX0_statusIn_1 : decode cX0_statusIn 1 = .ok (.bipush 8, 2) := by decide +kernel
theorem dX0_statusIn_3 : decode cX0_statusIn 3 = .ok (.iload_n 2, 1) := by decide +kernel
theorem dX0_statusIn_4 : decode cX0_statusIn 4 = .ok (.imul, 1) := by decide +kernel
theorem dX0_statusIn_5 : decode cX0_statusIn 5 = .ok (.lushr, 1) := by decide +kernel
theorem dX0_statusIn_6 : decode cX0_statusIn 6 = .ok (.l2i, 1) := by decide +kernel
theorem dX0_statusIn_7 : decode cX0_statusIn 7 = .ok (.iconst 3, 1) := by decide +kernel
theorem dX0_statusIn_8 : decode cX0_statusIn 8 = .ok (.iand, 1) := by decide +kernel
theorem dX0_statusIn_9 : decode cX0_statusIn 9 = .ok (.ireturn, 1) := by decide +kernel
theorem dX0_phaseIn_0 : decode cX0_phaseIn 0 = .ok (.lload_n 0, 1) := by decide +kernel
theorem dX0_phaseIn_1 : decode cX0_phaseIn 1 = .ok (.bipush 8, 2) := by decide +kernel
theorem dX0_phaseIn_3 : decode cX0_phaseIn 3 = .ok (.iload_n 2, 1) := by decide +kernel
theorem dX0_phaseIn_4 : decode cX0_phaseIn 4 = .ok (.imul, 1) := by decide +kernel
theorem dX0_phaseIn_5 : decode cX0_phaseIn 5 = .ok (.iconst 2, 1) := by decide +kernel
theorem dX0_phaseIn_6 : decode cX0_phaseIn 6 = .ok (.iadd, 1) := by decide +kernel
theorem dX0_phaseIn_7 : decode cX0_phaseIn 7 = .ok (.lushr, 1) := by decide +kernel
theorem dX0_phaseIn_8 : decode cX0_phaseIn 8 = .ok (.l2i, 1) := by decide +kernel
theorem dX0_phaseIn_9 : decode cX0_phaseIn 9 = .ok (.iconst 3, 1) := by decide +kernel
theorem dX0_phaseIn_10 : decode cX0_phaseIn 10 = .ok (.iand, 1) := by decide +kernel
theorem dX0_phaseIn_11 : decode cX0_phaseIn 11 = .ok (.ireturn, 1) := by decide +kernel
theorem dX0_splitterIn_0 : decode cX0_splitterIn 0 = .ok (.lload_n 0, 1) := by decide +kernel
theorem dX0_splitterIn_1 : decode cX0_splitterIn 1 = .ok (.bipush 8, 2) := by decide +kernel
theorem dX0_splitterIn_3 : decode cX0_splitterIn 3 = .ok (.iload_n 2, 1) := by decide +kernel
theorem dX0_splitterIn_4 : decode cX0_splitterIn 4 = .ok (.imul, 1) := by decide +kernel
theorem dX0_splitterIn_5 : decode cX0_splitterIn 5 = .ok (.iconst 4, 1) := by decide +kernel
theorem dX0_splitterIn_6 : decode cX0_splitterIn 6 = .ok (.iadd, 1) := by decide +kernel
theorem dX0_splitterIn_7 : decode cX0_splitterIn 7 = .ok (.lushr, 1) := by decide +kernel
theorem dX0_splitterIn_8 : decode cX0_splitterIn 8 = .ok (.l2i, 1) := by decide +kernel
theorem dX0_splitterIn_9 : decode cX0_splitterIn 9 = .ok (.bipush 15, 2) := by decide +kernel
theorem dX0_splitterIn_11 : decode cX0_splitterIn 11 = .ok (.iand, 1) := by decide +kernel
theorem dX0_splitterIn_12 : decode cX0_splitterIn 12 = .ok (.ireturn, 1) := by decide +kernel
set_option maxRecDepth 20000 in
theorem ggX0_nameIn_X0_statusIn : GoodIn wsX0_nameIn wsX0_statusIn := goodIn_r _ [4] (by decide +kernel) (by decide +kernel)
set_option maxRecDepth 20000 in
theorem gX0_nameIn_X0_statusIn : GoodIn wsX0_nameIn (va_wsS RX0 11 yX0_statusIn wsX0_statusIn) := goodIn_app (goodIn_of _ (by decide +kernel)) ggX0_nameIn_X0_statusIn
set_option maxRecDepth 20000 in
theorem ggX0_nameIn_X0_splitterIn : GoodIn wsX0_nameIn wsX0_splitterIn := goodIn_r _ [7] (by decide +kernel) (by decide +kernel)
set_option maxRecDepth 20000 in
theorem gX0_nameIn_X0_splitterIn : GoodIn wsX0_nameIn (va_wsS RX0 15 yX0_splitterIn wsX0_splitterIn) := goodIn_app (goodIn_of _ (by decide +kernel)) ggX0_nameIn_X0_splitterIn
theorem dX0_nameIn_0 : decode cX0_nameIn 0 = .ok (.lload_n 0, 1) := by decide +kernel
theorem dX0_nameIn_1 : decode cX0_nameIn 1 = .ok (.iload_n 2, 1) := by decide +kernel
theorem dX0_nameIn_2 : decode cX0_nameIn 2 = .ok (.invokestatic 11, 3) := by decide +kernel
theorem dX0_nameIn_5 : decode cX0_nameIn 5 = .ok (.iconst 1, 1) := by decide +kernel
theorem dX0_nameIn_6 : decode cX0_nameIn 6 = .ok (.if_icmp .ne 11, 3) := by decide +kernel
theorem dX0_nameIn_9 : decode cX0_nameIn 9 = .ok (.lload_n 0, 1) := by decide +kernel
theorem dX0_nameIn_10 : decode cX0_nameIn 10 = .ok (.iload_n 2, 1) := by decide +kernel
theorem dX0_nameIn_11 : decode cX0_nameIn 11 = .ok (.invokestatic 15, 3) := by decide +kernel
theorem dX0_nameIn_14 : decode cX0_nameIn 14 = .ok (.goto 5, 3) := by decide +kernel
theorem dX0_nameIn_17 : decode cX0_nameIn 17 = .ok (.bipush (-9), 2) := by decide +kernel
theorem dX0_nameIn_19 : decode cX0_nameIn 19 = .ok (.ireturn, 1) := by decide +kernel
set_option maxRecDepth 20000 in
theorem ggX0_ownerIn_X0_ownerShift : GoodIn wsX0_ownerIn wsX0_ownerShift := goodIn_r _ [4] (by decide +kernel) (by decide +kernel)
set_option maxRecDepth 20000 in
theorem gX0_ownerIn_X0_ownerShift : GoodIn wsX0_ownerIn (va_wsS RX0 18 yX0_ownerShift wsX0_ownerShift) := goodIn_app (goodIn_of _ (by decide +kernel)) ggX0_ownerIn_X0_ownerShift
theorem dX0_ownerIn_0 : decode cX0_ownerIn 0 = .ok (.lload_n 0, 1) := by decide +kernel
theorem dX0_ownerIn_1 : decode cX0_ownerIn 1 = .ok (.iload_n 2, 1) := by decide +kernel
theorem dX0_ownerIn_2 : decode cX0_ownerIn 2 = .ok (.invokestatic 18, 3) := by decide +kernel
theorem dX0_ownerIn_5 : decode cX0_ownerIn 5 = .ok (.lushr, 1) := by decide +kernel
theorem dX0_ownerIn_6 : decode cX0_ownerIn 6 = .ok (.l2i, 1) := by decide +kernel
theorem dX0_ownerIn_7 : decode cX0_ownerIn 7 = .ok (.iconst 3, 1) := by decide +kernel
theorem dX0_ownerIn_8 : decode cX0_ownerIn 8 = .ok (.iand, 1) := by decide +kernel
theorem dX0_ownerIn_9 : decode cX0_ownerIn 9 = .ok (.istore_n 3, 1) := by decide +kernel
theorem dX0_ownerIn_10 : decode cX0_ownerIn 10 = .ok (.iload_n 3, 1) := by decide +kernel
theorem dX0_ownerIn_11 : decode cX0_ownerIn 11 = .ok (.ifCond .ne 8, 3) := by decide +kernel
theorem dX0_ownerIn_14 : decode cX0_ownerIn 14 = .ok (.bipush (-9), 2) := by decide +kernel
theorem dX0_ownerIn_16 : decode cX0_ownerIn 16 = .ok (.goto 6, 3) := by decide +kernel
theorem dX0_ownerIn_19 : decode cX0_ownerIn 19 = .ok (.iload_n 3, 1) := by decide +kernel
theorem dX0_ownerIn_20 : decode cX0_ownerIn 20 = .ok (.iconst 1, 1) := by decide +kernel
theorem dX0_ownerIn_21 : decode cX0_ownerIn 21 = .ok (.isub, 1) := by decide +kernel
theorem dX0_ownerIn_22 : decode cX0_ownerIn 22 = .ok (.ireturn, 1) := by decide +kernel
set_option maxRecDepth 20000 in
theorem ggX0_doorIn_X0_ownerShift : GoodIn wsX0_doorIn wsX0_ownerShift := goodIn_r _ [4] (by decide +kernel) (by decide +kernel)
set_option maxRecDepth 20000 in
theorem gX0_doorIn_X0_ownerShift : GoodIn wsX0_doorIn (va_wsS RX0 18 yX0_ownerShift wsX0_ownerShift) := goodIn_app (goodIn_of _ (by decide +kernel)) ggX0_doorIn_X0_ownerShift
theorem dX0_doorIn_0 : decode cX0_doorIn 0 = .ok (.lload_n 0, 1) := by decide +kernel
theorem dX0_doorIn_1 : decode cX0_doorIn 1 = .ok (.iload_n 2, 1) := by decide +kernel
theorem dX0_doorIn_2 : decode cX0_doorIn 2 = .ok (.invokestatic 18, 3) := by decide +kernel
theorem dX0_doorIn_5 : decode cX0_doorIn 5 = .ok (.iconst 2, 1) := by decide +kernel
theorem dX0_doorIn_6 : decode cX0_doorIn 6 = .ok (.iadd, 1) := by decide +kernel
theorem dX0_doorIn_7 : decode cX0_doorIn 7 = .ok (.lushr, 1) := by decide +kernel
theorem dX0_doorIn_8 : decode cX0_doorIn 8 = .ok (.l2i, 1) := by decide +kernel
theorem dX0_doorIn_9 : decode cX0_doorIn 9 = .ok (.iconst 1, 1) := by decide +kernel
theorem dX0_doorIn_10 : decode cX0_doorIn 10 = .ok (.iand, 1) := by decide +kernel
theorem dX0_doorIn_11 : decode cX0_doorIn 11 = .ok (.ireturn, 1) := by decide +kernel
theorem dX0_withStatus_0 : decode cX0_withStatus 0 = .ok (.bipush 8, 2) := by decide +kernel
theorem dX0_withStatus_2 : decode cX0_withStatus 2 = .ok (.iload_n 2, 1) := by decide +kernel
theorem dX0_withStatus_3 : decode cX0_withStatus 3 = .ok (.imul, 1) := by decide +kernel
theorem dX0_withStatus_4 : decode cX0_withStatus 4 = .ok (.istore 4, 2) := by decide +kernel
theorem dX0_withStatus_6 : decode cX0_withStatus 6 = .ok (.lload_n 0, 1) := by decide +kernel
theorem dX0_withStatus_7 : decode cX0_withStatus 7 = .ok (.ldc2_w 22, 3) := by decide +kernel
theorem dX0_withStatus_10 : decode cX0_withStatus 10 = .ok (.iload 4, 2) := by decide +kernel
theorem dX0_withStatus_12 : decode cX0_withStatus 12 = .ok (.lshl, 1) := by decide +kernel
theorem dX0_withStatus_13 : decode cX0_withStatus 13 = .ok (.ldc2_w 24, 3) := by decide +kernel
theorem dX0_withStatus_16 : decode cX0_withStatus 16 = .ok (.lxor, 1) := by decide +kernel
theorem dX0_withStatus_17 : decode cX0_withStatus 17 = .ok (.land, 1) := by decide +kernel
theorem dX0_withStatus_18 : decode cX0_withStatus 18 = .ok (.iload_n 3, 1) := by decide +kernel
theorem dX0_withStatus_19 : decode cX0_withStatus 19 = .ok (.i2l, 1) := by decide +kernel
theorem dX0_withStatus_20 : decode cX0_withStatus 20 = .ok (.iload 4, 2) := by decide +kernel
theorem dX0_withStatus_22 : decode cX0_withStatus 22 = .ok (.lshl, 1) := by decide +kernel
theorem dX0_withStatus_23 : decode cX0_withStatus 23 = .ok (.lor, 1) := by decide +kernel
theorem dX0_withStatus_24 : decode cX0_withStatus 24 = .ok (.lreturn, 1) := by decide +kernel
set_option maxRecDepth 20000 in
theorem ggX0_afterStep_X0_splitterIn : GoodIn wsX0_afterStep wsX0_splitterIn := goodIn_r _ [4] (by decide +kernel) (by decide +kernel)
set_option maxRecDepth 20000 in
theorem gX0_afterStep_X0_splitterIn : GoodIn wsX0_afterStep (va_wsS RX0 15 yX0_splitterIn wsX0_splitterIn) := goodIn_app (goodIn_of _ (by decide +kernel)) ggX0_afterStep_X0_splitterIn
set_option maxRecDepth 20000 in
theorem ggX0_afterStep_X0_phaseIn : GoodIn wsX0_afterStep wsX0_phaseIn := goodIn_r _ [7] (by decide +kernel) (by decide +kernel)
set_option maxRecDepth 20000 in
theorem gX0_afterStep_X0_phaseIn : GoodIn wsX0_afterStep (va_wsS RX0 26 yX0_phaseIn wsX0_phaseIn) := goodIn_app (goodIn_of _ (by decide +kernel)) ggX0_afterStep_X0_phaseIn
set_option maxRecDepth 20000 in
theorem ggX0_afterStep_X0_withOwner : GoodIn wsX0_afterStep wsX0_withOwner := goodIn_r _ [10, 11, 12, 13, 14, 3, 15] (by decide +kernel) (by decide +kernel)
set_option maxRecDepth 20000 in
theorem gX0_afterStep_X0_withOwner : GoodIn wsX0_afterStep (va_wsS RX0 29 yX0_withOwner wsX0_withOwner) := goodIn_app (goodIn_of _ (by decide +kernel)) ggX0_afterStep_X0_withOwner
set_option maxRecDepth 20000 in
theorem ggX0_afterStep_X0_withPhase : GoodIn wsX0_afterStep wsX0_withPhase := goodIn_r _ [18, 11, 12] (by decide +kernel) (by decide +kernel)
set_option maxRecDepth 20000 in
theorem gX0_afterStep_X0_withPhase : GoodIn wsX0_afterStep (va_wsS RX0 33 yX0_withPhase wsX0_withPhase) := goodIn_app (goodIn_of _ (by decide +kernel)) ggX0_afterStep_X0_withPhase
set_option maxRecDepth 20000 in
theorem ggX0_afterStep_X0_doorIn : GoodIn wsX0_afterStep wsX0_doorIn := goodIn_r _ [21, 13, 14, 3, 15] (by decide +kernel) (by decide +kernel)
set_option maxRecDepth 20000 in
theorem gX0_afterStep_X0_doorIn : GoodIn wsX0_afterStep (va_wsS RX0 36 yX0_doorIn wsX0_doorIn) := goodIn_app (goodIn_of _ (by decide +kernel)) ggX0_afterStep_X0_doorIn
set_option maxRecDepth 20000 in
theorem ggX0_afterStep_X0_moved : GoodIn wsX0_afterStep wsX0_moved := goodIn_r _ [24, 25, 12, 26, 1, 2, 3, 4, 27, 28, 29] (by decide +kernel) (by decide +kernel)
set_option maxRecDepth 20000 in
theorem gX0_afterStep_X0_moved : GoodIn wsX0_afterStep (va_wsS RX0 39 yX0_moved wsX0_moved) := goodIn_app (goodIn_of _ (by decide +kernel)) ggX0_afterStep_X0_moved
set_option maxRecDepth 20000 in
theorem ggX0_afterStep_X0_ownerIn : GoodIn wsX0_afterStep wsX0_ownerIn := goodIn_r _ [32, 13, 14, 3, 15] (by decide +kernel) (by decide +kernel)
set_option maxRecDepth 20000 in
theorem gX0_afterStep_X0_ownerIn : GoodIn wsX0_afterStep (va_wsS RX0 43 yX0_ownerIn wsX0_ownerIn) := goodIn_app (goodIn_of _ (by decide +kernel)) ggX0_afterStep_X0_ownerIn
set_option maxRecDepth 20000 in
theorem ggX0_afterStep_X0_withDoorClosed : GoodIn wsX0_afterStep wsX0_withDoorClosed := goodIn_r _ [35, 13, 14, 3, 15] (by decide +kernel) (by decide +kernel)
set_option maxRecDepth 20000 in
theorem gX0_afterStep_X0_withDoorClosed : GoodIn wsX0_afterStep (va_wsS RX0 46 yX0_withDoorClosed wsX0_withDoorClosed) := goodIn_app (goodIn_of _ (by decide +kernel)) ggX0_afterStep_X0_withDoorClosed
set_option maxRecDepth 20000 in
theorem ggX0_afterStep_X0_withStatus : GoodIn wsX0_afterStep wsX0_withStatus := goodIn_r _ [38, 11, 12] (by decide +kernel) (by decide +kernel)
set_option maxRecDepth 20000 in
theorem gX0_afterStep_X0_withStatus : GoodIn wsX0_afterStep (va_wsS RX0 50 yX0_withStatus wsX0_withStatus) := goodIn_app (goodIn_of _ (by decide +kernel)) ggX0_afterStep_X0_withStatus
theorem dX0_afterStep_0 : decode cX0_afterStep 0 = .ok (.lload_n 0, 1) := by decide +kernel
theorem dX0_afterStep_1 : decode cX0_afterStep 1 = .ok (.iload_n 2, 1) := by decide +kernel
theorem dX0_afterStep_2 : decode cX0_afterStep 2 = .ok (.invokestatic 15, 3) := by decide +kernel
theorem dX0_afterStep_5 : decode cX0_afterStep 5 = .ok (.istore 5, 2) := by decide +kernel
theorem dX0_afterStep_7 : decode cX0_afterStep 7 = .ok (.lload_n 0, 1) := by decide +kernel
theorem dX0_afterStep_8 : decode cX0_afterStep 8 = .ok (.iload_n 2, 1) := by decide +kernel
theorem dX0_afterStep_9 : decode cX0_afterStep 9 = .ok (.invokestatic 26, 3) := by decide +kernel
theorem dX0_afterStep_12 : decode cX0_afterStep 12 = .ok (.istore 6, 2) := by decide +kernel
theorem dX0_afterStep_14 : decode cX0_afterStep 14 = .ok (.iload 6, 2) := by decide +kernel
theorem dX0_afterStep_16 : decode cX0_afterStep 16 = .ok (.ifCond .ne 30, 3) := by decide +kernel
theorem dX0_afterStep_19 : decode cX0_afterStep 19 = .ok (.lload_n 0, 1) := by decide +kernel
theorem dX0_afterStep_20 : decode cX0_afterStep 20 = .ok (.iload 5, 2) := by decide +kernel
theorem dX0_afterStep_22 : decode cX0_afterStep 22 = .ok (.iload_n 2, 1) := by decide +kernel
theorem dX0_afterStep_23 : decode cX0_afterStep 23 = .ok (.invokestatic 29, 3) := by decide +kernel
theorem dX0_afterStep_26 : decode cX0_afterStep 26 = .ok (.lstore 7, 2) := by decide +kernel
theorem dX0_afterStep_28 : decode cX0_afterStep 28 = .ok (.lload 7, 2) := by decide +kernel
theorem dX0_afterStep_30 : decode cX0_afterStep 30 = .ok (.iload_n 2, 1) := by decide +kernel
theorem dX0_afterStep_31 : decode cX0_afterStep 31 = .ok (.iload 4, 2) := by decide +kernel
theorem dX0_afterStep_33 : decode cX0_afterStep 33 = .ok (.iconst 1, 1) := by decide +kernel
theorem dX0_afterStep_34 : decode cX0_afterStep 34 = .ok (.if_icmp .ne 7, 3) := by decide +kernel
theorem dX0_afterStep_37 : decode cX0_afterStep 37 = .ok (.iconst 2, 1) := by decide +kernel
theorem dX0_afterStep_38 : decode cX0_afterStep 38 = .ok (.goto 4, 3) := by decide +kernel
theorem dX0_afterStep_41 : decode cX0_afterStep 41 = .ok (.iconst 1, 1) := by decide +kernel
theorem dX0_afterStep_42 : decode cX0_afterStep 42 = .ok (.invokestatic 33, 3) := by decide +kernel
theorem dX0_afterStep_45 : decode cX0_afterStep 45 = .ok (.lreturn, 1) := by decide +kernel
theorem dX0_afterStep_46 : decode cX0_afterStep 46 = .ok (.iload 6, 2) := by decide +kernel
theorem dX0_afterStep_48 : decode cX0_afterStep 48 = .ok (.iconst 1, 1) := by decide +kernel
theorem dX0_afterStep_49 : decode cX0_afterStep 49 = .ok (.if_icmp .ne 30, 3) := by decide +kernel
theorem dX0_afterStep_52 : decode cX0_afterStep 52 = .ok (.lload_n 0, 1) := by decide +kernel
theorem dX0_afterStep_53 : decode cX0_afterStep 53 = .ok (.iload 5, 2) := by decide +kernel
theorem dX0_afterStep_55 : decode cX0_afterStep 55 = .ok (.invokestatic 36, 3) := by decide +kernel
theorem dX0_afterStep_58 : decode cX0_afterStep 58 = .ok (.iconst 1, 1) := by decide +kernel
theorem dX0_afterStep_59 : decode cX0_afterStep 59 = .ok (.if_icmp .ne 13, 3) := by decide +kernel
theorem dX0_afterStep_62 : decode cX0_afterStep 62 = .ok (.lload_n 0, 1) := by decide +kernel
theorem dX0_afterStep_63 : decode cX0_afterStep 63 = .ok (.iload_n 2, 1) := by decide +kernel
theorem dX0_afterStep_64 : decode cX0_afterStep 64 = .ok (.iload_n 3, 1) := by decide +kernel
theorem dX0_afterStep_65 : decode cX0_afterStep 65 = .ok (.iconst 0, 1) := by decide +kernel
theorem dX0_afterStep_66 : decode cX0_afterStep 66 = .ok (.invokestatic 39, 3) := by decide +kernel
theorem dX0_afterStep_69 : decode cX0_afterStep 69 = .ok (.goto 9, 3) := by decide +kernel
theorem dX0_afterStep_72 : decode cX0_afterStep 72 = .ok (.lload_n 0, 1) := by decide +kernel
theorem dX0_afterStep_73 : decode cX0_afterStep 73 = .ok (.iload_n 2, 1) := by decide +kernel
theorem dX0_afterStep_74 : decode cX0_afterStep 74 = .ok (.iconst 2, 1) := by decide +kernel
theorem dX0_afterStep_75 : decode cX0_afterStep 75 = .ok (.invokestatic 33, 3) := by decide +kernel
theorem dX0_afterStep_78 : decode cX0_afterStep 78 = .ok (.lreturn, 1) := by decide +kernel
theorem dX0_afterStep_79 : decode cX0_afterStep 79 = .ok (.iload 6, 2) := by decide +kernel
theorem dX0_afterStep_81 : decode cX0_afterStep 81 = .ok (.iload 4, 2) := by decide +kernel
theorem dX0_afterStep_83 : decode cX0_afterStep 83 = .ok (.iconst 2, 1) := by decide +kernel
theorem dX0_afterStep_84 : decode cX0_afterStep 84 = .ok (.if_icmp .ne 7, 3) := by decide +kernel
theorem dX0_afterStep_87 : decode cX0_afterStep 87 = .ok (.iconst 2, 1) := by decide +kernel
theorem dX0_afterStep_88 : decode cX0_afterStep 88 = .ok (.goto 4, 3) := by decide +kernel
theorem dX0_afterStep_91 : decode cX0_afterStep 91 = .ok (.iconst 3, 1) := by decide +kernel
theorem dX0_afterStep_92 : decode cX0_afterStep 92 = .ok (.if_icmp .ne 7, 3) := by decide +kernel
theorem dX0_afterStep_95 : decode cX0_afterStep 95 = .ok (.iconst 1, 1) := by decide +kernel
theorem dX0_afterStep_96 : decode cX0_afterStep 96 = .ok (.goto 4, 3) := by decide +kernel
theorem dX0_afterStep_99 : decode cX0_afterStep 99 = .ok (.iconst 0, 1) := by decide +kernel
theorem dX0_afterStep_100 : decode cX0_afterStep 100 = .ok (.istore 7, 2) := by decide +kernel
theorem dX0_afterStep_102 : decode cX0_afterStep 102 = .ok (.iload 7, 2) := by decide +kernel
theorem dX0_afterStep_104 : decode cX0_afterStep 104 = .ok (.ifCond .eq 21, 3) := by decide +kernel
theorem dX0_afterStep_107 : decode cX0_afterStep 107 = .ok (.lload_n 0, 1) := by decide +kernel
theorem dX0_afterStep_108 : decode cX0_afterStep 108 = .ok (.iload 5, 2) := by decide +kernel
theorem dX0_afterStep_110 : decode cX0_afterStep 110 = .ok (.invokestatic 43, 3) := by decide +kernel
theorem dX0_afterStep_113 : decode cX0_afterStep 113 = .ok (.iload_n 2, 1) := by decide +kernel
theorem dX0_afterStep_114 : decode cX0_afterStep 114 = .ok (.if_icmp .eq 11, 3) := by decide +kernel
theorem dX0_afterStep_117 : decode cX0_afterStep 117 = .ok (.lload_n 0, 1) := by decide +kernel
theorem dX0_afterStep_118 : decode cX0_afterStep 118 = .ok (.iload_n 2, 1) := by decide +kernel
theorem dX0_afterStep_119 : decode cX0_afterStep 119 = .ok (.iload_n 3, 1) := by decide +kernel
theorem dX0_afterStep_120 : decode cX0_afterStep 120 = .ok (.iconst 1, 1) := by decide +kernel
theorem dX0_afterStep_121 : decode cX0_afterStep 121 = .ok (.invokestatic 39, 3) := by decide +kernel
theorem dX0_afterStep_124 : decode cX0_afterStep 124 = .ok (.lreturn, 1) := by decide +kernel
theorem dX0_afterStep_125 : decode cX0_afterStep 125 = .ok (.iload 7, 2) := by decide +kernel
theorem dX0_afterStep_127 : decode cX0_afterStep 127 = .ok (.ifCond .eq 7, 3) := by decide +kernel
theorem dX0_afterStep_130 : decode cX0_afterStep 130 = .ok (.lload_n 0, 1) := by decide +kernel
theorem dX0_afterStep_131 : decode cX0_afterStep 131 = .ok (.goto 9, 3) := by decide +kernel
theorem dX0_afterStep_134 : decode cX0_afterStep 134 = .ok (.lload_n 0, 1) := by decide +kernel
theorem dX0_afterStep_135 : decode cX0_afterStep 135 = .ok (.iload 5, 2) := by decide +kernel
theorem dX0_afterStep_137 : decode cX0_afterStep 137 = .ok (.invokestatic 46, 3) := by decide +kernel
theorem dX0_afterStep_140 : decode cX0_afterStep 140 = .ok (.lstore 8, 2) := by decide +kernel
theorem dX0_afterStep_142 : decode cX0_afterStep 142 = .ok (.iload 6, 2) := by decide +kernel
theorem dX0_afterStep_144 : decode cX0_afterStep 144 = .ok (.iconst 2, 1) := by decide +kernel
theorem dX0_afterStep_145 : decode cX0_afterStep 145 = .ok (.if_icmp .ne 13, 3) := by decide +kernel
theorem dX0_afterStep_148 : decode cX0_afterStep 148 = .ok (.lload 8, 2) := by decide +kernel
theorem dX0_afterStep_150 : decode cX0_afterStep 150 = .ok (.iload_n 2, 1) := by decide +kernel
theorem dX0_afterStep_151 : decode cX0_afterStep 151 = .ok (.iconst 3, 1) := by decide +kernel
theorem dX0_afterStep_152 : decode cX0_afterStep 152 = .ok (.invokestatic 33, 3) := by decide +kernel
theorem dX0_afterStep_155 : decode cX0_afterStep 155 = .ok (.goto 10, 3) := by decide +kernel
theorem dX0_afterStep_158 : decode cX0_afterStep 158 = .ok (.lload 8, 2) := by decide +kernel
theorem dX0_afterStep_160 : decode cX0_afterStep 160 = .ok (.iload_n 2, 1) := by decide +kernel
theorem dX0_afterStep_161 : decode cX0_afterStep 161 = .ok (.iconst 1, 1) := by decide +kernel
theorem dX0_afterStep_162 : decode cX0_afterStep 162 = .ok (.invokestatic 50, 3) := by decide +kernel
theorem dX0_afterStep_165 : decode cX0_afterStep 165 = .ok (.lreturn, 1) := by decide +kernel
theorem dX0_withPhase_0 : decode cX0_withPhase 0 = .ok (.bipush 8, 2) := by decide +kernel
theorem dX0_withPhase_2 : decode cX0_withPhase 2 = .ok (.iload_n 2, 1) := by decide +kernel
theorem dX0_withPhase_3 : decode cX0_withPhase 3 = .ok (.imul, 1) := by decide +kernel
theorem dX0_withPhase_4 : decode cX0_withPhase 4 = .ok (.iconst 2, 1) := by decide +kernel
theorem dX0_withPhase_5 : decode cX0_withPhase 5 = .ok (.iadd, 1) := by decide +kernel
theorem dX0_withPhase_6 : decode cX0_withPhase 6 = .ok (.istore 4, 2) := by decide +kernel
theorem dX0_withPhase_8 : decode cX0_withPhase 8 = .ok (.lload_n 0, 1) := by decide +kernel
theorem dX0_withPhase_9 : decode cX0_withPhase 9 = .ok (.ldc2_w 22, 3) := by decide +kernel
theorem dX0_withPhase_12 : decode cX0_withPhase 12 = .ok (.iload 4, 2) := by decide +kernel
theorem dX0_withPhase_14 : decode cX0_withPhase 14 = .ok (.lshl, 1) := by decide +kernel
theorem dX0_withPhase_15 : decode cX0_withPhase 15 = .ok (.ldc2_w 24, 3) := by decide +kernel
theorem dX0_withPhase_18 : decode cX0_withPhase 18 = .ok (.lxor, 1) := by decide +kernel
theorem dX0_withPhase_19 : decode cX0_withPhase 19 = .ok (.land, 1) := by decide +kernel
theorem dX0_withPhase_20 : decode cX0_withPhase 20 = .ok (.iload_n 3, 1) := by decide +kernel
theorem dX0_withPhase_21 : decode cX0_withPhase 21 = .ok (.i2l, 1) := by decide +kernel
theorem dX0_withPhase_22 : decode cX0_withPhase 22 = .ok (.iload 4, 2) := by decide +kernel
theorem dX0_withPhase_24 : decode cX0_withPhase 24 = .ok (.lshl, 1) := by decide +kernel
theorem dX0_withPhase_25 : decode cX0_withPhase 25 = .ok (.lor, 1) := by decide +kernel
theorem dX0_withPhase_26 : decode cX0_withPhase 26 = .ok (.lreturn, 1) := by decide +kernel
set_option maxRecDepth 20000 in
theorem ggX0_withOwner_X0_ownerShift : GoodIn wsX0_withOwner wsX0_ownerShift := goodIn_r _ [6] (by decide +kernel) (by decide +kernel)
set_option maxRecDepth 20000 in
theorem gX0_withOwner_X0_ownerShift : GoodIn wsX0_withOwner (va_wsS RX0 18 yX0_ownerShift wsX0_ownerShift) := goodIn_app (goodIn_of _ (by decide +kernel)) ggX0_withOwner_X0_ownerShift
theorem dX0_withOwner_0 : decode cX0_withOwner 0 = .ok (.iload_n 2, 1) := by decide +kernel
theorem dX0_withOwner_1 : decode cX0_withOwner 1 = .ok (.invokestatic 18, 3) := by decide +kernel
theorem dX0_withOwner_4 : decode cX0_withOwner 4 = .ok (.istore 4, 2) := by decide +kernel
theorem dX0_withOwner_6 : decode cX0_withOwner 6 = .ok (.lload_n 0, 1) := by decide +kernel
theorem dX0_withOwner_7 : decode cX0_withOwner 7 = .ok (.ldc2_w 22, 3) := by decide +kernel
theorem dX0_withOwner_10 : decode cX0_withOwner 10 = .ok (.iload 4, 2) := by decide +kernel
theorem dX0_withOwner_12 : decode cX0_withOwner 12 = .ok (.lshl, 1) := by decide +kernel
theorem dX0_withOwner_13 : decode cX0_withOwner 13 = .ok (.ldc2_w 24, 3) := by decide +kernel
theorem dX0_withOwner_16 : decode cX0_withOwner 16 = .ok (.lxor, 1) := by decide +kernel
theorem dX0_withOwner_17 : decode cX0_withOwner 17 = .ok (.land, 1) := by decide +kernel
theorem dX0_withOwner_18 : decode cX0_withOwner 18 = .ok (.iload_n 3, 1) := by decide +kernel
theorem dX0_withOwner_19 : decode cX0_withOwner 19 = .ok (.iconst 1, 1) := by decide +kernel
theorem dX0_withOwner_20 : decode cX0_withOwner 20 = .ok (.iadd, 1) := by decide +kernel
theorem dX0_withOwner_21 : decode cX0_withOwner 21 = .ok (.i2l, 1) := by decide +kernel
theorem dX0_withOwner_22 : decode cX0_withOwner 22 = .ok (.iload 4, 2) := by decide +kernel
theorem dX0_withOwner_24 : decode cX0_withOwner 24 = .ok (.lshl, 1) := by decide +kernel
theorem dX0_withOwner_25 : decode cX0_withOwner 25 = .ok (.lor, 1) := by decide +kernel
theorem dX0_withOwner_26 : decode cX0_withOwner 26 = .ok (.lreturn, 1) := by decide +kernel
set_option maxRecDepth 20000 in
theorem ggX0_withDoorClosed_X0_ownerShift : GoodIn wsX0_withDoorClosed wsX0_ownerShift := goodIn_r _ [4] (by decide +kernel) (by decide +kernel)
set_option maxRecDepth 20000 in
theorem gX0_withDoorClosed_X0_ownerShift : GoodIn wsX0_withDoorClosed (va_wsS RX0 18 yX0_ownerShift wsX0_ownerShift) := goodIn_app (goodIn_of _ (by decide +kernel)) ggX0_withDoorClosed_X0_ownerShift
theorem dX0_withDoorClosed_0 : decode cX0_withDoorClosed 0 = .ok (.lload_n 0, 1) := by decide +kernel
theorem dX0_withDoorClosed_1 : decode cX0_withDoorClosed 1 = .ok (.lconst 1, 1) := by decide +kernel
theorem dX0_withDoorClosed_2 : decode cX0_withDoorClosed 2 = .ok (.iload_n 2, 1) := by decide +kernel
theorem dX0_withDoorClosed_3 : decode cX0_withDoorClosed 3 = .ok (.invokestatic 18, 3) := by decide +kernel
theorem dX0_withDoorClosed_6 : decode cX0_withDoorClosed 6 = .ok (.iconst 2, 1) := by decide +kernel
theorem dX0_withDoorClosed_7 : decode cX0_withDoorClosed 7 = .ok (.iadd, 1) := by decide +kernel
theorem dX0_withDoorClosed_8 : decode cX0_withDoorClosed 8 = .ok (.lshl, 1) := by decide +kernel
theorem dX0_withDoorClosed_9 : decode cX0_withDoorClosed 9 = .ok (.lor, 1) := by decide +kernel
theorem dX0_withDoorClosed_10 : decode cX0_withDoorClosed 10 = .ok (.lreturn, 1) := by decide +kernel
set_option maxRecDepth 20000 in
theorem ggX0_moved_X0_splitterIn : GoodIn wsX0_moved wsX0_splitterIn := goodIn_r _ [7] (by decide +kernel) (by decide +kernel)
set_option maxRecDepth 20000 in
theorem gX0_moved_X0_splitterIn : GoodIn wsX0_moved (va_wsS RX0 15 yX0_splitterIn wsX0_splitterIn) := goodIn_app (goodIn_of _ (by decide +kernel)) ggX0_moved_X0_splitterIn
set_option maxRecDepth 20000 in
theorem ggX0_moved_X0_diagonalOf : GoodIn wsX0_moved wsX0_diagonalOf := goodIn_r _ [10] (by decide +kernel) (by decide +kernel)
set_option maxRecDepth 20000 in
theorem gX0_moved_X0_diagonalOf : GoodIn wsX0_moved (va_wsS RX0 55 yX0_diagonalOf wsX0_diagonalOf) := goodIn_app (goodIn_of _ (by decide +kernel)) ggX0_moved_X0_diagonalOf
theorem dX0_moved_0 : decode cX0_moved 0 = .ok (.bipush 8, 2) := by decide +kernel
theorem dX0_moved_2 : decode cX0_moved 2 = .ok (.iload_n 2, 1) := by decide +kernel
theorem dX0_moved_3 : decode cX0_moved 3 = .ok (.imul, 1) := by decide +kernel
theorem dX0_moved_4 : decode cX0_moved 4 = .ok (.istore 5, 2) := by decide +kernel
theorem dX0_moved_6 : decode cX0_moved 6 = .ok (.lload_n 0, 1) := by decide +kernel
theorem dX0_moved_7 : decode cX0_moved 7 = .ok (.ldc2_w 53, 3) := by decide +kernel
theorem dX0_moved_10 : decode cX0_moved 10 = .ok (.iload 5, 2) := by decide +kernel
theorem dX0_moved_12 : decode cX0_moved 12 = .ok (.lshl, 1) := by decide +kernel
theorem dX0_moved_13 : decode cX0_moved 13 = .ok (.ldc2_w 24, 3) := by decide +kernel
theorem dX0_moved_16 : decode cX0_moved 16 = .ok (.lxor, 1) := by decide +kernel
theorem dX0_moved_17 : decode cX0_moved 17 = .ok (.land, 1) := by decide +kernel
theorem dX0_moved_18 : decode cX0_moved 18 = .ok (.lstore 6, 2) := by decide +kernel
theorem dX0_moved_20 : decode cX0_moved 20 = .ok (.lload_n 0, 1) := by decide +kernel
theorem dX0_moved_21 : decode cX0_moved 21 = .ok (.iload_n 2, 1) := by decide +kernel
theorem dX0_moved_22 : decode cX0_moved 22 = .ok (.invokestatic 15, 3) := by decide +kernel
theorem dX0_moved_25 : decode cX0_moved 25 = .ok (.istore 8, 2) := by decide +kernel
theorem dX0_moved_27 : decode cX0_moved 27 = .ok (.iload 8, 2) := by decide +kernel
theorem dX0_moved_29 : decode cX0_moved 29 = .ok (.invokestatic 55, 3) := by decide +kernel
theorem dX0_moved_32 : decode cX0_moved 32 = .ok (.iconst 1, 1) := by decide +kernel
theorem dX0_moved_33 : decode cX0_moved 33 = .ok (.iadd, 1) := by decide +kernel
theorem dX0_moved_34 : decode cX0_moved 34 = .ok (.istore 9, 2) := by decide +kernel
theorem dX0_moved_36 : decode cX0_moved 36 = .ok (.iload 9, 2) := by decide +kernel
theorem dX0_moved_38 : decode cX0_moved 38 = .ok (.iload_n 3, 1) := by decide +kernel
theorem dX0_moved_39 : decode cX0_moved 39 = .ok (.if_icmp .lt 13, 3) := by decide +kernel
theorem dX0_moved_42 : decode cX0_moved 42 = .ok (.lload 6, 2) := by decide +kernel
theorem dX0_moved_44 : decode cX0_moved 44 = .ok (.ldc2_w 58, 3) := by decide +kernel
theorem dX0_moved_47 : decode cX0_moved 47 = .ok (.iload 5, 2) := by decide +kernel
theorem dX0_moved_49 : decode cX0_moved 49 = .ok (.lshl, 1) := by decide +kernel
theorem dX0_moved_50 : decode cX0_moved 50 = .ok (.lor, 1) := by decide +kernel
theorem dX0_moved_51 : decode cX0_moved 51 = .ok (.lreturn, 1) := by decide +kernel
theorem dX0_moved_52 : decode cX0_moved 52 = .ok (.iload 8, 2) := by decide +kernel
theorem dX0_moved_54 : decode cX0_moved 54 = .ok (.iload 9, 2) := by decide +kernel
theorem dX0_moved_56 : decode cX0_moved 56 = .ok (.iadd, 1) := by decide +kernel
theorem dX0_moved_57 : decode cX0_moved 57 = .ok (.iload 4, 2) := by decide +kernel
theorem dX0_moved_59 : decode cX0_moved 59 = .ok (.iadd, 1) := by decide +kernel
theorem dX0_moved_60 : decode cX0_moved 60 = .ok (.i2l, 1) := by decide +kernel
theorem dX0_moved_61 : decode cX0_moved 61 = .ok (.lstore 10, 2) := by decide +kernel
theorem dX0_moved_63 : decode cX0_moved 63 = .ok (.lload 6, 2) := by decide +kernel
theorem dX0_moved_65 : decode cX0_moved 65 = .ok (.lload 10, 2) := by decide +kernel
theorem dX0_moved_67 : decode cX0_moved 67 = .ok (.iload 5, 2) := by decide +kernel
theorem dX0_moved_69 : decode cX0_moved 69 = .ok (.iconst 4, 1) := by decide +kernel
theorem dX0_moved_70 : decode cX0_moved 70 = .ok (.iadd, 1) := by decide +kernel
theorem dX0_moved_71 : decode cX0_moved 71 = .ok (.lshl, 1) := by decide +kernel
theorem dX0_moved_72 : decode cX0_moved 72 = .ok (.lor, 1) := by decide +kernel
theorem dX0_moved_73 : decode cX0_moved 73 = .ok (.lreturn, 1) := by decide +kernel
theorem dX0_ownerShift_0 : decode cX0_ownerShift 0 = .ok (.bipush 24, 2) := by decide +kernel
theorem dX0_ownerShift_2 : decode cX0_ownerShift 2 = .ok (.iconst 3, 1) := by decide +kernel
theorem dX0_ownerShift_3 : decode cX0_ownerShift 3 = .ok (.iload_n 0, 1) := by decide +kernel
theorem dX0_ownerShift_4 : decode cX0_ownerShift 4 = .ok (.imul, 1) := by decide +kernel
theorem dX0_ownerShift_5 : decode cX0_ownerShift 5 = .ok (.iadd, 1) := by decide +kernel
theorem dX0_ownerShift_6 : decode cX0_ownerShift 6 = .ok (.ireturn, 1) := by decide +kernel
theorem dX0_diagonalOf_0 : decode cX0_diagonalOf 0 = .ok (.iload_n 0, 1) := by decide +kernel
theorem dX0_diagonalOf_1 : decode cX0_diagonalOf 1 = .ok (.iconst 1, 1) := by decide +kernel
theorem dX0_diagonalOf_2 : decode cX0_diagonalOf 2 = .ok (.if_icmp .ge 5, 3) := by decide +kernel
theorem dX0_diagonalOf_5 : decode cX0_diagonalOf 5 = .ok (.iconst 0, 1) := by decide +kernel
theorem dX0_diagonalOf_6 : decode cX0_diagonalOf 6 = .ok (.ireturn, 1) := by decide +kernel
theorem dX0_diagonalOf_7 : decode cX0_diagonalOf 7 = .ok (.iload_n 0, 1) := by decide +kernel
theorem dX0_diagonalOf_8 : decode cX0_diagonalOf 8 = .ok (.iconst 3, 1) := by decide +kernel
theorem dX0_diagonalOf_9 : decode cX0_diagonalOf 9 = .ok (.if_icmp .ge 5, 3) := by decide +kernel
theorem dX0_diagonalOf_12 : decode cX0_diagonalOf 12 = .ok (.iconst 1, 1) := by decide +kernel
theorem dX0_diagonalOf_13 : decode cX0_diagonalOf 13 = .ok (.ireturn, 1) := by decide +kernel
theorem dX0_diagonalOf_14 : decode cX0_diagonalOf 14 = .ok (.iload_n 0, 1) := by decide +kernel
theorem dX0_diagonalOf_15 : decode cX0_diagonalOf 15 = .ok (.bipush 6, 2) := by decide +kernel
theorem dX0_diagonalOf_17 : decode cX0_diagonalOf 17 = .ok (.if_icmp .ge 7, 3) := by decide +kernel
theorem dX0_diagonalOf_20 : decode cX0_diagonalOf 20 = .ok (.iconst 2, 1) := by decide +kernel
theorem dX0_diagonalOf_21 : decode cX0_diagonalOf 21 = .ok (.goto 4, 3) := by decide +kernel
theorem dX0_diagonalOf_24 : decode cX0_diagonalOf 24 = .ok (.iconst 3, 1) := by decide +kernel
theorem dX0_diagonalOf_25 : decode cX0_diagonalOf 25 = .ok (.ireturn, 1) := by decide +kernel
theorem dX1_countIn_0 : decode cX1_countIn 0 = .ok (.lload_n 0, 1) := by decide +kernel
theorem dX1_countIn_1 : decode cX1_countIn 1 = .ok (.bipush 6, 2) := by decide +kernel
theorem dX1_countIn_3 : decode cX1_countIn 3 = .ok (.iload_n 2, 1) := by decide +kernel
theorem dX1_countIn_4 : decode cX1_countIn 4 = .ok (.imul, 1) := by decide +kernel
theorem dX1_countIn_5 : decode cX1_countIn 5 = .ok (.lushr, 1) := by decide +kernel
theorem dX1_countIn_6 : decode cX1_countIn 6 = .ok (.l2i, 1) := by decide +kernel
theorem dX1_countIn_7 : decode cX1_countIn 7 = .ok (.bipush 63, 2) := by decide +kernel
theorem dX1_countIn_9 : decode cX1_countIn 9 = .ok (.iand, 1) := by decide +kernel
theorem dX1_countIn_10 : decode cX1_countIn 10 = .ok (.ireturn, 1) := by decide +kernel
theorem dX1_withOneMore_0 : decode cX1_withOneMore 0 = .ok (.lload_n 0, 1) := by decide +kernel
theorem dX1_withOneMore_1 : decode cX1_withOneMore 1 = .ok (.lconst 1, 1) := by decide +kernel
theorem dX1_withOneMore_2 : decode cX1_withOneMore 2 = .ok (.bipush 6, 2) := by decide +kernel
theorem dX1_withOneMore_4 : decode cX1_withOneMore 4 = .ok (.iload_n 2, 1) := by decide +kernel
theorem dX1_withOneMore_5 : decode cX1_withOneMore 5 = .ok (.imul, 1) := by decide +kernel
theorem dX1_withOneMore_6 : decode cX1_withOneMore 6 = .ok (.lshl, 1) := by decide +kernel
theorem dX1_withOneMore_7 : decode cX1_withOneMore 7 = .ok (.ladd, 1) := by decide +kernel
theorem dX1_withOneMore_8 : decode cX1_withOneMore 8 = .ok (.lreturn, 1) := by decide +kernel
theorem dX2_init_0 : decode cX2_init 0 = .ok (.aload_n 0, 1) := by decide +kernel
theorem dX2_init_1 : decode cX2_init 1 = .ok (.invokespecial 3, 3) := by decide +kernel
theorem dX2_init_4 : decode cX2_init 4 = .ok (.aload_n 0, 1) := by decide +kernel
theorem dX2_init_5 : decode cX2_init 5 = .ok (.sipush 4000, 3) := by decide +kernel
theorem dX2_init_8 : decode cX2_init 8 = .ok (.newarray .long, 2) := by decide +kernel
theorem dX2_init_10 : decode cX2_init 10 = .ok (.putfield 11, 3) := by decide +kernel
theorem dX2_init_13 : decode cX2_init 13 = .ok (.aload_n 0, 1) := by decide +kernel
theorem dX2_init_14 : decode cX2_init 14 = .ok (.sipush 4000, 3) := by decide +kernel
theorem dX2_init_17 : decode cX2_init 17 = .ok (.newarray .int, 2) := by decide +kernel
theorem dX2_init_19 : decode cX2_init 19 = .ok (.putfield 15, 3) := by decide +kernel
theorem dX2_init_22 : decode cX2_init 22 = .ok (.aload_n 0, 1) := by decide +kernel
theorem dX2_init_23 : decode cX2_init 23 = .ok (.sipush 4000, 3) := by decide +kernel
theorem dX2_init_26 : decode cX2_init 26 = .ok (.newarray .int, 2) := by decide +kernel
theorem dX2_init_28 : decode cX2_init 28 = .ok (.putfield 19, 3) := by decide +kernel
theorem dX2_init_31 : decode cX2_init 31 = .ok (.aload_n 0, 1) := by decide +kernel
theorem dX2_init_32 : decode cX2_init 32 = .ok (.sipush 8192, 3) := by decide +kernel
theorem dX2_init_35 : decode cX2_init 35 = .ok (.newarray .int, 2) := by decide +kernel
theorem dX2_init_37 : decode cX2_init 37 = .ok (.putfield 22, 3) := by decide +kernel
theorem dX2_init_40 : decode cX2_init 40 = .ok (.aload_n 0, 1) := by decide +kernel
theorem dX2_init_41 : decode cX2_init 41 = .ok (.bipush 64, 2) := by decide +kernel
theorem dX2_init_43 : decode cX2_init 43 = .ok (.newarray .long, 2) := by decide +kernel
theorem dX2_init_45 : decode cX2_init 45 = .ok (.putfield 25, 3) := by decide +kernel
theorem dX2_init_48 : decode cX2_init 48 = .ok (.return_, 1) := by decide +kernel
set_option maxRecDepth 20000 in
theorem ggX2_findAllFrom_J7_fill_53178 : GoodIn wsX2_findAllFrom wsJ7_fill_53178 := goodIn_r _ [7] (by decide +kernel) (by decide +kernel)
set_option maxRecDepth 20000 in
theorem gX2_findAllFrom_J7_fill_53178 : GoodIn wsX2_findAllFrom (va_wsS RX2 28 yJ7_fill_53178 wsJ7_fill_53178) := goodIn_app (goodIn_of _ (by decide +kernel)) ggX2_findAllFrom_J7_fill_53178
set_option maxRecDepth 20000 in
theorem ggX2_findAllFrom_X2_find : GoodIn wsX2_findAllFrom wsX2_find := goodIn_r _ [12, 13, 1, 2, 14, 15, 16, 11, 17, 18, 19, 20, 21, 22, 23, 24, 73, 74, 75, 76, 77, 78, 79] (by decide +kernel) (by decide +kernel)
set_option maxRecDepth 20000 in
theorem gX2_findAllFrom_X2_find : GoodIn wsX2_findAllFrom (wsV RX2 48 RX2 yX2_find wsX2_find) := goodIn_app (goodIn_of _ (by decide +kernel)) ggX2_findAllFrom_X2_find
set_option maxRecDepth 20000 in
theorem ggX2_findAllFrom_X2_findNext : GoodIn wsX2_findAllFrom wsX2_findNext := goodIn_r _ [28, 3, 21, 22, 23, 11, 24, 18, 29, 30, 31, 32, 33, 34, 35, 36, 37, 38, 39, 40, 41, 42, 43, 44, 45, 46, 47, 48, 49, 50, 51, 52, 53, 54, 55, 56, 57, 58, 59, 60, 61, 62, 63, 64, 65, 66, 67, 68, 69, 70, 71, 72, 8, 9, 10, 12, 13, 1, 2, 14, 15, 16, 17, 19, 20, 73, 74, 75, 76, 77, 78, 79, 80, 81, 82, 83, 84, 85, 86, 87] (by decide +kernel) (by decide +kernel)
set_option maxRecDepth 20000 in
theorem gX2_findAllFrom_X2_findNext : GoodIn wsX2_findAllFrom (wsV RX2 52 RX2 yX2_findNext wsX2_findNext) := goodIn_app (goodIn_of _ (by decide +kernel)) ggX2_findAllFrom_X2_findNext
theorem dX2_findAllFrom_0 : decode cX2_findAllFrom 0 = .ok (.aload_n 0, 1) := by decide +kernel
theorem dX2_findAllFrom_1 : decode cX2_findAllFrom 1 = .ok (.getfield 22, 3) := by decide +kernel
theorem dX2_findAllFrom_4 : decode cX2_findAllFrom 4 = .ok (.iconst 0, 1) := by decide +kernel
theorem dX2_findAllFrom_5 : decode cX2_findAllFrom 5 = .ok (.invokestatic 28, 3) := by decide +kernel
theorem dX2_findAllFrom_8 : decode cX2_findAllFrom 8 = .ok (.aload_n 0, 1) := by decide +kernel
theorem dX2_findAllFrom_9 : decode cX2_findAllFrom 9 = .ok (.iconst 0, 1) := by decide +kernel
theorem dX2_findAllFrom_10 : decode cX2_findAllFrom 10 = .ok (.putfield 34, 3) := by decide +kernel
theorem dX2_findAllFrom_13 : decode cX2_findAllFrom 13 = .ok (.aload_n 0, 1) := by decide +kernel
theorem dX2_findAllFrom_14 : decode cX2_findAllFrom 14 = .ok (.aload_n 1, 1) := by decide +kernel
theorem dX2_findAllFrom_15 : decode cX2_findAllFrom 15 = .ok (.getfield 38, 3) := by decide +kernel
theorem dX2_findAllFrom_18 : decode cX2_findAllFrom 18 = .ok (.putfield 43, 3) := by decide +kernel
theorem dX2_findAllFrom_21 : decode cX2_findAllFrom 21 = .ok (.aload_n 0, 1) := by decide +kernel
theorem dX2_findAllFrom_22 : decode cX2_findAllFrom 22 = .ok (.aload_n 1, 1) := by decide +kernel
theorem dX2_findAllFrom_23 : decode cX2_findAllFrom 23 = .ok (.getfield 44, 3) := by decide +kernel
theorem dX2_findAllFrom_26 : decode cX2_findAllFrom 26 = .ok (.iconst 0, 1) := by decide +kernel
theorem dX2_findAllFrom_27 : decode cX2_findAllFrom 27 = .ok (.bipush (-9), 2) := by decide +kernel
theorem dX2_findAllFrom_29 : decode cX2_findAllFrom 29 = .ok (.invokevirtual 48, 3) := by decide +kernel
theorem dX2_findAllFrom_32 : decode cX2_findAllFrom 32 = .ok (.istore_n 2, 1) := by decide +kernel
theorem dX2_findAllFrom_33 : decode cX2_findAllFrom 33 = .ok (.iconst 0, 1) := by decide +kernel
theorem dX2_findAllFrom_34 : decode cX2_findAllFrom 34 = .ok (.istore_n 3, 1) := by decide +kernel
theorem dX2_findAllFrom_35 : decode cX2_findAllFrom 35 = .ok (.iload_n 2, 1) := by decide +kernel
theorem dX2_findAllFrom_36 : decode cX2_findAllFrom 36 = .ok (.ifCond .eq 31, 3) := by decide +kernel
theorem dX2_findAllFrom_39 : decode cX2_findAllFrom 39 = .ok (.iload_n 3, 1) := by decide +kernel
theorem dX2_findAllFrom_40 : decode cX2_findAllFrom 40 = .ok (.aload_n 0, 1) := by decide +kernel
theorem dX2_findAllFrom_41 : decode cX2_findAllFrom 41 = .ok (.getfield 34, 3) := by decide +kernel
theorem dX2_findAllFrom_44 : decode cX2_findAllFrom 44 = .ok (.if_icmp .ge 23, 3) := by decide +kernel
theorem dX2_findAllFrom_47 : decode cX2_findAllFrom 47 = .ok (.iload_n 3, 1) := by decide +kernel
theorem dX2_findAllFrom_48 : decode cX2_findAllFrom 48 = .ok (.sipush 4000, 3) := by decide +kernel
theorem dX2_findAllFrom_51 : decode cX2_findAllFrom 51 = .ok (.if_icmp .ge 16, 3) := by decide +kernel
theorem dX2_findAllFrom_54 : decode cX2_findAllFrom 54 = .ok (.aload_n 0, 1) := by decide +kernel
theorem dX2_findAllFrom_55 : decode cX2_findAllFrom 55 = .ok (.iload_n 3, 1) := by decide +kernel
theorem dX2_findAllFrom_56 : decode cX2_findAllFrom 56 = .ok (.aload_n 1, 1) := by decide +kernel
theorem dX2_findAllFrom_57 : decode cX2_findAllFrom 57 = .ok (.invokevirtual 52, 3) := by decide +kernel
theorem dX2_findAllFrom_60 : decode cX2_findAllFrom 60 = .ok (.istore_n 2, 1) := by decide +kernel
theorem dX2_findAllFrom_61 : decode cX2_findAllFrom 61 = .ok (.iinc 3 1, 3) := by decide +kernel
theorem dX2_findAllFrom_64 : decode cX2_findAllFrom 64 = .ok (.goto (-29), 3) := by decide +kernel
theorem dX2_findAllFrom_67 : decode cX2_findAllFrom 67 = .ok (.iload_n 2, 1) := by decide +kernel
theorem dX2_findAllFrom_68 : decode cX2_findAllFrom 68 = .ok (.ireturn, 1) := by decide +kernel
set_option maxRecDepth 20000 in
theorem ggX2_findNext_X2_foundAt : GoodIn wsX2_findNext wsX2_foundAt := goodIn_r _ [6, 7, 65, 66, 67, 68, 69, 70, 71] (by decide +kernel) (by decide +kernel)
set_option maxRecDepth 20000 in
theorem gX2_findNext_X2_foundAt : GoodIn wsX2_findNext (wsV RX2 56 RX2 yX2_foundAt wsX2_foundAt) := goodIn_app (goodIn_of _ (by decide +kernel)) ggX2_findNext_X2_foundAt
set_option maxRecDepth 20000 in
theorem ggX2_findNext_X0_statusIn : GoodIn wsX2_findNext wsX0_statusIn := goodIn_r _ [11] (by decide +kernel) (by decide +kernel)
set_option maxRecDepth 20000 in
theorem gX2_findNext_X0_statusIn : GoodIn wsX2_findNext (va_wsS RX2 60 yX0_statusIn wsX0_statusIn) := goodIn_app (goodIn_of _ (by decide +kernel)) ggX2_findNext_X0_statusIn
set_option maxRecDepth 20000 in
theorem ggX2_findNext_X0_afterStep : GoodIn wsX2_findNext wsX0_afterStep := goodIn_r _ [14, 15, 16, 10, 17, 18, 19, 20, 21, 22, 23, 24, 25, 26, 27, 28, 29, 30, 31, 32, 33, 34, 35, 36, 37, 38, 39, 40, 41, 42, 43, 44, 45, 46, 47, 48, 49, 50, 51] (by decide +kernel) (by decide +kernel)
set_option maxRecDepth 20000 in
theorem gX2_findNext_X0_afterStep : GoodIn wsX2_findNext (va_wsS RX2 72 yX0_afterStep wsX0_afterStep) := goodIn_app (goodIn_of _ (by decide +kernel)) ggX2_findNext_X0_afterStep
set_option maxRecDepth 20000 in
theorem ggX2_findNext_X2_find : GoodIn wsX2_findNext wsX2_find := goodIn_r _ [55, 56, 57, 58, 59, 60, 61, 5, 62, 7, 63, 64, 2, 3, 4, 6, 65, 66, 67, 68, 69, 70, 71] (by decide +kernel) (by decide +kernel)
set_option maxRecDepth 20000 in
theorem gX2_findNext_X2_find : GoodIn wsX2_findNext (wsV RX2 48 RX2 yX2_find wsX2_find) := goodIn_app (goodIn_of _ (by decide +kernel)) ggX2_findNext_X2_find
theorem dX2_findNext_0 : decode cX2_findNext 0 = .ok (.aload_n 0, 1) := by decide +kernel
theorem dX2_findNext_1 : decode cX2_findNext 1 = .ok (.iload_n 1, 1) := by decide +kernel
theorem dX2_findNext_2 : decode cX2_findNext 2 = .ok (.invokevirtual 56, 3) := by decide +kernel
theorem dX2_findNext_5 : decode cX2_findNext 5 = .ok (.lstore_n 3, 1) := by decide +kernel
theorem dX2_findNext_6 : decode cX2_findNext 6 = .ok (.iconst 0, 1) := by decide +kernel
theorem dX2_findNext_7 : decode cX2_findNext 7 = .ok (.istore 5, 2) := by decide +kernel
theorem dX2_findNext_9 : decode cX2_findNext 9 = .ok (.iload 5, 2) := by decide +kernel
theorem dX2_findNext_11 : decode cX2_findNext 11 = .ok (.aload_n 0, 1) := by decide +kernel
theorem dX2_findNext_12 : decode cX2_findNext 12 = .ok (.getfield 43, 3) := by decide +kernel
theorem dX2_findNext_15 : decode cX2_findNext 15 = .ok (.if_icmp .ge 48, 3) := by decide +kernel
theorem dX2_findNext_18 : decode cX2_findNext 18 = .ok (.lload_n 3, 1) := by decide +kernel
theorem dX2_findNext_19 : decode cX2_findNext 19 = .ok (.iload 5, 2) := by decide +kernel
theorem dX2_findNext_21 : decode cX2_findNext 21 = .ok (.invokestatic 60, 3) := by decide +kernel
theorem dX2_findNext_24 : decode cX2_findNext 24 = .ok (.ifCond .ne 33, 3) := by decide +kernel
theorem dX2_findNext_27 : decode cX2_findNext 27 = .ok (.lload_n 3, 1) := by decide +kernel
theorem dX2_findNext_28 : decode cX2_findNext 28 = .ok (.iload 5, 2) := by decide +kernel
theorem dX2_findNext_30 : decode cX2_findNext 30 = .ok (.aload_n 2, 1) := by decide +kernel
theorem dX2_findNext_31 : decode cX2_findNext 31 = .ok (.getfield 66, 3) := by decide +kernel
theorem dX2_findNext_34 : decode cX2_findNext 34 = .ok (.aload_n 2, 1) := by decide +kernel
theorem dX2_findNext_35 : decode cX2_findNext 35 = .ok (.getfield 69, 3) := by decide +kernel
theorem dX2_findNext_38 : decode cX2_findNext 38 = .ok (.invokestatic 72, 3) := by decide +kernel
theorem dX2_findNext_41 : decode cX2_findNext 41 = .ok (.lstore 6, 2) := by decide +kernel
theorem dX2_findNext_43 : decode cX2_findNext 43 = .ok (.aload_n 0, 1) := by decide +kernel
theorem dX2_findNext_44 : decode cX2_findNext 44 = .ok (.lload 6, 2) := by decide +kernel
theorem dX2_findNext_46 : decode cX2_findNext 46 = .ok (.iload_n 1, 1) := by decide +kernel
theorem dX2_findNext_47 : decode cX2_findNext 47 = .ok (.iload 5, 2) := by decide +kernel
theorem dX2_findNext_49 : decode cX2_findNext 49 = .ok (.invokevirtual 48, 3) := by decide +kernel
theorem dX2_findNext_52 : decode cX2_findNext 52 = .ok (.ifCond .ne 5, 3) := by decide +kernel
theorem dX2_findNext_55 : decode cX2_findNext 55 = .ok (.iconst 0, 1) := by decide +kernel
theorem dX2_findNext_56 : decode cX2_findNext 56 = .ok (.ireturn, 1) := by decide +kernel
theorem dX2_findNext_57 : decode cX2_findNext 57 = .ok (.iinc 5 1, 3) := by decide +kernel
theorem dX2_findNext_60 : decode cX2_findNext 60 = .ok (.goto (-51), 3) := by decide +kernel
theorem dX2_findNext_63 : decode cX2_findNext 63 = .ok (.iconst 1, 1) := by decide +kernel
theorem dX2_findNext_64 : decode cX2_findNext 64 = .ok (.ireturn, 1) := by decide +kernel
set_option maxRecDepth 20000 in
theorem ggX2_find_X2_keep : GoodIn wsX2_find wsX2_keep := goodIn_r _ [8, 3, 9, 10, 11, 16, 17, 18, 19, 20, 21, 22] (by decide +kernel) (by decide +kernel)
set_option maxRecDepth 20000 in
theorem gX2_find_X2_keep : GoodIn wsX2_find (wsV RX2 78 RX2 yX2_keep wsX2_keep) := goodIn_app (goodIn_of _ (by decide +kernel)) ggX2_find_X2_keep
set_option maxRecDepth 20000 in
theorem ggX2_find_X2_foundAt : GoodIn wsX2_find wsX2_foundAt := goodIn_r _ [15, 9, 16, 17, 18, 19, 20, 21, 22] (by decide +kernel) (by decide +kernel)
set_option maxRecDepth 20000 in
theorem gX2_find_X2_foundAt : GoodIn wsX2_find (wsV RX2 56 RX2 yX2_foundAt wsX2_foundAt) := goodIn_app (goodIn_of _ (by decide +kernel)) ggX2_find_X2_foundAt
theorem dX2_find_0 : decode cX2_find 0 = .ok (.lload_n 1, 1) := by decide +kernel
theorem dX2_find_1 : decode cX2_find 1 = .ok (.ldc2_w 76, 3) := by decide +kernel
theorem dX2_find_4 : decode cX2_find 4 = .ok (.lmul, 1) := by decide +kernel
theorem dX2_find_5 : decode cX2_find 5 = .ok (.bipush 51, 2) := by decide +kernel
theorem dX2_find_7 : decode cX2_find 7 = .ok (.lushr, 1) := by decide +kernel
theorem dX2_find_8 : decode cX2_find 8 = .ok (.l2i, 1) := by decide +kernel
theorem dX2_find_9 : decode cX2_find 9 = .ok (.istore 5, 2) := by decide +kernel
theorem dX2_find_11 : decode cX2_find 11 = .ok (.iconst 0, 1) := by decide +kernel
theorem dX2_find_12 : decode cX2_find 12 = .ok (.istore 6, 2) := by decide +kernel
theorem dX2_find_14 : decode cX2_find 14 = .ok (.iload 6, 2) := by decide +kernel
theorem dX2_find_16 : decode cX2_find 16 = .ok (.sipush 8192, 3) := by decide +kernel
theorem dX2_find_19 : decode cX2_find 19 = .ok (.if_icmp .ge 71, 3) := by decide +kernel
theorem dX2_find_22 : decode cX2_find 22 = .ok (.iload 5, 2) := by decide +kernel
theorem dX2_find_24 : decode cX2_find 24 = .ok (.iload 6, 2) := by decide +kernel
theorem dX2_find_26 : decode cX2_find 26 = .ok (.iadd, 1) := by decide +kernel
theorem dX2_find_27 : decode cX2_find 27 = .ok (.sipush 8191, 3) := by decide +kernel
theorem dX2_find_30 : decode cX2_find 30 = .ok (.iand, 1) := by decide +kernel
theorem dX2_find_31 : decode cX2_find 31 = .ok (.istore 7, 2) := by decide +kernel
theorem dX2_find_33 : decode cX2_find 33 = .ok (.aload_n 0, 1) := by decide +kernel
theorem dX2_find_34 : decode cX2_find 34 = .ok (.getfield 22, 3) := by decide +kernel
theorem dX2_find_37 : decode cX2_find 37 = .ok (.iload 7, 2) := by decide +kernel
theorem dX2_find_39 : decode cX2_find 39 = .ok (.iaload, 1) := by decide +kernel
theorem dX2_find_40 : decode cX2_find 40 = .ok (.iconst 1, 1) := by decide +kernel
theorem dX2_find_41 : decode cX2_find 41 = .ok (.isub, 1) := by decide +kernel
theorem dX2_find_42 : decode cX2_find 42 = .ok (.istore 8, 2) := by decide +kernel
theorem dX2_find_44 : decode cX2_find 44 = .ok (.iload 8, 2) := by decide +kernel
theorem dX2_find_46 : decode cX2_find 46 = .ok (.ifCond .ge 25, 3) := by decide +kernel
theorem dX2_find_49 : decode cX2_find 49 = .ok (.aload_n 0, 1) := by decide +kernel
theorem dX2_find_50 : decode cX2_find 50 = .ok (.getfield 22, 3) := by decide +kernel
theorem dX2_find_53 : decode cX2_find 53 = .ok (.iload 7, 2) := by decide +kernel
theorem dX2_find_55 : decode cX2_find 55 = .ok (.aload_n 0, 1) := by decide +kernel
theorem dX2_find_56 : decode cX2_find 56 = .ok (.getfield 34, 3) := by decide +kernel
theorem dX2_find_59 : decode cX2_find 59 = .ok (.iconst 1, 1) := by decide +kernel
theorem dX2_find_60 : decode cX2_find 60 = .ok (.iadd, 1) := by decide +kernel
theorem dX2_find_61 : decode cX2_find 61 = .ok (.iastore, 1) := by decide +kernel
theorem dX2_find_62 : decode cX2_find 62 = .ok (.aload_n 0, 1) := by decide +kernel
theorem dX2_find_63 : decode cX2_find 63 = .ok (.lload_n 1, 1) := by decide +kernel
theorem dX2_find_64 : decode cX2_find 64 = .ok (.iload_n 3, 1) := by decide +kernel
theorem dX2_find_65 : decode cX2_find 65 = .ok (.iload 4, 2) := by decide +kernel
theorem dX2_find_67 : decode cX2_find 67 = .ok (.invokevirtual 78, 3) := by decide +kernel
theorem dX2_find_70 : decode cX2_find 70 = .ok (.ireturn, 1) := by decide +kernel
theorem dX2_find_71 : decode cX2_find 71 = .ok (.aload_n 0, 1) := by decide +kernel
theorem dX2_find_72 : decode cX2_find 72 = .ok (.iload 8, 2) := by decide +kernel
theorem dX2_find_74 : decode cX2_find 74 = .ok (.invokevirtual 56, 3) := by decide +kernel
theorem dX2_find_77 : decode cX2_find 77 = .ok (.lload_n 1, 1) := by decide +kernel
theorem dX2_find_78 : decode cX2_find 78 = .ok (.lcmp, 1) := by decide +kernel
theorem dX2_find_79 : decode cX2_find 79 = .ok (.ifCond .ne 5, 3) := by decide +kernel
theorem dX2_find_82 : decode cX2_find 82 = .ok (.iconst 1, 1) := by decide +kernel
theorem dX2_find_83 : decode cX2_find 83 = .ok (.ireturn, 1) := by decide +kernel
theorem dX2_find_84 : decode cX2_find 84 = .ok (.iinc 6 1, 3) := by decide +kernel
theorem dX2_find_87 : decode cX2_find 87 = .ok (.goto (-73), 3) := by decide +kernel
theorem dX2_find_90 : decode cX2_find 90 = .ok (.iconst 0, 1) := by decide +kernel
theorem dX2_find_91 : decode cX2_find 91 = .ok (.ireturn, 1) := by decide +kernel
theorem dX2_keep_0 : decode cX2_keep 0 = .ok (.aload_n 0, 1) := by decide +kernel
theorem dX2_keep_1 : decode cX2_keep 1 = .ok (.getfield 34, 3) := by decide +kernel
theorem dX2_keep_4 : decode cX2_keep 4 = .ok (.ifCond .lt 13, 3) := by decide +kernel
theorem dX2_keep_7 : decode cX2_keep 7 = .ok (.aload_n 0, 1) := by decide +kernel
theorem dX2_keep_8 : decode cX2_keep 8 = .ok (.getfield 34, 3) := by decide +kernel
theorem dX2_keep_11 : decode cX2_keep 11 = .ok (.sipush 4000, 3) := by decide +kernel
theorem dX2_keep_14 : decode cX2_keep 14 = .ok (.if_icmp .lt 5, 3) := by decide +kernel
theorem dX2_keep_17 : decode cX2_keep 17 = .ok (.iconst 0, 1) := by decide +kernel
theorem dX2_keep_18 : decode cX2_keep 18 = .ok (.ireturn, 1) := by decide +kernel
theorem dX2_keep_19 : decode cX2_keep 19 = .ok (.aload_n 0, 1) := by decide +kernel
theorem dX2_keep_20 : decode cX2_keep 20 = .ok (.getfield 11, 3) := by decide +kernel
theorem dX2_keep_23 : decode cX2_keep 23 = .ok (.aload_n 0, 1) := by decide +kernel
theorem dX2_keep_24 : decode cX2_keep 24 = .ok (.getfield 34, 3) := by decide +kernel
theorem dX2_keep_27 : decode cX2_keep 27 = .ok (.lload_n 1, 1) := by decide +kernel
theorem dX2_keep_28 : decode cX2_keep 28 = .ok (.lastore, 1) := by decide +kernel
theorem dX2_keep_29 : decode cX2_keep 29 = .ok (.aload_n 0, 1) := by decide +kernel
theorem dX2_keep_30 : decode cX2_keep 30 = .ok (.getfield 15, 3) := by decide +kernel
theorem dX2_keep_33 : decode cX2_keep 33 = .ok (.aload_n 0, 1) := by decide +kernel
theorem dX2_keep_34 : decode cX2_keep 34 = .ok (.getfield 34, 3) := by decide +kernel
theorem dX2_keep_37 : decode cX2_keep 37 = .ok (.iload_n 3, 1) := by decide +kernel
theorem dX2_keep_38 : decode cX2_keep 38 = .ok (.iastore, 1) := by decide +kernel
theorem dX2_keep_39 : decode cX2_keep 39 = .ok (.aload_n 0, 1) := by decide +kernel
theorem dX2_keep_40 : decode cX2_keep 40 = .ok (.getfield 19, 3) := by decide +kernel
theorem dX2_keep_43 : decode cX2_keep 43 = .ok (.aload_n 0, 1) := by decide +kernel
theorem dX2_keep_44 : decode cX2_keep 44 = .ok (.getfield 34, 3) := by decide +kernel
theorem dX2_keep_47 : decode cX2_keep 47 = .ok (.iload 4, 2) := by decide +kernel
theorem dX2_keep_49 : decode cX2_keep 49 = .ok (.iastore, 1) := by decide +kernel
theorem dX2_keep_50 : decode cX2_keep 50 = .ok (.aload_n 0, 1) := by decide +kernel
theorem dX2_keep_51 : decode cX2_keep 51 = .ok (.dup, 1) := by decide +kernel
theorem dX2_keep_52 : decode cX2_keep 52 = .ok (.getfield 34, 3) := by decide +kernel
theorem dX2_keep_55 : decode cX2_keep 55 = .ok (.iconst 1, 1) := by decide +kernel
theorem dX2_keep_56 : decode cX2_keep 56 = .ok (.iadd, 1) := by decide +kernel
theorem dX2_keep_57 : decode cX2_keep 57 = .ok (.putfield 34, 3) := by decide +kernel
theorem dX2_keep_60 : decode cX2_keep 60 = .ok (.iconst 1, 1) := by decide +kernel
theorem dX2_keep_61 : decode cX2_keep 61 = .ok (.ireturn, 1) := by decide +kernel
theorem dX2_foundAt_0 : decode cX2_foundAt 0 = .ok (.iload_n 1, 1) := by decide +kernel
theorem dX2_foundAt_1 : decode cX2_foundAt 1 = .ok (.ifCond .lt 21, 3) := by decide +kernel
theorem dX2_foundAt_4 : decode cX2_foundAt 4 = .ok (.iload_n 1, 1) := by decide +kernel
theorem dX2_foundAt_5 : decode cX2_foundAt 5 = .ok (.aload_n 0, 1) := by decide +kernel
theorem dX2_foundAt_6 : decode cX2_foundAt 6 = .ok (.getfield 11, 3) := by decide +kernel
theorem dX2_foundAt_9 : decode cX2_foundAt 9 = .ok (.arraylength, 1) := by decide +kernel
theorem dX2_foundAt_10 : decode cX2_foundAt 10 = .ok (.if_icmp .ge 12, 3) := by decide +kernel
theorem dX2_foundAt_13 : decode cX2_foundAt 13 = .ok (.aload_n 0, 1) := by decide +kernel
theorem dX2_foundAt_14 : decode cX2_foundAt 14 = .ok (.getfield 11, 3) := by decide +kernel
theorem dX2_foundAt_17 : decode cX2_foundAt 17 = .ok (.iload_n 1, 1) := by decide +kernel
theorem dX2_foundAt_18 : decode cX2_foundAt 18 = .ok (.laload, 1) := by decide +kernel
theorem dX2_foundAt_19 : decode cX2_foundAt 19 = .ok (.goto 4, 3) := by decide +kernel
theorem dX2_foundAt_22 : decode cX2_foundAt 22 = .ok (.lconst 0, 1) := by decide +kernel
theorem dX2_foundAt_23 : decode cX2_foundAt 23 = .ok (.lreturn, 1) := by decide +kernel
set_option maxRecDepth 20000 in
theorem ggX2_countFinals_X2_foundAt : GoodIn wsX2_countFinals wsX2_foundAt := goodIn_r _ [6, 7, 17, 18, 19, 20, 21, 22, 23] (by decide +kernel) (by decide +kernel)
set_option maxRecDepth 20000 in
theorem gX2_countFinals_X2_foundAt : GoodIn wsX2_countFinals (wsV RX2 56 RX2 yX2_foundAt wsX2_foundAt) := goodIn_app (goodIn_of _ (by decide +kernel)) ggX2_countFinals_X2_foundAt
set_option maxRecDepth 20000 in
theorem ggX2_countFinals_X2_isFinal : GoodIn wsX2_countFinals wsX2_isFinal := goodIn_r _ [11, 12, 13, 14, 15, 16, 17, 18, 19, 20, 21, 22, 23] (by decide +kernel) (by decide +kernel)
set_option maxRecDepth 20000 in
theorem gX2_countFinals_X2_isFinal : GoodIn wsX2_countFinals (wsV RX2 81 RX2 yX2_isFinal wsX2_isFinal) := goodIn_app (goodIn_of _ (by decide +kernel)) ggX2_countFinals_X2_isFinal
theorem dX2_countFinals_0 : decode cX2_countFinals 0 = .ok (.iconst 0, 1) := by decide +kernel
theorem dX2_countFinals_1 : decode cX2_countFinals 1 = .ok (.istore_n 1, 1) := by decide +kernel
theorem dX2_countFinals_2 : decode cX2_countFinals 2 = .ok (.iconst 0, 1) := by decide +kernel
theorem dX2_countFinals_3 : decode cX2_countFinals 3 = .ok (.istore_n 2, 1) := by decide +kernel
theorem dX2_countFinals_4 : decode cX2_countFinals 4 = .ok (.iload_n 2, 1) := by decide +kernel
theorem dX2_countFinals_5 : decode cX2_countFinals 5 = .ok (.aload_n 0, 1) := by decide +kernel
theorem dX2_countFinals_6 : decode cX2_countFinals 6 = .ok (.getfield 34, 3) := by decide +kernel
theorem dX2_countFinals_9 : decode cX2_countFinals 9 = .ok (.if_icmp .ge 24, 3) := by decide +kernel
theorem dX2_countFinals_12 : decode cX2_countFinals 12 = .ok (.aload_n 0, 1) := by decide +kernel
theorem dX2_countFinals_13 : decode cX2_countFinals 13 = .ok (.aload_n 0, 1) := by decide +kernel
theorem dX2_countFinals_14 : decode cX2_countFinals 14 = .ok (.iload_n 2, 1) := by decide +kernel
theorem dX2_countFinals_15 : decode cX2_countFinals 15 = .ok (.invokevirtual 56, 3) := by decide +kernel
theorem dX2_countFinals_18 : decode cX2_countFinals 18 = .ok (.invokevirtual 81, 3) := by decide +kernel
theorem dX2_countFinals_21 : decode cX2_countFinals 21 = .ok (.ifCond .eq 6, 3) := by decide +kernel
theorem dX2_countFinals_24 : decode cX2_countFinals 24 = .ok (.iinc 1 1, 3) := by decide +kernel
theorem dX2_countFinals_27 : decode cX2_countFinals 27 = .ok (.iinc 2 1, 3) := by decide +kernel
theorem dX2_countFinals_30 : decode cX2_countFinals 30 = .ok (.goto (-26), 3) := by decide +kernel
theorem dX2_countFinals_33 : decode cX2_countFinals 33 = .ok (.iload_n 1, 1) := by decide +kernel
theorem dX2_countFinals_34 : decode cX2_countFinals 34 = .ok (.ireturn, 1) := by decide +kernel
set_option maxRecDepth 20000 in
theorem ggX2_countFinalsNamed_X2_foundAt : GoodIn wsX2_countFinalsNamed wsX2_foundAt := goodIn_r _ [6, 7, 24, 25, 26, 27, 28, 29, 30] (by decide +kernel) (by decide +kernel)
set_option maxRecDepth 20000 in
theorem gX2_countFinalsNamed_X2_foundAt : GoodIn wsX2_countFinalsNamed (wsV RX2 56 RX2 yX2_foundAt wsX2_foundAt) := goodIn_app (goodIn_of _ (by decide +kernel)) ggX2_countFinalsNamed_X2_foundAt
set_option maxRecDepth 20000 in
theorem ggX2_countFinalsNamed_X2_isFinal : GoodIn wsX2_countFinalsNamed wsX2_isFinal := goodIn_r _ [11, 12, 13, 14, 15, 16, 24, 25, 26, 27, 28, 29, 30] (by decide +kernel) (by decide +kernel)
set_option maxRecDepth 20000 in
theorem gX2_countFinalsNamed_X2_isFinal : GoodIn wsX2_countFinalsNamed (wsV RX2 81 RX2 yX2_isFinal wsX2_isFinal) := goodIn_app (goodIn_of _ (by decide +kernel)) ggX2_countFinalsNamed_X2_isFinal
set_option maxRecDepth 20000 in
theorem ggX2_countFinalsNamed_X0_nameIn : GoodIn wsX2_countFinalsNamed wsX0_nameIn := goodIn_r _ [19, 20, 14, 15, 16, 21, 22, 23] (by decide +kernel) (by decide +kernel)
set_option maxRecDepth 20000 in
theorem gX2_countFinalsNamed_X0_nameIn : GoodIn wsX2_countFinalsNamed (va_wsS RX2 85 yX0_nameIn wsX0_nameIn) := goodIn_app (goodIn_of _ (by decide +kernel)) ggX2_countFinalsNamed_X0_nameIn
theorem dX2_countFinalsNamed_0 : decode cX2_countFinalsNamed 0 = .ok (.iconst 0, 1) := by decide +kernel
theorem dX2_countFinalsNamed_1 : decode cX2_countFinalsNamed 1 = .ok (.istore_n 3, 1) := by decide +kernel
theorem dX2_countFinalsNamed_2 : decode cX2_countFinalsNamed 2 = .ok (.iconst 0, 1) := by decide +kernel
theorem dX2_countFinalsNamed_3 : decode cX2_countFinalsNamed 3 = .ok (.istore 4, 2) := by decide +kernel
theorem dX2_countFinalsNamed_5 : decode cX2_countFinalsNamed 5 = .ok (.iload 4, 2) := by decide +kernel
theorem dX2_countFinalsNamed_7 : decode cX2_countFinalsNamed 7 = .ok (.aload_n 0, 1) := by decide +kernel
theorem dX2_countFinalsNamed_8 : decode cX2_countFinalsNamed 8 = .ok (.getfield 34, 3) := by decide +kernel
theorem dX2_countFinalsNamed_11 : decode cX2_countFinalsNamed 11 = .ok (.if_icmp .ge 39, 3) := by decide +kernel
theorem dX2_countFinalsNamed_14 : decode cX2_countFinalsNamed 14 = .ok (.aload_n 0, 1) := by decide +kernel
theorem dX2_countFinalsNamed_15 : decode cX2_countFinalsNamed 15 = .ok (.iload 4, 2) := by decide +kernel
theorem dX2_countFinalsNamed_17 : decode cX2_countFinalsNamed 17 = .ok (.invokevirtual 56, 3) := by decide +kernel
theorem dX2_countFinalsNamed_20 : decode cX2_countFinalsNamed 20 = .ok (.lstore 5, 2) := by decide +kernel
theorem dX2_countFinalsNamed_22 : decode cX2_countFinalsNamed 22 = .ok (.aload_n 0, 1) := by decide +kernel
theorem dX2_countFinalsNamed_23 : decode cX2_countFinalsNamed 23 = .ok (.lload 5, 2) := by decide +kernel
theorem dX2_countFinalsNamed_25 : decode cX2_countFinalsNamed 25 = .ok (.invokevirtual 81, 3) := by decide +kernel
theorem dX2_countFinalsNamed_28 : decode cX2_countFinalsNamed 28 = .ok (.ifCond .eq 16, 3) := by decide +kernel
theorem dX2_countFinalsNamed_31 : decode cX2_countFinalsNamed 31 = .ok (.lload 5, 2) := by decide +kernel
theorem dX2_countFinalsNamed_33 : decode cX2_countFinalsNamed 33 = .ok (.iload_n 1, 1) := by decide +kernel
theorem dX2_countFinalsNamed_34 : decode cX2_countFinalsNamed 34 = .ok (.invokestatic 85, 3) := by decide +kernel
theorem dX2_countFinalsNamed_37 : decode cX2_countFinalsNamed 37 = .ok (.iload_n 2, 1) := by decide +kernel
theorem dX2_countFinalsNamed_38 : decode cX2_countFinalsNamed 38 = .ok (.if_icmp .ne 6, 3) := by decide +kernel
theorem dX2_countFinalsNamed_41 : decode cX2_countFinalsNamed 41 = .ok (.iinc 3 1, 3) := by decide +kernel
theorem dX2_countFinalsNamed_44 : decode cX2_countFinalsNamed 44 = .ok (.iinc 4 1, 3) := by decide +kernel
theorem dX2_countFinalsNamed_47 : decode cX2_countFinalsNamed 47 = .ok (.goto (-42), 3) := by decide +kernel
theorem dX2_countFinalsNamed_50 : decode cX2_countFinalsNamed 50 = .ok (.iload_n 3, 1) := by decide +kernel
theorem dX2_countFinalsNamed_51 : decode cX2_countFinalsNamed 51 = .ok (.ireturn, 1) := by decide +kernel
set_option maxRecDepth 20000 in
theorem ggX2_countViolations_X2_foundAt : GoodIn wsX2_countViolations wsX2_foundAt := goodIn_r _ [6, 7, 23, 24, 25, 26, 27, 28, 29] (by decide +kernel) (by decide +kernel)
set_option maxRecDepth 20000 in
theorem gX2_countViolations_X2_foundAt : GoodIn wsX2_countViolations (wsV RX2 56 RX2 yX2_foundAt wsX2_foundAt) := goodIn_app (goodIn_of _ (by decide +kernel)) ggX2_countViolations_X2_foundAt
set_option maxRecDepth 20000 in
theorem ggX2_countViolations_X2_isViolation : GoodIn wsX2_countViolations wsX2_isViolation := goodIn_r _ [11, 12, 13, 14, 15, 16, 17, 18, 19, 20, 21, 22, 23, 24, 25, 26, 27, 28, 29] (by decide +kernel) (by decide +kernel)
set_option maxRecDepth 20000 in
theorem gX2_countViolations_X2_isViolation : GoodIn wsX2_countViolations (wsV RX2 88 RX2 yX2_isViolation wsX2_isViolation) := goodIn_app (goodIn_of _ (by decide +kernel)) ggX2_countViolations_X2_isViolation
theorem dX2_countViolations_0 : decode cX2_countViolations 0 = .ok (.iconst 0, 1) := by decide +kernel
theorem dX2_countViolations_1 : decode cX2_countViolations 1 = .ok (.istore_n 1, 1) := by decide +kernel
theorem dX2_countViolations_2 : decode cX2_countViolations 2 = .ok (.iconst 0, 1) := by decide +kernel
theorem dX2_countViolations_3 : decode cX2_countViolations 3 = .ok (.istore_n 2, 1) := by decide +kernel
theorem dX2_countViolations_4 : decode cX2_countViolations 4 = .ok (.iload_n 2, 1) := by decide +kernel
theorem dX2_countViolations_5 : decode cX2_countViolations 5 = .ok (.aload_n 0, 1) := by decide +kernel
theorem dX2_countViolations_6 : decode cX2_countViolations 6 = .ok (.getfield 34, 3) := by decide +kernel
theorem dX2_countViolations_9 : decode cX2_countViolations 9 = .ok (.if_icmp .ge 24, 3) := by decide +kernel
theorem dX2_countViolations_12 : decode cX2_countViolations 12 = .ok (.aload_n 0, 1) := by decide +kernel
theorem dX2_countViolations_13 : decode cX2_countViolations 13 = .ok (.aload_n 0, 1) := by decide +kernel
theorem dX2_countViolations_14 : decode cX2_countViolations 14 = .ok (.iload_n 2, 1) := by decide +kernel
theorem dX2_countViolations_15 : decode cX2_countViolations 15 = .ok (.invokevirtual 56, 3) := by decide +kernel
theorem dX2_countViolations_18 : decode cX2_countViolations 18 = .ok (.invokevirtual 88, 3) := by decide +kernel
theorem dX2_countViolations_21 : decode cX2_countViolations 21 = .ok (.ifCond .eq 6, 3) := by decide +kernel
theorem dX2_countViolations_24 : decode cX2_countViolations 24 = .ok (.iinc 1 1, 3) := by decide +kernel
theorem dX2_countViolations_27 : decode cX2_countViolations 27 = .ok (.iinc 2 1, 3) := by decide +kernel
theorem dX2_countViolations_30 : decode cX2_countViolations 30 = .ok (.goto (-26), 3) := by decide +kernel
theorem dX2_countViolations_33 : decode cX2_countViolations 33 = .ok (.iload_n 1, 1) := by decide +kernel
theorem dX2_countViolations_34 : decode cX2_countViolations 34 = .ok (.ireturn, 1) := by decide +kernel
set_option maxRecDepth 20000 in
theorem ggX2_countOutcomes_J7_fill_d0a16 : GoodIn wsX2_countOutcomes wsJ7_fill_d0a16 := goodIn_r _ [6] (by decide +kernel) (by decide +kernel)
set_option maxRecDepth 20000 in
theorem gX2_countOutcomes_J7_fill_d0a16 : GoodIn wsX2_countOutcomes (va_wsS RX2 91 yJ7_fill_d0a16 wsJ7_fill_d0a16) := goodIn_app (goodIn_of _ (by decide +kernel)) ggX2_countOutcomes_J7_fill_d0a16
set_option maxRecDepth 20000 in
theorem ggX2_countOutcomes_X2_foundAt : GoodIn wsX2_countOutcomes wsX2_foundAt := goodIn_r _ [11, 12, 44, 45, 46, 47, 48, 49, 50] (by decide +kernel) (by decide +kernel)
set_option maxRecDepth 20000 in
theorem gX2_countOutcomes_X2_foundAt : GoodIn wsX2_countOutcomes (wsV RX2 56 RX2 yX2_foundAt wsX2_foundAt) := goodIn_app (goodIn_of _ (by decide +kernel)) ggX2_countOutcomes_X2_foundAt
set_option maxRecDepth 20000 in
theorem ggX2_countOutcomes_X2_isFinal : GoodIn wsX2_countOutcomes wsX2_isFinal := goodIn_r _ [16, 17, 18, 19, 20, 21, 44, 45, 46, 47, 48, 49, 50] (by decide +kernel) (by decide +kernel)
set_option maxRecDepth 20000 in
theorem gX2_countOutcomes_X2_isFinal : GoodIn wsX2_countOutcomes (wsV RX2 81 RX2 yX2_isFinal wsX2_isFinal) := goodIn_app (goodIn_of _ (by decide +kernel)) ggX2_countOutcomes_X2_isFinal
set_option maxRecDepth 20000 in
theorem ggX2_countOutcomes_X2_outcomeOf : GoodIn wsX2_countOutcomes wsX2_outcomeOf := goodIn_r _ [25, 17, 26, 27, 20, 28, 29, 19, 21, 30, 31, 32, 44, 45, 46, 47, 48, 49, 50] (by decide +kernel) (by decide +kernel)
set_option maxRecDepth 20000 in
theorem gX2_countOutcomes_X2_outcomeOf : GoodIn wsX2_countOutcomes (wsV RX2 94 RX2 yX2_outcomeOf wsX2_outcomeOf) := goodIn_app (goodIn_of _ (by decide +kernel)) ggX2_countOutcomes_X2_outcomeOf
set_option maxRecDepth 20000 in
theorem ggX2_countOutcomes_X2_markOutcome : GoodIn wsX2_countOutcomes wsX2_markOutcome := goodIn_r _ [36, 1, 44, 45, 46, 47, 48, 49, 50] (by decide +kernel) (by decide +kernel)
set_option maxRecDepth 20000 in
theorem gX2_countOutcomes_X2_markOutcome : GoodIn wsX2_countOutcomes (wsV RX2 98 RX2 yX2_markOutcome wsX2_markOutcome) := goodIn_app (goodIn_of _ (by decide +kernel)) ggX2_countOutcomes_X2_markOutcome
set_option maxRecDepth 20000 in
theorem ggX2_countOutcomes_J13_bitCount_95d88 : GoodIn wsX2_countOutcomes wsJ13_bitCount_95d88 := goodIn_r _ [40, 41, 42, 43] (by decide +kernel) (by decide +kernel)
set_option maxRecDepth 20000 in
theorem gX2_countOutcomes_J13_bitCount_95d88 : GoodIn wsX2_countOutcomes (va_wsS RX2 102 yJ13_bitCount_95d88 wsJ13_bitCount_95d88) := goodIn_app (goodIn_of _ (by decide +kernel)) ggX2_countOutcomes_J13_bitCount_95d88
theorem dX2_countOutcomes_0 : decode cX2_countOutcomes 0 = .ok (.aload_n 0, 1) := by decide +kernel
theorem dX2_countOutcomes_1 : decode cX2_countOutcomes 1 = .ok (.getfield 25, 3) := by decide +kernel
theorem dX2_countOutcomes_4 : decode cX2_countOutcomes 4 = .ok (.lconst 0, 1) := by decide +kernel
theorem dX2_countOutcomes_5 : decode cX2_countOutcomes 5 = .ok (.invokestatic 91, 3) := by decide +kernel
theorem dX2_countOutcomes_8 : decode cX2_countOutcomes 8 = .ok (.iconst 0, 1) := by decide +kernel
theorem dX2_countOutcomes_9 : decode cX2_countOutcomes 9 = .ok (.istore_n 1, 1) := by decide +kernel
theorem dX2_countOutcomes_10 : decode cX2_countOutcomes 10 = .ok (.iload_n 1, 1) := by decide +kernel
theorem dX2_countOutcomes_11 : decode cX2_countOutcomes 11 = .ok (.aload_n 0, 1) := by decide +kernel
theorem dX2_countOutcomes_12 : decode cX2_countOutcomes 12 = .ok (.getfield 34, 3) := by decide +kernel
theorem dX2_countOutcomes_15 : decode cX2_countOutcomes 15 = .ok (.if_icmp .ge 34, 3) := by decide +kernel
theorem dX2_countOutcomes_18 : decode cX2_countOutcomes 18 = .ok (.aload_n 0, 1) := by decide +kernel
theorem dX2_countOutcomes_19 : decode cX2_countOutcomes 19 = .ok (.aload_n 0, 1) := by decide +kernel
theorem dX2_countOutcomes_20 : decode cX2_countOutcomes 20 = .ok (.iload_n 1, 1) := by decide +kernel
theorem dX2_countOutcomes_21 : decode cX2_countOutcomes 21 = .ok (.invokevirtual 56, 3) := by decide +kernel
theorem dX2_countOutcomes_24 : decode cX2_countOutcomes 24 = .ok (.invokevirtual 81, 3) := by decide +kernel
theorem dX2_countOutcomes_27 : decode cX2_countOutcomes 27 = .ok (.ifCond .eq 16, 3) := by decide +kernel
theorem dX2_countOutcomes_30 : decode cX2_countOutcomes 30 = .ok (.aload_n 0, 1) := by decide +kernel
theorem dX2_countOutcomes_31 : decode cX2_countOutcomes 31 = .ok (.aload_n 0, 1) := by decide +kernel
theorem dX2_countOutcomes_32 : decode cX2_countOutcomes 32 = .ok (.aload_n 0, 1) := by decide +kernel
theorem dX2_countOutcomes_33 : decode cX2_countOutcomes 33 = .ok (.iload_n 1, 1) := by decide +kernel
theorem dX2_countOutcomes_34 : decode cX2_countOutcomes 34 = .ok (.invokevirtual 56, 3) := by decide +kernel
theorem dX2_countOutcomes_37 : decode cX2_countOutcomes 37 = .ok (.invokevirtual 94, 3) := by decide +kernel
theorem dX2_countOutcomes_40 : decode cX2_countOutcomes 40 = .ok (.invokevirtual 98, 3) := by decide +kernel
theorem dX2_countOutcomes_43 : decode cX2_countOutcomes 43 = .ok (.iinc 1 1, 3) := by decide +kernel
theorem dX2_countOutcomes_46 : decode cX2_countOutcomes 46 = .ok (.goto (-36), 3) := by decide +kernel
theorem dX2_countOutcomes_49 : decode cX2_countOutcomes 49 = .ok (.iconst 0, 1) := by decide +kernel
theorem dX2_countOutcomes_50 : decode cX2_countOutcomes 50 = .ok (.istore_n 1, 1) := by decide +kernel
theorem dX2_countOutcomes_51 : decode cX2_countOutcomes 51 = .ok (.iconst 0, 1) := by decide +kernel
theorem dX2_countOutcomes_52 : decode cX2_countOutcomes 52 = .ok (.istore_n 2, 1) := by decide +kernel
theorem dX2_countOutcomes_53 : decode cX2_countOutcomes 53 = .ok (.iload_n 2, 1) := by decide +kernel
theorem dX2_countOutcomes_54 : decode cX2_countOutcomes 54 = .ok (.aload_n 0, 1) := by decide +kernel
theorem dX2_countOutcomes_55 : decode cX2_countOutcomes 55 = .ok (.getfield 25, 3) := by decide +kernel
theorem dX2_countOutcomes_58 : decode cX2_countOutcomes 58 = .ok (.arraylength, 1) := by decide +kernel
theorem dX2_countOutcomes_59 : decode cX2_countOutcomes 59 = .ok (.if_icmp .ge 21, 3) := by decide +kernel
theorem dX2_countOutcomes_62 : decode cX2_countOutcomes 62 = .ok (.iload_n 1, 1) := by decide +kernel
theorem dX2_countOutcomes_63 : decode cX2_countOutcomes 63 = .ok (.aload_n 0, 1) := by decide +kernel
theorem dX2_countOutcomes_64 : decode cX2_countOutcomes 64 = .ok (.getfield 25, 3) := by decide +kernel
theorem dX2_countOutcomes_67 : decode cX2_countOutcomes 67 = .ok (.iload_n 2, 1) := by decide +kernel
theorem dX2_countOutcomes_68 : decode cX2_countOutcomes 68 = .ok (.laload, 1) := by decide +kernel
theorem dX2_countOutcomes_69 : decode cX2_countOutcomes 69 = .ok (.invokestatic 102, 3) := by decide +kernel
theorem dX2_countOutcomes_72 : decode cX2_countOutcomes 72 = .ok (.iadd, 1) := by decide +kernel
theorem dX2_countOutcomes_73 : decode cX2_countOutcomes 73 = .ok (.istore_n 1, 1) := by decide +kernel
theorem dX2_countOutcomes_74 : decode cX2_countOutcomes 74 = .ok (.iinc 2 1, 3) := by decide +kernel
theorem dX2_countOutcomes_77 : decode cX2_countOutcomes 77 = .ok (.goto (-24), 3) := by decide +kernel
theorem dX2_countOutcomes_80 : decode cX2_countOutcomes 80 = .ok (.iload_n 1, 1) := by decide +kernel
theorem dX2_countOutcomes_81 : decode cX2_countOutcomes 81 = .ok (.ireturn, 1) := by decide +kernel
set_option maxRecDepth 20000 in
theorem ggX2_highestName_X2_foundAt : GoodIn wsX2_highestName wsX2_foundAt := goodIn_r _ [11, 12, 23, 24, 25, 26, 27, 28, 29] (by decide +kernel) (by decide +kernel)
set_option maxRecDepth 20000 in
theorem gX2_highestName_X2_foundAt : GoodIn wsX2_highestName (wsV RX2 56 RX2 yX2_foundAt wsX2_foundAt) := goodIn_app (goodIn_of _ (by decide +kernel)) ggX2_highestName_X2_foundAt
set_option maxRecDepth 20000 in
theorem ggX2_highestName_X0_nameIn : GoodIn wsX2_highestName wsX0_nameIn := goodIn_r _ [16, 17, 18, 15, 19, 20, 21, 22] (by decide +kernel) (by decide +kernel)
set_option maxRecDepth 20000 in
theorem gX2_highestName_X0_nameIn : GoodIn wsX2_highestName (va_wsS RX2 85 yX0_nameIn wsX0_nameIn) := goodIn_app (goodIn_of _ (by decide +kernel)) ggX2_highestName_X0_nameIn
theorem dX2_highestName_0 : decode cX2_highestName 0 = .ok (.bipush (-9), 2) := by decide +kernel
theorem dX2_highestName_2 : decode cX2_highestName 2 = .ok (.istore_n 1, 1) := by decide +kernel
theorem dX2_highestName_3 : decode cX2_highestName 3 = .ok (.iconst 0, 1) := by decide +kernel
theorem dX2_highestName_4 : decode cX2_highestName 4 = .ok (.istore_n 2, 1) := by decide +kernel
theorem dX2_highestName_5 : decode cX2_highestName 5 = .ok (.iload_n 2, 1) := by decide +kernel
theorem dX2_highestName_6 : decode cX2_highestName 6 = .ok (.aload_n 0, 1) := by decide +kernel
theorem dX2_highestName_7 : decode cX2_highestName 7 = .ok (.getfield 34, 3) := by decide +kernel
theorem dX2_highestName_10 : decode cX2_highestName 10 = .ok (.if_icmp .ge 39, 3) := by decide +kernel
theorem dX2_highestName_13 : decode cX2_highestName 13 = .ok (.iconst 0, 1) := by decide +kernel
theorem dX2_highestName_14 : decode cX2_highestName 14 = .ok (.istore_n 3, 1) := by decide +kernel
theorem dX2_highestName_15 : decode cX2_highestName 15 = .ok (.iload_n 3, 1) := by decide +kernel
theorem dX2_highestName_16 : decode cX2_highestName 16 = .ok (.aload_n 0, 1) := by decide +kernel
theorem dX2_highestName_17 : decode cX2_highestName 17 = .ok (.getfield 43, 3) := by decide +kernel
theorem dX2_highestName_20 : decode cX2_highestName 20 = .ok (.if_icmp .ge 23, 3) := by decide +kernel
theorem dX2_highestName_23 : decode cX2_highestName 23 = .ok (.iload_n 1, 1) := by decide +kernel
theorem dX2_highestName_24 : decode cX2_highestName 24 = .ok (.aload_n 0, 1) := by decide +kernel
theorem dX2_highestName_25 : decode cX2_highestName 25 = .ok (.iload_n 2, 1) := by decide +kernel
theorem dX2_highestName_26 : decode cX2_highestName 26 = .ok (.invokevirtual 56, 3) := by decide +kernel
theorem dX2_highestName_29 : decode cX2_highestName 29 = .ok (.iload_n 3, 1) := by decide +kernel
theorem dX2_highestName_30 : decode cX2_highestName 30 = .ok (.invokestatic 85, 3) := by decide +kernel
theorem dX2_highestName_33 : decode cX2_highestName 33 = .ok (.invokestatic 107, 3) := by decide +kernel
theorem dX2_highestName_36 : decode cX2_highestName 36 = .ok (.istore_n 1, 1) := by decide +kernel
theorem dX2_highestName_37 : decode cX2_highestName 37 = .ok (.iinc 3 1, 3) := by decide +kernel
theorem dX2_highestName_40 : decode cX2_highestName 40 = .ok (.goto (-25), 3) := by decide +kernel
theorem dX2_highestName_43 : decode cX2_highestName 43 = .ok (.iinc 2 1, 3) := by decide +kernel
theorem dX2_highestName_46 : decode cX2_highestName 46 = .ok (.goto (-41), 3) := by decide +kernel
theorem dX2_highestName_49 : decode cX2_highestName 49 = .ok (.iload_n 1, 1) := by decide +kernel
theorem dX2_highestName_50 : decode cX2_highestName 50 = .ok (.ireturn, 1) := by decide +kernel
set_option maxRecDepth 20000 in
theorem ggX2_depthOf_X2_parentOf : GoodIn wsX2_depthOf wsX2_parentOf := goodIn_r _ [5, 6, 7, 8, 9, 10, 11, 12, 13] (by decide +kernel) (by decide +kernel)
set_option maxRecDepth 20000 in
theorem gX2_depthOf_X2_parentOf : GoodIn wsX2_depthOf (wsV RX2 113 RX2 yX2_parentOf wsX2_parentOf) := goodIn_app (goodIn_of _ (by decide +kernel)) ggX2_depthOf_X2_parentOf
theorem dX2_depthOf_0 : decode cX2_depthOf 0 = .ok (.iload_n 1, 1) := by decide +kernel
theorem dX2_depthOf_1 : decode cX2_depthOf 1 = .ok (.istore_n 2, 1) := by decide +kernel
theorem dX2_depthOf_2 : decode cX2_depthOf 2 = .ok (.iconst 0, 1) := by decide +kernel
theorem dX2_depthOf_3 : decode cX2_depthOf 3 = .ok (.istore_n 3, 1) := by decide +kernel
theorem dX2_depthOf_4 : decode cX2_depthOf 4 = .ok (.iload_n 2, 1) := by decide +kernel
theorem dX2_depthOf_5 : decode cX2_depthOf 5 = .ok (.ifCond .le 22, 3) := by decide +kernel
theorem dX2_depthOf_8 : decode cX2_depthOf 8 = .ok (.iload_n 3, 1) := by decide +kernel
theorem dX2_depthOf_9 : decode cX2_depthOf 9 = .ok (.sipush 4000, 3) := by decide +kernel
theorem dX2_depthOf_12 : decode cX2_depthOf 12 = .ok (.if_icmp .ge 15, 3) := by decide +kernel
theorem dX2_depthOf_15 : decode cX2_depthOf 15 = .ok (.aload_n 0, 1) := by decide +kernel
theorem dX2_depthOf_16 : decode cX2_depthOf 16 = .ok (.iload_n 2, 1) := by decide +kernel
theorem dX2_depthOf_17 : decode cX2_depthOf 17 = .ok (.invokevirtual 113, 3) := by decide +kernel
theorem dX2_depthOf_20 : decode cX2_depthOf 20 = .ok (.istore_n 2, 1) := by decide +kernel
theorem dX2_depthOf_21 : decode cX2_depthOf 21 = .ok (.iinc 3 1, 3) := by decide +kernel
theorem dX2_depthOf_24 : decode cX2_depthOf 24 = .ok (.goto (-20), 3) := by decide +kernel
theorem dX2_depthOf_27 : decode cX2_depthOf 27 = .ok (.iload_n 3, 1) := by decide +kernel
theorem dX2_depthOf_28 : decode cX2_depthOf 28 = .ok (.ireturn, 1) := by decide +kernel
set_option maxRecDepth 20000 in
theorem ggX2_moverTowardsViolation_X2_firstViolation : GoodIn wsX2_moverTowardsViolation wsX2_firstViolation := goodIn_r _ [6, 7, 8, 9, 10, 5, 11, 12, 13, 14, 15, 16, 17, 18, 19, 20, 21, 22, 23, 24, 25, 26, 27, 37, 38, 39, 40, 41, 42, 43] (by decide +kernel) (by decide +kernel)
set_option maxRecDepth 20000 in
theorem gX2_moverTowardsViolation_X2_firstViolation : GoodIn wsX2_moverTowardsViolation (wsV RX2 117 RX2 yX2_firstViolation wsX2_firstViolation) := goodIn_app (goodIn_of _ (by decide +kernel)) ggX2_moverTowardsViolation_X2_firstViolation
set_option maxRecDepth 20000 in
theorem ggX2_moverTowardsViolation_X2_depthOf : GoodIn wsX2_moverTowardsViolation wsX2_depthOf := goodIn_r _ [31, 32, 33, 34, 5, 35, 36, 37, 38, 39, 40, 41, 42, 43] (by decide +kernel) (by decide +kernel)
set_option maxRecDepth 20000 in
theorem gX2_moverTowardsViolation_X2_depthOf : GoodIn wsX2_moverTowardsViolation (wsV RX2 121 RX2 yX2_depthOf wsX2_depthOf) := goodIn_app (goodIn_of _ (by decide +kernel)) ggX2_moverTowardsViolation_X2_depthOf
set_option maxRecDepth 20000 in
theorem ggX2_moverTowardsViolation_X2_parentOf : GoodIn wsX2_moverTowardsViolation wsX2_parentOf := goodIn_r _ [35, 36, 37, 38, 39, 40, 41, 42, 43] (by decide +kernel) (by decide +kernel)
set_option maxRecDepth 20000 in
theorem gX2_moverTowardsViolation_X2_parentOf : GoodIn wsX2_moverTowardsViolation (wsV RX2 113 RX2 yX2_parentOf wsX2_parentOf) := goodIn_app (goodIn_of _ (by decide +kernel)) ggX2_moverTowardsViolation_X2_parentOf
theorem dX2_moverTowardsViolation_0 : decode cX2_moverTowardsViolation 0 = .ok (.aload_n 0, 1) := by decide +kernel
theorem dX2_moverTowardsViolation_1 : decode cX2_moverTowardsViolation 1 = .ok (.invokevirtual 117, 3) := by decide +kernel
theorem dX2_moverTowardsViolation_4 : decode cX2_moverTowardsViolation 4 = .ok (.istore_n 2, 1) := by decide +kernel
theorem dX2_moverTowardsViolation_5 : decode cX2_moverTowardsViolation 5 = .ok (.aload_n 0, 1) := by decide +kernel
theorem dX2_moverTowardsViolation_6 : decode cX2_moverTowardsViolation 6 = .ok (.iload_n 2, 1) := by decide +kernel
theorem dX2_moverTowardsViolation_7 : decode cX2_moverTowardsViolation 7 = .ok (.invokevirtual 121, 3) := by decide +kernel
theorem dX2_moverTowardsViolation_10 : decode cX2_moverTowardsViolation 10 = .ok (.iconst 1, 1) := by decide +kernel
theorem dX2_moverTowardsViolation_11 : decode cX2_moverTowardsViolation 11 = .ok (.isub, 1) := by decide +kernel
theorem dX2_moverTowardsViolation_12 : decode cX2_moverTowardsViolation 12 = .ok (.iload_n 1, 1) := by decide +kernel
theorem dX2_moverTowardsViolation_13 : decode cX2_moverTowardsViolation 13 = .ok (.isub, 1) := by decide +kernel
theorem dX2_moverTowardsViolation_14 : decode cX2_moverTowardsViolation 14 = .ok (.istore_n 3, 1) := by decide +kernel
theorem dX2_moverTowardsViolation_15 : decode cX2_moverTowardsViolation 15 = .ok (.iload_n 3, 1) := by decide +kernel
theorem dX2_moverTowardsViolation_16 : decode cX2_moverTowardsViolation 16 = .ok (.ifCond .ge 6, 3) := by decide +kernel
theorem dX2_moverTowardsViolation_19 : decode cX2_moverTowardsViolation 19 = .ok (.bipush (-9), 2) := by decide +kernel
theorem dX2_moverTowardsViolation_21 : decode cX2_moverTowardsViolation 21 = .ok (.ireturn, 1) := by decide +kernel
theorem dX2_moverTowardsViolation_22 : decode cX2_moverTowardsViolation 22 = .ok (.iconst 0, 1) := by decide +kernel
theorem dX2_moverTowardsViolation_23 : decode cX2_moverTowardsViolation 23 = .ok (.istore 4, 2) := by decide +kernel
theorem dX2_moverTowardsViolation_25 : decode cX2_moverTowardsViolation 25 = .ok (.iload 4, 2) := by decide +kernel
theorem dX2_moverTowardsViolation_27 : decode cX2_moverTowardsViolation 27 = .ok (.iload_n 3, 1) := by decide +kernel
theorem dX2_moverTowardsViolation_28 : decode cX2_moverTowardsViolation 28 = .ok (.if_icmp .ge 15, 3) := by decide +kernel
theorem dX2_moverTowardsViolation_31 : decode cX2_moverTowardsViolation 31 = .ok (.aload_n 0, 1) := by decide +kernel
theorem dX2_moverTowardsViolation_32 : decode cX2_moverTowardsViolation 32 = .ok (.iload_n 2, 1) := by decide +kernel
theorem dX2_moverTowardsViolation_33 : decode cX2_moverTowardsViolation 33 = .ok (.invokevirtual 113, 3) := by decide +kernel
theorem dX2_moverTowardsViolation_36 : decode cX2_moverTowardsViolation 36 = .ok (.istore_n 2, 1) := by decide +kernel
theorem dX2_moverTowardsViolation_37 : decode cX2_moverTowardsViolation 37 = .ok (.iinc 4 1, 3) := by decide +kernel
theorem dX2_moverTowardsViolation_40 : decode cX2_moverTowardsViolation 40 = .ok (.goto (-15), 3) := by decide +kernel
theorem dX2_moverTowardsViolation_43 : decode cX2_moverTowardsViolation 43 = .ok (.iload_n 2, 1) := by decide +kernel
theorem dX2_moverTowardsViolation_44 : decode cX2_moverTowardsViolation 44 = .ok (.ifCond .lt 21, 3) := by decide +kernel
theorem dX2_moverTowardsViolation_47 : decode cX2_moverTowardsViolation 47 = .ok (.iload_n 2, 1) := by decide +kernel
theorem dX2_moverTowardsViolation_48 : decode cX2_moverTowardsViolation 48 = .ok (.aload_n 0, 1) := by decide +kernel
theorem dX2_moverTowardsViolation_49 : decode cX2_moverTowardsViolation 49 = .ok (.getfield 19, 3) := by decide +kernel
theorem dX2_moverTowardsViolation_52 : decode cX2_moverTowardsViolation 52 = .ok (.arraylength, 1) := by decide +kernel
theorem dX2_moverTowardsViolation_53 : decode cX2_moverTowardsViolation 53 = .ok (.if_icmp .ge 12, 3) := by decide +kernel
theorem dX2_moverTowardsViolation_56 : decode cX2_moverTowardsViolation 56 = .ok (.aload_n 0, 1) := by decide +kernel
theorem dX2_moverTowardsViolation_57 : decode cX2_moverTowardsViolation 57 = .ok (.getfield 19, 3) := by decide +kernel
theorem dX2_moverTowardsViolation_60 : decode cX2_moverTowardsViolation 60 = .ok (.iload_n 2, 1) := by decide +kernel
theorem dX2_moverTowardsViolation_61 : decode cX2_moverTowardsViolation 61 = .ok (.iaload, 1) := by decide +kernel
theorem dX2_moverTowardsViolation_62 : decode cX2_moverTowardsViolation 62 = .ok (.goto 5, 3) := by decide +kernel
theorem dX2_moverTowardsViolation_65 : decode cX2_moverTowardsViolation 65 = .ok (.bipush (-9), 2) := by decide +kernel
theorem dX2_moverTowardsViolation_67 : decode cX2_moverTowardsViolation 67 = .ok (.ireturn, 1) := by decide +kernel
set_option maxRecDepth 20000 in
theorem ggX2_firstViolation_X2_foundAt : GoodIn wsX2_firstViolation wsX2_foundAt := goodIn_r _ [6, 7, 23, 24, 25, 26, 27, 28, 29] (by decide +kernel) (by decide +kernel)
set_option maxRecDepth 20000 in
theorem gX2_firstViolation_X2_foundAt : GoodIn wsX2_firstViolation (wsV RX2 56 RX2 yX2_foundAt wsX2_foundAt) := goodIn_app (goodIn_of _ (by decide +kernel)) ggX2_firstViolation_X2_foundAt
set_option maxRecDepth 20000 in
theorem ggX2_firstViolation_X2_isViolation : GoodIn wsX2_firstViolation wsX2_isViolation := goodIn_r _ [11, 12, 13, 14, 15, 16, 17, 18, 19, 20, 21, 22, 23, 24, 25, 26, 27, 28, 29] (by decide +kernel) (by decide +kernel)
set_option maxRecDepth 20000 in
theorem gX2_firstViolation_X2_isViolation : GoodIn wsX2_firstViolation (wsV RX2 88 RX2 yX2_isViolation wsX2_isViolation) := goodIn_app (goodIn_of _ (by decide +kernel)) ggX2_firstViolation_X2_isViolation
theorem dX2_firstViolation_0 : decode cX2_firstViolation 0 = .ok (.iconst 0, 1) := by decide +kernel
theorem dX2_firstViolation_1 : decode cX2_firstViolation 1 = .ok (.istore_n 1, 1) := by decide +kernel
theorem dX2_firstViolation_2 : decode cX2_firstViolation 2 = .ok (.iload_n 1, 1) := by decide +kernel
theorem dX2_firstViolation_3 : decode cX2_firstViolation 3 = .ok (.aload_n 0, 1) := by decide +kernel
theorem dX2_firstViolation_4 : decode cX2_firstViolation 4 = .ok (.getfield 34, 3) := by decide +kernel
theorem dX2_firstViolation_7 : decode cX2_firstViolation 7 = .ok (.if_icmp .ge 23, 3) := by decide +kernel
theorem dX2_firstViolation_10 : decode cX2_firstViolation 10 = .ok (.aload_n 0, 1) := by decide +kernel
theorem dX2_firstViolation_11 : decode cX2_firstViolation 11 = .ok (.aload_n 0, 1) := by decide +kernel
theorem dX2_firstViolation_12 : decode cX2_firstViolation 12 = .ok (.iload_n 1, 1) := by decide +kernel
theorem dX2_firstViolation_13 : decode cX2_firstViolation 13 = .ok (.invokevirtual 56, 3) := by decide +kernel
theorem dX2_firstViolation_16 : decode cX2_firstViolation 16 = .ok (.invokevirtual 88, 3) := by decide +kernel
theorem dX2_firstViolation_19 : decode cX2_firstViolation 19 = .ok (.ifCond .eq 5, 3) := by decide +kernel
theorem dX2_firstViolation_22 : decode cX2_firstViolation 22 = .ok (.iload_n 1, 1) := by decide +kernel
theorem dX2_firstViolation_23 : decode cX2_firstViolation 23 = .ok (.ireturn, 1) := by decide +kernel
theorem dX2_firstViolation_24 : decode cX2_firstViolation 24 = .ok (.iinc 1 1, 3) := by decide +kernel
theorem dX2_firstViolation_27 : decode cX2_firstViolation 27 = .ok (.goto (-25), 3) := by decide +kernel
theorem dX2_firstViolation_30 : decode cX2_firstViolation 30 = .ok (.bipush (-9), 2) := by decide +kernel
theorem dX2_firstViolation_32 : decode cX2_firstViolation 32 = .ok (.ireturn, 1) := by decide +kernel
theorem dX2_parentOf_0 : decode cX2_parentOf 0 = .ok (.iload_n 1, 1) := by decide +kernel
theorem dX2_parentOf_1 : decode cX2_parentOf 1 = .ok (.ifCond .lt 21, 3) := by decide +kernel
theorem dX2_parentOf_4 : decode cX2_parentOf 4 = .ok (.iload_n 1, 1) := by decide +kernel
theorem dX2_parentOf_5 : decode cX2_parentOf 5 = .ok (.aload_n 0, 1) := by decide +kernel
theorem dX2_parentOf_6 : decode cX2_parentOf 6 = .ok (.getfield 15, 3) := by decide +kernel
theorem dX2_parentOf_9 : decode cX2_parentOf 9 = .ok (.arraylength, 1) := by decide +kernel
theorem dX2_parentOf_10 : decode cX2_parentOf 10 = .ok (.if_icmp .ge 12, 3) := by decide +kernel
theorem dX2_parentOf_13 : decode cX2_parentOf 13 = .ok (.aload_n 0, 1) := by decide +kernel
theorem dX2_parentOf_14 : decode cX2_parentOf 14 = .ok (.getfield 15, 3) := by decide +kernel
theorem dX2_parentOf_17 : decode cX2_parentOf 17 = .ok (.iload_n 1, 1) := by decide +kernel
theorem dX2_parentOf_18 : decode cX2_parentOf 18 = .ok (.iaload, 1) := by decide +kernel
theorem dX2_parentOf_19 : decode cX2_parentOf 19 = .ok (.goto 4, 3) := by decide +kernel
theorem dX2_parentOf_22 : decode cX2_parentOf 22 = .ok (.iconst 0, 1) := by decide +kernel
theorem dX2_parentOf_23 : decode cX2_parentOf 23 = .ok (.ireturn, 1) := by decide +kernel
set_option maxRecDepth 20000 in
theorem ggX2_isFinal_X0_statusIn : GoodIn wsX2_isFinal wsX0_statusIn := goodIn_r _ [5] (by decide +kernel) (by decide +kernel)
set_option maxRecDepth 20000 in
theorem gX2_isFinal_X0_statusIn : GoodIn wsX2_isFinal (va_wsS RX2 60 yX0_statusIn wsX0_statusIn) := goodIn_app (goodIn_of _ (by decide +kernel)) ggX2_isFinal_X0_statusIn
theorem dX2_isFinal_0 : decode cX2_isFinal 0 = .ok (.iconst 0, 1) := by decide +kernel
theorem dX2_isFinal_1 : decode cX2_isFinal 1 = .ok (.istore_n 3, 1) := by decide +kernel
theorem dX2_isFinal_2 : decode cX2_isFinal 2 = .ok (.iload_n 3, 1) := by decide +kernel
theorem dX2_isFinal_3 : decode cX2_isFinal 3 = .ok (.aload_n 0, 1) := by decide +kernel
theorem dX2_isFinal_4 : decode cX2_isFinal 4 = .ok (.getfield 43, 3) := by decide +kernel
theorem dX2_isFinal_7 : decode cX2_isFinal 7 = .ok (.if_icmp .ge 19, 3) := by decide +kernel
theorem dX2_isFinal_10 : decode cX2_isFinal 10 = .ok (.lload_n 1, 1) := by decide +kernel
theorem dX2_isFinal_11 : decode cX2_isFinal 11 = .ok (.iload_n 3, 1) := by decide +kernel
theorem dX2_isFinal_12 : decode cX2_isFinal 12 = .ok (.invokestatic 60, 3) := by decide +kernel
theorem dX2_isFinal_15 : decode cX2_isFinal 15 = .ok (.ifCond .ne 5, 3) := by decide +kernel
theorem dX2_isFinal_18 : decode cX2_isFinal 18 = .ok (.iconst 0, 1) := by decide +kernel
theorem dX2_isFinal_19 : decode cX2_isFinal 19 = .ok (.ireturn, 1) := by decide +kernel
theorem dX2_isFinal_20 : decode cX2_isFinal 20 = .ok (.iinc 3 1, 3) := by decide +kernel
theorem dX2_isFinal_23 : decode cX2_isFinal 23 = .ok (.goto (-21), 3) := by decide +kernel
theorem dX2_isFinal_26 : decode cX2_isFinal 26 = .ok (.iconst 1, 1) := by decide +kernel
theorem dX2_isFinal_27 : decode cX2_isFinal 27 = .ok (.ireturn, 1) := by decide +kernel
set_option maxRecDepth 20000 in
theorem ggX2_isViolation_X0_nameIn : GoodIn wsX2_isViolation wsX0_nameIn := goodIn_r _ [5, 6, 7, 4, 8, 9, 10, 11] (by decide +kernel) (by decide +kernel)
set_option maxRecDepth 20000 in
theorem gX2_isViolation_X0_nameIn : GoodIn wsX2_isViolation (va_wsS RX2 85 yX0_nameIn wsX0_nameIn) := goodIn_app (goodIn_of _ (by decide +kernel)) ggX2_isViolation_X0_nameIn
theorem dX2_isViolation_0 : decode cX2_isViolation 0 = .ok (.iconst 1, 1) := by decide +kernel
theorem dX2_isViolation_1 : decode cX2_isViolation 1 = .ok (.istore_n 3, 1) := by decide +kernel
theorem dX2_isViolation_2 : decode cX2_isViolation 2 = .ok (.iload_n 3, 1) := by decide +kernel
theorem dX2_isViolation_3 : decode cX2_isViolation 3 = .ok (.aload_n 0, 1) := by decide +kernel
theorem dX2_isViolation_4 : decode cX2_isViolation 4 = .ok (.getfield 43, 3) := by decide +kernel
theorem dX2_isViolation_7 : decode cX2_isViolation 7 = .ok (.if_icmp .ge 51, 3) := by decide +kernel
theorem dX2_isViolation_10 : decode cX2_isViolation 10 = .ok (.lload_n 1, 1) := by decide +kernel
theorem dX2_isViolation_11 : decode cX2_isViolation 11 = .ok (.iload_n 3, 1) := by decide +kernel
theorem dX2_isViolation_12 : decode cX2_isViolation 12 = .ok (.invokestatic 85, 3) := by decide +kernel
theorem dX2_isViolation_15 : decode cX2_isViolation 15 = .ok (.istore 4, 2) := by decide +kernel
theorem dX2_isViolation_17 : decode cX2_isViolation 17 = .ok (.iconst 0, 1) := by decide +kernel
theorem dX2_isViolation_18 : decode cX2_isViolation 18 = .ok (.istore 5, 2) := by decide +kernel
theorem dX2_isViolation_20 : decode cX2_isViolation 20 = .ok (.iload 5, 2) := by decide +kernel
theorem dX2_isViolation_22 : decode cX2_isViolation 22 = .ok (.iload_n 3, 1) := by decide +kernel
theorem dX2_isViolation_23 : decode cX2_isViolation 23 = .ok (.if_icmp .ge 29, 3) := by decide +kernel
theorem dX2_isViolation_26 : decode cX2_isViolation 26 = .ok (.iload 4, 2) := by decide +kernel
theorem dX2_isViolation_28 : decode cX2_isViolation 28 = .ok (.bipush (-9), 2) := by decide +kernel
theorem dX2_isViolation_30 : decode cX2_isViolation 30 = .ok (.if_icmp .eq 16, 3) := by decide +kernel
theorem dX2_isViolation_33 : decode cX2_isViolation 33 = .ok (.iload 4, 2) := by decide +kernel
theorem dX2_isViolation_35 : decode cX2_isViolation 35 = .ok (.lload_n 1, 1) := by decide +kernel
theorem dX2_isViolation_36 : decode cX2_isViolation 36 = .ok (.iload 5, 2) := by decide +kernel
theorem dX2_isViolation_38 : decode cX2_isViolation 38 = .ok (.invokestatic 85, 3) := by decide +kernel
theorem dX2_isViolation_41 : decode cX2_isViolation 41 = .ok (.if_icmp .ne 5, 3) := by decide +kernel
theorem dX2_isViolation_44 : decode cX2_isViolation 44 = .ok (.iconst 1, 1) := by decide +kernel
theorem dX2_isViolation_45 : decode cX2_isViolation 45 = .ok (.ireturn, 1) := by decide +kernel
theorem dX2_isViolation_46 : decode cX2_isViolation 46 = .ok (.iinc 5 1, 3) := by decide +kernel
theorem dX2_isViolation_49 : decode cX2_isViolation 49 = .ok (.goto (-29), 3) := by decide +kernel
theorem dX2_isViolation_52 : decode cX2_isViolation 52 = .ok (.iinc 3 1, 3) := by decide +kernel
theorem dX2_isViolation_55 : decode cX2_isViolation 55 = .ok (.goto (-53), 3) := by decide +kernel
theorem dX2_isViolation_58 : decode cX2_isViolation 58 = .ok (.iconst 0, 1) := by decide +kernel
theorem dX2_isViolation_59 : decode cX2_isViolation 59 = .ok (.ireturn, 1) := by decide +kernel
set_option maxRecDepth 20000 in
theorem ggX2_outcomeOf_X0_nameIn : GoodIn wsX2_outcomeOf wsX0_nameIn := goodIn_r _ [5, 6, 7, 4, 8, 9, 10, 11] (by decide +kernel) (by decide +kernel)
set_option maxRecDepth 20000 in
theorem gX2_outcomeOf_X0_nameIn : GoodIn wsX2_outcomeOf (va_wsS RX2 85 yX0_nameIn wsX0_nameIn) := goodIn_app (goodIn_of _ (by decide +kernel)) ggX2_outcomeOf_X0_nameIn
theorem dX2_outcomeOf_0 : decode cX2_outcomeOf 0 = .ok (.iconst 0, 1) := by decide +kernel
theorem dX2_outcomeOf_1 : decode cX2_outcomeOf 1 = .ok (.istore_n 3, 1) := by decide +kernel
theorem dX2_outcomeOf_2 : decode cX2_outcomeOf 2 = .ok (.iconst 0, 1) := by decide +kernel
theorem dX2_outcomeOf_3 : decode cX2_outcomeOf 3 = .ok (.istore 4, 2) := by decide +kernel
theorem dX2_outcomeOf_5 : decode cX2_outcomeOf 5 = .ok (.iload 4, 2) := by decide +kernel
theorem dX2_outcomeOf_7 : decode cX2_outcomeOf 7 = .ok (.aload_n 0, 1) := by decide +kernel
theorem dX2_outcomeOf_8 : decode cX2_outcomeOf 8 = .ok (.getfield 43, 3) := by decide +kernel
theorem dX2_outcomeOf_11 : decode cX2_outcomeOf 11 = .ok (.if_icmp .ge 38, 3) := by decide +kernel
theorem dX2_outcomeOf_14 : decode cX2_outcomeOf 14 = .ok (.lload_n 1, 1) := by decide +kernel
theorem dX2_outcomeOf_15 : decode cX2_outcomeOf 15 = .ok (.iload 4, 2) := by decide +kernel
theorem dX2_outcomeOf_17 : decode cX2_outcomeOf 17 = .ok (.invokestatic 85, 3) := by decide +kernel
theorem dX2_outcomeOf_20 : decode cX2_outcomeOf 20 = .ok (.istore 5, 2) := by decide +kernel
theorem dX2_outcomeOf_22 : decode cX2_outcomeOf 22 = .ok (.iload_n 3, 1) := by decide +kernel
theorem dX2_outcomeOf_23 : decode cX2_outcomeOf 23 = .ok (.bipush 16, 2) := by decide +kernel
theorem dX2_outcomeOf_25 : decode cX2_outcomeOf 25 = .ok (.imul, 1) := by decide +kernel
theorem dX2_outcomeOf_26 : decode cX2_outcomeOf 26 = .ok (.iload 5, 2) := by decide +kernel
theorem dX2_outcomeOf_28 : decode cX2_outcomeOf 28 = .ok (.bipush (-9), 2) := by decide +kernel
theorem dX2_outcomeOf_30 : decode cX2_outcomeOf 30 = .ok (.if_icmp .ne 7, 3) := by decide +kernel
theorem dX2_outcomeOf_33 : decode cX2_outcomeOf 33 = .ok (.iconst 0, 1) := by decide +kernel
theorem dX2_outcomeOf_34 : decode cX2_outcomeOf 34 = .ok (.goto 7, 3) := by decide +kernel
theorem dX2_outcomeOf_37 : decode cX2_outcomeOf 37 = .ok (.iload 5, 2) := by decide +kernel
theorem dX2_outcomeOf_39 : decode cX2_outcomeOf 39 = .ok (.iconst 1, 1) := by decide +kernel
theorem dX2_outcomeOf_40 : decode cX2_outcomeOf 40 = .ok (.iadd, 1) := by decide +kernel
theorem dX2_outcomeOf_41 : decode cX2_outcomeOf 41 = .ok (.iadd, 1) := by decide +kernel
theorem dX2_outcomeOf_42 : decode cX2_outcomeOf 42 = .ok (.istore_n 3, 1) := by decide +kernel
theorem dX2_outcomeOf_43 : decode cX2_outcomeOf 43 = .ok (.iinc 4 1, 3) := by decide +kernel
theorem dX2_outcomeOf_46 : decode cX2_outcomeOf 46 = .ok (.goto (-41), 3) := by decide +kernel
theorem dX2_outcomeOf_49 : decode cX2_outcomeOf 49 = .ok (.iload_n 3, 1) := by decide +kernel
theorem dX2_outcomeOf_50 : decode cX2_outcomeOf 50 = .ok (.ireturn, 1) := by decide +kernel
theorem dX2_markOutcome_0 : decode cX2_markOutcome 0 = .ok (.iload_n 1, 1) := by decide +kernel
theorem dX2_markOutcome_1 : decode cX2_markOutcome 1 = .ok (.bipush 6, 2) := by decide +kernel
theorem dX2_markOutcome_3 : decode cX2_markOutcome 3 = .ok (.ishr, 1) := by decide +kernel
theorem dX2_markOutcome_4 : decode cX2_markOutcome 4 = .ok (.istore_n 2, 1) := by decide +kernel
theorem dX2_markOutcome_5 : decode cX2_markOutcome 5 = .ok (.iload_n 2, 1) := by decide +kernel
theorem dX2_markOutcome_6 : decode cX2_markOutcome 6 = .ok (.ifCond .lt 27, 3) := by decide +kernel
theorem dX2_markOutcome_9 : decode cX2_markOutcome 9 = .ok (.iload_n 2, 1) := by decide +kernel
theorem dX2_markOutcome_10 : decode cX2_markOutcome 10 = .ok (.aload_n 0, 1) := by decide +kernel
theorem dX2_markOutcome_11 : decode cX2_markOutcome 11 = .ok (.getfield 25, 3) := by decide +kernel
theorem dX2_markOutcome_14 : decode cX2_markOutcome 14 = .ok (.arraylength, 1) := by decide +kernel
theorem dX2_markOutcome_15 : decode cX2_markOutcome 15 = .ok (.if_icmp .ge 18, 3) := by decide +kernel
theorem dX2_markOutcome_18 : decode cX2_markOutcome 18 = .ok (.aload_n 0, 1) := by decide +kernel
theorem dX2_markOutcome_19 : decode cX2_markOutcome 19 = .ok (.getfield 25, 3) := by decide +kernel
theorem dX2_markOutcome_22 : decode cX2_markOutcome 22 = .ok (.iload_n 2, 1) := by decide +kernel
theorem dX2_markOutcome_23 : decode cX2_markOutcome 23 = .ok (.dup2, 1) := by decide +kernel
theorem dX2_markOutcome_24 : decode cX2_markOutcome 24 = .ok (.laload, 1) := by decide +kernel
theorem dX2_markOutcome_25 : decode cX2_markOutcome 25 = .ok (.lconst 1, 1) := by decide +kernel
theorem dX2_markOutcome_26 : decode cX2_markOutcome 26 = .ok (.iload_n 1, 1) := by decide +kernel
theorem dX2_markOutcome_27 : decode cX2_markOutcome 27 = .ok (.bipush 63, 2) := by decide +kernel
theorem dX2_markOutcome_29 : decode cX2_markOutcome 29 = .ok (.iand, 1) := by decide +kernel
theorem dX2_markOutcome_30 : decode cX2_markOutcome 30 = .ok (.lshl, 1) := by decide +kernel
theorem dX2_markOutcome_31 : decode cX2_markOutcome 31 = .ok (.lor, 1) := by decide +kernel
theorem dX2_markOutcome_32 : decode cX2_markOutcome 32 = .ok (.lastore, 1) := by decide +kernel
theorem dX2_markOutcome_33 : decode cX2_markOutcome 33 = .ok (.return_, 1) := by decide +kernel
theorem dX3_init_0 : decode cX3_init 0 = .ok (.aload_n 0, 1) := by decide +kernel
theorem dX3_init_1 : decode cX3_init 1 = .ok (.invokespecial 3, 3) := by decide +kernel
theorem dX3_init_4 : decode cX3_init 4 = .ok (.aload_n 0, 1) := by decide +kernel
theorem dX3_init_5 : decode cX3_init 5 = .ok (.bipush 80, 2) := by decide +kernel
theorem dX3_init_7 : decode cX3_init 7 = .ok (.newarray .char, 2) := by decide +kernel
theorem dX3_init_9 : decode cX3_init 9 = .ok (.putfield 9, 3) := by decide +kernel
theorem dX3_init_12 : decode cX3_init 12 = .ok (.aload_n 0, 1) := by decide +kernel
theorem dX3_init_13 : decode cX3_init 13 = .ok (.bipush 40, 2) := by decide +kernel
theorem dX3_init_15 : decode cX3_init 15 = .ok (.newarray .int, 2) := by decide +kernel
theorem dX3_init_17 : decode cX3_init 17 = .ok (.putfield 13, 3) := by decide +kernel
theorem dX3_init_20 : decode cX3_init 20 = .ok (.aload_n 0, 1) := by decide +kernel
theorem dX3_init_21 : decode cX3_init 21 = .ok (.bipush 40, 2) := by decide +kernel
theorem dX3_init_23 : decode cX3_init 23 = .ok (.newarray .int, 2) := by decide +kernel
theorem dX3_init_25 : decode cX3_init 25 = .ok (.putfield 17, 3) := by decide +kernel
theorem dX3_init_28 : decode cX3_init 28 = .ok (.return_, 1) := by decide +kernel
theorem dX3_isFull_0 : decode cX3_isFull 0 = .ok (.aload_n 0, 1) := by decide +kernel
theorem dX3_isFull_1 : decode cX3_isFull 1 = .ok (.getfield 20, 3) := by decide +kernel
theorem dX3_isFull_4 : decode cX3_isFull 4 = .ok (.aload_n 0, 1) := by decide +kernel
theorem dX3_isFull_5 : decode cX3_isFull 5 = .ok (.getfield 9, 3) := by decide +kernel
theorem dX3_isFull_8 : decode cX3_isFull 8 = .ok (.arraylength, 1) := by decide +kernel
theorem dX3_isFull_9 : decode cX3_isFull 9 = .ok (.if_icmp .lt 7, 3) := by decide +kernel
theorem dX3_isFull_12 : decode cX3_isFull 12 = .ok (.iconst 1, 1) := by decide +kernel
theorem dX3_isFull_13 : decode cX3_isFull 13 = .ok (.goto 4, 3) := by decide +kernel
theorem dX3_isFull_16 : decode cX3_isFull 16 = .ok (.iconst 0, 1) := by decide +kernel
theorem dX3_isFull_17 : decode cX3_isFull 17 = .ok (.ireturn, 1) := by decide +kernel
set_option maxRecDepth 20000 in
theorem ggX3_add_X3_isFull : GoodIn wsX3_add wsX3_isFull := goodIn_r _ [7, 2, 1, 8, 9, 10, 11, 12] (by decide +kernel) (by decide +kernel)
set_option maxRecDepth 20000 in
theorem gX3_add_X3_isFull : GoodIn wsX3_add (wsV RX3 24 RX3 yX3_isFull wsX3_isFull) := goodIn_app (goodIn_of _ (by decide +kernel)) ggX3_add_X3_isFull
theorem dX3_add_0 : decode cX3_add 0 = .ok (.aload_n 0, 1) := by decide +kernel
theorem dX3_add_1 : decode cX3_add 1 = .ok (.invokevirtual 24, 3) := by decide +kernel
theorem dX3_add_4 : decode cX3_add 4 = .ok (.ifCond .ne 23, 3) := by decide +kernel
theorem dX3_add_7 : decode cX3_add 7 = .ok (.aload_n 0, 1) := by decide +kernel
theorem dX3_add_8 : decode cX3_add 8 = .ok (.getfield 9, 3) := by decide +kernel
theorem dX3_add_11 : decode cX3_add 11 = .ok (.aload_n 0, 1) := by decide +kernel
theorem dX3_add_12 : decode cX3_add 12 = .ok (.getfield 20, 3) := by decide +kernel
theorem dX3_add_15 : decode cX3_add 15 = .ok (.iload_n 1, 1) := by decide +kernel
theorem dX3_add_16 : decode cX3_add 16 = .ok (.castore, 1) := by decide +kernel
theorem dX3_add_17 : decode cX3_add 17 = .ok (.aload_n 0, 1) := by decide +kernel
theorem dX3_add_18 : decode cX3_add 18 = .ok (.dup, 1) := by decide +kernel
theorem dX3_add_19 : decode cX3_add 19 = .ok (.getfield 20, 3) := by decide +kernel
theorem dX3_add_22 : decode cX3_add 22 = .ok (.iconst 1, 1) := by decide +kernel
theorem dX3_add_23 : decode cX3_add 23 = .ok (.iadd, 1) := by decide +kernel
theorem dX3_add_24 : decode cX3_add 24 = .ok (.putfield 20, 3) := by decide +kernel
theorem dX3_add_27 : decode cX3_add 27 = .ok (.aload_n 0, 1) := by decide +kernel
theorem dX3_add_28 : decode cX3_add 28 = .ok (.getfield 20, 3) := by decide +kernel
theorem dX3_add_31 : decode cX3_add 31 = .ok (.ireturn, 1) := by decide +kernel
theorem dX3_clear_0 : decode cX3_clear 0 = .ok (.aload_n 0, 1) := by decide +kernel
theorem dX3_clear_1 : decode cX3_clear 1 = .ok (.getfield 20, 3) := by decide +kernel
theorem dX3_clear_4 : decode cX3_clear 4 = .ok (.istore_n 1, 1) := by decide +kernel
theorem dX3_clear_5 : decode cX3_clear 5 = .ok (.aload_n 0, 1) := by decide +kernel
theorem dX3_clear_6 : decode cX3_clear 6 = .ok (.iconst 0, 1) := by decide +kernel
theorem dX3_clear_7 : decode cX3_clear 7 = .ok (.putfield 20, 3) := by decide +kernel
theorem dX3_clear_10 : decode cX3_clear 10 = .ok (.iload_n 1, 1) := by decide +kernel
theorem dX3_clear_11 : decode cX3_clear 11 = .ok (.ireturn, 1) := by decide +kernel
set_option maxRecDepth 20000 in
theorem ggX3_read_X3_beginsToken : GoodIn wsX3_read wsX3_beginsToken := goodIn_r _ [7, 8, 9, 10, 6, 11, 12, 13, 14, 15, 2, 16, 35, 36, 37, 38, 39] (by decide +kernel) (by decide +kernel)
set_option maxRecDepth 20000 in
theorem gX3_read_X3_beginsToken : GoodIn wsX3_read (wsV RX3 31 RX3 yX3_beginsToken wsX3_beginsToken) := goodIn_app (goodIn_of _ (by decide +kernel)) ggX3_read_X3_beginsToken
set_option maxRecDepth 20000 in
theorem ggX3_read_X3_afterToken : GoodIn wsX3_read wsX3_afterToken := goodIn_r _ [20, 21, 22, 23, 6, 24, 8, 9, 10, 11, 12, 13, 14, 15, 2, 16, 25, 26, 27, 28, 1, 29, 30, 31, 32, 33, 34, 35, 36, 37, 38, 39] (by decide +kernel) (by decide +kernel)
set_option maxRecDepth 20000 in
theorem gX3_read_X3_afterToken : GoodIn wsX3_read (wsV RX3 35 RX3 yX3_afterToken wsX3_afterToken) := goodIn_app (goodIn_of _ (by decide +kernel)) ggX3_read_X3_afterToken
theorem dX3_read_0 : decode cX3_read 0 = .ok (.aload_n 0, 1) := by decide +kernel
theorem dX3_read_1 : decode cX3_read 1 = .ok (.iconst 0, 1) := by decide +kernel
theorem dX3_read_2 : decode cX3_read 2 = .ok (.putfield 28, 3) := by decide +kernel
theorem dX3_read_5 : decode cX3_read 5 = .ok (.iconst 0, 1) := by decide +kernel
theorem dX3_read_6 : decode cX3_read 6 = .ok (.istore_n 2, 1) := by decide +kernel
theorem dX3_read_7 : decode cX3_read 7 = .ok (.iconst 0, 1) := by decide +kernel
theorem dX3_read_8 : decode cX3_read 8 = .ok (.istore_n 3, 1) := by decide +kernel
theorem dX3_read_9 : decode cX3_read 9 = .ok (.iload_n 3, 1) := by decide +kernel
theorem dX3_read_10 : decode cX3_read 10 = .ok (.aload_n 0, 1) := by decide +kernel
theorem dX3_read_11 : decode cX3_read 11 = .ok (.getfield 20, 3) := by decide +kernel
theorem dX3_read_14 : decode cX3_read 14 = .ok (.if_icmp .ge 32, 3) := by decide +kernel
theorem dX3_read_17 : decode cX3_read 17 = .ok (.aload_n 0, 1) := by decide +kernel
theorem dX3_read_18 : decode cX3_read 18 = .ok (.iload_n 3, 1) := by decide +kernel
theorem dX3_read_19 : decode cX3_read 19 = .ok (.invokevirtual 31, 3) := by decide +kernel
theorem dX3_read_22 : decode cX3_read 22 = .ok (.ifCond .eq 18, 3) := by decide +kernel
theorem dX3_read_25 : decode cX3_read 25 = .ok (.aload_n 0, 1) := by decide +kernel
theorem dX3_read_26 : decode cX3_read 26 = .ok (.iload_n 2, 1) := by decide +kernel
theorem dX3_read_27 : decode cX3_read 27 = .ok (.iload_n 3, 1) := by decide +kernel
theorem dX3_read_28 : decode cX3_read 28 = .ok (.iload_n 1, 1) := by decide +kernel
theorem dX3_read_29 : decode cX3_read 29 = .ok (.invokevirtual 35, 3) := by decide +kernel
theorem dX3_read_32 : decode cX3_read 32 = .ok (.istore_n 2, 1) := by decide +kernel
theorem dX3_read_33 : decode cX3_read 33 = .ok (.iload_n 2, 1) := by decide +kernel
theorem dX3_read_34 : decode cX3_read 34 = .ok (.iconst 4, 1) := by decide +kernel
theorem dX3_read_35 : decode cX3_read 35 = .ok (.if_icmp .ne 5, 3) := by decide +kernel
theorem dX3_read_38 : decode cX3_read 38 = .ok (.iload_n 3, 1) := by decide +kernel
theorem dX3_read_39 : decode cX3_read 39 = .ok (.ireturn, 1) := by decide +kernel
theorem dX3_read_40 : decode cX3_read 40 = .ok (.iinc 3 1, 3) := by decide +kernel
theorem dX3_read_43 : decode cX3_read 43 = .ok (.goto (-34), 3) := by decide +kernel
theorem dX3_read_46 : decode cX3_read 46 = .ok (.iload_n 2, 1) := by decide +kernel
theorem dX3_read_47 : decode cX3_read 47 = .ok (.ifCond .ne 14, 3) := by decide +kernel
theorem dX3_read_50 : decode cX3_read 50 = .ok (.aload_n 0, 1) := by decide +kernel
theorem dX3_read_51 : decode cX3_read 51 = .ok (.getfield 28, 3) := by decide +kernel
theorem dX3_read_54 : decode cX3_read 54 = .ok (.ifCond .le 7, 3) := by decide +kernel
theorem dX3_read_57 : decode cX3_read 57 = .ok (.iconst (-1), 1) := by decide +kernel
theorem dX3_read_58 : decode cX3_read 58 = .ok (.goto 7, 3) := by decide +kernel
theorem dX3_read_61 : decode cX3_read 61 = .ok (.aload_n 0, 1) := by decide +kernel
theorem dX3_read_62 : decode cX3_read 62 = .ok (.getfield 20, 3) := by decide +kernel
theorem dX3_read_65 : decode cX3_read 65 = .ok (.ireturn, 1) := by decide +kernel
set_option maxRecDepth 20000 in
theorem ggX3_executeOn_X4_advanceUpTo : GoodIn wsX3_executeOn wsX4_advanceUpTo := goodIn_r _ [8, 9, 10, 11, 7, 12, 13, 14, 15, 16, 17, 18, 19, 20, 21, 22, 23, 24, 25, 26, 27, 28, 29, 30, 31, 32, 33, 34, 35, 36, 37, 38, 39, 40, 41, 42, 43, 44, 45, 46, 47, 48, 49, 50, 51, 52, 53, 54, 55, 56, 57, 58, 59, 60, 61, 62, 63, 64, 65, 66, 67, 68, 69, 70, 71, 72, 73, 74, 75, 76, 77, 83, 84, 85, 86, 87, 88, 89, 90] (by decide +kernel) (by decide +kernel)
set_option maxRecDepth 20000 in
theorem gX3_executeOn_X4_advanceUpTo : GoodIn wsX3_executeOn (wsV RX3 39 RX4 yX4_advanceUpTo wsX4_advanceUpTo) := goodIn_app (goodIn_of _ (by decide +kernel)) ggX3_executeOn_X4_advanceUpTo
theorem dX3_executeOn_0 : decode cX3_executeOn 0 = .ok (.iconst 0, 1) := by decide +kernel
theorem dX3_executeOn_1 : decode cX3_executeOn 1 = .ok (.istore_n 2, 1) := by decide +kernel
theorem dX3_executeOn_2 : decode cX3_executeOn 2 = .ok (.iconst 0, 1) := by decide +kernel
theorem dX3_executeOn_3 : decode cX3_executeOn 3 = .ok (.istore_n 3, 1) := by decide +kernel
theorem dX3_executeOn_4 : decode cX3_executeOn 4 = .ok (.iload_n 3, 1) := by decide +kernel
theorem dX3_executeOn_5 : decode cX3_executeOn 5 = .ok (.aload_n 0, 1) := by decide +kernel
theorem dX3_executeOn_6 : decode cX3_executeOn 6 = .ok (.getfield 28, 3) := by decide +kernel
theorem dX3_executeOn_9 : decode cX3_executeOn 9 = .ok (.if_icmp .ge 46, 3) := by decide +kernel
theorem dX3_executeOn_12 : decode cX3_executeOn 12 = .ok (.iload_n 3, 1) := by decide +kernel
theorem dX3_executeOn_13 : decode cX3_executeOn 13 = .ok (.aload_n 0, 1) := by decide +kernel
theorem dX3_executeOn_14 : decode cX3_executeOn 14 = .ok (.getfield 13, 3) := by decide +kernel
theorem dX3_executeOn_17 : decode cX3_executeOn 17 = .ok (.arraylength, 1) := by decide +kernel
theorem dX3_executeOn_18 : decode cX3_executeOn 18 = .ok (.if_icmp .ge 37, 3) := by decide +kernel
theorem dX3_executeOn_21 : decode cX3_executeOn 21 = .ok (.iload_n 3, 1) := by decide +kernel
theorem dX3_executeOn_22 : decode cX3_executeOn 22 = .ok (.aload_n 0, 1) := by decide +kernel
theorem dX3_executeOn_23 : decode cX3_executeOn 23 = .ok (.getfield 17, 3) := by decide +kernel
theorem dX3_executeOn_26 : decode cX3_executeOn 26 = .ok (.arraylength, 1) := by decide +kernel
theorem dX3_executeOn_27 : decode cX3_executeOn 27 = .ok (.if_icmp .ge 28, 3) := by decide +kernel
theorem dX3_executeOn_30 : decode cX3_executeOn 30 = .ok (.iload_n 2, 1) := by decide +kernel
theorem dX3_executeOn_31 : decode cX3_executeOn 31 = .ok (.aload_n 1, 1) := by decide +kernel
theorem dX3_executeOn_32 : decode cX3_executeOn 32 = .ok (.aload_n 0, 1) := by decide +kernel
theorem dX3_executeOn_33 : decode cX3_executeOn 33 = .ok (.getfield 13, 3) := by decide +kernel
theorem dX3_executeOn_36 : decode cX3_executeOn 36 = .ok (.iload_n 3, 1) := by decide +kernel
theorem dX3_executeOn_37 : decode cX3_executeOn 37 = .ok (.iaload, 1) := by decide +kernel
theorem dX3_executeOn_38 : decode cX3_executeOn 38 = .ok (.aload_n 0, 1) := by decide +kernel
theorem dX3_executeOn_39 : decode cX3_executeOn 39 = .ok (.getfield 17, 3) := by decide +kernel
theorem dX3_executeOn_42 : decode cX3_executeOn 42 = .ok (.iload_n 3, 1) := by decide +kernel
theorem dX3_executeOn_43 : decode cX3_executeOn 43 = .ok (.iaload, 1) := by decide +kernel
theorem dX3_executeOn_44 : decode cX3_executeOn 44 = .ok (.invokevirtual 39, 3) := by decide +kernel
theorem dX3_executeOn_47 : decode cX3_executeOn 47 = .ok (.iadd, 1) := by decide +kernel
theorem dX3_executeOn_48 : decode cX3_executeOn 48 = .ok (.istore_n 2, 1) := by decide +kernel
theorem dX3_executeOn_49 : decode cX3_executeOn 49 = .ok (.iinc 3 1, 3) := by decide +kernel
theorem dX3_executeOn_52 : decode cX3_executeOn 52 = .ok (.goto (-48), 3) := by decide +kernel
theorem dX3_executeOn_55 : decode cX3_executeOn 55 = .ok (.iload_n 2, 1) := by decide +kernel
theorem dX3_executeOn_56 : decode cX3_executeOn 56 = .ok (.ireturn, 1) := by decide +kernel
set_option maxRecDepth 20000 in
theorem ggX3_afterToken_X3_numberAt : GoodIn wsX3_afterToken wsX3_numberAt := goodIn_r _ [5, 6, 7, 8, 4, 9, 10, 11, 12, 13, 14, 15, 27, 28, 29, 30, 31] (by decide +kernel) (by decide +kernel)
set_option maxRecDepth 20000 in
theorem gX3_afterToken_X3_numberAt : GoodIn wsX3_afterToken (wsV RX3 45 RX3 yX3_numberAt wsX3_numberAt) := goodIn_app (goodIn_of _ (by decide +kernel)) ggX3_afterToken_X3_numberAt
set_option maxRecDepth 20000 in
theorem ggX3_afterToken_X3_characterAt : GoodIn wsX3_afterToken wsX3_characterAt := goodIn_r _ [13, 14, 15, 27, 28, 29, 30, 31] (by decide +kernel) (by decide +kernel)
set_option maxRecDepth 20000 in
theorem gX3_afterToken_X3_characterAt : GoodIn wsX3_afterToken (wsV RX3 49 RX3 yX3_characterAt wsX3_characterAt) := goodIn_app (goodIn_of _ (by decide +kernel)) ggX3_afterToken_X3_characterAt
set_option maxRecDepth 20000 in
theorem ggX3_afterToken_X3_addItem : GoodIn wsX3_afterToken wsX3_addItem := goodIn_r _ [19, 20, 21, 22, 27, 28, 29, 30, 31] (by decide +kernel) (by decide +kernel)
set_option maxRecDepth 20000 in
theorem gX3_afterToken_X3_addItem : GoodIn wsX3_afterToken (wsV RX3 52 RX3 yX3_addItem wsX3_addItem) := goodIn_app (goodIn_of _ (by decide +kernel)) ggX3_afterToken_X3_addItem
set_option maxRecDepth 20000 in
theorem ggX3_afterToken_X3_setCount : GoodIn wsX3_afterToken wsX3_setCount := goodIn_r _ [26, 20, 22, 27, 28, 29, 30, 31] (by decide +kernel) (by decide +kernel)
set_option maxRecDepth 20000 in
theorem gX3_afterToken_X3_setCount : GoodIn wsX3_afterToken (wsV RX3 55 RX3 yX3_setCount wsX3_setCount) := goodIn_app (goodIn_of _ (by decide +kernel)) ggX3_afterToken_X3_setCount
theorem dX3_afterToken_0 : decode cX3_afterToken 0 = .ok (.aload_n 0, 1) := by decide +kernel
theorem dX3_afterToken_1 : decode cX3_afterToken 1 = .ok (.iload_n 2, 1) := by decide +kernel
theorem dX3_afterToken_2 : decode cX3_afterToken 2 = .ok (.invokevirtual 45, 3) := by decide +kernel
theorem dX3_afterToken_5 : decode cX3_afterToken 5 = .ok (.istore 4, 2) := by decide +kernel
theorem dX3_afterToken_7 : decode cX3_afterToken 7 = .ok (.aload_n 0, 1) := by decide +kernel
theorem dX3_afterToken_8 : decode cX3_afterToken 8 = .ok (.iload_n 2, 1) := by decide +kernel
theorem dX3_afterToken_9 : decode cX3_afterToken 9 = .ok (.invokevirtual 49, 3) := by decide +kernel
theorem dX3_afterToken_12 : decode cX3_afterToken 12 = .ok (.istore 5, 2) := by decide +kernel
theorem dX3_afterToken_14 : decode cX3_afterToken 14 = .ok (.iload_n 1, 1) := by decide +kernel
theorem dX3_afterToken_15 : decode cX3_afterToken 15 = .ok (.tableswitch 101 0 2 #[25, 51, 73], 25) := by decide +kernel
theorem dX3_afterToken_40 : decode cX3_afterToken 40 = .ok (.iload 4, 2) := by decide +kernel
theorem dX3_afterToken_42 : decode cX3_afterToken 42 = .ok (.ifCond .lt 22, 3) := by decide +kernel
theorem dX3_afterToken_45 : decode cX3_afterToken 45 = .ok (.iload 4, 2) := by decide +kernel
theorem dX3_afterToken_47 : decode cX3_afterToken 47 = .ok (.iload_n 3, 1) := by decide +kernel
theorem dX3_afterToken_48 : decode cX3_afterToken 48 = .ok (.if_icmp .ge 16, 3) := by decide +kernel
theorem dX3_afterToken_51 : decode cX3_afterToken 51 = .ok (.aload_n 0, 1) := by decide +kernel
theorem dX3_afterToken_52 : decode cX3_afterToken 52 = .ok (.iload 4, 2) := by decide +kernel
theorem dX3_afterToken_54 : decode cX3_afterToken 54 = .ok (.invokevirtual 52, 3) := by decide +kernel
theorem dX3_afterToken_57 : decode cX3_afterToken 57 = .ok (.ifCond .eq 7, 3) := by decide +kernel
theorem dX3_afterToken_60 : decode cX3_afterToken 60 = .ok (.iconst 1, 1) := by decide +kernel
theorem dX3_afterToken_61 : decode cX3_afterToken 61 = .ok (.goto 4, 3) := by decide +kernel
theorem dX3_afterToken_64 : decode cX3_afterToken 64 = .ok (.iconst 4, 1) := by decide +kernel
theorem dX3_afterToken_65 : decode cX3_afterToken 65 = .ok (.ireturn, 1) := by decide +kernel
theorem dX3_afterToken_66 : decode cX3_afterToken 66 = .ok (.iload 5, 2) := by decide +kernel
theorem dX3_afterToken_68 : decode cX3_afterToken 68 = .ok (.bipush 42, 2) := by decide +kernel
theorem dX3_afterToken_70 : decode cX3_afterToken 70 = .ok (.if_icmp .ne 5, 3) := by decide +kernel
theorem dX3_afterToken_73 : decode cX3_afterToken 73 = .ok (.iconst 2, 1) := by decide +kernel
theorem dX3_afterToken_74 : decode cX3_afterToken 74 = .ok (.ireturn, 1) := by decide +kernel
theorem dX3_afterToken_75 : decode cX3_afterToken 75 = .ok (.iload 5, 2) := by decide +kernel
theorem dX3_afterToken_77 : decode cX3_afterToken 77 = .ok (.bipush 59, 2) := by decide +kernel
theorem dX3_afterToken_79 : decode cX3_afterToken 79 = .ok (.if_icmp .ne 7, 3) := by decide +kernel
theorem dX3_afterToken_82 : decode cX3_afterToken 82 = .ok (.iconst 0, 1) := by decide +kernel
theorem dX3_afterToken_83 : decode cX3_afterToken 83 = .ok (.goto 4, 3) := by decide +kernel
theorem dX3_afterToken_86 : decode cX3_afterToken 86 = .ok (.iconst 4, 1) := by decide +kernel
theorem dX3_afterToken_87 : decode cX3_afterToken 87 = .ok (.ireturn, 1) := by decide +kernel
theorem dX3_afterToken_88 : decode cX3_afterToken 88 = .ok (.iload 4, 2) := by decide +kernel
theorem dX3_afterToken_90 : decode cX3_afterToken 90 = .ok (.iconst 1, 1) := by decide +kernel
theorem dX3_afterToken_91 : decode cX3_afterToken 91 = .ok (.if_icmp .lt 23, 3) := by decide +kernel
theorem dX3_afterToken_94 : decode cX3_afterToken 94 = .ok (.iload 4, 2) := by decide +kernel
theorem dX3_afterToken_96 : decode cX3_afterToken 96 = .ok (.bipush 30, 2) := by decide +kernel
theorem dX3_afterToken_98 : decode cX3_afterToken 98 = .ok (.if_icmp .gt 16, 3) := by decide +kernel
theorem dX3_afterToken_101 : decode cX3_afterToken 101 = .ok (.aload_n 0, 1) := by decide +kernel
theorem dX3_afterToken_102 : decode cX3_afterToken 102 = .ok (.iload 4, 2) := by decide +kernel
theorem dX3_afterToken_104 : decode cX3_afterToken 104 = .ok (.invokevirtual 55, 3) := by decide +kernel
theorem dX3_afterToken_107 : decode cX3_afterToken 107 = .ok (.ifCond .eq 7, 3) := by decide +kernel
theorem dX3_afterToken_110 : decode cX3_afterToken 110 = .ok (.iconst 3, 1) := by decide +kernel
theorem dX3_afterToken_111 : decode cX3_afterToken 111 = .ok (.goto 4, 3) := by decide +kernel
theorem dX3_afterToken_114 : decode cX3_afterToken 114 = .ok (.iconst 4, 1) := by decide +kernel
theorem dX3_afterToken_115 : decode cX3_afterToken 115 = .ok (.ireturn, 1) := by decide +kernel
theorem dX3_afterToken_116 : decode cX3_afterToken 116 = .ok (.iload 5, 2) := by decide +kernel
theorem dX3_afterToken_118 : decode cX3_afterToken 118 = .ok (.bipush 59, 2) := by decide +kernel
theorem dX3_afterToken_120 : decode cX3_afterToken 120 = .ok (.if_icmp .ne 7, 3) := by decide +kernel
theorem dX3_afterToken_123 : decode cX3_afterToken 123 = .ok (.iconst 0, 1) := by decide +kernel
theorem dX3_afterToken_124 : decode cX3_afterToken 124 = .ok (.goto 4, 3) := by decide +kernel
theorem dX3_afterToken_127 : decode cX3_afterToken 127 = .ok (.iconst 4, 1) := by decide +kernel
theorem dX3_afterToken_128 : decode cX3_afterToken 128 = .ok (.ireturn, 1) := by decide +kernel
theorem dX3_addItem_0 : decode cX3_addItem 0 = .ok (.aload_n 0, 1) := by decide +kernel
theorem dX3_addItem_1 : decode cX3_addItem 1 = .ok (.getfield 28, 3) := by decide +kernel
theorem dX3_addItem_4 : decode cX3_addItem 4 = .ok (.aload_n 0, 1) := by decide +kernel
theorem dX3_addItem_5 : decode cX3_addItem 5 = .ok (.getfield 13, 3) := by decide +kernel
theorem dX3_addItem_8 : decode cX3_addItem 8 = .ok (.arraylength, 1) := by decide +kernel
theorem dX3_addItem_9 : decode cX3_addItem 9 = .ok (.if_icmp .ge 15, 3) := by decide +kernel
theorem dX3_addItem_12 : decode cX3_addItem 12 = .ok (.aload_n 0, 1) := by decide +kernel
theorem dX3_addItem_13 : decode cX3_addItem 13 = .ok (.getfield 28, 3) := by decide +kernel
theorem dX3_addItem_16 : decode cX3_addItem 16 = .ok (.aload_n 0, 1) := by decide +kernel
theorem dX3_addItem_17 : decode cX3_addItem 17 = .ok (.getfield 17, 3) := by decide +kernel
theorem dX3_addItem_20 : decode cX3_addItem 20 = .ok (.arraylength, 1) := by decide +kernel
theorem dX3_addItem_21 : decode cX3_addItem 21 = .ok (.if_icmp .lt 5, 3) := by decide +kernel
theorem dX3_addItem_24 : decode cX3_addItem 24 = .ok (.iconst 0, 1) := by decide +kernel
theorem dX3_addItem_25 : decode cX3_addItem 25 = .ok (.ireturn, 1) := by decide +kernel
theorem dX3_addItem_26 : decode cX3_addItem 26 = .ok (.aload_n 0, 1) := by decide +kernel
theorem dX3_addItem_27 : decode cX3_addItem 27 = .ok (.getfield 13, 3) := by decide +kernel
theorem dX3_addItem_30 : decode cX3_addItem 30 = .ok (.aload_n 0, 1) := by decide +kernel
theorem dX3_addItem_31 : decode cX3_addItem 31 = .ok (.getfield 28, 3) := by decide +kernel
theorem dX3_addItem_34 : decode cX3_addItem 34 = .ok (.iload_n 1, 1) := by decide +kernel
theorem dX3_addItem_35 : decode cX3_addItem 35 = .ok (.iastore, 1) := by decide +kernel
theorem dX3_addItem_36 : decode cX3_addItem 36 = .ok (.aload_n 0, 1) := by decide +kernel
theorem dX3_addItem_37 : decode cX3_addItem 37 = .ok (.getfield 17, 3) := by decide +kernel
theorem dX3_addItem_40 : decode cX3_addItem 40 = .ok (.aload_n 0, 1) := by decide +kernel
theorem dX3_addItem_41 : decode cX3_addItem 41 = .ok (.getfield 28, 3) := by decide +kernel
theorem dX3_addItem_44 : decode cX3_addItem 44 = .ok (.iconst 1, 1) := by decide +kernel
theorem dX3_addItem_45 : decode cX3_addItem 45 = .ok (.iastore, 1) := by decide +kernel
theorem dX3_addItem_46 : decode cX3_addItem 46 = .ok (.aload_n 0, 1) := by decide +kernel
theorem dX3_addItem_47 : decode cX3_addItem 47 = .ok (.dup, 1) := by decide +kernel
theorem dX3_addItem_48 : decode cX3_addItem 48 = .ok (.getfield 28, 3) := by decide +kernel
theorem dX3_addItem_51 : decode cX3_addItem 51 = .ok (.iconst 1, 1) := by decide +kernel
theorem dX3_addItem_52 : decode cX3_addItem 52 = .ok (.iadd, 1) := by decide +kernel
theorem dX3_addItem_53 : decode cX3_addItem 53 = .ok (.putfield 28, 3) := by decide +kernel
theorem dX3_addItem_56 : decode cX3_addItem 56 = .ok (.iconst 1, 1) := by decide +kernel
theorem dX3_addItem_57 : decode cX3_addItem 57 = .ok (.ireturn, 1) := by decide +kernel
theorem dX3_setCount_0 : decode cX3_setCount 0 = .ok (.aload_n 0, 1) := by decide +kernel
theorem dX3_setCount_1 : decode cX3_setCount 1 = .ok (.getfield 28, 3) := by decide +kernel
theorem dX3_setCount_4 : decode cX3_setCount 4 = .ok (.iconst 1, 1) := by decide +kernel
theorem dX3_setCount_5 : decode cX3_setCount 5 = .ok (.if_icmp .lt 15, 3) := by decide +kernel
theorem dX3_setCount_8 : decode cX3_setCount 8 = .ok (.aload_n 0, 1) := by decide +kernel
theorem dX3_setCount_9 : decode cX3_setCount 9 = .ok (.getfield 28, 3) := by decide +kernel
theorem dX3_setCount_12 : decode cX3_setCount 12 = .ok (.aload_n 0, 1) := by decide +kernel
theorem dX3_setCount_13 : decode cX3_setCount 13 = .ok (.getfield 17, 3) := by decide +kernel
theorem dX3_setCount_16 : decode cX3_setCount 16 = .ok (.arraylength, 1) := by decide +kernel
theorem dX3_setCount_17 : decode cX3_setCount 17 = .ok (.if_icmp .le 5, 3) := by decide +kernel
theorem dX3_setCount_20 : decode cX3_setCount 20 = .ok (.iconst 0, 1) := by decide +kernel
theorem dX3_setCount_21 : decode cX3_setCount 21 = .ok (.ireturn, 1) := by decide +kernel
theorem dX3_setCount_22 : decode cX3_setCount 22 = .ok (.aload_n 0, 1) := by decide +kernel
theorem dX3_setCount_23 : decode cX3_setCount 23 = .ok (.getfield 17, 3) := by decide +kernel
theorem dX3_setCount_26 : decode cX3_setCount 26 = .ok (.aload_n 0, 1) := by decide +kernel
theorem dX3_setCount_27 : decode cX3_setCount 27 = .ok (.getfield 28, 3) := by decide +kernel
theorem dX3_setCount_30 : decode cX3_setCount 30 = .ok (.iconst 1, 1) := by decide +kernel
theorem dX3_setCount_31 : decode cX3_setCount 31 = .ok (.isub, 1) := by decide +kernel
theorem dX3_setCount_32 : decode cX3_setCount 32 = .ok (.iload_n 1, 1) := by decide +kernel
theorem dX3_setCount_33 : decode cX3_setCount 33 = .ok (.iastore, 1) := by decide +kernel
theorem dX3_setCount_34 : decode cX3_setCount 34 = .ok (.iconst 1, 1) := by decide +kernel
theorem dX3_setCount_35 : decode cX3_setCount 35 = .ok (.ireturn, 1) := by decide +kernel
set_option maxRecDepth 20000 in
theorem ggX3_beginsToken_X3_digitAt : GoodIn wsX3_beginsToken wsX3_digitAt := goodIn_r _ [5, 6, 7, 8, 4, 9, 10, 11, 12, 13, 14, 15, 16] (by decide +kernel) (by decide +kernel)
set_option maxRecDepth 20000 in
theorem gX3_beginsToken_X3_digitAt : GoodIn wsX3_beginsToken (wsV RX3 58 RX3 yX3_digitAt wsX3_digitAt) := goodIn_app (goodIn_of _ (by decide +kernel)) ggX3_beginsToken_X3_digitAt
set_option maxRecDepth 20000 in
theorem ggX3_beginsToken_X3_characterAt : GoodIn wsX3_beginsToken wsX3_characterAt := goodIn_r _ [9, 10, 11, 12, 13, 14, 15, 16] (by decide +kernel) (by decide +kernel)
set_option maxRecDepth 20000 in
theorem gX3_beginsToken_X3_characterAt : GoodIn wsX3_beginsToken (wsV RX3 49 RX3 yX3_characterAt wsX3_characterAt) := goodIn_app (goodIn_of _ (by decide +kernel)) ggX3_beginsToken_X3_characterAt
theorem dX3_beginsToken_0 : decode cX3_beginsToken 0 = .ok (.aload_n 0, 1) := by decide +kernel
theorem dX3_beginsToken_1 : decode cX3_beginsToken 1 = .ok (.iload_n 1, 1) := by decide +kernel
theorem dX3_beginsToken_2 : decode cX3_beginsToken 2 = .ok (.invokevirtual 58, 3) := by decide +kernel
theorem dX3_beginsToken_5 : decode cX3_beginsToken 5 = .ok (.ifCond .lt 17, 3) := by decide +kernel
theorem dX3_beginsToken_8 : decode cX3_beginsToken 8 = .ok (.aload_n 0, 1) := by decide +kernel
theorem dX3_beginsToken_9 : decode cX3_beginsToken 9 = .ok (.iload_n 1, 1) := by decide +kernel
theorem dX3_beginsToken_10 : decode cX3_beginsToken 10 = .ok (.iconst 1, 1) := by decide +kernel
theorem dX3_beginsToken_11 : decode cX3_beginsToken 11 = .ok (.isub, 1) := by decide +kernel
theorem dX3_beginsToken_12 : decode cX3_beginsToken 12 = .ok (.invokevirtual 58, 3) := by decide +kernel
theorem dX3_beginsToken_15 : decode cX3_beginsToken 15 = .ok (.ifCond .lt 7, 3) := by decide +kernel
theorem dX3_beginsToken_18 : decode cX3_beginsToken 18 = .ok (.iconst 1, 1) := by decide +kernel
theorem dX3_beginsToken_19 : decode cX3_beginsToken 19 = .ok (.goto 4, 3) := by decide +kernel
theorem dX3_beginsToken_22 : decode cX3_beginsToken 22 = .ok (.iconst 0, 1) := by decide +kernel
theorem dX3_beginsToken_23 : decode cX3_beginsToken 23 = .ok (.istore_n 2, 1) := by decide +kernel
theorem dX3_beginsToken_24 : decode cX3_beginsToken 24 = .ok (.aload_n 0, 1) := by decide +kernel
theorem dX3_beginsToken_25 : decode cX3_beginsToken 25 = .ok (.iload_n 1, 1) := by decide +kernel
theorem dX3_beginsToken_26 : decode cX3_beginsToken 26 = .ok (.invokevirtual 49, 3) := by decide +kernel
theorem dX3_beginsToken_29 : decode cX3_beginsToken 29 = .ok (.bipush 32, 2) := by decide +kernel
theorem dX3_beginsToken_31 : decode cX3_beginsToken 31 = .ok (.if_icmp .eq 11, 3) := by decide +kernel
theorem dX3_beginsToken_34 : decode cX3_beginsToken 34 = .ok (.iload_n 2, 1) := by decide +kernel
theorem dX3_beginsToken_35 : decode cX3_beginsToken 35 = .ok (.ifCond .ne 7, 3) := by decide +kernel
theorem dX3_beginsToken_38 : decode cX3_beginsToken 38 = .ok (.iconst 1, 1) := by decide +kernel
theorem dX3_beginsToken_39 : decode cX3_beginsToken 39 = .ok (.goto 4, 3) := by decide +kernel
theorem dX3_beginsToken_42 : decode cX3_beginsToken 42 = .ok (.iconst 0, 1) := by decide +kernel
theorem dX3_beginsToken_43 : decode cX3_beginsToken 43 = .ok (.ireturn, 1) := by decide +kernel
set_option maxRecDepth 20000 in
theorem ggX3_numberAt_X3_digitAt : GoodIn wsX3_numberAt wsX3_digitAt := goodIn_r _ [5, 6, 7, 8, 4, 9, 10, 11, 12, 13, 14, 15, 16] (by decide +kernel) (by decide +kernel)
set_option maxRecDepth 20000 in
theorem gX3_numberAt_X3_digitAt : GoodIn wsX3_numberAt (wsV RX3 58 RX3 yX3_digitAt wsX3_digitAt) := goodIn_app (goodIn_of _ (by decide +kernel)) ggX3_numberAt_X3_digitAt
theorem dX3_numberAt_0 : decode cX3_numberAt 0 = .ok (.aload_n 0, 1) := by decide +kernel
theorem dX3_numberAt_1 : decode cX3_numberAt 1 = .ok (.iload_n 1, 1) := by decide +kernel
theorem dX3_numberAt_2 : decode cX3_numberAt 2 = .ok (.invokevirtual 58, 3) := by decide +kernel
theorem dX3_numberAt_5 : decode cX3_numberAt 5 = .ok (.istore_n 2, 1) := by decide +kernel
theorem dX3_numberAt_6 : decode cX3_numberAt 6 = .ok (.aload_n 0, 1) := by decide +kernel
theorem dX3_numberAt_7 : decode cX3_numberAt 7 = .ok (.iload_n 1, 1) := by decide +kernel
theorem dX3_numberAt_8 : decode cX3_numberAt 8 = .ok (.iconst 1, 1) := by decide +kernel
theorem dX3_numberAt_9 : decode cX3_numberAt 9 = .ok (.iadd, 1) := by decide +kernel
theorem dX3_numberAt_10 : decode cX3_numberAt 10 = .ok (.invokevirtual 58, 3) := by decide +kernel
theorem dX3_numberAt_13 : decode cX3_numberAt 13 = .ok (.istore_n 3, 1) := by decide +kernel
theorem dX3_numberAt_14 : decode cX3_numberAt 14 = .ok (.iload_n 2, 1) := by decide +kernel
theorem dX3_numberAt_15 : decode cX3_numberAt 15 = .ok (.ifCond .ge 5, 3) := by decide +kernel
theorem dX3_numberAt_18 : decode cX3_numberAt 18 = .ok (.iconst (-1), 1) := by decide +kernel
theorem dX3_numberAt_19 : decode cX3_numberAt 19 = .ok (.ireturn, 1) := by decide +kernel
theorem dX3_numberAt_20 : decode cX3_numberAt 20 = .ok (.iload_n 3, 1) := by decide +kernel
theorem dX3_numberAt_21 : decode cX3_numberAt 21 = .ok (.ifCond .ge 5, 3) := by decide +kernel
theorem dX3_numberAt_24 : decode cX3_numberAt 24 = .ok (.iload_n 2, 1) := by decide +kernel
theorem dX3_numberAt_25 : decode cX3_numberAt 25 = .ok (.ireturn, 1) := by decide +kernel
theorem dX3_numberAt_26 : decode cX3_numberAt 26 = .ok (.iload_n 2, 1) := by decide +kernel
theorem dX3_numberAt_27 : decode cX3_numberAt 27 = .ok (.ifCond .eq 13, 3) := by decide +kernel
theorem dX3_numberAt_30 : decode cX3_numberAt 30 = .ok (.aload_n 0, 1) := by decide +kernel
theorem dX3_numberAt_31 : decode cX3_numberAt 31 = .ok (.iload_n 1, 1) := by decide +kernel
theorem dX3_numberAt_32 : decode cX3_numberAt 32 = .ok (.iconst 2, 1) := by decide +kernel
theorem dX3_numberAt_33 : decode cX3_numberAt 33 = .ok (.iadd, 1) := by decide +kernel
theorem dX3_numberAt_34 : decode cX3_numberAt 34 = .ok (.invokevirtual 58, 3) := by decide +kernel
theorem dX3_numberAt_37 : decode cX3_numberAt 37 = .ok (.ifCond .lt 5, 3) := by decide +kernel
theorem dX3_numberAt_40 : decode cX3_numberAt 40 = .ok (.iconst (-1), 1) := by decide +kernel
theorem dX3_numberAt_41 : decode cX3_numberAt 41 = .ok (.ireturn, 1) := by decide +kernel
theorem dX3_numberAt_42 : decode cX3_numberAt 42 = .ok (.iload_n 2, 1) := by decide +kernel
theorem dX3_numberAt_43 : decode cX3_numberAt 43 = .ok (.bipush 10, 2) := by decide +kernel
theorem dX3_numberAt_45 : decode cX3_numberAt 45 = .ok (.imul, 1) := by decide +kernel
theorem dX3_numberAt_46 : decode cX3_numberAt 46 = .ok (.iload_n 3, 1) := by decide +kernel
theorem dX3_numberAt_47 : decode cX3_numberAt 47 = .ok (.iadd, 1) := by decide +kernel
theorem dX3_numberAt_48 : decode cX3_numberAt 48 = .ok (.ireturn, 1) := by decide +kernel
set_option maxRecDepth 20000 in
theorem ggX3_digitAt_X3_characterAt : GoodIn wsX3_digitAt wsX3_characterAt := goodIn_r _ [5, 6, 7, 8, 9, 10, 11, 12] (by decide +kernel) (by decide +kernel)
set_option maxRecDepth 20000 in
theorem gX3_digitAt_X3_characterAt : GoodIn wsX3_digitAt (wsV RX3 49 RX3 yX3_characterAt wsX3_characterAt) := goodIn_app (goodIn_of _ (by decide +kernel)) ggX3_digitAt_X3_characterAt
theorem dX3_digitAt_0 : decode cX3_digitAt 0 = .ok (.aload_n 0, 1) := by decide +kernel
theorem dX3_digitAt_1 : decode cX3_digitAt 1 = .ok (.iload_n 1, 1) := by decide +kernel
theorem dX3_digitAt_2 : decode cX3_digitAt 2 = .ok (.invokevirtual 49, 3) := by decide +kernel
theorem dX3_digitAt_5 : decode cX3_digitAt 5 = .ok (.istore_n 2, 1) := by decide +kernel
theorem dX3_digitAt_6 : decode cX3_digitAt 6 = .ok (.iload_n 2, 1) := by decide +kernel
theorem dX3_digitAt_7 : decode cX3_digitAt 7 = .ok (.bipush 48, 2) := by decide +kernel
theorem dX3_digitAt_9 : decode cX3_digitAt 9 = .ok (.if_icmp .lt 16, 3) := by decide +kernel
theorem dX3_digitAt_12 : decode cX3_digitAt 12 = .ok (.iload_n 2, 1) := by decide +kernel
theorem dX3_digitAt_13 : decode cX3_digitAt 13 = .ok (.bipush 57, 2) := by decide +kernel
theorem dX3_digitAt_15 : decode cX3_digitAt 15 = .ok (.if_icmp .gt 10, 3) := by decide +kernel
theorem dX3_digitAt_18 : decode cX3_digitAt 18 = .ok (.iload_n 2, 1) := by decide +kernel
theorem dX3_digitAt_19 : decode cX3_digitAt 19 = .ok (.bipush 48, 2) := by decide +kernel
theorem dX3_digitAt_21 : decode cX3_digitAt 21 = .ok (.isub, 1) := by decide +kernel
theorem dX3_digitAt_22 : decode cX3_digitAt 22 = .ok (.goto 4, 3) := by decide +kernel
theorem dX3_digitAt_25 : decode cX3_digitAt 25 = .ok (.iconst (-1), 1) := by decide +kernel
theorem dX3_digitAt_26 : decode cX3_digitAt 26 = .ok (.ireturn, 1) := by decide +kernel
theorem dX3_characterAt_0 : decode cX3_characterAt 0 = .ok (.iload_n 1, 1) := by decide +kernel
theorem dX3_characterAt_1 : decode cX3_characterAt 1 = .ok (.ifCond .lt 29, 3) := by decide +kernel
theorem dX3_characterAt_4 : decode cX3_characterAt 4 = .ok (.iload_n 1, 1) := by decide +kernel
theorem dX3_characterAt_5 : decode cX3_characterAt 5 = .ok (.aload_n 0, 1) := by decide +kernel
theorem dX3_characterAt_6 : decode cX3_characterAt 6 = .ok (.getfield 20, 3) := by decide +kernel
theorem dX3_characterAt_9 : decode cX3_characterAt 9 = .ok (.if_icmp .ge 21, 3) := by decide +kernel
theorem dX3_characterAt_12 : decode cX3_characterAt 12 = .ok (.iload_n 1, 1) := by decide +kernel
theorem dX3_characterAt_13 : decode cX3_characterAt 13 = .ok (.aload_n 0, 1) := by decide +kernel
theorem dX3_characterAt_14 : decode cX3_characterAt 14 = .ok (.getfield 9, 3) := by decide +kernel
theorem dX3_characterAt_17 : decode cX3_characterAt 17 = .ok (.arraylength, 1) := by decide +kernel
theorem dX3_characterAt_18 : decode cX3_characterAt 18 = .ok (.if_icmp .ge 12, 3) := by decide +kernel
theorem dX3_characterAt_21 : decode cX3_characterAt 21 = .ok (.aload_n 0, 1) := by decide +kernel
theorem dX3_characterAt_22 : decode cX3_characterAt 22 = .ok (.getfield 9, 3) := by decide +kernel
theorem dX3_characterAt_25 : decode cX3_characterAt 25 = .ok (.iload_n 1, 1) := by decide +kernel
theorem dX3_characterAt_26 : decode cX3_characterAt 26 = .ok (.caload, 1) := by decide +kernel
theorem dX3_characterAt_27 : decode cX3_characterAt 27 = .ok (.goto 4, 3) := by decide +kernel
theorem dX3_characterAt_30 : decode cX3_characterAt 30 = .ok (.iconst (-1), 1) := by decide +kernel
theorem dX3_characterAt_31 : decode cX3_characterAt 31 = .ok (.ireturn, 1) := by decide +kernel
theorem dX4_init_0 : decode cX4_init 0 = .ok (.aload_n 0, 1) := by decide +kernel
theorem dX4_init_1 : decode cX4_init 1 = .ok (.invokespecial 3, 3) := by decide +kernel
theorem dX4_init_4 : decode cX4_init 4 = .ok (.return_, 1) := by decide +kernel
set_option maxRecDepth 20000 in
theorem ggX4_begin_X1_withOneMore : GoodIn wsX4_begin wsX1_withOneMore := goodIn_r _ [12] (by decide +kernel) (by decide +kernel)
set_option maxRecDepth 20000 in
theorem gX4_begin_X1_withOneMore : GoodIn wsX4_begin (va_wsS RX4 37 yX1_withOneMore wsX1_withOneMore) := goodIn_app (goodIn_of _ (by decide +kernel)) ggX4_begin_X1_withOneMore
theorem dX4_begin_0 : decode cX4_begin 0 = .ok (.aload_n 0, 1) := by decide +kernel
theorem dX4_begin_1 : decode cX4_begin 1 = .ok (.iload_n 1, 1) := by decide +kernel
theorem dX4_begin_2 : decode cX4_begin 2 = .ok (.putfield 9, 3) := by decide +kernel
theorem dX4_begin_5 : decode cX4_begin 5 = .ok (.aload_n 0, 1) := by decide +kernel
theorem dX4_begin_6 : decode cX4_begin 6 = .ok (.iload_n 2, 1) := by decide +kernel
theorem dX4_begin_7 : decode cX4_begin 7 = .ok (.putfield 15, 3) := by decide +kernel
theorem dX4_begin_10 : decode cX4_begin 10 = .ok (.aload_n 0, 1) := by decide +kernel
theorem dX4_begin_11 : decode cX4_begin 11 = .ok (.iload_n 3, 1) := by decide +kernel
theorem dX4_begin_12 : decode cX4_begin 12 = .ok (.putfield 18, 3) := by decide +kernel
theorem dX4_begin_15 : decode cX4_begin 15 = .ok (.aload_n 0, 1) := by decide +kernel
theorem dX4_begin_16 : decode cX4_begin 16 = .ok (.lconst 0, 1) := by decide +kernel
theorem dX4_begin_17 : decode cX4_begin 17 = .ok (.putfield 21, 3) := by decide +kernel
theorem dX4_begin_20 : decode cX4_begin 20 = .ok (.aload_n 0, 1) := by decide +kernel
theorem dX4_begin_21 : decode cX4_begin 21 = .ok (.lconst 0, 1) := by decide +kernel
theorem dX4_begin_22 : decode cX4_begin 22 = .ok (.putfield 25, 3) := by decide +kernel
theorem dX4_begin_25 : decode cX4_begin 25 = .ok (.aload_n 0, 1) := by decide +kernel
theorem dX4_begin_26 : decode cX4_begin 26 = .ok (.lconst 0, 1) := by decide +kernel
theorem dX4_begin_27 : decode cX4_begin 27 = .ok (.putfield 28, 3) := by decide +kernel
theorem dX4_begin_30 : decode cX4_begin 30 = .ok (.aload_n 0, 1) := by decide +kernel
theorem dX4_begin_31 : decode cX4_begin 31 = .ok (.lconst 0, 1) := by decide +kernel
theorem dX4_begin_32 : decode cX4_begin 32 = .ok (.putfield 31, 3) := by decide +kernel
theorem dX4_begin_35 : decode cX4_begin 35 = .ok (.aload_n 0, 1) := by decide +kernel
theorem dX4_begin_36 : decode cX4_begin 36 = .ok (.lconst 0, 1) := by decide +kernel
theorem dX4_begin_37 : decode cX4_begin 37 = .ok (.putfield 34, 3) := by decide +kernel
theorem dX4_begin_40 : decode cX4_begin 40 = .ok (.iconst 0, 1) := by decide +kernel
theorem dX4_begin_41 : decode cX4_begin 41 = .ok (.istore 4, 2) := by decide +kernel
theorem dX4_begin_43 : decode cX4_begin 43 = .ok (.iload 4, 2) := by decide +kernel
theorem dX4_begin_45 : decode cX4_begin 45 = .ok (.aload_n 0, 1) := by decide +kernel
theorem dX4_begin_46 : decode cX4_begin 46 = .ok (.getfield 15, 3) := by decide +kernel
theorem dX4_begin_49 : decode cX4_begin 49 = .ok (.if_icmp .ge 21, 3) := by decide +kernel
theorem dX4_begin_52 : decode cX4_begin 52 = .ok (.aload_n 0, 1) := by decide +kernel
theorem dX4_begin_53 : decode cX4_begin 53 = .ok (.aload_n 0, 1) := by decide +kernel
theorem dX4_begin_54 : decode cX4_begin 54 = .ok (.getfield 28, 3) := by decide +kernel
theorem dX4_begin_57 : decode cX4_begin 57 = .ok (.iconst 0, 1) := by decide +kernel
theorem dX4_begin_58 : decode cX4_begin 58 = .ok (.invokestatic 37, 3) := by decide +kernel
theorem dX4_begin_61 : decode cX4_begin 61 = .ok (.putfield 28, 3) := by decide +kernel
theorem dX4_begin_64 : decode cX4_begin 64 = .ok (.iinc 4 1, 3) := by decide +kernel
theorem dX4_begin_67 : decode cX4_begin 67 = .ok (.goto (-24), 3) := by decide +kernel
theorem dX4_begin_70 : decode cX4_begin 70 = .ok (.return_, 1) := by decide +kernel
theorem dX4_copyFrom_0 : decode cX4_copyFrom 0 = .ok (.aload_n 0, 1) := by decide +kernel
theorem dX4_copyFrom_1 : decode cX4_copyFrom 1 = .ok (.aload_n 1, 1) := by decide +kernel
theorem dX4_copyFrom_2 : decode cX4_copyFrom 2 = .ok (.getfield 9, 3) := by decide +kernel
theorem dX4_copyFrom_5 : decode cX4_copyFrom 5 = .ok (.putfield 9, 3) := by decide +kernel
theorem dX4_copyFrom_8 : decode cX4_copyFrom 8 = .ok (.aload_n 0, 1) := by decide +kernel
theorem dX4_copyFrom_9 : decode cX4_copyFrom 9 = .ok (.aload_n 1, 1) := by decide +kernel
theorem dX4_copyFrom_10 : decode cX4_copyFrom 10 = .ok (.getfield 15, 3) := by decide +kernel
theorem dX4_copyFrom_13 : decode cX4_copyFrom 13 = .ok (.putfield 15, 3) := by decide +kernel
theorem dX4_copyFrom_16 : decode cX4_copyFrom 16 = .ok (.aload_n 0, 1) := by decide +kernel
theorem dX4_copyFrom_17 : decode cX4_copyFrom 17 = .ok (.aload_n 1, 1) := by decide +kernel
theorem dX4_copyFrom_18 : decode cX4_copyFrom 18 = .ok (.getfield 18, 3) := by decide +kernel
theorem dX4_copyFrom_21 : decode cX4_copyFrom 21 = .ok (.putfield 18, 3) := by decide +kernel
theorem dX4_copyFrom_24 : decode cX4_copyFrom 24 = .ok (.aload_n 0, 1) := by decide +kernel
theorem dX4_copyFrom_25 : decode cX4_copyFrom 25 = .ok (.aload_n 1, 1) := by decide +kernel
theorem dX4_copyFrom_26 : decode cX4_copyFrom 26 = .ok (.getfield 21, 3) := by decide +kernel
theorem dX4_copyFrom_29 : decode cX4_copyFrom 29 = .ok (.putfield 21, 3) := by decide +kernel
theorem dX4_copyFrom_32 : decode cX4_copyFrom 32 = .ok (.aload_n 0, 1) := by decide +kernel
theorem dX4_copyFrom_33 : decode cX4_copyFrom 33 = .ok (.aload_n 1, 1) := by decide +kernel
theorem dX4_copyFrom_34 : decode cX4_copyFrom 34 = .ok (.getfield 25, 3) := by decide +kernel
theorem dX4_copyFrom_37 : decode cX4_copyFrom 37 = .ok (.putfield 25, 3) := by decide +kernel
theorem dX4_copyFrom_40 : decode cX4_copyFrom 40 = .ok (.aload_n 0, 1) := by decide +kernel
theorem dX4_copyFrom_41 : decode cX4_copyFrom 41 = .ok (.aload_n 1, 1) := by decide +kernel
theorem dX4_copyFrom_42 : decode cX4_copyFrom 42 = .ok (.getfield 28, 3) := by decide +kernel
theorem dX4_copyFrom_45 : decode cX4_copyFrom 45 = .ok (.putfield 28, 3) := by decide +kernel
theorem dX4_copyFrom_48 : decode cX4_copyFrom 48 = .ok (.aload_n 0, 1) := by decide +kernel
theorem dX4_copyFrom_49 : decode cX4_copyFrom 49 = .ok (.aload_n 1, 1) := by decide +kernel
theorem dX4_copyFrom_50 : decode cX4_copyFrom 50 = .ok (.getfield 31, 3) := by decide +kernel
theorem dX4_copyFrom_53 : decode cX4_copyFrom 53 = .ok (.putfield 31, 3) := by decide +kernel
theorem dX4_copyFrom_56 : decode cX4_copyFrom 56 = .ok (.aload_n 0, 1) := by decide +kernel
theorem dX4_copyFrom_57 : decode cX4_copyFrom 57 = .ok (.aload_n 1, 1) := by decide +kernel
theorem dX4_copyFrom_58 : decode cX4_copyFrom 58 = .ok (.getfield 34, 3) := by decide +kernel
theorem dX4_copyFrom_61 : decode cX4_copyFrom 61 = .ok (.putfield 34, 3) := by decide +kernel
theorem dX4_copyFrom_64 : decode cX4_copyFrom 64 = .ok (.return_, 1) := by decide +kernel
theorem dX4_names_0 : decode cX4_names 0 = .ok (.aload_n 0, 1) := by decide +kernel
theorem dX4_names_1 : decode cX4_names 1 = .ok (.getfield 9, 3) := by decide +kernel
theorem dX4_names_4 : decode cX4_names 4 = .ok (.aload_n 0, 1) := by decide +kernel
theorem dX4_names_5 : decode cX4_names 5 = .ok (.getfield 9, 3) := by decide +kernel
theorem dX4_names_8 : decode cX4_names 8 = .ok (.iconst 1, 1) := by decide +kernel
theorem dX4_names_9 : decode cX4_names 9 = .ok (.iadd, 1) := by decide +kernel
theorem dX4_names_10 : decode cX4_names 10 = .ok (.imul, 1) := by decide +kernel
theorem dX4_names_11 : decode cX4_names 11 = .ok (.iconst 2, 1) := by decide +kernel
theorem dX4_names_12 : decode cX4_names 12 = .ok (.idiv, 1) := by decide +kernel
theorem dX4_names_13 : decode cX4_names 13 = .ok (.ireturn, 1) := by decide +kernel
theorem dX4_hasProcess_0 : decode cX4_hasProcess 0 = .ok (.iload_n 1, 1) := by decide +kernel
theorem dX4_hasProcess_1 : decode cX4_hasProcess 1 = .ok (.ifCond .lt 15, 3) := by decide +kernel
theorem dX4_hasProcess_4 : decode cX4_hasProcess 4 = .ok (.iload_n 1, 1) := by decide +kernel
theorem dX4_hasProcess_5 : decode cX4_hasProcess 5 = .ok (.aload_n 0, 1) := by decide +kernel
theorem dX4_hasProcess_6 : decode cX4_hasProcess 6 = .ok (.getfield 15, 3) := by decide +kernel
theorem dX4_hasProcess_9 : decode cX4_hasProcess 9 = .ok (.if_icmp .ge 7, 3) := by decide +kernel
theorem dX4_hasProcess_12 : decode cX4_hasProcess 12 = .ok (.iconst 1, 1) := by decide +kernel
theorem dX4_hasProcess_13 : decode cX4_hasProcess 13 = .ok (.goto 4, 3) := by decide +kernel
theorem dX4_hasProcess_16 : decode cX4_hasProcess 16 = .ok (.iconst 0, 1) := by decide +kernel
theorem dX4_hasProcess_17 : decode cX4_hasProcess 17 = .ok (.ireturn, 1) := by decide +kernel
set_option maxRecDepth 20000 in
theorem ggX4_hasSplitter_X4_names : GoodIn wsX4_hasSplitter wsX4_names := goodIn_r _ [5, 6, 7, 8, 9, 10, 11, 12, 13, 14] (by decide +kernel) (by decide +kernel)
set_option maxRecDepth 20000 in
theorem gX4_hasSplitter_X4_names : GoodIn wsX4_hasSplitter (wsV RX4 43 RX4 yX4_names wsX4_names) := goodIn_app (goodIn_of _ (by decide +kernel)) ggX4_hasSplitter_X4_names
theorem dX4_hasSplitter_0 : decode cX4_hasSplitter 0 = .ok (.iload_n 1, 1) := by decide +kernel
theorem dX4_hasSplitter_1 : decode cX4_hasSplitter 1 = .ok (.ifCond .lt 15, 3) := by decide +kernel
theorem dX4_hasSplitter_4 : decode cX4_hasSplitter 4 = .ok (.iload_n 1, 1) := by decide +kernel
theorem dX4_hasSplitter_5 : decode cX4_hasSplitter 5 = .ok (.aload_n 0, 1) := by decide +kernel
theorem dX4_hasSplitter_6 : decode cX4_hasSplitter 6 = .ok (.invokevirtual 43, 3) := by decide +kernel
theorem dX4_hasSplitter_9 : decode cX4_hasSplitter 9 = .ok (.if_icmp .ge 7, 3) := by decide +kernel
theorem dX4_hasSplitter_12 : decode cX4_hasSplitter 12 = .ok (.iconst 1, 1) := by decide +kernel
theorem dX4_hasSplitter_13 : decode cX4_hasSplitter 13 = .ok (.goto 4, 3) := by decide +kernel
theorem dX4_hasSplitter_16 : decode cX4_hasSplitter 16 = .ok (.iconst 0, 1) := by decide +kernel
theorem dX4_hasSplitter_17 : decode cX4_hasSplitter 17 = .ok (.ireturn, 1) := by decide +kernel
set_option maxRecDepth 20000 in
theorem ggX4_isRunning_X0_statusIn : GoodIn wsX4_isRunning wsX0_statusIn := goodIn_r _ [5] (by decide +kernel) (by decide +kernel)
set_option maxRecDepth 20000 in
theorem gX4_isRunning_X0_statusIn : GoodIn wsX4_isRunning (va_wsS RX4 47 yX0_statusIn wsX0_statusIn) := goodIn_app (goodIn_of _ (by decide +kernel)) ggX4_isRunning_X0_statusIn
theorem dX4_isRunning_0 : decode cX4_isRunning 0 = .ok (.aload_n 0, 1) := by decide +kernel
theorem dX4_isRunning_1 : decode cX4_isRunning 1 = .ok (.getfield 21, 3) := by decide +kernel
theorem dX4_isRunning_4 : decode cX4_isRunning 4 = .ok (.iload_n 1, 1) := by decide +kernel
theorem dX4_isRunning_5 : decode cX4_isRunning 5 = .ok (.invokestatic 47, 3) := by decide +kernel
theorem dX4_isRunning_8 : decode cX4_isRunning 8 = .ok (.ifCond .ne 7, 3) := by decide +kernel
theorem dX4_isRunning_11 : decode cX4_isRunning 11 = .ok (.iconst 1, 1) := by decide +kernel
theorem dX4_isRunning_12 : decode cX4_isRunning 12 = .ok (.goto 4, 3) := by decide +kernel
theorem dX4_isRunning_15 : decode cX4_isRunning 15 = .ok (.iconst 0, 1) := by decide +kernel
theorem dX4_isRunning_16 : decode cX4_isRunning 16 = .ok (.ireturn, 1) := by decide +kernel
set_option maxRecDepth 20000 in
theorem ggX4_countRunning_X4_isRunning : GoodIn wsX4_countRunning wsX4_isRunning := goodIn_r _ [6, 7, 8, 9, 10, 11, 12, 13, 14, 15, 16, 17, 18, 19] (by decide +kernel) (by decide +kernel)
set_option maxRecDepth 20000 in
theorem gX4_countRunning_X4_isRunning : GoodIn wsX4_countRunning (wsV RX4 53 RX4 yX4_isRunning wsX4_isRunning) := goodIn_app (goodIn_of _ (by decide +kernel)) ggX4_countRunning_X4_isRunning
theorem dX4_countRunning_0 : decode cX4_countRunning 0 = .ok (.iconst 0, 1) := by decide +kernel
theorem dX4_countRunning_1 : decode cX4_countRunning 1 = .ok (.istore_n 1, 1) := by decide +kernel
theorem dX4_countRunning_2 : decode cX4_countRunning 2 = .ok (.iconst 0, 1) := by decide +kernel
theorem dX4_countRunning_3 : decode cX4_countRunning 3 = .ok (.istore_n 2, 1) := by decide +kernel
theorem dX4_countRunning_4 : decode cX4_countRunning 4 = .ok (.iload_n 2, 1) := by decide +kernel
theorem dX4_countRunning_5 : decode cX4_countRunning 5 = .ok (.aload_n 0, 1) := by decide +kernel
theorem dX4_countRunning_6 : decode cX4_countRunning 6 = .ok (.getfield 15, 3) := by decide +kernel
theorem dX4_countRunning_9 : decode cX4_countRunning 9 = .ok (.if_icmp .ge 20, 3) := by decide +kernel
theorem dX4_countRunning_12 : decode cX4_countRunning 12 = .ok (.aload_n 0, 1) := by decide +kernel
theorem dX4_countRunning_13 : decode cX4_countRunning 13 = .ok (.iload_n 2, 1) := by decide +kernel
theorem dX4_countRunning_14 : decode cX4_countRunning 14 = .ok (.invokevirtual 53, 3) := by decide +kernel
theorem dX4_countRunning_17 : decode cX4_countRunning 17 = .ok (.ifCond .eq 6, 3) := by decide +kernel
theorem dX4_countRunning_20 : decode cX4_countRunning 20 = .ok (.iinc 1 1, 3) := by decide +kernel
theorem dX4_countRunning_23 : decode cX4_countRunning 23 = .ok (.iinc 2 1, 3) := by decide +kernel
theorem dX4_countRunning_26 : decode cX4_countRunning 26 = .ok (.goto (-22), 3) := by decide +kernel
theorem dX4_countRunning_29 : decode cX4_countRunning 29 = .ok (.iload_n 1, 1) := by decide +kernel
theorem dX4_countRunning_30 : decode cX4_countRunning 30 = .ok (.ireturn, 1) := by decide +kernel
set_option maxRecDepth 20000 in
theorem ggX4_markCrashed_X0_withStatus : GoodIn wsX4_markCrashed wsX0_withStatus := goodIn_r _ [5, 6, 7] (by decide +kernel) (by decide +kernel)
set_option maxRecDepth 20000 in
theorem gX4_markCrashed_X0_withStatus : GoodIn wsX4_markCrashed (va_wsS RX4 57 yX0_withStatus wsX0_withStatus) := goodIn_app (goodIn_of _ (by decide +kernel)) ggX4_markCrashed_X0_withStatus
theorem dX4_markCrashed_0 : decode cX4_markCrashed 0 = .ok (.aload_n 0, 1) := by decide +kernel
theorem dX4_markCrashed_1 : decode cX4_markCrashed 1 = .ok (.aload_n 0, 1) := by decide +kernel
theorem dX4_markCrashed_2 : decode cX4_markCrashed 2 = .ok (.getfield 21, 3) := by decide +kernel
theorem dX4_markCrashed_5 : decode cX4_markCrashed 5 = .ok (.iload_n 1, 1) := by decide +kernel
theorem dX4_markCrashed_6 : decode cX4_markCrashed 6 = .ok (.iconst 3, 1) := by decide +kernel
theorem dX4_markCrashed_7 : decode cX4_markCrashed 7 = .ok (.invokestatic 57, 3) := by decide +kernel
theorem dX4_markCrashed_10 : decode cX4_markCrashed 10 = .ok (.putfield 21, 3) := by decide +kernel
theorem dX4_markCrashed_13 : decode cX4_markCrashed 13 = .ok (.return_, 1) := by decide +kernel
set_option maxRecDepth 20000 in
theorem ggX4_advance_X0_afterStep : GoodIn wsX4_advance wsX0_afterStep := goodIn_r _ [9, 10, 11, 8, 12, 13, 14, 15, 16, 17, 18, 19, 20, 21, 22, 23, 24, 25, 26, 27, 28, 29, 30, 31, 32, 33, 34, 35, 36, 37, 38, 39, 40, 41, 42, 43, 44, 45, 46] (by decide +kernel) (by decide +kernel)
set_option maxRecDepth 20000 in
theorem gX4_advance_X0_afterStep : GoodIn wsX4_advance (va_wsS RX4 61 yX0_afterStep wsX0_afterStep) := goodIn_app (goodIn_of _ (by decide +kernel)) ggX4_advance_X0_afterStep
set_option maxRecDepth 20000 in
theorem ggX4_advance_X1_withOneMore : GoodIn wsX4_advance wsX1_withOneMore := goodIn_r _ [50] (by decide +kernel) (by decide +kernel)
set_option maxRecDepth 20000 in
theorem gX4_advance_X1_withOneMore : GoodIn wsX4_advance (va_wsS RX4 37 yX1_withOneMore wsX1_withOneMore) := goodIn_app (goodIn_of _ (by decide +kernel)) ggX4_advance_X1_withOneMore
set_option maxRecDepth 20000 in
theorem ggX4_advance_X0_statusIn : GoodIn wsX4_advance wsX0_statusIn := goodIn_r _ [53] (by decide +kernel) (by decide +kernel)
set_option maxRecDepth 20000 in
theorem gX4_advance_X0_statusIn : GoodIn wsX4_advance (va_wsS RX4 47 yX0_statusIn wsX0_statusIn) := goodIn_app (goodIn_of _ (by decide +kernel)) ggX4_advance_X0_statusIn
set_option maxRecDepth 20000 in
theorem ggX4_advance_X0_splitterIn : GoodIn wsX4_advance wsX0_splitterIn := goodIn_r _ [12] (by decide +kernel) (by decide +kernel)
set_option maxRecDepth 20000 in
theorem gX4_advance_X0_splitterIn : GoodIn wsX4_advance (va_wsS RX4 65 yX0_splitterIn wsX0_splitterIn) := goodIn_app (goodIn_of _ (by decide +kernel)) ggX4_advance_X0_splitterIn
set_option maxRecDepth 20000 in
theorem ggX4_advance_X0_phaseIn : GoodIn wsX4_advance wsX0_phaseIn := goodIn_r _ [15] (by decide +kernel) (by decide +kernel)
set_option maxRecDepth 20000 in
theorem gX4_advance_X0_phaseIn : GoodIn wsX4_advance (va_wsS RX4 68 yX0_phaseIn wsX0_phaseIn) := goodIn_app (goodIn_of _ (by decide +kernel)) ggX4_advance_X0_phaseIn
set_option maxRecDepth 20000 in
theorem ggX4_advance_X4_countExit : GoodIn wsX4_advance wsX4_countExit := goodIn_r _ [60, 61, 62, 47, 48, 49, 50, 63, 64, 65, 66, 67, 68, 69, 70] (by decide +kernel) (by decide +kernel)
set_option maxRecDepth 20000 in
theorem gX4_advance_X4_countExit : GoodIn wsX4_advance (wsV RX4 71 RX4 yX4_countExit wsX4_countExit) := goodIn_app (goodIn_of _ (by decide +kernel)) ggX4_advance_X4_countExit
theorem dX4_advance_0 : decode cX4_advance 0 = .ok (.aload_n 0, 1) := by decide +kernel
theorem dX4_advance_1 : decode cX4_advance 1 = .ok (.getfield 21, 3) := by decide +kernel
theorem dX4_advance_4 : decode cX4_advance 4 = .ok (.lstore_n 2, 1) := by decide +kernel
theorem dX4_advance_5 : decode cX4_advance 5 = .ok (.aload_n 0, 1) := by decide +kernel
theorem dX4_advance_6 : decode cX4_advance 6 = .ok (.lload_n 2, 1) := by decide +kernel
theorem dX4_advance_7 : decode cX4_advance 7 = .ok (.iload_n 1, 1) := by decide +kernel
theorem dX4_advance_8 : decode cX4_advance 8 = .ok (.aload_n 0, 1) := by decide +kernel
theorem dX4_advance_9 : decode cX4_advance 9 = .ok (.getfield 9, 3) := by decide +kernel
theorem dX4_advance_12 : decode cX4_advance 12 = .ok (.aload_n 0, 1) := by decide +kernel
theorem dX4_advance_13 : decode cX4_advance 13 = .ok (.getfield 18, 3) := by decide +kernel
theorem dX4_advance_16 : decode cX4_advance 16 = .ok (.invokestatic 61, 3) := by decide +kernel
theorem dX4_advance_19 : decode cX4_advance 19 = .ok (.putfield 21, 3) := by decide +kernel
theorem dX4_advance_22 : decode cX4_advance 22 = .ok (.aload_n 0, 1) := by decide +kernel
theorem dX4_advance_23 : decode cX4_advance 23 = .ok (.aload_n 0, 1) := by decide +kernel
theorem dX4_advance_24 : decode cX4_advance 24 = .ok (.getfield 25, 3) := by decide +kernel
theorem dX4_advance_27 : decode cX4_advance 27 = .ok (.iload_n 1, 1) := by decide +kernel
theorem dX4_advance_28 : decode cX4_advance 28 = .ok (.invokestatic 37, 3) := by decide +kernel
theorem dX4_advance_31 : decode cX4_advance 31 = .ok (.putfield 25, 3) := by decide +kernel
theorem dX4_advance_34 : decode cX4_advance 34 = .ok (.aload_n 0, 1) := by decide +kernel
theorem dX4_advance_35 : decode cX4_advance 35 = .ok (.getfield 21, 3) := by decide +kernel
theorem dX4_advance_38 : decode cX4_advance 38 = .ok (.iload_n 1, 1) := by decide +kernel
theorem dX4_advance_39 : decode cX4_advance 39 = .ok (.invokestatic 47, 3) := by decide +kernel
theorem dX4_advance_42 : decode cX4_advance 42 = .ok (.istore 4, 2) := by decide +kernel
theorem dX4_advance_44 : decode cX4_advance 44 = .ok (.iload 4, 2) := by decide +kernel
theorem dX4_advance_46 : decode cX4_advance 46 = .ok (.iconst 1, 1) := by decide +kernel
theorem dX4_advance_47 : decode cX4_advance 47 = .ok (.if_icmp .ne 5, 3) := by decide +kernel
theorem dX4_advance_50 : decode cX4_advance 50 = .ok (.iconst 1, 1) := by decide +kernel
theorem dX4_advance_51 : decode cX4_advance 51 = .ok (.ireturn, 1) := by decide +kernel
theorem dX4_advance_52 : decode cX4_advance 52 = .ok (.lload_n 2, 1) := by decide +kernel
theorem dX4_advance_53 : decode cX4_advance 53 = .ok (.iload_n 1, 1) := by decide +kernel
theorem dX4_advance_54 : decode cX4_advance 54 = .ok (.invokestatic 65, 3) := by decide +kernel
theorem dX4_advance_57 : decode cX4_advance 57 = .ok (.istore 5, 2) := by decide +kernel
theorem dX4_advance_59 : decode cX4_advance 59 = .ok (.aload_n 0, 1) := by decide +kernel
theorem dX4_advance_60 : decode cX4_advance 60 = .ok (.getfield 21, 3) := by decide +kernel
theorem dX4_advance_63 : decode cX4_advance 63 = .ok (.iload_n 1, 1) := by decide +kernel
theorem dX4_advance_64 : decode cX4_advance 64 = .ok (.invokestatic 65, 3) := by decide +kernel
theorem dX4_advance_67 : decode cX4_advance 67 = .ok (.istore 6, 2) := by decide +kernel
theorem dX4_advance_69 : decode cX4_advance 69 = .ok (.iload 4, 2) := by decide +kernel
theorem dX4_advance_71 : decode cX4_advance 71 = .ok (.ifCond .ne 12, 3) := by decide +kernel
theorem dX4_advance_74 : decode cX4_advance 74 = .ok (.iload 6, 2) := by decide +kernel
theorem dX4_advance_76 : decode cX4_advance 76 = .ok (.iload 5, 2) := by decide +kernel
theorem dX4_advance_78 : decode cX4_advance 78 = .ok (.if_icmp .ne 5, 3) := by decide +kernel
theorem dX4_advance_81 : decode cX4_advance 81 = .ok (.iconst 0, 1) := by decide +kernel
theorem dX4_advance_82 : decode cX4_advance 82 = .ok (.ireturn, 1) := by decide +kernel
theorem dX4_advance_83 : decode cX4_advance 83 = .ok (.lload_n 2, 1) := by decide +kernel
theorem dX4_advance_84 : decode cX4_advance 84 = .ok (.iload_n 1, 1) := by decide +kernel
theorem dX4_advance_85 : decode cX4_advance 85 = .ok (.invokestatic 68, 3) := by decide +kernel
theorem dX4_advance_88 : decode cX4_advance 88 = .ok (.iconst 1, 1) := by decide +kernel
theorem dX4_advance_89 : decode cX4_advance 89 = .ok (.if_icmp .ne 7, 3) := by decide +kernel
theorem dX4_advance_92 : decode cX4_advance 92 = .ok (.iconst 1, 1) := by decide +kernel
theorem dX4_advance_93 : decode cX4_advance 93 = .ok (.goto 4, 3) := by decide +kernel
theorem dX4_advance_96 : decode cX4_advance 96 = .ok (.iconst 0, 1) := by decide +kernel
theorem dX4_advance_97 : decode cX4_advance 97 = .ok (.istore 7, 2) := by decide +kernel
theorem dX4_advance_99 : decode cX4_advance 99 = .ok (.aload_n 0, 1) := by decide +kernel
theorem dX4_advance_100 : decode cX4_advance 100 = .ok (.iload 5, 2) := by decide +kernel
theorem dX4_advance_102 : decode cX4_advance 102 = .ok (.iload 7, 2) := by decide +kernel
theorem dX4_advance_104 : decode cX4_advance 104 = .ok (.invokevirtual 71, 3) := by decide +kernel
theorem dX4_advance_107 : decode cX4_advance 107 = .ok (.iload 4, 2) := by decide +kernel
theorem dX4_advance_109 : decode cX4_advance 109 = .ok (.iconst 2, 1) := by decide +kernel
theorem dX4_advance_110 : decode cX4_advance 110 = .ok (.if_icmp .ne 5, 3) := by decide +kernel
theorem dX4_advance_113 : decode cX4_advance 113 = .ok (.iconst 4, 1) := by decide +kernel
theorem dX4_advance_114 : decode cX4_advance 114 = .ok (.ireturn, 1) := by decide +kernel
theorem dX4_advance_115 : decode cX4_advance 115 = .ok (.aload_n 0, 1) := by decide +kernel
theorem dX4_advance_116 : decode cX4_advance 116 = .ok (.aload_n 0, 1) := by decide +kernel
theorem dX4_advance_117 : decode cX4_advance 117 = .ok (.getfield 28, 3) := by decide +kernel
theorem dX4_advance_120 : decode cX4_advance 120 = .ok (.iload 6, 2) := by decide +kernel
theorem dX4_advance_122 : decode cX4_advance 122 = .ok (.invokestatic 37, 3) := by decide +kernel
theorem dX4_advance_125 : decode cX4_advance 125 = .ok (.putfield 28, 3) := by decide +kernel
theorem dX4_advance_128 : decode cX4_advance 128 = .ok (.iload 7, 2) := by decide +kernel
theorem dX4_advance_130 : decode cX4_advance 130 = .ok (.ifCond .eq 7, 3) := by decide +kernel
theorem dX4_advance_133 : decode cX4_advance 133 = .ok (.iconst 2, 1) := by decide +kernel
theorem dX4_advance_134 : decode cX4_advance 134 = .ok (.goto 4, 3) := by decide +kernel
theorem dX4_advance_137 : decode cX4_advance 137 = .ok (.iconst 3, 1) := by decide +kernel
theorem dX4_advance_138 : decode cX4_advance 138 = .ok (.ireturn, 1) := by decide +kernel
set_option maxRecDepth 20000 in
theorem ggX4_advanceUpTo_X4_isRunning : GoodIn wsX4_advanceUpTo wsX4_isRunning := goodIn_r _ [5, 6, 7, 8, 9, 10, 71, 72, 73, 74, 75, 76, 77, 78] (by decide +kernel) (by decide +kernel)
set_option maxRecDepth 20000 in
theorem gX4_advanceUpTo_X4_isRunning : GoodIn wsX4_advanceUpTo (wsV RX4 53 RX4 yX4_isRunning wsX4_isRunning) := goodIn_app (goodIn_of _ (by decide +kernel)) ggX4_advanceUpTo_X4_isRunning
set_option maxRecDepth 20000 in
theorem ggX4_advanceUpTo_X4_advance : GoodIn wsX4_advanceUpTo wsX4_advance := goodIn_r _ [14, 6, 15, 16, 17, 18, 19, 20, 9, 21, 22, 23, 24, 25, 26, 27, 28, 29, 30, 31, 32, 33, 34, 35, 36, 37, 38, 39, 40, 41, 42, 43, 44, 45, 46, 47, 48, 49, 50, 51, 52, 53, 54, 55, 56, 57, 58, 59, 60, 61, 62, 7, 8, 10, 63, 64, 65, 66, 67, 4, 68, 69, 70, 71, 72, 73, 74, 75, 76, 77, 78] (by decide +kernel) (by decide +kernel)
set_option maxRecDepth 20000 in
theorem gX4_advanceUpTo_X4_advance : GoodIn wsX4_advanceUpTo (wsV RX4 75 RX4 yX4_advance wsX4_advance) := goodIn_app (goodIn_of _ (by decide +kernel)) ggX4_advanceUpTo_X4_advance
theorem dX4_advanceUpTo_0 : decode cX4_advanceUpTo 0 = .ok (.iconst 0, 1) := by decide +kernel
theorem dX4_advanceUpTo_1 : decode cX4_advanceUpTo 1 = .ok (.istore_n 3, 1) := by decide +kernel
theorem dX4_advanceUpTo_2 : decode cX4_advanceUpTo 2 = .ok (.iload_n 3, 1) := by decide +kernel
theorem dX4_advanceUpTo_3 : decode cX4_advanceUpTo 3 = .ok (.iload_n 2, 1) := by decide +kernel
theorem dX4_advanceUpTo_4 : decode cX4_advanceUpTo 4 = .ok (.if_icmp .ge 23, 3) := by decide +kernel
theorem dX4_advanceUpTo_7 : decode cX4_advanceUpTo 7 = .ok (.aload_n 0, 1) := by decide +kernel
theorem dX4_advanceUpTo_8 : decode cX4_advanceUpTo 8 = .ok (.iload_n 1, 1) := by decide +kernel
theorem dX4_advanceUpTo_9 : decode cX4_advanceUpTo 9 = .ok (.invokevirtual 53, 3) := by decide +kernel
theorem dX4_advanceUpTo_12 : decode cX4_advanceUpTo 12 = .ok (.ifCond .eq 15, 3) := by decide +kernel
theorem dX4_advanceUpTo_15 : decode cX4_advanceUpTo 15 = .ok (.aload_n 0, 1) := by decide +kernel
theorem dX4_advanceUpTo_16 : decode cX4_advanceUpTo 16 = .ok (.iload_n 1, 1) := by decide +kernel
theorem dX4_advanceUpTo_17 : decode cX4_advanceUpTo 17 = .ok (.invokevirtual 75, 3) := by decide +kernel
theorem dX4_advanceUpTo_20 : decode cX4_advanceUpTo 20 = .ok (.pop, 1) := by decide +kernel
theorem dX4_advanceUpTo_21 : decode cX4_advanceUpTo 21 = .ok (.iinc 3 1, 3) := by decide +kernel
theorem dX4_advanceUpTo_24 : decode cX4_advanceUpTo 24 = .ok (.goto (-22), 3) := by decide +kernel
theorem dX4_advanceUpTo_27 : decode cX4_advanceUpTo 27 = .ok (.iload_n 3, 1) := by decide +kernel
theorem dX4_advanceUpTo_28 : decode cX4_advanceUpTo 28 = .ok (.ireturn, 1) := by decide +kernel
set_option maxRecDepth 20000 in
theorem ggX4_countExit_X1_withOneMore : GoodIn wsX4_countExit wsX1_withOneMore := goodIn_r _ [6] (by decide +kernel) (by decide +kernel)
set_option maxRecDepth 20000 in
theorem gX4_countExit_X1_withOneMore : GoodIn wsX4_countExit (va_wsS RX4 37 yX1_withOneMore wsX1_withOneMore) := goodIn_app (goodIn_of _ (by decide +kernel)) ggX4_countExit_X1_withOneMore
theorem dX4_countExit_0 : decode cX4_countExit 0 = .ok (.iload_n 2, 1) := by decide +kernel
theorem dX4_countExit_1 : decode cX4_countExit 1 = .ok (.ifCond .eq 18, 3) := by decide +kernel
theorem dX4_countExit_4 : decode cX4_countExit 4 = .ok (.aload_n 0, 1) := by decide +kernel
theorem dX4_countExit_5 : decode cX4_countExit 5 = .ok (.aload_n 0, 1) := by decide +kernel
theorem dX4_countExit_6 : decode cX4_countExit 6 = .ok (.getfield 31, 3) := by decide +kernel
theorem dX4_countExit_9 : decode cX4_countExit 9 = .ok (.iload_n 1, 1) := by decide +kernel
theorem dX4_countExit_10 : decode cX4_countExit 10 = .ok (.invokestatic 37, 3) := by decide +kernel
theorem dX4_countExit_13 : decode cX4_countExit 13 = .ok (.putfield 31, 3) := by decide +kernel
theorem dX4_countExit_16 : decode cX4_countExit 16 = .ok (.goto 15, 3) := by decide +kernel
theorem dX4_countExit_19 : decode cX4_countExit 19 = .ok (.aload_n 0, 1) := by decide +kernel
theorem dX4_countExit_20 : decode cX4_countExit 20 = .ok (.aload_n 0, 1) := by decide +kernel
theorem dX4_countExit_21 : decode cX4_countExit 21 = .ok (.getfield 34, 3) := by decide +kernel
theorem dX4_countExit_24 : decode cX4_countExit 24 = .ok (.iload_n 1, 1) := by decide +kernel
theorem dX4_countExit_25 : decode cX4_countExit 25 = .ok (.invokestatic 37, 3) := by decide +kernel
theorem dX4_countExit_28 : decode cX4_countExit 28 = .ok (.putfield 34, 3) := by decide +kernel
theorem dX4_countExit_31 : decode cX4_countExit 31 = .ok (.return_, 1) := by decide +kernel
set_option maxRecDepth 20000 in
theorem ggX5_init_X4_init : GoodIn wsX5_init wsX4_init := goodIn_r _ [16, 17, 2, 3] (by decide +kernel) (by decide +kernel)
set_option maxRecDepth 20000 in
theorem gX5_init_X4_init_n9 : GoodIn wsX5_init (wsX4_init) := ggX5_init_X4_init
set_option maxRecDepth 20000 in
theorem ggX5_init_X4_begin : GoodIn wsX5_init wsX4_begin := goodIn_r _ [21, 22, 23, 24, 25, 26, 27, 28, 29, 30, 31, 32, 33, 42, 43, 44, 45, 46, 47, 48, 49] (by decide +kernel) (by decide +kernel)
set_option maxRecDepth 20000 in
theorem gX5_init_X4_begin : GoodIn wsX5_init (wsV RX5 16 RX4 yX4_begin wsX4_begin) := goodIn_app (goodIn_of _ (by decide +kernel)) ggX5_init_X4_begin
set_option maxRecDepth 20000 in
theorem ggX5_init_X3_init : GoodIn wsX5_init wsX3_init := goodIn_r _ [35, 36, 2, 3, 37, 38, 39, 40, 41, 58, 59, 60, 61, 62] (by decide +kernel) (by decide +kernel)
set_option maxRecDepth 20000 in
theorem gX5_init_X3_init_n32 : GoodIn wsX5_init (wsX3_init) := ggX5_init_X3_init
end
section
theorem dX5_init_0 : decode cX5_init 0 = .ok (.aload_n 0, 1) := by decide +kernel
theorem dX5_init_1 : decode cX5_init 1 = .ok (.invokespecial 1, 3) := by decide +kernel
theorem dX5_init_4 : decode cX5_init 4 = .ok (.aload_n 0, 1) := by decide +kernel
theorem dX5_init_5 : decode cX5_init 5 = .ok (.new 7, 3) := by decide +kernel
theorem dX5_init_8 : decode cX5_init 8 = .ok (.dup, 1) := by decide +kernel
theorem dX5_init_9 : decode cX5_init 9 = .ok (.invokespecial 9, 3) := by decide +kernel
theorem dX5_init_12 : decode cX5_init 12 = .ok (.putfield 10, 3) := by decide +kernel
theorem dX5_init_15 : decode cX5_init 15 = .ok (.aload_n 0, 1) := by decide +kernel
theorem dX5_init_16 : decode cX5_init 16 = .ok (.getfield 10, 3) := by decide +kernel
theorem dX5_init_19 : decode cX5_init 19 = .ok (.iconst 3, 1) := by decide +kernel
theorem dX5_init_20 : decode cX5_init 20 = .ok (.iconst 2, 1) := by decide +kernel
theorem dX5_init_21 : decode cX5_init 21 = .ok (.iconst 0, 1) := by decide +kernel
theorem dX5_init_22 : decode cX5_init 22 = .ok (.invokevirtual 16, 3) := by decide +kernel
theorem dX5_init_25 : decode cX5_init 25 = .ok (.aload_n 0, 1) := by decide +kernel
theorem dX5_init_26 : decode cX5_init 26 = .ok (.new 7, 3) := by decide +kernel
theorem dX5_init_29 : decode cX5_init 29 = .ok (.dup, 1) := by decide +kernel
theorem dX5_init_30 : decode cX5_init 30 = .ok (.invokespecial 9, 3) := by decide +kernel
theorem dX5_init_33 : decode cX5_init 33 = .ok (.putfield 20, 3) := by decide +kernel
theorem dX5_init_36 : decode cX5_init 36 = .ok (.aload_n 0, 1) := by decide +kernel
theorem dX5_init_37 : decode cX5_init 37 = .ok (.bipush 8, 2) := by decide +kernel
theorem dX5_init_39 : decode cX5_init 39 = .ok (.anewarray 7, 3) := by decide +kernel
theorem dX5_init_42 : decode cX5_init 42 = .ok (.putfield 23, 3) := by decide +kernel
theorem dX5_init_45 : decode cX5_init 45 = .ok (.iconst 0, 1) := by decide +kernel
theorem dX5_init_46 : decode cX5_init 46 = .ok (.istore_n 1, 1) := by decide +kernel
theorem dX5_init_47 : decode cX5_init 47 = .ok (.iload_n 1, 1) := by decide +kernel
theorem dX5_init_48 : decode cX5_init 48 = .ok (.aload_n 0, 1) := by decide +kernel
theorem dX5_init_49 : decode cX5_init 49 = .ok (.getfield 23, 3) := by decide +kernel
theorem dX5_init_52 : decode cX5_init 52 = .ok (.arraylength, 1) := by decide +kernel
theorem dX5_init_53 : decode cX5_init 53 = .ok (.if_icmp .ge 22, 3) := by decide +kernel
theorem dX5_init_56 : decode cX5_init 56 = .ok (.aload_n 0, 1) := by decide +kernel
theorem dX5_init_57 : decode cX5_init 57 = .ok (.getfield 23, 3) := by decide +kernel
theorem dX5_init_60 : decode cX5_init 60 = .ok (.iload_n 1, 1) := by decide +kernel
theorem dX5_init_61 : decode cX5_init 61 = .ok (.new 7, 3) := by decide +kernel
theorem dX5_init_64 : decode cX5_init 64 = .ok (.dup, 1) := by decide +kernel
theorem dX5_init_65 : decode cX5_init 65 = .ok (.invokespecial 9, 3) := by decide +kernel
theorem dX5_init_68 : decode cX5_init 68 = .ok (.aastore, 1) := by decide +kernel
theorem dX5_init_69 : decode cX5_init 69 = .ok (.iinc 1 1, 3) := by decide +kernel
theorem dX5_init_72 : decode cX5_init 72 = .ok (.goto (-25), 3) := by decide +kernel
theorem dX5_init_75 : decode cX5_init 75 = .ok (.aload_n 0, 1) := by decide +kernel
theorem dX5_init_76 : decode cX5_init 76 = .ok (.iconst 2, 1) := by decide +kernel
theorem dX5_init_77 : decode cX5_init 77 = .ok (.anewarray 7, 3) := by decide +kernel
theorem dX5_init_80 : decode cX5_init 80 = .ok (.putfield 27, 3) := by decide +kernel
theorem dX5_init_83 : decode cX5_init 83 = .ok (.aload_n 0, 1) := by decide +kernel
theorem dX5_init_84 : decode cX5_init 84 = .ok (.new 30, 3) := by decide +kernel
theorem dX5_init_87 : decode cX5_init 87 = .ok (.dup, 1) := by decide +kernel
theorem dX5_init_88 : decode cX5_init 88 = .ok (.invokespecial 32, 3) := by decide +kernel
theorem dX5_init_91 : decode cX5_init 91 = .ok (.putfield 33, 3) := by decide +kernel
theorem dX5_init_94 : decode cX5_init 94 = .ok (.return_, 1) := by decide +kernel
set_option maxRecDepth 20000 in
theorem ggX5_configure_X5_prepareChange : GoodIn wsX5_configure wsX5_prepareChange := goodIn_r _ [6, 7, 8, 1, 9, 10, 11, 12, 5, 13, 14, 15, 16, 17, 18, 19, 20, 21, 22, 23, 24, 25, 26, 39, 40, 41, 42, 43, 44, 45, 46, 47, 48, 49, 50, 51, 52, 53, 54] (by decide +kernel) (by decide +kernel)
set_option maxRecDepth 20000 in
theorem gX5_configure_X5_prepareChange : GoodIn wsX5_configure (wsV RX5 37 RX5 yX5_prepareChange wsX5_prepareChange) := goodIn_app (goodIn_of _ (by decide +kernel)) ggX5_configure_X5_prepareChange
set_option maxRecDepth 20000 in
theorem ggX5_configure_X4_begin : GoodIn wsX5_configure wsX4_begin := goodIn_r _ [30, 19, 20, 21, 22, 23, 24, 25, 26, 31, 32, 33, 34, 47, 48, 49, 50, 51, 52, 53, 54] (by decide +kernel) (by decide +kernel)
set_option maxRecDepth 20000 in
theorem gX5_configure_X4_begin : GoodIn wsX5_configure (wsV RX5 16 RX4 yX4_begin wsX4_begin) := goodIn_app (goodIn_of _ (by decide +kernel)) ggX5_configure_X4_begin
set_option maxRecDepth 20000 in
theorem ggX5_configure_X4_names : GoodIn wsX5_configure wsX4_names := goodIn_r _ [38, 19, 47, 48, 49, 50, 51, 52, 53, 54] (by decide +kernel) (by decide +kernel)
set_option maxRecDepth 20000 in
theorem gX5_configure_X4_names : GoodIn wsX5_configure (wsV RX5 40 RX4 yX4_names wsX4_names) := goodIn_app (goodIn_of _ (by decide +kernel)) ggX5_configure_X4_names
theorem dX5_configure_0 : decode cX5_configure 0 = .ok (.iload_n 1, 1) := by decide +kernel
theorem dX5_configure_1 : decode cX5_configure 1 = .ok (.iconst 2, 1) := by decide +kernel
theorem dX5_configure_2 : decode cX5_configure 2 = .ok (.if_icmp .lt 31, 3) := by decide +kernel
theorem dX5_configure_5 : decode cX5_configure 5 = .ok (.iload_n 1, 1) := by decide +kernel
theorem dX5_configure_6 : decode cX5_configure 6 = .ok (.iconst 4, 1) := by decide +kernel
theorem dX5_configure_7 : decode cX5_configure 7 = .ok (.if_icmp .gt 26, 3) := by decide +kernel
theorem dX5_configure_10 : decode cX5_configure 10 = .ok (.iload_n 2, 1) := by decide +kernel
theorem dX5_configure_11 : decode cX5_configure 11 = .ok (.iconst 1, 1) := by decide +kernel
theorem dX5_configure_12 : decode cX5_configure 12 = .ok (.if_icmp .lt 21, 3) := by decide +kernel
theorem dX5_configure_15 : decode cX5_configure 15 = .ok (.iload_n 2, 1) := by decide +kernel
theorem dX5_configure_16 : decode cX5_configure 16 = .ok (.iconst 3, 1) := by decide +kernel
theorem dX5_configure_17 : decode cX5_configure 17 = .ok (.if_icmp .gt 16, 3) := by decide +kernel
theorem dX5_configure_20 : decode cX5_configure 20 = .ok (.iload_n 3, 1) := by decide +kernel
theorem dX5_configure_21 : decode cX5_configure 21 = .ok (.ifCond .lt 12, 3) := by decide +kernel
theorem dX5_configure_24 : decode cX5_configure 24 = .ok (.iload_n 3, 1) := by decide +kernel
theorem dX5_configure_25 : decode cX5_configure 25 = .ok (.iconst 2, 1) := by decide +kernel
theorem dX5_configure_26 : decode cX5_configure 26 = .ok (.if_icmp .gt 7, 3) := by decide +kernel
theorem dX5_configure_29 : decode cX5_configure 29 = .ok (.iconst 1, 1) := by decide +kernel
theorem dX5_configure_30 : decode cX5_configure 30 = .ok (.goto 4, 3) := by decide +kernel
theorem dX5_configure_33 : decode cX5_configure 33 = .ok (.iconst 0, 1) := by decide +kernel
theorem dX5_configure_34 : decode cX5_configure 34 = .ok (.istore 4, 2) := by decide +kernel
theorem dX5_configure_36 : decode cX5_configure 36 = .ok (.iload 4, 2) := by decide +kernel
theorem dX5_configure_38 : decode cX5_configure 38 = .ok (.ifCond .ne 5, 3) := by decide +kernel
theorem dX5_configure_41 : decode cX5_configure 41 = .ok (.iconst (-1), 1) := by decide +kernel
theorem dX5_configure_42 : decode cX5_configure 42 = .ok (.ireturn, 1) := by decide +kernel
theorem dX5_configure_43 : decode cX5_configure 43 = .ok (.aload_n 0, 1) := by decide +kernel
theorem dX5_configure_44 : decode cX5_configure 44 = .ok (.invokevirtual 37, 3) := by decide +kernel
theorem dX5_configure_47 : decode cX5_configure 47 = .ok (.aload_n 0, 1) := by decide +kernel
theorem dX5_configure_48 : decode cX5_configure 48 = .ok (.getfield 10, 3) := by decide +kernel
theorem dX5_configure_51 : decode cX5_configure 51 = .ok (.iload_n 1, 1) := by decide +kernel
theorem dX5_configure_52 : decode cX5_configure 52 = .ok (.iload_n 2, 1) := by decide +kernel
theorem dX5_configure_53 : decode cX5_configure 53 = .ok (.iload_n 3, 1) := by decide +kernel
theorem dX5_configure_54 : decode cX5_configure 54 = .ok (.invokevirtual 16, 3) := by decide +kernel
theorem dX5_configure_57 : decode cX5_configure 57 = .ok (.aload_n 0, 1) := by decide +kernel
theorem dX5_configure_58 : decode cX5_configure 58 = .ok (.getfield 10, 3) := by decide +kernel
theorem dX5_configure_61 : decode cX5_configure 61 = .ok (.invokevirtual 40, 3) := by decide +kernel
theorem dX5_configure_64 : decode cX5_configure 64 = .ok (.ireturn, 1) := by decide +kernel
set_option maxRecDepth 20000 in
theorem ggX5_nameCount_X4_names : GoodIn wsX5_nameCount wsX4_names := goodIn_r _ [6, 7, 16, 17, 18, 19, 20, 21, 22, 23] (by decide +kernel) (by decide +kernel)
set_option maxRecDepth 20000 in
theorem gX5_nameCount_X4_names : GoodIn wsX5_nameCount (wsV RX5 40 RX4 yX4_names wsX4_names) := goodIn_app (goodIn_of _ (by decide +kernel)) ggX5_nameCount_X4_names
theorem dX5_nameCount_0 : decode cX5_nameCount 0 = .ok (.aload_n 0, 1) := by decide +kernel
theorem dX5_nameCount_1 : decode cX5_nameCount 1 = .ok (.getfield 10, 3) := by decide +kernel
theorem dX5_nameCount_4 : decode cX5_nameCount 4 = .ok (.invokevirtual 40, 3) := by decide +kernel
theorem dX5_nameCount_7 : decode cX5_nameCount 7 = .ok (.ireturn, 1) := by decide +kernel
theorem dX5_processCount_0 : decode cX5_processCount 0 = .ok (.aload_n 0, 1) := by decide +kernel
theorem dX5_processCount_1 : decode cX5_processCount 1 = .ok (.getfield 10, 3) := by decide +kernel
theorem dX5_processCount_4 : decode cX5_processCount 4 = .ok (.getfield 44, 3) := by decide +kernel
theorem dX5_processCount_7 : decode cX5_processCount 7 = .ok (.ireturn, 1) := by decide +kernel
set_option maxRecDepth 20000 in
theorem ggX5_step_X4_hasProcess : GoodIn wsX5_step wsX4_hasProcess := goodIn_r _ [6, 7, 101, 102, 103, 104, 105, 106, 107, 108] (by decide +kernel) (by decide +kernel)
set_option maxRecDepth 20000 in
theorem gX5_step_X4_hasProcess : GoodIn wsX5_step (wsV RX5 48 RX4 yX4_hasProcess wsX4_hasProcess) := goodIn_app (goodIn_of _ (by decide +kernel)) ggX5_step_X4_hasProcess
set_option maxRecDepth 20000 in
theorem ggX5_step_X4_isRunning : GoodIn wsX5_step wsX4_isRunning := goodIn_r _ [11, 12, 13, 14, 15, 16, 101, 102, 103, 104, 105, 106, 107, 108] (by decide +kernel) (by decide +kernel)
set_option maxRecDepth 20000 in
theorem gX5_step_X4_isRunning : GoodIn wsX5_step (wsV RX5 52 RX4 yX4_isRunning wsX4_isRunning) := goodIn_app (goodIn_of _ (by decide +kernel)) ggX5_step_X4_isRunning
set_option maxRecDepth 20000 in
theorem ggX5_step_X5_prepareChange : GoodIn wsX5_step wsX5_prepareChange := goodIn_r _ [21, 22, 23, 1, 24, 25, 26, 27, 20, 28, 29, 30, 31, 5, 32, 33, 7, 34, 12, 35, 36, 37, 38, 93, 94, 95, 96, 97, 98, 99, 100, 101, 102, 103, 104, 105, 106, 107, 108] (by decide +kernel) (by decide +kernel)
set_option maxRecDepth 20000 in
theorem gX5_step_X5_prepareChange : GoodIn wsX5_step (wsV RX5 37 RX5 yX5_prepareChange wsX5_prepareChange) := goodIn_app (goodIn_of _ (by decide +kernel)) ggX5_step_X5_prepareChange
set_option maxRecDepth 20000 in
theorem ggX5_step_X4_advance : GoodIn wsX5_step wsX4_advance := goodIn_r _ [42, 12, 33, 34, 35, 36, 43, 44, 15, 45, 46, 47, 48, 49, 50, 51, 52, 53, 54, 55, 56, 57, 58, 59, 60, 61, 62, 63, 64, 65, 66, 67, 68, 69, 70, 71, 72, 73, 74, 75, 76, 77, 78, 79, 80, 81, 82, 83, 84, 85, 86, 13, 14, 16, 87, 88, 89, 90, 91, 5, 92, 37, 38, 101, 102, 103, 104, 105, 106, 107, 108] (by decide +kernel) (by decide +kernel)
set_option maxRecDepth 20000 in
theorem gX5_step_X4_advance : GoodIn wsX5_step (wsV RX5 55 RX4 yX4_advance wsX4_advance) := goodIn_app (goodIn_of _ (by decide +kernel)) ggX5_step_X4_advance
theorem dX5_step_0 : decode cX5_step 0 = .ok (.aload_n 0, 1) := by decide +kernel
theorem dX5_step_1 : decode cX5_step 1 = .ok (.getfield 10, 3) := by decide +kernel
theorem dX5_step_4 : decode cX5_step 4 = .ok (.iload_n 1, 1) := by decide +kernel
theorem dX5_step_5 : decode cX5_step 5 = .ok (.invokevirtual 48, 3) := by decide +kernel
theorem dX5_step_8 : decode cX5_step 8 = .ok (.ifCond .ne 5, 3) := by decide +kernel
theorem dX5_step_11 : decode cX5_step 11 = .ok (.iconst (-1), 1) := by decide +kernel
theorem dX5_step_12 : decode cX5_step 12 = .ok (.ireturn, 1) := by decide +kernel
theorem dX5_step_13 : decode cX5_step 13 = .ok (.aload_n 0, 1) := by decide +kernel
theorem dX5_step_14 : decode cX5_step 14 = .ok (.getfield 10, 3) := by decide +kernel
theorem dX5_step_17 : decode cX5_step 17 = .ok (.iload_n 1, 1) := by decide +kernel
theorem dX5_step_18 : decode cX5_step 18 = .ok (.invokevirtual 52, 3) := by decide +kernel
theorem dX5_step_21 : decode cX5_step 21 = .ok (.ifCond .ne 6, 3) := by decide +kernel
theorem dX5_step_24 : decode cX5_step 24 = .ok (.bipush (-2), 2) := by decide +kernel
theorem dX5_step_26 : decode cX5_step 26 = .ok (.ireturn, 1) := by decide +kernel
theorem dX5_step_27 : decode cX5_step 27 = .ok (.aload_n 0, 1) := by decide +kernel
theorem dX5_step_28 : decode cX5_step 28 = .ok (.invokevirtual 37, 3) := by decide +kernel
theorem dX5_step_31 : decode cX5_step 31 = .ok (.aload_n 0, 1) := by decide +kernel
theorem dX5_step_32 : decode cX5_step 32 = .ok (.getfield 10, 3) := by decide +kernel
theorem dX5_step_35 : decode cX5_step 35 = .ok (.iload_n 1, 1) := by decide +kernel
theorem dX5_step_36 : decode cX5_step 36 = .ok (.invokevirtual 55, 3) := by decide +kernel
theorem dX5_step_39 : decode cX5_step 39 = .ok (.ireturn, 1) := by decide +kernel
set_option maxRecDepth 20000 in
theorem ggX5_crash_X4_hasProcess : GoodIn wsX5_crash wsX4_hasProcess := goodIn_r _ [6, 7, 61, 62, 63, 64, 65, 66, 67, 68] (by decide +kernel) (by decide +kernel)
set_option maxRecDepth 20000 in
theorem gX5_crash_X4_hasProcess : GoodIn wsX5_crash (wsV RX5 48 RX4 yX4_hasProcess wsX4_hasProcess) := goodIn_app (goodIn_of _ (by decide +kernel)) ggX5_crash_X4_hasProcess
set_option maxRecDepth 20000 in
theorem ggX5_crash_X4_isRunning : GoodIn wsX5_crash wsX4_isRunning := goodIn_r _ [11, 12, 13, 14, 15, 16, 61, 62, 63, 64, 65, 66, 67, 68] (by decide +kernel) (by decide +kernel)
set_option maxRecDepth 20000 in
theorem gX5_crash_X4_isRunning : GoodIn wsX5_crash (wsV RX5 52 RX4 yX4_isRunning wsX4_isRunning) := goodIn_app (goodIn_of _ (by decide +kernel)) ggX5_crash_X4_isRunning
set_option maxRecDepth 20000 in
theorem ggX5_crash_X5_prepareChange : GoodIn wsX5_crash wsX5_prepareChange := goodIn_r _ [21, 22, 23, 1, 24, 25, 26, 27, 20, 28, 29, 30, 31, 5, 32, 33, 7, 34, 12, 35, 36, 37, 38, 53, 54, 55, 56, 57, 58, 59, 60, 61, 62, 63, 64, 65, 66, 67, 68] (by decide +kernel) (by decide +kernel)
set_option maxRecDepth 20000 in
theorem gX5_crash_X5_prepareChange : GoodIn wsX5_crash (wsV RX5 37 RX5 yX5_prepareChange wsX5_prepareChange) := goodIn_app (goodIn_of _ (by decide +kernel)) ggX5_crash_X5_prepareChange
set_option maxRecDepth 20000 in
theorem ggX5_crash_X4_markCrashed : GoodIn wsX5_crash wsX4_markCrashed := goodIn_r _ [42, 12, 43, 44, 15, 45, 46, 47, 61, 62, 63, 64, 65, 66, 67, 68] (by decide +kernel) (by decide +kernel)
set_option maxRecDepth 20000 in
theorem gX5_crash_X4_markCrashed : GoodIn wsX5_crash (wsV RX5 59 RX4 yX4_markCrashed wsX4_markCrashed) := goodIn_app (goodIn_of _ (by decide +kernel)) ggX5_crash_X4_markCrashed
set_option maxRecDepth 20000 in
theorem ggX5_crash_X4_countRunning : GoodIn wsX5_crash wsX4_countRunning := goodIn_r _ [51, 7, 52, 9, 10, 5, 11, 12, 13, 14, 15, 16, 61, 62, 63, 64, 65, 66, 67, 68] (by decide +kernel) (by decide +kernel)
set_option maxRecDepth 20000 in
theorem gX5_crash_X4_countRunning : GoodIn wsX5_crash (wsV RX5 63 RX4 yX4_countRunning wsX4_countRunning) := goodIn_app (goodIn_of _ (by decide +kernel)) ggX5_crash_X4_countRunning
theorem dX5_crash_0 : decode cX5_crash 0 = .ok (.aload_n 0, 1) := by decide +kernel
theorem dX5_crash_1 : decode cX5_crash 1 = .ok (.getfield 10, 3) := by decide +kernel
theorem dX5_crash_4 : decode cX5_crash 4 = .ok (.iload_n 1, 1) := by decide +kernel
theorem dX5_crash_5 : decode cX5_crash 5 = .ok (.invokevirtual 48, 3) := by decide +kernel
theorem dX5_crash_8 : decode cX5_crash 8 = .ok (.ifCond .ne 5, 3) := by decide +kernel
theorem dX5_crash_11 : decode cX5_crash 11 = .ok (.iconst (-1), 1) := by decide +kernel
theorem dX5_crash_12 : decode cX5_crash 12 = .ok (.ireturn, 1) := by decide +kernel
theorem dX5_crash_13 : decode cX5_crash 13 = .ok (.aload_n 0, 1) := by decide +kernel
theorem dX5_crash_14 : decode cX5_crash 14 = .ok (.getfield 10, 3) := by decide +kernel
theorem dX5_crash_17 : decode cX5_crash 17 = .ok (.iload_n 1, 1) := by decide +kernel
theorem dX5_crash_18 : decode cX5_crash 18 = .ok (.invokevirtual 52, 3) := by decide +kernel
theorem dX5_crash_21 : decode cX5_crash 21 = .ok (.ifCond .ne 6, 3) := by decide +kernel
theorem dX5_crash_24 : decode cX5_crash 24 = .ok (.bipush (-2), 2) := by decide +kernel
theorem dX5_crash_26 : decode cX5_crash 26 = .ok (.ireturn, 1) := by decide +kernel
theorem dX5_crash_27 : decode cX5_crash 27 = .ok (.aload_n 0, 1) := by decide +kernel
theorem dX5_crash_28 : decode cX5_crash 28 = .ok (.invokevirtual 37, 3) := by decide +kernel
theorem dX5_crash_31 : decode cX5_crash 31 = .ok (.aload_n 0, 1) := by decide +kernel
theorem dX5_crash_32 : decode cX5_crash 32 = .ok (.getfield 10, 3) := by decide +kernel
theorem dX5_crash_35 : decode cX5_crash 35 = .ok (.iload_n 1, 1) := by decide +kernel
theorem dX5_crash_36 : decode cX5_crash 36 = .ok (.invokevirtual 59, 3) := by decide +kernel
theorem dX5_crash_39 : decode cX5_crash 39 = .ok (.aload_n 0, 1) := by decide +kernel
theorem dX5_crash_40 : decode cX5_crash 40 = .ok (.getfield 10, 3) := by decide +kernel
theorem dX5_crash_43 : decode cX5_crash 43 = .ok (.invokevirtual 63, 3) := by decide +kernel
theorem dX5_crash_46 : decode cX5_crash 46 = .ok (.ireturn, 1) := by decide +kernel
set_option maxRecDepth 20000 in
theorem ggX5_append_X3_isFull : GoodIn wsX5_append wsX3_isFull := goodIn_r _ [6, 7, 8, 22, 23, 24, 25, 26] (by decide +kernel) (by decide +kernel)
set_option maxRecDepth 20000 in
theorem gX5_append_X3_isFull : GoodIn wsX5_append (wsV RX5 66 RX3 yX3_isFull wsX3_isFull) := goodIn_app (goodIn_of _ (by decide +kernel)) ggX5_append_X3_isFull
set_option maxRecDepth 20000 in
theorem ggX5_append_X3_add : GoodIn wsX5_append wsX3_add := goodIn_r _ [12, 8, 7, 13, 3, 4, 5, 6, 22, 23, 24, 25, 26] (by decide +kernel) (by decide +kernel)
set_option maxRecDepth 20000 in
theorem gX5_append_X3_add : GoodIn wsX5_append (wsV RX5 70 RX3 yX3_add wsX3_add) := goodIn_app (goodIn_of _ (by decide +kernel)) ggX5_append_X3_add
theorem dX5_append_0 : decode cX5_append 0 = .ok (.iload_n 1, 1) := by decide +kernel
theorem dX5_append_1 : decode cX5_append 1 = .ok (.ifCond .lt 10, 3) := by decide +kernel
theorem dX5_append_4 : decode cX5_append 4 = .ok (.iload_n 1, 1) := by decide +kernel
theorem dX5_append_5 : decode cX5_append 5 = .ok (.sipush 255, 3) := by decide +kernel
theorem dX5_append_8 : decode cX5_append 8 = .ok (.if_icmp .le 5, 3) := by decide +kernel
theorem dX5_append_11 : decode cX5_append 11 = .ok (.iconst (-1), 1) := by decide +kernel
theorem dX5_append_12 : decode cX5_append 12 = .ok (.ireturn, 1) := by decide +kernel
theorem dX5_append_13 : decode cX5_append 13 = .ok (.aload_n 0, 1) := by decide +kernel
theorem dX5_append_14 : decode cX5_append 14 = .ok (.getfield 33, 3) := by decide +kernel
theorem dX5_append_17 : decode cX5_append 17 = .ok (.invokevirtual 66, 3) := by decide +kernel
theorem dX5_append_20 : decode cX5_append 20 = .ok (.ifCond .eq 6, 3) := by decide +kernel
theorem dX5_append_23 : decode cX5_append 23 = .ok (.bipush (-3), 2) := by decide +kernel
theorem dX5_append_25 : decode cX5_append 25 = .ok (.ireturn, 1) := by decide +kernel
theorem dX5_append_26 : decode cX5_append 26 = .ok (.aload_n 0, 1) := by decide +kernel
theorem dX5_append_27 : decode cX5_append 27 = .ok (.getfield 33, 3) := by decide +kernel
theorem dX5_append_30 : decode cX5_append 30 = .ok (.iload_n 1, 1) := by decide +kernel
theorem dX5_append_31 : decode cX5_append 31 = .ok (.i2c, 1) := by decide +kernel
theorem dX5_append_32 : decode cX5_append 32 = .ok (.invokevirtual 70, 3) := by decide +kernel
theorem dX5_append_35 : decode cX5_append 35 = .ok (.ireturn, 1) := by decide +kernel
set_option maxRecDepth 20000 in
theorem ggX5_clearText_X3_clear : GoodIn wsX5_clearText wsX3_clear := goodIn_r _ [6, 7, 16, 17, 18, 19, 20] (by decide +kernel) (by decide +kernel)
set_option maxRecDepth 20000 in
theorem gX5_clearText_X3_clear : GoodIn wsX5_clearText (wsV RX5 74 RX3 yX3_clear wsX3_clear) := goodIn_app (goodIn_of _ (by decide +kernel)) ggX5_clearText_X3_clear
theorem dX5_clearText_0 : decode cX5_clearText 0 = .ok (.aload_n 0, 1) := by decide +kernel
theorem dX5_clearText_1 : decode cX5_clearText 1 = .ok (.getfield 33, 3) := by decide +kernel
theorem dX5_clearText_4 : decode cX5_clearText 4 = .ok (.invokevirtual 74, 3) := by decide +kernel
theorem dX5_clearText_7 : decode cX5_clearText 7 = .ok (.ireturn, 1) := by decide +kernel
set_option maxRecDepth 20000 in
theorem ggX5_runText_X3_read : GoodIn wsX5_runText wsX3_read := goodIn_r _ [7, 8, 9, 10, 11, 12, 6, 13, 14, 15, 16, 17, 18, 19, 20, 21, 22, 23, 24, 25, 26, 27, 28, 29, 30, 31, 32, 33, 34, 35, 36, 37, 38, 39, 40, 156, 157, 158, 159, 160] (by decide +kernel) (by decide +kernel)
set_option maxRecDepth 20000 in
theorem gX5_runText_X3_read : GoodIn wsX5_runText (wsV RX5 77 RX3 yX3_read wsX3_read) := goodIn_app (goodIn_of _ (by decide +kernel)) ggX5_runText_X3_read
set_option maxRecDepth 20000 in
theorem ggX5_runText_X5_prepareChange : GoodIn wsX5_runText wsX5_prepareChange := goodIn_r _ [45, 46, 47, 2, 48, 49, 50, 51, 44, 52, 53, 54, 55, 56, 57, 58, 59, 60, 61, 62, 63, 64, 65, 140, 141, 142, 143, 144, 145, 146, 147, 148, 149, 150, 151, 152, 153, 154, 155] (by decide +kernel) (by decide +kernel)
set_option maxRecDepth 20000 in
theorem gX5_runText_X5_prepareChange : GoodIn wsX5_runText (wsV RX5 37 RX5 yX5_prepareChange wsX5_prepareChange) := goodIn_app (goodIn_of _ (by decide +kernel)) ggX5_runText_X5_prepareChange
set_option maxRecDepth 20000 in
theorem ggX5_runText_X3_executeOn : GoodIn wsX5_runText wsX3_executeOn := goodIn_r _ [69, 8, 35, 36, 70, 71, 72, 56, 73, 74, 75, 76, 77, 61, 78, 79, 80, 81, 82, 83, 84, 85, 58, 60, 62, 63, 86, 87, 88, 89, 90, 91, 92, 93, 94, 95, 96, 97, 98, 99, 100, 101, 102, 103, 104, 105, 106, 107, 108, 109, 110, 111, 112, 113, 114, 115, 116, 117, 118, 119, 120, 121, 122, 123, 124, 125, 126, 127, 128, 129, 130, 131, 132, 133, 134, 135, 64, 65, 156, 157, 158, 159, 160, 148, 149, 150, 151, 152, 153, 154, 155] (by decide +kernel) (by decide +kernel)
set_option maxRecDepth 20000 in
theorem gX5_runText_X3_executeOn : GoodIn wsX5_runText (wsV RX5 80 RX3 yX3_executeOn wsX3_executeOn) := goodIn_app (goodIn_of _ (by decide +kernel)) ggX5_runText_X3_executeOn
set_option maxRecDepth 20000 in
theorem ggX5_runText_X3_clear : GoodIn wsX5_runText wsX3_clear := goodIn_r _ [139, 9, 156, 157, 158, 159, 160] (by decide +kernel) (by decide +kernel)
set_option maxRecDepth 20000 in
theorem gX5_runText_X3_clear : GoodIn wsX5_runText (wsV RX5 74 RX3 yX3_clear wsX3_clear) := goodIn_app (goodIn_of _ (by decide +kernel)) ggX5_runText_X3_clear
theorem dX5_runText_0 : decode cX5_runText 0 = .ok (.aload_n 0, 1) := by decide +kernel
theorem dX5_runText_1 : decode cX5_runText 1 = .ok (.getfield 33, 3) := by decide +kernel
theorem dX5_runText_4 : decode cX5_runText 4 = .ok (.aload_n 0, 1) := by decide +kernel
theorem dX5_runText_5 : decode cX5_runText 5 = .ok (.getfield 10, 3) := by decide +kernel
theorem dX5_runText_8 : decode cX5_runText 8 = .ok (.getfield 44, 3) := by decide +kernel
theorem dX5_runText_11 : decode cX5_runText 11 = .ok (.invokevirtual 77, 3) := by decide +kernel
theorem dX5_runText_14 : decode cX5_runText 14 = .ok (.istore_n 1, 1) := by decide +kernel
theorem dX5_runText_15 : decode cX5_runText 15 = .ok (.iload_n 1, 1) := by decide +kernel
theorem dX5_runText_16 : decode cX5_runText 16 = .ok (.iconst (-1), 1) := by decide +kernel
theorem dX5_runText_17 : decode cX5_runText 17 = .ok (.if_icmp .eq 8, 3) := by decide +kernel
theorem dX5_runText_20 : decode cX5_runText 20 = .ok (.bipush (-10), 2) := by decide +kernel
theorem dX5_runText_22 : decode cX5_runText 22 = .ok (.iload_n 1, 1) := by decide +kernel
theorem dX5_runText_23 : decode cX5_runText 23 = .ok (.isub, 1) := by decide +kernel
theorem dX5_runText_24 : decode cX5_runText 24 = .ok (.ireturn, 1) := by decide +kernel
theorem dX5_runText_25 : decode cX5_runText 25 = .ok (.aload_n 0, 1) := by decide +kernel
theorem dX5_runText_26 : decode cX5_runText 26 = .ok (.invokevirtual 37, 3) := by decide +kernel
theorem dX5_runText_29 : decode cX5_runText 29 = .ok (.aload_n 0, 1) := by decide +kernel
theorem dX5_runText_30 : decode cX5_runText 30 = .ok (.getfield 33, 3) := by decide +kernel
theorem dX5_runText_33 : decode cX5_runText 33 = .ok (.aload_n 0, 1) := by decide +kernel
theorem dX5_runText_34 : decode cX5_runText 34 = .ok (.getfield 10, 3) := by decide +kernel
theorem dX5_runText_37 : decode cX5_runText 37 = .ok (.invokevirtual 80, 3) := by decide +kernel
theorem dX5_runText_40 : decode cX5_runText 40 = .ok (.istore_n 2, 1) := by decide +kernel
theorem dX5_runText_41 : decode cX5_runText 41 = .ok (.aload_n 0, 1) := by decide +kernel
theorem dX5_runText_42 : decode cX5_runText 42 = .ok (.getfield 33, 3) := by decide +kernel
theorem dX5_runText_45 : decode cX5_runText 45 = .ok (.invokevirtual 74, 3) := by decide +kernel
theorem dX5_runText_48 : decode cX5_runText 48 = .ok (.pop, 1) := by decide +kernel
theorem dX5_runText_49 : decode cX5_runText 49 = .ok (.iload_n 2, 1) := by decide +kernel
theorem dX5_runText_50 : decode cX5_runText 50 = .ok (.ireturn, 1) := by decide +kernel
set_option maxRecDepth 20000 in
theorem ggX5_status_X4_hasProcess : GoodIn wsX5_status wsX4_hasProcess := goodIn_r _ [6, 7, 20, 21, 22, 23, 24, 25, 26, 27] (by decide +kernel) (by decide +kernel)
set_option maxRecDepth 20000 in
theorem gX5_status_X4_hasProcess : GoodIn wsX5_status (wsV RX5 48 RX4 yX4_hasProcess wsX4_hasProcess) := goodIn_app (goodIn_of _ (by decide +kernel)) ggX5_status_X4_hasProcess
set_option maxRecDepth 20000 in
theorem ggX5_status_X0_statusIn : GoodIn wsX5_status wsX0_statusIn := goodIn_r _ [11] (by decide +kernel) (by decide +kernel)
set_option maxRecDepth 20000 in
theorem gX5_status_X0_statusIn : GoodIn wsX5_status (va_wsS RX5 88 yX0_statusIn wsX0_statusIn) := goodIn_app (goodIn_of _ (by decide +kernel)) ggX5_status_X0_statusIn
theorem dX5_status_0 : decode cX5_status 0 = .ok (.aload_n 0, 1) := by decide +kernel
theorem dX5_status_1 : decode cX5_status 1 = .ok (.getfield 10, 3) := by decide +kernel
theorem dX5_status_4 : decode cX5_status 4 = .ok (.iload_n 1, 1) := by decide +kernel
theorem dX5_status_5 : decode cX5_status 5 = .ok (.invokevirtual 48, 3) := by decide +kernel
theorem dX5_status_8 : decode cX5_status 8 = .ok (.ifCond .ne 5, 3) := by decide +kernel
theorem dX5_status_11 : decode cX5_status 11 = .ok (.iconst (-1), 1) := by decide +kernel
theorem dX5_status_12 : decode cX5_status 12 = .ok (.ireturn, 1) := by decide +kernel
theorem dX5_status_13 : decode cX5_status 13 = .ok (.aload_n 0, 1) := by decide +kernel
theorem dX5_status_14 : decode cX5_status 14 = .ok (.getfield 10, 3) := by decide +kernel
theorem dX5_status_17 : decode cX5_status 17 = .ok (.getfield 84, 3) := by decide +kernel
theorem dX5_status_20 : decode cX5_status 20 = .ok (.iload_n 1, 1) := by decide +kernel
theorem dX5_status_21 : decode cX5_status 21 = .ok (.invokestatic 88, 3) := by decide +kernel
theorem dX5_status_24 : decode cX5_status 24 = .ok (.ireturn, 1) := by decide +kernel
set_option maxRecDepth 20000 in
theorem ggX5_splitterOf_X4_hasProcess : GoodIn wsX5_splitterOf wsX4_hasProcess := goodIn_r _ [6, 7, 23, 24, 25, 26, 27, 28, 29, 30] (by decide +kernel) (by decide +kernel)
set_option maxRecDepth 20000 in
theorem gX5_splitterOf_X4_hasProcess : GoodIn wsX5_splitterOf (wsV RX5 48 RX4 yX4_hasProcess wsX4_hasProcess) := goodIn_app (goodIn_of _ (by decide +kernel)) ggX5_splitterOf_X4_hasProcess
set_option maxRecDepth 20000 in
theorem ggX5_splitterOf_X0_statusIn : GoodIn wsX5_splitterOf wsX0_statusIn := goodIn_r _ [11] (by decide +kernel) (by decide +kernel)
set_option maxRecDepth 20000 in
theorem gX5_splitterOf_X0_statusIn : GoodIn wsX5_splitterOf (va_wsS RX5 88 yX0_statusIn wsX0_statusIn) := goodIn_app (goodIn_of _ (by decide +kernel)) ggX5_splitterOf_X0_statusIn
set_option maxRecDepth 20000 in
theorem ggX5_splitterOf_X0_splitterIn : GoodIn wsX5_splitterOf wsX0_splitterIn := goodIn_r _ [14] (by decide +kernel) (by decide +kernel)
set_option maxRecDepth 20000 in
theorem gX5_splitterOf_X0_splitterIn : GoodIn wsX5_splitterOf (va_wsS RX5 94 yX0_splitterIn wsX0_splitterIn) := goodIn_app (goodIn_of _ (by decide +kernel)) ggX5_splitterOf_X0_splitterIn
theorem dX5_splitterOf_0 : decode cX5_splitterOf 0 = .ok (.aload_n 0, 1) := by decide +kernel
theorem dX5_splitterOf_1 : decode cX5_splitterOf 1 = .ok (.getfield 10, 3) := by decide +kernel
theorem dX5_splitterOf_4 : decode cX5_splitterOf 4 = .ok (.iload_n 1, 1) := by decide +kernel
theorem dX5_splitterOf_5 : decode cX5_splitterOf 5 = .ok (.invokevirtual 48, 3) := by decide +kernel
theorem dX5_splitterOf_8 : decode cX5_splitterOf 8 = .ok (.ifCond .ne 5, 3) := by decide +kernel
theorem dX5_splitterOf_11 : decode cX5_splitterOf 11 = .ok (.iconst (-1), 1) := by decide +kernel
theorem dX5_splitterOf_12 : decode cX5_splitterOf 12 = .ok (.ireturn, 1) := by decide +kernel
theorem dX5_splitterOf_13 : decode cX5_splitterOf 13 = .ok (.aload_n 0, 1) := by decide +kernel
theorem dX5_splitterOf_14 : decode cX5_splitterOf 14 = .ok (.getfield 10, 3) := by decide +kernel
theorem dX5_splitterOf_17 : decode cX5_splitterOf 17 = .ok (.getfield 84, 3) := by decide +kernel
theorem dX5_splitterOf_20 : decode cX5_splitterOf 20 = .ok (.iload_n 1, 1) := by decide +kernel
theorem dX5_splitterOf_21 : decode cX5_splitterOf 21 = .ok (.invokestatic 88, 3) := by decide +kernel
theorem dX5_splitterOf_24 : decode cX5_splitterOf 24 = .ok (.iconst 2, 1) := by decide +kernel
theorem dX5_splitterOf_25 : decode cX5_splitterOf 25 = .ok (.if_icmp .ne 6, 3) := by decide +kernel
theorem dX5_splitterOf_28 : decode cX5_splitterOf 28 = .ok (.bipush (-9), 2) := by decide +kernel
theorem dX5_splitterOf_30 : decode cX5_splitterOf 30 = .ok (.ireturn, 1) := by decide +kernel
theorem dX5_splitterOf_31 : decode cX5_splitterOf 31 = .ok (.aload_n 0, 1) := by decide +kernel
theorem dX5_splitterOf_32 : decode cX5_splitterOf 32 = .ok (.getfield 10, 3) := by decide +kernel
theorem dX5_splitterOf_35 : decode cX5_splitterOf 35 = .ok (.getfield 84, 3) := by decide +kernel
theorem dX5_splitterOf_38 : decode cX5_splitterOf 38 = .ok (.iload_n 1, 1) := by decide +kernel
theorem dX5_splitterOf_39 : decode cX5_splitterOf 39 = .ok (.invokestatic 94, 3) := by decide +kernel
theorem dX5_splitterOf_42 : decode cX5_splitterOf 42 = .ok (.ireturn, 1) := by decide +kernel
set_option maxRecDepth 20000 in
theorem ggX5_phaseOf_X4_hasProcess : GoodIn wsX5_phaseOf wsX4_hasProcess := goodIn_r _ [6, 7, 23, 24, 25, 26, 27, 28, 29, 30] (by decide +kernel) (by decide +kernel)
set_option maxRecDepth 20000 in
theorem gX5_phaseOf_X4_hasProcess : GoodIn wsX5_phaseOf (wsV RX5 48 RX4 yX4_hasProcess wsX4_hasProcess) := goodIn_app (goodIn_of _ (by decide +kernel)) ggX5_phaseOf_X4_hasProcess
set_option maxRecDepth 20000 in
theorem ggX5_phaseOf_X0_statusIn : GoodIn wsX5_phaseOf wsX0_statusIn := goodIn_r _ [11] (by decide +kernel) (by decide +kernel)
set_option maxRecDepth 20000 in
theorem gX5_phaseOf_X0_statusIn : GoodIn wsX5_phaseOf (va_wsS RX5 88 yX0_statusIn wsX0_statusIn) := goodIn_app (goodIn_of _ (by decide +kernel)) ggX5_phaseOf_X0_statusIn
set_option maxRecDepth 20000 in
theorem ggX5_phaseOf_X0_phaseIn : GoodIn wsX5_phaseOf wsX0_phaseIn := goodIn_r _ [14] (by decide +kernel) (by decide +kernel)
set_option maxRecDepth 20000 in
theorem gX5_phaseOf_X0_phaseIn : GoodIn wsX5_phaseOf (va_wsS RX5 97 yX0_phaseIn wsX0_phaseIn) := goodIn_app (goodIn_of _ (by decide +kernel)) ggX5_phaseOf_X0_phaseIn
theorem dX5_phaseOf_0 : decode cX5_phaseOf 0 = .ok (.aload_n 0, 1) := by decide +kernel
theorem dX5_phaseOf_1 : decode cX5_phaseOf 1 = .ok (.getfield 10, 3) := by decide +kernel
theorem dX5_phaseOf_4 : decode cX5_phaseOf 4 = .ok (.iload_n 1, 1) := by decide +kernel
theorem dX5_phaseOf_5 : decode cX5_phaseOf 5 = .ok (.invokevirtual 48, 3) := by decide +kernel
theorem dX5_phaseOf_8 : decode cX5_phaseOf 8 = .ok (.ifCond .ne 5, 3) := by decide +kernel
theorem dX5_phaseOf_11 : decode cX5_phaseOf 11 = .ok (.iconst (-1), 1) := by decide +kernel
theorem dX5_phaseOf_12 : decode cX5_phaseOf 12 = .ok (.ireturn, 1) := by decide +kernel
theorem dX5_phaseOf_13 : decode cX5_phaseOf 13 = .ok (.aload_n 0, 1) := by decide +kernel
theorem dX5_phaseOf_14 : decode cX5_phaseOf 14 = .ok (.getfield 10, 3) := by decide +kernel
theorem dX5_phaseOf_17 : decode cX5_phaseOf 17 = .ok (.getfield 84, 3) := by decide +kernel
theorem dX5_phaseOf_20 : decode cX5_phaseOf 20 = .ok (.iload_n 1, 1) := by decide +kernel
theorem dX5_phaseOf_21 : decode cX5_phaseOf 21 = .ok (.invokestatic 88, 3) := by decide +kernel
theorem dX5_phaseOf_24 : decode cX5_phaseOf 24 = .ok (.iconst 2, 1) := by decide +kernel
theorem dX5_phaseOf_25 : decode cX5_phaseOf 25 = .ok (.if_icmp .ne 6, 3) := by decide +kernel
theorem dX5_phaseOf_28 : decode cX5_phaseOf 28 = .ok (.bipush (-9), 2) := by decide +kernel
theorem dX5_phaseOf_30 : decode cX5_phaseOf 30 = .ok (.ireturn, 1) := by decide +kernel
theorem dX5_phaseOf_31 : decode cX5_phaseOf 31 = .ok (.aload_n 0, 1) := by decide +kernel
theorem dX5_phaseOf_32 : decode cX5_phaseOf 32 = .ok (.getfield 10, 3) := by decide +kernel
theorem dX5_phaseOf_35 : decode cX5_phaseOf 35 = .ok (.getfield 84, 3) := by decide +kernel
theorem dX5_phaseOf_38 : decode cX5_phaseOf 38 = .ok (.iload_n 1, 1) := by decide +kernel
theorem dX5_phaseOf_39 : decode cX5_phaseOf 39 = .ok (.invokestatic 97, 3) := by decide +kernel
theorem dX5_phaseOf_42 : decode cX5_phaseOf 42 = .ok (.ireturn, 1) := by decide +kernel
set_option maxRecDepth 20000 in
theorem ggX5_stepsOf_X4_hasProcess : GoodIn wsX5_stepsOf wsX4_hasProcess := goodIn_r _ [6, 7, 20, 21, 22, 23, 24, 25, 26, 27] (by decide +kernel) (by decide +kernel)
set_option maxRecDepth 20000 in
theorem gX5_stepsOf_X4_hasProcess : GoodIn wsX5_stepsOf (wsV RX5 48 RX4 yX4_hasProcess wsX4_hasProcess) := goodIn_app (goodIn_of _ (by decide +kernel)) ggX5_stepsOf_X4_hasProcess
set_option maxRecDepth 20000 in
theorem ggX5_stepsOf_X1_countIn : GoodIn wsX5_stepsOf wsX1_countIn := goodIn_r _ [11] (by decide +kernel) (by decide +kernel)
set_option maxRecDepth 20000 in
theorem gX5_stepsOf_X1_countIn : GoodIn wsX5_stepsOf (va_wsS RX5 103 yX1_countIn wsX1_countIn) := goodIn_app (goodIn_of _ (by decide +kernel)) ggX5_stepsOf_X1_countIn
theorem dX5_stepsOf_0 : decode cX5_stepsOf 0 = .ok (.aload_n 0, 1) := by decide +kernel
theorem dX5_stepsOf_1 : decode cX5_stepsOf 1 = .ok (.getfield 10, 3) := by decide +kernel
theorem dX5_stepsOf_4 : decode cX5_stepsOf 4 = .ok (.iload_n 1, 1) := by decide +kernel
theorem dX5_stepsOf_5 : decode cX5_stepsOf 5 = .ok (.invokevirtual 48, 3) := by decide +kernel
theorem dX5_stepsOf_8 : decode cX5_stepsOf 8 = .ok (.ifCond .ne 5, 3) := by decide +kernel
theorem dX5_stepsOf_11 : decode cX5_stepsOf 11 = .ok (.iconst (-1), 1) := by decide +kernel
theorem dX5_stepsOf_12 : decode cX5_stepsOf 12 = .ok (.ireturn, 1) := by decide +kernel
theorem dX5_stepsOf_13 : decode cX5_stepsOf 13 = .ok (.aload_n 0, 1) := by decide +kernel
theorem dX5_stepsOf_14 : decode cX5_stepsOf 14 = .ok (.getfield 10, 3) := by decide +kernel
theorem dX5_stepsOf_17 : decode cX5_stepsOf 17 = .ok (.getfield 100, 3) := by decide +kernel
theorem dX5_stepsOf_20 : decode cX5_stepsOf 20 = .ok (.iload_n 1, 1) := by decide +kernel
theorem dX5_stepsOf_21 : decode cX5_stepsOf 21 = .ok (.invokestatic 103, 3) := by decide +kernel
theorem dX5_stepsOf_24 : decode cX5_stepsOf 24 = .ok (.ireturn, 1) := by decide +kernel
set_option maxRecDepth 20000 in
theorem ggX5_soloSteps_X4_hasProcess : GoodIn wsX5_soloSteps wsX4_hasProcess := goodIn_r _ [7, 8, 94, 95, 96, 97, 98, 99, 100, 101] (by decide +kernel) (by decide +kernel)
set_option maxRecDepth 20000 in
theorem gX5_soloSteps_X4_hasProcess : GoodIn wsX5_soloSteps (wsV RX5 48 RX4 yX4_hasProcess wsX4_hasProcess) := goodIn_app (goodIn_of _ (by decide +kernel)) ggX5_soloSteps_X4_hasProcess
set_option maxRecDepth 20000 in
theorem ggX5_soloSteps_X4_copyFrom : GoodIn wsX5_soloSteps wsX4_copyFrom := goodIn_r _ [12, 13, 8, 14, 15, 16, 17, 18, 19, 94, 95, 96, 97, 98, 99, 100, 101] (by decide +kernel) (by decide +kernel)
set_option maxRecDepth 20000 in
theorem gX5_soloSteps_X4_copyFrom : GoodIn wsX5_soloSteps (wsV RX5 108 RX4 yX4_copyFrom wsX4_copyFrom) := goodIn_app (goodIn_of _ (by decide +kernel)) ggX5_soloSteps_X4_copyFrom
set_option maxRecDepth 20000 in
theorem ggX5_soloSteps_X4_advanceUpTo : GoodIn wsX5_soloSteps wsX4_advanceUpTo := goodIn_r _ [23, 24, 25, 26, 6, 27, 15, 28, 29, 30, 31, 32, 33, 34, 35, 13, 14, 16, 17, 36, 37, 38, 39, 40, 41, 42, 43, 44, 45, 46, 47, 48, 49, 50, 51, 52, 53, 54, 55, 56, 57, 58, 59, 60, 61, 62, 63, 64, 65, 66, 67, 68, 69, 70, 71, 72, 73, 74, 75, 76, 77, 78, 79, 80, 81, 82, 83, 84, 85, 18, 19, 94, 95, 96, 97, 98, 99, 100, 101] (by decide +kernel) (by decide +kernel)
set_option maxRecDepth 20000 in
theorem gX5_soloSteps_X4_advanceUpTo : GoodIn wsX5_soloSteps (wsV RX5 112 RX4 yX4_advanceUpTo wsX4_advanceUpTo) := goodIn_app (goodIn_of _ (by decide +kernel)) ggX5_soloSteps_X4_advanceUpTo
theorem dX5_soloSteps_0 : decode cX5_soloSteps 0 = .ok (.aload_n 0, 1) := by decide +kernel
theorem dX5_soloSteps_1 : decode cX5_soloSteps 1 = .ok (.getfield 10, 3) := by decide +kernel
theorem dX5_soloSteps_4 : decode cX5_soloSteps 4 = .ok (.iload_n 1, 1) := by decide +kernel
theorem dX5_soloSteps_5 : decode cX5_soloSteps 5 = .ok (.invokevirtual 48, 3) := by decide +kernel
theorem dX5_soloSteps_8 : decode cX5_soloSteps 8 = .ok (.ifCond .ne 5, 3) := by decide +kernel
theorem dX5_soloSteps_11 : decode cX5_soloSteps 11 = .ok (.iconst (-1), 1) := by decide +kernel
theorem dX5_soloSteps_12 : decode cX5_soloSteps 12 = .ok (.ireturn, 1) := by decide +kernel
theorem dX5_soloSteps_13 : decode cX5_soloSteps 13 = .ok (.aload_n 0, 1) := by decide +kernel
theorem dX5_soloSteps_14 : decode cX5_soloSteps 14 = .ok (.getfield 20, 3) := by decide +kernel
theorem dX5_soloSteps_17 : decode cX5_soloSteps 17 = .ok (.aload_n 0, 1) := by decide +kernel
theorem dX5_soloSteps_18 : decode cX5_soloSteps 18 = .ok (.getfield 10, 3) := by decide +kernel
theorem dX5_soloSteps_21 : decode cX5_soloSteps 21 = .ok (.invokevirtual 108, 3) := by decide +kernel
theorem dX5_soloSteps_24 : decode cX5_soloSteps 24 = .ok (.aload_n 0, 1) := by decide +kernel
theorem dX5_soloSteps_25 : decode cX5_soloSteps 25 = .ok (.getfield 20, 3) := by decide +kernel
theorem dX5_soloSteps_28 : decode cX5_soloSteps 28 = .ok (.iload_n 1, 1) := by decide +kernel
theorem dX5_soloSteps_29 : decode cX5_soloSteps 29 = .ok (.bipush 16, 2) := by decide +kernel
theorem dX5_soloSteps_31 : decode cX5_soloSteps 31 = .ok (.invokevirtual 112, 3) := by decide +kernel
theorem dX5_soloSteps_34 : decode cX5_soloSteps 34 = .ok (.ireturn, 1) := by decide +kernel
set_option maxRecDepth 20000 in
theorem ggX5_soloName_X4_hasProcess : GoodIn wsX5_soloName wsX4_hasProcess := goodIn_r _ [7, 8, 98, 99, 100, 101, 102, 103, 104, 105] (by decide +kernel) (by decide +kernel)
set_option maxRecDepth 20000 in
theorem gX5_soloName_X4_hasProcess : GoodIn wsX5_soloName (wsV RX5 48 RX4 yX4_hasProcess wsX4_hasProcess) := goodIn_app (goodIn_of _ (by decide +kernel)) ggX5_soloName_X4_hasProcess
set_option maxRecDepth 20000 in
theorem ggX5_soloName_X4_copyFrom : GoodIn wsX5_soloName wsX4_copyFrom := goodIn_r _ [12, 13, 8, 14, 15, 16, 17, 18, 19, 98, 99, 100, 101, 102, 103, 104, 105] (by decide +kernel) (by decide +kernel)
set_option maxRecDepth 20000 in
theorem gX5_soloName_X4_copyFrom : GoodIn wsX5_soloName (wsV RX5 108 RX4 yX4_copyFrom wsX4_copyFrom) := goodIn_app (goodIn_of _ (by decide +kernel)) ggX5_soloName_X4_copyFrom
set_option maxRecDepth 20000 in
theorem ggX5_soloName_X4_advanceUpTo : GoodIn wsX5_soloName wsX4_advanceUpTo := goodIn_r _ [23, 24, 25, 26, 6, 27, 15, 28, 29, 30, 31, 32, 33, 34, 35, 13, 14, 16, 17, 36, 37, 38, 39, 40, 41, 42, 43, 44, 45, 46, 47, 48, 49, 50, 51, 52, 53, 54, 55, 56, 57, 58, 59, 60, 61, 62, 63, 64, 65, 66, 67, 68, 69, 70, 71, 72, 73, 74, 75, 76, 77, 78, 79, 80, 81, 82, 83, 84, 85, 18, 19, 98, 99, 100, 101, 102, 103, 104, 105] (by decide +kernel) (by decide +kernel)
set_option maxRecDepth 20000 in
theorem gX5_soloName_X4_advanceUpTo : GoodIn wsX5_soloName (wsV RX5 112 RX4 yX4_advanceUpTo wsX4_advanceUpTo) := goodIn_app (goodIn_of _ (by decide +kernel)) ggX5_soloName_X4_advanceUpTo
set_option maxRecDepth 20000 in
theorem ggX5_soloName_X0_nameIn : GoodIn wsX5_soloName wsX0_nameIn := goodIn_r _ [88, 89, 29, 30, 31, 39, 40, 41] (by decide +kernel) (by decide +kernel)
set_option maxRecDepth 20000 in
theorem gX5_soloName_X0_nameIn : GoodIn wsX5_soloName (va_wsS RX5 116 yX0_nameIn wsX0_nameIn) := goodIn_app (goodIn_of _ (by decide +kernel)) ggX5_soloName_X0_nameIn
theorem dX5_soloName_0 : decode cX5_soloName 0 = .ok (.aload_n 0, 1) := by decide +kernel
theorem dX5_soloName_1 : decode cX5_soloName 1 = .ok (.getfield 10, 3) := by decide +kernel
theorem dX5_soloName_4 : decode cX5_soloName 4 = .ok (.iload_n 1, 1) := by decide +kernel
theorem dX5_soloName_5 : decode cX5_soloName 5 = .ok (.invokevirtual 48, 3) := by decide +kernel
theorem dX5_soloName_8 : decode cX5_soloName 8 = .ok (.ifCond .ne 5, 3) := by decide +kernel
theorem dX5_soloName_11 : decode cX5_soloName 11 = .ok (.iconst (-1), 1) := by decide +kernel
theorem dX5_soloName_12 : decode cX5_soloName 12 = .ok (.ireturn, 1) := by decide +kernel
theorem dX5_soloName_13 : decode cX5_soloName 13 = .ok (.aload_n 0, 1) := by decide +kernel
theorem dX5_soloName_14 : decode cX5_soloName 14 = .ok (.getfield 20, 3) := by decide +kernel
theorem dX5_soloName_17 : decode cX5_soloName 17 = .ok (.aload_n 0, 1) := by decide +kernel
theorem dX5_soloName_18 : decode cX5_soloName 18 = .ok (.getfield 10, 3) := by decide +kernel
theorem dX5_soloName_21 : decode cX5_soloName 21 = .ok (.invokevirtual 108, 3) := by decide +kernel
theorem dX5_soloName_24 : decode cX5_soloName 24 = .ok (.aload_n 0, 1) := by decide +kernel
theorem dX5_soloName_25 : decode cX5_soloName 25 = .ok (.getfield 20, 3) := by decide +kernel
theorem dX5_soloName_28 : decode cX5_soloName 28 = .ok (.iload_n 1, 1) := by decide +kernel
theorem dX5_soloName_29 : decode cX5_soloName 29 = .ok (.bipush 16, 2) := by decide +kernel
theorem dX5_soloName_31 : decode cX5_soloName 31 = .ok (.invokevirtual 112, 3) := by decide +kernel
theorem dX5_soloName_34 : decode cX5_soloName 34 = .ok (.pop, 1) := by decide +kernel
theorem dX5_soloName_35 : decode cX5_soloName 35 = .ok (.aload_n 0, 1) := by decide +kernel
theorem dX5_soloName_36 : decode cX5_soloName 36 = .ok (.getfield 20, 3) := by decide +kernel
theorem dX5_soloName_39 : decode cX5_soloName 39 = .ok (.getfield 84, 3) := by decide +kernel
theorem dX5_soloName_42 : decode cX5_soloName 42 = .ok (.iload_n 1, 1) := by decide +kernel
theorem dX5_soloName_43 : decode cX5_soloName 43 = .ok (.invokestatic 116, 3) := by decide +kernel
theorem dX5_soloName_46 : decode cX5_soloName 46 = .ok (.ireturn, 1) := by decide +kernel
set_option maxRecDepth 20000 in
theorem ggX5_owner_X4_hasSplitter : GoodIn wsX5_owner wsX4_hasSplitter := goodIn_r _ [6, 7, 8, 9, 5, 10, 11, 27, 28, 29, 30, 31, 32, 33, 34] (by decide +kernel) (by decide +kernel)
set_option maxRecDepth 20000 in
theorem gX5_owner_X4_hasSplitter : GoodIn wsX5_owner (wsV RX5 119 RX4 yX4_hasSplitter wsX4_hasSplitter) := goodIn_app (goodIn_of _ (by decide +kernel)) ggX5_owner_X4_hasSplitter
set_option maxRecDepth 20000 in
theorem ggX5_owner_X0_ownerIn : GoodIn wsX5_owner wsX0_ownerIn := goodIn_r _ [15, 16, 17, 14, 18] (by decide +kernel) (by decide +kernel)
set_option maxRecDepth 20000 in
theorem gX5_owner_X0_ownerIn : GoodIn wsX5_owner (va_wsS RX5 122 yX0_ownerIn wsX0_ownerIn) := goodIn_app (goodIn_of _ (by decide +kernel)) ggX5_owner_X0_ownerIn
theorem dX5_owner_0 : decode cX5_owner 0 = .ok (.aload_n 0, 1) := by decide +kernel
theorem dX5_owner_1 : decode cX5_owner 1 = .ok (.getfield 10, 3) := by decide +kernel
theorem dX5_owner_4 : decode cX5_owner 4 = .ok (.iload_n 1, 1) := by decide +kernel
theorem dX5_owner_5 : decode cX5_owner 5 = .ok (.invokevirtual 119, 3) := by decide +kernel
theorem dX5_owner_8 : decode cX5_owner 8 = .ok (.ifCond .ne 5, 3) := by decide +kernel
theorem dX5_owner_11 : decode cX5_owner 11 = .ok (.iconst (-1), 1) := by decide +kernel
theorem dX5_owner_12 : decode cX5_owner 12 = .ok (.ireturn, 1) := by decide +kernel
theorem dX5_owner_13 : decode cX5_owner 13 = .ok (.aload_n 0, 1) := by decide +kernel
theorem dX5_owner_14 : decode cX5_owner 14 = .ok (.getfield 10, 3) := by decide +kernel
theorem dX5_owner_17 : decode cX5_owner 17 = .ok (.getfield 84, 3) := by decide +kernel
theorem dX5_owner_20 : decode cX5_owner 20 = .ok (.iload_n 1, 1) := by decide +kernel
theorem dX5_owner_21 : decode cX5_owner 21 = .ok (.invokestatic 122, 3) := by decide +kernel
theorem dX5_owner_24 : decode cX5_owner 24 = .ok (.ireturn, 1) := by decide +kernel
set_option maxRecDepth 20000 in
theorem ggX5_door_X4_hasSplitter : GoodIn wsX5_door wsX4_hasSplitter := goodIn_r _ [6, 7, 8, 9, 5, 10, 11, 27, 28, 29, 30, 31, 32, 33, 34] (by decide +kernel) (by decide +kernel)
set_option maxRecDepth 20000 in
theorem gX5_door_X4_hasSplitter : GoodIn wsX5_door (wsV RX5 119 RX4 yX4_hasSplitter wsX4_hasSplitter) := goodIn_app (goodIn_of _ (by decide +kernel)) ggX5_door_X4_hasSplitter
set_option maxRecDepth 20000 in
theorem ggX5_door_X0_doorIn : GoodIn wsX5_door wsX0_doorIn := goodIn_r _ [15, 16, 17, 14, 18] (by decide +kernel) (by decide +kernel)
set_option maxRecDepth 20000 in
theorem gX5_door_X0_doorIn : GoodIn wsX5_door (va_wsS RX5 125 yX0_doorIn wsX0_doorIn) := goodIn_app (goodIn_of _ (by decide +kernel)) ggX5_door_X0_doorIn
theorem dX5_door_0 : decode cX5_door 0 = .ok (.aload_n 0, 1) := by decide +kernel
theorem dX5_door_1 : decode cX5_door 1 = .ok (.getfield 10, 3) := by decide +kernel
theorem dX5_door_4 : decode cX5_door 4 = .ok (.iload_n 1, 1) := by decide +kernel
theorem dX5_door_5 : decode cX5_door 5 = .ok (.invokevirtual 119, 3) := by decide +kernel
theorem dX5_door_8 : decode cX5_door 8 = .ok (.ifCond .ne 5, 3) := by decide +kernel
theorem dX5_door_11 : decode cX5_door 11 = .ok (.iconst (-1), 1) := by decide +kernel
theorem dX5_door_12 : decode cX5_door 12 = .ok (.ireturn, 1) := by decide +kernel
theorem dX5_door_13 : decode cX5_door 13 = .ok (.aload_n 0, 1) := by decide +kernel
theorem dX5_door_14 : decode cX5_door 14 = .ok (.getfield 10, 3) := by decide +kernel
theorem dX5_door_17 : decode cX5_door 17 = .ok (.getfield 84, 3) := by decide +kernel
theorem dX5_door_20 : decode cX5_door 20 = .ok (.iload_n 1, 1) := by decide +kernel
theorem dX5_door_21 : decode cX5_door 21 = .ok (.invokestatic 125, 3) := by decide +kernel
theorem dX5_door_24 : decode cX5_door 24 = .ok (.ireturn, 1) := by decide +kernel
set_option maxRecDepth 20000 in
theorem ggX5_entered_X4_hasSplitter : GoodIn wsX5_entered wsX4_hasSplitter := goodIn_r _ [6, 7, 8, 9, 5, 10, 11, 24, 25, 26, 27, 28, 29, 30, 31] (by decide +kernel) (by decide +kernel)
set_option maxRecDepth 20000 in
theorem gX5_entered_X4_hasSplitter : GoodIn wsX5_entered (wsV RX5 119 RX4 yX4_hasSplitter wsX4_hasSplitter) := goodIn_app (goodIn_of _ (by decide +kernel)) ggX5_entered_X4_hasSplitter
set_option maxRecDepth 20000 in
theorem ggX5_entered_X1_countIn : GoodIn wsX5_entered wsX1_countIn := goodIn_r _ [15] (by decide +kernel) (by decide +kernel)
set_option maxRecDepth 20000 in
theorem gX5_entered_X1_countIn : GoodIn wsX5_entered (va_wsS RX5 103 yX1_countIn wsX1_countIn) := goodIn_app (goodIn_of _ (by decide +kernel)) ggX5_entered_X1_countIn
theorem dX5_entered_0 : decode cX5_entered 0 = .ok (.aload_n 0, 1) := by decide +kernel
theorem dX5_entered_1 : decode cX5_entered 1 = .ok (.getfield 10, 3) := by decide +kernel
theorem dX5_entered_4 : decode cX5_entered 4 = .ok (.iload_n 1, 1) := by decide +kernel
theorem dX5_entered_5 : decode cX5_entered 5 = .ok (.invokevirtual 119, 3) := by decide +kernel
theorem dX5_entered_8 : decode cX5_entered 8 = .ok (.ifCond .ne 5, 3) := by decide +kernel
theorem dX5_entered_11 : decode cX5_entered 11 = .ok (.iconst (-1), 1) := by decide +kernel
theorem dX5_entered_12 : decode cX5_entered 12 = .ok (.ireturn, 1) := by decide +kernel
theorem dX5_entered_13 : decode cX5_entered 13 = .ok (.aload_n 0, 1) := by decide +kernel
theorem dX5_entered_14 : decode cX5_entered 14 = .ok (.getfield 10, 3) := by decide +kernel
theorem dX5_entered_17 : decode cX5_entered 17 = .ok (.getfield 128, 3) := by decide +kernel
theorem dX5_entered_20 : decode cX5_entered 20 = .ok (.iload_n 1, 1) := by decide +kernel
theorem dX5_entered_21 : decode cX5_entered 21 = .ok (.invokestatic 103, 3) := by decide +kernel
theorem dX5_entered_24 : decode cX5_entered 24 = .ok (.ireturn, 1) := by decide +kernel
set_option maxRecDepth 20000 in
theorem ggX5_left_X4_hasSplitter : GoodIn wsX5_left wsX4_hasSplitter := goodIn_r _ [6, 7, 8, 9, 5, 10, 11, 24, 25, 26, 27, 28, 29, 30, 31] (by decide +kernel) (by decide +kernel)
set_option maxRecDepth 20000 in
theorem gX5_left_X4_hasSplitter : GoodIn wsX5_left (wsV RX5 119 RX4 yX4_hasSplitter wsX4_hasSplitter) := goodIn_app (goodIn_of _ (by decide +kernel)) ggX5_left_X4_hasSplitter
set_option maxRecDepth 20000 in
theorem ggX5_left_X1_countIn : GoodIn wsX5_left wsX1_countIn := goodIn_r _ [15] (by decide +kernel) (by decide +kernel)
set_option maxRecDepth 20000 in
theorem gX5_left_X1_countIn : GoodIn wsX5_left (va_wsS RX5 103 yX1_countIn wsX1_countIn) := goodIn_app (goodIn_of _ (by decide +kernel)) ggX5_left_X1_countIn
theorem dX5_left_0 : decode cX5_left 0 = .ok (.aload_n 0, 1) := by decide +kernel
theorem dX5_left_1 : decode cX5_left 1 = .ok (.getfield 10, 3) := by decide +kernel
theorem dX5_left_4 : decode cX5_left 4 = .ok (.iload_n 1, 1) := by decide +kernel
theorem dX5_left_5 : decode cX5_left 5 = .ok (.invokevirtual 119, 3) := by decide +kernel
theorem dX5_left_8 : decode cX5_left 8 = .ok (.ifCond .ne 5, 3) := by decide +kernel
theorem dX5_left_11 : decode cX5_left 11 = .ok (.iconst (-1), 1) := by decide +kernel
theorem dX5_left_12 : decode cX5_left 12 = .ok (.ireturn, 1) := by decide +kernel
theorem dX5_left_13 : decode cX5_left 13 = .ok (.iload_n 2, 1) := by decide +kernel
theorem dX5_left_14 : decode cX5_left 14 = .ok (.ifCond .ne 15, 3) := by decide +kernel
theorem dX5_left_17 : decode cX5_left 17 = .ok (.aload_n 0, 1) := by decide +kernel
theorem dX5_left_18 : decode cX5_left 18 = .ok (.getfield 10, 3) := by decide +kernel
theorem dX5_left_21 : decode cX5_left 21 = .ok (.getfield 131, 3) := by decide +kernel
theorem dX5_left_24 : decode cX5_left 24 = .ok (.iload_n 1, 1) := by decide +kernel
theorem dX5_left_25 : decode cX5_left 25 = .ok (.invokestatic 103, 3) := by decide +kernel
theorem dX5_left_28 : decode cX5_left 28 = .ok (.ireturn, 1) := by decide +kernel
theorem dX5_left_29 : decode cX5_left 29 = .ok (.iload_n 2, 1) := by decide +kernel
theorem dX5_left_30 : decode cX5_left 30 = .ok (.iconst 1, 1) := by decide +kernel
theorem dX5_left_31 : decode cX5_left 31 = .ok (.if_icmp .ne 15, 3) := by decide +kernel
theorem dX5_left_34 : decode cX5_left 34 = .ok (.aload_n 0, 1) := by decide +kernel
theorem dX5_left_35 : decode cX5_left 35 = .ok (.getfield 10, 3) := by decide +kernel
theorem dX5_left_38 : decode cX5_left 38 = .ok (.getfield 134, 3) := by decide +kernel
theorem dX5_left_41 : decode cX5_left 41 = .ok (.iload_n 1, 1) := by decide +kernel
theorem dX5_left_42 : decode cX5_left 42 = .ok (.invokestatic 103, 3) := by decide +kernel
theorem dX5_left_45 : decode cX5_left 45 = .ok (.ireturn, 1) := by decide +kernel
theorem dX5_left_46 : decode cX5_left 46 = .ok (.iconst (-1), 1) := by decide +kernel
theorem dX5_left_47 : decode cX5_left 47 = .ok (.ireturn, 1) := by decide +kernel
set_option maxRecDepth 20000 in
theorem ggX5_explore_X2_init : GoodIn wsX5_explore wsX2_init := goodIn_r _ [8, 9, 10, 11, 12, 13, 14, 15, 16, 17, 18, 98, 99, 100, 101, 102, 103, 104] (by decide +kernel) (by decide +kernel)
set_option maxRecDepth 20000 in
theorem gX5_explore_X2_init_n149 : GoodIn wsX5_explore (wsX2_init) := ggX5_explore_X2_init
set_option maxRecDepth 20000 in
theorem ggX5_explore_X2_findAllFrom : GoodIn wsX5_explore wsX2_findAllFrom := goodIn_r _ [22, 17, 23, 24, 25, 26, 27, 28, 29, 30, 31, 5, 32, 33, 34, 35, 36, 37, 13, 15, 16, 38, 39, 40, 41, 42, 43, 44, 45, 46, 47, 48, 49, 50, 51, 52, 53, 54, 55, 56, 57, 58, 59, 60, 61, 62, 63, 64, 65, 66, 67, 68, 69, 70, 71, 72, 73, 74, 75, 76, 77, 78, 79, 80, 81, 82, 83, 84, 85, 86, 87, 88, 89, 98, 99, 100, 101, 102, 103, 104, 105, 106, 107, 108, 109, 110, 111, 112] (by decide +kernel) (by decide +kernel)
set_option maxRecDepth 20000 in
theorem gX5_explore_X2_findAllFrom : GoodIn wsX5_explore (wsV RX5 150 RX2 yX2_findAllFrom wsX2_findAllFrom) := goodIn_app (goodIn_of _ (by decide +kernel)) ggX5_explore_X2_findAllFrom
theorem dX5_explore_0 : decode cX5_explore 0 = .ok (.aload_n 0, 1) := by decide +kernel
theorem dX5_explore_1 : decode cX5_explore 1 = .ok (.getfield 137, 3) := by decide +kernel
theorem dX5_explore_4 : decode cX5_explore 4 = .ok (.ifnull 11, 3) := by decide +kernel
theorem dX5_explore_7 : decode cX5_explore 7 = .ok (.aload_n 0, 1) := by decide +kernel
theorem dX5_explore_8 : decode cX5_explore 8 = .ok (.getfield 137, 3) := by decide +kernel
theorem dX5_explore_11 : decode cX5_explore 11 = .ok (.getfield 141, 3) := by decide +kernel
theorem dX5_explore_14 : decode cX5_explore 14 = .ok (.ireturn, 1) := by decide +kernel
theorem dX5_explore_15 : decode cX5_explore 15 = .ok (.aload_n 0, 1) := by decide +kernel
theorem dX5_explore_16 : decode cX5_explore 16 = .ok (.getfield 146, 3) := by decide +kernel
theorem dX5_explore_19 : decode cX5_explore 19 = .ok (.ifnonnull 14, 3) := by decide +kernel
theorem dX5_explore_22 : decode cX5_explore 22 = .ok (.aload_n 0, 1) := by decide +kernel
theorem dX5_explore_23 : decode cX5_explore 23 = .ok (.new 142, 3) := by decide +kernel
theorem dX5_explore_26 : decode cX5_explore 26 = .ok (.dup, 1) := by decide +kernel
theorem dX5_explore_27 : decode cX5_explore 27 = .ok (.invokespecial 149, 3) := by decide +kernel
theorem dX5_explore_30 : decode cX5_explore 30 = .ok (.putfield 146, 3) := by decide +kernel
theorem dX5_explore_33 : decode cX5_explore 33 = .ok (.aload_n 0, 1) := by decide +kernel
theorem dX5_explore_34 : decode cX5_explore 34 = .ok (.getfield 146, 3) := by decide +kernel
theorem dX5_explore_37 : decode cX5_explore 37 = .ok (.aload_n 0, 1) := by decide +kernel
theorem dX5_explore_38 : decode cX5_explore 38 = .ok (.getfield 10, 3) := by decide +kernel
theorem dX5_explore_41 : decode cX5_explore 41 = .ok (.invokevirtual 150, 3) := by decide +kernel
theorem dX5_explore_44 : decode cX5_explore 44 = .ok (.ifCond .ne 6, 3) := by decide +kernel
theorem dX5_explore_47 : decode cX5_explore 47 = .ok (.bipush (-3), 2) := by decide +kernel
theorem dX5_explore_49 : decode cX5_explore 49 = .ok (.ireturn, 1) := by decide +kernel
theorem dX5_explore_50 : decode cX5_explore 50 = .ok (.aload_n 0, 1) := by decide +kernel
theorem dX5_explore_51 : decode cX5_explore 51 = .ok (.aload_n 0, 1) := by decide +kernel
theorem dX5_explore_52 : decode cX5_explore 52 = .ok (.getfield 146, 3) := by decide +kernel
theorem dX5_explore_55 : decode cX5_explore 55 = .ok (.putfield 137, 3) := by decide +kernel
theorem dX5_explore_58 : decode cX5_explore 58 = .ok (.aload_n 0, 1) := by decide +kernel
theorem dX5_explore_59 : decode cX5_explore 59 = .ok (.getfield 137, 3) := by decide +kernel
theorem dX5_explore_62 : decode cX5_explore 62 = .ok (.getfield 141, 3) := by decide +kernel
theorem dX5_explore_65 : decode cX5_explore 65 = .ok (.ireturn, 1) := by decide +kernel
set_option maxRecDepth 20000 in
theorem ggX5_finalCount_X2_countFinals : GoodIn wsX5_finalCount wsX2_countFinals := goodIn_r _ [6, 7, 8, 9, 10, 5, 11, 12, 13, 14, 15, 16, 17, 18, 19, 20, 21, 30, 31, 32, 33, 34, 35, 36] (by decide +kernel) (by decide +kernel)
set_option maxRecDepth 20000 in
theorem gX5_finalCount_X2_countFinals : GoodIn wsX5_finalCount (wsV RX5 154 RX2 yX2_countFinals wsX2_countFinals) := goodIn_app (goodIn_of _ (by decide +kernel)) ggX5_finalCount_X2_countFinals
theorem dX5_finalCount_0 : decode cX5_finalCount 0 = .ok (.aload_n 0, 1) := by decide +kernel
theorem dX5_finalCount_1 : decode cX5_finalCount 1 = .ok (.getfield 137, 3) := by decide +kernel
theorem dX5_finalCount_4 : decode cX5_finalCount 4 = .ok (.ifnonnull 8, 3) := by decide +kernel
theorem dX5_finalCount_7 : decode cX5_finalCount 7 = .ok (.bipush (-2), 2) := by decide +kernel
theorem dX5_finalCount_9 : decode cX5_finalCount 9 = .ok (.goto 10, 3) := by decide +kernel
theorem dX5_finalCount_12 : decode cX5_finalCount 12 = .ok (.aload_n 0, 1) := by decide +kernel
theorem dX5_finalCount_13 : decode cX5_finalCount 13 = .ok (.getfield 137, 3) := by decide +kernel
theorem dX5_finalCount_16 : decode cX5_finalCount 16 = .ok (.invokevirtual 154, 3) := by decide +kernel
theorem dX5_finalCount_19 : decode cX5_finalCount 19 = .ok (.ireturn, 1) := by decide +kernel
set_option maxRecDepth 20000 in
theorem ggX5_violationCount_X2_countViolations : GoodIn wsX5_violationCount wsX2_countViolations := goodIn_r _ [6, 7, 8, 9, 10, 5, 11, 12, 13, 14, 15, 16, 17, 18, 19, 20, 21, 22, 23, 24, 25, 26, 27, 36, 37, 38, 39, 40, 41, 42] (by decide +kernel) (by decide +kernel)
set_option maxRecDepth 20000 in
theorem gX5_violationCount_X2_countViolations : GoodIn wsX5_violationCount (wsV RX5 157 RX2 yX2_countViolations wsX2_countViolations) := goodIn_app (goodIn_of _ (by decide +kernel)) ggX5_violationCount_X2_countViolations
theorem dX5_violationCount_0 : decode cX5_violationCount 0 = .ok (.aload_n 0, 1) := by decide +kernel
theorem dX5_violationCount_1 : decode cX5_violationCount 1 = .ok (.getfield 137, 3) := by decide +kernel
theorem dX5_violationCount_4 : decode cX5_violationCount 4 = .ok (.ifnonnull 8, 3) := by decide +kernel
theorem dX5_violationCount_7 : decode cX5_violationCount 7 = .ok (.bipush (-2), 2) := by decide +kernel
theorem dX5_violationCount_9 : decode cX5_violationCount 9 = .ok (.goto 10, 3) := by decide +kernel
theorem dX5_violationCount_12 : decode cX5_violationCount 12 = .ok (.aload_n 0, 1) := by decide +kernel
theorem dX5_violationCount_13 : decode cX5_violationCount 13 = .ok (.getfield 137, 3) := by decide +kernel
theorem dX5_violationCount_16 : decode cX5_violationCount 16 = .ok (.invokevirtual 157, 3) := by decide +kernel
theorem dX5_violationCount_19 : decode cX5_violationCount 19 = .ok (.ireturn, 1) := by decide +kernel
set_option maxRecDepth 20000 in
theorem ggX5_violationStep_X2_moverTowardsViolation : GoodIn wsX5_violationStep wsX2_moverTowardsViolation := goodIn_r _ [6, 7, 8, 9, 10, 5, 11, 12, 13, 14, 15, 16, 17, 18, 19, 20, 21, 22, 23, 24, 25, 26, 27, 28, 29, 30, 31, 32, 33, 34, 35, 36, 37, 38, 39, 40, 41, 50, 51, 52, 53, 54, 55, 56] (by decide +kernel) (by decide +kernel)
set_option maxRecDepth 20000 in
theorem gX5_violationStep_X2_moverTowardsViolation : GoodIn wsX5_violationStep (wsV RX5 160 RX2 yX2_moverTowardsViolation wsX2_moverTowardsViolation) := goodIn_app (goodIn_of _ (by decide +kernel)) ggX5_violationStep_X2_moverTowardsViolation
theorem dX5_violationStep_0 : decode cX5_violationStep 0 = .ok (.iload_n 1, 1) := by decide +kernel
theorem dX5_violationStep_1 : decode cX5_violationStep 1 = .ok (.ifCond .ge 5, 3) := by decide +kernel
theorem dX5_violationStep_4 : decode cX5_violationStep 4 = .ok (.iconst (-1), 1) := by decide +kernel
theorem dX5_violationStep_5 : decode cX5_violationStep 5 = .ok (.ireturn, 1) := by decide +kernel
theorem dX5_violationStep_6 : decode cX5_violationStep 6 = .ok (.aload_n 0, 1) := by decide +kernel
theorem dX5_violationStep_7 : decode cX5_violationStep 7 = .ok (.getfield 137, 3) := by decide +kernel
theorem dX5_violationStep_10 : decode cX5_violationStep 10 = .ok (.ifnonnull 8, 3) := by decide +kernel
theorem dX5_violationStep_13 : decode cX5_violationStep 13 = .ok (.bipush (-2), 2) := by decide +kernel
theorem dX5_violationStep_15 : decode cX5_violationStep 15 = .ok (.goto 11, 3) := by decide +kernel
theorem dX5_violationStep_18 : decode cX5_violationStep 18 = .ok (.aload_n 0, 1) := by decide +kernel
theorem dX5_violationStep_19 : decode cX5_violationStep 19 = .ok (.getfield 137, 3) := by decide +kernel
theorem dX5_violationStep_22 : decode cX5_violationStep 22 = .ok (.iload_n 1, 1) := by decide +kernel
theorem dX5_violationStep_23 : decode cX5_violationStep 23 = .ok (.invokevirtual 160, 3) := by decide +kernel
theorem dX5_violationStep_26 : decode cX5_violationStep 26 = .ok (.ireturn, 1) := by decide +kernel
set_option maxRecDepth 20000 in
theorem ggX5_greatestDepth_X2_depthOf : GoodIn wsX5_greatestDepth wsX2_depthOf := goodIn_r _ [6, 7, 8, 9, 5, 10, 11, 20, 21, 22, 23, 24, 25, 26] (by decide +kernel) (by decide +kernel)
set_option maxRecDepth 20000 in
theorem gX5_greatestDepth_X2_depthOf : GoodIn wsX5_greatestDepth (wsV RX5 163 RX2 yX2_depthOf wsX2_depthOf) := goodIn_app (goodIn_of _ (by decide +kernel)) ggX5_greatestDepth_X2_depthOf
theorem dX5_greatestDepth_0 : decode cX5_greatestDepth 0 = .ok (.aload_n 0, 1) := by decide +kernel
theorem dX5_greatestDepth_1 : decode cX5_greatestDepth 1 = .ok (.getfield 137, 3) := by decide +kernel
theorem dX5_greatestDepth_4 : decode cX5_greatestDepth 4 = .ok (.ifnonnull 8, 3) := by decide +kernel
theorem dX5_greatestDepth_7 : decode cX5_greatestDepth 7 = .ok (.bipush (-2), 2) := by decide +kernel
theorem dX5_greatestDepth_9 : decode cX5_greatestDepth 9 = .ok (.goto 19, 3) := by decide +kernel
theorem dX5_greatestDepth_12 : decode cX5_greatestDepth 12 = .ok (.aload_n 0, 1) := by decide +kernel
theorem dX5_greatestDepth_13 : decode cX5_greatestDepth 13 = .ok (.getfield 137, 3) := by decide +kernel
theorem dX5_greatestDepth_16 : decode cX5_greatestDepth 16 = .ok (.aload_n 0, 1) := by decide +kernel
theorem dX5_greatestDepth_17 : decode cX5_greatestDepth 17 = .ok (.getfield 137, 3) := by decide +kernel
theorem dX5_greatestDepth_20 : decode cX5_greatestDepth 20 = .ok (.getfield 141, 3) := by decide +kernel
theorem dX5_greatestDepth_23 : decode cX5_greatestDepth 23 = .ok (.iconst 1, 1) := by decide +kernel
theorem dX5_greatestDepth_24 : decode cX5_greatestDepth 24 = .ok (.isub, 1) := by decide +kernel
theorem dX5_greatestDepth_25 : decode cX5_greatestDepth 25 = .ok (.invokevirtual 163, 3) := by decide +kernel
theorem dX5_greatestDepth_28 : decode cX5_greatestDepth 28 = .ok (.ireturn, 1) := by decide +kernel
set_option maxRecDepth 20000 in
theorem ggX5_greatestName_X2_highestName : GoodIn wsX5_greatestName wsX2_highestName := goodIn_r _ [6, 7, 8, 9, 10, 11, 12, 13, 14, 15, 5, 16, 17, 18, 19, 20, 21, 22, 23, 24, 25, 26, 27, 36, 37, 38, 39, 40, 41, 42] (by decide +kernel) (by decide +kernel)
set_option maxRecDepth 20000 in
theorem gX5_greatestName_X2_highestName : GoodIn wsX5_greatestName (wsV RX5 166 RX2 yX2_highestName wsX2_highestName) := goodIn_app (goodIn_of _ (by decide +kernel)) ggX5_greatestName_X2_highestName
theorem dX5_greatestName_0 : decode cX5_greatestName 0 = .ok (.aload_n 0, 1) := by decide +kernel
theorem dX5_greatestName_1 : decode cX5_greatestName 1 = .ok (.getfield 137, 3) := by decide +kernel
theorem dX5_greatestName_4 : decode cX5_greatestName 4 = .ok (.ifnonnull 8, 3) := by decide +kernel
theorem dX5_greatestName_7 : decode cX5_greatestName 7 = .ok (.bipush (-2), 2) := by decide +kernel
theorem dX5_greatestName_9 : decode cX5_greatestName 9 = .ok (.goto 10, 3) := by decide +kernel
theorem dX5_greatestName_12 : decode cX5_greatestName 12 = .ok (.aload_n 0, 1) := by decide +kernel
theorem dX5_greatestName_13 : decode cX5_greatestName 13 = .ok (.getfield 137, 3) := by decide +kernel
theorem dX5_greatestName_16 : decode cX5_greatestName 16 = .ok (.invokevirtual 166, 3) := by decide +kernel
theorem dX5_greatestName_19 : decode cX5_greatestName 19 = .ok (.ireturn, 1) := by decide +kernel
set_option maxRecDepth 20000 in
theorem ggX5_outcomeCount_X2_countOutcomes : GoodIn wsX5_outcomeCount wsX2_countOutcomes := goodIn_r _ [6, 7, 8, 9, 10, 11, 12, 13, 14, 15, 5, 16, 17, 18, 19, 20, 21, 22, 23, 24, 25, 26, 27, 28, 29, 30, 31, 32, 33, 34, 35, 36, 37, 38, 39, 40, 41, 42, 43, 44, 45, 46, 47, 48, 57, 58, 59, 60, 61, 62, 63] (by decide +kernel) (by decide +kernel)
set_option maxRecDepth 20000 in
theorem gX5_outcomeCount_X2_countOutcomes : GoodIn wsX5_outcomeCount (wsV RX5 169 RX2 yX2_countOutcomes wsX2_countOutcomes) := goodIn_app (goodIn_of _ (by decide +kernel)) ggX5_outcomeCount_X2_countOutcomes
theorem dX5_outcomeCount_0 : decode cX5_outcomeCount 0 = .ok (.aload_n 0, 1) := by decide +kernel
theorem dX5_outcomeCount_1 : decode cX5_outcomeCount 1 = .ok (.getfield 137, 3) := by decide +kernel
theorem dX5_outcomeCount_4 : decode cX5_outcomeCount 4 = .ok (.ifnonnull 8, 3) := by decide +kernel
theorem dX5_outcomeCount_7 : decode cX5_outcomeCount 7 = .ok (.bipush (-2), 2) := by decide +kernel
theorem dX5_outcomeCount_9 : decode cX5_outcomeCount 9 = .ok (.goto 10, 3) := by decide +kernel
theorem dX5_outcomeCount_12 : decode cX5_outcomeCount 12 = .ok (.aload_n 0, 1) := by decide +kernel
theorem dX5_outcomeCount_13 : decode cX5_outcomeCount 13 = .ok (.getfield 137, 3) := by decide +kernel
theorem dX5_outcomeCount_16 : decode cX5_outcomeCount 16 = .ok (.invokevirtual 169, 3) := by decide +kernel
theorem dX5_outcomeCount_19 : decode cX5_outcomeCount 19 = .ok (.ireturn, 1) := by decide +kernel
set_option maxRecDepth 20000 in
theorem ggX5_finalsWith_X4_hasProcess : GoodIn wsX5_finalsWith wsX4_hasProcess := goodIn_r _ [7, 8, 53, 54, 55, 56, 57, 58, 59, 60] (by decide +kernel) (by decide +kernel)
set_option maxRecDepth 20000 in
theorem gX5_finalsWith_X4_hasProcess : GoodIn wsX5_finalsWith (wsV RX5 48 RX4 yX4_hasProcess wsX4_hasProcess) := goodIn_app (goodIn_of _ (by decide +kernel)) ggX5_finalsWith_X4_hasProcess
set_option maxRecDepth 20000 in
theorem ggX5_finalsWith_X4_hasSplitter : GoodIn wsX5_finalsWith wsX4_hasSplitter := goodIn_r _ [12, 13, 14, 15, 6, 16, 17, 53, 54, 55, 56, 57, 58, 59, 60] (by decide +kernel) (by decide +kernel)
set_option maxRecDepth 20000 in
theorem gX5_finalsWith_X4_hasSplitter : GoodIn wsX5_finalsWith (wsV RX5 119 RX4 yX4_hasSplitter wsX4_hasSplitter) := goodIn_app (goodIn_of _ (by decide +kernel)) ggX5_finalsWith_X4_hasSplitter
set_option maxRecDepth 20000 in
theorem ggX5_finalsWith_X2_countFinalsNamed : GoodIn wsX5_finalsWith wsX2_countFinalsNamed := goodIn_r _ [22, 23, 24, 25, 26, 21, 27, 28, 29, 30, 31, 32, 33, 34, 35, 36, 37, 38, 39, 40, 41, 42, 43, 44, 61, 62, 63, 64, 65, 66, 67] (by decide +kernel) (by decide +kernel)
set_option maxRecDepth 20000 in
theorem gX5_finalsWith_X2_countFinalsNamed : GoodIn wsX5_finalsWith (wsV RX5 172 RX2 yX2_countFinalsNamed wsX2_countFinalsNamed) := goodIn_app (goodIn_of _ (by decide +kernel)) ggX5_finalsWith_X2_countFinalsNamed
theorem dX5_finalsWith_0 : decode cX5_finalsWith 0 = .ok (.aload_n 0, 1) := by decide +kernel
theorem dX5_finalsWith_1 : decode cX5_finalsWith 1 = .ok (.getfield 10, 3) := by decide +kernel
theorem dX5_finalsWith_4 : decode cX5_finalsWith 4 = .ok (.iload_n 1, 1) := by decide +kernel
theorem dX5_finalsWith_5 : decode cX5_finalsWith 5 = .ok (.invokevirtual 48, 3) := by decide +kernel
theorem dX5_finalsWith_8 : decode cX5_finalsWith 8 = .ok (.ifCond .eq 14, 3) := by decide +kernel
theorem dX5_finalsWith_11 : decode cX5_finalsWith 11 = .ok (.aload_n 0, 1) := by decide +kernel
theorem dX5_finalsWith_12 : decode cX5_finalsWith 12 = .ok (.getfield 10, 3) := by decide +kernel
theorem dX5_finalsWith_15 : decode cX5_finalsWith 15 = .ok (.iload_n 2, 1) := by decide +kernel
theorem dX5_finalsWith_16 : decode cX5_finalsWith 16 = .ok (.invokevirtual 119, 3) := by decide +kernel
theorem dX5_finalsWith_19 : decode cX5_finalsWith 19 = .ok (.ifCond .ne 5, 3) := by decide +kernel
theorem dX5_finalsWith_22 : decode cX5_finalsWith 22 = .ok (.iconst (-1), 1) := by decide +kernel
theorem dX5_finalsWith_23 : decode cX5_finalsWith 23 = .ok (.ireturn, 1) := by decide +kernel
theorem dX5_finalsWith_24 : decode cX5_finalsWith 24 = .ok (.aload_n 0, 1) := by decide +kernel
theorem dX5_finalsWith_25 : decode cX5_finalsWith 25 = .ok (.getfield 137, 3) := by decide +kernel
theorem dX5_finalsWith_28 : decode cX5_finalsWith 28 = .ok (.ifnonnull 8, 3) := by decide +kernel
theorem dX5_finalsWith_31 : decode cX5_finalsWith 31 = .ok (.bipush (-2), 2) := by decide +kernel
theorem dX5_finalsWith_33 : decode cX5_finalsWith 33 = .ok (.goto 12, 3) := by decide +kernel
theorem dX5_finalsWith_36 : decode cX5_finalsWith 36 = .ok (.aload_n 0, 1) := by decide +kernel
theorem dX5_finalsWith_37 : decode cX5_finalsWith 37 = .ok (.getfield 137, 3) := by decide +kernel
theorem dX5_finalsWith_40 : decode cX5_finalsWith 40 = .ok (.iload_n 1, 1) := by decide +kernel
theorem dX5_finalsWith_41 : decode cX5_finalsWith 41 = .ok (.iload_n 2, 1) := by decide +kernel
theorem dX5_finalsWith_42 : decode cX5_finalsWith 42 = .ok (.invokevirtual 172, 3) := by decide +kernel
theorem dX5_finalsWith_45 : decode cX5_finalsWith 45 = .ok (.ireturn, 1) := by decide +kernel
set_option maxRecDepth 20000 in
theorem ggX5_undo_X4_copyFrom : GoodIn wsX5_undo wsX4_copyFrom := goodIn_r _ [9, 10, 11, 12, 13, 14, 15, 16, 17, 26, 27, 28, 29, 30, 31, 32, 33] (by decide +kernel) (by decide +kernel)
set_option maxRecDepth 20000 in
theorem gX5_undo_X4_copyFrom : GoodIn wsX5_undo (wsV RX5 108 RX4 yX4_copyFrom wsX4_copyFrom) := goodIn_app (goodIn_of _ (by decide +kernel)) ggX5_undo_X4_copyFrom
theorem dX5_undo_0 : decode cX5_undo 0 = .ok (.aload_n 0, 1) := by decide +kernel
theorem dX5_undo_1 : decode cX5_undo 1 = .ok (.getfield 175, 3) := by decide +kernel
theorem dX5_undo_4 : decode cX5_undo 4 = .ok (.ifCond .le 15, 3) := by decide +kernel
theorem dX5_undo_7 : decode cX5_undo 7 = .ok (.aload_n 0, 1) := by decide +kernel
theorem dX5_undo_8 : decode cX5_undo 8 = .ok (.getfield 175, 3) := by decide +kernel
theorem dX5_undo_11 : decode cX5_undo 11 = .ok (.aload_n 0, 1) := by decide +kernel
theorem dX5_undo_12 : decode cX5_undo 12 = .ok (.getfield 23, 3) := by decide +kernel
theorem dX5_undo_15 : decode cX5_undo 15 = .ok (.arraylength, 1) := by decide +kernel
theorem dX5_undo_16 : decode cX5_undo 16 = .ok (.if_icmp .le 6, 3) := by decide +kernel
theorem dX5_undo_19 : decode cX5_undo 19 = .ok (.bipush (-2), 2) := by decide +kernel
theorem dX5_undo_21 : decode cX5_undo 21 = .ok (.ireturn, 1) := by decide +kernel
theorem dX5_undo_22 : decode cX5_undo 22 = .ok (.aload_n 0, 1) := by decide +kernel
theorem dX5_undo_23 : decode cX5_undo 23 = .ok (.dup, 1) := by decide +kernel
theorem dX5_undo_24 : decode cX5_undo 24 = .ok (.getfield 175, 3) := by decide +kernel
theorem dX5_undo_27 : decode cX5_undo 27 = .ok (.iconst 1, 1) := by decide +kernel
theorem dX5_undo_28 : decode cX5_undo 28 = .ok (.isub, 1) := by decide +kernel
theorem dX5_undo_29 : decode cX5_undo 29 = .ok (.putfield 175, 3) := by decide +kernel
theorem dX5_undo_32 : decode cX5_undo 32 = .ok (.aload_n 0, 1) := by decide +kernel
theorem dX5_undo_33 : decode cX5_undo 33 = .ok (.getfield 10, 3) := by decide +kernel
theorem dX5_undo_36 : decode cX5_undo 36 = .ok (.aload_n 0, 1) := by decide +kernel
theorem dX5_undo_37 : decode cX5_undo 37 = .ok (.getfield 23, 3) := by decide +kernel
theorem dX5_undo_40 : decode cX5_undo 40 = .ok (.aload_n 0, 1) := by decide +kernel
theorem dX5_undo_41 : decode cX5_undo 41 = .ok (.getfield 175, 3) := by decide +kernel
theorem dX5_undo_44 : decode cX5_undo 44 = .ok (.aaload, 1) := by decide +kernel
theorem dX5_undo_45 : decode cX5_undo 45 = .ok (.invokevirtual 108, 3) := by decide +kernel
theorem dX5_undo_48 : decode cX5_undo 48 = .ok (.aload_n 0, 1) := by decide +kernel
theorem dX5_undo_49 : decode cX5_undo 49 = .ok (.aconst_null, 1) := by decide +kernel
theorem dX5_undo_50 : decode cX5_undo 50 = .ok (.putfield 137, 3) := by decide +kernel
theorem dX5_undo_53 : decode cX5_undo 53 = .ok (.aload_n 0, 1) := by decide +kernel
theorem dX5_undo_54 : decode cX5_undo 54 = .ok (.getfield 175, 3) := by decide +kernel
theorem dX5_undo_57 : decode cX5_undo 57 = .ok (.ireturn, 1) := by decide +kernel
set_option maxRecDepth 20000 in
theorem ggX5_save_X4_init : GoodIn wsX5_save wsX4_init := goodIn_r _ [7, 8, 9, 10] (by decide +kernel) (by decide +kernel)
set_option maxRecDepth 20000 in
theorem gX5_save_X4_init_n9 : GoodIn wsX5_save (wsX4_init) := ggX5_save_X4_init
set_option maxRecDepth 20000 in
theorem ggX5_save_X4_copyFrom : GoodIn wsX5_save wsX4_copyFrom := goodIn_r _ [14, 15, 16, 17, 18, 19, 20, 21, 22, 43, 44, 45, 46, 47, 48, 49, 50] (by decide +kernel) (by decide +kernel)
set_option maxRecDepth 20000 in
theorem gX5_save_X4_copyFrom : GoodIn wsX5_save (wsV RX5 108 RX4 yX4_copyFrom wsX4_copyFrom) := goodIn_app (goodIn_of _ (by decide +kernel)) ggX5_save_X4_copyFrom
set_option maxRecDepth 20000 in
theorem ggX5_save_X4_countRunning : GoodIn wsX5_save wsX4_countRunning := goodIn_r _ [26, 16, 27, 28, 29, 4, 30, 18, 31, 32, 33, 34, 43, 44, 45, 46, 47, 48, 49, 50] (by decide +kernel) (by decide +kernel)
set_option maxRecDepth 20000 in
theorem gX5_save_X4_countRunning : GoodIn wsX5_save (wsV RX5 63 RX4 yX4_countRunning wsX4_countRunning) := goodIn_app (goodIn_of _ (by decide +kernel)) ggX5_save_X4_countRunning
theorem dX5_save_0 : decode cX5_save 0 = .ok (.iload_n 1, 1) := by decide +kernel
theorem dX5_save_1 : decode cX5_save 1 = .ok (.ifCond .lt 12, 3) := by decide +kernel
theorem dX5_save_4 : decode cX5_save 4 = .ok (.iload_n 1, 1) := by decide +kernel
theorem dX5_save_5 : decode cX5_save 5 = .ok (.aload_n 0, 1) := by decide +kernel
theorem dX5_save_6 : decode cX5_save 6 = .ok (.getfield 27, 3) := by decide +kernel
theorem dX5_save_9 : decode cX5_save 9 = .ok (.arraylength, 1) := by decide +kernel
theorem dX5_save_10 : decode cX5_save 10 = .ok (.if_icmp .lt 5, 3) := by decide +kernel
theorem dX5_save_13 : decode cX5_save 13 = .ok (.iconst (-1), 1) := by decide +kernel
theorem dX5_save_14 : decode cX5_save 14 = .ok (.ireturn, 1) := by decide +kernel
theorem dX5_save_15 : decode cX5_save 15 = .ok (.aload_n 0, 1) := by decide +kernel
theorem dX5_save_16 : decode cX5_save 16 = .ok (.getfield 27, 3) := by decide +kernel
theorem dX5_save_19 : decode cX5_save 19 = .ok (.iload_n 1, 1) := by decide +kernel
theorem dX5_save_20 : decode cX5_save 20 = .ok (.aaload, 1) := by decide +kernel
theorem dX5_save_21 : decode cX5_save 21 = .ok (.ifnonnull 16, 3) := by decide +kernel
theorem dX5_save_24 : decode cX5_save 24 = .ok (.aload_n 0, 1) := by decide +kernel
theorem dX5_save_25 : decode cX5_save 25 = .ok (.getfield 27, 3) := by decide +kernel
theorem dX5_save_28 : decode cX5_save 28 = .ok (.iload_n 1, 1) := by decide +kernel
theorem dX5_save_29 : decode cX5_save 29 = .ok (.new 7, 3) := by decide +kernel
theorem dX5_save_32 : decode cX5_save 32 = .ok (.dup, 1) := by decide +kernel
theorem dX5_save_33 : decode cX5_save 33 = .ok (.invokespecial 9, 3) := by decide +kernel
theorem dX5_save_36 : decode cX5_save 36 = .ok (.aastore, 1) := by decide +kernel
theorem dX5_save_37 : decode cX5_save 37 = .ok (.aload_n 0, 1) := by decide +kernel
theorem dX5_save_38 : decode cX5_save 38 = .ok (.getfield 27, 3) := by decide +kernel
theorem dX5_save_41 : decode cX5_save 41 = .ok (.iload_n 1, 1) := by decide +kernel
theorem dX5_save_42 : decode cX5_save 42 = .ok (.aaload, 1) := by decide +kernel
theorem dX5_save_43 : decode cX5_save 43 = .ok (.aload_n 0, 1) := by decide +kernel
theorem dX5_save_44 : decode cX5_save 44 = .ok (.getfield 10, 3) := by decide +kernel
theorem dX5_save_47 : decode cX5_save 47 = .ok (.invokevirtual 108, 3) := by decide +kernel
theorem dX5_save_50 : decode cX5_save 50 = .ok (.aload_n 0, 1) := by decide +kernel
theorem dX5_save_51 : decode cX5_save 51 = .ok (.getfield 10, 3) := by decide +kernel
theorem dX5_save_54 : decode cX5_save 54 = .ok (.invokevirtual 63, 3) := by decide +kernel
theorem dX5_save_57 : decode cX5_save 57 = .ok (.ireturn, 1) := by decide +kernel
set_option maxRecDepth 20000 in
theorem ggX5_restore_X4_copyFrom : GoodIn wsX5_restore wsX4_copyFrom := goodIn_r _ [9, 10, 11, 12, 13, 14, 15, 16, 17, 38, 39, 40, 41, 42, 43, 44, 45] (by decide +kernel) (by decide +kernel)
set_option maxRecDepth 20000 in
theorem gX5_restore_X4_copyFrom : GoodIn wsX5_restore (wsV RX5 108 RX4 yX4_copyFrom wsX4_copyFrom) := goodIn_app (goodIn_of _ (by decide +kernel)) ggX5_restore_X4_copyFrom
set_option maxRecDepth 20000 in
theorem ggX5_restore_X4_countRunning : GoodIn wsX5_restore wsX4_countRunning := goodIn_r _ [21, 11, 22, 23, 24, 8, 25, 13, 26, 27, 28, 29, 38, 39, 40, 41, 42, 43, 44, 45] (by decide +kernel) (by decide +kernel)
set_option maxRecDepth 20000 in
theorem gX5_restore_X4_countRunning : GoodIn wsX5_restore (wsV RX5 63 RX4 yX4_countRunning wsX4_countRunning) := goodIn_app (goodIn_of _ (by decide +kernel)) ggX5_restore_X4_countRunning
theorem dX5_restore_0 : decode cX5_restore 0 = .ok (.iload_n 1, 1) := by decide +kernel
theorem dX5_restore_1 : decode cX5_restore 1 = .ok (.ifCond .lt 12, 3) := by decide +kernel
theorem dX5_restore_4 : decode cX5_restore 4 = .ok (.iload_n 1, 1) := by decide +kernel
theorem dX5_restore_5 : decode cX5_restore 5 = .ok (.aload_n 0, 1) := by decide +kernel
theorem dX5_restore_6 : decode cX5_restore 6 = .ok (.getfield 27, 3) := by decide +kernel
theorem dX5_restore_9 : decode cX5_restore 9 = .ok (.arraylength, 1) := by decide +kernel
theorem dX5_restore_10 : decode cX5_restore 10 = .ok (.if_icmp .lt 5, 3) := by decide +kernel
theorem dX5_restore_13 : decode cX5_restore 13 = .ok (.iconst (-1), 1) := by decide +kernel
theorem dX5_restore_14 : decode cX5_restore 14 = .ok (.ireturn, 1) := by decide +kernel
theorem dX5_restore_15 : decode cX5_restore 15 = .ok (.aload_n 0, 1) := by decide +kernel
theorem dX5_restore_16 : decode cX5_restore 16 = .ok (.getfield 27, 3) := by decide +kernel
theorem dX5_restore_19 : decode cX5_restore 19 = .ok (.iload_n 1, 1) := by decide +kernel
theorem dX5_restore_20 : decode cX5_restore 20 = .ok (.aaload, 1) := by decide +kernel
theorem dX5_restore_21 : decode cX5_restore 21 = .ok (.ifnonnull 6, 3) := by decide +kernel
theorem dX5_restore_24 : decode cX5_restore 24 = .ok (.bipush (-2), 2) := by decide +kernel
theorem dX5_restore_26 : decode cX5_restore 26 = .ok (.ireturn, 1) := by decide +kernel
theorem dX5_restore_27 : decode cX5_restore 27 = .ok (.aload_n 0, 1) := by decide +kernel
theorem dX5_restore_28 : decode cX5_restore 28 = .ok (.getfield 10, 3) := by decide +kernel
theorem dX5_restore_31 : decode cX5_restore 31 = .ok (.aload_n 0, 1) := by decide +kernel
theorem dX5_restore_32 : decode cX5_restore 32 = .ok (.getfield 27, 3) := by decide +kernel
theorem dX5_restore_35 : decode cX5_restore 35 = .ok (.iload_n 1, 1) := by decide +kernel
theorem dX5_restore_36 : decode cX5_restore 36 = .ok (.aaload, 1) := by decide +kernel
theorem dX5_restore_37 : decode cX5_restore 37 = .ok (.invokevirtual 108, 3) := by decide +kernel
theorem dX5_restore_40 : decode cX5_restore 40 = .ok (.aload_n 0, 1) := by decide +kernel
theorem dX5_restore_41 : decode cX5_restore 41 = .ok (.iconst 0, 1) := by decide +kernel
theorem dX5_restore_42 : decode cX5_restore 42 = .ok (.putfield 175, 3) := by decide +kernel
theorem dX5_restore_45 : decode cX5_restore 45 = .ok (.aload_n 0, 1) := by decide +kernel
theorem dX5_restore_46 : decode cX5_restore 46 = .ok (.aconst_null, 1) := by decide +kernel
theorem dX5_restore_47 : decode cX5_restore 47 = .ok (.putfield 137, 3) := by decide +kernel
theorem dX5_restore_50 : decode cX5_restore 50 = .ok (.aload_n 0, 1) := by decide +kernel
theorem dX5_restore_51 : decode cX5_restore 51 = .ok (.getfield 10, 3) := by decide +kernel
theorem dX5_restore_54 : decode cX5_restore 54 = .ok (.invokevirtual 63, 3) := by decide +kernel
theorem dX5_restore_57 : decode cX5_restore 57 = .ok (.ireturn, 1) := by decide +kernel
set_option maxRecDepth 20000 in
theorem ggX5_prepareChange_X5_discardOldestSaved : GoodIn wsX5_prepareChange wsX5_discardOldestSaved := goodIn_r _ [9, 2, 1, 23, 24, 25, 26, 27, 28, 29, 30] (by decide +kernel) (by decide +kernel)
set_option maxRecDepth 20000 in
theorem gX5_prepareChange_X5_discardOldestSaved : GoodIn wsX5_prepareChange (wsV RX5 178 RX5 yX5_discardOldestSaved wsX5_discardOldestSaved) := goodIn_app (goodIn_of _ (by decide +kernel)) ggX5_prepareChange_X5_discardOldestSaved
set_option maxRecDepth 20000 in
theorem ggX5_prepareChange_X4_copyFrom : GoodIn wsX5_prepareChange wsX4_copyFrom := goodIn_r _ [14, 15, 16, 17, 18, 19, 20, 21, 22, 31, 32, 33, 34, 35, 36, 37, 38] (by decide +kernel) (by decide +kernel)
set_option maxRecDepth 20000 in
theorem gX5_prepareChange_X4_copyFrom : GoodIn wsX5_prepareChange (wsV RX5 108 RX4 yX4_copyFrom wsX4_copyFrom) := goodIn_app (goodIn_of _ (by decide +kernel)) ggX5_prepareChange_X4_copyFrom
theorem dX5_prepareChange_0 : decode cX5_prepareChange 0 = .ok (.aload_n 0, 1) := by decide +kernel
theorem dX5_prepareChange_1 : decode cX5_prepareChange 1 = .ok (.getfield 175, 3) := by decide +kernel
theorem dX5_prepareChange_4 : decode cX5_prepareChange 4 = .ok (.aload_n 0, 1) := by decide +kernel
theorem dX5_prepareChange_5 : decode cX5_prepareChange 5 = .ok (.getfield 23, 3) := by decide +kernel
theorem dX5_prepareChange_8 : decode cX5_prepareChange 8 = .ok (.arraylength, 1) := by decide +kernel
theorem dX5_prepareChange_9 : decode cX5_prepareChange 9 = .ok (.if_icmp .lt 7, 3) := by decide +kernel
theorem dX5_prepareChange_12 : decode cX5_prepareChange 12 = .ok (.aload_n 0, 1) := by decide +kernel
theorem dX5_prepareChange_13 : decode cX5_prepareChange 13 = .ok (.invokevirtual 178, 3) := by decide +kernel
theorem dX5_prepareChange_16 : decode cX5_prepareChange 16 = .ok (.aload_n 0, 1) := by decide +kernel
theorem dX5_prepareChange_17 : decode cX5_prepareChange 17 = .ok (.getfield 23, 3) := by decide +kernel
theorem dX5_prepareChange_20 : decode cX5_prepareChange 20 = .ok (.aload_n 0, 1) := by decide +kernel
theorem dX5_prepareChange_21 : decode cX5_prepareChange 21 = .ok (.getfield 175, 3) := by decide +kernel
theorem dX5_prepareChange_24 : decode cX5_prepareChange 24 = .ok (.aaload, 1) := by decide +kernel
theorem dX5_prepareChange_25 : decode cX5_prepareChange 25 = .ok (.aload_n 0, 1) := by decide +kernel
theorem dX5_prepareChange_26 : decode cX5_prepareChange 26 = .ok (.getfield 10, 3) := by decide +kernel
theorem dX5_prepareChange_29 : decode cX5_prepareChange 29 = .ok (.invokevirtual 108, 3) := by decide +kernel
theorem dX5_prepareChange_32 : decode cX5_prepareChange 32 = .ok (.aload_n 0, 1) := by decide +kernel
theorem dX5_prepareChange_33 : decode cX5_prepareChange 33 = .ok (.dup, 1) := by decide +kernel
theorem dX5_prepareChange_34 : decode cX5_prepareChange 34 = .ok (.getfield 175, 3) := by decide +kernel
theorem dX5_prepareChange_37 : decode cX5_prepareChange 37 = .ok (.iconst 1, 1) := by decide +kernel
theorem dX5_prepareChange_38 : decode cX5_prepareChange 38 = .ok (.iadd, 1) := by decide +kernel
theorem dX5_prepareChange_39 : decode cX5_prepareChange 39 = .ok (.putfield 175, 3) := by decide +kernel
theorem dX5_prepareChange_42 : decode cX5_prepareChange 42 = .ok (.aload_n 0, 1) := by decide +kernel
theorem dX5_prepareChange_43 : decode cX5_prepareChange 43 = .ok (.aconst_null, 1) := by decide +kernel
theorem dX5_prepareChange_44 : decode cX5_prepareChange 44 = .ok (.putfield 137, 3) := by decide +kernel
theorem dX5_prepareChange_47 : decode cX5_prepareChange 47 = .ok (.return_, 1) := by decide +kernel
theorem dX5_discardOldestSaved_0 : decode cX5_discardOldestSaved 0 = .ok (.aload_n 0, 1) := by decide +kernel
theorem dX5_discardOldestSaved_1 : decode cX5_discardOldestSaved 1 = .ok (.getfield 23, 3) := by decide +kernel
theorem dX5_discardOldestSaved_4 : decode cX5_discardOldestSaved 4 = .ok (.iconst 0, 1) := by decide +kernel
theorem dX5_discardOldestSaved_5 : decode cX5_discardOldestSaved 5 = .ok (.aaload, 1) := by decide +kernel
theorem dX5_discardOldestSaved_6 : decode cX5_discardOldestSaved 6 = .ok (.astore_n 1, 1) := by decide +kernel
theorem dX5_discardOldestSaved_7 : decode cX5_discardOldestSaved 7 = .ok (.iconst 1, 1) := by decide +kernel
theorem dX5_discardOldestSaved_8 : decode cX5_discardOldestSaved 8 = .ok (.istore_n 2, 1) := by decide +kernel
theorem dX5_discardOldestSaved_9 : decode cX5_discardOldestSaved 9 = .ok (.iload_n 2, 1) := by decide +kernel
theorem dX5_discardOldestSaved_10 : decode cX5_discardOldestSaved 10 = .ok (.aload_n 0, 1) := by decide +kernel
theorem dX5_discardOldestSaved_11 : decode cX5_discardOldestSaved 11 = .ok (.getfield 23, 3) := by decide +kernel
theorem dX5_discardOldestSaved_14 : decode cX5_discardOldestSaved 14 = .ok (.arraylength, 1) := by decide +kernel
theorem dX5_discardOldestSaved_15 : decode cX5_discardOldestSaved 15 = .ok (.if_icmp .ge 23, 3) := by decide +kernel
theorem dX5_discardOldestSaved_18 : decode cX5_discardOldestSaved 18 = .ok (.aload_n 0, 1) := by decide +kernel
theorem dX5_discardOldestSaved_19 : decode cX5_discardOldestSaved 19 = .ok (.getfield 23, 3) := by decide +kernel
theorem dX5_discardOldestSaved_22 : decode cX5_discardOldestSaved 22 = .ok (.iload_n 2, 1) := by decide +kernel
theorem dX5_discardOldestSaved_23 : decode cX5_discardOldestSaved 23 = .ok (.iconst 1, 1) := by decide +kernel
theorem dX5_discardOldestSaved_24 : decode cX5_discardOldestSaved 24 = .ok (.isub, 1) := by decide +kernel
theorem dX5_discardOldestSaved_25 : decode cX5_discardOldestSaved 25 = .ok (.aload_n 0, 1) := by decide +kernel
theorem dX5_discardOldestSaved_26 : decode cX5_discardOldestSaved 26 = .ok (.getfield 23, 3) := by decide +kernel
theorem dX5_discardOldestSaved_29 : decode cX5_discardOldestSaved 29 = .ok (.iload_n 2, 1) := by decide +kernel
theorem dX5_discardOldestSaved_30 : decode cX5_discardOldestSaved 30 = .ok (.aaload, 1) := by decide +kernel
theorem dX5_discardOldestSaved_31 : decode cX5_discardOldestSaved 31 = .ok (.aastore, 1) := by decide +kernel
theorem dX5_discardOldestSaved_32 : decode cX5_discardOldestSaved 32 = .ok (.iinc 2 1, 3) := by decide +kernel
theorem dX5_discardOldestSaved_35 : decode cX5_discardOldestSaved 35 = .ok (.goto (-26), 3) := by decide +kernel
theorem dX5_discardOldestSaved_38 : decode cX5_discardOldestSaved 38 = .ok (.aload_n 0, 1) := by decide +kernel
theorem dX5_discardOldestSaved_39 : decode cX5_discardOldestSaved 39 = .ok (.getfield 23, 3) := by decide +kernel
theorem dX5_discardOldestSaved_42 : decode cX5_discardOldestSaved 42 = .ok (.aload_n 0, 1) := by decide +kernel
theorem dX5_discardOldestSaved_43 : decode cX5_discardOldestSaved 43 = .ok (.getfield 23, 3) := by decide +kernel
theorem dX5_discardOldestSaved_46 : decode cX5_discardOldestSaved 46 = .ok (.arraylength, 1) := by decide +kernel
theorem dX5_discardOldestSaved_47 : decode cX5_discardOldestSaved 47 = .ok (.iconst 1, 1) := by decide +kernel
theorem dX5_discardOldestSaved_48 : decode cX5_discardOldestSaved 48 = .ok (.isub, 1) := by decide +kernel
theorem dX5_discardOldestSaved_49 : decode cX5_discardOldestSaved 49 = .ok (.aload_n 1, 1) := by decide +kernel
theorem dX5_discardOldestSaved_50 : decode cX5_discardOldestSaved 50 = .ok (.aastore, 1) := by decide +kernel
theorem dX5_discardOldestSaved_51 : decode cX5_discardOldestSaved 51 = .ok (.aload_n 0, 1) := by decide +kernel
theorem dX5_discardOldestSaved_52 : decode cX5_discardOldestSaved 52 = .ok (.aload_n 0, 1) := by decide +kernel
theorem dX5_discardOldestSaved_53 : decode cX5_discardOldestSaved 53 = .ok (.getfield 23, 3) := by decide +kernel
theorem dX5_discardOldestSaved_56 : decode cX5_discardOldestSaved 56 = .ok (.arraylength, 1) := by decide +kernel
theorem dX5_discardOldestSaved_57 : decode cX5_discardOldestSaved 57 = .ok (.iconst 1, 1) := by decide +kernel
theorem dX5_discardOldestSaved_58 : decode cX5_discardOldestSaved 58 = .ok (.isub, 1) := by decide +kernel
theorem dX5_discardOldestSaved_59 : decode cX5_discardOldestSaved 59 = .ok (.putfield 175, 3) := by decide +kernel
theorem dX5_discardOldestSaved_62 : decode cX5_discardOldestSaved 62 = .ok (.return_, 1) := by decide +kernel
set_option maxRecDepth 20000 in
theorem ggX6_init_X6_begin : GoodIn wsX6_init wsX6_begin := goodIn_r _ [24, 5, 25, 26, 27, 28, 29, 30, 31, 32, 33, 34, 35, 36, 37, 38, 39, 40, 41, 42, 43, 44, 45, 46, 47, 48, 49, 50, 51, 52, 53, 54, 55, 56, 57, 58] (by decide +kernel) (by decide +kernel)
set_option maxRecDepth 20000 in
theorem gX6_init_X6_begin : GoodIn wsX6_init (wsV RX6 53 RX6 yX6_begin wsX6_begin) := goodIn_app (goodIn_of _ (by decide +kernel)) ggX6_init_X6_begin
end
section
theorem dX6_init_0 : decode cX6_init 0 = .ok (.aload_n 0, 1) := by decide +kernel
theorem dX6_init_1 : decode cX6_init 1 = .ok (.invokespecial 1, 3) := by decide +kernel
theorem dX6_init_4 : decode cX6_init 4 = .ok (.aload_n 0, 1) := by decide +kernel
theorem dX6_init_5 : decode cX6_init 5 = .ok (.bipush 38, 2) := by decide +kernel
theorem dX6_init_7 : decode cX6_init 7 = .ok (.newarray .int, 2) := by decide +kernel
theorem dX6_init_9 : decode cX6_init 9 = .ok (.putfield 7, 3) := by decide +kernel
theorem dX6_init_12 : decode cX6_init 12 = .ok (.aload_n 0, 1) := by decide +kernel
theorem dX6_init_13 : decode cX6_init 13 = .ok (.sipush 304, 3) := by decide +kernel
theorem dX6_init_16 : decode cX6_init 16 = .ok (.newarray .int, 2) := by decide +kernel
theorem dX6_init_18 : decode cX6_init 18 = .ok (.putfield 13, 3) := by decide +kernel
theorem dX6_init_21 : decode cX6_init 21 = .ok (.aload_n 0, 1) := by decide +kernel
theorem dX6_init_22 : decode cX6_init 22 = .ok (.bipush 76, 2) := by decide +kernel
theorem dX6_init_24 : decode cX6_init 24 = .ok (.newarray .int, 2) := by decide +kernel
theorem dX6_init_26 : decode cX6_init 26 = .ok (.putfield 16, 3) := by decide +kernel
theorem dX6_init_29 : decode cX6_init 29 = .ok (.aload_n 0, 1) := by decide +kernel
theorem dX6_init_30 : decode cX6_init 30 = .ok (.iconst 2, 1) := by decide +kernel
theorem dX6_init_31 : decode cX6_init 31 = .ok (.newarray .boolean, 2) := by decide +kernel
theorem dX6_init_33 : decode cX6_init 33 = .ok (.putfield 19, 3) := by decide +kernel
theorem dX6_init_36 : decode cX6_init 36 = .ok (.aload_n 0, 1) := by decide +kernel
theorem dX6_init_37 : decode cX6_init 37 = .ok (.bipush 80, 2) := by decide +kernel
theorem dX6_init_39 : decode cX6_init 39 = .ok (.newarray .int, 2) := by decide +kernel
theorem dX6_init_41 : decode cX6_init 41 = .ok (.putfield 23, 3) := by decide +kernel
theorem dX6_init_44 : decode cX6_init 44 = .ok (.aload_n 0, 1) := by decide +kernel
theorem dX6_init_45 : decode cX6_init 45 = .ok (.sipush 4001, 3) := by decide +kernel
theorem dX6_init_48 : decode cX6_init 48 = .ok (.newarray .int, 2) := by decide +kernel
theorem dX6_init_50 : decode cX6_init 50 = .ok (.putfield 26, 3) := by decide +kernel
theorem dX6_init_53 : decode cX6_init 53 = .ok (.aload_n 0, 1) := by decide +kernel
theorem dX6_init_54 : decode cX6_init 54 = .ok (.sipush 4001, 3) := by decide +kernel
theorem dX6_init_57 : decode cX6_init 57 = .ok (.newarray .int, 2) := by decide +kernel
theorem dX6_init_59 : decode cX6_init 59 = .ok (.putfield 29, 3) := by decide +kernel
theorem dX6_init_62 : decode cX6_init 62 = .ok (.aload_n 0, 1) := by decide +kernel
theorem dX6_init_63 : decode cX6_init 63 = .ok (.sipush 4001, 3) := by decide +kernel
theorem dX6_init_66 : decode cX6_init 66 = .ok (.newarray .int, 2) := by decide +kernel
theorem dX6_init_68 : decode cX6_init 68 = .ok (.putfield 32, 3) := by decide +kernel
theorem dX6_init_71 : decode cX6_init 71 = .ok (.aload_n 0, 1) := by decide +kernel
theorem dX6_init_72 : decode cX6_init 72 = .ok (.sipush 4001, 3) := by decide +kernel
theorem dX6_init_75 : decode cX6_init 75 = .ok (.newarray .int, 2) := by decide +kernel
theorem dX6_init_77 : decode cX6_init 77 = .ok (.putfield 35, 3) := by decide +kernel
theorem dX6_init_80 : decode cX6_init 80 = .ok (.aload_n 0, 1) := by decide +kernel
theorem dX6_init_81 : decode cX6_init 81 = .ok (.sipush 4001, 3) := by decide +kernel
theorem dX6_init_84 : decode cX6_init 84 = .ok (.newarray .int, 2) := by decide +kernel
theorem dX6_init_86 : decode cX6_init 86 = .ok (.putfield 38, 3) := by decide +kernel
theorem dX6_init_89 : decode cX6_init 89 = .ok (.aload_n 0, 1) := by decide +kernel
theorem dX6_init_90 : decode cX6_init 90 = .ok (.sipush 8192, 3) := by decide +kernel
theorem dX6_init_93 : decode cX6_init 93 = .ok (.newarray .int, 2) := by decide +kernel
theorem dX6_init_95 : decode cX6_init 95 = .ok (.putfield 41, 3) := by decide +kernel
theorem dX6_init_98 : decode cX6_init 98 = .ok (.aload_n 0, 1) := by decide +kernel
theorem dX6_init_99 : decode cX6_init 99 = .ok (.bipush 30, 2) := by decide +kernel
theorem dX6_init_101 : decode cX6_init 101 = .ok (.newarray .int, 2) := by decide +kernel
theorem dX6_init_103 : decode cX6_init 103 = .ok (.putfield 44, 3) := by decide +kernel
theorem dX6_init_106 : decode cX6_init 106 = .ok (.aload_n 0, 1) := by decide +kernel
theorem dX6_init_107 : decode cX6_init 107 = .ok (.bipush 48, 2) := by decide +kernel
theorem dX6_init_109 : decode cX6_init 109 = .ok (.newarray .int, 2) := by decide +kernel
theorem dX6_init_111 : decode cX6_init 111 = .ok (.putfield 47, 3) := by decide +kernel
theorem dX6_init_114 : decode cX6_init 114 = .ok (.aload_n 0, 1) := by decide +kernel
theorem dX6_init_115 : decode cX6_init 115 = .ok (.sipush 1331, 3) := by decide +kernel
theorem dX6_init_118 : decode cX6_init 118 = .ok (.newarray .boolean, 2) := by decide +kernel
theorem dX6_init_120 : decode cX6_init 120 = .ok (.putfield 50, 3) := by decide +kernel
theorem dX6_init_123 : decode cX6_init 123 = .ok (.aload_n 0, 1) := by decide +kernel
theorem dX6_init_124 : decode cX6_init 124 = .ok (.iconst 3, 1) := by decide +kernel
theorem dX6_init_125 : decode cX6_init 125 = .ok (.iconst 2, 1) := by decide +kernel
theorem dX6_init_126 : decode cX6_init 126 = .ok (.iconst 0, 1) := by decide +kernel
theorem dX6_init_127 : decode cX6_init 127 = .ok (.invokevirtual 53, 3) := by decide +kernel
theorem dX6_init_130 : decode cX6_init 130 = .ok (.return_, 1) := by decide +kernel
theorem dX6_in_0 : decode cX6_in 0 = .ok (.iload_n 0, 1) := by decide +kernel
theorem dX6_in_1 : decode cX6_in 1 = .ok (.iload_n 1, 1) := by decide +kernel
theorem dX6_in_2 : decode cX6_in 2 = .ok (.if_icmp .lt 12, 3) := by decide +kernel
theorem dX6_in_5 : decode cX6_in 5 = .ok (.iload_n 0, 1) := by decide +kernel
theorem dX6_in_6 : decode cX6_in 6 = .ok (.iload_n 2, 1) := by decide +kernel
theorem dX6_in_7 : decode cX6_in 7 = .ok (.if_icmp .gt 7, 3) := by decide +kernel
theorem dX6_in_10 : decode cX6_in 10 = .ok (.iconst 1, 1) := by decide +kernel
theorem dX6_in_11 : decode cX6_in 11 = .ok (.goto 4, 3) := by decide +kernel
theorem dX6_in_14 : decode cX6_in 14 = .ok (.iconst 0, 1) := by decide +kernel
theorem dX6_in_15 : decode cX6_in 15 = .ok (.ireturn, 1) := by decide +kernel
theorem dX6_statusIn_0 : decode cX6_statusIn 0 = .ok (.aload_n 0, 1) := by decide +kernel
theorem dX6_statusIn_1 : decode cX6_statusIn 1 = .ok (.getfield 61, 3) := by decide +kernel
theorem dX6_statusIn_4 : decode cX6_statusIn 4 = .ok (.bipush 8, 2) := by decide +kernel
theorem dX6_statusIn_6 : decode cX6_statusIn 6 = .ok (.iload_n 1, 1) := by decide +kernel
theorem dX6_statusIn_7 : decode cX6_statusIn 7 = .ok (.imul, 1) := by decide +kernel
theorem dX6_statusIn_8 : decode cX6_statusIn 8 = .ok (.ishr, 1) := by decide +kernel
theorem dX6_statusIn_9 : decode cX6_statusIn 9 = .ok (.iconst 3, 1) := by decide +kernel
theorem dX6_statusIn_10 : decode cX6_statusIn 10 = .ok (.iand, 1) := by decide +kernel
theorem dX6_statusIn_11 : decode cX6_statusIn 11 = .ok (.ireturn, 1) := by decide +kernel
theorem dX6_splitterIn_0 : decode cX6_splitterIn 0 = .ok (.aload_n 0, 1) := by decide +kernel
theorem dX6_splitterIn_1 : decode cX6_splitterIn 1 = .ok (.getfield 61, 3) := by decide +kernel
theorem dX6_splitterIn_4 : decode cX6_splitterIn 4 = .ok (.bipush 8, 2) := by decide +kernel
theorem dX6_splitterIn_6 : decode cX6_splitterIn 6 = .ok (.iload_n 1, 1) := by decide +kernel
theorem dX6_splitterIn_7 : decode cX6_splitterIn 7 = .ok (.imul, 1) := by decide +kernel
theorem dX6_splitterIn_8 : decode cX6_splitterIn 8 = .ok (.iconst 2, 1) := by decide +kernel
theorem dX6_splitterIn_9 : decode cX6_splitterIn 9 = .ok (.iadd, 1) := by decide +kernel
theorem dX6_splitterIn_10 : decode cX6_splitterIn 10 = .ok (.ishr, 1) := by decide +kernel
theorem dX6_splitterIn_11 : decode cX6_splitterIn 11 = .ok (.bipush 15, 2) := by decide +kernel
theorem dX6_splitterIn_13 : decode cX6_splitterIn 13 = .ok (.iand, 1) := by decide +kernel
theorem dX6_splitterIn_14 : decode cX6_splitterIn 14 = .ok (.ireturn, 1) := by decide +kernel
theorem dX6_phaseIn_0 : decode cX6_phaseIn 0 = .ok (.aload_n 0, 1) := by decide +kernel
theorem dX6_phaseIn_1 : decode cX6_phaseIn 1 = .ok (.getfield 61, 3) := by decide +kernel
theorem dX6_phaseIn_4 : decode cX6_phaseIn 4 = .ok (.bipush 8, 2) := by decide +kernel
theorem dX6_phaseIn_6 : decode cX6_phaseIn 6 = .ok (.iload_n 1, 1) := by decide +kernel
theorem dX6_phaseIn_7 : decode cX6_phaseIn 7 = .ok (.imul, 1) := by decide +kernel
theorem dX6_phaseIn_8 : decode cX6_phaseIn 8 = .ok (.bipush 6, 2) := by decide +kernel
theorem dX6_phaseIn_10 : decode cX6_phaseIn 10 = .ok (.iadd, 1) := by decide +kernel
theorem dX6_phaseIn_11 : decode cX6_phaseIn 11 = .ok (.ishr, 1) := by decide +kernel
theorem dX6_phaseIn_12 : decode cX6_phaseIn 12 = .ok (.iconst 3, 1) := by decide +kernel
theorem dX6_phaseIn_13 : decode cX6_phaseIn 13 = .ok (.iand, 1) := by decide +kernel
theorem dX6_phaseIn_14 : decode cX6_phaseIn 14 = .ok (.ireturn, 1) := by decide +kernel
theorem dX6_setProcess_0 : decode cX6_setProcess 0 = .ok (.iload_n 2, 1) := by decide +kernel
theorem dX6_setProcess_1 : decode cX6_setProcess 1 = .ok (.iload_n 3, 1) := by decide +kernel
theorem dX6_setProcess_2 : decode cX6_setProcess 2 = .ok (.iconst 2, 1) := by decide +kernel
theorem dX6_setProcess_3 : decode cX6_setProcess 3 = .ok (.ishl, 1) := by decide +kernel
theorem dX6_setProcess_4 : decode cX6_setProcess 4 = .ok (.ior, 1) := by decide +kernel
theorem dX6_setProcess_5 : decode cX6_setProcess 5 = .ok (.iload 4, 2) := by decide +kernel
theorem dX6_setProcess_7 : decode cX6_setProcess 7 = .ok (.bipush 6, 2) := by decide +kernel
theorem dX6_setProcess_9 : decode cX6_setProcess 9 = .ok (.ishl, 1) := by decide +kernel
theorem dX6_setProcess_10 : decode cX6_setProcess 10 = .ok (.ior, 1) := by decide +kernel
theorem dX6_setProcess_11 : decode cX6_setProcess 11 = .ok (.istore 5, 2) := by decide +kernel
theorem dX6_setProcess_13 : decode cX6_setProcess 13 = .ok (.aload_n 0, 1) := by decide +kernel
theorem dX6_setProcess_14 : decode cX6_setProcess 14 = .ok (.aload_n 0, 1) := by decide +kernel
theorem dX6_setProcess_15 : decode cX6_setProcess 15 = .ok (.getfield 61, 3) := by decide +kernel
theorem dX6_setProcess_18 : decode cX6_setProcess 18 = .ok (.sipush 255, 3) := by decide +kernel
theorem dX6_setProcess_21 : decode cX6_setProcess 21 = .ok (.bipush 8, 2) := by decide +kernel
theorem dX6_setProcess_23 : decode cX6_setProcess 23 = .ok (.iload_n 1, 1) := by decide +kernel
theorem dX6_setProcess_24 : decode cX6_setProcess 24 = .ok (.imul, 1) := by decide +kernel
theorem dX6_setProcess_25 : decode cX6_setProcess 25 = .ok (.ishl, 1) := by decide +kernel
theorem dX6_setProcess_26 : decode cX6_setProcess 26 = .ok (.iconst (-1), 1) := by decide +kernel
theorem dX6_setProcess_27 : decode cX6_setProcess 27 = .ok (.ixor, 1) := by decide +kernel
theorem dX6_setProcess_28 : decode cX6_setProcess 28 = .ok (.iand, 1) := by decide +kernel
theorem dX6_setProcess_29 : decode cX6_setProcess 29 = .ok (.iload 5, 2) := by decide +kernel
theorem dX6_setProcess_31 : decode cX6_setProcess 31 = .ok (.bipush 8, 2) := by decide +kernel
theorem dX6_setProcess_33 : decode cX6_setProcess 33 = .ok (.iload_n 1, 1) := by decide +kernel
theorem dX6_setProcess_34 : decode cX6_setProcess 34 = .ok (.imul, 1) := by decide +kernel
theorem dX6_setProcess_35 : decode cX6_setProcess 35 = .ok (.ishl, 1) := by decide +kernel
theorem dX6_setProcess_36 : decode cX6_setProcess 36 = .ok (.ior, 1) := by decide +kernel
theorem dX6_setProcess_37 : decode cX6_setProcess 37 = .ok (.putfield 61, 3) := by decide +kernel
theorem dX6_setProcess_40 : decode cX6_setProcess 40 = .ok (.return_, 1) := by decide +kernel
theorem dX6_ownerIn_0 : decode cX6_ownerIn 0 = .ok (.aload_n 0, 1) := by decide +kernel
theorem dX6_ownerIn_1 : decode cX6_ownerIn 1 = .ok (.getfield 64, 3) := by decide +kernel
theorem dX6_ownerIn_4 : decode cX6_ownerIn 4 = .ok (.iconst 3, 1) := by decide +kernel
theorem dX6_ownerIn_5 : decode cX6_ownerIn 5 = .ok (.iload_n 1, 1) := by decide +kernel
theorem dX6_ownerIn_6 : decode cX6_ownerIn 6 = .ok (.imul, 1) := by decide +kernel
theorem dX6_ownerIn_7 : decode cX6_ownerIn 7 = .ok (.ishr, 1) := by decide +kernel
theorem dX6_ownerIn_8 : decode cX6_ownerIn 8 = .ok (.iconst 3, 1) := by decide +kernel
theorem dX6_ownerIn_9 : decode cX6_ownerIn 9 = .ok (.iand, 1) := by decide +kernel
theorem dX6_ownerIn_10 : decode cX6_ownerIn 10 = .ok (.iconst 1, 1) := by decide +kernel
theorem dX6_ownerIn_11 : decode cX6_ownerIn 11 = .ok (.isub, 1) := by decide +kernel
theorem dX6_ownerIn_12 : decode cX6_ownerIn 12 = .ok (.ireturn, 1) := by decide +kernel
theorem dX6_doorIn_0 : decode cX6_doorIn 0 = .ok (.aload_n 0, 1) := by decide +kernel
theorem dX6_doorIn_1 : decode cX6_doorIn 1 = .ok (.getfield 64, 3) := by decide +kernel
theorem dX6_doorIn_4 : decode cX6_doorIn 4 = .ok (.iconst 3, 1) := by decide +kernel
theorem dX6_doorIn_5 : decode cX6_doorIn 5 = .ok (.iload_n 1, 1) := by decide +kernel
theorem dX6_doorIn_6 : decode cX6_doorIn 6 = .ok (.imul, 1) := by decide +kernel
theorem dX6_doorIn_7 : decode cX6_doorIn 7 = .ok (.iconst 2, 1) := by decide +kernel
theorem dX6_doorIn_8 : decode cX6_doorIn 8 = .ok (.iadd, 1) := by decide +kernel
theorem dX6_doorIn_9 : decode cX6_doorIn 9 = .ok (.ishr, 1) := by decide +kernel
theorem dX6_doorIn_10 : decode cX6_doorIn 10 = .ok (.iconst 1, 1) := by decide +kernel
theorem dX6_doorIn_11 : decode cX6_doorIn 11 = .ok (.iand, 1) := by decide +kernel
theorem dX6_doorIn_12 : decode cX6_doorIn 12 = .ok (.ireturn, 1) := by decide +kernel
theorem dX6_diagonal_0 : decode cX6_diagonal 0 = .ok (.iconst 0, 1) := by decide +kernel
theorem dX6_diagonal_1 : decode cX6_diagonal 1 = .ok (.istore_n 1, 1) := by decide +kernel
theorem dX6_diagonal_2 : decode cX6_diagonal 2 = .ok (.iload_n 1, 1) := by decide +kernel
theorem dX6_diagonal_3 : decode cX6_diagonal 3 = .ok (.iconst 1, 1) := by decide +kernel
theorem dX6_diagonal_4 : decode cX6_diagonal 4 = .ok (.iadd, 1) := by decide +kernel
theorem dX6_diagonal_5 : decode cX6_diagonal 5 = .ok (.iload_n 1, 1) := by decide +kernel
theorem dX6_diagonal_6 : decode cX6_diagonal 6 = .ok (.iconst 2, 1) := by decide +kernel
theorem dX6_diagonal_7 : decode cX6_diagonal 7 = .ok (.iadd, 1) := by decide +kernel
theorem dX6_diagonal_8 : decode cX6_diagonal 8 = .ok (.imul, 1) := by decide +kernel
theorem dX6_diagonal_9 : decode cX6_diagonal 9 = .ok (.iconst 2, 1) := by decide +kernel
theorem dX6_diagonal_10 : decode cX6_diagonal 10 = .ok (.idiv, 1) := by decide +kernel
theorem dX6_diagonal_11 : decode cX6_diagonal 11 = .ok (.iload_n 0, 1) := by decide +kernel
theorem dX6_diagonal_12 : decode cX6_diagonal 12 = .ok (.if_icmp .gt 9, 3) := by decide +kernel
theorem dX6_diagonal_15 : decode cX6_diagonal 15 = .ok (.iinc 1 1, 3) := by decide +kernel
theorem dX6_diagonal_18 : decode cX6_diagonal 18 = .ok (.goto (-16), 3) := by decide +kernel
theorem dX6_diagonal_21 : decode cX6_diagonal 21 = .ok (.iload_n 1, 1) := by decide +kernel
theorem dX6_diagonal_22 : decode cX6_diagonal 22 = .ok (.ireturn, 1) := by decide +kernel
set_option maxRecDepth 20000 in
theorem ggX6_move_X6_splitterIn : GoodIn wsX6_move wsX6_splitterIn := goodIn_r _ [8, 9, 17, 18, 19, 20, 21, 22, 23, 24, 25, 26, 27, 28, 29, 30, 31, 32, 33, 34, 35, 36, 37, 38, 39, 40, 41, 42, 43, 44, 45, 46, 47, 48, 49, 50] (by decide +kernel) (by decide +kernel)
set_option maxRecDepth 20000 in
theorem gX6_move_X6_splitterIn : GoodIn wsX6_move (wsV RX6 67 RX6 yX6_splitterIn wsX6_splitterIn) := goodIn_app (goodIn_of _ (by decide +kernel)) ggX6_move_X6_splitterIn
set_option maxRecDepth 20000 in
theorem ggX6_move_X6_diagonal : GoodIn wsX6_move wsX6_diagonal := goodIn_r _ [12] (by decide +kernel) (by decide +kernel)
set_option maxRecDepth 20000 in
theorem gX6_move_X6_diagonal : GoodIn wsX6_move (va_wsS RX6 71 yX6_diagonal wsX6_diagonal) := goodIn_app (goodIn_of _ (by decide +kernel)) ggX6_move_X6_diagonal
set_option maxRecDepth 20000 in
theorem ggX6_move_X6_setProcess : GoodIn wsX6_move wsX6_setProcess := goodIn_r _ [16, 9, 17, 18, 19, 20, 21, 22, 23, 24, 25, 26, 27, 28, 29, 30, 31, 32, 33, 34, 35, 36, 37, 38, 39, 40, 41, 42, 43, 44, 45, 46, 47, 48, 49, 50] (by decide +kernel) (by decide +kernel)
set_option maxRecDepth 20000 in
theorem gX6_move_X6_setProcess : GoodIn wsX6_move (wsV RX6 81 RX6 yX6_setProcess wsX6_setProcess) := goodIn_app (goodIn_of _ (by decide +kernel)) ggX6_move_X6_setProcess
theorem dX6_move_0 : decode cX6_move 0 = .ok (.aload_n 0, 1) := by decide +kernel
theorem dX6_move_1 : decode cX6_move 1 = .ok (.iload_n 1, 1) := by decide +kernel
theorem dX6_move_2 : decode cX6_move 2 = .ok (.invokevirtual 67, 3) := by decide +kernel
theorem dX6_move_5 : decode cX6_move 5 = .ok (.istore_n 3, 1) := by decide +kernel
theorem dX6_move_6 : decode cX6_move 6 = .ok (.iload_n 3, 1) := by decide +kernel
theorem dX6_move_7 : decode cX6_move 7 = .ok (.invokestatic 71, 3) := by decide +kernel
theorem dX6_move_10 : decode cX6_move 10 = .ok (.istore 4, 2) := by decide +kernel
theorem dX6_move_12 : decode cX6_move 12 = .ok (.aload_n 0, 1) := by decide +kernel
theorem dX6_move_13 : decode cX6_move 13 = .ok (.iload_n 3, 1) := by decide +kernel
theorem dX6_move_14 : decode cX6_move 14 = .ok (.putfield 74, 3) := by decide +kernel
theorem dX6_move_17 : decode cX6_move 17 = .ok (.aload_n 0, 1) := by decide +kernel
theorem dX6_move_18 : decode cX6_move 18 = .ok (.iload_n 2, 1) := by decide +kernel
theorem dX6_move_19 : decode cX6_move 19 = .ok (.putfield 77, 3) := by decide +kernel
theorem dX6_move_22 : decode cX6_move 22 = .ok (.iload 4, 2) := by decide +kernel
theorem dX6_move_24 : decode cX6_move 24 = .ok (.iconst 1, 1) := by decide +kernel
theorem dX6_move_25 : decode cX6_move 25 = .ok (.iadd, 1) := by decide +kernel
theorem dX6_move_26 : decode cX6_move 26 = .ok (.aload_n 0, 1) := by decide +kernel
theorem dX6_move_27 : decode cX6_move 27 = .ok (.getfield 7, 3) := by decide +kernel
theorem dX6_move_30 : decode cX6_move 30 = .ok (.iconst 0, 1) := by decide +kernel
theorem dX6_move_31 : decode cX6_move 31 = .ok (.iaload, 1) := by decide +kernel
theorem dX6_move_32 : decode cX6_move 32 = .ok (.if_icmp .ne 14, 3) := by decide +kernel
theorem dX6_move_35 : decode cX6_move 35 = .ok (.aload_n 0, 1) := by decide +kernel
theorem dX6_move_36 : decode cX6_move 36 = .ok (.iload_n 1, 1) := by decide +kernel
theorem dX6_move_37 : decode cX6_move 37 = .ok (.iconst 2, 1) := by decide +kernel
theorem dX6_move_38 : decode cX6_move 38 = .ok (.bipush 15, 2) := by decide +kernel
theorem dX6_move_40 : decode cX6_move 40 = .ok (.iconst 0, 1) := by decide +kernel
theorem dX6_move_41 : decode cX6_move 41 = .ok (.invokevirtual 81, 3) := by decide +kernel
theorem dX6_move_44 : decode cX6_move 44 = .ok (.iconst 4, 1) := by decide +kernel
theorem dX6_move_45 : decode cX6_move 45 = .ok (.ireturn, 1) := by decide +kernel
theorem dX6_move_46 : decode cX6_move 46 = .ok (.aload_n 0, 1) := by decide +kernel
theorem dX6_move_47 : decode cX6_move 47 = .ok (.iload_n 1, 1) := by decide +kernel
theorem dX6_move_48 : decode cX6_move 48 = .ok (.iconst 0, 1) := by decide +kernel
theorem dX6_move_49 : decode cX6_move 49 = .ok (.iload_n 3, 1) := by decide +kernel
theorem dX6_move_50 : decode cX6_move 50 = .ok (.iload 4, 2) := by decide +kernel
theorem dX6_move_52 : decode cX6_move 52 = .ok (.iadd, 1) := by decide +kernel
theorem dX6_move_53 : decode cX6_move 53 = .ok (.iload_n 2, 1) := by decide +kernel
theorem dX6_move_54 : decode cX6_move 54 = .ok (.ifCond .eq 7, 3) := by decide +kernel
theorem dX6_move_57 : decode cX6_move 57 = .ok (.iconst 1, 1) := by decide +kernel
theorem dX6_move_58 : decode cX6_move 58 = .ok (.goto 4, 3) := by decide +kernel
theorem dX6_move_61 : decode cX6_move 61 = .ok (.iconst 2, 1) := by decide +kernel
theorem dX6_move_62 : decode cX6_move 62 = .ok (.iadd, 1) := by decide +kernel
theorem dX6_move_63 : decode cX6_move 63 = .ok (.iconst 0, 1) := by decide +kernel
theorem dX6_move_64 : decode cX6_move 64 = .ok (.invokevirtual 81, 3) := by decide +kernel
theorem dX6_move_67 : decode cX6_move 67 = .ok (.iload_n 2, 1) := by decide +kernel
theorem dX6_move_68 : decode cX6_move 68 = .ok (.ifCond .eq 7, 3) := by decide +kernel
theorem dX6_move_71 : decode cX6_move 71 = .ok (.iconst 2, 1) := by decide +kernel
theorem dX6_move_72 : decode cX6_move 72 = .ok (.goto 4, 3) := by decide +kernel
theorem dX6_move_75 : decode cX6_move 75 = .ok (.iconst 3, 1) := by decide +kernel
theorem dX6_move_76 : decode cX6_move 76 = .ok (.ireturn, 1) := by decide +kernel
set_option maxRecDepth 20000 in
theorem ggX6_proceed_X6_splitterIn : GoodIn wsX6_proceed wsX6_splitterIn := goodIn_r _ [5, 6, 11, 12, 13, 14, 15, 16, 17, 18, 19, 20, 21, 22, 23, 24, 25, 26, 27, 28, 29, 30, 31, 32, 33, 34, 35, 36, 37, 38, 39, 40, 41, 42, 43, 44] (by decide +kernel) (by decide +kernel)
set_option maxRecDepth 20000 in
theorem gX6_proceed_X6_splitterIn : GoodIn wsX6_proceed (wsV RX6 67 RX6 yX6_splitterIn wsX6_splitterIn) := goodIn_app (goodIn_of _ (by decide +kernel)) ggX6_proceed_X6_splitterIn
set_option maxRecDepth 20000 in
theorem ggX6_proceed_X6_setProcess : GoodIn wsX6_proceed wsX6_setProcess := goodIn_r _ [10, 6, 11, 12, 13, 14, 15, 16, 17, 18, 19, 20, 21, 22, 23, 24, 25, 26, 27, 28, 29, 30, 31, 32, 33, 34, 35, 36, 37, 38, 39, 40, 41, 42, 43, 44] (by decide +kernel) (by decide +kernel)
set_option maxRecDepth 20000 in
theorem gX6_proceed_X6_setProcess : GoodIn wsX6_proceed (wsV RX6 81 RX6 yX6_setProcess wsX6_setProcess) := goodIn_app (goodIn_of _ (by decide +kernel)) ggX6_proceed_X6_setProcess
theorem dX6_proceed_0 : decode cX6_proceed 0 = .ok (.aload_n 0, 1) := by decide +kernel
theorem dX6_proceed_1 : decode cX6_proceed 1 = .ok (.iload_n 1, 1) := by decide +kernel
theorem dX6_proceed_2 : decode cX6_proceed 2 = .ok (.iconst 0, 1) := by decide +kernel
theorem dX6_proceed_3 : decode cX6_proceed 3 = .ok (.aload_n 0, 1) := by decide +kernel
theorem dX6_proceed_4 : decode cX6_proceed 4 = .ok (.iload_n 1, 1) := by decide +kernel
theorem dX6_proceed_5 : decode cX6_proceed 5 = .ok (.invokevirtual 67, 3) := by decide +kernel
theorem dX6_proceed_8 : decode cX6_proceed 8 = .ok (.iload_n 2, 1) := by decide +kernel
theorem dX6_proceed_9 : decode cX6_proceed 9 = .ok (.invokevirtual 81, 3) := by decide +kernel
theorem dX6_proceed_12 : decode cX6_proceed 12 = .ok (.iconst 0, 1) := by decide +kernel
theorem dX6_proceed_13 : decode cX6_proceed 13 = .ok (.ireturn, 1) := by decide +kernel
set_option maxRecDepth 20000 in
theorem ggX6_becomeNamed_X6_splitterIn : GoodIn wsX6_becomeNamed wsX6_splitterIn := goodIn_r _ [5, 6, 15, 16, 17, 18, 19, 20, 21, 22, 23, 24, 25, 26, 27, 28, 29, 30, 31, 32, 33, 34, 35, 36, 37, 38, 39, 40, 41, 42, 43, 44, 45, 46, 47, 48] (by decide +kernel) (by decide +kernel)
set_option maxRecDepth 20000 in
theorem gX6_becomeNamed_X6_splitterIn : GoodIn wsX6_becomeNamed (wsV RX6 67 RX6 yX6_splitterIn wsX6_splitterIn) := goodIn_app (goodIn_of _ (by decide +kernel)) ggX6_becomeNamed_X6_splitterIn
set_option maxRecDepth 20000 in
theorem ggX6_becomeNamed_X6_phaseIn : GoodIn wsX6_becomeNamed wsX6_phaseIn := goodIn_r _ [10, 6, 15, 16, 17, 18, 19, 20, 21, 22, 23, 24, 25, 26, 27, 28, 29, 30, 31, 32, 33, 34, 35, 36, 37, 38, 39, 40, 41, 42, 43, 44, 45, 46, 47, 48] (by decide +kernel) (by decide +kernel)
set_option maxRecDepth 20000 in
theorem gX6_becomeNamed_X6_phaseIn : GoodIn wsX6_becomeNamed (wsV RX6 85 RX6 yX6_phaseIn wsX6_phaseIn) := goodIn_app (goodIn_of _ (by decide +kernel)) ggX6_becomeNamed_X6_phaseIn
set_option maxRecDepth 20000 in
theorem ggX6_becomeNamed_X6_setProcess : GoodIn wsX6_becomeNamed wsX6_setProcess := goodIn_r _ [14, 6, 15, 16, 17, 18, 19, 20, 21, 22, 23, 24, 25, 26, 27, 28, 29, 30, 31, 32, 33, 34, 35, 36, 37, 38, 39, 40, 41, 42, 43, 44, 45, 46, 47, 48] (by decide +kernel) (by decide +kernel)
set_option maxRecDepth 20000 in
theorem gX6_becomeNamed_X6_setProcess : GoodIn wsX6_becomeNamed (wsV RX6 81 RX6 yX6_setProcess wsX6_setProcess) := goodIn_app (goodIn_of _ (by decide +kernel)) ggX6_becomeNamed_X6_setProcess
theorem dX6_becomeNamed_0 : decode cX6_becomeNamed 0 = .ok (.aload_n 0, 1) := by decide +kernel
theorem dX6_becomeNamed_1 : decode cX6_becomeNamed 1 = .ok (.iload_n 1, 1) := by decide +kernel
theorem dX6_becomeNamed_2 : decode cX6_becomeNamed 2 = .ok (.iconst 1, 1) := by decide +kernel
theorem dX6_becomeNamed_3 : decode cX6_becomeNamed 3 = .ok (.aload_n 0, 1) := by decide +kernel
theorem dX6_becomeNamed_4 : decode cX6_becomeNamed 4 = .ok (.iload_n 1, 1) := by decide +kernel
theorem dX6_becomeNamed_5 : decode cX6_becomeNamed 5 = .ok (.invokevirtual 67, 3) := by decide +kernel
theorem dX6_becomeNamed_8 : decode cX6_becomeNamed 8 = .ok (.aload_n 0, 1) := by decide +kernel
theorem dX6_becomeNamed_9 : decode cX6_becomeNamed 9 = .ok (.iload_n 1, 1) := by decide +kernel
theorem dX6_becomeNamed_10 : decode cX6_becomeNamed 10 = .ok (.invokevirtual 85, 3) := by decide +kernel
theorem dX6_becomeNamed_13 : decode cX6_becomeNamed 13 = .ok (.invokevirtual 81, 3) := by decide +kernel
theorem dX6_becomeNamed_16 : decode cX6_becomeNamed 16 = .ok (.iconst 1, 1) := by decide +kernel
theorem dX6_becomeNamed_17 : decode cX6_becomeNamed 17 = .ok (.ireturn, 1) := by decide +kernel
set_option maxRecDepth 20000 in
theorem ggX6_closeDoor_X6_splitterIn : GoodIn wsX6_closeDoor wsX6_splitterIn := goodIn_r _ [6, 7, 8, 9, 10, 11, 12, 13, 14, 15, 16, 17, 18, 19, 20, 21, 22, 23, 24, 25, 26, 27, 28, 29, 30, 31, 32, 33, 34, 35, 36, 37, 38, 39, 40, 41] (by decide +kernel) (by decide +kernel)
set_option maxRecDepth 20000 in
theorem gX6_closeDoor_X6_splitterIn : GoodIn wsX6_closeDoor (wsV RX6 67 RX6 yX6_splitterIn wsX6_splitterIn) := goodIn_app (goodIn_of _ (by decide +kernel)) ggX6_closeDoor_X6_splitterIn
theorem dX6_closeDoor_0 : decode cX6_closeDoor 0 = .ok (.aload_n 0, 1) := by decide +kernel
theorem dX6_closeDoor_1 : decode cX6_closeDoor 1 = .ok (.dup, 1) := by decide +kernel
theorem dX6_closeDoor_2 : decode cX6_closeDoor 2 = .ok (.getfield 64, 3) := by decide +kernel
theorem dX6_closeDoor_5 : decode cX6_closeDoor 5 = .ok (.iconst 4, 1) := by decide +kernel
theorem dX6_closeDoor_6 : decode cX6_closeDoor 6 = .ok (.iconst 3, 1) := by decide +kernel
theorem dX6_closeDoor_7 : decode cX6_closeDoor 7 = .ok (.aload_n 0, 1) := by decide +kernel
theorem dX6_closeDoor_8 : decode cX6_closeDoor 8 = .ok (.iload_n 1, 1) := by decide +kernel
theorem dX6_closeDoor_9 : decode cX6_closeDoor 9 = .ok (.invokevirtual 67, 3) := by decide +kernel
theorem dX6_closeDoor_12 : decode cX6_closeDoor 12 = .ok (.imul, 1) := by decide +kernel
theorem dX6_closeDoor_13 : decode cX6_closeDoor 13 = .ok (.ishl, 1) := by decide +kernel
theorem dX6_closeDoor_14 : decode cX6_closeDoor 14 = .ok (.ior, 1) := by decide +kernel
theorem dX6_closeDoor_15 : decode cX6_closeDoor 15 = .ok (.putfield 64, 3) := by decide +kernel
theorem dX6_closeDoor_18 : decode cX6_closeDoor 18 = .ok (.iload_n 1, 1) := by decide +kernel
theorem dX6_closeDoor_19 : decode cX6_closeDoor 19 = .ok (.ireturn, 1) := by decide +kernel
set_option maxRecDepth 20000 in
theorem ggX6_stepOf_X6_splitterIn : GoodIn wsX6_stepOf wsX6_splitterIn := goodIn_r _ [8, 9, 46, 47, 48, 49, 50, 51, 52, 53, 54, 55, 56, 57, 58, 59, 60, 61, 62, 63, 64, 65, 66, 67, 68, 69, 70, 71, 72, 73, 74, 75, 76, 77, 78, 79] (by decide +kernel) (by decide +kernel)
set_option maxRecDepth 20000 in
theorem gX6_stepOf_X6_splitterIn : GoodIn wsX6_stepOf (wsV RX6 67 RX6 yX6_splitterIn wsX6_splitterIn) := goodIn_app (goodIn_of _ (by decide +kernel)) ggX6_stepOf_X6_splitterIn
set_option maxRecDepth 20000 in
theorem ggX6_stepOf_X6_phaseIn : GoodIn wsX6_stepOf wsX6_phaseIn := goodIn_r _ [13, 9, 46, 47, 48, 49, 50, 51, 52, 53, 54, 55, 56, 57, 58, 59, 60, 61, 62, 63, 64, 65, 66, 67, 68, 69, 70, 71, 72, 73, 74, 75, 76, 77, 78, 79] (by decide +kernel) (by decide +kernel)
set_option maxRecDepth 20000 in
theorem gX6_stepOf_X6_phaseIn : GoodIn wsX6_stepOf (wsV RX6 85 RX6 yX6_phaseIn wsX6_phaseIn) := goodIn_app (goodIn_of _ (by decide +kernel)) ggX6_stepOf_X6_phaseIn
set_option maxRecDepth 20000 in
theorem ggX6_stepOf_X6_proceed : GoodIn wsX6_stepOf wsX6_proceed := goodIn_r _ [17, 4, 5, 6, 7, 8, 9, 18, 19, 20, 21, 46, 47, 48, 49, 50, 51, 52, 53, 54, 55, 56, 57, 58, 59, 60, 61, 62, 63, 64, 65, 66, 67, 68, 69, 70, 71, 72, 73, 74, 75, 76, 77, 78, 79] (by decide +kernel) (by decide +kernel)
set_option maxRecDepth 20000 in
theorem gX6_stepOf_X6_proceed : GoodIn wsX6_stepOf (wsV RX6 88 RX6 yX6_proceed wsX6_proceed) := goodIn_app (goodIn_of _ (by decide +kernel)) ggX6_stepOf_X6_proceed
set_option maxRecDepth 20000 in
theorem ggX6_stepOf_X6_doorIn : GoodIn wsX6_stepOf wsX6_doorIn := goodIn_r _ [25, 2, 46, 47, 48, 49, 50, 51, 52, 53, 54, 55, 56, 57, 58, 59, 60, 61, 62, 63, 64, 65, 66, 67, 68, 69, 70, 71, 72, 73, 74, 75, 76, 77, 78, 79] (by decide +kernel) (by decide +kernel)
set_option maxRecDepth 20000 in
theorem gX6_stepOf_X6_doorIn : GoodIn wsX6_stepOf (wsV RX6 92 RX6 yX6_doorIn wsX6_doorIn) := goodIn_app (goodIn_of _ (by decide +kernel)) ggX6_stepOf_X6_doorIn
set_option maxRecDepth 20000 in
theorem ggX6_stepOf_X6_move : GoodIn wsX6_stepOf wsX6_move := goodIn_r _ [29, 1, 30, 3, 4, 5, 6, 7, 8, 9, 31, 32, 33, 18, 19, 20, 21, 46, 47, 48, 49, 50, 51, 52, 53, 54, 55, 56, 57, 58, 59, 60, 61, 62, 63, 64, 65, 66, 67, 68, 69, 70, 71, 72, 73, 74, 75, 76, 77, 78, 79] (by decide +kernel) (by decide +kernel)
set_option maxRecDepth 20000 in
theorem gX6_stepOf_X6_move : GoodIn wsX6_stepOf (wsV RX6 95 RX6 yX6_move wsX6_move) := goodIn_app (goodIn_of _ (by decide +kernel)) ggX6_stepOf_X6_move
set_option maxRecDepth 20000 in
theorem ggX6_stepOf_X6_ownerIn : GoodIn wsX6_stepOf wsX6_ownerIn := goodIn_r _ [37, 2, 46, 47, 48, 49, 50, 51, 52, 53, 54, 55, 56, 57, 58, 59, 60, 61, 62, 63, 64, 65, 66, 67, 68, 69, 70, 71, 72, 73, 74, 75, 76, 77, 78, 79] (by decide +kernel) (by decide +kernel)
set_option maxRecDepth 20000 in
theorem gX6_stepOf_X6_ownerIn : GoodIn wsX6_stepOf (wsV RX6 99 RX6 yX6_ownerIn wsX6_ownerIn) := goodIn_app (goodIn_of _ (by decide +kernel)) ggX6_stepOf_X6_ownerIn
set_option maxRecDepth 20000 in
theorem ggX6_stepOf_X6_closeDoor : GoodIn wsX6_stepOf wsX6_closeDoor := goodIn_r _ [41, 2, 4, 5, 6, 7, 8, 9, 46, 47, 48, 49, 50, 51, 52, 53, 54, 55, 56, 57, 58, 59, 60, 61, 62, 63, 64, 65, 66, 67, 68, 69, 70, 71, 72, 73, 74, 75, 76, 77, 78, 79] (by decide +kernel) (by decide +kernel)
set_option maxRecDepth 20000 in
theorem gX6_stepOf_X6_closeDoor : GoodIn wsX6_stepOf (wsV RX6 102 RX6 yX6_closeDoor wsX6_closeDoor) := goodIn_app (goodIn_of _ (by decide +kernel)) ggX6_stepOf_X6_closeDoor
set_option maxRecDepth 20000 in
theorem ggX6_stepOf_X6_becomeNamed : GoodIn wsX6_stepOf wsX6_becomeNamed := goodIn_r _ [45, 4, 5, 6, 7, 8, 9, 10, 11, 12, 13, 18, 19, 20, 21, 46, 47, 48, 49, 50, 51, 52, 53, 54, 55, 56, 57, 58, 59, 60, 61, 62, 63, 64, 65, 66, 67, 68, 69, 70, 71, 72, 73, 74, 75, 76, 77, 78, 79] (by decide +kernel) (by decide +kernel)
set_option maxRecDepth 20000 in
theorem gX6_stepOf_X6_becomeNamed : GoodIn wsX6_stepOf (wsV RX6 105 RX6 yX6_becomeNamed wsX6_becomeNamed) := goodIn_app (goodIn_of _ (by decide +kernel)) ggX6_stepOf_X6_becomeNamed
theorem dX6_stepOf_0 : decode cX6_stepOf 0 = .ok (.aload_n 0, 1) := by decide +kernel
theorem dX6_stepOf_1 : decode cX6_stepOf 1 = .ok (.iload_n 1, 1) := by decide +kernel
theorem dX6_stepOf_2 : decode cX6_stepOf 2 = .ok (.invokevirtual 67, 3) := by decide +kernel
theorem dX6_stepOf_5 : decode cX6_stepOf 5 = .ok (.istore_n 2, 1) := by decide +kernel
theorem dX6_stepOf_6 : decode cX6_stepOf 6 = .ok (.aload_n 0, 1) := by decide +kernel
theorem dX6_stepOf_7 : decode cX6_stepOf 7 = .ok (.bipush (-9), 2) := by decide +kernel
theorem dX6_stepOf_9 : decode cX6_stepOf 9 = .ok (.putfield 74, 3) := by decide +kernel
theorem dX6_stepOf_12 : decode cX6_stepOf 12 = .ok (.aload_n 0, 1) := by decide +kernel
theorem dX6_stepOf_13 : decode cX6_stepOf 13 = .ok (.iload_n 1, 1) := by decide +kernel
theorem dX6_stepOf_14 : decode cX6_stepOf 14 = .ok (.invokevirtual 85, 3) := by decide +kernel
theorem dX6_stepOf_17 : decode cX6_stepOf 17 = .ok (.tableswitch 143 0 2 #[27, 72, 97], 27) := by decide +kernel
theorem dX6_stepOf_44 : decode cX6_stepOf 44 = .ok (.aload_n 0, 1) := by decide +kernel
theorem dX6_stepOf_45 : decode cX6_stepOf 45 = .ok (.aload_n 0, 1) := by decide +kernel
theorem dX6_stepOf_46 : decode cX6_stepOf 46 = .ok (.getfield 64, 3) := by decide +kernel
theorem dX6_stepOf_49 : decode cX6_stepOf 49 = .ok (.iconst 3, 1) := by decide +kernel
theorem dX6_stepOf_50 : decode cX6_stepOf 50 = .ok (.iconst 3, 1) := by decide +kernel
theorem dX6_stepOf_51 : decode cX6_stepOf 51 = .ok (.iload_n 2, 1) := by decide +kernel
theorem dX6_stepOf_52 : decode cX6_stepOf 52 = .ok (.imul, 1) := by decide +kernel
theorem dX6_stepOf_53 : decode cX6_stepOf 53 = .ok (.ishl, 1) := by decide +kernel
theorem dX6_stepOf_54 : decode cX6_stepOf 54 = .ok (.iconst (-1), 1) := by decide +kernel
theorem dX6_stepOf_55 : decode cX6_stepOf 55 = .ok (.ixor, 1) := by decide +kernel
theorem dX6_stepOf_56 : decode cX6_stepOf 56 = .ok (.iand, 1) := by decide +kernel
theorem dX6_stepOf_57 : decode cX6_stepOf 57 = .ok (.iload_n 1, 1) := by decide +kernel
theorem dX6_stepOf_58 : decode cX6_stepOf 58 = .ok (.iconst 1, 1) := by decide +kernel
theorem dX6_stepOf_59 : decode cX6_stepOf 59 = .ok (.iadd, 1) := by decide +kernel
theorem dX6_stepOf_60 : decode cX6_stepOf 60 = .ok (.iconst 3, 1) := by decide +kernel
theorem dX6_stepOf_61 : decode cX6_stepOf 61 = .ok (.iload_n 2, 1) := by decide +kernel
theorem dX6_stepOf_62 : decode cX6_stepOf 62 = .ok (.imul, 1) := by decide +kernel
theorem dX6_stepOf_63 : decode cX6_stepOf 63 = .ok (.ishl, 1) := by decide +kernel
theorem dX6_stepOf_64 : decode cX6_stepOf 64 = .ok (.ior, 1) := by decide +kernel
theorem dX6_stepOf_65 : decode cX6_stepOf 65 = .ok (.putfield 64, 3) := by decide +kernel
theorem dX6_stepOf_68 : decode cX6_stepOf 68 = .ok (.aload_n 0, 1) := by decide +kernel
theorem dX6_stepOf_69 : decode cX6_stepOf 69 = .ok (.iload_n 1, 1) := by decide +kernel
theorem dX6_stepOf_70 : decode cX6_stepOf 70 = .ok (.aload_n 0, 1) := by decide +kernel
theorem dX6_stepOf_71 : decode cX6_stepOf 71 = .ok (.getfield 7, 3) := by decide +kernel
theorem dX6_stepOf_74 : decode cX6_stepOf 74 = .ok (.iconst 2, 1) := by decide +kernel
theorem dX6_stepOf_75 : decode cX6_stepOf 75 = .ok (.iaload, 1) := by decide +kernel
theorem dX6_stepOf_76 : decode cX6_stepOf 76 = .ok (.iconst 1, 1) := by decide +kernel
theorem dX6_stepOf_77 : decode cX6_stepOf 77 = .ok (.if_icmp .ne 7, 3) := by decide +kernel
theorem dX6_stepOf_80 : decode cX6_stepOf 80 = .ok (.iconst 2, 1) := by decide +kernel
theorem dX6_stepOf_81 : decode cX6_stepOf 81 = .ok (.goto 4, 3) := by decide +kernel
theorem dX6_stepOf_84 : decode cX6_stepOf 84 = .ok (.iconst 1, 1) := by decide +kernel
theorem dX6_stepOf_85 : decode cX6_stepOf 85 = .ok (.invokevirtual 88, 3) := by decide +kernel
theorem dX6_stepOf_88 : decode cX6_stepOf 88 = .ok (.ireturn, 1) := by decide +kernel
theorem dX6_stepOf_89 : decode cX6_stepOf 89 = .ok (.aload_n 0, 1) := by decide +kernel
theorem dX6_stepOf_90 : decode cX6_stepOf 90 = .ok (.iload_n 2, 1) := by decide +kernel
theorem dX6_stepOf_91 : decode cX6_stepOf 91 = .ok (.invokevirtual 92, 3) := by decide +kernel
theorem dX6_stepOf_94 : decode cX6_stepOf 94 = .ok (.iconst 1, 1) := by decide +kernel
theorem dX6_stepOf_95 : decode cX6_stepOf 95 = .ok (.if_icmp .ne 12, 3) := by decide +kernel
theorem dX6_stepOf_98 : decode cX6_stepOf 98 = .ok (.aload_n 0, 1) := by decide +kernel
theorem dX6_stepOf_99 : decode cX6_stepOf 99 = .ok (.iload_n 1, 1) := by decide +kernel
theorem dX6_stepOf_100 : decode cX6_stepOf 100 = .ok (.iconst 1, 1) := by decide +kernel
theorem dX6_stepOf_101 : decode cX6_stepOf 101 = .ok (.invokevirtual 95, 3) := by decide +kernel
theorem dX6_stepOf_104 : decode cX6_stepOf 104 = .ok (.goto 9, 3) := by decide +kernel
theorem dX6_stepOf_107 : decode cX6_stepOf 107 = .ok (.aload_n 0, 1) := by decide +kernel
theorem dX6_stepOf_108 : decode cX6_stepOf 108 = .ok (.iload_n 1, 1) := by decide +kernel
theorem dX6_stepOf_109 : decode cX6_stepOf 109 = .ok (.iconst 2, 1) := by decide +kernel
theorem dX6_stepOf_110 : decode cX6_stepOf 110 = .ok (.invokevirtual 88, 3) := by decide +kernel
theorem dX6_stepOf_113 : decode cX6_stepOf 113 = .ok (.ireturn, 1) := by decide +kernel
theorem dX6_stepOf_114 : decode cX6_stepOf 114 = .ok (.aload_n 0, 1) := by decide +kernel
theorem dX6_stepOf_115 : decode cX6_stepOf 115 = .ok (.getfield 7, 3) := by decide +kernel
theorem dX6_stepOf_118 : decode cX6_stepOf 118 = .ok (.iconst 2, 1) := by decide +kernel
theorem dX6_stepOf_119 : decode cX6_stepOf 119 = .ok (.iaload, 1) := by decide +kernel
theorem dX6_stepOf_120 : decode cX6_stepOf 120 = .ok (.iconst 2, 1) := by decide +kernel
theorem dX6_stepOf_121 : decode cX6_stepOf 121 = .ok (.if_icmp .ne 28, 3) := by decide +kernel
theorem dX6_stepOf_124 : decode cX6_stepOf 124 = .ok (.aload_n 0, 1) := by decide +kernel
theorem dX6_stepOf_125 : decode cX6_stepOf 125 = .ok (.iload_n 2, 1) := by decide +kernel
theorem dX6_stepOf_126 : decode cX6_stepOf 126 = .ok (.invokevirtual 99, 3) := by decide +kernel
theorem dX6_stepOf_129 : decode cX6_stepOf 129 = .ok (.iload_n 1, 1) := by decide +kernel
theorem dX6_stepOf_130 : decode cX6_stepOf 130 = .ok (.if_icmp .ne 12, 3) := by decide +kernel
theorem dX6_stepOf_133 : decode cX6_stepOf 133 = .ok (.aload_n 0, 1) := by decide +kernel
theorem dX6_stepOf_134 : decode cX6_stepOf 134 = .ok (.iload_n 1, 1) := by decide +kernel
theorem dX6_stepOf_135 : decode cX6_stepOf 135 = .ok (.iconst 3, 1) := by decide +kernel
theorem dX6_stepOf_136 : decode cX6_stepOf 136 = .ok (.invokevirtual 88, 3) := by decide +kernel
theorem dX6_stepOf_139 : decode cX6_stepOf 139 = .ok (.goto 9, 3) := by decide +kernel
theorem dX6_stepOf_142 : decode cX6_stepOf 142 = .ok (.aload_n 0, 1) := by decide +kernel
theorem dX6_stepOf_143 : decode cX6_stepOf 143 = .ok (.iload_n 1, 1) := by decide +kernel
theorem dX6_stepOf_144 : decode cX6_stepOf 144 = .ok (.iconst 0, 1) := by decide +kernel
theorem dX6_stepOf_145 : decode cX6_stepOf 145 = .ok (.invokevirtual 95, 3) := by decide +kernel
theorem dX6_stepOf_148 : decode cX6_stepOf 148 = .ok (.ireturn, 1) := by decide +kernel
theorem dX6_stepOf_149 : decode cX6_stepOf 149 = .ok (.aload_n 0, 1) := by decide +kernel
theorem dX6_stepOf_150 : decode cX6_stepOf 150 = .ok (.aload_n 0, 1) := by decide +kernel
theorem dX6_stepOf_151 : decode cX6_stepOf 151 = .ok (.iload_n 1, 1) := by decide +kernel
theorem dX6_stepOf_152 : decode cX6_stepOf 152 = .ok (.invokevirtual 102, 3) := by decide +kernel
theorem dX6_stepOf_155 : decode cX6_stepOf 155 = .ok (.iconst 3, 1) := by decide +kernel
theorem dX6_stepOf_156 : decode cX6_stepOf 156 = .ok (.invokevirtual 88, 3) := by decide +kernel
theorem dX6_stepOf_159 : decode cX6_stepOf 159 = .ok (.ireturn, 1) := by decide +kernel
theorem dX6_stepOf_160 : decode cX6_stepOf 160 = .ok (.aload_n 0, 1) := by decide +kernel
theorem dX6_stepOf_161 : decode cX6_stepOf 161 = .ok (.getfield 7, 3) := by decide +kernel
theorem dX6_stepOf_164 : decode cX6_stepOf 164 = .ok (.iconst 2, 1) := by decide +kernel
theorem dX6_stepOf_165 : decode cX6_stepOf 165 = .ok (.iaload, 1) := by decide +kernel
theorem dX6_stepOf_166 : decode cX6_stepOf 166 = .ok (.iconst 2, 1) := by decide +kernel
theorem dX6_stepOf_167 : decode cX6_stepOf 167 = .ok (.if_icmp .ne 13, 3) := by decide +kernel
theorem dX6_stepOf_170 : decode cX6_stepOf 170 = .ok (.aload_n 0, 1) := by decide +kernel
theorem dX6_stepOf_171 : decode cX6_stepOf 171 = .ok (.aload_n 0, 1) := by decide +kernel
theorem dX6_stepOf_172 : decode cX6_stepOf 172 = .ok (.iload_n 1, 1) := by decide +kernel
theorem dX6_stepOf_173 : decode cX6_stepOf 173 = .ok (.invokevirtual 102, 3) := by decide +kernel
theorem dX6_stepOf_176 : decode cX6_stepOf 176 = .ok (.invokevirtual 105, 3) := by decide +kernel
theorem dX6_stepOf_179 : decode cX6_stepOf 179 = .ok (.ireturn, 1) := by decide +kernel
theorem dX6_stepOf_180 : decode cX6_stepOf 180 = .ok (.aload_n 0, 1) := by decide +kernel
theorem dX6_stepOf_181 : decode cX6_stepOf 181 = .ok (.iload_n 2, 1) := by decide +kernel
theorem dX6_stepOf_182 : decode cX6_stepOf 182 = .ok (.invokevirtual 99, 3) := by decide +kernel
theorem dX6_stepOf_185 : decode cX6_stepOf 185 = .ok (.iload_n 1, 1) := by decide +kernel
theorem dX6_stepOf_186 : decode cX6_stepOf 186 = .ok (.if_icmp .ne 11, 3) := by decide +kernel
theorem dX6_stepOf_189 : decode cX6_stepOf 189 = .ok (.aload_n 0, 1) := by decide +kernel
theorem dX6_stepOf_190 : decode cX6_stepOf 190 = .ok (.iload_n 1, 1) := by decide +kernel
theorem dX6_stepOf_191 : decode cX6_stepOf 191 = .ok (.invokevirtual 105, 3) := by decide +kernel
theorem dX6_stepOf_194 : decode cX6_stepOf 194 = .ok (.goto 9, 3) := by decide +kernel
theorem dX6_stepOf_197 : decode cX6_stepOf 197 = .ok (.aload_n 0, 1) := by decide +kernel
theorem dX6_stepOf_198 : decode cX6_stepOf 198 = .ok (.iload_n 1, 1) := by decide +kernel
theorem dX6_stepOf_199 : decode cX6_stepOf 199 = .ok (.iconst 0, 1) := by decide +kernel
theorem dX6_stepOf_200 : decode cX6_stepOf 200 = .ok (.invokevirtual 95, 3) := by decide +kernel
theorem dX6_stepOf_203 : decode cX6_stepOf 203 = .ok (.ireturn, 1) := by decide +kernel
theorem dX6_take_0 : decode cX6_take 0 = .ok (.aload_n 0, 1) := by decide +kernel
theorem dX6_take_1 : decode cX6_take 1 = .ok (.aload_n 0, 1) := by decide +kernel
theorem dX6_take_2 : decode cX6_take 2 = .ok (.getfield 7, 3) := by decide +kernel
theorem dX6_take_5 : decode cX6_take 5 = .ok (.iconst 3, 1) := by decide +kernel
theorem dX6_take_6 : decode cX6_take 6 = .ok (.iaload, 1) := by decide +kernel
theorem dX6_take_7 : decode cX6_take 7 = .ok (.putfield 64, 3) := by decide +kernel
theorem dX6_take_10 : decode cX6_take 10 = .ok (.aload_n 0, 1) := by decide +kernel
theorem dX6_take_11 : decode cX6_take 11 = .ok (.aload_n 0, 1) := by decide +kernel
theorem dX6_take_12 : decode cX6_take 12 = .ok (.getfield 7, 3) := by decide +kernel
theorem dX6_take_15 : decode cX6_take 15 = .ok (.iconst 4, 1) := by decide +kernel
theorem dX6_take_16 : decode cX6_take 16 = .ok (.iaload, 1) := by decide +kernel
theorem dX6_take_17 : decode cX6_take 17 = .ok (.putfield 61, 3) := by decide +kernel
theorem dX6_take_20 : decode cX6_take 20 = .ok (.return_, 1) := by decide +kernel
theorem dX6_keep_0 : decode cX6_keep 0 = .ok (.aload_n 0, 1) := by decide +kernel
theorem dX6_keep_1 : decode cX6_keep 1 = .ok (.getfield 108, 3) := by decide +kernel
theorem dX6_keep_4 : decode cX6_keep 4 = .ok (.bipush 8, 2) := by decide +kernel
theorem dX6_keep_6 : decode cX6_keep 6 = .ok (.if_icmp .ne 43, 3) := by decide +kernel
theorem dX6_keep_9 : decode cX6_keep 9 = .ok (.iconst 0, 1) := by decide +kernel
theorem dX6_keep_10 : decode cX6_keep 10 = .ok (.istore_n 1, 1) := by decide +kernel
theorem dX6_keep_11 : decode cX6_keep 11 = .ok (.iload_n 1, 1) := by decide +kernel
theorem dX6_keep_12 : decode cX6_keep 12 = .ok (.sipush 266, 3) := by decide +kernel
theorem dX6_keep_15 : decode cX6_keep 15 = .ok (.if_icmp .ge 24, 3) := by decide +kernel
theorem dX6_keep_18 : decode cX6_keep 18 = .ok (.aload_n 0, 1) := by decide +kernel
theorem dX6_keep_19 : decode cX6_keep 19 = .ok (.getfield 13, 3) := by decide +kernel
theorem dX6_keep_22 : decode cX6_keep 22 = .ok (.iload_n 1, 1) := by decide +kernel
theorem dX6_keep_23 : decode cX6_keep 23 = .ok (.aload_n 0, 1) := by decide +kernel
theorem dX6_keep_24 : decode cX6_keep 24 = .ok (.getfield 13, 3) := by decide +kernel
theorem dX6_keep_27 : decode cX6_keep 27 = .ok (.bipush 38, 2) := by decide +kernel
theorem dX6_keep_29 : decode cX6_keep 29 = .ok (.iload_n 1, 1) := by decide +kernel
theorem dX6_keep_30 : decode cX6_keep 30 = .ok (.iadd, 1) := by decide +kernel
theorem dX6_keep_31 : decode cX6_keep 31 = .ok (.iaload, 1) := by decide +kernel
theorem dX6_keep_32 : decode cX6_keep 32 = .ok (.iastore, 1) := by decide +kernel
theorem dX6_keep_33 : decode cX6_keep 33 = .ok (.iinc 1 1, 3) := by decide +kernel
theorem dX6_keep_36 : decode cX6_keep 36 = .ok (.goto (-25), 3) := by decide +kernel
theorem dX6_keep_39 : decode cX6_keep 39 = .ok (.aload_n 0, 1) := by decide +kernel
theorem dX6_keep_40 : decode cX6_keep 40 = .ok (.dup, 1) := by decide +kernel
theorem dX6_keep_41 : decode cX6_keep 41 = .ok (.getfield 108, 3) := by decide +kernel
theorem dX6_keep_44 : decode cX6_keep 44 = .ok (.iconst 1, 1) := by decide +kernel
theorem dX6_keep_45 : decode cX6_keep 45 = .ok (.isub, 1) := by decide +kernel
theorem dX6_keep_46 : decode cX6_keep 46 = .ok (.putfield 108, 3) := by decide +kernel
theorem dX6_keep_49 : decode cX6_keep 49 = .ok (.iconst 0, 1) := by decide +kernel
theorem dX6_keep_50 : decode cX6_keep 50 = .ok (.istore_n 1, 1) := by decide +kernel
theorem dX6_keep_51 : decode cX6_keep 51 = .ok (.iload_n 1, 1) := by decide +kernel
theorem dX6_keep_52 : decode cX6_keep 52 = .ok (.bipush 38, 2) := by decide +kernel
theorem dX6_keep_54 : decode cX6_keep 54 = .ok (.if_icmp .ge 29, 3) := by decide +kernel
theorem dX6_keep_57 : decode cX6_keep 57 = .ok (.aload_n 0, 1) := by decide +kernel
theorem dX6_keep_58 : decode cX6_keep 58 = .ok (.getfield 13, 3) := by decide +kernel
theorem dX6_keep_61 : decode cX6_keep 61 = .ok (.bipush 38, 2) := by decide +kernel
theorem dX6_keep_63 : decode cX6_keep 63 = .ok (.aload_n 0, 1) := by decide +kernel
theorem dX6_keep_64 : decode cX6_keep 64 = .ok (.getfield 108, 3) := by decide +kernel
theorem dX6_keep_67 : decode cX6_keep 67 = .ok (.imul, 1) := by decide +kernel
theorem dX6_keep_68 : decode cX6_keep 68 = .ok (.iload_n 1, 1) := by decide +kernel
theorem dX6_keep_69 : decode cX6_keep 69 = .ok (.iadd, 1) := by decide +kernel
theorem dX6_keep_70 : decode cX6_keep 70 = .ok (.aload_n 0, 1) := by decide +kernel
theorem dX6_keep_71 : decode cX6_keep 71 = .ok (.getfield 7, 3) := by decide +kernel
theorem dX6_keep_74 : decode cX6_keep 74 = .ok (.iload_n 1, 1) := by decide +kernel
theorem dX6_keep_75 : decode cX6_keep 75 = .ok (.iaload, 1) := by decide +kernel
theorem dX6_keep_76 : decode cX6_keep 76 = .ok (.iastore, 1) := by decide +kernel
theorem dX6_keep_77 : decode cX6_keep 77 = .ok (.iinc 1 1, 3) := by decide +kernel
theorem dX6_keep_80 : decode cX6_keep 80 = .ok (.goto (-29), 3) := by decide +kernel
theorem dX6_keep_83 : decode cX6_keep 83 = .ok (.aload_n 0, 1) := by decide +kernel
theorem dX6_keep_84 : decode cX6_keep 84 = .ok (.dup, 1) := by decide +kernel
theorem dX6_keep_85 : decode cX6_keep 85 = .ok (.getfield 108, 3) := by decide +kernel
theorem dX6_keep_88 : decode cX6_keep 88 = .ok (.iconst 1, 1) := by decide +kernel
theorem dX6_keep_89 : decode cX6_keep 89 = .ok (.iadd, 1) := by decide +kernel
theorem dX6_keep_90 : decode cX6_keep 90 = .ok (.putfield 108, 3) := by decide +kernel
theorem dX6_keep_93 : decode cX6_keep 93 = .ok (.aload_n 0, 1) := by decide +kernel
theorem dX6_keep_94 : decode cX6_keep 94 = .ok (.iconst 0, 1) := by decide +kernel
theorem dX6_keep_95 : decode cX6_keep 95 = .ok (.putfield 111, 3) := by decide +kernel
theorem dX6_keep_98 : decode cX6_keep 98 = .ok (.return_, 1) := by decide +kernel
theorem dX6_begin_0 : decode cX6_begin 0 = .ok (.iconst 0, 1) := by decide +kernel
theorem dX6_begin_1 : decode cX6_begin 1 = .ok (.istore 4, 2) := by decide +kernel
theorem dX6_begin_3 : decode cX6_begin 3 = .ok (.iload 4, 2) := by decide +kernel
theorem dX6_begin_5 : decode cX6_begin 5 = .ok (.bipush 38, 2) := by decide +kernel
theorem dX6_begin_7 : decode cX6_begin 7 = .ok (.if_icmp .ge 17, 3) := by decide +kernel
theorem dX6_begin_10 : decode cX6_begin 10 = .ok (.aload_n 0, 1) := by decide +kernel
theorem dX6_begin_11 : decode cX6_begin 11 = .ok (.getfield 7, 3) := by decide +kernel
theorem dX6_begin_14 : decode cX6_begin 14 = .ok (.iload 4, 2) := by decide +kernel
theorem dX6_begin_16 : decode cX6_begin 16 = .ok (.iconst 0, 1) := by decide +kernel
theorem dX6_begin_17 : decode cX6_begin 17 = .ok (.iastore, 1) := by decide +kernel
theorem dX6_begin_18 : decode cX6_begin 18 = .ok (.iinc 4 1, 3) := by decide +kernel
theorem dX6_begin_21 : decode cX6_begin 21 = .ok (.goto (-18), 3) := by decide +kernel
theorem dX6_begin_24 : decode cX6_begin 24 = .ok (.aload_n 0, 1) := by decide +kernel
theorem dX6_begin_25 : decode cX6_begin 25 = .ok (.getfield 7, 3) := by decide +kernel
theorem dX6_begin_28 : decode cX6_begin 28 = .ok (.iconst 0, 1) := by decide +kernel
theorem dX6_begin_29 : decode cX6_begin 29 = .ok (.iload_n 1, 1) := by decide +kernel
theorem dX6_begin_30 : decode cX6_begin 30 = .ok (.iastore, 1) := by decide +kernel
theorem dX6_begin_31 : decode cX6_begin 31 = .ok (.aload_n 0, 1) := by decide +kernel
theorem dX6_begin_32 : decode cX6_begin 32 = .ok (.getfield 7, 3) := by decide +kernel
theorem dX6_begin_35 : decode cX6_begin 35 = .ok (.iconst 1, 1) := by decide +kernel
theorem dX6_begin_36 : decode cX6_begin 36 = .ok (.iload_n 2, 1) := by decide +kernel
theorem dX6_begin_37 : decode cX6_begin 37 = .ok (.iastore, 1) := by decide +kernel
theorem dX6_begin_38 : decode cX6_begin 38 = .ok (.aload_n 0, 1) := by decide +kernel
theorem dX6_begin_39 : decode cX6_begin 39 = .ok (.getfield 7, 3) := by decide +kernel
theorem dX6_begin_42 : decode cX6_begin 42 = .ok (.iconst 2, 1) := by decide +kernel
theorem dX6_begin_43 : decode cX6_begin 43 = .ok (.iload_n 3, 1) := by decide +kernel
theorem dX6_begin_44 : decode cX6_begin 44 = .ok (.iastore, 1) := by decide +kernel
theorem dX6_begin_45 : decode cX6_begin 45 = .ok (.aload_n 0, 1) := by decide +kernel
theorem dX6_begin_46 : decode cX6_begin 46 = .ok (.getfield 7, 3) := by decide +kernel
theorem dX6_begin_49 : decode cX6_begin 49 = .ok (.bipush 8, 2) := by decide +kernel
theorem dX6_begin_51 : decode cX6_begin 51 = .ok (.iload_n 2, 1) := by decide +kernel
theorem dX6_begin_52 : decode cX6_begin 52 = .ok (.iastore, 1) := by decide +kernel
theorem dX6_begin_53 : decode cX6_begin 53 = .ok (.return_, 1) := by decide +kernel
theorem dX6_names_0 : decode cX6_names 0 = .ok (.aload_n 0, 1) := by decide +kernel
theorem dX6_names_1 : decode cX6_names 1 = .ok (.getfield 7, 3) := by decide +kernel
theorem dX6_names_4 : decode cX6_names 4 = .ok (.iconst 0, 1) := by decide +kernel
theorem dX6_names_5 : decode cX6_names 5 = .ok (.iaload, 1) := by decide +kernel
theorem dX6_names_6 : decode cX6_names 6 = .ok (.aload_n 0, 1) := by decide +kernel
theorem dX6_names_7 : decode cX6_names 7 = .ok (.getfield 7, 3) := by decide +kernel
theorem dX6_names_10 : decode cX6_names 10 = .ok (.iconst 0, 1) := by decide +kernel
theorem dX6_names_11 : decode cX6_names 11 = .ok (.iaload, 1) := by decide +kernel
theorem dX6_names_12 : decode cX6_names 12 = .ok (.iconst 1, 1) := by decide +kernel
theorem dX6_names_13 : decode cX6_names 13 = .ok (.iadd, 1) := by decide +kernel
theorem dX6_names_14 : decode cX6_names 14 = .ok (.imul, 1) := by decide +kernel
theorem dX6_names_15 : decode cX6_names 15 = .ok (.iconst 2, 1) := by decide +kernel
theorem dX6_names_16 : decode cX6_names 16 = .ok (.idiv, 1) := by decide +kernel
theorem dX6_names_17 : decode cX6_names 17 = .ok (.ireturn, 1) := by decide +kernel
set_option maxRecDepth 20000 in
theorem ggX6_configure_X6_in : GoodIn wsX6_configure wsX6_in := goodIn_r _ [5] (by decide +kernel) (by decide +kernel)
set_option maxRecDepth 20000 in
theorem gX6_configure_X6_in : GoodIn wsX6_configure (va_wsS RX6 114 yX6_in wsX6_in) := goodIn_app (goodIn_of _ (by decide +kernel)) ggX6_configure_X6_in
set_option maxRecDepth 20000 in
theorem ggX6_configure_X6_keep : GoodIn wsX6_configure wsX6_keep := goodIn_r _ [9, 10, 11, 12, 13, 22, 23, 24, 25, 26, 27, 28, 29, 30, 31, 32, 33, 34, 35, 36, 37, 38, 39, 40, 41, 42, 43, 44, 45, 46, 47, 48, 49, 50, 51, 52, 53, 54, 55] (by decide +kernel) (by decide +kernel)
set_option maxRecDepth 20000 in
theorem gX6_configure_X6_keep : GoodIn wsX6_configure (wsV RX6 118 RX6 yX6_keep wsX6_keep) := goodIn_app (goodIn_of _ (by decide +kernel)) ggX6_configure_X6_keep
set_option maxRecDepth 20000 in
theorem ggX6_configure_X6_begin : GoodIn wsX6_configure wsX6_begin := goodIn_r _ [17, 12, 22, 23, 24, 25, 26, 27, 28, 29, 30, 31, 32, 33, 34, 35, 36, 37, 38, 39, 40, 41, 42, 43, 44, 45, 46, 47, 48, 49, 50, 51, 52, 53, 54, 55] (by decide +kernel) (by decide +kernel)
set_option maxRecDepth 20000 in
theorem gX6_configure_X6_begin : GoodIn wsX6_configure (wsV RX6 53 RX6 yX6_begin wsX6_begin) := goodIn_app (goodIn_of _ (by decide +kernel)) ggX6_configure_X6_begin
set_option maxRecDepth 20000 in
theorem ggX6_configure_X6_names : GoodIn wsX6_configure wsX6_names := goodIn_r _ [21, 12, 22, 23, 24, 25, 26, 27, 28, 29, 30, 31, 32, 33, 34, 35, 36, 37, 38, 39, 40, 41, 42, 43, 44, 45, 46, 47, 48, 49, 50, 51, 52, 53, 54, 55] (by decide +kernel) (by decide +kernel)
set_option maxRecDepth 20000 in
theorem gX6_configure_X6_names : GoodIn wsX6_configure (wsV RX6 121 RX6 yX6_names wsX6_names) := goodIn_app (goodIn_of _ (by decide +kernel)) ggX6_configure_X6_names
theorem dX6_configure_0 : decode cX6_configure 0 = .ok (.aload_n 0, 1) := by decide +kernel
theorem dX6_configure_1 : decode cX6_configure 1 = .ok (.iconst 0, 1) := by decide +kernel
theorem dX6_configure_2 : decode cX6_configure 2 = .ok (.putfield 57, 3) := by decide +kernel
theorem dX6_configure_5 : decode cX6_configure 5 = .ok (.iload_n 1, 1) := by decide +kernel
theorem dX6_configure_6 : decode cX6_configure 6 = .ok (.iconst 2, 1) := by decide +kernel
theorem dX6_configure_7 : decode cX6_configure 7 = .ok (.iconst 4, 1) := by decide +kernel
theorem dX6_configure_8 : decode cX6_configure 8 = .ok (.invokestatic 114, 3) := by decide +kernel
theorem dX6_configure_11 : decode cX6_configure 11 = .ok (.ifCond .eq 21, 3) := by decide +kernel
theorem dX6_configure_14 : decode cX6_configure 14 = .ok (.iload_n 2, 1) := by decide +kernel
theorem dX6_configure_15 : decode cX6_configure 15 = .ok (.iconst 1, 1) := by decide +kernel
theorem dX6_configure_16 : decode cX6_configure 16 = .ok (.iconst 3, 1) := by decide +kernel
theorem dX6_configure_17 : decode cX6_configure 17 = .ok (.invokestatic 114, 3) := by decide +kernel
theorem dX6_configure_20 : decode cX6_configure 20 = .ok (.ifCond .eq 12, 3) := by decide +kernel
theorem dX6_configure_23 : decode cX6_configure 23 = .ok (.iload_n 3, 1) := by decide +kernel
theorem dX6_configure_24 : decode cX6_configure 24 = .ok (.iconst 0, 1) := by decide +kernel
theorem dX6_configure_25 : decode cX6_configure 25 = .ok (.iconst 2, 1) := by decide +kernel
theorem dX6_configure_26 : decode cX6_configure 26 = .ok (.invokestatic 114, 3) := by decide +kernel
theorem dX6_configure_29 : decode cX6_configure 29 = .ok (.ifCond .ne 5, 3) := by decide +kernel
theorem dX6_configure_32 : decode cX6_configure 32 = .ok (.iconst (-1), 1) := by decide +kernel
theorem dX6_configure_33 : decode cX6_configure 33 = .ok (.ireturn, 1) := by decide +kernel
theorem dX6_configure_34 : decode cX6_configure 34 = .ok (.aload_n 0, 1) := by decide +kernel
theorem dX6_configure_35 : decode cX6_configure 35 = .ok (.invokevirtual 118, 3) := by decide +kernel
theorem dX6_configure_38 : decode cX6_configure 38 = .ok (.aload_n 0, 1) := by decide +kernel
theorem dX6_configure_39 : decode cX6_configure 39 = .ok (.iload_n 1, 1) := by decide +kernel
theorem dX6_configure_40 : decode cX6_configure 40 = .ok (.iload_n 2, 1) := by decide +kernel
theorem dX6_configure_41 : decode cX6_configure 41 = .ok (.iload_n 3, 1) := by decide +kernel
theorem dX6_configure_42 : decode cX6_configure 42 = .ok (.invokevirtual 53, 3) := by decide +kernel
theorem dX6_configure_45 : decode cX6_configure 45 = .ok (.aload_n 0, 1) := by decide +kernel
theorem dX6_configure_46 : decode cX6_configure 46 = .ok (.invokevirtual 121, 3) := by decide +kernel
theorem dX6_configure_49 : decode cX6_configure 49 = .ok (.ireturn, 1) := by decide +kernel
set_option maxRecDepth 20000 in
theorem ggX6_nameCount_X6_names : GoodIn wsX6_nameCount wsX6_names := goodIn_r _ [6, 7, 8, 9, 10, 11, 12, 13, 14, 15, 16, 17, 18, 19, 20, 21, 22, 23, 24, 25, 26, 27, 28, 29, 30, 31, 32, 33, 34, 35, 36, 37, 38, 39, 40, 41] (by decide +kernel) (by decide +kernel)
set_option maxRecDepth 20000 in
theorem gX6_nameCount_X6_names : GoodIn wsX6_nameCount (wsV RX6 121 RX6 yX6_names wsX6_names) := goodIn_app (goodIn_of _ (by decide +kernel)) ggX6_nameCount_X6_names
theorem dX6_nameCount_0 : decode cX6_nameCount 0 = .ok (.aload_n 0, 1) := by decide +kernel
theorem dX6_nameCount_1 : decode cX6_nameCount 1 = .ok (.iconst 0, 1) := by decide +kernel
theorem dX6_nameCount_2 : decode cX6_nameCount 2 = .ok (.putfield 57, 3) := by decide +kernel
theorem dX6_nameCount_5 : decode cX6_nameCount 5 = .ok (.aload_n 0, 1) := by decide +kernel
theorem dX6_nameCount_6 : decode cX6_nameCount 6 = .ok (.invokevirtual 121, 3) := by decide +kernel
theorem dX6_nameCount_9 : decode cX6_nameCount 9 = .ok (.ireturn, 1) := by decide +kernel
theorem dX6_processCount_0 : decode cX6_processCount 0 = .ok (.aload_n 0, 1) := by decide +kernel
theorem dX6_processCount_1 : decode cX6_processCount 1 = .ok (.iconst 0, 1) := by decide +kernel
theorem dX6_processCount_2 : decode cX6_processCount 2 = .ok (.putfield 57, 3) := by decide +kernel
theorem dX6_processCount_5 : decode cX6_processCount 5 = .ok (.aload_n 0, 1) := by decide +kernel
theorem dX6_processCount_6 : decode cX6_processCount 6 = .ok (.getfield 7, 3) := by decide +kernel
theorem dX6_processCount_9 : decode cX6_processCount 9 = .ok (.iconst 1, 1) := by decide +kernel
theorem dX6_processCount_10 : decode cX6_processCount 10 = .ok (.iaload, 1) := by decide +kernel
theorem dX6_processCount_11 : decode cX6_processCount 11 = .ok (.ireturn, 1) := by decide +kernel
set_option maxRecDepth 20000 in
theorem ggX6_isProcess_X6_in : GoodIn wsX6_isProcess wsX6_in := goodIn_r _ [5] (by decide +kernel) (by decide +kernel)
set_option maxRecDepth 20000 in
theorem gX6_isProcess_X6_in : GoodIn wsX6_isProcess (va_wsS RX6 114 yX6_in wsX6_in) := goodIn_app (goodIn_of _ (by decide +kernel)) ggX6_isProcess_X6_in
theorem dX6_isProcess_0 : decode cX6_isProcess 0 = .ok (.iload_n 1, 1) := by decide +kernel
theorem dX6_isProcess_1 : decode cX6_isProcess 1 = .ok (.iconst 0, 1) := by decide +kernel
theorem dX6_isProcess_2 : decode cX6_isProcess 2 = .ok (.aload_n 0, 1) := by decide +kernel
theorem dX6_isProcess_3 : decode cX6_isProcess 3 = .ok (.getfield 7, 3) := by decide +kernel
theorem dX6_isProcess_6 : decode cX6_isProcess 6 = .ok (.iconst 1, 1) := by decide +kernel
theorem dX6_isProcess_7 : decode cX6_isProcess 7 = .ok (.iaload, 1) := by decide +kernel
theorem dX6_isProcess_8 : decode cX6_isProcess 8 = .ok (.iconst 1, 1) := by decide +kernel
theorem dX6_isProcess_9 : decode cX6_isProcess 9 = .ok (.isub, 1) := by decide +kernel
theorem dX6_isProcess_10 : decode cX6_isProcess 10 = .ok (.invokestatic 114, 3) := by decide +kernel
theorem dX6_isProcess_13 : decode cX6_isProcess 13 = .ok (.ireturn, 1) := by decide +kernel
set_option maxRecDepth 20000 in
theorem ggX6_running_X6_take : GoodIn wsX6_running wsX6_take := goodIn_r _ [6, 1, 7, 8, 13, 14, 15, 16, 17, 18, 19, 20, 21, 22, 23, 24, 25, 26, 27, 28, 29, 30, 31, 32, 33, 34, 35, 36, 37, 38, 39, 40, 41, 42, 43, 44, 45, 46] (by decide +kernel) (by decide +kernel)
set_option maxRecDepth 20000 in
theorem gX6_running_X6_take : GoodIn wsX6_running (wsV RX6 125 RX6 yX6_take wsX6_take) := goodIn_app (goodIn_of _ (by decide +kernel)) ggX6_running_X6_take
set_option maxRecDepth 20000 in
theorem ggX6_running_X6_statusIn : GoodIn wsX6_running wsX6_statusIn := goodIn_r _ [12, 8, 13, 14, 15, 16, 17, 18, 19, 20, 21, 22, 23, 24, 25, 26, 27, 28, 29, 30, 31, 32, 33, 34, 35, 36, 37, 38, 39, 40, 41, 42, 43, 44, 45, 46] (by decide +kernel) (by decide +kernel)
set_option maxRecDepth 20000 in
theorem gX6_running_X6_statusIn : GoodIn wsX6_running (wsV RX6 128 RX6 yX6_statusIn wsX6_statusIn) := goodIn_app (goodIn_of _ (by decide +kernel)) ggX6_running_X6_statusIn
theorem dX6_running_0 : decode cX6_running 0 = .ok (.aload_n 0, 1) := by decide +kernel
theorem dX6_running_1 : decode cX6_running 1 = .ok (.invokevirtual 125, 3) := by decide +kernel
theorem dX6_running_4 : decode cX6_running 4 = .ok (.iconst 0, 1) := by decide +kernel
theorem dX6_running_5 : decode cX6_running 5 = .ok (.istore_n 1, 1) := by decide +kernel
theorem dX6_running_6 : decode cX6_running 6 = .ok (.iconst 0, 1) := by decide +kernel
theorem dX6_running_7 : decode cX6_running 7 = .ok (.istore_n 2, 1) := by decide +kernel
theorem dX6_running_8 : decode cX6_running 8 = .ok (.iload_n 2, 1) := by decide +kernel
theorem dX6_running_9 : decode cX6_running 9 = .ok (.aload_n 0, 1) := by decide +kernel
theorem dX6_running_10 : decode cX6_running 10 = .ok (.getfield 7, 3) := by decide +kernel
theorem dX6_running_13 : decode cX6_running 13 = .ok (.iconst 1, 1) := by decide +kernel
theorem dX6_running_14 : decode cX6_running 14 = .ok (.iaload, 1) := by decide +kernel
theorem dX6_running_15 : decode cX6_running 15 = .ok (.if_icmp .ge 25, 3) := by decide +kernel
theorem dX6_running_18 : decode cX6_running 18 = .ok (.iload_n 1, 1) := by decide +kernel
theorem dX6_running_19 : decode cX6_running 19 = .ok (.aload_n 0, 1) := by decide +kernel
theorem dX6_running_20 : decode cX6_running 20 = .ok (.iload_n 2, 1) := by decide +kernel
theorem dX6_running_21 : decode cX6_running 21 = .ok (.invokevirtual 128, 3) := by decide +kernel
theorem dX6_running_24 : decode cX6_running 24 = .ok (.ifCond .ne 7, 3) := by decide +kernel
theorem dX6_running_27 : decode cX6_running 27 = .ok (.iconst 1, 1) := by decide +kernel
theorem dX6_running_28 : decode cX6_running 28 = .ok (.goto 4, 3) := by decide +kernel
theorem dX6_running_31 : decode cX6_running 31 = .ok (.iconst 0, 1) := by decide +kernel
theorem dX6_running_32 : decode cX6_running 32 = .ok (.iadd, 1) := by decide +kernel
theorem dX6_running_33 : decode cX6_running 33 = .ok (.istore_n 1, 1) := by decide +kernel
theorem dX6_running_34 : decode cX6_running 34 = .ok (.iinc 2 1, 3) := by decide +kernel
theorem dX6_running_37 : decode cX6_running 37 = .ok (.goto (-29), 3) := by decide +kernel
theorem dX6_running_40 : decode cX6_running 40 = .ok (.iload_n 1, 1) := by decide +kernel
theorem dX6_running_41 : decode cX6_running 41 = .ok (.ireturn, 1) := by decide +kernel
set_option maxRecDepth 20000 in
theorem ggX6_make_X6_take : GoodIn wsX6_make wsX6_take := goodIn_r _ [10, 1, 2, 3, 54, 55, 56, 57, 58, 59, 60, 61, 62, 63, 64, 65, 66, 67, 68, 69, 70, 71, 72, 73, 74, 75, 76, 77, 78, 79, 80, 81, 82, 83, 84, 85, 86, 87] (by decide +kernel) (by decide +kernel)
set_option maxRecDepth 20000 in
theorem gX6_make_X6_take : GoodIn wsX6_make (wsV RX6 125 RX6 yX6_take wsX6_take) := goodIn_app (goodIn_of _ (by decide +kernel)) ggX6_make_X6_take
set_option maxRecDepth 20000 in
theorem ggX6_make_X6_stepOf : GoodIn wsX6_make wsX6_stepOf := goodIn_r _ [14, 4, 2, 1, 15, 16, 17, 9, 18, 3, 19, 20, 21, 22, 23, 24, 25, 26, 27, 28, 29, 30, 31, 32, 33, 34, 35, 36, 37, 38, 5, 39, 40, 41, 42, 43, 44, 45, 46, 47, 48, 49, 50, 51, 52, 53, 54, 55, 56, 57, 58, 59, 60, 61, 62, 63, 64, 65, 66, 67, 68, 69, 70, 71, 72, 73, 74, 75, 76, 77, 78, 79, 80, 81, 82, 83, 84, 85, 86, 87] (by decide +kernel) (by decide +kernel)
set_option maxRecDepth 20000 in
theorem gX6_make_X6_stepOf : GoodIn wsX6_make (wsV RX6 131 RX6 yX6_stepOf wsX6_stepOf) := goodIn_app (goodIn_of _ (by decide +kernel)) ggX6_make_X6_stepOf
set_option maxRecDepth 20000 in
theorem ggX6_make_X6_splitterIn : GoodIn wsX6_make wsX6_splitterIn := goodIn_r _ [18, 3, 54, 55, 56, 57, 58, 59, 60, 61, 62, 63, 64, 65, 66, 67, 68, 69, 70, 71, 72, 73, 74, 75, 76, 77, 78, 79, 80, 81, 82, 83, 84, 85, 86, 87] (by decide +kernel) (by decide +kernel)
set_option maxRecDepth 20000 in
theorem gX6_make_X6_splitterIn : GoodIn wsX6_make (wsV RX6 67 RX6 yX6_splitterIn wsX6_splitterIn) := goodIn_app (goodIn_of _ (by decide +kernel)) ggX6_make_X6_splitterIn
theorem dX6_make_0 : decode cX6_make 0 = .ok (.aload_n 0, 1) := by decide +kernel
theorem dX6_make_1 : decode cX6_make 1 = .ok (.invokevirtual 125, 3) := by decide +kernel
theorem dX6_make_4 : decode cX6_make 4 = .ok (.aload_n 0, 1) := by decide +kernel
theorem dX6_make_5 : decode cX6_make 5 = .ok (.iload_n 1, 1) := by decide +kernel
theorem dX6_make_6 : decode cX6_make 6 = .ok (.invokevirtual 131, 3) := by decide +kernel
theorem dX6_make_9 : decode cX6_make 9 = .ok (.istore_n 2, 1) := by decide +kernel
theorem dX6_make_10 : decode cX6_make 10 = .ok (.aload_n 0, 1) := by decide +kernel
theorem dX6_make_11 : decode cX6_make 11 = .ok (.getfield 7, 3) := by decide +kernel
theorem dX6_make_14 : decode cX6_make 14 = .ok (.iconst 3, 1) := by decide +kernel
theorem dX6_make_15 : decode cX6_make 15 = .ok (.aload_n 0, 1) := by decide +kernel
theorem dX6_make_16 : decode cX6_make 16 = .ok (.getfield 64, 3) := by decide +kernel
theorem dX6_make_19 : decode cX6_make 19 = .ok (.iastore, 1) := by decide +kernel
theorem dX6_make_20 : decode cX6_make 20 = .ok (.aload_n 0, 1) := by decide +kernel
theorem dX6_make_21 : decode cX6_make 21 = .ok (.getfield 7, 3) := by decide +kernel
theorem dX6_make_24 : decode cX6_make 24 = .ok (.iconst 4, 1) := by decide +kernel
theorem dX6_make_25 : decode cX6_make 25 = .ok (.aload_n 0, 1) := by decide +kernel
theorem dX6_make_26 : decode cX6_make 26 = .ok (.getfield 61, 3) := by decide +kernel
theorem dX6_make_29 : decode cX6_make 29 = .ok (.iastore, 1) := by decide +kernel
theorem dX6_make_30 : decode cX6_make 30 = .ok (.aload_n 0, 1) := by decide +kernel
theorem dX6_make_31 : decode cX6_make 31 = .ok (.getfield 7, 3) := by decide +kernel
theorem dX6_make_34 : decode cX6_make 34 = .ok (.iconst 5, 1) := by decide +kernel
theorem dX6_make_35 : decode cX6_make 35 = .ok (.iload_n 1, 1) := by decide +kernel
theorem dX6_make_36 : decode cX6_make 36 = .ok (.iadd, 1) := by decide +kernel
theorem dX6_make_37 : decode cX6_make 37 = .ok (.dup2, 1) := by decide +kernel
theorem dX6_make_38 : decode cX6_make 38 = .ok (.iaload, 1) := by decide +kernel
theorem dX6_make_39 : decode cX6_make 39 = .ok (.iconst 1, 1) := by decide +kernel
theorem dX6_make_40 : decode cX6_make 40 = .ok (.iadd, 1) := by decide +kernel
theorem dX6_make_41 : decode cX6_make 41 = .ok (.iastore, 1) := by decide +kernel
theorem dX6_make_42 : decode cX6_make 42 = .ok (.aload_n 0, 1) := by decide +kernel
theorem dX6_make_43 : decode cX6_make 43 = .ok (.getfield 74, 3) := by decide +kernel
theorem dX6_make_46 : decode cX6_make 46 = .ok (.bipush (-9), 2) := by decide +kernel
theorem dX6_make_48 : decode cX6_make 48 = .ok (.if_icmp .eq 31, 3) := by decide +kernel
theorem dX6_make_51 : decode cX6_make 51 = .ok (.aload_n 0, 1) := by decide +kernel
theorem dX6_make_52 : decode cX6_make 52 = .ok (.getfield 7, 3) := by decide +kernel
theorem dX6_make_55 : decode cX6_make 55 = .ok (.aload_n 0, 1) := by decide +kernel
theorem dX6_make_56 : decode cX6_make 56 = .ok (.getfield 77, 3) := by decide +kernel
theorem dX6_make_59 : decode cX6_make 59 = .ok (.ifCond .eq 8, 3) := by decide +kernel
theorem dX6_make_62 : decode cX6_make 62 = .ok (.bipush 18, 2) := by decide +kernel
theorem dX6_make_64 : decode cX6_make 64 = .ok (.goto 5, 3) := by decide +kernel
theorem dX6_make_67 : decode cX6_make 67 = .ok (.bipush 28, 2) := by decide +kernel
theorem dX6_make_69 : decode cX6_make 69 = .ok (.aload_n 0, 1) := by decide +kernel
theorem dX6_make_70 : decode cX6_make 70 = .ok (.getfield 74, 3) := by decide +kernel
theorem dX6_make_73 : decode cX6_make 73 = .ok (.iadd, 1) := by decide +kernel
theorem dX6_make_74 : decode cX6_make 74 = .ok (.dup2, 1) := by decide +kernel
theorem dX6_make_75 : decode cX6_make 75 = .ok (.iaload, 1) := by decide +kernel
theorem dX6_make_76 : decode cX6_make 76 = .ok (.iconst 1, 1) := by decide +kernel
theorem dX6_make_77 : decode cX6_make 77 = .ok (.iadd, 1) := by decide +kernel
theorem dX6_make_78 : decode cX6_make 78 = .ok (.iastore, 1) := by decide +kernel
theorem dX6_make_79 : decode cX6_make 79 = .ok (.iload_n 2, 1) := by decide +kernel
theorem dX6_make_80 : decode cX6_make 80 = .ok (.iconst 2, 1) := by decide +kernel
theorem dX6_make_81 : decode cX6_make 81 = .ok (.if_icmp .eq 8, 3) := by decide +kernel
theorem dX6_make_84 : decode cX6_make 84 = .ok (.iload_n 2, 1) := by decide +kernel
theorem dX6_make_85 : decode cX6_make 85 = .ok (.iconst 3, 1) := by decide +kernel
theorem dX6_make_86 : decode cX6_make 86 = .ok (.if_icmp .ne 20, 3) := by decide +kernel
theorem dX6_make_89 : decode cX6_make 89 = .ok (.aload_n 0, 1) := by decide +kernel
theorem dX6_make_90 : decode cX6_make 90 = .ok (.getfield 7, 3) := by decide +kernel
theorem dX6_make_93 : decode cX6_make 93 = .ok (.bipush 8, 2) := by decide +kernel
theorem dX6_make_95 : decode cX6_make 95 = .ok (.aload_n 0, 1) := by decide +kernel
theorem dX6_make_96 : decode cX6_make 96 = .ok (.iload_n 1, 1) := by decide +kernel
theorem dX6_make_97 : decode cX6_make 97 = .ok (.invokevirtual 67, 3) := by decide +kernel
theorem dX6_make_100 : decode cX6_make 100 = .ok (.iadd, 1) := by decide +kernel
theorem dX6_make_101 : decode cX6_make 101 = .ok (.dup2, 1) := by decide +kernel
theorem dX6_make_102 : decode cX6_make 102 = .ok (.iaload, 1) := by decide +kernel
theorem dX6_make_103 : decode cX6_make 103 = .ok (.iconst 1, 1) := by decide +kernel
theorem dX6_make_104 : decode cX6_make 104 = .ok (.iadd, 1) := by decide +kernel
theorem dX6_make_105 : decode cX6_make 105 = .ok (.iastore, 1) := by decide +kernel
theorem dX6_make_106 : decode cX6_make 106 = .ok (.iload_n 2, 1) := by decide +kernel
theorem dX6_make_107 : decode cX6_make 107 = .ok (.ireturn, 1) := by decide +kernel
set_option maxRecDepth 20000 in
theorem ggX6_step_X6_isProcess : GoodIn wsX6_step wsX6_isProcess := goodIn_r _ [6, 7, 8, 9, 5, 10, 77, 78, 79, 80, 81, 82, 83, 84, 85, 86, 87, 88, 89, 90, 91, 92, 93, 94, 95, 96, 97, 98, 99, 100, 101, 102, 103, 104, 105, 106, 107, 108, 109, 110] (by decide +kernel) (by decide +kernel)
set_option maxRecDepth 20000 in
theorem gX6_step_X6_isProcess : GoodIn wsX6_step (wsV RX6 134 RX6 yX6_isProcess wsX6_isProcess) := goodIn_app (goodIn_of _ (by decide +kernel)) ggX6_step_X6_isProcess
set_option maxRecDepth 20000 in
theorem ggX6_step_X6_take : GoodIn wsX6_step wsX6_take := goodIn_r _ [14, 7, 15, 16, 77, 78, 79, 80, 81, 82, 83, 84, 85, 86, 87, 88, 89, 90, 91, 92, 93, 94, 95, 96, 97, 98, 99, 100, 101, 102, 103, 104, 105, 106, 107, 108, 109, 110] (by decide +kernel) (by decide +kernel)
set_option maxRecDepth 20000 in
theorem gX6_step_X6_take : GoodIn wsX6_step (wsV RX6 125 RX6 yX6_take wsX6_take) := goodIn_app (goodIn_of _ (by decide +kernel)) ggX6_step_X6_take
set_option maxRecDepth 20000 in
theorem ggX6_step_X6_statusIn : GoodIn wsX6_step wsX6_statusIn := goodIn_r _ [20, 16, 77, 78, 79, 80, 81, 82, 83, 84, 85, 86, 87, 88, 89, 90, 91, 92, 93, 94, 95, 96, 97, 98, 99, 100, 101, 102, 103, 104, 105, 106, 107, 108, 109, 110] (by decide +kernel) (by decide +kernel)
set_option maxRecDepth 20000 in
theorem gX6_step_X6_statusIn : GoodIn wsX6_step (wsV RX6 128 RX6 yX6_statusIn wsX6_statusIn) := goodIn_app (goodIn_of _ (by decide +kernel)) ggX6_step_X6_statusIn
set_option maxRecDepth 20000 in
theorem ggX6_step_X6_keep : GoodIn wsX6_step wsX6_keep := goodIn_r _ [24, 25, 26, 7, 27, 77, 78, 79, 80, 81, 82, 83, 84, 85, 86, 87, 88, 89, 90, 91, 92, 93, 94, 95, 96, 97, 98, 99, 100, 101, 102, 103, 104, 105, 106, 107, 108, 109, 110] (by decide +kernel) (by decide +kernel)
set_option maxRecDepth 20000 in
theorem gX6_step_X6_keep : GoodIn wsX6_step (wsV RX6 118 RX6 yX6_keep wsX6_keep) := goodIn_app (goodIn_of _ (by decide +kernel)) ggX6_step_X6_keep
set_option maxRecDepth 20000 in
theorem ggX6_step_X6_make : GoodIn wsX6_step wsX6_make := goodIn_r _ [31, 7, 15, 16, 32, 33, 11, 12, 13, 5, 14, 34, 35, 36, 37, 38, 39, 40, 41, 42, 43, 44, 45, 46, 47, 48, 49, 50, 51, 52, 53, 54, 55, 56, 57, 58, 59, 60, 61, 62, 63, 64, 65, 66, 67, 68, 69, 70, 71, 72, 73, 74, 75, 76, 77, 78, 79, 80, 81, 82, 83, 84, 85, 86, 87, 88, 89, 90, 91, 92, 93, 94, 95, 96, 97, 98, 99, 100, 101, 102, 103, 104, 105, 106, 107, 108, 109, 110] (by decide +kernel) (by decide +kernel)
set_option maxRecDepth 20000 in
theorem gX6_step_X6_make : GoodIn wsX6_step (wsV RX6 138 RX6 yX6_make wsX6_make) := goodIn_app (goodIn_of _ (by decide +kernel)) ggX6_step_X6_make
theorem dX6_step_0 : decode cX6_step 0 = .ok (.aload_n 0, 1) := by decide +kernel
theorem dX6_step_1 : decode cX6_step 1 = .ok (.iconst 0, 1) := by decide +kernel
theorem dX6_step_2 : decode cX6_step 2 = .ok (.putfield 57, 3) := by decide +kernel
theorem dX6_step_5 : decode cX6_step 5 = .ok (.aload_n 0, 1) := by decide +kernel
theorem dX6_step_6 : decode cX6_step 6 = .ok (.iload_n 1, 1) := by decide +kernel
theorem dX6_step_7 : decode cX6_step 7 = .ok (.invokevirtual 134, 3) := by decide +kernel
theorem dX6_step_10 : decode cX6_step 10 = .ok (.ifCond .ne 5, 3) := by decide +kernel
theorem dX6_step_13 : decode cX6_step 13 = .ok (.iconst (-1), 1) := by decide +kernel
theorem dX6_step_14 : decode cX6_step 14 = .ok (.ireturn, 1) := by decide +kernel
theorem dX6_step_15 : decode cX6_step 15 = .ok (.aload_n 0, 1) := by decide +kernel
theorem dX6_step_16 : decode cX6_step 16 = .ok (.invokevirtual 125, 3) := by decide +kernel
theorem dX6_step_19 : decode cX6_step 19 = .ok (.aload_n 0, 1) := by decide +kernel
theorem dX6_step_20 : decode cX6_step 20 = .ok (.iload_n 1, 1) := by decide +kernel
theorem dX6_step_21 : decode cX6_step 21 = .ok (.invokevirtual 128, 3) := by decide +kernel
theorem dX6_step_24 : decode cX6_step 24 = .ok (.ifCond .eq 6, 3) := by decide +kernel
theorem dX6_step_27 : decode cX6_step 27 = .ok (.bipush (-2), 2) := by decide +kernel
theorem dX6_step_29 : decode cX6_step 29 = .ok (.ireturn, 1) := by decide +kernel
theorem dX6_step_30 : decode cX6_step 30 = .ok (.aload_n 0, 1) := by decide +kernel
theorem dX6_step_31 : decode cX6_step 31 = .ok (.invokevirtual 118, 3) := by decide +kernel
theorem dX6_step_34 : decode cX6_step 34 = .ok (.aload_n 0, 1) := by decide +kernel
theorem dX6_step_35 : decode cX6_step 35 = .ok (.iload_n 1, 1) := by decide +kernel
theorem dX6_step_36 : decode cX6_step 36 = .ok (.invokevirtual 138, 3) := by decide +kernel
theorem dX6_step_39 : decode cX6_step 39 = .ok (.ireturn, 1) := by decide +kernel
set_option maxRecDepth 20000 in
theorem ggX6_crash_X6_isProcess : GoodIn wsX6_crash wsX6_isProcess := goodIn_r _ [8, 2, 9, 10, 7, 11, 44, 45, 46, 47, 48, 49, 50, 51, 52, 53, 54, 55, 56, 57, 58, 59, 60, 61, 62, 63, 64, 65, 66, 67, 68, 69, 70, 71, 72, 73, 74, 75, 76, 77] (by decide +kernel) (by decide +kernel)
set_option maxRecDepth 20000 in
theorem gX6_crash_X6_isProcess : GoodIn wsX6_crash (wsV RX6 134 RX6 yX6_isProcess wsX6_isProcess) := goodIn_app (goodIn_of _ (by decide +kernel)) ggX6_crash_X6_isProcess
set_option maxRecDepth 20000 in
theorem ggX6_crash_X6_take : GoodIn wsX6_crash wsX6_take := goodIn_r _ [15, 2, 16, 3, 44, 45, 46, 47, 48, 49, 50, 51, 52, 53, 54, 55, 56, 57, 58, 59, 60, 61, 62, 63, 64, 65, 66, 67, 68, 69, 70, 71, 72, 73, 74, 75, 76, 77] (by decide +kernel) (by decide +kernel)
set_option maxRecDepth 20000 in
theorem gX6_crash_X6_take : GoodIn wsX6_crash (wsV RX6 125 RX6 yX6_take wsX6_take) := goodIn_app (goodIn_of _ (by decide +kernel)) ggX6_crash_X6_take
set_option maxRecDepth 20000 in
theorem ggX6_crash_X6_statusIn : GoodIn wsX6_crash wsX6_statusIn := goodIn_r _ [20, 3, 44, 45, 46, 47, 48, 49, 50, 51, 52, 53, 54, 55, 56, 57, 58, 59, 60, 61, 62, 63, 64, 65, 66, 67, 68, 69, 70, 71, 72, 73, 74, 75, 76, 77] (by decide +kernel) (by decide +kernel)
set_option maxRecDepth 20000 in
theorem gX6_crash_X6_statusIn : GoodIn wsX6_crash (wsV RX6 128 RX6 yX6_statusIn wsX6_statusIn) := goodIn_app (goodIn_of _ (by decide +kernel)) ggX6_crash_X6_statusIn
set_option maxRecDepth 20000 in
theorem ggX6_crash_X6_keep : GoodIn wsX6_crash wsX6_keep := goodIn_r _ [24, 25, 26, 2, 27, 44, 45, 46, 47, 48, 49, 50, 51, 52, 53, 54, 55, 56, 57, 58, 59, 60, 61, 62, 63, 64, 65, 66, 67, 68, 69, 70, 71, 72, 73, 74, 75, 76, 77] (by decide +kernel) (by decide +kernel)
set_option maxRecDepth 20000 in
theorem gX6_crash_X6_keep : GoodIn wsX6_crash (wsV RX6 118 RX6 yX6_keep wsX6_keep) := goodIn_app (goodIn_of _ (by decide +kernel)) ggX6_crash_X6_keep
set_option maxRecDepth 20000 in
theorem ggX6_crash_X6_splitterIn : GoodIn wsX6_crash wsX6_splitterIn := goodIn_r _ [31, 3, 44, 45, 46, 47, 48, 49, 50, 51, 52, 53, 54, 55, 56, 57, 58, 59, 60, 61, 62, 63, 64, 65, 66, 67, 68, 69, 70, 71, 72, 73, 74, 75, 76, 77] (by decide +kernel) (by decide +kernel)
set_option maxRecDepth 20000 in
theorem gX6_crash_X6_splitterIn : GoodIn wsX6_crash (wsV RX6 67 RX6 yX6_splitterIn wsX6_splitterIn) := goodIn_app (goodIn_of _ (by decide +kernel)) ggX6_crash_X6_splitterIn
set_option maxRecDepth 20000 in
theorem ggX6_crash_X6_phaseIn : GoodIn wsX6_crash wsX6_phaseIn := goodIn_r _ [35, 3, 44, 45, 46, 47, 48, 49, 50, 51, 52, 53, 54, 55, 56, 57, 58, 59, 60, 61, 62, 63, 64, 65, 66, 67, 68, 69, 70, 71, 72, 73, 74, 75, 76, 77] (by decide +kernel) (by decide +kernel)
set_option maxRecDepth 20000 in
theorem gX6_crash_X6_phaseIn : GoodIn wsX6_crash (wsV RX6 85 RX6 yX6_phaseIn wsX6_phaseIn) := goodIn_app (goodIn_of _ (by decide +kernel)) ggX6_crash_X6_phaseIn
set_option maxRecDepth 20000 in
theorem ggX6_crash_X6_setProcess : GoodIn wsX6_crash wsX6_setProcess := goodIn_r _ [39, 3, 44, 45, 46, 47, 48, 49, 50, 51, 52, 53, 54, 55, 56, 57, 58, 59, 60, 61, 62, 63, 64, 65, 66, 67, 68, 69, 70, 71, 72, 73, 74, 75, 76, 77] (by decide +kernel) (by decide +kernel)
set_option maxRecDepth 20000 in
theorem gX6_crash_X6_setProcess : GoodIn wsX6_crash (wsV RX6 81 RX6 yX6_setProcess wsX6_setProcess) := goodIn_app (goodIn_of _ (by decide +kernel)) ggX6_crash_X6_setProcess
set_option maxRecDepth 20000 in
theorem ggX6_crash_X6_running : GoodIn wsX6_crash wsX6_running := goodIn_r _ [43, 2, 12, 13, 14, 7, 15, 16, 3, 17, 18, 19, 20, 44, 45, 46, 47, 48, 49, 50, 51, 52, 53, 54, 55, 56, 57, 58, 59, 60, 61, 62, 63, 64, 65, 66, 67, 68, 69, 70, 71, 72, 73, 74, 75, 76, 77] (by decide +kernel) (by decide +kernel)
set_option maxRecDepth 20000 in
theorem gX6_crash_X6_running : GoodIn wsX6_crash (wsV RX6 141 RX6 yX6_running wsX6_running) := goodIn_app (goodIn_of _ (by decide +kernel)) ggX6_crash_X6_running
theorem dX6_crash_0 : decode cX6_crash 0 = .ok (.aload_n 0, 1) := by decide +kernel
theorem dX6_crash_1 : decode cX6_crash 1 = .ok (.iconst 0, 1) := by decide +kernel
theorem dX6_crash_2 : decode cX6_crash 2 = .ok (.putfield 57, 3) := by decide +kernel
theorem dX6_crash_5 : decode cX6_crash 5 = .ok (.aload_n 0, 1) := by decide +kernel
theorem dX6_crash_6 : decode cX6_crash 6 = .ok (.iload_n 1, 1) := by decide +kernel
theorem dX6_crash_7 : decode cX6_crash 7 = .ok (.invokevirtual 134, 3) := by decide +kernel
theorem dX6_crash_10 : decode cX6_crash 10 = .ok (.ifCond .ne 5, 3) := by decide +kernel
theorem dX6_crash_13 : decode cX6_crash 13 = .ok (.iconst (-1), 1) := by decide +kernel
theorem dX6_crash_14 : decode cX6_crash 14 = .ok (.ireturn, 1) := by decide +kernel
theorem dX6_crash_15 : decode cX6_crash 15 = .ok (.aload_n 0, 1) := by decide +kernel
theorem dX6_crash_16 : decode cX6_crash 16 = .ok (.invokevirtual 125, 3) := by decide +kernel
theorem dX6_crash_19 : decode cX6_crash 19 = .ok (.aload_n 0, 1) := by decide +kernel
theorem dX6_crash_20 : decode cX6_crash 20 = .ok (.iload_n 1, 1) := by decide +kernel
theorem dX6_crash_21 : decode cX6_crash 21 = .ok (.invokevirtual 128, 3) := by decide +kernel
theorem dX6_crash_24 : decode cX6_crash 24 = .ok (.ifCond .eq 6, 3) := by decide +kernel
theorem dX6_crash_27 : decode cX6_crash 27 = .ok (.bipush (-2), 2) := by decide +kernel
theorem dX6_crash_29 : decode cX6_crash 29 = .ok (.ireturn, 1) := by decide +kernel
theorem dX6_crash_30 : decode cX6_crash 30 = .ok (.aload_n 0, 1) := by decide +kernel
theorem dX6_crash_31 : decode cX6_crash 31 = .ok (.invokevirtual 118, 3) := by decide +kernel
theorem dX6_crash_34 : decode cX6_crash 34 = .ok (.aload_n 0, 1) := by decide +kernel
theorem dX6_crash_35 : decode cX6_crash 35 = .ok (.iload_n 1, 1) := by decide +kernel
theorem dX6_crash_36 : decode cX6_crash 36 = .ok (.iconst 3, 1) := by decide +kernel
theorem dX6_crash_37 : decode cX6_crash 37 = .ok (.aload_n 0, 1) := by decide +kernel
theorem dX6_crash_38 : decode cX6_crash 38 = .ok (.iload_n 1, 1) := by decide +kernel
theorem dX6_crash_39 : decode cX6_crash 39 = .ok (.invokevirtual 67, 3) := by decide +kernel
theorem dX6_crash_42 : decode cX6_crash 42 = .ok (.aload_n 0, 1) := by decide +kernel
theorem dX6_crash_43 : decode cX6_crash 43 = .ok (.iload_n 1, 1) := by decide +kernel
theorem dX6_crash_44 : decode cX6_crash 44 = .ok (.invokevirtual 85, 3) := by decide +kernel
theorem dX6_crash_47 : decode cX6_crash 47 = .ok (.invokevirtual 81, 3) := by decide +kernel
theorem dX6_crash_50 : decode cX6_crash 50 = .ok (.aload_n 0, 1) := by decide +kernel
theorem dX6_crash_51 : decode cX6_crash 51 = .ok (.getfield 7, 3) := by decide +kernel
theorem dX6_crash_54 : decode cX6_crash 54 = .ok (.iconst 4, 1) := by decide +kernel
theorem dX6_crash_55 : decode cX6_crash 55 = .ok (.aload_n 0, 1) := by decide +kernel
theorem dX6_crash_56 : decode cX6_crash 56 = .ok (.getfield 61, 3) := by decide +kernel
theorem dX6_crash_59 : decode cX6_crash 59 = .ok (.iastore, 1) := by decide +kernel
theorem dX6_crash_60 : decode cX6_crash 60 = .ok (.aload_n 0, 1) := by decide +kernel
theorem dX6_crash_61 : decode cX6_crash 61 = .ok (.invokevirtual 141, 3) := by decide +kernel
theorem dX6_crash_64 : decode cX6_crash 64 = .ok (.ireturn, 1) := by decide +kernel
theorem dX6_characterAt_0 : decode cX6_characterAt 0 = .ok (.iload_n 1, 1) := by decide +kernel
theorem dX6_characterAt_1 : decode cX6_characterAt 1 = .ok (.aload_n 0, 1) := by decide +kernel
theorem dX6_characterAt_2 : decode cX6_characterAt 2 = .ok (.getfield 144, 3) := by decide +kernel
theorem dX6_characterAt_5 : decode cX6_characterAt 5 = .ok (.if_icmp .ge 12, 3) := by decide +kernel
theorem dX6_characterAt_8 : decode cX6_characterAt 8 = .ok (.aload_n 0, 1) := by decide +kernel
theorem dX6_characterAt_9 : decode cX6_characterAt 9 = .ok (.getfield 23, 3) := by decide +kernel
theorem dX6_characterAt_12 : decode cX6_characterAt 12 = .ok (.iload_n 1, 1) := by decide +kernel
theorem dX6_characterAt_13 : decode cX6_characterAt 13 = .ok (.iaload, 1) := by decide +kernel
theorem dX6_characterAt_14 : decode cX6_characterAt 14 = .ok (.goto 4, 3) := by decide +kernel
theorem dX6_characterAt_17 : decode cX6_characterAt 17 = .ok (.iconst (-1), 1) := by decide +kernel
theorem dX6_characterAt_18 : decode cX6_characterAt 18 = .ok (.ireturn, 1) := by decide +kernel
set_option maxRecDepth 20000 in
theorem ggX6_advance_X6_characterAt : GoodIn wsX6_advance wsX6_characterAt := goodIn_r _ [10, 11, 5, 15, 16, 17, 18, 19, 20, 21, 22, 23, 24, 25, 26, 27, 28, 29, 30, 31, 32, 33, 34, 35, 36, 37, 38, 39, 40, 41, 42, 43, 44, 45, 46, 47, 48] (by decide +kernel) (by decide +kernel)
set_option maxRecDepth 20000 in
theorem gX6_advance_X6_characterAt : GoodIn wsX6_advance (wsV RX6 150 RX6 yX6_characterAt wsX6_characterAt) := goodIn_app (goodIn_of _ (by decide +kernel)) ggX6_advance_X6_characterAt
set_option maxRecDepth 20000 in
theorem ggX6_advance_X6_in : GoodIn wsX6_advance wsX6_in := goodIn_r _ [14] (by decide +kernel) (by decide +kernel)
set_option maxRecDepth 20000 in
theorem gX6_advance_X6_in : GoodIn wsX6_advance (va_wsS RX6 114 yX6_in wsX6_in) := goodIn_app (goodIn_of _ (by decide +kernel)) ggX6_advance_X6_in
theorem dX6_advance_0 : decode cX6_advance 0 = .ok (.aload_n 0, 1) := by decide +kernel
theorem dX6_advance_1 : decode cX6_advance 1 = .ok (.aload_n 0, 1) := by decide +kernel
theorem dX6_advance_2 : decode cX6_advance 2 = .ok (.getfield 147, 3) := by decide +kernel
theorem dX6_advance_5 : decode cX6_advance 5 = .ok (.invokevirtual 150, 3) := by decide +kernel
theorem dX6_advance_8 : decode cX6_advance 8 = .ok (.bipush 32, 2) := by decide +kernel
theorem dX6_advance_10 : decode cX6_advance 10 = .ok (.if_icmp .ne 16, 3) := by decide +kernel
theorem dX6_advance_13 : decode cX6_advance 13 = .ok (.aload_n 0, 1) := by decide +kernel
theorem dX6_advance_14 : decode cX6_advance 14 = .ok (.dup, 1) := by decide +kernel
theorem dX6_advance_15 : decode cX6_advance 15 = .ok (.getfield 147, 3) := by decide +kernel
theorem dX6_advance_18 : decode cX6_advance 18 = .ok (.iconst 1, 1) := by decide +kernel
theorem dX6_advance_19 : decode cX6_advance 19 = .ok (.iadd, 1) := by decide +kernel
theorem dX6_advance_20 : decode cX6_advance 20 = .ok (.putfield 147, 3) := by decide +kernel
theorem dX6_advance_23 : decode cX6_advance 23 = .ok (.goto (-23), 3) := by decide +kernel
theorem dX6_advance_26 : decode cX6_advance 26 = .ok (.aload_n 0, 1) := by decide +kernel
theorem dX6_advance_27 : decode cX6_advance 27 = .ok (.aload_n 0, 1) := by decide +kernel
theorem dX6_advance_28 : decode cX6_advance 28 = .ok (.getfield 147, 3) := by decide +kernel
theorem dX6_advance_31 : decode cX6_advance 31 = .ok (.putfield 153, 3) := by decide +kernel
theorem dX6_advance_34 : decode cX6_advance 34 = .ok (.aload_n 0, 1) := by decide +kernel
theorem dX6_advance_35 : decode cX6_advance 35 = .ok (.aload_n 0, 1) := by decide +kernel
theorem dX6_advance_36 : decode cX6_advance 36 = .ok (.getfield 147, 3) := by decide +kernel
theorem dX6_advance_39 : decode cX6_advance 39 = .ok (.invokevirtual 150, 3) := by decide +kernel
theorem dX6_advance_42 : decode cX6_advance 42 = .ok (.istore_n 1, 1) := by decide +kernel
theorem dX6_advance_43 : decode cX6_advance 43 = .ok (.aload_n 0, 1) := by decide +kernel
theorem dX6_advance_44 : decode cX6_advance 44 = .ok (.iload_n 1, 1) := by decide +kernel
theorem dX6_advance_45 : decode cX6_advance 45 = .ok (.putfield 156, 3) := by decide +kernel
theorem dX6_advance_48 : decode cX6_advance 48 = .ok (.iload_n 1, 1) := by decide +kernel
theorem dX6_advance_49 : decode cX6_advance 49 = .ok (.ifCond .ge 11, 3) := by decide +kernel
theorem dX6_advance_52 : decode cX6_advance 52 = .ok (.aload_n 0, 1) := by decide +kernel
theorem dX6_advance_53 : decode cX6_advance 53 = .ok (.iconst 0, 1) := by decide +kernel
theorem dX6_advance_54 : decode cX6_advance 54 = .ok (.putfield 159, 3) := by decide +kernel
theorem dX6_advance_57 : decode cX6_advance 57 = .ok (.goto 161, 3) := by decide +kernel
theorem dX6_advance_60 : decode cX6_advance 60 = .ok (.iload_n 1, 1) := by decide +kernel
theorem dX6_advance_61 : decode cX6_advance 61 = .ok (.bipush 48, 2) := by decide +kernel
theorem dX6_advance_63 : decode cX6_advance 63 = .ok (.bipush 57, 2) := by decide +kernel
theorem dX6_advance_65 : decode cX6_advance 65 = .ok (.invokestatic 114, 3) := by decide +kernel
theorem dX6_advance_68 : decode cX6_advance 68 = .ok (.ifCond .eq 135, 3) := by decide +kernel
theorem dX6_advance_71 : decode cX6_advance 71 = .ok (.aload_n 0, 1) := by decide +kernel
theorem dX6_advance_72 : decode cX6_advance 72 = .ok (.aload_n 0, 1) := by decide +kernel
theorem dX6_advance_73 : decode cX6_advance 73 = .ok (.getfield 147, 3) := by decide +kernel
theorem dX6_advance_76 : decode cX6_advance 76 = .ok (.invokevirtual 150, 3) := by decide +kernel
theorem dX6_advance_79 : decode cX6_advance 79 = .ok (.bipush 48, 2) := by decide +kernel
theorem dX6_advance_81 : decode cX6_advance 81 = .ok (.bipush 57, 2) := by decide +kernel
theorem dX6_advance_83 : decode cX6_advance 83 = .ok (.invokestatic 114, 3) := by decide +kernel
theorem dX6_advance_86 : decode cX6_advance 86 = .ok (.ifCond .eq 16, 3) := by decide +kernel
theorem dX6_advance_89 : decode cX6_advance 89 = .ok (.aload_n 0, 1) := by decide +kernel
theorem dX6_advance_90 : decode cX6_advance 90 = .ok (.dup, 1) := by decide +kernel
theorem dX6_advance_91 : decode cX6_advance 91 = .ok (.getfield 147, 3) := by decide +kernel
theorem dX6_advance_94 : decode cX6_advance 94 = .ok (.iconst 1, 1) := by decide +kernel
theorem dX6_advance_95 : decode cX6_advance 95 = .ok (.iadd, 1) := by decide +kernel
theorem dX6_advance_96 : decode cX6_advance 96 = .ok (.putfield 147, 3) := by decide +kernel
theorem dX6_advance_99 : decode cX6_advance 99 = .ok (.goto (-28), 3) := by decide +kernel
theorem dX6_advance_102 : decode cX6_advance 102 = .ok (.aload_n 0, 1) := by decide +kernel
theorem dX6_advance_103 : decode cX6_advance 103 = .ok (.iconst 1, 1) := by decide +kernel
theorem dX6_advance_104 : decode cX6_advance 104 = .ok (.putfield 159, 3) := by decide +kernel
theorem dX6_advance_107 : decode cX6_advance 107 = .ok (.aload_n 0, 1) := by decide +kernel
theorem dX6_advance_108 : decode cX6_advance 108 = .ok (.getfield 147, 3) := by decide +kernel
theorem dX6_advance_111 : decode cX6_advance 111 = .ok (.aload_n 0, 1) := by decide +kernel
theorem dX6_advance_112 : decode cX6_advance 112 = .ok (.getfield 153, 3) := by decide +kernel
theorem dX6_advance_115 : decode cX6_advance 115 = .ok (.isub, 1) := by decide +kernel
theorem dX6_advance_116 : decode cX6_advance 116 = .ok (.iconst 1, 1) := by decide +kernel
theorem dX6_advance_117 : decode cX6_advance 117 = .ok (.if_icmp .eq 22, 3) := by decide +kernel
theorem dX6_advance_120 : decode cX6_advance 120 = .ok (.aload_n 0, 1) := by decide +kernel
theorem dX6_advance_121 : decode cX6_advance 121 = .ok (.getfield 147, 3) := by decide +kernel
theorem dX6_advance_124 : decode cX6_advance 124 = .ok (.aload_n 0, 1) := by decide +kernel
theorem dX6_advance_125 : decode cX6_advance 125 = .ok (.getfield 153, 3) := by decide +kernel
theorem dX6_advance_128 : decode cX6_advance 128 = .ok (.isub, 1) := by decide +kernel
theorem dX6_advance_129 : decode cX6_advance 129 = .ok (.iconst 2, 1) := by decide +kernel
theorem dX6_advance_130 : decode cX6_advance 130 = .ok (.if_icmp .ne 13, 3) := by decide +kernel
theorem dX6_advance_133 : decode cX6_advance 133 = .ok (.iload_n 1, 1) := by decide +kernel
theorem dX6_advance_134 : decode cX6_advance 134 = .ok (.bipush 48, 2) := by decide +kernel
theorem dX6_advance_136 : decode cX6_advance 136 = .ok (.if_icmp .eq 7, 3) := by decide +kernel
theorem dX6_advance_139 : decode cX6_advance 139 = .ok (.iconst 1, 1) := by decide +kernel
theorem dX6_advance_140 : decode cX6_advance 140 = .ok (.goto 4, 3) := by decide +kernel
theorem dX6_advance_143 : decode cX6_advance 143 = .ok (.iconst 0, 1) := by decide +kernel
theorem dX6_advance_144 : decode cX6_advance 144 = .ok (.istore_n 2, 1) := by decide +kernel
theorem dX6_advance_145 : decode cX6_advance 145 = .ok (.aload_n 0, 1) := by decide +kernel
theorem dX6_advance_146 : decode cX6_advance 146 = .ok (.iload_n 2, 1) := by decide +kernel
theorem dX6_advance_147 : decode cX6_advance 147 = .ok (.ifCond .ne 8, 3) := by decide +kernel
theorem dX6_advance_150 : decode cX6_advance 150 = .ok (.bipush (-9), 2) := by decide +kernel
theorem dX6_advance_152 : decode cX6_advance 152 = .ok (.goto 45, 3) := by decide +kernel
theorem dX6_advance_155 : decode cX6_advance 155 = .ok (.aload_n 0, 1) := by decide +kernel
theorem dX6_advance_156 : decode cX6_advance 156 = .ok (.getfield 147, 3) := by decide +kernel
theorem dX6_advance_159 : decode cX6_advance 159 = .ok (.aload_n 0, 1) := by decide +kernel
theorem dX6_advance_160 : decode cX6_advance 160 = .ok (.getfield 153, 3) := by decide +kernel
theorem dX6_advance_163 : decode cX6_advance 163 = .ok (.isub, 1) := by decide +kernel
theorem dX6_advance_164 : decode cX6_advance 164 = .ok (.iconst 1, 1) := by decide +kernel
theorem dX6_advance_165 : decode cX6_advance 165 = .ok (.if_icmp .ne 10, 3) := by decide +kernel
theorem dX6_advance_168 : decode cX6_advance 168 = .ok (.iload_n 1, 1) := by decide +kernel
theorem dX6_advance_169 : decode cX6_advance 169 = .ok (.bipush 48, 2) := by decide +kernel
theorem dX6_advance_171 : decode cX6_advance 171 = .ok (.isub, 1) := by decide +kernel
theorem dX6_advance_172 : decode cX6_advance 172 = .ok (.goto 25, 3) := by decide +kernel
theorem dX6_advance_175 : decode cX6_advance 175 = .ok (.bipush 10, 2) := by decide +kernel
theorem dX6_advance_177 : decode cX6_advance 177 = .ok (.iload_n 1, 1) := by decide +kernel
theorem dX6_advance_178 : decode cX6_advance 178 = .ok (.bipush 48, 2) := by decide +kernel
theorem dX6_advance_180 : decode cX6_advance 180 = .ok (.isub, 1) := by decide +kernel
theorem dX6_advance_181 : decode cX6_advance 181 = .ok (.imul, 1) := by decide +kernel
theorem dX6_advance_182 : decode cX6_advance 182 = .ok (.aload_n 0, 1) := by decide +kernel
theorem dX6_advance_183 : decode cX6_advance 183 = .ok (.getfield 23, 3) := by decide +kernel
theorem dX6_advance_186 : decode cX6_advance 186 = .ok (.aload_n 0, 1) := by decide +kernel
theorem dX6_advance_187 : decode cX6_advance 187 = .ok (.getfield 153, 3) := by decide +kernel
theorem dX6_advance_190 : decode cX6_advance 190 = .ok (.iconst 1, 1) := by decide +kernel
theorem dX6_advance_191 : decode cX6_advance 191 = .ok (.iadd, 1) := by decide +kernel
theorem dX6_advance_192 : decode cX6_advance 192 = .ok (.iaload, 1) := by decide +kernel
theorem dX6_advance_193 : decode cX6_advance 193 = .ok (.iadd, 1) := by decide +kernel
theorem dX6_advance_194 : decode cX6_advance 194 = .ok (.bipush 48, 2) := by decide +kernel
theorem dX6_advance_196 : decode cX6_advance 196 = .ok (.isub, 1) := by decide +kernel
theorem dX6_advance_197 : decode cX6_advance 197 = .ok (.putfield 156, 3) := by decide +kernel
theorem dX6_advance_200 : decode cX6_advance 200 = .ok (.goto 18, 3) := by decide +kernel
theorem dX6_advance_203 : decode cX6_advance 203 = .ok (.aload_n 0, 1) := by decide +kernel
theorem dX6_advance_204 : decode cX6_advance 204 = .ok (.dup, 1) := by decide +kernel
theorem dX6_advance_205 : decode cX6_advance 205 = .ok (.getfield 147, 3) := by decide +kernel
theorem dX6_advance_208 : decode cX6_advance 208 = .ok (.iconst 1, 1) := by decide +kernel
theorem dX6_advance_209 : decode cX6_advance 209 = .ok (.iadd, 1) := by decide +kernel
theorem dX6_advance_210 : decode cX6_advance 210 = .ok (.putfield 147, 3) := by decide +kernel
theorem dX6_advance_213 : decode cX6_advance 213 = .ok (.aload_n 0, 1) := by decide +kernel
theorem dX6_advance_214 : decode cX6_advance 214 = .ok (.iconst 2, 1) := by decide +kernel
theorem dX6_advance_215 : decode cX6_advance 215 = .ok (.putfield 159, 3) := by decide +kernel
theorem dX6_advance_218 : decode cX6_advance 218 = .ok (.return_, 1) := by decide +kernel
theorem dX6_isSign_0 : decode cX6_isSign 0 = .ok (.aload_n 0, 1) := by decide +kernel
theorem dX6_isSign_1 : decode cX6_isSign 1 = .ok (.getfield 159, 3) := by decide +kernel
theorem dX6_isSign_4 : decode cX6_isSign 4 = .ok (.iconst 2, 1) := by decide +kernel
theorem dX6_isSign_5 : decode cX6_isSign 5 = .ok (.if_icmp .ne 15, 3) := by decide +kernel
theorem dX6_isSign_8 : decode cX6_isSign 8 = .ok (.aload_n 0, 1) := by decide +kernel
theorem dX6_isSign_9 : decode cX6_isSign 9 = .ok (.getfield 156, 3) := by decide +kernel
theorem dX6_isSign_12 : decode cX6_isSign 12 = .ok (.iload_n 1, 1) := by decide +kernel
theorem dX6_isSign_13 : decode cX6_isSign 13 = .ok (.if_icmp .ne 7, 3) := by decide +kernel
theorem dX6_isSign_16 : decode cX6_isSign 16 = .ok (.iconst 1, 1) := by decide +kernel
theorem dX6_isSign_17 : decode cX6_isSign 17 = .ok (.goto 4, 3) := by decide +kernel
theorem dX6_isSign_20 : decode cX6_isSign 20 = .ok (.iconst 0, 1) := by decide +kernel
theorem dX6_isSign_21 : decode cX6_isSign 21 = .ok (.ireturn, 1) := by decide +kernel
set_option maxRecDepth 20000 in
theorem ggX6_accept_X6_advance : GoodIn wsX6_accept wsX6_advance := goodIn_r _ [8, 9, 3, 1, 10, 11, 12, 13, 14, 7, 15, 16, 17, 18, 19, 20, 21, 22, 23, 24, 25, 26, 27, 28, 29, 30, 31, 32, 33, 34, 35, 36, 37, 38, 39, 40, 41, 42, 43, 44, 45, 46, 47, 48, 49, 50, 51, 52, 53] (by decide +kernel) (by decide +kernel)
set_option maxRecDepth 20000 in
theorem gX6_accept_X6_advance : GoodIn wsX6_accept (wsV RX6 165 RX6 yX6_advance wsX6_advance) := goodIn_app (goodIn_of _ (by decide +kernel)) ggX6_accept_X6_advance
theorem dX6_accept_0 : decode cX6_accept 0 = .ok (.aload_n 0, 1) := by decide +kernel
theorem dX6_accept_1 : decode cX6_accept 1 = .ok (.getfield 156, 3) := by decide +kernel
theorem dX6_accept_4 : decode cX6_accept 4 = .ok (.istore_n 2, 1) := by decide +kernel
theorem dX6_accept_5 : decode cX6_accept 5 = .ok (.aload_n 0, 1) := by decide +kernel
theorem dX6_accept_6 : decode cX6_accept 6 = .ok (.getfield 162, 3) := by decide +kernel
theorem dX6_accept_9 : decode cX6_accept 9 = .ok (.bipush (-9), 2) := by decide +kernel
theorem dX6_accept_11 : decode cX6_accept 11 = .ok (.if_icmp .ne 22, 3) := by decide +kernel
theorem dX6_accept_14 : decode cX6_accept 14 = .ok (.iload_n 1, 1) := by decide +kernel
theorem dX6_accept_15 : decode cX6_accept 15 = .ok (.ifCond .eq 10, 3) := by decide +kernel
theorem dX6_accept_18 : decode cX6_accept 18 = .ok (.aload_n 0, 1) := by decide +kernel
theorem dX6_accept_19 : decode cX6_accept 19 = .ok (.invokevirtual 165, 3) := by decide +kernel
theorem dX6_accept_22 : decode cX6_accept 22 = .ok (.goto 11, 3) := by decide +kernel
theorem dX6_accept_25 : decode cX6_accept 25 = .ok (.aload_n 0, 1) := by decide +kernel
theorem dX6_accept_26 : decode cX6_accept 26 = .ok (.aload_n 0, 1) := by decide +kernel
theorem dX6_accept_27 : decode cX6_accept 27 = .ok (.getfield 153, 3) := by decide +kernel
theorem dX6_accept_30 : decode cX6_accept 30 = .ok (.putfield 162, 3) := by decide +kernel
theorem dX6_accept_33 : decode cX6_accept 33 = .ok (.iload_n 2, 1) := by decide +kernel
theorem dX6_accept_34 : decode cX6_accept 34 = .ok (.ireturn, 1) := by decide +kernel
set_option maxRecDepth 20000 in
theorem ggX6_read_X6_advance : GoodIn wsX6_read wsX6_advance := goodIn_r _ [10, 2, 4, 5, 3, 11, 12, 13, 14, 9, 15, 16, 17, 18, 19, 96, 97, 98, 99, 100, 101, 102, 103, 104, 105, 106, 107, 108, 109, 110, 111, 112, 113, 114, 115, 116, 117, 118, 119, 120, 121, 122, 123, 124, 125, 126, 127, 128, 129] (by decide +kernel) (by decide +kernel)
set_option maxRecDepth 20000 in
theorem gX6_read_X6_advance : GoodIn wsX6_read (wsV RX6 165 RX6 yX6_advance wsX6_advance) := goodIn_app (goodIn_of _ (by decide +kernel)) ggX6_read_X6_advance
set_option maxRecDepth 20000 in
theorem ggX6_read_X6_isProcess : GoodIn wsX6_read wsX6_isProcess := goodIn_r _ [23, 24, 17, 18, 9, 19, 96, 97, 98, 99, 100, 101, 102, 103, 104, 105, 106, 107, 108, 109, 110, 111, 112, 113, 114, 115, 116, 117, 118, 119, 120, 121, 122, 123, 124, 125, 126, 127, 128, 129] (by decide +kernel) (by decide +kernel)
set_option maxRecDepth 20000 in
theorem gX6_read_X6_isProcess : GoodIn wsX6_read (wsV RX6 134 RX6 yX6_isProcess wsX6_isProcess) := goodIn_app (goodIn_of _ (by decide +kernel)) ggX6_read_X6_isProcess
set_option maxRecDepth 20000 in
theorem ggX6_read_X6_accept : GoodIn wsX6_read wsX6_accept := goodIn_r _ [28, 5, 1, 4, 6, 7, 8, 9, 10, 2, 3, 11, 12, 13, 14, 15, 16, 17, 18, 19, 96, 97, 98, 99, 100, 101, 102, 103, 104, 105, 106, 107, 108, 109, 110, 111, 112, 113, 114, 115, 116, 117, 118, 119, 120, 121, 122, 123, 124, 125, 126, 127, 128, 129] (by decide +kernel) (by decide +kernel)
set_option maxRecDepth 20000 in
theorem gX6_read_X6_accept : GoodIn wsX6_read (wsV RX6 168 RX6 yX6_accept wsX6_accept) := goodIn_app (goodIn_of _ (by decide +kernel)) ggX6_read_X6_accept
set_option maxRecDepth 20000 in
theorem ggX6_read_X6_isSign : GoodIn wsX6_read wsX6_isSign := goodIn_r _ [32, 3, 5, 96, 97, 98, 99, 100, 101, 102, 103, 104, 105, 106, 107, 108, 109, 110, 111, 112, 113, 114, 115, 116, 117, 118, 119, 120, 121, 122, 123, 124, 125, 126, 127, 128, 129] (by decide +kernel) (by decide +kernel)
set_option maxRecDepth 20000 in
theorem gX6_read_X6_isSign : GoodIn wsX6_read (wsV RX6 172 RX6 yX6_isSign wsX6_isSign) := goodIn_app (goodIn_of _ (by decide +kernel)) ggX6_read_X6_isSign
set_option maxRecDepth 20000 in
theorem ggX6_read_X6_in : GoodIn wsX6_read wsX6_in := goodIn_r _ [19] (by decide +kernel) (by decide +kernel)
set_option maxRecDepth 20000 in
theorem gX6_read_X6_in : GoodIn wsX6_read (va_wsS RX6 114 yX6_in wsX6_in) := goodIn_app (goodIn_of _ (by decide +kernel)) ggX6_read_X6_in
set_option maxRecDepth 20000 in
theorem ggX6_read_X6_execute : GoodIn wsX6_read wsX6_execute := goodIn_r _ [36, 37, 38, 39, 9, 40, 24, 41, 42, 43, 44, 45, 46, 47, 48, 49, 50, 51, 52, 53, 54, 55, 56, 57, 58, 59, 60, 61, 62, 63, 64, 65, 66, 67, 68, 69, 70, 71, 72, 73, 74, 75, 76, 77, 78, 79, 80, 81, 82, 83, 84, 85, 86, 87, 88, 89, 90, 91, 92, 93, 94, 95, 96, 97, 98, 99, 100, 101, 102, 103, 104, 105, 106, 107, 108, 109, 110, 111, 112, 113, 114, 115, 116, 117, 118, 119, 120, 121, 122, 123, 124, 125, 126, 127, 128, 129] (by decide +kernel) (by decide +kernel)
set_option maxRecDepth 20000 in
theorem gX6_read_X6_execute : GoodIn wsX6_read (wsV RX6 175 RX6 yX6_execute wsX6_execute) := goodIn_app (goodIn_of _ (by decide +kernel)) ggX6_read_X6_execute
theorem dX6_read_0 : decode cX6_read 0 = .ok (.aload_n 0, 1) := by decide +kernel
theorem dX6_read_1 : decode cX6_read 1 = .ok (.bipush (-9), 2) := by decide +kernel
theorem dX6_read_3 : decode cX6_read 3 = .ok (.putfield 162, 3) := by decide +kernel
theorem dX6_read_6 : decode cX6_read 6 = .ok (.aload_n 0, 1) := by decide +kernel
theorem dX6_read_7 : decode cX6_read 7 = .ok (.iconst 0, 1) := by decide +kernel
theorem dX6_read_8 : decode cX6_read 8 = .ok (.putfield 147, 3) := by decide +kernel
theorem dX6_read_11 : decode cX6_read 11 = .ok (.aload_n 0, 1) := by decide +kernel
theorem dX6_read_12 : decode cX6_read 12 = .ok (.invokevirtual 165, 3) := by decide +kernel
theorem dX6_read_15 : decode cX6_read 15 = .ok (.aload_n 0, 1) := by decide +kernel
theorem dX6_read_16 : decode cX6_read 16 = .ok (.getfield 159, 3) := by decide +kernel
theorem dX6_read_19 : decode cX6_read 19 = .ok (.ifCond .ne 11, 3) := by decide +kernel
theorem dX6_read_22 : decode cX6_read 22 = .ok (.aload_n 0, 1) := by decide +kernel
theorem dX6_read_23 : decode cX6_read 23 = .ok (.aload_n 0, 1) := by decide +kernel
theorem dX6_read_24 : decode cX6_read 24 = .ok (.getfield 153, 3) := by decide +kernel
theorem dX6_read_27 : decode cX6_read 27 = .ok (.putfield 162, 3) := by decide +kernel
theorem dX6_read_30 : decode cX6_read 30 = .ok (.iconst 0, 1) := by decide +kernel
theorem dX6_read_31 : decode cX6_read 31 = .ok (.istore_n 2, 1) := by decide +kernel
theorem dX6_read_32 : decode cX6_read 32 = .ok (.aload_n 0, 1) := by decide +kernel
theorem dX6_read_33 : decode cX6_read 33 = .ok (.getfield 162, 3) := by decide +kernel
theorem dX6_read_36 : decode cX6_read 36 = .ok (.bipush (-9), 2) := by decide +kernel
theorem dX6_read_38 : decode cX6_read 38 = .ok (.if_icmp .ne 130, 3) := by decide +kernel
theorem dX6_read_41 : decode cX6_read 41 = .ok (.aload_n 0, 1) := by decide +kernel
theorem dX6_read_42 : decode cX6_read 42 = .ok (.getfield 159, 3) := by decide +kernel
theorem dX6_read_45 : decode cX6_read 45 = .ok (.ifCond .eq 123, 3) := by decide +kernel
theorem dX6_read_48 : decode cX6_read 48 = .ok (.aload_n 0, 1) := by decide +kernel
theorem dX6_read_49 : decode cX6_read 49 = .ok (.aload_n 0, 1) := by decide +kernel
theorem dX6_read_50 : decode cX6_read 50 = .ok (.getfield 159, 3) := by decide +kernel
theorem dX6_read_53 : decode cX6_read 53 = .ok (.iconst 1, 1) := by decide +kernel
theorem dX6_read_54 : decode cX6_read 54 = .ok (.if_icmp .ne 18, 3) := by decide +kernel
theorem dX6_read_57 : decode cX6_read 57 = .ok (.aload_n 0, 1) := by decide +kernel
theorem dX6_read_58 : decode cX6_read 58 = .ok (.aload_n 0, 1) := by decide +kernel
theorem dX6_read_59 : decode cX6_read 59 = .ok (.getfield 156, 3) := by decide +kernel
theorem dX6_read_62 : decode cX6_read 62 = .ok (.invokevirtual 134, 3) := by decide +kernel
theorem dX6_read_65 : decode cX6_read 65 = .ok (.ifCond .eq 7, 3) := by decide +kernel
theorem dX6_read_68 : decode cX6_read 68 = .ok (.iconst 1, 1) := by decide +kernel
theorem dX6_read_69 : decode cX6_read 69 = .ok (.goto 4, 3) := by decide +kernel
theorem dX6_read_72 : decode cX6_read 72 = .ok (.iconst 0, 1) := by decide +kernel
theorem dX6_read_73 : decode cX6_read 73 = .ok (.invokevirtual 168, 3) := by decide +kernel
theorem dX6_read_76 : decode cX6_read 76 = .ok (.istore_n 3, 1) := by decide +kernel
theorem dX6_read_77 : decode cX6_read 77 = .ok (.iconst 1, 1) := by decide +kernel
theorem dX6_read_78 : decode cX6_read 78 = .ok (.istore 4, 2) := by decide +kernel
theorem dX6_read_80 : decode cX6_read 80 = .ok (.aload_n 0, 1) := by decide +kernel
theorem dX6_read_81 : decode cX6_read 81 = .ok (.getfield 162, 3) := by decide +kernel
theorem dX6_read_84 : decode cX6_read 84 = .ok (.bipush (-9), 2) := by decide +kernel
theorem dX6_read_86 : decode cX6_read 86 = .ok (.if_icmp .ne 50, 3) := by decide +kernel
theorem dX6_read_89 : decode cX6_read 89 = .ok (.aload_n 0, 1) := by decide +kernel
theorem dX6_read_90 : decode cX6_read 90 = .ok (.bipush 42, 2) := by decide +kernel
theorem dX6_read_92 : decode cX6_read 92 = .ok (.invokevirtual 172, 3) := by decide +kernel
theorem dX6_read_95 : decode cX6_read 95 = .ok (.ifCond .eq 41, 3) := by decide +kernel
theorem dX6_read_98 : decode cX6_read 98 = .ok (.aload_n 0, 1) := by decide +kernel
theorem dX6_read_99 : decode cX6_read 99 = .ok (.iconst 1, 1) := by decide +kernel
theorem dX6_read_100 : decode cX6_read 100 = .ok (.invokevirtual 168, 3) := by decide +kernel
theorem dX6_read_103 : decode cX6_read 103 = .ok (.pop, 1) := by decide +kernel
theorem dX6_read_104 : decode cX6_read 104 = .ok (.aload_n 0, 1) := by decide +kernel
theorem dX6_read_105 : decode cX6_read 105 = .ok (.aload_n 0, 1) := by decide +kernel
theorem dX6_read_106 : decode cX6_read 106 = .ok (.getfield 159, 3) := by decide +kernel
theorem dX6_read_109 : decode cX6_read 109 = .ok (.iconst 1, 1) := by decide +kernel
theorem dX6_read_110 : decode cX6_read 110 = .ok (.if_icmp .ne 20, 3) := by decide +kernel
theorem dX6_read_113 : decode cX6_read 113 = .ok (.aload_n 0, 1) := by decide +kernel
theorem dX6_read_114 : decode cX6_read 114 = .ok (.getfield 156, 3) := by decide +kernel
theorem dX6_read_117 : decode cX6_read 117 = .ok (.iconst 1, 1) := by decide +kernel
theorem dX6_read_118 : decode cX6_read 118 = .ok (.bipush 30, 2) := by decide +kernel
theorem dX6_read_120 : decode cX6_read 120 = .ok (.invokestatic 114, 3) := by decide +kernel
theorem dX6_read_123 : decode cX6_read 123 = .ok (.ifCond .eq 7, 3) := by decide +kernel
theorem dX6_read_126 : decode cX6_read 126 = .ok (.iconst 1, 1) := by decide +kernel
theorem dX6_read_127 : decode cX6_read 127 = .ok (.goto 4, 3) := by decide +kernel
theorem dX6_read_130 : decode cX6_read 130 = .ok (.iconst 0, 1) := by decide +kernel
theorem dX6_read_131 : decode cX6_read 131 = .ok (.invokevirtual 168, 3) := by decide +kernel
theorem dX6_read_134 : decode cX6_read 134 = .ok (.istore 4, 2) := by decide +kernel
theorem dX6_read_136 : decode cX6_read 136 = .ok (.aload_n 0, 1) := by decide +kernel
theorem dX6_read_137 : decode cX6_read 137 = .ok (.aload_n 0, 1) := by decide +kernel
theorem dX6_read_138 : decode cX6_read 138 = .ok (.bipush 59, 2) := by decide +kernel
theorem dX6_read_140 : decode cX6_read 140 = .ok (.invokevirtual 172, 3) := by decide +kernel
theorem dX6_read_143 : decode cX6_read 143 = .ok (.invokevirtual 168, 3) := by decide +kernel
theorem dX6_read_146 : decode cX6_read 146 = .ok (.pop, 1) := by decide +kernel
theorem dX6_read_147 : decode cX6_read 147 = .ok (.iload_n 2, 1) := by decide +kernel
theorem dX6_read_148 : decode cX6_read 148 = .ok (.iload_n 1, 1) := by decide +kernel
theorem dX6_read_149 : decode cX6_read 149 = .ok (.ifCond .eq 13, 3) := by decide +kernel
theorem dX6_read_152 : decode cX6_read 152 = .ok (.aload_n 0, 1) := by decide +kernel
theorem dX6_read_153 : decode cX6_read 153 = .ok (.iload_n 3, 1) := by decide +kernel
theorem dX6_read_154 : decode cX6_read 154 = .ok (.iload 4, 2) := by decide +kernel
theorem dX6_read_156 : decode cX6_read 156 = .ok (.invokevirtual 175, 3) := by decide +kernel
theorem dX6_read_159 : decode cX6_read 159 = .ok (.goto 4, 3) := by decide +kernel
theorem dX6_read_162 : decode cX6_read 162 = .ok (.iconst 0, 1) := by decide +kernel
theorem dX6_read_163 : decode cX6_read 163 = .ok (.iadd, 1) := by decide +kernel
theorem dX6_read_164 : decode cX6_read 164 = .ok (.istore_n 2, 1) := by decide +kernel
theorem dX6_read_165 : decode cX6_read 165 = .ok (.goto (-133), 3) := by decide +kernel
theorem dX6_read_168 : decode cX6_read 168 = .ok (.iload_n 2, 1) := by decide +kernel
theorem dX6_read_169 : decode cX6_read 169 = .ok (.ireturn, 1) := by decide +kernel
set_option maxRecDepth 20000 in
theorem ggX6_execute_X6_take : GoodIn wsX6_execute wsX6_take := goodIn_r _ [5, 6, 7, 8, 62, 63, 64, 65, 66, 67, 68, 69, 70, 71, 72, 73, 74, 75, 76, 77, 78, 79, 80, 81, 82, 83, 84, 85, 86, 87, 88, 89, 90, 91, 92, 93, 94, 95] (by decide +kernel) (by decide +kernel)
set_option maxRecDepth 20000 in
theorem gX6_execute_X6_take : GoodIn wsX6_execute (wsV RX6 125 RX6 yX6_take wsX6_take) := goodIn_app (goodIn_of _ (by decide +kernel)) ggX6_execute_X6_take
set_option maxRecDepth 20000 in
theorem ggX6_execute_X6_statusIn : GoodIn wsX6_execute wsX6_statusIn := goodIn_r _ [12, 8, 62, 63, 64, 65, 66, 67, 68, 69, 70, 71, 72, 73, 74, 75, 76, 77, 78, 79, 80, 81, 82, 83, 84, 85, 86, 87, 88, 89, 90, 91, 92, 93, 94, 95] (by decide +kernel) (by decide +kernel)
set_option maxRecDepth 20000 in
theorem gX6_execute_X6_statusIn : GoodIn wsX6_execute (wsV RX6 128 RX6 yX6_statusIn wsX6_statusIn) := goodIn_app (goodIn_of _ (by decide +kernel)) ggX6_execute_X6_statusIn
set_option maxRecDepth 20000 in
theorem ggX6_execute_X6_make : GoodIn wsX6_execute wsX6_make := goodIn_r _ [16, 6, 7, 8, 17, 18, 1, 2, 3, 4, 5, 19, 20, 21, 22, 23, 24, 25, 26, 27, 28, 29, 30, 31, 32, 33, 34, 35, 36, 37, 38, 39, 40, 41, 42, 43, 44, 45, 46, 47, 48, 49, 50, 51, 52, 53, 54, 55, 56, 57, 58, 59, 60, 61, 62, 63, 64, 65, 66, 67, 68, 69, 70, 71, 72, 73, 74, 75, 76, 77, 78, 79, 80, 81, 82, 83, 84, 85, 86, 87, 88, 89, 90, 91, 92, 93, 94, 95] (by decide +kernel) (by decide +kernel)
set_option maxRecDepth 20000 in
theorem gX6_execute_X6_make : GoodIn wsX6_execute (wsV RX6 138 RX6 yX6_make wsX6_make) := goodIn_app (goodIn_of _ (by decide +kernel)) ggX6_execute_X6_make
theorem dX6_execute_0 : decode cX6_execute 0 = .ok (.iconst 0, 1) := by decide +kernel
theorem dX6_execute_1 : decode cX6_execute 1 = .ok (.istore_n 3, 1) := by decide +kernel
theorem dX6_execute_2 : decode cX6_execute 2 = .ok (.aload_n 0, 1) := by decide +kernel
theorem dX6_execute_3 : decode cX6_execute 3 = .ok (.invokevirtual 125, 3) := by decide +kernel
theorem dX6_execute_6 : decode cX6_execute 6 = .ok (.iload_n 3, 1) := by decide +kernel
theorem dX6_execute_7 : decode cX6_execute 7 = .ok (.iload_n 2, 1) := by decide +kernel
theorem dX6_execute_8 : decode cX6_execute 8 = .ok (.if_icmp .ge 23, 3) := by decide +kernel
theorem dX6_execute_11 : decode cX6_execute 11 = .ok (.aload_n 0, 1) := by decide +kernel
theorem dX6_execute_12 : decode cX6_execute 12 = .ok (.iload_n 1, 1) := by decide +kernel
theorem dX6_execute_13 : decode cX6_execute 13 = .ok (.invokevirtual 128, 3) := by decide +kernel
theorem dX6_execute_16 : decode cX6_execute 16 = .ok (.ifCond .ne 15, 3) := by decide +kernel
theorem dX6_execute_19 : decode cX6_execute 19 = .ok (.aload_n 0, 1) := by decide +kernel
theorem dX6_execute_20 : decode cX6_execute 20 = .ok (.iload_n 1, 1) := by decide +kernel
theorem dX6_execute_21 : decode cX6_execute 21 = .ok (.invokevirtual 138, 3) := by decide +kernel
theorem dX6_execute_24 : decode cX6_execute 24 = .ok (.pop, 1) := by decide +kernel
theorem dX6_execute_25 : decode cX6_execute 25 = .ok (.iinc 3 1, 3) := by decide +kernel
theorem dX6_execute_28 : decode cX6_execute 28 = .ok (.goto (-22), 3) := by decide +kernel
theorem dX6_execute_31 : decode cX6_execute 31 = .ok (.iload_n 3, 1) := by decide +kernel
theorem dX6_execute_32 : decode cX6_execute 32 = .ok (.ireturn, 1) := by decide +kernel
set_option maxRecDepth 20000 in
theorem ggX6_append_X6_in : GoodIn wsX6_append wsX6_in := goodIn_r _ [7] (by decide +kernel) (by decide +kernel)
set_option maxRecDepth 20000 in
theorem gX6_append_X6_in : GoodIn wsX6_append (va_wsS RX6 114 yX6_in wsX6_in) := goodIn_app (goodIn_of _ (by decide +kernel)) ggX6_append_X6_in
theorem dX6_append_0 : decode cX6_append 0 = .ok (.aload_n 0, 1) := by decide +kernel
theorem dX6_append_1 : decode cX6_append 1 = .ok (.iconst 0, 1) := by decide +kernel
theorem dX6_append_2 : decode cX6_append 2 = .ok (.putfield 57, 3) := by decide +kernel
theorem dX6_append_5 : decode cX6_append 5 = .ok (.iload_n 1, 1) := by decide +kernel
theorem dX6_append_6 : decode cX6_append 6 = .ok (.iconst 0, 1) := by decide +kernel
theorem dX6_append_7 : decode cX6_append 7 = .ok (.sipush 255, 3) := by decide +kernel
theorem dX6_append_10 : decode cX6_append 10 = .ok (.invokestatic 114, 3) := by decide +kernel
theorem dX6_append_13 : decode cX6_append 13 = .ok (.ifCond .ne 5, 3) := by decide +kernel
theorem dX6_append_16 : decode cX6_append 16 = .ok (.iconst (-1), 1) := by decide +kernel
theorem dX6_append_17 : decode cX6_append 17 = .ok (.ireturn, 1) := by decide +kernel
theorem dX6_append_18 : decode cX6_append 18 = .ok (.aload_n 0, 1) := by decide +kernel
theorem dX6_append_19 : decode cX6_append 19 = .ok (.getfield 144, 3) := by decide +kernel
theorem dX6_append_22 : decode cX6_append 22 = .ok (.bipush 80, 2) := by decide +kernel
theorem dX6_append_24 : decode cX6_append 24 = .ok (.if_icmp .ne 6, 3) := by decide +kernel
theorem dX6_append_27 : decode cX6_append 27 = .ok (.bipush (-3), 2) := by decide +kernel
theorem dX6_append_29 : decode cX6_append 29 = .ok (.ireturn, 1) := by decide +kernel
theorem dX6_append_30 : decode cX6_append 30 = .ok (.aload_n 0, 1) := by decide +kernel
theorem dX6_append_31 : decode cX6_append 31 = .ok (.getfield 23, 3) := by decide +kernel
theorem dX6_append_34 : decode cX6_append 34 = .ok (.aload_n 0, 1) := by decide +kernel
theorem dX6_append_35 : decode cX6_append 35 = .ok (.getfield 144, 3) := by decide +kernel
theorem dX6_append_38 : decode cX6_append 38 = .ok (.iload_n 1, 1) := by decide +kernel
theorem dX6_append_39 : decode cX6_append 39 = .ok (.iastore, 1) := by decide +kernel
theorem dX6_append_40 : decode cX6_append 40 = .ok (.aload_n 0, 1) := by decide +kernel
theorem dX6_append_41 : decode cX6_append 41 = .ok (.dup, 1) := by decide +kernel
theorem dX6_append_42 : decode cX6_append 42 = .ok (.getfield 144, 3) := by decide +kernel
theorem dX6_append_45 : decode cX6_append 45 = .ok (.iconst 1, 1) := by decide +kernel
theorem dX6_append_46 : decode cX6_append 46 = .ok (.iadd, 1) := by decide +kernel
theorem dX6_append_47 : decode cX6_append 47 = .ok (.putfield 144, 3) := by decide +kernel
theorem dX6_append_50 : decode cX6_append 50 = .ok (.aload_n 0, 1) := by decide +kernel
theorem dX6_append_51 : decode cX6_append 51 = .ok (.getfield 144, 3) := by decide +kernel
theorem dX6_append_54 : decode cX6_append 54 = .ok (.ireturn, 1) := by decide +kernel
theorem dX6_clearText_0 : decode cX6_clearText 0 = .ok (.aload_n 0, 1) := by decide +kernel
theorem dX6_clearText_1 : decode cX6_clearText 1 = .ok (.iconst 0, 1) := by decide +kernel
theorem dX6_clearText_2 : decode cX6_clearText 2 = .ok (.putfield 57, 3) := by decide +kernel
theorem dX6_clearText_5 : decode cX6_clearText 5 = .ok (.aload_n 0, 1) := by decide +kernel
theorem dX6_clearText_6 : decode cX6_clearText 6 = .ok (.getfield 144, 3) := by decide +kernel
theorem dX6_clearText_9 : decode cX6_clearText 9 = .ok (.istore_n 1, 1) := by decide +kernel
theorem dX6_clearText_10 : decode cX6_clearText 10 = .ok (.aload_n 0, 1) := by decide +kernel
theorem dX6_clearText_11 : decode cX6_clearText 11 = .ok (.iconst 0, 1) := by decide +kernel
theorem dX6_clearText_12 : decode cX6_clearText 12 = .ok (.putfield 144, 3) := by decide +kernel
theorem dX6_clearText_15 : decode cX6_clearText 15 = .ok (.iload_n 1, 1) := by decide +kernel
theorem dX6_clearText_16 : decode cX6_clearText 16 = .ok (.ireturn, 1) := by decide +kernel
set_option maxRecDepth 20000 in
theorem ggX6_runText_X6_read : GoodIn wsX6_runText wsX6_read := goodIn_r _ [8, 2, 9, 10, 11, 12, 13, 14, 15, 7, 16, 17, 18, 19, 20, 21, 3, 22, 23, 24, 25, 26, 27, 28, 29, 30, 31, 32, 33, 34, 35, 36, 37, 38, 39, 40, 41, 42, 43, 44, 45, 46, 47, 48, 49, 50, 51, 52, 53, 54, 55, 56, 57, 58, 59, 60, 61, 62, 63, 64, 65, 66, 67, 68, 69, 70, 71, 72, 73, 74, 75, 76, 77, 78, 79, 80, 81, 82, 83, 84, 85, 86, 87, 88, 89, 90, 91, 92, 93, 94, 95, 96, 97, 98, 99, 100, 108, 109, 110, 111, 112, 113, 114, 115, 116, 117, 118, 119, 120, 121, 122, 123, 124, 125, 126, 127, 128, 129, 130, 131, 132, 133, 134, 135, 136, 137, 138, 139, 140, 141] (by decide +kernel) (by decide +kernel)
set_option maxRecDepth 20000 in
theorem gX6_runText_X6_read : GoodIn wsX6_runText (wsV RX6 178 RX6 yX6_read wsX6_read) := goodIn_app (goodIn_of _ (by decide +kernel)) ggX6_runText_X6_read
set_option maxRecDepth 20000 in
theorem ggX6_runText_X6_keep : GoodIn wsX6_runText wsX6_keep := goodIn_r _ [104, 105, 106, 29, 107, 108, 109, 110, 111, 112, 113, 114, 115, 116, 117, 118, 119, 120, 121, 122, 123, 124, 125, 126, 127, 128, 129, 130, 131, 132, 133, 134, 135, 136, 137, 138, 139, 140, 141] (by decide +kernel) (by decide +kernel)
set_option maxRecDepth 20000 in
theorem gX6_runText_X6_keep : GoodIn wsX6_runText (wsV RX6 118 RX6 yX6_keep wsX6_keep) := goodIn_app (goodIn_of _ (by decide +kernel)) ggX6_runText_X6_keep
theorem dX6_runText_0 : decode cX6_runText 0 = .ok (.aload_n 0, 1) := by decide +kernel
theorem dX6_runText_1 : decode cX6_runText 1 = .ok (.iconst 0, 1) := by decide +kernel
theorem dX6_runText_2 : decode cX6_runText 2 = .ok (.putfield 57, 3) := by decide +kernel
theorem dX6_runText_5 : decode cX6_runText 5 = .ok (.aload_n 0, 1) := by decide +kernel
theorem dX6_runText_6 : decode cX6_runText 6 = .ok (.iconst 0, 1) := by decide +kernel
theorem dX6_runText_7 : decode cX6_runText 7 = .ok (.invokevirtual 178, 3) := by decide +kernel
theorem dX6_runText_10 : decode cX6_runText 10 = .ok (.pop, 1) := by decide +kernel
theorem dX6_runText_11 : decode cX6_runText 11 = .ok (.aload_n 0, 1) := by decide +kernel
theorem dX6_runText_12 : decode cX6_runText 12 = .ok (.getfield 162, 3) := by decide +kernel
theorem dX6_runText_15 : decode cX6_runText 15 = .ok (.bipush (-9), 2) := by decide +kernel
theorem dX6_runText_17 : decode cX6_runText 17 = .ok (.if_icmp .eq 11, 3) := by decide +kernel
theorem dX6_runText_20 : decode cX6_runText 20 = .ok (.bipush (-10), 2) := by decide +kernel
theorem dX6_runText_22 : decode cX6_runText 22 = .ok (.aload_n 0, 1) := by decide +kernel
theorem dX6_runText_23 : decode cX6_runText 23 = .ok (.getfield 162, 3) := by decide +kernel
theorem dX6_runText_26 : decode cX6_runText 26 = .ok (.isub, 1) := by decide +kernel
theorem dX6_runText_27 : decode cX6_runText 27 = .ok (.ireturn, 1) := by decide +kernel
theorem dX6_runText_28 : decode cX6_runText 28 = .ok (.aload_n 0, 1) := by decide +kernel
theorem dX6_runText_29 : decode cX6_runText 29 = .ok (.invokevirtual 118, 3) := by decide +kernel
theorem dX6_runText_32 : decode cX6_runText 32 = .ok (.aload_n 0, 1) := by decide +kernel
theorem dX6_runText_33 : decode cX6_runText 33 = .ok (.iconst 1, 1) := by decide +kernel
theorem dX6_runText_34 : decode cX6_runText 34 = .ok (.invokevirtual 178, 3) := by decide +kernel
theorem dX6_runText_37 : decode cX6_runText 37 = .ok (.istore_n 1, 1) := by decide +kernel
theorem dX6_runText_38 : decode cX6_runText 38 = .ok (.aload_n 0, 1) := by decide +kernel
theorem dX6_runText_39 : decode cX6_runText 39 = .ok (.iconst 0, 1) := by decide +kernel
theorem dX6_runText_40 : decode cX6_runText 40 = .ok (.putfield 144, 3) := by decide +kernel
theorem dX6_runText_43 : decode cX6_runText 43 = .ok (.iload_n 1, 1) := by decide +kernel
theorem dX6_runText_44 : decode cX6_runText 44 = .ok (.ireturn, 1) := by decide +kernel
set_option maxRecDepth 20000 in
theorem ggX6_status_X6_take : GoodIn wsX6_status wsX6_take := goodIn_r _ [6, 7, 8, 9, 21, 22, 23, 24, 25, 26, 27, 28, 29, 30, 31, 32, 33, 34, 35, 36, 37, 38, 39, 40, 41, 42, 43, 44, 45, 46, 47, 48, 49, 50, 51, 52, 53, 54] (by decide +kernel) (by decide +kernel)
set_option maxRecDepth 20000 in
theorem gX6_status_X6_take : GoodIn wsX6_status (wsV RX6 125 RX6 yX6_take wsX6_take) := goodIn_app (goodIn_of _ (by decide +kernel)) ggX6_status_X6_take
set_option maxRecDepth 20000 in
theorem ggX6_status_X6_isProcess : GoodIn wsX6_status wsX6_isProcess := goodIn_r _ [13, 7, 14, 15, 5, 16, 21, 22, 23, 24, 25, 26, 27, 28, 29, 30, 31, 32, 33, 34, 35, 36, 37, 38, 39, 40, 41, 42, 43, 44, 45, 46, 47, 48, 49, 50, 51, 52, 53, 54] (by decide +kernel) (by decide +kernel)
set_option maxRecDepth 20000 in
theorem gX6_status_X6_isProcess : GoodIn wsX6_status (wsV RX6 134 RX6 yX6_isProcess wsX6_isProcess) := goodIn_app (goodIn_of _ (by decide +kernel)) ggX6_status_X6_isProcess
set_option maxRecDepth 20000 in
theorem ggX6_status_X6_statusIn : GoodIn wsX6_status wsX6_statusIn := goodIn_r _ [20, 9, 21, 22, 23, 24, 25, 26, 27, 28, 29, 30, 31, 32, 33, 34, 35, 36, 37, 38, 39, 40, 41, 42, 43, 44, 45, 46, 47, 48, 49, 50, 51, 52, 53, 54] (by decide +kernel) (by decide +kernel)
set_option maxRecDepth 20000 in
theorem gX6_status_X6_statusIn : GoodIn wsX6_status (wsV RX6 128 RX6 yX6_statusIn wsX6_statusIn) := goodIn_app (goodIn_of _ (by decide +kernel)) ggX6_status_X6_statusIn
theorem dX6_status_0 : decode cX6_status 0 = .ok (.aload_n 0, 1) := by decide +kernel
theorem dX6_status_1 : decode cX6_status 1 = .ok (.iconst 0, 1) := by decide +kernel
theorem dX6_status_2 : decode cX6_status 2 = .ok (.putfield 57, 3) := by decide +kernel
theorem dX6_status_5 : decode cX6_status 5 = .ok (.aload_n 0, 1) := by decide +kernel
theorem dX6_status_6 : decode cX6_status 6 = .ok (.invokevirtual 125, 3) := by decide +kernel
theorem dX6_status_9 : decode cX6_status 9 = .ok (.aload_n 0, 1) := by decide +kernel
theorem dX6_status_10 : decode cX6_status 10 = .ok (.iload_n 1, 1) := by decide +kernel
theorem dX6_status_11 : decode cX6_status 11 = .ok (.invokevirtual 134, 3) := by decide +kernel
theorem dX6_status_14 : decode cX6_status 14 = .ok (.ifCond .eq 11, 3) := by decide +kernel
theorem dX6_status_17 : decode cX6_status 17 = .ok (.aload_n 0, 1) := by decide +kernel
theorem dX6_status_18 : decode cX6_status 18 = .ok (.iload_n 1, 1) := by decide +kernel
theorem dX6_status_19 : decode cX6_status 19 = .ok (.invokevirtual 128, 3) := by decide +kernel
theorem dX6_status_22 : decode cX6_status 22 = .ok (.goto 4, 3) := by decide +kernel
theorem dX6_status_25 : decode cX6_status 25 = .ok (.iconst (-1), 1) := by decide +kernel
theorem dX6_status_26 : decode cX6_status 26 = .ok (.ireturn, 1) := by decide +kernel
set_option maxRecDepth 20000 in
theorem ggX6_splitterOf_X6_isProcess : GoodIn wsX6_splitterOf wsX6_isProcess := goodIn_r _ [6, 7, 8, 9, 5, 10, 21, 22, 23, 24, 25, 26, 27, 28, 29, 30, 31, 32, 33, 34, 35, 36, 37, 38, 39, 40, 41, 42, 43, 44, 45, 46, 47, 48, 49, 50, 51, 52, 53, 54] (by decide +kernel) (by decide +kernel)
set_option maxRecDepth 20000 in
theorem gX6_splitterOf_X6_isProcess : GoodIn wsX6_splitterOf (wsV RX6 134 RX6 yX6_isProcess wsX6_isProcess) := goodIn_app (goodIn_of _ (by decide +kernel)) ggX6_splitterOf_X6_isProcess
set_option maxRecDepth 20000 in
theorem ggX6_splitterOf_X6_take : GoodIn wsX6_splitterOf wsX6_take := goodIn_r _ [14, 7, 15, 16, 21, 22, 23, 24, 25, 26, 27, 28, 29, 30, 31, 32, 33, 34, 35, 36, 37, 38, 39, 40, 41, 42, 43, 44, 45, 46, 47, 48, 49, 50, 51, 52, 53, 54] (by decide +kernel) (by decide +kernel)
set_option maxRecDepth 20000 in
theorem gX6_splitterOf_X6_take : GoodIn wsX6_splitterOf (wsV RX6 125 RX6 yX6_take wsX6_take) := goodIn_app (goodIn_of _ (by decide +kernel)) ggX6_splitterOf_X6_take
set_option maxRecDepth 20000 in
theorem ggX6_splitterOf_X6_splitterIn : GoodIn wsX6_splitterOf wsX6_splitterIn := goodIn_r _ [20, 16, 21, 22, 23, 24, 25, 26, 27, 28, 29, 30, 31, 32, 33, 34, 35, 36, 37, 38, 39, 40, 41, 42, 43, 44, 45, 46, 47, 48, 49, 50, 51, 52, 53, 54] (by decide +kernel) (by decide +kernel)
set_option maxRecDepth 20000 in
theorem gX6_splitterOf_X6_splitterIn : GoodIn wsX6_splitterOf (wsV RX6 67 RX6 yX6_splitterIn wsX6_splitterIn) := goodIn_app (goodIn_of _ (by decide +kernel)) ggX6_splitterOf_X6_splitterIn
theorem dX6_splitterOf_0 : decode cX6_splitterOf 0 = .ok (.aload_n 0, 1) := by decide +kernel
theorem dX6_splitterOf_1 : decode cX6_splitterOf 1 = .ok (.iconst 0, 1) := by decide +kernel
theorem dX6_splitterOf_2 : decode cX6_splitterOf 2 = .ok (.putfield 57, 3) := by decide +kernel
theorem dX6_splitterOf_5 : decode cX6_splitterOf 5 = .ok (.aload_n 0, 1) := by decide +kernel
theorem dX6_splitterOf_6 : decode cX6_splitterOf 6 = .ok (.iload_n 1, 1) := by decide +kernel
theorem dX6_splitterOf_7 : decode cX6_splitterOf 7 = .ok (.invokevirtual 134, 3) := by decide +kernel
theorem dX6_splitterOf_10 : decode cX6_splitterOf 10 = .ok (.ifCond .ne 5, 3) := by decide +kernel
theorem dX6_splitterOf_13 : decode cX6_splitterOf 13 = .ok (.iconst (-1), 1) := by decide +kernel
theorem dX6_splitterOf_14 : decode cX6_splitterOf 14 = .ok (.ireturn, 1) := by decide +kernel
theorem dX6_splitterOf_15 : decode cX6_splitterOf 15 = .ok (.aload_n 0, 1) := by decide +kernel
theorem dX6_splitterOf_16 : decode cX6_splitterOf 16 = .ok (.invokevirtual 125, 3) := by decide +kernel
theorem dX6_splitterOf_19 : decode cX6_splitterOf 19 = .ok (.aload_n 0, 1) := by decide +kernel
theorem dX6_splitterOf_20 : decode cX6_splitterOf 20 = .ok (.iload_n 1, 1) := by decide +kernel
theorem dX6_splitterOf_21 : decode cX6_splitterOf 21 = .ok (.invokevirtual 67, 3) := by decide +kernel
theorem dX6_splitterOf_24 : decode cX6_splitterOf 24 = .ok (.bipush 15, 2) := by decide +kernel
theorem dX6_splitterOf_26 : decode cX6_splitterOf 26 = .ok (.if_icmp .ne 8, 3) := by decide +kernel
theorem dX6_splitterOf_29 : decode cX6_splitterOf 29 = .ok (.bipush (-9), 2) := by decide +kernel
theorem dX6_splitterOf_31 : decode cX6_splitterOf 31 = .ok (.goto 8, 3) := by decide +kernel
theorem dX6_splitterOf_34 : decode cX6_splitterOf 34 = .ok (.aload_n 0, 1) := by decide +kernel
theorem dX6_splitterOf_35 : decode cX6_splitterOf 35 = .ok (.iload_n 1, 1) := by decide +kernel
theorem dX6_splitterOf_36 : decode cX6_splitterOf 36 = .ok (.invokevirtual 67, 3) := by decide +kernel
theorem dX6_splitterOf_39 : decode cX6_splitterOf 39 = .ok (.ireturn, 1) := by decide +kernel
set_option maxRecDepth 20000 in
theorem ggX6_phaseOf_X6_isProcess : GoodIn wsX6_phaseOf wsX6_isProcess := goodIn_r _ [6, 7, 8, 9, 5, 10, 25, 26, 27, 28, 29, 30, 31, 32, 33, 34, 35, 36, 37, 38, 39, 40, 41, 42, 43, 44, 45, 46, 47, 48, 49, 50, 51, 52, 53, 54, 55, 56, 57, 58] (by decide +kernel) (by decide +kernel)
set_option maxRecDepth 20000 in
theorem gX6_phaseOf_X6_isProcess : GoodIn wsX6_phaseOf (wsV RX6 134 RX6 yX6_isProcess wsX6_isProcess) := goodIn_app (goodIn_of _ (by decide +kernel)) ggX6_phaseOf_X6_isProcess
set_option maxRecDepth 20000 in
theorem ggX6_phaseOf_X6_take : GoodIn wsX6_phaseOf wsX6_take := goodIn_r _ [14, 7, 15, 16, 25, 26, 27, 28, 29, 30, 31, 32, 33, 34, 35, 36, 37, 38, 39, 40, 41, 42, 43, 44, 45, 46, 47, 48, 49, 50, 51, 52, 53, 54, 55, 56, 57, 58] (by decide +kernel) (by decide +kernel)
set_option maxRecDepth 20000 in
theorem gX6_phaseOf_X6_take : GoodIn wsX6_phaseOf (wsV RX6 125 RX6 yX6_take wsX6_take) := goodIn_app (goodIn_of _ (by decide +kernel)) ggX6_phaseOf_X6_take
set_option maxRecDepth 20000 in
theorem ggX6_phaseOf_X6_splitterIn : GoodIn wsX6_phaseOf wsX6_splitterIn := goodIn_r _ [20, 16, 25, 26, 27, 28, 29, 30, 31, 32, 33, 34, 35, 36, 37, 38, 39, 40, 41, 42, 43, 44, 45, 46, 47, 48, 49, 50, 51, 52, 53, 54, 55, 56, 57, 58] (by decide +kernel) (by decide +kernel)
set_option maxRecDepth 20000 in
theorem gX6_phaseOf_X6_splitterIn : GoodIn wsX6_phaseOf (wsV RX6 67 RX6 yX6_splitterIn wsX6_splitterIn) := goodIn_app (goodIn_of _ (by decide +kernel)) ggX6_phaseOf_X6_splitterIn
set_option maxRecDepth 20000 in
theorem ggX6_phaseOf_X6_phaseIn : GoodIn wsX6_phaseOf wsX6_phaseIn := goodIn_r _ [24, 16, 25, 26, 27, 28, 29, 30, 31, 32, 33, 34, 35, 36, 37, 38, 39, 40, 41, 42, 43, 44, 45, 46, 47, 48, 49, 50, 51, 52, 53, 54, 55, 56, 57, 58] (by decide +kernel) (by decide +kernel)
set_option maxRecDepth 20000 in
theorem gX6_phaseOf_X6_phaseIn : GoodIn wsX6_phaseOf (wsV RX6 85 RX6 yX6_phaseIn wsX6_phaseIn) := goodIn_app (goodIn_of _ (by decide +kernel)) ggX6_phaseOf_X6_phaseIn
theorem dX6_phaseOf_0 : decode cX6_phaseOf 0 = .ok (.aload_n 0, 1) := by decide +kernel
theorem dX6_phaseOf_1 : decode cX6_phaseOf 1 = .ok (.iconst 0, 1) := by decide +kernel
theorem dX6_phaseOf_2 : decode cX6_phaseOf 2 = .ok (.putfield 57, 3) := by decide +kernel
theorem dX6_phaseOf_5 : decode cX6_phaseOf 5 = .ok (.aload_n 0, 1) := by decide +kernel
theorem dX6_phaseOf_6 : decode cX6_phaseOf 6 = .ok (.iload_n 1, 1) := by decide +kernel
theorem dX6_phaseOf_7 : decode cX6_phaseOf 7 = .ok (.invokevirtual 134, 3) := by decide +kernel
theorem dX6_phaseOf_10 : decode cX6_phaseOf 10 = .ok (.ifCond .ne 5, 3) := by decide +kernel
theorem dX6_phaseOf_13 : decode cX6_phaseOf 13 = .ok (.iconst (-1), 1) := by decide +kernel
theorem dX6_phaseOf_14 : decode cX6_phaseOf 14 = .ok (.ireturn, 1) := by decide +kernel
theorem dX6_phaseOf_15 : decode cX6_phaseOf 15 = .ok (.aload_n 0, 1) := by decide +kernel
theorem dX6_phaseOf_16 : decode cX6_phaseOf 16 = .ok (.invokevirtual 125, 3) := by decide +kernel
theorem dX6_phaseOf_19 : decode cX6_phaseOf 19 = .ok (.aload_n 0, 1) := by decide +kernel
theorem dX6_phaseOf_20 : decode cX6_phaseOf 20 = .ok (.iload_n 1, 1) := by decide +kernel
theorem dX6_phaseOf_21 : decode cX6_phaseOf 21 = .ok (.invokevirtual 67, 3) := by decide +kernel
theorem dX6_phaseOf_24 : decode cX6_phaseOf 24 = .ok (.bipush 15, 2) := by decide +kernel
theorem dX6_phaseOf_26 : decode cX6_phaseOf 26 = .ok (.if_icmp .ne 8, 3) := by decide +kernel
theorem dX6_phaseOf_29 : decode cX6_phaseOf 29 = .ok (.bipush (-9), 2) := by decide +kernel
theorem dX6_phaseOf_31 : decode cX6_phaseOf 31 = .ok (.goto 8, 3) := by decide +kernel
theorem dX6_phaseOf_34 : decode cX6_phaseOf 34 = .ok (.aload_n 0, 1) := by decide +kernel
theorem dX6_phaseOf_35 : decode cX6_phaseOf 35 = .ok (.iload_n 1, 1) := by decide +kernel
theorem dX6_phaseOf_36 : decode cX6_phaseOf 36 = .ok (.invokevirtual 85, 3) := by decide +kernel
theorem dX6_phaseOf_39 : decode cX6_phaseOf 39 = .ok (.ireturn, 1) := by decide +kernel
set_option maxRecDepth 20000 in
theorem ggX6_stepsOf_X6_isProcess : GoodIn wsX6_stepsOf wsX6_isProcess := goodIn_r _ [7, 2, 8, 9, 6, 10, 11, 12, 13, 14, 15, 16, 17, 18, 19, 20, 21, 22, 23, 24, 25, 26, 27, 28, 29, 30, 31, 32, 33, 34, 35, 36, 37, 38, 39, 40, 41, 42, 43, 44] (by decide +kernel) (by decide +kernel)
set_option maxRecDepth 20000 in
theorem gX6_stepsOf_X6_isProcess : GoodIn wsX6_stepsOf (wsV RX6 134 RX6 yX6_isProcess wsX6_isProcess) := goodIn_app (goodIn_of _ (by decide +kernel)) ggX6_stepsOf_X6_isProcess
theorem dX6_stepsOf_0 : decode cX6_stepsOf 0 = .ok (.aload_n 0, 1) := by decide +kernel
theorem dX6_stepsOf_1 : decode cX6_stepsOf 1 = .ok (.iconst 0, 1) := by decide +kernel
theorem dX6_stepsOf_2 : decode cX6_stepsOf 2 = .ok (.putfield 57, 3) := by decide +kernel
theorem dX6_stepsOf_5 : decode cX6_stepsOf 5 = .ok (.aload_n 0, 1) := by decide +kernel
theorem dX6_stepsOf_6 : decode cX6_stepsOf 6 = .ok (.iload_n 1, 1) := by decide +kernel
theorem dX6_stepsOf_7 : decode cX6_stepsOf 7 = .ok (.invokevirtual 134, 3) := by decide +kernel
theorem dX6_stepsOf_10 : decode cX6_stepsOf 10 = .ok (.ifCond .eq 14, 3) := by decide +kernel
theorem dX6_stepsOf_13 : decode cX6_stepsOf 13 = .ok (.aload_n 0, 1) := by decide +kernel
theorem dX6_stepsOf_14 : decode cX6_stepsOf 14 = .ok (.getfield 7, 3) := by decide +kernel
theorem dX6_stepsOf_17 : decode cX6_stepsOf 17 = .ok (.iconst 5, 1) := by decide +kernel
theorem dX6_stepsOf_18 : decode cX6_stepsOf 18 = .ok (.iload_n 1, 1) := by decide +kernel
theorem dX6_stepsOf_19 : decode cX6_stepsOf 19 = .ok (.iadd, 1) := by decide +kernel
theorem dX6_stepsOf_20 : decode cX6_stepsOf 20 = .ok (.iaload, 1) := by decide +kernel
theorem dX6_stepsOf_21 : decode cX6_stepsOf 21 = .ok (.goto 4, 3) := by decide +kernel
theorem dX6_stepsOf_24 : decode cX6_stepsOf 24 = .ok (.iconst (-1), 1) := by decide +kernel
theorem dX6_stepsOf_25 : decode cX6_stepsOf 25 = .ok (.ireturn, 1) := by decide +kernel
set_option maxRecDepth 20000 in
theorem ggX6_runAlone_X6_take : GoodIn wsX6_runAlone wsX6_take := goodIn_r _ [5, 6, 7, 8, 58, 59, 60, 61, 62, 63, 64, 65, 66, 67, 68, 69, 70, 71, 72, 73, 74, 75, 76, 77, 78, 79, 80, 81, 82, 83, 84, 85, 86, 87, 88, 89, 90, 91] (by decide +kernel) (by decide +kernel)
set_option maxRecDepth 20000 in
theorem gX6_runAlone_X6_take : GoodIn wsX6_runAlone (wsV RX6 125 RX6 yX6_take wsX6_take) := goodIn_app (goodIn_of _ (by decide +kernel)) ggX6_runAlone_X6_take
set_option maxRecDepth 20000 in
theorem ggX6_runAlone_X6_statusIn : GoodIn wsX6_runAlone wsX6_statusIn := goodIn_r _ [12, 8, 58, 59, 60, 61, 62, 63, 64, 65, 66, 67, 68, 69, 70, 71, 72, 73, 74, 75, 76, 77, 78, 79, 80, 81, 82, 83, 84, 85, 86, 87, 88, 89, 90, 91] (by decide +kernel) (by decide +kernel)
set_option maxRecDepth 20000 in
theorem gX6_runAlone_X6_statusIn : GoodIn wsX6_runAlone (wsV RX6 128 RX6 yX6_statusIn wsX6_statusIn) := goodIn_app (goodIn_of _ (by decide +kernel)) ggX6_runAlone_X6_statusIn
set_option maxRecDepth 20000 in
theorem ggX6_runAlone_X6_stepOf : GoodIn wsX6_runAlone wsX6_stepOf := goodIn_r _ [16, 17, 7, 6, 18, 19, 20, 4, 21, 8, 22, 23, 24, 25, 26, 27, 28, 29, 30, 31, 32, 33, 34, 35, 36, 37, 38, 39, 40, 41, 42, 43, 44, 45, 46, 47, 48, 49, 50, 51, 52, 53, 54, 55, 56, 57, 58, 59, 60, 61, 62, 63, 64, 65, 66, 67, 68, 69, 70, 71, 72, 73, 74, 75, 76, 77, 78, 79, 80, 81, 82, 83, 84, 85, 86, 87, 88, 89, 90, 91] (by decide +kernel) (by decide +kernel)
set_option maxRecDepth 20000 in
theorem gX6_runAlone_X6_stepOf : GoodIn wsX6_runAlone (wsV RX6 131 RX6 yX6_stepOf wsX6_stepOf) := goodIn_app (goodIn_of _ (by decide +kernel)) ggX6_runAlone_X6_stepOf
theorem dX6_runAlone_0 : decode cX6_runAlone 0 = .ok (.aload_n 0, 1) := by decide +kernel
theorem dX6_runAlone_1 : decode cX6_runAlone 1 = .ok (.invokevirtual 125, 3) := by decide +kernel
theorem dX6_runAlone_4 : decode cX6_runAlone 4 = .ok (.iconst 0, 1) := by decide +kernel
theorem dX6_runAlone_5 : decode cX6_runAlone 5 = .ok (.istore_n 2, 1) := by decide +kernel
theorem dX6_runAlone_6 : decode cX6_runAlone 6 = .ok (.aload_n 0, 1) := by decide +kernel
theorem dX6_runAlone_7 : decode cX6_runAlone 7 = .ok (.iload_n 1, 1) := by decide +kernel
theorem dX6_runAlone_8 : decode cX6_runAlone 8 = .ok (.invokevirtual 128, 3) := by decide +kernel
theorem dX6_runAlone_11 : decode cX6_runAlone 11 = .ok (.ifCond .ne 15, 3) := by decide +kernel
theorem dX6_runAlone_14 : decode cX6_runAlone 14 = .ok (.aload_n 0, 1) := by decide +kernel
theorem dX6_runAlone_15 : decode cX6_runAlone 15 = .ok (.iload_n 1, 1) := by decide +kernel
theorem dX6_runAlone_16 : decode cX6_runAlone 16 = .ok (.invokevirtual 131, 3) := by decide +kernel
theorem dX6_runAlone_19 : decode cX6_runAlone 19 = .ok (.pop, 1) := by decide +kernel
theorem dX6_runAlone_20 : decode cX6_runAlone 20 = .ok (.iinc 2 1, 3) := by decide +kernel
theorem dX6_runAlone_23 : decode cX6_runAlone 23 = .ok (.goto (-17), 3) := by decide +kernel
theorem dX6_runAlone_26 : decode cX6_runAlone 26 = .ok (.iload_n 2, 1) := by decide +kernel
theorem dX6_runAlone_27 : decode cX6_runAlone 27 = .ok (.ireturn, 1) := by decide +kernel
set_option maxRecDepth 20000 in
theorem ggX6_soloSteps_X6_isProcess : GoodIn wsX6_soloSteps wsX6_isProcess := goodIn_r _ [6, 7, 8, 9, 5, 10, 70, 71, 72, 73, 74, 75, 76, 77, 78, 79, 80, 81, 82, 83, 84, 85, 86, 87, 88, 89, 90, 91, 92, 93, 94, 95, 96, 97, 98, 99, 100, 101, 102, 103] (by decide +kernel) (by decide +kernel)
set_option maxRecDepth 20000 in
theorem gX6_soloSteps_X6_isProcess : GoodIn wsX6_soloSteps (wsV RX6 134 RX6 yX6_isProcess wsX6_isProcess) := goodIn_app (goodIn_of _ (by decide +kernel)) ggX6_soloSteps_X6_isProcess
set_option maxRecDepth 20000 in
theorem ggX6_soloSteps_X6_runAlone : GoodIn wsX6_soloSteps wsX6_runAlone := goodIn_r _ [14, 15, 16, 17, 5, 18, 7, 19, 20, 21, 22, 23, 24, 25, 26, 27, 28, 29, 30, 31, 32, 33, 34, 35, 36, 37, 38, 39, 40, 41, 42, 43, 44, 45, 46, 47, 48, 49, 50, 51, 52, 53, 54, 55, 56, 57, 58, 59, 60, 61, 62, 63, 64, 65, 66, 67, 68, 69, 70, 71, 72, 73, 74, 75, 76, 77, 78, 79, 80, 81, 82, 83, 84, 85, 86, 87, 88, 89, 90, 91, 92, 93, 94, 95, 96, 97, 98, 99, 100, 101, 102, 103] (by decide +kernel) (by decide +kernel)
set_option maxRecDepth 20000 in
theorem gX6_soloSteps_X6_runAlone : GoodIn wsX6_soloSteps (wsV RX6 181 RX6 yX6_runAlone wsX6_runAlone) := goodIn_app (goodIn_of _ (by decide +kernel)) ggX6_soloSteps_X6_runAlone
theorem dX6_soloSteps_0 : decode cX6_soloSteps 0 = .ok (.aload_n 0, 1) := by decide +kernel
theorem dX6_soloSteps_1 : decode cX6_soloSteps 1 = .ok (.iconst 0, 1) := by decide +kernel
theorem dX6_soloSteps_2 : decode cX6_soloSteps 2 = .ok (.putfield 57, 3) := by decide +kernel
theorem dX6_soloSteps_5 : decode cX6_soloSteps 5 = .ok (.aload_n 0, 1) := by decide +kernel
theorem dX6_soloSteps_6 : decode cX6_soloSteps 6 = .ok (.iload_n 1, 1) := by decide +kernel
theorem dX6_soloSteps_7 : decode cX6_soloSteps 7 = .ok (.invokevirtual 134, 3) := by decide +kernel
theorem dX6_soloSteps_10 : decode cX6_soloSteps 10 = .ok (.ifCond .eq 11, 3) := by decide +kernel
theorem dX6_soloSteps_13 : decode cX6_soloSteps 13 = .ok (.aload_n 0, 1) := by decide +kernel
theorem dX6_soloSteps_14 : decode cX6_soloSteps 14 = .ok (.iload_n 1, 1) := by decide +kernel
theorem dX6_soloSteps_15 : decode cX6_soloSteps 15 = .ok (.invokevirtual 181, 3) := by decide +kernel
theorem dX6_soloSteps_18 : decode cX6_soloSteps 18 = .ok (.goto 4, 3) := by decide +kernel
theorem dX6_soloSteps_21 : decode cX6_soloSteps 21 = .ok (.iconst (-1), 1) := by decide +kernel
theorem dX6_soloSteps_22 : decode cX6_soloSteps 22 = .ok (.ireturn, 1) := by decide +kernel
set_option maxRecDepth 20000 in
theorem ggX6_soloName_X6_isProcess : GoodIn wsX6_soloName wsX6_isProcess := goodIn_r _ [6, 7, 8, 9, 5, 10, 70, 71, 72, 73, 74, 75, 76, 77, 78, 79, 80, 81, 82, 83, 84, 85, 86, 87, 88, 89, 90, 91, 92, 93, 94, 95, 96, 97, 98, 99, 100, 101, 102, 103] (by decide +kernel) (by decide +kernel)
set_option maxRecDepth 20000 in
theorem gX6_soloName_X6_isProcess : GoodIn wsX6_soloName (wsV RX6 134 RX6 yX6_isProcess wsX6_isProcess) := goodIn_app (goodIn_of _ (by decide +kernel)) ggX6_soloName_X6_isProcess
set_option maxRecDepth 20000 in
theorem ggX6_soloName_X6_runAlone : GoodIn wsX6_soloName wsX6_runAlone := goodIn_r _ [14, 15, 16, 17, 5, 18, 7, 19, 20, 21, 22, 23, 24, 25, 26, 27, 28, 29, 30, 31, 32, 33, 34, 35, 36, 37, 38, 39, 40, 41, 42, 43, 44, 45, 46, 47, 48, 49, 50, 51, 52, 53, 54, 55, 56, 57, 58, 59, 60, 61, 62, 63, 64, 65, 66, 67, 68, 69, 70, 71, 72, 73, 74, 75, 76, 77, 78, 79, 80, 81, 82, 83, 84, 85, 86, 87, 88, 89, 90, 91, 92, 93, 94, 95, 96, 97, 98, 99, 100, 101, 102, 103] (by decide +kernel) (by decide +kernel)
set_option maxRecDepth 20000 in
theorem gX6_soloName_X6_runAlone : GoodIn wsX6_soloName (wsV RX6 181 RX6 yX6_runAlone wsX6_runAlone) := goodIn_app (goodIn_of _ (by decide +kernel)) ggX6_soloName_X6_runAlone
set_option maxRecDepth 20000 in
theorem ggX6_soloName_X6_statusIn : GoodIn wsX6_soloName wsX6_statusIn := goodIn_r _ [24, 20, 70, 71, 72, 73, 74, 75, 76, 77, 78, 79, 80, 81, 82, 83, 84, 85, 86, 87, 88, 89, 90, 91, 92, 93, 94, 95, 96, 97, 98, 99, 100, 101, 102, 103] (by decide +kernel) (by decide +kernel)
set_option maxRecDepth 20000 in
theorem gX6_soloName_X6_statusIn : GoodIn wsX6_soloName (wsV RX6 128 RX6 yX6_statusIn wsX6_statusIn) := goodIn_app (goodIn_of _ (by decide +kernel)) ggX6_soloName_X6_statusIn
set_option maxRecDepth 20000 in
theorem ggX6_soloName_X6_splitterIn : GoodIn wsX6_soloName wsX6_splitterIn := goodIn_r _ [33, 20, 70, 71, 72, 73, 74, 75, 76, 77, 78, 79, 80, 81, 82, 83, 84, 85, 86, 87, 88, 89, 90, 91, 92, 93, 94, 95, 96, 97, 98, 99, 100, 101, 102, 103] (by decide +kernel) (by decide +kernel)
set_option maxRecDepth 20000 in
theorem gX6_soloName_X6_splitterIn : GoodIn wsX6_soloName (wsV RX6 67 RX6 yX6_splitterIn wsX6_splitterIn) := goodIn_app (goodIn_of _ (by decide +kernel)) ggX6_soloName_X6_splitterIn
theorem dX6_soloName_0 : decode cX6_soloName 0 = .ok (.aload_n 0, 1) := by decide +kernel
theorem dX6_soloName_1 : decode cX6_soloName 1 = .ok (.iconst 0, 1) := by decide +kernel
theorem dX6_soloName_2 : decode cX6_soloName 2 = .ok (.putfield 57, 3) := by decide +kernel
theorem dX6_soloName_5 : decode cX6_soloName 5 = .ok (.aload_n 0, 1) := by decide +kernel
theorem dX6_soloName_6 : decode cX6_soloName 6 = .ok (.iload_n 1, 1) := by decide +kernel
theorem dX6_soloName_7 : decode cX6_soloName 7 = .ok (.invokevirtual 134, 3) := by decide +kernel
theorem dX6_soloName_10 : decode cX6_soloName 10 = .ok (.ifCond .ne 5, 3) := by decide +kernel
theorem dX6_soloName_13 : decode cX6_soloName 13 = .ok (.iconst (-1), 1) := by decide +kernel
theorem dX6_soloName_14 : decode cX6_soloName 14 = .ok (.ireturn, 1) := by decide +kernel
theorem dX6_soloName_15 : decode cX6_soloName 15 = .ok (.aload_n 0, 1) := by decide +kernel
theorem dX6_soloName_16 : decode cX6_soloName 16 = .ok (.iload_n 1, 1) := by decide +kernel
theorem dX6_soloName_17 : decode cX6_soloName 17 = .ok (.invokevirtual 181, 3) := by decide +kernel
theorem dX6_soloName_20 : decode cX6_soloName 20 = .ok (.pop, 1) := by decide +kernel
theorem dX6_soloName_21 : decode cX6_soloName 21 = .ok (.aload_n 0, 1) := by decide +kernel
theorem dX6_soloName_22 : decode cX6_soloName 22 = .ok (.iload_n 1, 1) := by decide +kernel
theorem dX6_soloName_23 : decode cX6_soloName 23 = .ok (.invokevirtual 128, 3) := by decide +kernel
theorem dX6_soloName_26 : decode cX6_soloName 26 = .ok (.iconst 1, 1) := by decide +kernel
theorem dX6_soloName_27 : decode cX6_soloName 27 = .ok (.if_icmp .ne 11, 3) := by decide +kernel
theorem dX6_soloName_30 : decode cX6_soloName 30 = .ok (.aload_n 0, 1) := by decide +kernel
theorem dX6_soloName_31 : decode cX6_soloName 31 = .ok (.iload_n 1, 1) := by decide +kernel
theorem dX6_soloName_32 : decode cX6_soloName 32 = .ok (.invokevirtual 67, 3) := by decide +kernel
theorem dX6_soloName_35 : decode cX6_soloName 35 = .ok (.goto 5, 3) := by decide +kernel
theorem dX6_soloName_38 : decode cX6_soloName 38 = .ok (.bipush (-9), 2) := by decide +kernel
theorem dX6_soloName_40 : decode cX6_soloName 40 = .ok (.ireturn, 1) := by decide +kernel
set_option maxRecDepth 20000 in
theorem ggX6_isSplitter_X6_names : GoodIn wsX6_isSplitter wsX6_names := goodIn_r _ [5, 6, 10, 11, 12, 13, 14, 15, 16, 17, 18, 19, 20, 21, 22, 23, 24, 25, 26, 27, 28, 29, 30, 31, 32, 33, 34, 35, 36, 37, 38, 39, 40, 41, 42, 43] (by decide +kernel) (by decide +kernel)
set_option maxRecDepth 20000 in
theorem gX6_isSplitter_X6_names : GoodIn wsX6_isSplitter (wsV RX6 121 RX6 yX6_names wsX6_names) := goodIn_app (goodIn_of _ (by decide +kernel)) ggX6_isSplitter_X6_names
set_option maxRecDepth 20000 in
theorem ggX6_isSplitter_X6_in : GoodIn wsX6_isSplitter wsX6_in := goodIn_r _ [9] (by decide +kernel) (by decide +kernel)
set_option maxRecDepth 20000 in
theorem gX6_isSplitter_X6_in : GoodIn wsX6_isSplitter (va_wsS RX6 114 yX6_in wsX6_in) := goodIn_app (goodIn_of _ (by decide +kernel)) ggX6_isSplitter_X6_in
theorem dX6_isSplitter_0 : decode cX6_isSplitter 0 = .ok (.iload_n 1, 1) := by decide +kernel
theorem dX6_isSplitter_1 : decode cX6_isSplitter 1 = .ok (.iconst 0, 1) := by decide +kernel
theorem dX6_isSplitter_2 : decode cX6_isSplitter 2 = .ok (.aload_n 0, 1) := by decide +kernel
theorem dX6_isSplitter_3 : decode cX6_isSplitter 3 = .ok (.invokevirtual 121, 3) := by decide +kernel
theorem dX6_isSplitter_6 : decode cX6_isSplitter 6 = .ok (.iconst 1, 1) := by decide +kernel
theorem dX6_isSplitter_7 : decode cX6_isSplitter 7 = .ok (.isub, 1) := by decide +kernel
theorem dX6_isSplitter_8 : decode cX6_isSplitter 8 = .ok (.invokestatic 114, 3) := by decide +kernel
theorem dX6_isSplitter_11 : decode cX6_isSplitter 11 = .ok (.ireturn, 1) := by decide +kernel
set_option maxRecDepth 20000 in
theorem ggX6_owner_X6_isSplitter : GoodIn wsX6_owner wsX6_isSplitter := goodIn_r _ [6, 7, 8, 9, 5, 10, 11, 12, 13, 14, 25, 26, 27, 28, 29, 30, 31, 32, 33, 34, 35, 36, 37, 38, 39, 40, 41, 42, 43, 44, 45, 46, 47, 48, 49, 50, 51, 52, 53, 54, 55, 56, 57, 58] (by decide +kernel) (by decide +kernel)
set_option maxRecDepth 20000 in
theorem gX6_owner_X6_isSplitter : GoodIn wsX6_owner (wsV RX6 184 RX6 yX6_isSplitter wsX6_isSplitter) := goodIn_app (goodIn_of _ (by decide +kernel)) ggX6_owner_X6_isSplitter
set_option maxRecDepth 20000 in
theorem ggX6_owner_X6_take : GoodIn wsX6_owner wsX6_take := goodIn_r _ [18, 11, 19, 20, 25, 26, 27, 28, 29, 30, 31, 32, 33, 34, 35, 36, 37, 38, 39, 40, 41, 42, 43, 44, 45, 46, 47, 48, 49, 50, 51, 52, 53, 54, 55, 56, 57, 58] (by decide +kernel) (by decide +kernel)
set_option maxRecDepth 20000 in
theorem gX6_owner_X6_take : GoodIn wsX6_owner (wsV RX6 125 RX6 yX6_take wsX6_take) := goodIn_app (goodIn_of _ (by decide +kernel)) ggX6_owner_X6_take
set_option maxRecDepth 20000 in
theorem ggX6_owner_X6_ownerIn : GoodIn wsX6_owner wsX6_ownerIn := goodIn_r _ [24, 19, 25, 26, 27, 28, 29, 30, 31, 32, 33, 34, 35, 36, 37, 38, 39, 40, 41, 42, 43, 44, 45, 46, 47, 48, 49, 50, 51, 52, 53, 54, 55, 56, 57, 58] (by decide +kernel) (by decide +kernel)
set_option maxRecDepth 20000 in
theorem gX6_owner_X6_ownerIn : GoodIn wsX6_owner (wsV RX6 99 RX6 yX6_ownerIn wsX6_ownerIn) := goodIn_app (goodIn_of _ (by decide +kernel)) ggX6_owner_X6_ownerIn
theorem dX6_owner_0 : decode cX6_owner 0 = .ok (.aload_n 0, 1) := by decide +kernel
theorem dX6_owner_1 : decode cX6_owner 1 = .ok (.iconst 0, 1) := by decide +kernel
theorem dX6_owner_2 : decode cX6_owner 2 = .ok (.putfield 57, 3) := by decide +kernel
theorem dX6_owner_5 : decode cX6_owner 5 = .ok (.aload_n 0, 1) := by decide +kernel
theorem dX6_owner_6 : decode cX6_owner 6 = .ok (.iload_n 1, 1) := by decide +kernel
theorem dX6_owner_7 : decode cX6_owner 7 = .ok (.invokevirtual 184, 3) := by decide +kernel
theorem dX6_owner_10 : decode cX6_owner 10 = .ok (.ifCond .ne 5, 3) := by decide +kernel
theorem dX6_owner_13 : decode cX6_owner 13 = .ok (.iconst (-1), 1) := by decide +kernel
theorem dX6_owner_14 : decode cX6_owner 14 = .ok (.ireturn, 1) := by decide +kernel
theorem dX6_owner_15 : decode cX6_owner 15 = .ok (.aload_n 0, 1) := by decide +kernel
theorem dX6_owner_16 : decode cX6_owner 16 = .ok (.invokevirtual 125, 3) := by decide +kernel
theorem dX6_owner_19 : decode cX6_owner 19 = .ok (.aload_n 0, 1) := by decide +kernel
theorem dX6_owner_20 : decode cX6_owner 20 = .ok (.iload_n 1, 1) := by decide +kernel
theorem dX6_owner_21 : decode cX6_owner 21 = .ok (.invokevirtual 99, 3) := by decide +kernel
theorem dX6_owner_24 : decode cX6_owner 24 = .ok (.ifCond .ge 8, 3) := by decide +kernel
theorem dX6_owner_27 : decode cX6_owner 27 = .ok (.bipush (-9), 2) := by decide +kernel
theorem dX6_owner_29 : decode cX6_owner 29 = .ok (.goto 8, 3) := by decide +kernel
theorem dX6_owner_32 : decode cX6_owner 32 = .ok (.aload_n 0, 1) := by decide +kernel
theorem dX6_owner_33 : decode cX6_owner 33 = .ok (.iload_n 1, 1) := by decide +kernel
theorem dX6_owner_34 : decode cX6_owner 34 = .ok (.invokevirtual 99, 3) := by decide +kernel
theorem dX6_owner_37 : decode cX6_owner 37 = .ok (.ireturn, 1) := by decide +kernel
set_option maxRecDepth 20000 in
theorem ggX6_door_X6_take : GoodIn wsX6_door wsX6_take := goodIn_r _ [6, 7, 8, 9, 25, 26, 27, 28, 29, 30, 31, 32, 33, 34, 35, 36, 37, 38, 39, 40, 41, 42, 43, 44, 45, 46, 47, 48, 49, 50, 51, 52, 53, 54, 55, 56, 57, 58] (by decide +kernel) (by decide +kernel)
set_option maxRecDepth 20000 in
theorem gX6_door_X6_take : GoodIn wsX6_door (wsV RX6 125 RX6 yX6_take wsX6_take) := goodIn_app (goodIn_of _ (by decide +kernel)) ggX6_door_X6_take
set_option maxRecDepth 20000 in
theorem ggX6_door_X6_isSplitter : GoodIn wsX6_door wsX6_isSplitter := goodIn_r _ [13, 14, 15, 16, 5, 17, 7, 18, 19, 20, 25, 26, 27, 28, 29, 30, 31, 32, 33, 34, 35, 36, 37, 38, 39, 40, 41, 42, 43, 44, 45, 46, 47, 48, 49, 50, 51, 52, 53, 54, 55, 56, 57, 58] (by decide +kernel) (by decide +kernel)
set_option maxRecDepth 20000 in
theorem gX6_door_X6_isSplitter : GoodIn wsX6_door (wsV RX6 184 RX6 yX6_isSplitter wsX6_isSplitter) := goodIn_app (goodIn_of _ (by decide +kernel)) ggX6_door_X6_isSplitter
set_option maxRecDepth 20000 in
theorem ggX6_door_X6_doorIn : GoodIn wsX6_door wsX6_doorIn := goodIn_r _ [24, 8, 25, 26, 27, 28, 29, 30, 31, 32, 33, 34, 35, 36, 37, 38, 39, 40, 41, 42, 43, 44, 45, 46, 47, 48, 49, 50, 51, 52, 53, 54, 55, 56, 57, 58] (by decide +kernel) (by decide +kernel)
set_option maxRecDepth 20000 in
theorem gX6_door_X6_doorIn : GoodIn wsX6_door (wsV RX6 92 RX6 yX6_doorIn wsX6_doorIn) := goodIn_app (goodIn_of _ (by decide +kernel)) ggX6_door_X6_doorIn
theorem dX6_door_0 : decode cX6_door 0 = .ok (.aload_n 0, 1) := by decide +kernel
theorem dX6_door_1 : decode cX6_door 1 = .ok (.iconst 0, 1) := by decide +kernel
theorem dX6_door_2 : decode cX6_door 2 = .ok (.putfield 57, 3) := by decide +kernel
theorem dX6_door_5 : decode cX6_door 5 = .ok (.aload_n 0, 1) := by decide +kernel
theorem dX6_door_6 : decode cX6_door 6 = .ok (.invokevirtual 125, 3) := by decide +kernel
theorem dX6_door_9 : decode cX6_door 9 = .ok (.aload_n 0, 1) := by decide +kernel
theorem dX6_door_10 : decode cX6_door 10 = .ok (.iload_n 1, 1) := by decide +kernel
theorem dX6_door_11 : decode cX6_door 11 = .ok (.invokevirtual 184, 3) := by decide +kernel
theorem dX6_door_14 : decode cX6_door 14 = .ok (.ifCond .eq 11, 3) := by decide +kernel
theorem dX6_door_17 : decode cX6_door 17 = .ok (.aload_n 0, 1) := by decide +kernel
theorem dX6_door_18 : decode cX6_door 18 = .ok (.iload_n 1, 1) := by decide +kernel
theorem dX6_door_19 : decode cX6_door 19 = .ok (.invokevirtual 92, 3) := by decide +kernel
theorem dX6_door_22 : decode cX6_door 22 = .ok (.goto 4, 3) := by decide +kernel
theorem dX6_door_25 : decode cX6_door 25 = .ok (.iconst (-1), 1) := by decide +kernel
theorem dX6_door_26 : decode cX6_door 26 = .ok (.ireturn, 1) := by decide +kernel
set_option maxRecDepth 20000 in
theorem ggX6_entered_X6_isSplitter : GoodIn wsX6_entered wsX6_isSplitter := goodIn_r _ [7, 8, 9, 10, 6, 11, 2, 12, 13, 14, 15, 16, 17, 18, 19, 20, 21, 22, 23, 24, 25, 26, 27, 28, 29, 30, 31, 32, 33, 34, 35, 36, 37, 38, 39, 40, 41, 42, 43, 44, 45, 46, 47, 48] (by decide +kernel) (by decide +kernel)
set_option maxRecDepth 20000 in
theorem gX6_entered_X6_isSplitter : GoodIn wsX6_entered (wsV RX6 184 RX6 yX6_isSplitter wsX6_isSplitter) := goodIn_app (goodIn_of _ (by decide +kernel)) ggX6_entered_X6_isSplitter
theorem dX6_entered_0 : decode cX6_entered 0 = .ok (.aload_n 0, 1) := by decide +kernel
theorem dX6_entered_1 : decode cX6_entered 1 = .ok (.iconst 0, 1) := by decide +kernel
theorem dX6_entered_2 : decode cX6_entered 2 = .ok (.putfield 57, 3) := by decide +kernel
theorem dX6_entered_5 : decode cX6_entered 5 = .ok (.aload_n 0, 1) := by decide +kernel
theorem dX6_entered_6 : decode cX6_entered 6 = .ok (.iload_n 1, 1) := by decide +kernel
theorem dX6_entered_7 : decode cX6_entered 7 = .ok (.invokevirtual 184, 3) := by decide +kernel
theorem dX6_entered_10 : decode cX6_entered 10 = .ok (.ifCond .eq 15, 3) := by decide +kernel
theorem dX6_entered_13 : decode cX6_entered 13 = .ok (.aload_n 0, 1) := by decide +kernel
theorem dX6_entered_14 : decode cX6_entered 14 = .ok (.getfield 7, 3) := by decide +kernel
theorem dX6_entered_17 : decode cX6_entered 17 = .ok (.bipush 8, 2) := by decide +kernel
theorem dX6_entered_19 : decode cX6_entered 19 = .ok (.iload_n 1, 1) := by decide +kernel
theorem dX6_entered_20 : decode cX6_entered 20 = .ok (.iadd, 1) := by decide +kernel
theorem dX6_entered_21 : decode cX6_entered 21 = .ok (.iaload, 1) := by decide +kernel
theorem dX6_entered_22 : decode cX6_entered 22 = .ok (.goto 4, 3) := by decide +kernel
theorem dX6_entered_25 : decode cX6_entered 25 = .ok (.iconst (-1), 1) := by decide +kernel
theorem dX6_entered_26 : decode cX6_entered 26 = .ok (.ireturn, 1) := by decide +kernel
set_option maxRecDepth 20000 in
theorem ggX6_left_X6_isSplitter : GoodIn wsX6_left wsX6_isSplitter := goodIn_r _ [7, 8, 9, 10, 6, 11, 2, 12, 13, 14, 15, 16, 17, 18, 19, 20, 21, 22, 23, 24, 25, 26, 27, 28, 29, 30, 31, 32, 33, 34, 35, 36, 37, 38, 39, 40, 41, 42, 43, 44, 45, 46, 47, 48] (by decide +kernel) (by decide +kernel)
set_option maxRecDepth 20000 in
theorem gX6_left_X6_isSplitter : GoodIn wsX6_left (wsV RX6 184 RX6 yX6_isSplitter wsX6_isSplitter) := goodIn_app (goodIn_of _ (by decide +kernel)) ggX6_left_X6_isSplitter
set_option maxRecDepth 20000 in
theorem ggX6_left_X6_in : GoodIn wsX6_left wsX6_in := goodIn_r _ [14] (by decide +kernel) (by decide +kernel)
set_option maxRecDepth 20000 in
theorem gX6_left_X6_in : GoodIn wsX6_left (va_wsS RX6 114 yX6_in wsX6_in) := goodIn_app (goodIn_of _ (by decide +kernel)) ggX6_left_X6_in
theorem dX6_left_0 : decode cX6_left 0 = .ok (.aload_n 0, 1) := by decide +kernel
theorem dX6_left_1 : decode cX6_left 1 = .ok (.iconst 0, 1) := by decide +kernel
theorem dX6_left_2 : decode cX6_left 2 = .ok (.putfield 57, 3) := by decide +kernel
theorem dX6_left_5 : decode cX6_left 5 = .ok (.aload_n 0, 1) := by decide +kernel
theorem dX6_left_6 : decode cX6_left 6 = .ok (.iload_n 1, 1) := by decide +kernel
theorem dX6_left_7 : decode cX6_left 7 = .ok (.invokevirtual 184, 3) := by decide +kernel
theorem dX6_left_10 : decode cX6_left 10 = .ok (.ifCond .eq 12, 3) := by decide +kernel
theorem dX6_left_13 : decode cX6_left 13 = .ok (.iload_n 2, 1) := by decide +kernel
theorem dX6_left_14 : decode cX6_left 14 = .ok (.iconst 0, 1) := by decide +kernel
theorem dX6_left_15 : decode cX6_left 15 = .ok (.iconst 1, 1) := by decide +kernel
theorem dX6_left_16 : decode cX6_left 16 = .ok (.invokestatic 114, 3) := by decide +kernel
theorem dX6_left_19 : decode cX6_left 19 = .ok (.ifCond .ne 5, 3) := by decide +kernel
theorem dX6_left_22 : decode cX6_left 22 = .ok (.iconst (-1), 1) := by decide +kernel
theorem dX6_left_23 : decode cX6_left 23 = .ok (.ireturn, 1) := by decide +kernel
theorem dX6_left_24 : decode cX6_left 24 = .ok (.aload_n 0, 1) := by decide +kernel
theorem dX6_left_25 : decode cX6_left 25 = .ok (.getfield 7, 3) := by decide +kernel
theorem dX6_left_28 : decode cX6_left 28 = .ok (.iload_n 2, 1) := by decide +kernel
theorem dX6_left_29 : decode cX6_left 29 = .ok (.ifCond .ne 8, 3) := by decide +kernel
theorem dX6_left_32 : decode cX6_left 32 = .ok (.bipush 18, 2) := by decide +kernel
theorem dX6_left_34 : decode cX6_left 34 = .ok (.goto 5, 3) := by decide +kernel
theorem dX6_left_37 : decode cX6_left 37 = .ok (.bipush 28, 2) := by decide +kernel
theorem dX6_left_39 : decode cX6_left 39 = .ok (.iload_n 1, 1) := by decide +kernel
theorem dX6_left_40 : decode cX6_left 40 = .ok (.iadd, 1) := by decide +kernel
theorem dX6_left_41 : decode cX6_left 41 = .ok (.iaload, 1) := by decide +kernel
theorem dX6_left_42 : decode cX6_left 42 = .ok (.ireturn, 1) := by decide +kernel
theorem dX6_found_0 : decode cX6_found 0 = .ok (.aload_n 0, 1) := by decide +kernel
theorem dX6_found_1 : decode cX6_found 1 = .ok (.getfield 64, 3) := by decide +kernel
theorem dX6_found_4 : decode cX6_found 4 = .ok (.bipush 31, 2) := by decide +kernel
theorem dX6_found_6 : decode cX6_found 6 = .ok (.imul, 1) := by decide +kernel
theorem dX6_found_7 : decode cX6_found 7 = .ok (.aload_n 0, 1) := by decide +kernel
theorem dX6_found_8 : decode cX6_found 8 = .ok (.getfield 61, 3) := by decide +kernel
theorem dX6_found_11 : decode cX6_found 11 = .ok (.iadd, 1) := by decide +kernel
theorem dX6_found_12 : decode cX6_found 12 = .ok (.ldc 187, 2) := by decide +kernel
theorem dX6_found_14 : decode cX6_found 14 = .ok (.imul, 1) := by decide +kernel
theorem dX6_found_15 : decode cX6_found 15 = .ok (.bipush 19, 2) := by decide +kernel
theorem dX6_found_17 : decode cX6_found 17 = .ok (.iushr, 1) := by decide +kernel
theorem dX6_found_18 : decode cX6_found 18 = .ok (.istore_n 3, 1) := by decide +kernel
theorem dX6_found_19 : decode cX6_found 19 = .ok (.aload_n 0, 1) := by decide +kernel
theorem dX6_found_20 : decode cX6_found 20 = .ok (.getfield 41, 3) := by decide +kernel
theorem dX6_found_23 : decode cX6_found 23 = .ok (.iload_n 3, 1) := by decide +kernel
theorem dX6_found_24 : decode cX6_found 24 = .ok (.iaload, 1) := by decide +kernel
theorem dX6_found_25 : decode cX6_found 25 = .ok (.ifCond .eq 55, 3) := by decide +kernel
theorem dX6_found_28 : decode cX6_found 28 = .ok (.aload_n 0, 1) := by decide +kernel
theorem dX6_found_29 : decode cX6_found 29 = .ok (.getfield 26, 3) := by decide +kernel
theorem dX6_found_32 : decode cX6_found 32 = .ok (.aload_n 0, 1) := by decide +kernel
theorem dX6_found_33 : decode cX6_found 33 = .ok (.getfield 41, 3) := by decide +kernel
theorem dX6_found_36 : decode cX6_found 36 = .ok (.iload_n 3, 1) := by decide +kernel
theorem dX6_found_37 : decode cX6_found 37 = .ok (.iaload, 1) := by decide +kernel
theorem dX6_found_38 : decode cX6_found 38 = .ok (.iconst 1, 1) := by decide +kernel
theorem dX6_found_39 : decode cX6_found 39 = .ok (.isub, 1) := by decide +kernel
theorem dX6_found_40 : decode cX6_found 40 = .ok (.iaload, 1) := by decide +kernel
theorem dX6_found_41 : decode cX6_found 41 = .ok (.aload_n 0, 1) := by decide +kernel
theorem dX6_found_42 : decode cX6_found 42 = .ok (.getfield 64, 3) := by decide +kernel
theorem dX6_found_45 : decode cX6_found 45 = .ok (.if_icmp .ne 24, 3) := by decide +kernel
theorem dX6_found_48 : decode cX6_found 48 = .ok (.aload_n 0, 1) := by decide +kernel
theorem dX6_found_49 : decode cX6_found 49 = .ok (.getfield 29, 3) := by decide +kernel
theorem dX6_found_52 : decode cX6_found 52 = .ok (.aload_n 0, 1) := by decide +kernel
theorem dX6_found_53 : decode cX6_found 53 = .ok (.getfield 41, 3) := by decide +kernel
theorem dX6_found_56 : decode cX6_found 56 = .ok (.iload_n 3, 1) := by decide +kernel
theorem dX6_found_57 : decode cX6_found 57 = .ok (.iaload, 1) := by decide +kernel
theorem dX6_found_58 : decode cX6_found 58 = .ok (.iconst 1, 1) := by decide +kernel
theorem dX6_found_59 : decode cX6_found 59 = .ok (.isub, 1) := by decide +kernel
theorem dX6_found_60 : decode cX6_found 60 = .ok (.iaload, 1) := by decide +kernel
theorem dX6_found_61 : decode cX6_found 61 = .ok (.aload_n 0, 1) := by decide +kernel
theorem dX6_found_62 : decode cX6_found 62 = .ok (.getfield 61, 3) := by decide +kernel
theorem dX6_found_65 : decode cX6_found 65 = .ok (.if_icmp .ne 4, 3) := by decide +kernel
theorem dX6_found_68 : decode cX6_found 68 = .ok (.return_, 1) := by decide +kernel
theorem dX6_found_69 : decode cX6_found 69 = .ok (.iload_n 3, 1) := by decide +kernel
theorem dX6_found_70 : decode cX6_found 70 = .ok (.iconst 1, 1) := by decide +kernel
theorem dX6_found_71 : decode cX6_found 71 = .ok (.iadd, 1) := by decide +kernel
theorem dX6_found_72 : decode cX6_found 72 = .ok (.sipush 8191, 3) := by decide +kernel
theorem dX6_found_75 : decode cX6_found 75 = .ok (.iand, 1) := by decide +kernel
theorem dX6_found_76 : decode cX6_found 76 = .ok (.istore_n 3, 1) := by decide +kernel
theorem dX6_found_77 : decode cX6_found 77 = .ok (.goto (-58), 3) := by decide +kernel
theorem dX6_found_80 : decode cX6_found 80 = .ok (.aload_n 0, 1) := by decide +kernel
theorem dX6_found_81 : decode cX6_found 81 = .ok (.getfield 188, 3) := by decide +kernel
theorem dX6_found_84 : decode cX6_found 84 = .ok (.sipush 4000, 3) := by decide +kernel
theorem dX6_found_87 : decode cX6_found 87 = .ok (.if_icmp .gt 98, 3) := by decide +kernel
theorem dX6_found_90 : decode cX6_found 90 = .ok (.aload_n 0, 1) := by decide +kernel
theorem dX6_found_91 : decode cX6_found 91 = .ok (.getfield 26, 3) := by decide +kernel
theorem dX6_found_94 : decode cX6_found 94 = .ok (.aload_n 0, 1) := by decide +kernel
theorem dX6_found_95 : decode cX6_found 95 = .ok (.getfield 188, 3) := by decide +kernel
theorem dX6_found_98 : decode cX6_found 98 = .ok (.aload_n 0, 1) := by decide +kernel
theorem dX6_found_99 : decode cX6_found 99 = .ok (.getfield 64, 3) := by decide +kernel
theorem dX6_found_102 : decode cX6_found 102 = .ok (.iastore, 1) := by decide +kernel
theorem dX6_found_103 : decode cX6_found 103 = .ok (.aload_n 0, 1) := by decide +kernel
theorem dX6_found_104 : decode cX6_found 104 = .ok (.getfield 29, 3) := by decide +kernel
theorem dX6_found_107 : decode cX6_found 107 = .ok (.aload_n 0, 1) := by decide +kernel
theorem dX6_found_108 : decode cX6_found 108 = .ok (.getfield 188, 3) := by decide +kernel
theorem dX6_found_111 : decode cX6_found 111 = .ok (.aload_n 0, 1) := by decide +kernel
theorem dX6_found_112 : decode cX6_found 112 = .ok (.getfield 61, 3) := by decide +kernel
theorem dX6_found_115 : decode cX6_found 115 = .ok (.iastore, 1) := by decide +kernel
theorem dX6_found_116 : decode cX6_found 116 = .ok (.aload_n 0, 1) := by decide +kernel
theorem dX6_found_117 : decode cX6_found 117 = .ok (.getfield 32, 3) := by decide +kernel
theorem dX6_found_120 : decode cX6_found 120 = .ok (.aload_n 0, 1) := by decide +kernel
theorem dX6_found_121 : decode cX6_found 121 = .ok (.getfield 188, 3) := by decide +kernel
theorem dX6_found_124 : decode cX6_found 124 = .ok (.iload_n 1, 1) := by decide +kernel
theorem dX6_found_125 : decode cX6_found 125 = .ok (.bipush (-9), 2) := by decide +kernel
theorem dX6_found_127 : decode cX6_found 127 = .ok (.if_icmp .ne 7, 3) := by decide +kernel
theorem dX6_found_130 : decode cX6_found 130 = .ok (.iconst 0, 1) := by decide +kernel
theorem dX6_found_131 : decode cX6_found 131 = .ok (.goto 11, 3) := by decide +kernel
theorem dX6_found_134 : decode cX6_found 134 = .ok (.aload_n 0, 1) := by decide +kernel
theorem dX6_found_135 : decode cX6_found 135 = .ok (.getfield 32, 3) := by decide +kernel
theorem dX6_found_138 : decode cX6_found 138 = .ok (.iload_n 1, 1) := by decide +kernel
theorem dX6_found_139 : decode cX6_found 139 = .ok (.iaload, 1) := by decide +kernel
theorem dX6_found_140 : decode cX6_found 140 = .ok (.iconst 1, 1) := by decide +kernel
theorem dX6_found_141 : decode cX6_found 141 = .ok (.iadd, 1) := by decide +kernel
theorem dX6_found_142 : decode cX6_found 142 = .ok (.iastore, 1) := by decide +kernel
theorem dX6_found_143 : decode cX6_found 143 = .ok (.aload_n 0, 1) := by decide +kernel
theorem dX6_found_144 : decode cX6_found 144 = .ok (.getfield 35, 3) := by decide +kernel
theorem dX6_found_147 : decode cX6_found 147 = .ok (.aload_n 0, 1) := by decide +kernel
theorem dX6_found_148 : decode cX6_found 148 = .ok (.getfield 188, 3) := by decide +kernel
theorem dX6_found_151 : decode cX6_found 151 = .ok (.iload_n 1, 1) := by decide +kernel
theorem dX6_found_152 : decode cX6_found 152 = .ok (.iastore, 1) := by decide +kernel
theorem dX6_found_153 : decode cX6_found 153 = .ok (.aload_n 0, 1) := by decide +kernel
theorem dX6_found_154 : decode cX6_found 154 = .ok (.getfield 38, 3) := by decide +kernel
theorem dX6_found_157 : decode cX6_found 157 = .ok (.aload_n 0, 1) := by decide +kernel
theorem dX6_found_158 : decode cX6_found 158 = .ok (.getfield 188, 3) := by decide +kernel
theorem dX6_found_161 : decode cX6_found 161 = .ok (.iload_n 2, 1) := by decide +kernel
theorem dX6_found_162 : decode cX6_found 162 = .ok (.iastore, 1) := by decide +kernel
theorem dX6_found_163 : decode cX6_found 163 = .ok (.aload_n 0, 1) := by decide +kernel
theorem dX6_found_164 : decode cX6_found 164 = .ok (.getfield 41, 3) := by decide +kernel
theorem dX6_found_167 : decode cX6_found 167 = .ok (.iload_n 3, 1) := by decide +kernel
theorem dX6_found_168 : decode cX6_found 168 = .ok (.aload_n 0, 1) := by decide +kernel
theorem dX6_found_169 : decode cX6_found 169 = .ok (.getfield 188, 3) := by decide +kernel
theorem dX6_found_172 : decode cX6_found 172 = .ok (.iconst 1, 1) := by decide +kernel
theorem dX6_found_173 : decode cX6_found 173 = .ok (.iadd, 1) := by decide +kernel
theorem dX6_found_174 : decode cX6_found 174 = .ok (.iastore, 1) := by decide +kernel
theorem dX6_found_175 : decode cX6_found 175 = .ok (.aload_n 0, 1) := by decide +kernel
theorem dX6_found_176 : decode cX6_found 176 = .ok (.dup, 1) := by decide +kernel
theorem dX6_found_177 : decode cX6_found 177 = .ok (.getfield 188, 3) := by decide +kernel
theorem dX6_found_180 : decode cX6_found 180 = .ok (.iconst 1, 1) := by decide +kernel
theorem dX6_found_181 : decode cX6_found 181 = .ok (.iadd, 1) := by decide +kernel
theorem dX6_found_182 : decode cX6_found 182 = .ok (.putfield 188, 3) := by decide +kernel
theorem dX6_found_185 : decode cX6_found 185 = .ok (.return_, 1) := by decide +kernel
set_option maxRecDepth 20000 in
theorem ggX6_findAll_X6_take : GoodIn wsX6_findAll wsX6_take := goodIn_r _ [12, 3, 5, 7, 70, 71, 72, 73, 74, 75, 76, 77, 78, 79, 80, 81, 82, 83, 84, 85, 86, 87, 88, 89, 90, 91, 92, 93, 94, 95, 96, 97, 98, 99, 100, 101, 102, 103] (by decide +kernel) (by decide +kernel)
set_option maxRecDepth 20000 in
theorem gX6_findAll_X6_take : GoodIn wsX6_findAll (wsV RX6 125 RX6 yX6_take wsX6_take) := goodIn_app (goodIn_of _ (by decide +kernel)) ggX6_findAll_X6_take
set_option maxRecDepth 20000 in
theorem ggX6_findAll_X6_found : GoodIn wsX6_findAll wsX6_found := goodIn_r _ [16, 5, 7, 17, 1, 4, 6, 2, 18, 19, 20, 70, 71, 72, 73, 74, 75, 76, 77, 78, 79, 80, 81, 82, 83, 84, 85, 86, 87, 88, 89, 90, 91, 92, 93, 94, 95, 96, 97, 98, 99, 100, 101, 102, 103] (by decide +kernel) (by decide +kernel)
set_option maxRecDepth 20000 in
theorem gX6_findAll_X6_found : GoodIn wsX6_findAll (wsV RX6 191 RX6 yX6_found wsX6_found) := goodIn_app (goodIn_of _ (by decide +kernel)) ggX6_findAll_X6_found
set_option maxRecDepth 20000 in
theorem ggX6_findAll_X6_statusIn : GoodIn wsX6_findAll wsX6_statusIn := goodIn_r _ [24, 7, 70, 71, 72, 73, 74, 75, 76, 77, 78, 79, 80, 81, 82, 83, 84, 85, 86, 87, 88, 89, 90, 91, 92, 93, 94, 95, 96, 97, 98, 99, 100, 101, 102, 103] (by decide +kernel) (by decide +kernel)
set_option maxRecDepth 20000 in
theorem gX6_findAll_X6_statusIn : GoodIn wsX6_findAll (wsV RX6 128 RX6 yX6_statusIn wsX6_statusIn) := goodIn_app (goodIn_of _ (by decide +kernel)) ggX6_findAll_X6_statusIn
set_option maxRecDepth 20000 in
theorem ggX6_findAll_X6_stepOf : GoodIn wsX6_findAll wsX6_stepOf := goodIn_r _ [28, 29, 5, 3, 30, 31, 32, 11, 33, 7, 34, 35, 36, 37, 38, 39, 40, 41, 42, 43, 44, 45, 46, 47, 48, 49, 50, 51, 52, 53, 54, 55, 56, 57, 58, 59, 60, 61, 62, 63, 64, 65, 66, 67, 68, 69, 70, 71, 72, 73, 74, 75, 76, 77, 78, 79, 80, 81, 82, 83, 84, 85, 86, 87, 88, 89, 90, 91, 92, 93, 94, 95, 96, 97, 98, 99, 100, 101, 102, 103] (by decide +kernel) (by decide +kernel)
set_option maxRecDepth 20000 in
theorem gX6_findAll_X6_stepOf : GoodIn wsX6_findAll (wsV RX6 131 RX6 yX6_stepOf wsX6_stepOf) := goodIn_app (goodIn_of _ (by decide +kernel)) ggX6_findAll_X6_stepOf
theorem dX6_findAll_0 : decode cX6_findAll 0 = .ok (.iconst 0, 1) := by decide +kernel
theorem dX6_findAll_1 : decode cX6_findAll 1 = .ok (.istore_n 1, 1) := by decide +kernel
theorem dX6_findAll_2 : decode cX6_findAll 2 = .ok (.iload_n 1, 1) := by decide +kernel
theorem dX6_findAll_3 : decode cX6_findAll 3 = .ok (.sipush 8192, 3) := by decide +kernel
theorem dX6_findAll_6 : decode cX6_findAll 6 = .ok (.if_icmp .ge 16, 3) := by decide +kernel
theorem dX6_findAll_9 : decode cX6_findAll 9 = .ok (.aload_n 0, 1) := by decide +kernel
theorem dX6_findAll_10 : decode cX6_findAll 10 = .ok (.getfield 41, 3) := by decide +kernel
theorem dX6_findAll_13 : decode cX6_findAll 13 = .ok (.iload_n 1, 1) := by decide +kernel
theorem dX6_findAll_14 : decode cX6_findAll 14 = .ok (.iconst 0, 1) := by decide +kernel
theorem dX6_findAll_15 : decode cX6_findAll 15 = .ok (.iastore, 1) := by decide +kernel
theorem dX6_findAll_16 : decode cX6_findAll 16 = .ok (.iinc 1 1, 3) := by decide +kernel
theorem dX6_findAll_19 : decode cX6_findAll 19 = .ok (.goto (-17), 3) := by decide +kernel
theorem dX6_findAll_22 : decode cX6_findAll 22 = .ok (.aload_n 0, 1) := by decide +kernel
theorem dX6_findAll_23 : decode cX6_findAll 23 = .ok (.iconst 0, 1) := by decide +kernel
theorem dX6_findAll_24 : decode cX6_findAll 24 = .ok (.putfield 188, 3) := by decide +kernel
theorem dX6_findAll_27 : decode cX6_findAll 27 = .ok (.aload_n 0, 1) := by decide +kernel
theorem dX6_findAll_28 : decode cX6_findAll 28 = .ok (.invokevirtual 125, 3) := by decide +kernel
theorem dX6_findAll_31 : decode cX6_findAll 31 = .ok (.aload_n 0, 1) := by decide +kernel
theorem dX6_findAll_32 : decode cX6_findAll 32 = .ok (.bipush (-9), 2) := by decide +kernel
theorem dX6_findAll_34 : decode cX6_findAll 34 = .ok (.bipush (-9), 2) := by decide +kernel
theorem dX6_findAll_36 : decode cX6_findAll 36 = .ok (.invokevirtual 191, 3) := by decide +kernel
theorem dX6_findAll_39 : decode cX6_findAll 39 = .ok (.iconst 0, 1) := by decide +kernel
theorem dX6_findAll_40 : decode cX6_findAll 40 = .ok (.istore_n 1, 1) := by decide +kernel
theorem dX6_findAll_41 : decode cX6_findAll 41 = .ok (.iload_n 1, 1) := by decide +kernel
theorem dX6_findAll_42 : decode cX6_findAll 42 = .ok (.aload_n 0, 1) := by decide +kernel
theorem dX6_findAll_43 : decode cX6_findAll 43 = .ok (.getfield 188, 3) := by decide +kernel
theorem dX6_findAll_46 : decode cX6_findAll 46 = .ok (.if_icmp .ge 77, 3) := by decide +kernel
theorem dX6_findAll_49 : decode cX6_findAll 49 = .ok (.aload_n 0, 1) := by decide +kernel
theorem dX6_findAll_50 : decode cX6_findAll 50 = .ok (.getfield 188, 3) := by decide +kernel
theorem dX6_findAll_53 : decode cX6_findAll 53 = .ok (.sipush 4000, 3) := by decide +kernel
theorem dX6_findAll_56 : decode cX6_findAll 56 = .ok (.if_icmp .gt 67, 3) := by decide +kernel
theorem dX6_findAll_59 : decode cX6_findAll 59 = .ok (.iconst 0, 1) := by decide +kernel
theorem dX6_findAll_60 : decode cX6_findAll 60 = .ok (.istore_n 2, 1) := by decide +kernel
theorem dX6_findAll_61 : decode cX6_findAll 61 = .ok (.iload_n 2, 1) := by decide +kernel
theorem dX6_findAll_62 : decode cX6_findAll 62 = .ok (.aload_n 0, 1) := by decide +kernel
theorem dX6_findAll_63 : decode cX6_findAll 63 = .ok (.getfield 7, 3) := by decide +kernel
theorem dX6_findAll_66 : decode cX6_findAll 66 = .ok (.iconst 1, 1) := by decide +kernel
theorem dX6_findAll_67 : decode cX6_findAll 67 = .ok (.iaload, 1) := by decide +kernel
theorem dX6_findAll_68 : decode cX6_findAll 68 = .ok (.if_icmp .ge 49, 3) := by decide +kernel
theorem dX6_findAll_71 : decode cX6_findAll 71 = .ok (.aload_n 0, 1) := by decide +kernel
theorem dX6_findAll_72 : decode cX6_findAll 72 = .ok (.aload_n 0, 1) := by decide +kernel
theorem dX6_findAll_73 : decode cX6_findAll 73 = .ok (.getfield 26, 3) := by decide +kernel
theorem dX6_findAll_76 : decode cX6_findAll 76 = .ok (.iload_n 1, 1) := by decide +kernel
theorem dX6_findAll_77 : decode cX6_findAll 77 = .ok (.iaload, 1) := by decide +kernel
theorem dX6_findAll_78 : decode cX6_findAll 78 = .ok (.putfield 64, 3) := by decide +kernel
theorem dX6_findAll_81 : decode cX6_findAll 81 = .ok (.aload_n 0, 1) := by decide +kernel
theorem dX6_findAll_82 : decode cX6_findAll 82 = .ok (.aload_n 0, 1) := by decide +kernel
theorem dX6_findAll_83 : decode cX6_findAll 83 = .ok (.getfield 29, 3) := by decide +kernel
theorem dX6_findAll_86 : decode cX6_findAll 86 = .ok (.iload_n 1, 1) := by decide +kernel
theorem dX6_findAll_87 : decode cX6_findAll 87 = .ok (.iaload, 1) := by decide +kernel
theorem dX6_findAll_88 : decode cX6_findAll 88 = .ok (.putfield 61, 3) := by decide +kernel
theorem dX6_findAll_91 : decode cX6_findAll 91 = .ok (.aload_n 0, 1) := by decide +kernel
theorem dX6_findAll_92 : decode cX6_findAll 92 = .ok (.iload_n 2, 1) := by decide +kernel
theorem dX6_findAll_93 : decode cX6_findAll 93 = .ok (.invokevirtual 128, 3) := by decide +kernel
theorem dX6_findAll_96 : decode cX6_findAll 96 = .ok (.ifCond .ne 15, 3) := by decide +kernel
theorem dX6_findAll_99 : decode cX6_findAll 99 = .ok (.aload_n 0, 1) := by decide +kernel
theorem dX6_findAll_100 : decode cX6_findAll 100 = .ok (.iload_n 2, 1) := by decide +kernel
theorem dX6_findAll_101 : decode cX6_findAll 101 = .ok (.invokevirtual 131, 3) := by decide +kernel
theorem dX6_findAll_104 : decode cX6_findAll 104 = .ok (.pop, 1) := by decide +kernel
theorem dX6_findAll_105 : decode cX6_findAll 105 = .ok (.aload_n 0, 1) := by decide +kernel
theorem dX6_findAll_106 : decode cX6_findAll 106 = .ok (.iload_n 1, 1) := by decide +kernel
theorem dX6_findAll_107 : decode cX6_findAll 107 = .ok (.iload_n 2, 1) := by decide +kernel
theorem dX6_findAll_108 : decode cX6_findAll 108 = .ok (.invokevirtual 191, 3) := by decide +kernel
theorem dX6_findAll_111 : decode cX6_findAll 111 = .ok (.iinc 2 1, 3) := by decide +kernel
theorem dX6_findAll_114 : decode cX6_findAll 114 = .ok (.goto (-53), 3) := by decide +kernel
theorem dX6_findAll_117 : decode cX6_findAll 117 = .ok (.iinc 1 1, 3) := by decide +kernel
theorem dX6_findAll_120 : decode cX6_findAll 120 = .ok (.goto (-79), 3) := by decide +kernel
theorem dX6_findAll_123 : decode cX6_findAll 123 = .ok (.return_, 1) := by decide +kernel
set_option maxRecDepth 20000 in
theorem ggX6_isFinal_X6_statusIn : GoodIn wsX6_isFinal wsX6_statusIn := goodIn_r _ [6, 7, 8, 9, 10, 11, 12, 13, 14, 15, 16, 17, 18, 19, 20, 21, 22, 23, 24, 25, 26, 27, 28, 29, 30, 31, 32, 33, 34, 35, 36, 37, 38, 39, 40, 41] (by decide +kernel) (by decide +kernel)
set_option maxRecDepth 20000 in
theorem gX6_isFinal_X6_statusIn : GoodIn wsX6_isFinal (wsV RX6 128 RX6 yX6_statusIn wsX6_statusIn) := goodIn_app (goodIn_of _ (by decide +kernel)) ggX6_isFinal_X6_statusIn
theorem dX6_isFinal_0 : decode cX6_isFinal 0 = .ok (.iconst 1, 1) := by decide +kernel
theorem dX6_isFinal_1 : decode cX6_isFinal 1 = .ok (.istore_n 1, 1) := by decide +kernel
theorem dX6_isFinal_2 : decode cX6_isFinal 2 = .ok (.iconst 0, 1) := by decide +kernel
theorem dX6_isFinal_3 : decode cX6_isFinal 3 = .ok (.istore_n 2, 1) := by decide +kernel
theorem dX6_isFinal_4 : decode cX6_isFinal 4 = .ok (.iload_n 2, 1) := by decide +kernel
theorem dX6_isFinal_5 : decode cX6_isFinal 5 = .ok (.aload_n 0, 1) := by decide +kernel
theorem dX6_isFinal_6 : decode cX6_isFinal 6 = .ok (.getfield 7, 3) := by decide +kernel
theorem dX6_isFinal_9 : decode cX6_isFinal 9 = .ok (.iconst 1, 1) := by decide +kernel
theorem dX6_isFinal_10 : decode cX6_isFinal 10 = .ok (.iaload, 1) := by decide +kernel
theorem dX6_isFinal_11 : decode cX6_isFinal 11 = .ok (.if_icmp .ge 27, 3) := by decide +kernel
theorem dX6_isFinal_14 : decode cX6_isFinal 14 = .ok (.iload_n 1, 1) := by decide +kernel
theorem dX6_isFinal_15 : decode cX6_isFinal 15 = .ok (.ifCond .eq 15, 3) := by decide +kernel
theorem dX6_isFinal_18 : decode cX6_isFinal 18 = .ok (.aload_n 0, 1) := by decide +kernel
theorem dX6_isFinal_19 : decode cX6_isFinal 19 = .ok (.iload_n 2, 1) := by decide +kernel
theorem dX6_isFinal_20 : decode cX6_isFinal 20 = .ok (.invokevirtual 128, 3) := by decide +kernel
theorem dX6_isFinal_23 : decode cX6_isFinal 23 = .ok (.ifCond .eq 7, 3) := by decide +kernel
theorem dX6_isFinal_26 : decode cX6_isFinal 26 = .ok (.iconst 1, 1) := by decide +kernel
theorem dX6_isFinal_27 : decode cX6_isFinal 27 = .ok (.goto 4, 3) := by decide +kernel
theorem dX6_isFinal_30 : decode cX6_isFinal 30 = .ok (.iconst 0, 1) := by decide +kernel
theorem dX6_isFinal_31 : decode cX6_isFinal 31 = .ok (.istore_n 1, 1) := by decide +kernel
theorem dX6_isFinal_32 : decode cX6_isFinal 32 = .ok (.iinc 2 1, 3) := by decide +kernel
theorem dX6_isFinal_35 : decode cX6_isFinal 35 = .ok (.goto (-31), 3) := by decide +kernel
theorem dX6_isFinal_38 : decode cX6_isFinal 38 = .ok (.iload_n 1, 1) := by decide +kernel
theorem dX6_isFinal_39 : decode cX6_isFinal 39 = .ok (.ireturn, 1) := by decide +kernel
set_option maxRecDepth 20000 in
theorem ggX6_isViolation_X6_statusIn : GoodIn wsX6_isViolation wsX6_statusIn := goodIn_r _ [6, 7, 12, 13, 14, 15, 16, 17, 18, 19, 20, 21, 22, 23, 24, 25, 26, 27, 28, 29, 30, 31, 32, 33, 34, 35, 36, 37, 38, 39, 40, 41, 42, 43, 44, 45] (by decide +kernel) (by decide +kernel)
set_option maxRecDepth 20000 in
theorem gX6_isViolation_X6_statusIn : GoodIn wsX6_isViolation (wsV RX6 128 RX6 yX6_statusIn wsX6_statusIn) := goodIn_app (goodIn_of _ (by decide +kernel)) ggX6_isViolation_X6_statusIn
set_option maxRecDepth 20000 in
theorem ggX6_isViolation_X6_splitterIn : GoodIn wsX6_isViolation wsX6_splitterIn := goodIn_r _ [11, 7, 12, 13, 14, 15, 16, 17, 18, 19, 20, 21, 22, 23, 24, 25, 26, 27, 28, 29, 30, 31, 32, 33, 34, 35, 36, 37, 38, 39, 40, 41, 42, 43, 44, 45] (by decide +kernel) (by decide +kernel)
set_option maxRecDepth 20000 in
theorem gX6_isViolation_X6_splitterIn : GoodIn wsX6_isViolation (wsV RX6 67 RX6 yX6_splitterIn wsX6_splitterIn) := goodIn_app (goodIn_of _ (by decide +kernel)) ggX6_isViolation_X6_splitterIn
theorem dX6_isViolation_0 : decode cX6_isViolation 0 = .ok (.iconst 0, 1) := by decide +kernel
theorem dX6_isViolation_1 : decode cX6_isViolation 1 = .ok (.istore_n 1, 1) := by decide +kernel
theorem dX6_isViolation_2 : decode cX6_isViolation 2 = .ok (.iconst 0, 1) := by decide +kernel
theorem dX6_isViolation_3 : decode cX6_isViolation 3 = .ok (.istore_n 2, 1) := by decide +kernel
theorem dX6_isViolation_4 : decode cX6_isViolation 4 = .ok (.iload_n 2, 1) := by decide +kernel
theorem dX6_isViolation_5 : decode cX6_isViolation 5 = .ok (.aload_n 0, 1) := by decide +kernel
theorem dX6_isViolation_6 : decode cX6_isViolation 6 = .ok (.getfield 7, 3) := by decide +kernel
theorem dX6_isViolation_9 : decode cX6_isViolation 9 = .ok (.iconst 1, 1) := by decide +kernel
theorem dX6_isViolation_10 : decode cX6_isViolation 10 = .ok (.iaload, 1) := by decide +kernel
theorem dX6_isViolation_11 : decode cX6_isViolation 11 = .ok (.if_icmp .ge 63, 3) := by decide +kernel
theorem dX6_isViolation_14 : decode cX6_isViolation 14 = .ok (.iconst 0, 1) := by decide +kernel
theorem dX6_isViolation_15 : decode cX6_isViolation 15 = .ok (.istore_n 3, 1) := by decide +kernel
theorem dX6_isViolation_16 : decode cX6_isViolation 16 = .ok (.iload_n 3, 1) := by decide +kernel
theorem dX6_isViolation_17 : decode cX6_isViolation 17 = .ok (.iload_n 2, 1) := by decide +kernel
theorem dX6_isViolation_18 : decode cX6_isViolation 18 = .ok (.if_icmp .ge 50, 3) := by decide +kernel
theorem dX6_isViolation_21 : decode cX6_isViolation 21 = .ok (.iload_n 1, 1) := by decide +kernel
theorem dX6_isViolation_22 : decode cX6_isViolation 22 = .ok (.ifCond .ne 34, 3) := by decide +kernel
theorem dX6_isViolation_25 : decode cX6_isViolation 25 = .ok (.aload_n 0, 1) := by decide +kernel
theorem dX6_isViolation_26 : decode cX6_isViolation 26 = .ok (.iload_n 2, 1) := by decide +kernel
theorem dX6_isViolation_27 : decode cX6_isViolation 27 = .ok (.invokevirtual 128, 3) := by decide +kernel
theorem dX6_isViolation_30 : decode cX6_isViolation 30 = .ok (.iconst 1, 1) := by decide +kernel
theorem dX6_isViolation_31 : decode cX6_isViolation 31 = .ok (.if_icmp .ne 29, 3) := by decide +kernel
theorem dX6_isViolation_34 : decode cX6_isViolation 34 = .ok (.aload_n 0, 1) := by decide +kernel
theorem dX6_isViolation_35 : decode cX6_isViolation 35 = .ok (.iload_n 3, 1) := by decide +kernel
theorem dX6_isViolation_36 : decode cX6_isViolation 36 = .ok (.invokevirtual 128, 3) := by decide +kernel
theorem dX6_isViolation_39 : decode cX6_isViolation 39 = .ok (.iconst 1, 1) := by decide +kernel
theorem dX6_isViolation_40 : decode cX6_isViolation 40 = .ok (.if_icmp .ne 20, 3) := by decide +kernel
theorem dX6_isViolation_43 : decode cX6_isViolation 43 = .ok (.aload_n 0, 1) := by decide +kernel
theorem dX6_isViolation_44 : decode cX6_isViolation 44 = .ok (.iload_n 2, 1) := by decide +kernel
theorem dX6_isViolation_45 : decode cX6_isViolation 45 = .ok (.invokevirtual 67, 3) := by decide +kernel
theorem dX6_isViolation_48 : decode cX6_isViolation 48 = .ok (.aload_n 0, 1) := by decide +kernel
theorem dX6_isViolation_49 : decode cX6_isViolation 49 = .ok (.iload_n 3, 1) := by decide +kernel
theorem dX6_isViolation_50 : decode cX6_isViolation 50 = .ok (.invokevirtual 67, 3) := by decide +kernel
theorem dX6_isViolation_53 : decode cX6_isViolation 53 = .ok (.if_icmp .ne 7, 3) := by decide +kernel
theorem dX6_isViolation_56 : decode cX6_isViolation 56 = .ok (.iconst 1, 1) := by decide +kernel
theorem dX6_isViolation_57 : decode cX6_isViolation 57 = .ok (.goto 4, 3) := by decide +kernel
theorem dX6_isViolation_60 : decode cX6_isViolation 60 = .ok (.iconst 0, 1) := by decide +kernel
theorem dX6_isViolation_61 : decode cX6_isViolation 61 = .ok (.istore_n 1, 1) := by decide +kernel
theorem dX6_isViolation_62 : decode cX6_isViolation 62 = .ok (.iinc 3 1, 3) := by decide +kernel
theorem dX6_isViolation_65 : decode cX6_isViolation 65 = .ok (.goto (-49), 3) := by decide +kernel
theorem dX6_isViolation_68 : decode cX6_isViolation 68 = .ok (.iinc 2 1, 3) := by decide +kernel
theorem dX6_isViolation_71 : decode cX6_isViolation 71 = .ok (.goto (-67), 3) := by decide +kernel
theorem dX6_isViolation_74 : decode cX6_isViolation 74 = .ok (.iload_n 1, 1) := by decide +kernel
theorem dX6_isViolation_75 : decode cX6_isViolation 75 = .ok (.ireturn, 1) := by decide +kernel
set_option maxRecDepth 20000 in
theorem ggX6_noteFinal_X6_statusIn : GoodIn wsX6_noteFinal wsX6_statusIn := goodIn_r _ [10, 11, 16, 17, 18, 19, 20, 21, 22, 23, 24, 25, 26, 27, 28, 29, 30, 31, 32, 33, 34, 35, 36, 37, 38, 39, 40, 41, 42, 43, 44, 45, 46, 47, 48, 49] (by decide +kernel) (by decide +kernel)
set_option maxRecDepth 20000 in
theorem gX6_noteFinal_X6_statusIn : GoodIn wsX6_noteFinal (wsV RX6 128 RX6 yX6_statusIn wsX6_statusIn) := goodIn_app (goodIn_of _ (by decide +kernel)) ggX6_noteFinal_X6_statusIn
set_option maxRecDepth 20000 in
theorem ggX6_noteFinal_X6_splitterIn : GoodIn wsX6_noteFinal wsX6_splitterIn := goodIn_r _ [15, 11, 16, 17, 18, 19, 20, 21, 22, 23, 24, 25, 26, 27, 28, 29, 30, 31, 32, 33, 34, 35, 36, 37, 38, 39, 40, 41, 42, 43, 44, 45, 46, 47, 48, 49] (by decide +kernel) (by decide +kernel)
set_option maxRecDepth 20000 in
theorem gX6_noteFinal_X6_splitterIn : GoodIn wsX6_noteFinal (wsV RX6 67 RX6 yX6_splitterIn wsX6_splitterIn) := goodIn_app (goodIn_of _ (by decide +kernel)) ggX6_noteFinal_X6_splitterIn
theorem dX6_noteFinal_0 : decode cX6_noteFinal 0 = .ok (.aload_n 0, 1) := by decide +kernel
theorem dX6_noteFinal_1 : decode cX6_noteFinal 1 = .ok (.dup, 1) := by decide +kernel
theorem dX6_noteFinal_2 : decode cX6_noteFinal 2 = .ok (.getfield 195, 3) := by decide +kernel
theorem dX6_noteFinal_5 : decode cX6_noteFinal 5 = .ok (.iconst 1, 1) := by decide +kernel
theorem dX6_noteFinal_6 : decode cX6_noteFinal 6 = .ok (.iadd, 1) := by decide +kernel
theorem dX6_noteFinal_7 : decode cX6_noteFinal 7 = .ok (.putfield 195, 3) := by decide +kernel
theorem dX6_noteFinal_10 : decode cX6_noteFinal 10 = .ok (.iconst 0, 1) := by decide +kernel
theorem dX6_noteFinal_11 : decode cX6_noteFinal 11 = .ok (.istore_n 1, 1) := by decide +kernel
theorem dX6_noteFinal_12 : decode cX6_noteFinal 12 = .ok (.iconst 0, 1) := by decide +kernel
theorem dX6_noteFinal_13 : decode cX6_noteFinal 13 = .ok (.istore_n 2, 1) := by decide +kernel
theorem dX6_noteFinal_14 : decode cX6_noteFinal 14 = .ok (.iload_n 2, 1) := by decide +kernel
theorem dX6_noteFinal_15 : decode cX6_noteFinal 15 = .ok (.aload_n 0, 1) := by decide +kernel
theorem dX6_noteFinal_16 : decode cX6_noteFinal 16 = .ok (.getfield 7, 3) := by decide +kernel
theorem dX6_noteFinal_19 : decode cX6_noteFinal 19 = .ok (.iconst 1, 1) := by decide +kernel
theorem dX6_noteFinal_20 : decode cX6_noteFinal 20 = .ok (.iaload, 1) := by decide +kernel
theorem dX6_noteFinal_21 : decode cX6_noteFinal 21 = .ok (.if_icmp .ge 68, 3) := by decide +kernel
theorem dX6_noteFinal_24 : decode cX6_noteFinal 24 = .ok (.aload_n 0, 1) := by decide +kernel
theorem dX6_noteFinal_25 : decode cX6_noteFinal 25 = .ok (.iload_n 2, 1) := by decide +kernel
theorem dX6_noteFinal_26 : decode cX6_noteFinal 26 = .ok (.invokevirtual 128, 3) := by decide +kernel
theorem dX6_noteFinal_29 : decode cX6_noteFinal 29 = .ok (.iconst 1, 1) := by decide +kernel
theorem dX6_noteFinal_30 : decode cX6_noteFinal 30 = .ok (.if_icmp .ne 7, 3) := by decide +kernel
theorem dX6_noteFinal_33 : decode cX6_noteFinal 33 = .ok (.iconst 1, 1) := by decide +kernel
theorem dX6_noteFinal_34 : decode cX6_noteFinal 34 = .ok (.goto 4, 3) := by decide +kernel
theorem dX6_noteFinal_37 : decode cX6_noteFinal 37 = .ok (.iconst 0, 1) := by decide +kernel
theorem dX6_noteFinal_38 : decode cX6_noteFinal 38 = .ok (.istore_n 3, 1) := by decide +kernel
theorem dX6_noteFinal_39 : decode cX6_noteFinal 39 = .ok (.bipush 11, 2) := by decide +kernel
theorem dX6_noteFinal_41 : decode cX6_noteFinal 41 = .ok (.iload_n 1, 1) := by decide +kernel
theorem dX6_noteFinal_42 : decode cX6_noteFinal 42 = .ok (.imul, 1) := by decide +kernel
theorem dX6_noteFinal_43 : decode cX6_noteFinal 43 = .ok (.iload_n 3, 1) := by decide +kernel
theorem dX6_noteFinal_44 : decode cX6_noteFinal 44 = .ok (.ifCond .eq 13, 3) := by decide +kernel
theorem dX6_noteFinal_47 : decode cX6_noteFinal 47 = .ok (.aload_n 0, 1) := by decide +kernel
theorem dX6_noteFinal_48 : decode cX6_noteFinal 48 = .ok (.iload_n 2, 1) := by decide +kernel
theorem dX6_noteFinal_49 : decode cX6_noteFinal 49 = .ok (.invokevirtual 67, 3) := by decide +kernel
theorem dX6_noteFinal_52 : decode cX6_noteFinal 52 = .ok (.iconst 1, 1) := by decide +kernel
theorem dX6_noteFinal_53 : decode cX6_noteFinal 53 = .ok (.iadd, 1) := by decide +kernel
theorem dX6_noteFinal_54 : decode cX6_noteFinal 54 = .ok (.goto 4, 3) := by decide +kernel
theorem dX6_noteFinal_57 : decode cX6_noteFinal 57 = .ok (.iconst 0, 1) := by decide +kernel
theorem dX6_noteFinal_58 : decode cX6_noteFinal 58 = .ok (.iadd, 1) := by decide +kernel
theorem dX6_noteFinal_59 : decode cX6_noteFinal 59 = .ok (.istore_n 1, 1) := by decide +kernel
theorem dX6_noteFinal_60 : decode cX6_noteFinal 60 = .ok (.iload_n 3, 1) := by decide +kernel
theorem dX6_noteFinal_61 : decode cX6_noteFinal 61 = .ok (.ifCond .eq 22, 3) := by decide +kernel
theorem dX6_noteFinal_64 : decode cX6_noteFinal 64 = .ok (.aload_n 0, 1) := by decide +kernel
theorem dX6_noteFinal_65 : decode cX6_noteFinal 65 = .ok (.getfield 44, 3) := by decide +kernel
theorem dX6_noteFinal_68 : decode cX6_noteFinal 68 = .ok (.bipush 10, 2) := by decide +kernel
theorem dX6_noteFinal_70 : decode cX6_noteFinal 70 = .ok (.iload_n 2, 1) := by decide +kernel
theorem dX6_noteFinal_71 : decode cX6_noteFinal 71 = .ok (.imul, 1) := by decide +kernel
theorem dX6_noteFinal_72 : decode cX6_noteFinal 72 = .ok (.aload_n 0, 1) := by decide +kernel
theorem dX6_noteFinal_73 : decode cX6_noteFinal 73 = .ok (.iload_n 2, 1) := by decide +kernel
theorem dX6_noteFinal_74 : decode cX6_noteFinal 74 = .ok (.invokevirtual 67, 3) := by decide +kernel
theorem dX6_noteFinal_77 : decode cX6_noteFinal 77 = .ok (.iadd, 1) := by decide +kernel
theorem dX6_noteFinal_78 : decode cX6_noteFinal 78 = .ok (.dup2, 1) := by decide +kernel
theorem dX6_noteFinal_79 : decode cX6_noteFinal 79 = .ok (.iaload, 1) := by decide +kernel
theorem dX6_noteFinal_80 : decode cX6_noteFinal 80 = .ok (.iconst 1, 1) := by decide +kernel
theorem dX6_noteFinal_81 : decode cX6_noteFinal 81 = .ok (.iadd, 1) := by decide +kernel
theorem dX6_noteFinal_82 : decode cX6_noteFinal 82 = .ok (.iastore, 1) := by decide +kernel
theorem dX6_noteFinal_83 : decode cX6_noteFinal 83 = .ok (.iinc 2 1, 3) := by decide +kernel
theorem dX6_noteFinal_86 : decode cX6_noteFinal 86 = .ok (.goto (-72), 3) := by decide +kernel
theorem dX6_noteFinal_89 : decode cX6_noteFinal 89 = .ok (.aload_n 0, 1) := by decide +kernel
theorem dX6_noteFinal_90 : decode cX6_noteFinal 90 = .ok (.dup, 1) := by decide +kernel
theorem dX6_noteFinal_91 : decode cX6_noteFinal 91 = .ok (.getfield 198, 3) := by decide +kernel
theorem dX6_noteFinal_94 : decode cX6_noteFinal 94 = .ok (.aload_n 0, 1) := by decide +kernel
theorem dX6_noteFinal_95 : decode cX6_noteFinal 95 = .ok (.getfield 50, 3) := by decide +kernel
theorem dX6_noteFinal_98 : decode cX6_noteFinal 98 = .ok (.iload_n 1, 1) := by decide +kernel
theorem dX6_noteFinal_99 : decode cX6_noteFinal 99 = .ok (.baload, 1) := by decide +kernel
theorem dX6_noteFinal_100 : decode cX6_noteFinal 100 = .ok (.ifCond .eq 7, 3) := by decide +kernel
theorem dX6_noteFinal_103 : decode cX6_noteFinal 103 = .ok (.iconst 0, 1) := by decide +kernel
theorem dX6_noteFinal_104 : decode cX6_noteFinal 104 = .ok (.goto 4, 3) := by decide +kernel
theorem dX6_noteFinal_107 : decode cX6_noteFinal 107 = .ok (.iconst 1, 1) := by decide +kernel
theorem dX6_noteFinal_108 : decode cX6_noteFinal 108 = .ok (.iadd, 1) := by decide +kernel
theorem dX6_noteFinal_109 : decode cX6_noteFinal 109 = .ok (.putfield 198, 3) := by decide +kernel
theorem dX6_noteFinal_112 : decode cX6_noteFinal 112 = .ok (.aload_n 0, 1) := by decide +kernel
theorem dX6_noteFinal_113 : decode cX6_noteFinal 113 = .ok (.getfield 50, 3) := by decide +kernel
theorem dX6_noteFinal_116 : decode cX6_noteFinal 116 = .ok (.iload_n 1, 1) := by decide +kernel
theorem dX6_noteFinal_117 : decode cX6_noteFinal 117 = .ok (.iconst 1, 1) := by decide +kernel
theorem dX6_noteFinal_118 : decode cX6_noteFinal 118 = .ok (.bastore, 1) := by decide +kernel
theorem dX6_noteFinal_119 : decode cX6_noteFinal 119 = .ok (.return_, 1) := by decide +kernel
theorem dX6_notePath_0 : decode cX6_notePath 0 = .ok (.aload_n 0, 1) := by decide +kernel
theorem dX6_notePath_1 : decode cX6_notePath 1 = .ok (.aload_n 0, 1) := by decide +kernel
theorem dX6_notePath_2 : decode cX6_notePath 2 = .ok (.getfield 32, 3) := by decide +kernel
theorem dX6_notePath_5 : decode cX6_notePath 5 = .ok (.iload_n 1, 1) := by decide +kernel
theorem dX6_notePath_6 : decode cX6_notePath 6 = .ok (.iaload, 1) := by decide +kernel
theorem dX6_notePath_7 : decode cX6_notePath 7 = .ok (.putfield 201, 3) := by decide +kernel
theorem dX6_notePath_10 : decode cX6_notePath 10 = .ok (.iload_n 1, 1) := by decide +kernel
theorem dX6_notePath_11 : decode cX6_notePath 11 = .ok (.istore_n 2, 1) := by decide +kernel
theorem dX6_notePath_12 : decode cX6_notePath 12 = .ok (.aload_n 0, 1) := by decide +kernel
theorem dX6_notePath_13 : decode cX6_notePath 13 = .ok (.getfield 201, 3) := by decide +kernel
theorem dX6_notePath_16 : decode cX6_notePath 16 = .ok (.iconst 1, 1) := by decide +kernel
theorem dX6_notePath_17 : decode cX6_notePath 17 = .ok (.isub, 1) := by decide +kernel
theorem dX6_notePath_18 : decode cX6_notePath 18 = .ok (.istore_n 3, 1) := by decide +kernel
theorem dX6_notePath_19 : decode cX6_notePath 19 = .ok (.iload_n 3, 1) := by decide +kernel
theorem dX6_notePath_20 : decode cX6_notePath 20 = .ok (.ifCond .lt 28, 3) := by decide +kernel
theorem dX6_notePath_23 : decode cX6_notePath 23 = .ok (.aload_n 0, 1) := by decide +kernel
theorem dX6_notePath_24 : decode cX6_notePath 24 = .ok (.getfield 47, 3) := by decide +kernel
theorem dX6_notePath_27 : decode cX6_notePath 27 = .ok (.iload_n 3, 1) := by decide +kernel
theorem dX6_notePath_28 : decode cX6_notePath 28 = .ok (.aload_n 0, 1) := by decide +kernel
theorem dX6_notePath_29 : decode cX6_notePath 29 = .ok (.getfield 38, 3) := by decide +kernel
theorem dX6_notePath_32 : decode cX6_notePath 32 = .ok (.iload_n 2, 1) := by decide +kernel
theorem dX6_notePath_33 : decode cX6_notePath 33 = .ok (.iaload, 1) := by decide +kernel
theorem dX6_notePath_34 : decode cX6_notePath 34 = .ok (.iastore, 1) := by decide +kernel
theorem dX6_notePath_35 : decode cX6_notePath 35 = .ok (.aload_n 0, 1) := by decide +kernel
theorem dX6_notePath_36 : decode cX6_notePath 36 = .ok (.getfield 35, 3) := by decide +kernel
theorem dX6_notePath_39 : decode cX6_notePath 39 = .ok (.iload_n 2, 1) := by decide +kernel
theorem dX6_notePath_40 : decode cX6_notePath 40 = .ok (.iaload, 1) := by decide +kernel
theorem dX6_notePath_41 : decode cX6_notePath 41 = .ok (.istore_n 2, 1) := by decide +kernel
theorem dX6_notePath_42 : decode cX6_notePath 42 = .ok (.iinc 3 (-1), 3) := by decide +kernel
theorem dX6_notePath_45 : decode cX6_notePath 45 = .ok (.goto (-26), 3) := by decide +kernel
theorem dX6_notePath_48 : decode cX6_notePath 48 = .ok (.return_, 1) := by decide +kernel
set_option maxRecDepth 20000 in
theorem ggX6_note_X6_statusIn : GoodIn wsX6_note wsX6_statusIn := goodIn_r _ [14, 4, 43, 44, 45, 46, 47, 48, 49, 50, 51, 52, 53, 54, 55, 56, 57, 58, 59, 60, 61, 62, 63, 64, 65, 66, 67, 68, 69, 70, 71, 72, 73, 74, 75, 76] (by decide +kernel) (by decide +kernel)
set_option maxRecDepth 20000 in
theorem gX6_note_X6_statusIn : GoodIn wsX6_note (wsV RX6 128 RX6 yX6_statusIn wsX6_statusIn) := goodIn_app (goodIn_of _ (by decide +kernel)) ggX6_note_X6_statusIn
set_option maxRecDepth 20000 in
theorem ggX6_note_X6_splitterIn : GoodIn wsX6_note wsX6_splitterIn := goodIn_r _ [18, 4, 43, 44, 45, 46, 47, 48, 49, 50, 51, 52, 53, 54, 55, 56, 57, 58, 59, 60, 61, 62, 63, 64, 65, 66, 67, 68, 69, 70, 71, 72, 73, 74, 75, 76] (by decide +kernel) (by decide +kernel)
set_option maxRecDepth 20000 in
theorem gX6_note_X6_splitterIn : GoodIn wsX6_note (wsV RX6 67 RX6 yX6_splitterIn wsX6_splitterIn) := goodIn_app (goodIn_of _ (by decide +kernel)) ggX6_note_X6_splitterIn
set_option maxRecDepth 20000 in
theorem ggX6_note_X6_isFinal : GoodIn wsX6_note wsX6_isFinal := goodIn_r _ [22, 7, 10, 11, 12, 13, 14, 4, 43, 44, 45, 46, 47, 48, 49, 50, 51, 52, 53, 54, 55, 56, 57, 58, 59, 60, 61, 62, 63, 64, 65, 66, 67, 68, 69, 70, 71, 72, 73, 74, 75, 76] (by decide +kernel) (by decide +kernel)
set_option maxRecDepth 20000 in
theorem gX6_note_X6_isFinal : GoodIn wsX6_note (wsV RX6 210 RX6 yX6_isFinal wsX6_isFinal) := goodIn_app (goodIn_of _ (by decide +kernel)) ggX6_note_X6_isFinal
set_option maxRecDepth 20000 in
theorem ggX6_note_X6_noteFinal : GoodIn wsX6_note wsX6_noteFinal := goodIn_r _ [26, 27, 7, 28, 29, 30, 10, 11, 12, 13, 14, 4, 15, 16, 17, 18, 43, 44, 45, 46, 47, 48, 49, 50, 51, 52, 53, 54, 55, 56, 57, 58, 59, 60, 61, 62, 63, 64, 65, 66, 67, 68, 69, 70, 71, 72, 73, 74, 75, 76] (by decide +kernel) (by decide +kernel)
set_option maxRecDepth 20000 in
theorem gX6_note_X6_noteFinal : GoodIn wsX6_note (wsV RX6 214 RX6 yX6_noteFinal wsX6_noteFinal) := goodIn_app (goodIn_of _ (by decide +kernel)) ggX6_note_X6_noteFinal
set_option maxRecDepth 20000 in
theorem ggX6_note_X6_isViolation : GoodIn wsX6_note wsX6_isViolation := goodIn_r _ [34, 7, 10, 11, 12, 13, 14, 4, 15, 16, 17, 18, 43, 44, 45, 46, 47, 48, 49, 50, 51, 52, 53, 54, 55, 56, 57, 58, 59, 60, 61, 62, 63, 64, 65, 66, 67, 68, 69, 70, 71, 72, 73, 74, 75, 76] (by decide +kernel) (by decide +kernel)
set_option maxRecDepth 20000 in
theorem gX6_note_X6_isViolation : GoodIn wsX6_note (wsV RX6 217 RX6 yX6_isViolation wsX6_isViolation) := goodIn_app (goodIn_of _ (by decide +kernel)) ggX6_note_X6_isViolation
set_option maxRecDepth 20000 in
theorem ggX6_note_X6_notePath : GoodIn wsX6_note wsX6_notePath := goodIn_r _ [38, 5, 39, 40, 41, 42, 43, 44, 45, 46, 47, 48, 49, 50, 51, 52, 53, 54, 55, 56, 57, 58, 59, 60, 61, 62, 63, 64, 65, 66, 67, 68, 69, 70, 71, 72, 73, 74, 75, 76] (by decide +kernel) (by decide +kernel)
set_option maxRecDepth 20000 in
theorem gX6_note_X6_notePath : GoodIn wsX6_note (wsV RX6 223 RX6 yX6_notePath wsX6_notePath) := goodIn_app (goodIn_of _ (by decide +kernel)) ggX6_note_X6_notePath
theorem dX6_note_0 : decode cX6_note 0 = .ok (.aload_n 0, 1) := by decide +kernel
theorem dX6_note_1 : decode cX6_note 1 = .ok (.aload_n 0, 1) := by decide +kernel
theorem dX6_note_2 : decode cX6_note 2 = .ok (.getfield 26, 3) := by decide +kernel
theorem dX6_note_5 : decode cX6_note 5 = .ok (.iload_n 1, 1) := by decide +kernel
theorem dX6_note_6 : decode cX6_note 6 = .ok (.iaload, 1) := by decide +kernel
theorem dX6_note_7 : decode cX6_note 7 = .ok (.putfield 64, 3) := by decide +kernel
theorem dX6_note_10 : decode cX6_note 10 = .ok (.aload_n 0, 1) := by decide +kernel
theorem dX6_note_11 : decode cX6_note 11 = .ok (.aload_n 0, 1) := by decide +kernel
theorem dX6_note_12 : decode cX6_note 12 = .ok (.getfield 29, 3) := by decide +kernel
theorem dX6_note_15 : decode cX6_note 15 = .ok (.iload_n 1, 1) := by decide +kernel
theorem dX6_note_16 : decode cX6_note 16 = .ok (.iaload, 1) := by decide +kernel
theorem dX6_note_17 : decode cX6_note 17 = .ok (.putfield 61, 3) := by decide +kernel
theorem dX6_note_20 : decode cX6_note 20 = .ok (.aload_n 0, 1) := by decide +kernel
theorem dX6_note_21 : decode cX6_note 21 = .ok (.aload_n 0, 1) := by decide +kernel
theorem dX6_note_22 : decode cX6_note 22 = .ok (.getfield 32, 3) := by decide +kernel
theorem dX6_note_25 : decode cX6_note 25 = .ok (.iload_n 1, 1) := by decide +kernel
theorem dX6_note_26 : decode cX6_note 26 = .ok (.iaload, 1) := by decide +kernel
theorem dX6_note_27 : decode cX6_note 27 = .ok (.aload_n 0, 1) := by decide +kernel
theorem dX6_note_28 : decode cX6_note 28 = .ok (.getfield 204, 3) := by decide +kernel
theorem dX6_note_31 : decode cX6_note 31 = .ok (.if_icmp .le 12, 3) := by decide +kernel
theorem dX6_note_34 : decode cX6_note 34 = .ok (.aload_n 0, 1) := by decide +kernel
theorem dX6_note_35 : decode cX6_note 35 = .ok (.getfield 32, 3) := by decide +kernel
theorem dX6_note_38 : decode cX6_note 38 = .ok (.iload_n 1, 1) := by decide +kernel
theorem dX6_note_39 : decode cX6_note 39 = .ok (.iaload, 1) := by decide +kernel
theorem dX6_note_40 : decode cX6_note 40 = .ok (.goto 7, 3) := by decide +kernel
theorem dX6_note_43 : decode cX6_note 43 = .ok (.aload_n 0, 1) := by decide +kernel
theorem dX6_note_44 : decode cX6_note 44 = .ok (.getfield 204, 3) := by decide +kernel
theorem dX6_note_47 : decode cX6_note 47 = .ok (.putfield 204, 3) := by decide +kernel
theorem dX6_note_50 : decode cX6_note 50 = .ok (.iconst 0, 1) := by decide +kernel
theorem dX6_note_51 : decode cX6_note 51 = .ok (.istore_n 2, 1) := by decide +kernel
theorem dX6_note_52 : decode cX6_note 52 = .ok (.iload_n 2, 1) := by decide +kernel
theorem dX6_note_53 : decode cX6_note 53 = .ok (.aload_n 0, 1) := by decide +kernel
theorem dX6_note_54 : decode cX6_note 54 = .ok (.getfield 7, 3) := by decide +kernel
theorem dX6_note_57 : decode cX6_note 57 = .ok (.iconst 1, 1) := by decide +kernel
theorem dX6_note_58 : decode cX6_note 58 = .ok (.iaload, 1) := by decide +kernel
theorem dX6_note_59 : decode cX6_note 59 = .ok (.if_icmp .ge 46, 3) := by decide +kernel
theorem dX6_note_62 : decode cX6_note 62 = .ok (.aload_n 0, 1) := by decide +kernel
theorem dX6_note_63 : decode cX6_note 63 = .ok (.aload_n 0, 1) := by decide +kernel
theorem dX6_note_64 : decode cX6_note 64 = .ok (.iload_n 2, 1) := by decide +kernel
theorem dX6_note_65 : decode cX6_note 65 = .ok (.invokevirtual 128, 3) := by decide +kernel
theorem dX6_note_68 : decode cX6_note 68 = .ok (.iconst 1, 1) := by decide +kernel
theorem dX6_note_69 : decode cX6_note 69 = .ok (.if_icmp .ne 23, 3) := by decide +kernel
theorem dX6_note_72 : decode cX6_note 72 = .ok (.aload_n 0, 1) := by decide +kernel
theorem dX6_note_73 : decode cX6_note 73 = .ok (.iload_n 2, 1) := by decide +kernel
theorem dX6_note_74 : decode cX6_note 74 = .ok (.invokevirtual 67, 3) := by decide +kernel
theorem dX6_note_77 : decode cX6_note 77 = .ok (.aload_n 0, 1) := by decide +kernel
theorem dX6_note_78 : decode cX6_note 78 = .ok (.getfield 207, 3) := by decide +kernel
theorem dX6_note_81 : decode cX6_note 81 = .ok (.if_icmp .le 11, 3) := by decide +kernel
theorem dX6_note_84 : decode cX6_note 84 = .ok (.aload_n 0, 1) := by decide +kernel
theorem dX6_note_85 : decode cX6_note 85 = .ok (.iload_n 2, 1) := by decide +kernel
theorem dX6_note_86 : decode cX6_note 86 = .ok (.invokevirtual 67, 3) := by decide +kernel
theorem dX6_note_89 : decode cX6_note 89 = .ok (.goto 7, 3) := by decide +kernel
theorem dX6_note_92 : decode cX6_note 92 = .ok (.aload_n 0, 1) := by decide +kernel
theorem dX6_note_93 : decode cX6_note 93 = .ok (.getfield 207, 3) := by decide +kernel
theorem dX6_note_96 : decode cX6_note 96 = .ok (.putfield 207, 3) := by decide +kernel
theorem dX6_note_99 : decode cX6_note 99 = .ok (.iinc 2 1, 3) := by decide +kernel
theorem dX6_note_102 : decode cX6_note 102 = .ok (.goto (-50), 3) := by decide +kernel
theorem dX6_note_105 : decode cX6_note 105 = .ok (.aload_n 0, 1) := by decide +kernel
theorem dX6_note_106 : decode cX6_note 106 = .ok (.invokevirtual 210, 3) := by decide +kernel
theorem dX6_note_109 : decode cX6_note 109 = .ok (.ifCond .eq 7, 3) := by decide +kernel
theorem dX6_note_112 : decode cX6_note 112 = .ok (.aload_n 0, 1) := by decide +kernel
theorem dX6_note_113 : decode cX6_note 113 = .ok (.invokevirtual 214, 3) := by decide +kernel
theorem dX6_note_116 : decode cX6_note 116 = .ok (.aload_n 0, 1) := by decide +kernel
theorem dX6_note_117 : decode cX6_note 117 = .ok (.invokevirtual 217, 3) := by decide +kernel
theorem dX6_note_120 : decode cX6_note 120 = .ok (.ifCond .eq 25, 3) := by decide +kernel
theorem dX6_note_123 : decode cX6_note 123 = .ok (.aload_n 0, 1) := by decide +kernel
theorem dX6_note_124 : decode cX6_note 124 = .ok (.getfield 220, 3) := by decide +kernel
theorem dX6_note_127 : decode cX6_note 127 = .ok (.ifCond .ne 8, 3) := by decide +kernel
theorem dX6_note_130 : decode cX6_note 130 = .ok (.aload_n 0, 1) := by decide +kernel
theorem dX6_note_131 : decode cX6_note 131 = .ok (.iload_n 1, 1) := by decide +kernel
theorem dX6_note_132 : decode cX6_note 132 = .ok (.invokevirtual 223, 3) := by decide +kernel
theorem dX6_note_135 : decode cX6_note 135 = .ok (.aload_n 0, 1) := by decide +kernel
theorem dX6_note_136 : decode cX6_note 136 = .ok (.dup, 1) := by decide +kernel
theorem dX6_note_137 : decode cX6_note 137 = .ok (.getfield 220, 3) := by decide +kernel
theorem dX6_note_140 : decode cX6_note 140 = .ok (.iconst 1, 1) := by decide +kernel
theorem dX6_note_141 : decode cX6_note 141 = .ok (.iadd, 1) := by decide +kernel
theorem dX6_note_142 : decode cX6_note 142 = .ok (.putfield 220, 3) := by decide +kernel
theorem dX6_note_145 : decode cX6_note 145 = .ok (.return_, 1) := by decide +kernel
set_option maxRecDepth 20000 in
theorem ggX6_explore_X6_findAll : GoodIn wsX6_explore wsX6_findAll := goodIn_r _ [16, 17, 2, 18, 19, 20, 21, 22, 23, 24, 25, 15, 26, 27, 28, 29, 30, 31, 32, 33, 34, 35, 36, 37, 38, 39, 40, 41, 42, 43, 44, 45, 46, 47, 48, 49, 50, 51, 52, 53, 54, 55, 56, 57, 58, 59, 60, 61, 62, 63, 64, 65, 66, 67, 68, 69, 70, 71, 72, 73, 74, 75, 76, 77, 78, 79, 80, 81, 82, 83, 105, 106, 107, 108, 109, 110, 111, 112, 113, 114, 115, 116, 117, 118, 119, 120, 121, 122, 123, 124, 125, 126, 127, 128, 129, 130, 131, 132, 133, 134, 135, 136, 137, 138] (by decide +kernel) (by decide +kernel)
set_option maxRecDepth 20000 in
theorem gX6_explore_X6_findAll : GoodIn wsX6_explore (wsV RX6 227 RX6 yX6_findAll wsX6_findAll) := goodIn_app (goodIn_of _ (by decide +kernel)) ggX6_explore_X6_findAll
set_option maxRecDepth 20000 in
theorem ggX6_explore_X6_note : GoodIn wsX6_explore wsX6_note := goodIn_r _ [87, 19, 20, 21, 22, 32, 6, 18, 7, 5, 35, 36, 37, 15, 38, 44, 45, 46, 47, 88, 89, 90, 91, 92, 93, 94, 95, 4, 11, 8, 10, 96, 97, 98, 99, 100, 101, 102, 103, 9, 104, 34, 33, 105, 106, 107, 108, 109, 110, 111, 112, 113, 114, 115, 116, 117, 118, 119, 120, 121, 122, 123, 124, 125, 126, 127, 128, 129, 130, 131, 132, 133, 134, 135, 136, 137, 138] (by decide +kernel) (by decide +kernel)
set_option maxRecDepth 20000 in
theorem gX6_explore_X6_note : GoodIn wsX6_explore (wsV RX6 230 RX6 yX6_note wsX6_note) := goodIn_app (goodIn_of _ (by decide +kernel)) ggX6_explore_X6_note
theorem dX6_explore_0 : decode cX6_explore 0 = .ok (.aload_n 0, 1) := by decide +kernel
theorem dX6_explore_1 : decode cX6_explore 1 = .ok (.iconst 0, 1) := by decide +kernel
theorem dX6_explore_2 : decode cX6_explore 2 = .ok (.putfield 57, 3) := by decide +kernel
theorem dX6_explore_5 : decode cX6_explore 5 = .ok (.aload_n 0, 1) := by decide +kernel
theorem dX6_explore_6 : decode cX6_explore 6 = .ok (.invokevirtual 227, 3) := by decide +kernel
theorem dX6_explore_9 : decode cX6_explore 9 = .ok (.aload_n 0, 1) := by decide +kernel
theorem dX6_explore_10 : decode cX6_explore 10 = .ok (.getfield 188, 3) := by decide +kernel
theorem dX6_explore_13 : decode cX6_explore 13 = .ok (.sipush 4000, 3) := by decide +kernel
theorem dX6_explore_16 : decode cX6_explore 16 = .ok (.if_icmp .le 6, 3) := by decide +kernel
theorem dX6_explore_19 : decode cX6_explore 19 = .ok (.bipush (-3), 2) := by decide +kernel
theorem dX6_explore_21 : decode cX6_explore 21 = .ok (.ireturn, 1) := by decide +kernel
theorem dX6_explore_22 : decode cX6_explore 22 = .ok (.aload_n 0, 1) := by decide +kernel
theorem dX6_explore_23 : decode cX6_explore 23 = .ok (.iconst 1, 1) := by decide +kernel
theorem dX6_explore_24 : decode cX6_explore 24 = .ok (.putfield 111, 3) := by decide +kernel
theorem dX6_explore_27 : decode cX6_explore 27 = .ok (.aload_n 0, 1) := by decide +kernel
theorem dX6_explore_28 : decode cX6_explore 28 = .ok (.iconst 0, 1) := by decide +kernel
theorem dX6_explore_29 : decode cX6_explore 29 = .ok (.putfield 195, 3) := by decide +kernel
theorem dX6_explore_32 : decode cX6_explore 32 = .ok (.aload_n 0, 1) := by decide +kernel
theorem dX6_explore_33 : decode cX6_explore 33 = .ok (.iconst 0, 1) := by decide +kernel
theorem dX6_explore_34 : decode cX6_explore 34 = .ok (.putfield 220, 3) := by decide +kernel
theorem dX6_explore_37 : decode cX6_explore 37 = .ok (.aload_n 0, 1) := by decide +kernel
theorem dX6_explore_38 : decode cX6_explore 38 = .ok (.iconst 0, 1) := by decide +kernel
theorem dX6_explore_39 : decode cX6_explore 39 = .ok (.putfield 204, 3) := by decide +kernel
theorem dX6_explore_42 : decode cX6_explore 42 = .ok (.aload_n 0, 1) := by decide +kernel
theorem dX6_explore_43 : decode cX6_explore 43 = .ok (.bipush (-9), 2) := by decide +kernel
theorem dX6_explore_45 : decode cX6_explore 45 = .ok (.putfield 207, 3) := by decide +kernel
theorem dX6_explore_48 : decode cX6_explore 48 = .ok (.aload_n 0, 1) := by decide +kernel
theorem dX6_explore_49 : decode cX6_explore 49 = .ok (.iconst 0, 1) := by decide +kernel
theorem dX6_explore_50 : decode cX6_explore 50 = .ok (.putfield 198, 3) := by decide +kernel
theorem dX6_explore_53 : decode cX6_explore 53 = .ok (.aload_n 0, 1) := by decide +kernel
theorem dX6_explore_54 : decode cX6_explore 54 = .ok (.iconst 0, 1) := by decide +kernel
theorem dX6_explore_55 : decode cX6_explore 55 = .ok (.putfield 201, 3) := by decide +kernel
theorem dX6_explore_58 : decode cX6_explore 58 = .ok (.iconst 0, 1) := by decide +kernel
theorem dX6_explore_59 : decode cX6_explore 59 = .ok (.istore_n 1, 1) := by decide +kernel
theorem dX6_explore_60 : decode cX6_explore 60 = .ok (.iload_n 1, 1) := by decide +kernel
theorem dX6_explore_61 : decode cX6_explore 61 = .ok (.sipush 1331, 3) := by decide +kernel
theorem dX6_explore_64 : decode cX6_explore 64 = .ok (.if_icmp .ge 16, 3) := by decide +kernel
theorem dX6_explore_67 : decode cX6_explore 67 = .ok (.aload_n 0, 1) := by decide +kernel
theorem dX6_explore_68 : decode cX6_explore 68 = .ok (.getfield 50, 3) := by decide +kernel
theorem dX6_explore_71 : decode cX6_explore 71 = .ok (.iload_n 1, 1) := by decide +kernel
theorem dX6_explore_72 : decode cX6_explore 72 = .ok (.iconst 0, 1) := by decide +kernel
theorem dX6_explore_73 : decode cX6_explore 73 = .ok (.bastore, 1) := by decide +kernel
theorem dX6_explore_74 : decode cX6_explore 74 = .ok (.iinc 1 1, 3) := by decide +kernel
theorem dX6_explore_77 : decode cX6_explore 77 = .ok (.goto (-17), 3) := by decide +kernel
theorem dX6_explore_80 : decode cX6_explore 80 = .ok (.iconst 0, 1) := by decide +kernel
theorem dX6_explore_81 : decode cX6_explore 81 = .ok (.istore_n 1, 1) := by decide +kernel
theorem dX6_explore_82 : decode cX6_explore 82 = .ok (.iload_n 1, 1) := by decide +kernel
theorem dX6_explore_83 : decode cX6_explore 83 = .ok (.bipush 30, 2) := by decide +kernel
theorem dX6_explore_85 : decode cX6_explore 85 = .ok (.if_icmp .ge 16, 3) := by decide +kernel
theorem dX6_explore_88 : decode cX6_explore 88 = .ok (.aload_n 0, 1) := by decide +kernel
theorem dX6_explore_89 : decode cX6_explore 89 = .ok (.getfield 44, 3) := by decide +kernel
theorem dX6_explore_92 : decode cX6_explore 92 = .ok (.iload_n 1, 1) := by decide +kernel
theorem dX6_explore_93 : decode cX6_explore 93 = .ok (.iconst 0, 1) := by decide +kernel
theorem dX6_explore_94 : decode cX6_explore 94 = .ok (.iastore, 1) := by decide +kernel
theorem dX6_explore_95 : decode cX6_explore 95 = .ok (.iinc 1 1, 3) := by decide +kernel
theorem dX6_explore_98 : decode cX6_explore 98 = .ok (.goto (-16), 3) := by decide +kernel
theorem dX6_explore_101 : decode cX6_explore 101 = .ok (.iconst 0, 1) := by decide +kernel
theorem dX6_explore_102 : decode cX6_explore 102 = .ok (.istore_n 1, 1) := by decide +kernel
theorem dX6_explore_103 : decode cX6_explore 103 = .ok (.iload_n 1, 1) := by decide +kernel
theorem dX6_explore_104 : decode cX6_explore 104 = .ok (.aload_n 0, 1) := by decide +kernel
theorem dX6_explore_105 : decode cX6_explore 105 = .ok (.getfield 188, 3) := by decide +kernel
theorem dX6_explore_108 : decode cX6_explore 108 = .ok (.if_icmp .ge 14, 3) := by decide +kernel
theorem dX6_explore_111 : decode cX6_explore 111 = .ok (.aload_n 0, 1) := by decide +kernel
theorem dX6_explore_112 : decode cX6_explore 112 = .ok (.iload_n 1, 1) := by decide +kernel
theorem dX6_explore_113 : decode cX6_explore 113 = .ok (.invokevirtual 230, 3) := by decide +kernel
theorem dX6_explore_116 : decode cX6_explore 116 = .ok (.iinc 1 1, 3) := by decide +kernel
theorem dX6_explore_119 : decode cX6_explore 119 = .ok (.goto (-16), 3) := by decide +kernel
theorem dX6_explore_122 : decode cX6_explore 122 = .ok (.aload_n 0, 1) := by decide +kernel
theorem dX6_explore_123 : decode cX6_explore 123 = .ok (.getfield 188, 3) := by decide +kernel
theorem dX6_explore_126 : decode cX6_explore 126 = .ok (.ireturn, 1) := by decide +kernel
theorem dX6_finalCount_0 : decode cX6_finalCount 0 = .ok (.aload_n 0, 1) := by decide +kernel
theorem dX6_finalCount_1 : decode cX6_finalCount 1 = .ok (.iconst 0, 1) := by decide +kernel
theorem dX6_finalCount_2 : decode cX6_finalCount 2 = .ok (.putfield 57, 3) := by decide +kernel
theorem dX6_finalCount_5 : decode cX6_finalCount 5 = .ok (.aload_n 0, 1) := by decide +kernel
theorem dX6_finalCount_6 : decode cX6_finalCount 6 = .ok (.getfield 111, 3) := by decide +kernel
theorem dX6_finalCount_9 : decode cX6_finalCount 9 = .ok (.ifCond .eq 10, 3) := by decide +kernel
theorem dX6_finalCount_12 : decode cX6_finalCount 12 = .ok (.aload_n 0, 1) := by decide +kernel
theorem dX6_finalCount_13 : decode cX6_finalCount 13 = .ok (.getfield 195, 3) := by decide +kernel
theorem dX6_finalCount_16 : decode cX6_finalCount 16 = .ok (.goto 5, 3) := by decide +kernel
theorem dX6_finalCount_19 : decode cX6_finalCount 19 = .ok (.bipush (-2), 2) := by decide +kernel
theorem dX6_finalCount_21 : decode cX6_finalCount 21 = .ok (.ireturn, 1) := by decide +kernel
theorem dX6_violationCount_0 : decode cX6_violationCount 0 = .ok (.aload_n 0, 1) := by decide +kernel
theorem dX6_violationCount_1 : decode cX6_violationCount 1 = .ok (.iconst 0, 1) := by decide +kernel
theorem dX6_violationCount_2 : decode cX6_violationCount 2 = .ok (.putfield 57, 3) := by decide +kernel
theorem dX6_violationCount_5 : decode cX6_violationCount 5 = .ok (.aload_n 0, 1) := by decide +kernel
theorem dX6_violationCount_6 : decode cX6_violationCount 6 = .ok (.getfield 111, 3) := by decide +kernel
theorem dX6_violationCount_9 : decode cX6_violationCount 9 = .ok (.ifCond .eq 10, 3) := by decide +kernel
theorem dX6_violationCount_12 : decode cX6_violationCount 12 = .ok (.aload_n 0, 1) := by decide +kernel
theorem dX6_violationCount_13 : decode cX6_violationCount 13 = .ok (.getfield 220, 3) := by decide +kernel
theorem dX6_violationCount_16 : decode cX6_violationCount 16 = .ok (.goto 5, 3) := by decide +kernel
theorem dX6_violationCount_19 : decode cX6_violationCount 19 = .ok (.bipush (-2), 2) := by decide +kernel
theorem dX6_violationCount_21 : decode cX6_violationCount 21 = .ok (.ireturn, 1) := by decide +kernel
theorem dX6_violationStep_0 : decode cX6_violationStep 0 = .ok (.aload_n 0, 1) := by decide +kernel
theorem dX6_violationStep_1 : decode cX6_violationStep 1 = .ok (.iconst 0, 1) := by decide +kernel
theorem dX6_violationStep_2 : decode cX6_violationStep 2 = .ok (.putfield 57, 3) := by decide +kernel
theorem dX6_violationStep_5 : decode cX6_violationStep 5 = .ok (.iload_n 1, 1) := by decide +kernel
theorem dX6_violationStep_6 : decode cX6_violationStep 6 = .ok (.ifCond .ge 5, 3) := by decide +kernel
theorem dX6_violationStep_9 : decode cX6_violationStep 9 = .ok (.iconst (-1), 1) := by decide +kernel
theorem dX6_violationStep_10 : decode cX6_violationStep 10 = .ok (.ireturn, 1) := by decide +kernel
theorem dX6_violationStep_11 : decode cX6_violationStep 11 = .ok (.aload_n 0, 1) := by decide +kernel
theorem dX6_violationStep_12 : decode cX6_violationStep 12 = .ok (.getfield 111, 3) := by decide +kernel
theorem dX6_violationStep_15 : decode cX6_violationStep 15 = .ok (.ifCond .ne 6, 3) := by decide +kernel
theorem dX6_violationStep_18 : decode cX6_violationStep 18 = .ok (.bipush (-2), 2) := by decide +kernel
theorem dX6_violationStep_20 : decode cX6_violationStep 20 = .ok (.ireturn, 1) := by decide +kernel
theorem dX6_violationStep_21 : decode cX6_violationStep 21 = .ok (.aload_n 0, 1) := by decide +kernel
theorem dX6_violationStep_22 : decode cX6_violationStep 22 = .ok (.getfield 220, 3) := by decide +kernel
theorem dX6_violationStep_25 : decode cX6_violationStep 25 = .ok (.ifCond .le 20, 3) := by decide +kernel
theorem dX6_violationStep_28 : decode cX6_violationStep 28 = .ok (.iload_n 1, 1) := by decide +kernel
theorem dX6_violationStep_29 : decode cX6_violationStep 29 = .ok (.aload_n 0, 1) := by decide +kernel
theorem dX6_violationStep_30 : decode cX6_violationStep 30 = .ok (.getfield 201, 3) := by decide +kernel
theorem dX6_violationStep_33 : decode cX6_violationStep 33 = .ok (.if_icmp .ge 12, 3) := by decide +kernel
theorem dX6_violationStep_36 : decode cX6_violationStep 36 = .ok (.aload_n 0, 1) := by decide +kernel
theorem dX6_violationStep_37 : decode cX6_violationStep 37 = .ok (.getfield 47, 3) := by decide +kernel
theorem dX6_violationStep_40 : decode cX6_violationStep 40 = .ok (.iload_n 1, 1) := by decide +kernel
theorem dX6_violationStep_41 : decode cX6_violationStep 41 = .ok (.iaload, 1) := by decide +kernel
theorem dX6_violationStep_42 : decode cX6_violationStep 42 = .ok (.goto 5, 3) := by decide +kernel
theorem dX6_violationStep_45 : decode cX6_violationStep 45 = .ok (.bipush (-9), 2) := by decide +kernel
theorem dX6_violationStep_47 : decode cX6_violationStep 47 = .ok (.ireturn, 1) := by decide +kernel
theorem dX6_greatestDepth_0 : decode cX6_greatestDepth 0 = .ok (.aload_n 0, 1) := by decide +kernel
theorem dX6_greatestDepth_1 : decode cX6_greatestDepth 1 = .ok (.iconst 0, 1) := by decide +kernel
theorem dX6_greatestDepth_2 : decode cX6_greatestDepth 2 = .ok (.putfield 57, 3) := by decide +kernel
theorem dX6_greatestDepth_5 : decode cX6_greatestDepth 5 = .ok (.aload_n 0, 1) := by decide +kernel
theorem dX6_greatestDepth_6 : decode cX6_greatestDepth 6 = .ok (.getfield 111, 3) := by decide +kernel
theorem dX6_greatestDepth_9 : decode cX6_greatestDepth 9 = .ok (.ifCond .eq 10, 3) := by decide +kernel
theorem dX6_greatestDepth_12 : decode cX6_greatestDepth 12 = .ok (.aload_n 0, 1) := by decide +kernel
theorem dX6_greatestDepth_13 : decode cX6_greatestDepth 13 = .ok (.getfield 204, 3) := by decide +kernel
theorem dX6_greatestDepth_16 : decode cX6_greatestDepth 16 = .ok (.goto 5, 3) := by decide +kernel
theorem dX6_greatestDepth_19 : decode cX6_greatestDepth 19 = .ok (.bipush (-2), 2) := by decide +kernel
theorem dX6_greatestDepth_21 : decode cX6_greatestDepth 21 = .ok (.ireturn, 1) := by decide +kernel
theorem dX6_greatestName_0 : decode cX6_greatestName 0 = .ok (.aload_n 0, 1) := by decide +kernel
theorem dX6_greatestName_1 : decode cX6_greatestName 1 = .ok (.iconst 0, 1) := by decide +kernel
theorem dX6_greatestName_2 : decode cX6_greatestName 2 = .ok (.putfield 57, 3) := by decide +kernel
theorem dX6_greatestName_5 : decode cX6_greatestName 5 = .ok (.aload_n 0, 1) := by decide +kernel
theorem dX6_greatestName_6 : decode cX6_greatestName 6 = .ok (.getfield 111, 3) := by decide +kernel
theorem dX6_greatestName_9 : decode cX6_greatestName 9 = .ok (.ifCond .eq 10, 3) := by decide +kernel
theorem dX6_greatestName_12 : decode cX6_greatestName 12 = .ok (.aload_n 0, 1) := by decide +kernel
theorem dX6_greatestName_13 : decode cX6_greatestName 13 = .ok (.getfield 207, 3) := by decide +kernel
theorem dX6_greatestName_16 : decode cX6_greatestName 16 = .ok (.goto 5, 3) := by decide +kernel
theorem dX6_greatestName_19 : decode cX6_greatestName 19 = .ok (.bipush (-2), 2) := by decide +kernel
theorem dX6_greatestName_21 : decode cX6_greatestName 21 = .ok (.ireturn, 1) := by decide +kernel
theorem dX6_outcomeCount_0 : decode cX6_outcomeCount 0 = .ok (.aload_n 0, 1) := by decide +kernel
theorem dX6_outcomeCount_1 : decode cX6_outcomeCount 1 = .ok (.iconst 0, 1) := by decide +kernel
theorem dX6_outcomeCount_2 : decode cX6_outcomeCount 2 = .ok (.putfield 57, 3) := by decide +kernel
theorem dX6_outcomeCount_5 : decode cX6_outcomeCount 5 = .ok (.aload_n 0, 1) := by decide +kernel
theorem dX6_outcomeCount_6 : decode cX6_outcomeCount 6 = .ok (.getfield 111, 3) := by decide +kernel
theorem dX6_outcomeCount_9 : decode cX6_outcomeCount 9 = .ok (.ifCond .eq 10, 3) := by decide +kernel
theorem dX6_outcomeCount_12 : decode cX6_outcomeCount 12 = .ok (.aload_n 0, 1) := by decide +kernel
theorem dX6_outcomeCount_13 : decode cX6_outcomeCount 13 = .ok (.getfield 198, 3) := by decide +kernel
theorem dX6_outcomeCount_16 : decode cX6_outcomeCount 16 = .ok (.goto 5, 3) := by decide +kernel
theorem dX6_outcomeCount_19 : decode cX6_outcomeCount 19 = .ok (.bipush (-2), 2) := by decide +kernel
theorem dX6_outcomeCount_21 : decode cX6_outcomeCount 21 = .ok (.ireturn, 1) := by decide +kernel
set_option maxRecDepth 20000 in
theorem ggX6_finalsWith_X6_isProcess : GoodIn wsX6_finalsWith wsX6_isProcess := goodIn_r _ [8, 9, 10, 11, 7, 12, 21, 22, 23, 24, 25, 26, 27, 28, 29, 30, 31, 32, 33, 34, 35, 36, 37, 38, 39, 40, 41, 42, 43, 44, 45, 46, 47, 48, 49, 50, 51, 52, 53, 54] (by decide +kernel) (by decide +kernel)
set_option maxRecDepth 20000 in
theorem gX6_finalsWith_X6_isProcess : GoodIn wsX6_finalsWith (wsV RX6 134 RX6 yX6_isProcess wsX6_isProcess) := goodIn_app (goodIn_of _ (by decide +kernel)) ggX6_finalsWith_X6_isProcess
set_option maxRecDepth 20000 in
theorem ggX6_finalsWith_X6_isSplitter : GoodIn wsX6_finalsWith wsX6_isSplitter := goodIn_r _ [16, 17, 18, 19, 7, 20, 9, 10, 11, 12, 21, 22, 23, 24, 25, 26, 27, 28, 29, 30, 31, 32, 33, 34, 35, 36, 37, 38, 39, 40, 41, 42, 43, 44, 45, 46, 47, 48, 49, 50, 51, 52, 53, 54] (by decide +kernel) (by decide +kernel)
set_option maxRecDepth 20000 in
theorem gX6_finalsWith_X6_isSplitter : GoodIn wsX6_finalsWith (wsV RX6 184 RX6 yX6_isSplitter wsX6_isSplitter) := goodIn_app (goodIn_of _ (by decide +kernel)) ggX6_finalsWith_X6_isSplitter
theorem dX6_finalsWith_0 : decode cX6_finalsWith 0 = .ok (.aload_n 0, 1) := by decide +kernel
theorem dX6_finalsWith_1 : decode cX6_finalsWith 1 = .ok (.iconst 0, 1) := by decide +kernel
theorem dX6_finalsWith_2 : decode cX6_finalsWith 2 = .ok (.putfield 57, 3) := by decide +kernel
theorem dX6_finalsWith_5 : decode cX6_finalsWith 5 = .ok (.aload_n 0, 1) := by decide +kernel
theorem dX6_finalsWith_6 : decode cX6_finalsWith 6 = .ok (.iload_n 1, 1) := by decide +kernel
theorem dX6_finalsWith_7 : decode cX6_finalsWith 7 = .ok (.invokevirtual 134, 3) := by decide +kernel
theorem dX6_finalsWith_10 : decode cX6_finalsWith 10 = .ok (.ifCond .eq 11, 3) := by decide +kernel
theorem dX6_finalsWith_13 : decode cX6_finalsWith 13 = .ok (.aload_n 0, 1) := by decide +kernel
theorem dX6_finalsWith_14 : decode cX6_finalsWith 14 = .ok (.iload_n 2, 1) := by decide +kernel
theorem dX6_finalsWith_15 : decode cX6_finalsWith 15 = .ok (.invokevirtual 184, 3) := by decide +kernel
theorem dX6_finalsWith_18 : decode cX6_finalsWith 18 = .ok (.ifCond .ne 5, 3) := by decide +kernel
theorem dX6_finalsWith_21 : decode cX6_finalsWith 21 = .ok (.iconst (-1), 1) := by decide +kernel
theorem dX6_finalsWith_22 : decode cX6_finalsWith 22 = .ok (.ireturn, 1) := by decide +kernel
theorem dX6_finalsWith_23 : decode cX6_finalsWith 23 = .ok (.aload_n 0, 1) := by decide +kernel
theorem dX6_finalsWith_24 : decode cX6_finalsWith 24 = .ok (.getfield 111, 3) := by decide +kernel
theorem dX6_finalsWith_27 : decode cX6_finalsWith 27 = .ok (.ifCond .eq 17, 3) := by decide +kernel
theorem dX6_finalsWith_30 : decode cX6_finalsWith 30 = .ok (.aload_n 0, 1) := by decide +kernel
theorem dX6_finalsWith_31 : decode cX6_finalsWith 31 = .ok (.getfield 44, 3) := by decide +kernel
theorem dX6_finalsWith_34 : decode cX6_finalsWith 34 = .ok (.bipush 10, 2) := by decide +kernel
theorem dX6_finalsWith_36 : decode cX6_finalsWith 36 = .ok (.iload_n 1, 1) := by decide +kernel
theorem dX6_finalsWith_37 : decode cX6_finalsWith 37 = .ok (.imul, 1) := by decide +kernel
theorem dX6_finalsWith_38 : decode cX6_finalsWith 38 = .ok (.iload_n 2, 1) := by decide +kernel
theorem dX6_finalsWith_39 : decode cX6_finalsWith 39 = .ok (.iadd, 1) := by decide +kernel
theorem dX6_finalsWith_40 : decode cX6_finalsWith 40 = .ok (.iaload, 1) := by decide +kernel
theorem dX6_finalsWith_41 : decode cX6_finalsWith 41 = .ok (.goto 5, 3) := by decide +kernel
theorem dX6_finalsWith_44 : decode cX6_finalsWith 44 = .ok (.bipush (-2), 2) := by decide +kernel
theorem dX6_finalsWith_46 : decode cX6_finalsWith 46 = .ok (.ireturn, 1) := by decide +kernel
theorem dX6_undo_0 : decode cX6_undo 0 = .ok (.aload_n 0, 1) := by decide +kernel
theorem dX6_undo_1 : decode cX6_undo 1 = .ok (.iconst 0, 1) := by decide +kernel
theorem dX6_undo_2 : decode cX6_undo 2 = .ok (.putfield 57, 3) := by decide +kernel
theorem dX6_undo_5 : decode cX6_undo 5 = .ok (.aload_n 0, 1) := by decide +kernel
theorem dX6_undo_6 : decode cX6_undo 6 = .ok (.getfield 108, 3) := by decide +kernel
theorem dX6_undo_9 : decode cX6_undo 9 = .ok (.ifCond .ne 6, 3) := by decide +kernel
theorem dX6_undo_12 : decode cX6_undo 12 = .ok (.bipush (-2), 2) := by decide +kernel
theorem dX6_undo_14 : decode cX6_undo 14 = .ok (.ireturn, 1) := by decide +kernel
theorem dX6_undo_15 : decode cX6_undo 15 = .ok (.aload_n 0, 1) := by decide +kernel
theorem dX6_undo_16 : decode cX6_undo 16 = .ok (.dup, 1) := by decide +kernel
theorem dX6_undo_17 : decode cX6_undo 17 = .ok (.getfield 108, 3) := by decide +kernel
theorem dX6_undo_20 : decode cX6_undo 20 = .ok (.iconst 1, 1) := by decide +kernel
theorem dX6_undo_21 : decode cX6_undo 21 = .ok (.isub, 1) := by decide +kernel
theorem dX6_undo_22 : decode cX6_undo 22 = .ok (.putfield 108, 3) := by decide +kernel
theorem dX6_undo_25 : decode cX6_undo 25 = .ok (.iconst 0, 1) := by decide +kernel
theorem dX6_undo_26 : decode cX6_undo 26 = .ok (.istore_n 1, 1) := by decide +kernel
theorem dX6_undo_27 : decode cX6_undo 27 = .ok (.iload_n 1, 1) := by decide +kernel
theorem dX6_undo_28 : decode cX6_undo 28 = .ok (.bipush 38, 2) := by decide +kernel
theorem dX6_undo_30 : decode cX6_undo 30 = .ok (.if_icmp .ge 29, 3) := by decide +kernel
theorem dX6_undo_33 : decode cX6_undo 33 = .ok (.aload_n 0, 1) := by decide +kernel
theorem dX6_undo_34 : decode cX6_undo 34 = .ok (.getfield 7, 3) := by decide +kernel
theorem dX6_undo_37 : decode cX6_undo 37 = .ok (.iload_n 1, 1) := by decide +kernel
theorem dX6_undo_38 : decode cX6_undo 38 = .ok (.aload_n 0, 1) := by decide +kernel
theorem dX6_undo_39 : decode cX6_undo 39 = .ok (.getfield 13, 3) := by decide +kernel
theorem dX6_undo_42 : decode cX6_undo 42 = .ok (.bipush 38, 2) := by decide +kernel
theorem dX6_undo_44 : decode cX6_undo 44 = .ok (.aload_n 0, 1) := by decide +kernel
theorem dX6_undo_45 : decode cX6_undo 45 = .ok (.getfield 108, 3) := by decide +kernel
theorem dX6_undo_48 : decode cX6_undo 48 = .ok (.imul, 1) := by decide +kernel
theorem dX6_undo_49 : decode cX6_undo 49 = .ok (.iload_n 1, 1) := by decide +kernel
theorem dX6_undo_50 : decode cX6_undo 50 = .ok (.iadd, 1) := by decide +kernel
theorem dX6_undo_51 : decode cX6_undo 51 = .ok (.iaload, 1) := by decide +kernel
theorem dX6_undo_52 : decode cX6_undo 52 = .ok (.iastore, 1) := by decide +kernel
theorem dX6_undo_53 : decode cX6_undo 53 = .ok (.iinc 1 1, 3) := by decide +kernel
theorem dX6_undo_56 : decode cX6_undo 56 = .ok (.goto (-29), 3) := by decide +kernel
theorem dX6_undo_59 : decode cX6_undo 59 = .ok (.aload_n 0, 1) := by decide +kernel
theorem dX6_undo_60 : decode cX6_undo 60 = .ok (.iconst 0, 1) := by decide +kernel
theorem dX6_undo_61 : decode cX6_undo 61 = .ok (.putfield 111, 3) := by decide +kernel
theorem dX6_undo_64 : decode cX6_undo 64 = .ok (.aload_n 0, 1) := by decide +kernel
theorem dX6_undo_65 : decode cX6_undo 65 = .ok (.getfield 108, 3) := by decide +kernel
theorem dX6_undo_68 : decode cX6_undo 68 = .ok (.ireturn, 1) := by decide +kernel
set_option maxRecDepth 20000 in
theorem ggX6_save_X6_in : GoodIn wsX6_save wsX6_in := goodIn_r _ [8] (by decide +kernel) (by decide +kernel)
set_option maxRecDepth 20000 in
theorem gX6_save_X6_in : GoodIn wsX6_save (va_wsS RX6 114 yX6_in wsX6_in) := goodIn_app (goodIn_of _ (by decide +kernel)) ggX6_save_X6_in
set_option maxRecDepth 20000 in
theorem ggX6_save_X6_running : GoodIn wsX6_save wsX6_running := goodIn_r _ [12, 3, 13, 14, 15, 7, 16, 17, 18, 19, 20, 21, 22, 23, 24, 25, 26, 27, 28, 29, 30, 31, 32, 33, 34, 35, 36, 37, 38, 39, 40, 41, 42, 43, 44, 45, 46, 47, 48, 49, 50, 51, 52, 53, 54, 55, 56] (by decide +kernel) (by decide +kernel)
set_option maxRecDepth 20000 in
theorem gX6_save_X6_running : GoodIn wsX6_save (wsV RX6 141 RX6 yX6_running wsX6_running) := goodIn_app (goodIn_of _ (by decide +kernel)) ggX6_save_X6_running
theorem dX6_save_0 : decode cX6_save 0 = .ok (.aload_n 0, 1) := by decide +kernel
theorem dX6_save_1 : decode cX6_save 1 = .ok (.iconst 0, 1) := by decide +kernel
theorem dX6_save_2 : decode cX6_save 2 = .ok (.putfield 57, 3) := by decide +kernel
theorem dX6_save_5 : decode cX6_save 5 = .ok (.iload_n 1, 1) := by decide +kernel
theorem dX6_save_6 : decode cX6_save 6 = .ok (.iconst 0, 1) := by decide +kernel
theorem dX6_save_7 : decode cX6_save 7 = .ok (.iconst 1, 1) := by decide +kernel
theorem dX6_save_8 : decode cX6_save 8 = .ok (.invokestatic 114, 3) := by decide +kernel
theorem dX6_save_11 : decode cX6_save 11 = .ok (.ifCond .ne 5, 3) := by decide +kernel
theorem dX6_save_14 : decode cX6_save 14 = .ok (.iconst (-1), 1) := by decide +kernel
theorem dX6_save_15 : decode cX6_save 15 = .ok (.ireturn, 1) := by decide +kernel
theorem dX6_save_16 : decode cX6_save 16 = .ok (.iconst 0, 1) := by decide +kernel
theorem dX6_save_17 : decode cX6_save 17 = .ok (.istore_n 2, 1) := by decide +kernel
theorem dX6_save_18 : decode cX6_save 18 = .ok (.iload_n 2, 1) := by decide +kernel
theorem dX6_save_19 : decode cX6_save 19 = .ok (.bipush 38, 2) := by decide +kernel
theorem dX6_save_21 : decode cX6_save 21 = .ok (.if_icmp .ge 26, 3) := by decide +kernel
theorem dX6_save_24 : decode cX6_save 24 = .ok (.aload_n 0, 1) := by decide +kernel
theorem dX6_save_25 : decode cX6_save 25 = .ok (.getfield 16, 3) := by decide +kernel
theorem dX6_save_28 : decode cX6_save 28 = .ok (.bipush 38, 2) := by decide +kernel
theorem dX6_save_30 : decode cX6_save 30 = .ok (.iload_n 1, 1) := by decide +kernel
theorem dX6_save_31 : decode cX6_save 31 = .ok (.imul, 1) := by decide +kernel
theorem dX6_save_32 : decode cX6_save 32 = .ok (.iload_n 2, 1) := by decide +kernel
theorem dX6_save_33 : decode cX6_save 33 = .ok (.iadd, 1) := by decide +kernel
theorem dX6_save_34 : decode cX6_save 34 = .ok (.aload_n 0, 1) := by decide +kernel
theorem dX6_save_35 : decode cX6_save 35 = .ok (.getfield 7, 3) := by decide +kernel
theorem dX6_save_38 : decode cX6_save 38 = .ok (.iload_n 2, 1) := by decide +kernel
theorem dX6_save_39 : decode cX6_save 39 = .ok (.iaload, 1) := by decide +kernel
theorem dX6_save_40 : decode cX6_save 40 = .ok (.iastore, 1) := by decide +kernel
theorem dX6_save_41 : decode cX6_save 41 = .ok (.iinc 2 1, 3) := by decide +kernel
theorem dX6_save_44 : decode cX6_save 44 = .ok (.goto (-26), 3) := by decide +kernel
theorem dX6_save_47 : decode cX6_save 47 = .ok (.aload_n 0, 1) := by decide +kernel
theorem dX6_save_48 : decode cX6_save 48 = .ok (.getfield 19, 3) := by decide +kernel
theorem dX6_save_51 : decode cX6_save 51 = .ok (.iload_n 1, 1) := by decide +kernel
theorem dX6_save_52 : decode cX6_save 52 = .ok (.iconst 1, 1) := by decide +kernel
theorem dX6_save_53 : decode cX6_save 53 = .ok (.bastore, 1) := by decide +kernel
theorem dX6_save_54 : decode cX6_save 54 = .ok (.aload_n 0, 1) := by decide +kernel
theorem dX6_save_55 : decode cX6_save 55 = .ok (.invokevirtual 141, 3) := by decide +kernel
theorem dX6_save_58 : decode cX6_save 58 = .ok (.ireturn, 1) := by decide +kernel
set_option maxRecDepth 20000 in
theorem ggX6_restore_X6_in : GoodIn wsX6_restore wsX6_in := goodIn_r _ [10] (by decide +kernel) (by decide +kernel)
set_option maxRecDepth 20000 in
theorem gX6_restore_X6_in : GoodIn wsX6_restore (va_wsS RX6 114 yX6_in wsX6_in) := goodIn_app (goodIn_of _ (by decide +kernel)) ggX6_restore_X6_in
set_option maxRecDepth 20000 in
theorem ggX6_restore_X6_running : GoodIn wsX6_restore wsX6_running := goodIn_r _ [14, 3, 15, 16, 17, 9, 18, 19, 20, 21, 22, 23, 24, 25, 26, 27, 28, 29, 30, 31, 32, 33, 34, 35, 36, 37, 38, 39, 40, 41, 42, 43, 44, 45, 46, 47, 48, 49, 50, 51, 52, 53, 54, 55, 56, 57, 58] (by decide +kernel) (by decide +kernel)
set_option maxRecDepth 20000 in
theorem gX6_restore_X6_running : GoodIn wsX6_restore (wsV RX6 141 RX6 yX6_running wsX6_running) := goodIn_app (goodIn_of _ (by decide +kernel)) ggX6_restore_X6_running
theorem dX6_restore_0 : decode cX6_restore 0 = .ok (.aload_n 0, 1) := by decide +kernel
theorem dX6_restore_1 : decode cX6_restore 1 = .ok (.iconst 0, 1) := by decide +kernel
theorem dX6_restore_2 : decode cX6_restore 2 = .ok (.putfield 57, 3) := by decide +kernel
theorem dX6_restore_5 : decode cX6_restore 5 = .ok (.iload_n 1, 1) := by decide +kernel
theorem dX6_restore_6 : decode cX6_restore 6 = .ok (.iconst 0, 1) := by decide +kernel
theorem dX6_restore_7 : decode cX6_restore 7 = .ok (.iconst 1, 1) := by decide +kernel
theorem dX6_restore_8 : decode cX6_restore 8 = .ok (.invokestatic 114, 3) := by decide +kernel
theorem dX6_restore_11 : decode cX6_restore 11 = .ok (.ifCond .ne 5, 3) := by decide +kernel
theorem dX6_restore_14 : decode cX6_restore 14 = .ok (.iconst (-1), 1) := by decide +kernel
theorem dX6_restore_15 : decode cX6_restore 15 = .ok (.ireturn, 1) := by decide +kernel
theorem dX6_restore_16 : decode cX6_restore 16 = .ok (.aload_n 0, 1) := by decide +kernel
theorem dX6_restore_17 : decode cX6_restore 17 = .ok (.getfield 19, 3) := by decide +kernel
theorem dX6_restore_20 : decode cX6_restore 20 = .ok (.iload_n 1, 1) := by decide +kernel
theorem dX6_restore_21 : decode cX6_restore 21 = .ok (.baload, 1) := by decide +kernel
theorem dX6_restore_22 : decode cX6_restore 22 = .ok (.ifCond .ne 6, 3) := by decide +kernel
theorem dX6_restore_25 : decode cX6_restore 25 = .ok (.bipush (-2), 2) := by decide +kernel
theorem dX6_restore_27 : decode cX6_restore 27 = .ok (.ireturn, 1) := by decide +kernel
theorem dX6_restore_28 : decode cX6_restore 28 = .ok (.iconst 0, 1) := by decide +kernel
theorem dX6_restore_29 : decode cX6_restore 29 = .ok (.istore_n 2, 1) := by decide +kernel
theorem dX6_restore_30 : decode cX6_restore 30 = .ok (.iload_n 2, 1) := by decide +kernel
theorem dX6_restore_31 : decode cX6_restore 31 = .ok (.bipush 38, 2) := by decide +kernel
theorem dX6_restore_33 : decode cX6_restore 33 = .ok (.if_icmp .ge 26, 3) := by decide +kernel
theorem dX6_restore_36 : decode cX6_restore 36 = .ok (.aload_n 0, 1) := by decide +kernel
theorem dX6_restore_37 : decode cX6_restore 37 = .ok (.getfield 7, 3) := by decide +kernel
theorem dX6_restore_40 : decode cX6_restore 40 = .ok (.iload_n 2, 1) := by decide +kernel
theorem dX6_restore_41 : decode cX6_restore 41 = .ok (.aload_n 0, 1) := by decide +kernel
theorem dX6_restore_42 : decode cX6_restore 42 = .ok (.getfield 16, 3) := by decide +kernel
theorem dX6_restore_45 : decode cX6_restore 45 = .ok (.bipush 38, 2) := by decide +kernel
theorem dX6_restore_47 : decode cX6_restore 47 = .ok (.iload_n 1, 1) := by decide +kernel
theorem dX6_restore_48 : decode cX6_restore 48 = .ok (.imul, 1) := by decide +kernel
theorem dX6_restore_49 : decode cX6_restore 49 = .ok (.iload_n 2, 1) := by decide +kernel
theorem dX6_restore_50 : decode cX6_restore 50 = .ok (.iadd, 1) := by decide +kernel
theorem dX6_restore_51 : decode cX6_restore 51 = .ok (.iaload, 1) := by decide +kernel
theorem dX6_restore_52 : decode cX6_restore 52 = .ok (.iastore, 1) := by decide +kernel
theorem dX6_restore_53 : decode cX6_restore 53 = .ok (.iinc 2 1, 3) := by decide +kernel
theorem dX6_restore_56 : decode cX6_restore 56 = .ok (.goto (-26), 3) := by decide +kernel
theorem dX6_restore_59 : decode cX6_restore 59 = .ok (.aload_n 0, 1) := by decide +kernel
theorem dX6_restore_60 : decode cX6_restore 60 = .ok (.iconst 0, 1) := by decide +kernel
theorem dX6_restore_61 : decode cX6_restore 61 = .ok (.putfield 108, 3) := by decide +kernel
theorem dX6_restore_64 : decode cX6_restore 64 = .ok (.aload_n 0, 1) := by decide +kernel
theorem dX6_restore_65 : decode cX6_restore 65 = .ok (.iconst 0, 1) := by decide +kernel
theorem dX6_restore_66 : decode cX6_restore 66 = .ok (.putfield 111, 3) := by decide +kernel
theorem dX6_restore_69 : decode cX6_restore 69 = .ok (.aload_n 0, 1) := by decide +kernel
theorem dX6_restore_70 : decode cX6_restore 70 = .ok (.invokevirtual 141, 3) := by decide +kernel
theorem dX6_restore_73 : decode cX6_restore 73 = .ok (.ireturn, 1) := by decide +kernel
theorem dJ13_bitCount_95d88_0 : decode cJ13_bitCount_95d88 0 = .ok (.lload_n 0, 1) := by decide +kernel
theorem dJ13_bitCount_95d88_1 : decode cJ13_bitCount_95d88 1 = .ok (.lload_n 0, 1) := by decide +kernel
theorem dJ13_bitCount_95d88_2 : decode cJ13_bitCount_95d88 2 = .ok (.iconst 1, 1) := by decide +kernel
theorem dJ13_bitCount_95d88_3 : decode cJ13_bitCount_95d88 3 = .ok (.lushr, 1) := by decide +kernel
theorem dJ13_bitCount_95d88_4 : decode cJ13_bitCount_95d88 4 = .ok (.ldc2_w 314, 3) := by decide +kernel
theorem dJ13_bitCount_95d88_7 : decode cJ13_bitCount_95d88 7 = .ok (.land, 1) := by decide +kernel
theorem dJ13_bitCount_95d88_8 : decode cJ13_bitCount_95d88 8 = .ok (.lsub, 1) := by decide +kernel
theorem dJ13_bitCount_95d88_9 : decode cJ13_bitCount_95d88 9 = .ok (.lstore_n 0, 1) := by decide +kernel
theorem dJ13_bitCount_95d88_10 : decode cJ13_bitCount_95d88 10 = .ok (.lload_n 0, 1) := by decide +kernel
theorem dJ13_bitCount_95d88_11 : decode cJ13_bitCount_95d88 11 = .ok (.ldc2_w 316, 3) := by decide +kernel
theorem dJ13_bitCount_95d88_14 : decode cJ13_bitCount_95d88 14 = .ok (.land, 1) := by decide +kernel
theorem dJ13_bitCount_95d88_15 : decode cJ13_bitCount_95d88 15 = .ok (.lload_n 0, 1) := by decide +kernel
theorem dJ13_bitCount_95d88_16 : decode cJ13_bitCount_95d88 16 = .ok (.iconst 2, 1) := by decide +kernel
theorem dJ13_bitCount_95d88_17 : decode cJ13_bitCount_95d88 17 = .ok (.lushr, 1) := by decide +kernel
theorem dJ13_bitCount_95d88_18 : decode cJ13_bitCount_95d88 18 = .ok (.ldc2_w 316, 3) := by decide +kernel
theorem dJ13_bitCount_95d88_21 : decode cJ13_bitCount_95d88 21 = .ok (.land, 1) := by decide +kernel
theorem dJ13_bitCount_95d88_22 : decode cJ13_bitCount_95d88 22 = .ok (.ladd, 1) := by decide +kernel
theorem dJ13_bitCount_95d88_23 : decode cJ13_bitCount_95d88 23 = .ok (.lstore_n 0, 1) := by decide +kernel
theorem dJ13_bitCount_95d88_24 : decode cJ13_bitCount_95d88 24 = .ok (.lload_n 0, 1) := by decide +kernel
theorem dJ13_bitCount_95d88_25 : decode cJ13_bitCount_95d88 25 = .ok (.lload_n 0, 1) := by decide +kernel
theorem dJ13_bitCount_95d88_26 : decode cJ13_bitCount_95d88 26 = .ok (.iconst 4, 1) := by decide +kernel
theorem dJ13_bitCount_95d88_27 : decode cJ13_bitCount_95d88 27 = .ok (.lushr, 1) := by decide +kernel
theorem dJ13_bitCount_95d88_28 : decode cJ13_bitCount_95d88 28 = .ok (.ladd, 1) := by decide +kernel
theorem dJ13_bitCount_95d88_29 : decode cJ13_bitCount_95d88 29 = .ok (.ldc2_w 318, 3) := by decide +kernel
theorem dJ13_bitCount_95d88_32 : decode cJ13_bitCount_95d88 32 = .ok (.land, 1) := by decide +kernel
theorem dJ13_bitCount_95d88_33 : decode cJ13_bitCount_95d88 33 = .ok (.lstore_n 0, 1) := by decide +kernel
theorem dJ13_bitCount_95d88_34 : decode cJ13_bitCount_95d88 34 = .ok (.lload_n 0, 1) := by decide +kernel
theorem dJ13_bitCount_95d88_35 : decode cJ13_bitCount_95d88 35 = .ok (.lload_n 0, 1) := by decide +kernel
theorem dJ13_bitCount_95d88_36 : decode cJ13_bitCount_95d88 36 = .ok (.bipush 8, 2) := by decide +kernel
theorem dJ13_bitCount_95d88_38 : decode cJ13_bitCount_95d88 38 = .ok (.lushr, 1) := by decide +kernel
theorem dJ13_bitCount_95d88_39 : decode cJ13_bitCount_95d88 39 = .ok (.ladd, 1) := by decide +kernel
theorem dJ13_bitCount_95d88_40 : decode cJ13_bitCount_95d88 40 = .ok (.lstore_n 0, 1) := by decide +kernel
theorem dJ13_bitCount_95d88_41 : decode cJ13_bitCount_95d88 41 = .ok (.lload_n 0, 1) := by decide +kernel
theorem dJ13_bitCount_95d88_42 : decode cJ13_bitCount_95d88 42 = .ok (.lload_n 0, 1) := by decide +kernel
theorem dJ13_bitCount_95d88_43 : decode cJ13_bitCount_95d88 43 = .ok (.bipush 16, 2) := by decide +kernel
theorem dJ13_bitCount_95d88_45 : decode cJ13_bitCount_95d88 45 = .ok (.lushr, 1) := by decide +kernel
theorem dJ13_bitCount_95d88_46 : decode cJ13_bitCount_95d88 46 = .ok (.ladd, 1) := by decide +kernel
theorem dJ13_bitCount_95d88_47 : decode cJ13_bitCount_95d88 47 = .ok (.lstore_n 0, 1) := by decide +kernel
theorem dJ13_bitCount_95d88_48 : decode cJ13_bitCount_95d88 48 = .ok (.lload_n 0, 1) := by decide +kernel
theorem dJ13_bitCount_95d88_49 : decode cJ13_bitCount_95d88 49 = .ok (.lload_n 0, 1) := by decide +kernel
theorem dJ13_bitCount_95d88_50 : decode cJ13_bitCount_95d88 50 = .ok (.bipush 32, 2) := by decide +kernel
theorem dJ13_bitCount_95d88_52 : decode cJ13_bitCount_95d88 52 = .ok (.lushr, 1) := by decide +kernel
theorem dJ13_bitCount_95d88_53 : decode cJ13_bitCount_95d88 53 = .ok (.ladd, 1) := by decide +kernel
theorem dJ13_bitCount_95d88_54 : decode cJ13_bitCount_95d88 54 = .ok (.lstore_n 0, 1) := by decide +kernel
theorem dJ13_bitCount_95d88_55 : decode cJ13_bitCount_95d88 55 = .ok (.lload_n 0, 1) := by decide +kernel
theorem dJ13_bitCount_95d88_56 : decode cJ13_bitCount_95d88 56 = .ok (.l2i, 1) := by decide +kernel
theorem dJ13_bitCount_95d88_57 : decode cJ13_bitCount_95d88 57 = .ok (.bipush 127, 2) := by decide +kernel
theorem dJ13_bitCount_95d88_59 : decode cJ13_bitCount_95d88 59 = .ok (.iand, 1) := by decide +kernel
theorem dJ13_bitCount_95d88_60 : decode cJ13_bitCount_95d88 60 = .ok (.ireturn, 1) := by decide +kernel
theorem dJ9_max_7cf53_0 : decode cJ9_max_7cf53 0 = .ok (.iload_n 0, 1) := by decide +kernel
theorem dJ9_max_7cf53_1 : decode cJ9_max_7cf53 1 = .ok (.iload_n 1, 1) := by decide +kernel
theorem dJ9_max_7cf53_2 : decode cJ9_max_7cf53 2 = .ok (.if_icmp .lt 7, 3) := by decide +kernel
theorem dJ9_max_7cf53_5 : decode cJ9_max_7cf53 5 = .ok (.iload_n 0, 1) := by decide +kernel
theorem dJ9_max_7cf53_6 : decode cJ9_max_7cf53 6 = .ok (.goto 4, 3) := by decide +kernel
theorem dJ9_max_7cf53_9 : decode cJ9_max_7cf53 9 = .ok (.iload_n 1, 1) := by decide +kernel
theorem dJ9_max_7cf53_10 : decode cJ9_max_7cf53 10 = .ok (.ireturn, 1) := by decide +kernel
theorem dJ7_fill_d0a16_0 : decode cJ7_fill_d0a16 0 = .ok (.iconst 0, 1) := by decide +kernel
theorem dJ7_fill_d0a16_1 : decode cJ7_fill_d0a16 1 = .ok (.istore_n 3, 1) := by decide +kernel
theorem dJ7_fill_d0a16_2 : decode cJ7_fill_d0a16 2 = .ok (.aload_n 0, 1) := by decide +kernel
theorem dJ7_fill_d0a16_3 : decode cJ7_fill_d0a16 3 = .ok (.arraylength, 1) := by decide +kernel
theorem dJ7_fill_d0a16_4 : decode cJ7_fill_d0a16 4 = .ok (.istore 4, 2) := by decide +kernel
theorem dJ7_fill_d0a16_6 : decode cJ7_fill_d0a16 6 = .ok (.iload_n 3, 1) := by decide +kernel
theorem dJ7_fill_d0a16_7 : decode cJ7_fill_d0a16 7 = .ok (.iload 4, 2) := by decide +kernel
theorem dJ7_fill_d0a16_9 : decode cJ7_fill_d0a16 9 = .ok (.if_icmp .ge 13, 3) := by decide +kernel
theorem dJ7_fill_d0a16_12 : decode cJ7_fill_d0a16 12 = .ok (.aload_n 0, 1) := by decide +kernel
theorem dJ7_fill_d0a16_13 : decode cJ7_fill_d0a16 13 = .ok (.iload_n 3, 1) := by decide +kernel
theorem dJ7_fill_d0a16_14 : decode cJ7_fill_d0a16 14 = .ok (.lload_n 1, 1) := by decide +kernel
theorem dJ7_fill_d0a16_15 : decode cJ7_fill_d0a16 15 = .ok (.lastore, 1) := by decide +kernel
theorem dJ7_fill_d0a16_16 : decode cJ7_fill_d0a16 16 = .ok (.iinc 3 1, 3) := by decide +kernel
theorem dJ7_fill_d0a16_19 : decode cJ7_fill_d0a16 19 = .ok (.goto (-13), 3) := by decide +kernel
theorem dJ7_fill_d0a16_22 : decode cJ7_fill_d0a16 22 = .ok (.return_, 1) := by decide +kernel
theorem dJ7_fill_53178_0 : decode cJ7_fill_53178 0 = .ok (.iconst 0, 1) := by decide +kernel
theorem dJ7_fill_53178_1 : decode cJ7_fill_53178 1 = .ok (.istore_n 2, 1) := by decide +kernel
theorem dJ7_fill_53178_2 : decode cJ7_fill_53178 2 = .ok (.aload_n 0, 1) := by decide +kernel
theorem dJ7_fill_53178_3 : decode cJ7_fill_53178 3 = .ok (.arraylength, 1) := by decide +kernel
theorem dJ7_fill_53178_4 : decode cJ7_fill_53178 4 = .ok (.istore_n 3, 1) := by decide +kernel
theorem dJ7_fill_53178_5 : decode cJ7_fill_53178 5 = .ok (.iload_n 2, 1) := by decide +kernel
theorem dJ7_fill_53178_6 : decode cJ7_fill_53178 6 = .ok (.iload_n 3, 1) := by decide +kernel
theorem dJ7_fill_53178_7 : decode cJ7_fill_53178 7 = .ok (.if_icmp .ge 13, 3) := by decide +kernel
theorem dJ7_fill_53178_10 : decode cJ7_fill_53178 10 = .ok (.aload_n 0, 1) := by decide +kernel
theorem dJ7_fill_53178_11 : decode cJ7_fill_53178 11 = .ok (.iload_n 2, 1) := by decide +kernel
theorem dJ7_fill_53178_12 : decode cJ7_fill_53178 12 = .ok (.iload_n 1, 1) := by decide +kernel
theorem dJ7_fill_53178_13 : decode cJ7_fill_53178 13 = .ok (.iastore, 1) := by decide +kernel
theorem dJ7_fill_53178_14 : decode cJ7_fill_53178 14 = .ok (.iinc 2 1, 3) := by decide +kernel
theorem dJ7_fill_53178_17 : decode cJ7_fill_53178 17 = .ok (.goto (-12), 3) := by decide +kernel
theorem dJ7_fill_53178_20 : decode cJ7_fill_53178 20 = .ok (.return_, 1) := by decide +kernel
end
section
/-! ===== the two forms of contract of this proof, and their rows ===== -/
/-- the array classes, fixed for the whole run -/
abbrev TY (ca : Nat → ClassId) : List (ClassId × FieldType) := [(ca 0, .int), (ca 1, .long), (ca 2, .char), (ca 3, .boolean), (ca 4, .object "RenamingGrid$State")]
/-- a read: the arguments, the cells Wd that are read -/
def rP (D : va_G) (ca : Nat → ClassId) (Wd : va_W) (As : List Value) : Array Value → State → Prop := fun v U => v = As.toArray ∧ va_P D vwCl Wd U.heap ∧ va_K D vwCl (TY ca) U
theorem rP_blind (D : va_G) (ca : Nat → ClassId) (Wd : va_W) (As : List Value) : FrameBlind (rP D ca Wd As) := fun a U g mk q => ⟨q.1, q.2.1, va_K.moved (u := U) (U := U.calling g mk a) (Vm.Alike.refl U.vm) q.2.2⟩
/-- the contract of a read: the answer is r, the heap stays -/
def RD (l : Launch) (D : va_G) (ca : Nat → ClassId) (y : MethodName) (ws : List Cond) (fr lo : Nat) (Wd : va_W) (As : List Value) (r : Value) : Prop :=
  Met l y ws ({ frames := fr, cells := 0, slots := 0, locals := lo }) (rP D ca Wd As) (k2_QcV r) 0 0 (fun _ => False)
/-- an update: the world Wd, apart; the heap's size is sz -/
def uP (D : va_G) (ca : Nat → ClassId) (Wd : va_W) (sz : Nat) (As : List Value) : Array Value → State → Prop := fun v U => v = As.toArray ∧ U.heap.size = sz ∧ va_P D vwCl Wd U.heap ∧ va_K D vwCl (TY ca) U ∧ va_D (fun _ => True) Wd
theorem uP_blind (D : va_G) (ca : Nat → ClassId) (Wd : va_W) (sz : Nat) (As : List Value) : FrameBlind (uP D ca Wd sz As) := fun a U g mk q => ⟨q.1, q.2.1, q.2.2.1, va_K.moved (u := U) (U := U.calling g mk a) (Vm.Alike.refl U.vm) q.2.2.2.1, q.2.2.2.2⟩
def uQA (D : va_G) (ca : Nat → ClassId) (A : Nat → Prop) (Om : Option Value → va_W → Prop) : Array Value → State → Outcome → State → Prop := fun _ st oc t =>
  (∃ (v : Option Value) (W1 : va_W), oc = .returned v ∧ Om v W1 ∧ va_P D vwCl W1 t.heap ∧ va_K D vwCl (TY ca) t ∧ va_D A W1) ∧ va_F A st t
/-- the contract of an update: answer and world behind it as Om says -/
def UP (l : Launch) (D : va_G) (ca : Nat → ClassId) (y : MethodName) (ws : List Cond) (fr lo mc ms : Nat) (Wd : va_W) (As : List Value) (Om : Option Value → va_W → Prop) : Prop :=
  ∀ sz : Nat, Met l y ws ({ frames := fr, cells := mc, slots := ms, locals := lo }) (uP D ca Wd sz As) (uQA D ca (va_A Wd sz) Om) mc ms (va_A Wd sz)
/-- one answer, one world -/
def one (v0 : Option Value) (W0 : va_W) : Option Value → va_W → Prop := fun v W1 => v = v0 ∧ W1 = W0
theorem RD.start {l : Launch} {D : va_G} {ca : Nat → ClassId} {y : MethodName} {ws ws' : List Cond} {fr lo : Nat} {Wd : va_W} {As : List Value} {r : Value} {cc : ByteArray} {maxL : Nat} {ret : Option FieldType}
    (hy : plainName y.cls = true) (hw : ws = Cond.code y cc maxL ret :: ws') (hn : (lg_sl As).length ≤ maxL)
    (body : ∀ (p : Program) (e : Env) (s : State) (m : MethodId) (below : List Frame) (meth : Method) (c : Code), p.tables.exec = Jvm.exec → c.code = cc → c.maxLocals = maxL → meth.sig.returnType = ret → meth.locks = false → s.vm.findClass y.cls = some m.cls → (∀ w ∈ ws, w.before As.toArray s = true) → va_P D vwCl Wd s.heap → va_K D vwCl (TY ca) s → ∀ ls : Array Slot, lv_has ls maxL (lv_args 0 As) →
      W p l e ({ frames := fr, cells := 0, slots := 0, locals := lo }) s m As.toArray below meth c s.heap [] 0 0 (MQ below (k2_QcV r) As.toArray s 0 0 (fun _ => False)) (F0 m 0 ls [])) : RD l D ca y ws fr lo Wd As r := by
  refine Met.ofW (cc := cc) (maxL := maxL) (ret := ret) hy hw ?_
  intro p e s m args below meth c s₁ B hml hv
  obtain ⟨rfl, hP, hK⟩ := hv
  have hts := atoms_spec (ws := ws) B.pre
  have hown : s.vm.findClass y.cls = some m.cls := findClass_of_methodNamed B.named
  have hl := lv_entry As (n := maxL) hn
  rw [lg_entry_eq]
  exact body p e s m below meth c B.exec B.bytes hml B.returns B.notSynchronized hown hts hP hK _ hl
theorem UP.start {l : Launch} {D : va_G} {ca : Nat → ClassId} {y : MethodName} {ws ws' : List Cond} {fr lo mc ms : Nat} {Wd : va_W} {As : List Value} {Om : Option Value → va_W → Prop} {cc : ByteArray} {maxL : Nat} {ret : Option FieldType}
    (hy : plainName y.cls = true) (hw : ws = Cond.code y cc maxL ret :: ws') (hn : (lg_sl As).length ≤ maxL)
    (body : ∀ (p : Program) (e : Env) (s : State) (m : MethodId) (below : List Frame) (meth : Method) (c : Code) (A : Nat → Prop), p.tables.exec = Jvm.exec → c.code = cc → c.maxLocals = maxL → meth.sig.returnType = ret → meth.locks = false → meth.name = y.name → s.vm.findClass y.cls = some m.cls → (∀ w ∈ ws, w.before As.toArray s = true) → va_K D vwCl (TY ca) s → (∀ q : Nat, s.heap.size ≤ q → A q) → va_P D vwCl Wd s.heap → va_D A Wd → va_S A s.heap s.heap [] → ∀ ls : Array Slot, lv_has ls maxL (lv_args 0 As) →
      W p l e ({ frames := fr, cells := mc, slots := ms, locals := lo }) s m As.toArray below meth c s.heap [] 0 0 (MQ below (uQA D ca A Om) As.toArray s mc ms A) (F0 m 0 ls [])) : UP l D ca y ws fr lo mc ms Wd As Om := by
  intro sz
  refine Met.ofW (cc := cc) (maxL := maxL) (ret := ret) hy hw ?_
  intro p e s m args below meth c s₁ B hml hv
  obtain ⟨rfl, hsz, hP, hK, hD0⟩ := hv
  have hts := atoms_spec (ws := ws) B.pre
  have hown : s.vm.findClass y.cls = some m.cls := findClass_of_methodNamed B.named
  have hin : meth.name = y.name := (name_of_methodNamed B.named B.method).1
  subst hsz
  have hl := lv_entry As (n := maxL) hn
  rw [lg_entry_eq]
  exact body p e s m below meth c _ B.exec B.bytes hml B.returns B.notSynchronized hin hown hts hK (fun q h => Or.inr h) hP (hD0.self (sz := s.heap.size)) va_S.rf _ hl
section RU
variable {p : Program} {l : Launch} {e : Env} {R : Room} {s : State} {m : MethodId} {args : Array Value} {below : List Frame} {meth : Method} {c : Code} {H : Heap} {locs : List Loc} {cells slots : Nat} {Q : State → Prop}
variable {cc : ByteArray} {pc : Nat} {ls : Array Slot} {rest : List Value} {D : va_G} {ca : Nat → ClassId} {A : Nat → Prop} {r : Value} {Om : Option Value → va_W → Prop} {mc ms : Nat} {W1 : va_W}
-- the ends of a read
theorem rRetI (hx : p.tables.exec = Jvm.exec) (hb : c.code = cc) (hr : meth.sig.returnType = some .int) (hlocks : meth.locks = false) {v : Int32} (hv : Value.int v = r) (hdg : decode cc pc = .ok (.ireturn, 1)) :
    W p l e R s m args below meth c s.heap [] 0 0 (MQ below (k2_QcV r) args s 0 0 (fun _ => False)) (F0 m pc ls [.int v]) := by
  subst hv
  exact W.iret hx hb hr (fun t ht hW => ⟨rfl, ht⟩) (fun q h => by cases h) hdg hlocks
theorem rRetZ (hx : p.tables.exec = Jvm.exec) (hb : c.code = cc) (hr : meth.sig.returnType = some .boolean) (hlocks : meth.locks = false) {v : Int32} (hn : narrow .boolean (.int v) = .int v) (hv : Value.int v = r) (hdg : decode cc pc = .ok (.ireturn, 1)) :
    W p l e R s m args below meth c s.heap [] 0 0 (MQ below (k2_QcV r) args s 0 0 (fun _ => False)) (F0 m pc ls [.int v]) := by
  subst hv
  exact W.zret hx hb hr hn (fun t ht hW => ⟨rfl, ht⟩) (fun q h => by cases h) hdg hlocks
theorem rRetL (hx : p.tables.exec = Jvm.exec) (hb : c.code = cc) (hr : meth.sig.returnType = some .long) (hlocks : meth.locks = false) {v : Int64} (hv : Value.long v = r) (hdg : decode cc pc = .ok (.lreturn, 1)) :
    W p l e R s m args below meth c s.heap [] 0 0 (MQ below (k2_QcV r) args s 0 0 (fun _ => False)) (F0 m pc ls [.long v]) := by
  subst hv
  exact W.lret hx hb hr (fun t ht hW => ⟨rfl, ht⟩) (fun q h => by cases h) hdg hlocks
-- the ends of an update
theorem uRetV (hx : p.tables.exec = Jvm.exec) (hb : c.code = cc) (hr : meth.sig.returnType = none) (hlocks : meth.locks = false) (hK : va_K D vwCl (TY ca) s) (hP : va_P D vwCl W1 H) (hD : va_D A W1) (hS : va_S A s.heap H locs) (hO : Om none W1) (hc : cells ≤ mc) (hs : slots ≤ ms) (hdg : decode cc pc = .ok (.return_, 1)) :
    W p l e R s m args below meth c H locs cells slots (MQ below (uQA D ca A Om) args s mc ms A) (F0 m pc ls []) := by
  refine W.widen hc hs ?_
  exact W.vret hx hb hr (fun t ht hW => ⟨⟨none, W1, rfl, hO, by rw [ht]; exact hP, va_K.moved hW.alike hK, hD⟩, hS.F ht⟩) hS.2.2 hdg hlocks
theorem uRetI (hx : p.tables.exec = Jvm.exec) (hb : c.code = cc) (hr : meth.sig.returnType = some .int) (hlocks : meth.locks = false) (hK : va_K D vwCl (TY ca) s) (hP : va_P D vwCl W1 H) (hD : va_D A W1) (hS : va_S A s.heap H locs) {v : Int32} (hO : Om (some (.int v)) W1) (hc : cells ≤ mc) (hs : slots ≤ ms) (hdg : decode cc pc = .ok (.ireturn, 1)) :
    W p l e R s m args below meth c H locs cells slots (MQ below (uQA D ca A Om) args s mc ms A) (F0 m pc ls [.int v]) := by
  refine W.widen hc hs ?_
  exact W.iret hx hb hr (fun t ht hW => ⟨⟨_, W1, rfl, hO, by rw [ht]; exact hP, va_K.moved hW.alike hK, hD⟩, hS.F ht⟩) hS.2.2 hdg hlocks
theorem uRetZ (hx : p.tables.exec = Jvm.exec) (hb : c.code = cc) (hr : meth.sig.returnType = some .boolean) (hlocks : meth.locks = false) (hK : va_K D vwCl (TY ca) s) (hP : va_P D vwCl W1 H) (hD : va_D A W1) (hS : va_S A s.heap H locs) {v : Int32} (hn : narrow .boolean (.int v) = .int v) (hO : Om (some (.int v)) W1) (hc : cells ≤ mc) (hs : slots ≤ ms) (hdg : decode cc pc = .ok (.ireturn, 1)) :
    W p l e R s m args below meth c H locs cells slots (MQ below (uQA D ca A Om) args s mc ms A) (F0 m pc ls [.int v]) := by
  refine W.widen hc hs ?_
  exact W.zret hx hb hr hn (fun t ht hW => ⟨⟨_, W1, rfl, hO, by rw [ht]; exact hP, va_K.moved hW.alike hK, hD⟩, hS.F ht⟩) hS.2.2 hdg hlocks
end RU
section RC
variable {p : Program} {l : Launch} {e : Env} {R : Room} {s : State} {m : MethodId} {args : Array Value} {below : List Frame} {meth : Method} {c : Code} {H : Heap} {locs : List Loc} {cells slots : Nat} {Q : State → Prop}
variable {cc : ByteArray} {pc : Nat} {ls : Array Slot} {D : va_G} {ca : Nat → ClassId} {A : Nat → Prop} {Wd W0 W1 wr wsN : va_W} {Ts ws ws' : List Cond} {own : String} {index fr lo mc ms nL maxL : Nat} {y : MethodName} {bytes : ByteArray} {ret : Option FieldType} {st0 st1 : List Value} {r : Value} {Om : Option Value → va_W → Prop} {H0 : Heap}
/-- a static read called -/
theorem rdS (hx : p.tables.exec = Jvm.exec) (hb : c.code = cc) (hml : c.maxLocals = nL) (hown : s.vm.findClass own = some m.cls) (hts : ∀ w ∈ Ts, w.before args s = true) (hK : va_K D vwCl (TY ca) s) (hP : va_P D vwCl W0 H) (As rest : List Value)
    (hM : RD l D ca y ws fr lo Wd As r) (hg : GoodIn Ts (va_wsS own index y ws)) (hw : ws = Cond.code y bytes maxL ret :: ws') (hd : y.cls ≠ "java/lang/invoke/MethodHandle" ∧ y.cls ≠ "java/lang/invoke/VarHandle" ∧ (parseMethodDescriptor y.desc).map (fun d => d.parameters.length) = some As.length)
    (hR : fr + 1 ≤ R.frames ∧ 8 + (maxL + 11) + lo ≤ R.locals) (is : List Nat) (hs : is.filterMap (fun i => W0[i]?) = Wd) (hst : st0 = As.reverse ++ rest) (hsz : ls.size = nL) (hroom : (rest.map fun v => v.category).sum ≤ 8) (hf : cells ≤ R.cells ∧ slots ≤ R.slots) (hdg : decode cc pc = .ok (.invokestatic index, 3))
    (kk : W p l e R s m args below meth c H locs cells slots Q (F0 m (pc + 3) ls (r :: rest))) : W p l e R s m args below meth c H locs cells slots Q (F0 m pc ls st0) := by
  refine W.callV (g := F0 m pc ls st0) (rest := rest) (W.runS (As := As) (rest := rest) (g := F0 m pc ls st0) ⟨hx, hb, hml, hown, hts⟩ hM (va_cwS As.length hts hg hw rfl rfl hd hR) ⟨rP_blind _ _ _ _, fun U hU hW => ⟨rfl, by rw [hU]; exact hP.sub is hs, va_K.moved hW.alike hK⟩⟩ rfl rfl hsz hst (lv_room hroom) hdg hf) ?_
  exact kk
/-- a read of an object called -/
theorem rdV {b q0 ci : Nat} {cq : vw_C} {fs : List Value} (hx : p.tables.exec = Jvm.exec) (hb : c.code = cc) (hml : c.maxLocals = nL) (hown : s.vm.findClass own = some m.cls) (hts : ∀ w ∈ Ts, w.before args s = true) (hK : va_K D vwCl (TY ca) s) (hP : va_P D vwCl W0 H) (As rest : List Value)
    (hM : RD l D ca y ws fr lo Wd (.ref b :: As) r) (hg : GoodIn Ts (wsV own index y.cls y ws)) (hw : ws = Cond.code y bytes maxL ret :: ws') (hd : y.cls = cq.1 ∧ y.cls ≠ "java/lang/invoke/MethodHandle" ∧ y.cls ≠ "java/lang/invoke/VarHandle" ∧ (parseMethodDescriptor y.desc).map (fun d => d.parameters.length) = some As.length)
    (hR : fr + 1 ≤ R.frames ∧ 8 + (maxL + 11) + lo ≤ R.locals) (hc : vwCl[ci]? = some cq) (he : W0[q0]? = some (b, .inr (ci, fs))) (is : List Nat) (hs : is.filterMap (fun i => W0[i]?) = Wd) (hst : st0 = As.reverse ++ .ref b :: rest) (hsz : ls.size = nL) (hroom : (rest.map fun v => v.category).sum ≤ 8) (hf : cells ≤ R.cells ∧ slots ≤ R.slots) (hdg : decode cc pc = .ok (.invokevirtual index, 3))
    (kk : W p l e R s m args below meth c H locs cells slots Q (F0 m (pc + 3) ls (r :: rest))) : W p l e R s m args below meth c H locs cells slots Q (F0 m pc ls st0) := by
  obtain ⟨hd0, hd⟩ := hd
  refine W.callV (g := F0 m pc ls st0) (rest := rest) (W.runV (As := As) (rest := rest) (b := b) (C := y.cls) (g := F0 m pc ls st0) ⟨hx, hb, hml, hown, hts⟩ hM (cwV As.length hts hg hw rfl rfl ⟨rfl, hd⟩ hR) ⟨rP_blind _ _ _ _, by rw [hd0]; exact va_recv hK hP hc he, fun U hU hW => ⟨rfl, by rw [hU]; exact hP.sub is hs, va_K.moved hW.alike hK⟩⟩ rfl rfl hsz hst (lv_room hroom) hdg hf) ?_
  exact kk
/-- behind an update: its run, and what goes on -/
theorem uAfter {sz : Nat} {rest : List Value} {aa : Array Value} (hD : va_D A W0) (hP : va_P D vwCl W0 H) (hS : va_S A H0 H locs) (hA : ∀ q, H0.size ≤ q → A q) (isC isR : List Nat) (hC : isC.map (fun i => W0[i]?) = Wd.map some) (hRr : isR.map (fun i => W0[i]?) = wr.map some) (hn : va_nd isR = true) (hdis : ∀ i ∈ isR, i ∉ isC) (hz : H.size = sz)
    (hr : va_Run p l e R s m args below meth c H locs cells slots mc ms (F0 m pc ls st0) rest (uQA D ca (va_A Wd sz) Om aa) (va_A Wd sz))
    (kk : ∀ (v : Option Value) (W1 : va_W) (H1 : Heap) (locs1 : List Loc), Om v W1 → va_P D vwCl (wr ++ W1) H1 → va_D A (wr ++ W1) → va_S A H0 H1 locs1 → W p l e R s m args below meth c H1 locs1 (cells + mc) (slots + ms) Q (F0 m (pc + 3) ls (v.toList ++ rest))) : W p l e R s m args below meth c H locs cells slots Q (F0 m pc ls st0) := by
  subst hz
  intro T hT X
  obtain ⟨v, st₀, t, T', L, h0, X', hL, e1, e2, ⟨⟨v', W1, hv, hO, hP1, hK1, hD1⟩, hz, hk⟩, st⟩ := hr T hT X
  cases hv
  rw [h0] at hz hk
  have hF := va_free (wc := Wd) hD hS hA isC hC
  rw [← e1] at hP1 hz hk
  obtain ⟨hPj, hDj⟩ := va_join (wr := wr) (w1 := W1) hP hD isC isR hC hRr hn hdis hk hF hP1 hD1
  obtain ⟨t2, a1, b1⟩ := kk v W1 T'.heap (locs ++ L) hO hPj hDj
    ⟨Nat.le_trans hS.1 hz, fun q h1 h2 => by rw [hk q (Nat.lt_of_lt_of_le h1 hS.1) (fun z => h2 (hF q z))]; exact hS.2.1 q h1 h2, fun q hq => by
      rcases List.mem_append.mp hq with h | h
      · exact hS.2.2 q h
      · exact hF _ (hL q h)⟩ T' rfl X'
  exact ⟨t2, st t2 a1, b1⟩
theorem uV {b q0 ci : Nat} {cq : vw_C} {fs : List Value} (hx : p.tables.exec = Jvm.exec) (hb : c.code = cc) (hml : c.maxLocals = nL) (hown : s.vm.findClass own = some m.cls) (hts : ∀ w ∈ Ts, w.before args s = true) (hK : va_K D vwCl (TY ca) s) (hA : ∀ q, H0.size ≤ q → A q) (hP : va_P D vwCl W0 H) (hD : va_D A W0) (hS : va_S A H0 H locs) (As rest : List Value)
    (hM : UP l D ca y ws fr lo mc ms Wd (.ref b :: As) Om) (hg : GoodIn Ts (wsV own index y.cls y ws)) (hw : ws = Cond.code y bytes maxL ret :: ws') (hd : y.cls = cq.1 ∧ y.cls ≠ "java/lang/invoke/MethodHandle" ∧ y.cls ≠ "java/lang/invoke/VarHandle" ∧ (parseMethodDescriptor y.desc).map (fun d => d.parameters.length) = some As.length)
    (hR : fr + 1 ≤ R.frames ∧ 8 + (maxL + 11) + lo ≤ R.locals) (hc : vwCl[ci]? = some cq) (he : W0[q0]? = some (b, .inr (ci, fs))) (isC isR : List Nat) (hC : isC.map (fun i => W0[i]?) = Wd.map some) (hRr : isR.map (fun i => W0[i]?) = wr.map some) (hnd : va_nd isC = true ∧ va_nd isR = true) (hdis : ∀ i ∈ isR, i ∉ isC)
    (hst : st0 = As.reverse ++ .ref b :: rest) (hsz : ls.size = nL) (hroom : (rest.map fun v => v.category).sum ≤ 8) (hf : cells + mc ≤ R.cells ∧ slots + ms ≤ R.slots) (hdg : decode cc pc = .ok (.invokevirtual index, 3))
    (kk : ∀ (v : Option Value) (W1 : va_W) (H1 : Heap) (locs1 : List Loc), Om v W1 → va_P D vwCl (wr ++ W1) H1 → va_D A (wr ++ W1) → va_S A H0 H1 locs1 → W p l e R s m args below meth c H1 locs1 (cells + mc) (slots + ms) Q (F0 m (pc + 3) ls (v.toList ++ rest))) : W p l e R s m args below meth c H locs cells slots Q (F0 m pc ls st0) := by
  obtain ⟨hd0, hd⟩ := hd
  have hs : isC.filterMap (fun i => W0[i]?) = Wd := by
    have h1 : isC.filterMap (fun i => W0[i]?) = (isC.map (fun i => W0[i]?)).filterMap id := by rw [List.filterMap_map]; rfl
    rw [h1, hC, List.filterMap_map]
    exact List.filterMap_some
  refine uAfter (sz := H.size) hD hP hS hA isC isR hC hRr hnd.2 hdis rfl (va_runV (As := As) (rest := rest) (b := b) (C := y.cls) (g := F0 m pc ls st0) ⟨hx, hb, hml, hown, hts⟩ (hM H.size) (cwV As.length hts hg hw rfl rfl ⟨rfl, hd⟩ hR) ⟨uP_blind _ _ _ _ _, by rw [hd0]; exact va_recv hK hP hc he, fun U hU hW => ⟨rfl, by rw [hU], by rw [hU]; exact hP.sub isC hs, va_K.moved hW.alike hK, (hD.sub isC hnd.1 hC).weaken (fun _ _ _ _ => trivial)⟩⟩ rfl rfl hsz hst (lv_room hroom) hdg hf) kk
theorem uS (hx : p.tables.exec = Jvm.exec) (hb : c.code = cc) (hml : c.maxLocals = nL) (hown : s.vm.findClass own = some m.cls) (hts : ∀ w ∈ Ts, w.before args s = true) (hK : va_K D vwCl (TY ca) s) (hA : ∀ q, H0.size ≤ q → A q) (hP : va_P D vwCl W0 H) (hD : va_D A W0) (hS : va_S A H0 H locs) (As rest : List Value)
    (hM : UP l D ca y ws fr lo mc ms Wd As Om) (hg : GoodIn Ts (va_wsS own index y ws)) (hw : ws = Cond.code y bytes maxL ret :: ws') (hd : y.cls ≠ "java/lang/invoke/MethodHandle" ∧ y.cls ≠ "java/lang/invoke/VarHandle" ∧ (parseMethodDescriptor y.desc).map (fun d => d.parameters.length) = some As.length)
    (hR : fr + 1 ≤ R.frames ∧ 8 + (maxL + 11) + lo ≤ R.locals) (isC isR : List Nat) (hC : isC.map (fun i => W0[i]?) = Wd.map some) (hRr : isR.map (fun i => W0[i]?) = wr.map some) (hnd : va_nd isC = true ∧ va_nd isR = true) (hdis : ∀ i ∈ isR, i ∉ isC)
    (hst : st0 = As.reverse ++ rest) (hsz : ls.size = nL) (hroom : (rest.map fun v => v.category).sum ≤ 8) (hf : cells + mc ≤ R.cells ∧ slots + ms ≤ R.slots) (hdg : decode cc pc = .ok (.invokestatic index, 3))
    (kk : ∀ (v : Option Value) (W1 : va_W) (H1 : Heap) (locs1 : List Loc), Om v W1 → va_P D vwCl (wr ++ W1) H1 → va_D A (wr ++ W1) → va_S A H0 H1 locs1 → W p l e R s m args below meth c H1 locs1 (cells + mc) (slots + ms) Q (F0 m (pc + 3) ls (v.toList ++ rest))) : W p l e R s m args below meth c H locs cells slots Q (F0 m pc ls st0) := by
  have hs : isC.filterMap (fun i => W0[i]?) = Wd := by
    have h1 : isC.filterMap (fun i => W0[i]?) = (isC.map (fun i => W0[i]?)).filterMap id := by rw [List.filterMap_map]; rfl
    rw [h1, hC, List.filterMap_map]
    exact List.filterMap_some
  refine uAfter (sz := H.size) hD hP hS hA isC isR hC hRr hnd.2 hdis rfl (va_runS (As := As) (rest := rest) (g := F0 m pc ls st0) ⟨hx, hb, hml, hown, hts⟩ (hM H.size) (va_cwS As.length hts hg hw rfl rfl hd hR) ⟨uP_blind _ _ _ _ _, fun U hU hW => ⟨rfl, by rw [hU], by rw [hU]; exact hP.sub isC hs, va_K.moved hW.alike hK, (hD.sub isC hnd.1 hC).weaken (fun _ _ _ _ => trivial)⟩⟩ rfl rfl hsz hst (lv_room hroom) hdg hf) kk
/-- a constructor called on a new object -/
theorem uI {b : Nat} (hx : p.tables.exec = Jvm.exec) (hb : c.code = cc) (hml : c.maxLocals = nL) (hown : s.vm.findClass own = some m.cls) (hts : ∀ w ∈ Ts, w.before args s = true) (hK : va_K D vwCl (TY ca) s) (hA : ∀ q, H0.size ≤ q → A q) (hP : va_P D vwCl W0 H) (hD : va_D A W0) (hS : va_S A H0 H locs) (As rest : List Value)
    (hM : UP l D ca y ws fr lo mc ms Wd (.ref b :: As) Om) (hg : GoodIn Ts ws) (hw : ws = Cond.code y bytes maxL none :: ws') (hini : (Cond.initialized y.cls).before args s = true) (hlk : (Cond.methodLink own index y).before args s = true) (hinm : (Cond.instanceMethod y).before args s = true) (hy1 : y.name = "<init>") (hd : y.cls ≠ "java/lang/invoke/MethodHandle" ∧ y.cls ≠ "java/lang/invoke/VarHandle" ∧ (parseMethodDescriptor y.desc).map (fun d => d.parameters.length) = some As.length)
    (hR : fr + 1 ≤ R.frames ∧ 8 + (maxL + 11) + lo ≤ R.locals) (isC isR : List Nat) (hC : isC.map (fun i => W0[i]?) = Wd.map some) (hRr : isR.map (fun i => W0[i]?) = wr.map some) (hnd : va_nd isC = true ∧ va_nd isR = true) (hdis : ∀ i ∈ isR, i ∉ isC)
    (hst : st0 = As.reverse ++ .ref b :: rest) (hsz : ls.size = nL) (hroom : (rest.map fun v => v.category).sum ≤ 8) (hf : cells + mc ≤ R.cells ∧ slots + ms ≤ R.slots) (hdg : decode cc pc = .ok (.invokespecial index, 3))
    (kk : ∀ (v : Option Value) (W1 : va_W) (H1 : Heap) (locs1 : List Loc), Om v W1 → va_P D vwCl (wr ++ W1) H1 → va_D A (wr ++ W1) → va_S A H0 H1 locs1 → W p l e R s m args below meth c H1 locs1 (cells + mc) (slots + ms) Q (F0 m (pc + 3) ls (v.toList ++ rest))) : W p l e R s m args below meth c H locs cells slots Q (F0 m pc ls st0) := by
  have hs : isC.filterMap (fun i => W0[i]?) = Wd := by
    have h1 : isC.filterMap (fun i => W0[i]?) = (isC.map (fun i => W0[i]?)).filterMap id := by rw [List.filterMap_map]; rfl
    rw [h1, hC, List.filterMap_map]
    exact List.filterMap_some
  refine uAfter (sz := H.size) hD hP hS hA isC isR hC hRr hnd.2 hdis rfl (va_runI (As := As) (rest := rest) (b := b) (g := F0 m pc ls st0) ⟨hx, hb, hml, hown, hts⟩ (hM H.size) (cwI As.length hts hg hw rfl rfl hini hlk hinm hy1 hd hR) ⟨uP_blind _ _ _ _ _, fun U hU hW => ⟨rfl, by rw [hU], by rw [hU]; exact hP.sub isC hs, va_K.moved hW.alike hK, (hD.sub isC hnd.1 hC).weaken (fun _ _ _ _ => trivial)⟩⟩ rfl rfl hsz hst (lv_room hroom) hdg hf) kk
/-- one answer, one world: the cells in their old order again -/
theorem oneK {v0 : Option Value} {W2 : va_W} {rest st1 : List Value} (perm : List Nat) (hnd : va_nd perm = true) (hp : perm.map (fun i => (wr ++ W2)[i]?) = wsN.map some) (hst1 : v0.toList ++ rest = st1) (cells1 slots1 : Nat) (hc : cells = cells1) (hsl : slots = slots1)
    (kk : ∀ (H1 : Heap) (locs1 : List Loc), va_P D vwCl wsN H1 → va_D A wsN → va_S A H0 H1 locs1 → W p l e R s m args below meth c H1 locs1 cells1 slots1 Q (F0 m pc ls st1)) :
    ∀ (v : Option Value) (W1 : va_W) (H1 : Heap) (locs1 : List Loc), one v0 W2 v W1 → va_P D vwCl (wr ++ W1) H1 → va_D A (wr ++ W1) → va_S A H0 H1 locs1 → W p l e R s m args below meth c H1 locs1 cells slots Q (F0 m pc ls (v.toList ++ rest)) := by
  intro v W1 H1 locs1 hO hP hD hS
  obtain ⟨rfl, rfl⟩ := hO
  subst hst1; subst hc; subst hsl
  have hs : perm.filterMap (fun i => (wr ++ W1)[i]?) = wsN := by
    have h1 : perm.filterMap (fun i => (wr ++ W1)[i]?) = (perm.map (fun i => (wr ++ W1)[i]?)).filterMap id := by rw [List.filterMap_map]; rfl
    rw [h1, hp, List.filterMap_map]
    exact List.filterMap_some
  exact kk H1 locs1 (hP.sub perm hs) (hD.sub perm hnd hp) hS
end RC
end
section
/-! ===== lN n to 2^64: shifts, and, or, masks, one bit ===== -/
theorem wb_tb (n : Nat) : (lN n).toBitVec = BitVec.ofNat 64 n := rfl
theorem wb_inj {a b : Int64} (h : a.toBitVec = b.toBitVec) : a = b := Int64.toBitVec_inj.mp h
theorem wb_tn {n : Nat} (h : n < 2 ^ 64) : (lN n).toBitVec.toNat = n := by rw [wb_tb, BitVec.toNat_ofNat, Nat.mod_eq_of_lt h]
theorem wb_of (x : Int64) : ∃ n, n < 2 ^ 64 ∧ x = lN n := ⟨x.toBitVec.toNat, x.toBitVec.isLt, wb_inj (by rw [wb_tb]; simp)⟩
theorem wb_of32 (x : Int32) : ∃ n, n < 2 ^ 32 ∧ x = nI n := ⟨x.toBitVec.toNat, x.toBitVec.isLt, Int32.toBitVec_inj.mp (by show _ = BitVec.ofNat 32 _; simp)⟩
theorem wb_c : ∀ k, k < 64 → ((nI k).toInt64 &&& 63) = lN k := by decide +kernel
theorem wb_cu : ∀ k, k < 64 → ((nI k).toInt64.toUInt64 &&& Int64.toUInt64 63) = UInt64.ofNat k := by decide +kernel
theorem wb_sm : ∀ k, k < 64 → (BitVec.ofNat 64 k).smod 64 = BitVec.ofNat 64 k := by decide +kernel
theorem wb_pw {a b : Nat} (h : a ≤ b) : 2 ^ b = 2 ^ a * 2 ^ (b - a) := by rw [← Nat.pow_add]; congr 1; omega
theorem wb_lt2 {a b : Nat} (h : a < b) : 2 ^ a < 2 ^ b := Nat.pow_lt_pow_right (by decide) h
theorem wb_mod (n : Nat) : lN n = lN (n % 2 ^ 64) := wb_inj (by rw [wb_tb, wb_tb]; apply BitVec.eq_of_toNat_eq; rw [BitVec.toNat_ofNat, BitVec.toNat_ofNat, Nat.mod_mod])
theorem wb_shr {n k : Nat} (hn : n < 2 ^ 64) (hk : k < 64) : ((lN n).toUInt64 >>> ((nI k).toInt64.toUInt64 &&& Int64.toUInt64 63)).toInt64 = lN (n / 2 ^ k) := by
  rw [wb_cu k hk]
  apply wb_inj
  apply BitVec.eq_of_toNat_eq
  show ((lN n).toUInt64 >>> UInt64.ofNat k).toNat = (BitVec.ofNat 64 _).toNat
  have h1 : (UInt64.ofNat k).toNat = k := by
    show (BitVec.ofNat 64 k).toNat = k
    rw [BitVec.toNat_ofNat, Nat.mod_eq_of_lt (by omega)]
  have h2 : (lN n).toUInt64.toNat = n := wb_tn hn
  rw [UInt64.toNat_shiftRight, h1, h2, Nat.mod_eq_of_lt hk, Nat.shiftRight_eq_div_pow, BitVec.toNat_ofNat, Nat.mod_eq_of_lt (Nat.lt_of_le_of_lt (Nat.div_le_self _ _) hn)]
theorem wb_shl (n : Nat) {k : Nat} (hk : k < 64) : lN n <<< ((nI k).toInt64 &&& 63) = lN (n * 2 ^ k) := by
  rw [wb_c k hk]
  apply wb_inj
  rw [Int64.toBitVec_shiftLeft, wb_tb, wb_tb, wb_tb, wb_sm k hk]
  apply BitVec.eq_of_toNat_eq
  rw [BitVec.shiftLeft_eq', BitVec.toNat_shiftLeft, BitVec.toNat_ofNat, BitVec.toNat_ofNat, BitVec.toNat_ofNat, Nat.mod_eq_of_lt (show k < 2 ^ 64 by omega), Nat.shiftLeft_eq, Nat.mul_mod, Nat.mod_mod, ← Nat.mul_mod]
theorem wb_and {a b : Nat} (ha : a < 2 ^ 64) (hb : b < 2 ^ 64) : lN a &&& lN b = lN (a &&& b) := by
  apply wb_inj
  rw [Int64.toBitVec_and, wb_tb, wb_tb, wb_tb]
  apply BitVec.eq_of_toNat_eq
  rw [BitVec.toNat_and, BitVec.toNat_ofNat, BitVec.toNat_ofNat, BitVec.toNat_ofNat, Nat.mod_eq_of_lt ha, Nat.mod_eq_of_lt hb, Nat.mod_eq_of_lt (Nat.and_lt_two_pow _ hb)]
theorem wb_or {a b : Nat} (ha : a < 2 ^ 64) (hb : b < 2 ^ 64) : lN a ||| lN b = lN (a ||| b) := by
  apply wb_inj
  rw [Int64.toBitVec_or, wb_tb, wb_tb, wb_tb]
  apply BitVec.eq_of_toNat_eq
  rw [BitVec.toNat_or, BitVec.toNat_ofNat, BitVec.toNat_ofNat, BitVec.toNat_ofNat, Nat.mod_eq_of_lt ha, Nat.mod_eq_of_lt hb, Nat.mod_eq_of_lt (Nat.or_lt_two_pow ha hb)]
theorem wb_mask {n k : Nat} (hn : n < 2 ^ 64) (hk : k < 64) : lN n &&& lN (2 ^ k - 1) = lN (n % 2 ^ k) := by
  rw [wb_and hn (by have := wb_lt2 hk; omega), Nat.and_two_pow_sub_one_eq_mod]
theorem wb_a1 {n : Nat} (hn : n < 2 ^ 64) : lN n &&& 1 = lN (n % 2) := wb_mask (k := 1) hn (by decide)
theorem wb_bit {n k : Nat} (hn : n < 2 ^ 64) (hk : k < 64) : ((lN n).toUInt64 >>> ((nI k).toInt64.toUInt64 &&& Int64.toUInt64 63)).toInt64 &&& 1 = lN (n / 2 ^ k % 2) := by
  rw [wb_shr hn hk, wb_a1 (Nat.lt_of_le_of_lt (Nat.div_le_self _ _) hn)]
theorem wb_xor {q k : Nat} (hk : k < 63) (h : 2 ^ k ≤ q) (h2 : q < 2 ^ (k + 1)) : lN q ^^^ lN (2 ^ k) = lN (q - 2 ^ k) := by
  obtain ⟨r, rfl⟩ : ∃ r, q = 2 ^ k + r := ⟨q - 2 ^ k, by omega⟩
  have hr : r < 2 ^ k := by rw [Nat.pow_succ] at h2; omega
  have hx : (2 ^ k + r) ^^^ 2 ^ k = r := by
    apply Nat.eq_of_testBit_eq
    intro i
    rw [Nat.testBit_xor, Nat.testBit_two_pow]
    rcases Nat.lt_trichotomy i k with h | h | h
    · rw [Nat.testBit_two_pow_add_gt h]
      simp [show ¬ k = i by omega]
    · subst h
      rw [Nat.testBit_two_pow_add_eq]
      simp
    · have a1 : 2 ^ (k + 1) ≤ 2 ^ i := Nat.pow_le_pow_right (by decide) h
      rw [Nat.testBit_lt_two_pow (show 2 ^ k + r < 2 ^ i by omega), Nat.testBit_lt_two_pow (show r < 2 ^ i by omega)]
      simp [show ¬ k = i by omega]
  have b1 := wb_lt2 (show k + 1 < 64 by omega)
  have b2 := wb_lt2 (show k < 64 by omega)
  apply wb_inj
  rw [Int64.toBitVec_xor, wb_tb, wb_tb, wb_tb]
  apply BitVec.eq_of_toNat_eq
  rw [BitVec.toNat_xor, BitVec.toNat_ofNat, BitVec.toNat_ofNat, BitVec.toNat_ofNat, Nat.mod_eq_of_lt (by omega : 2 ^ k + r < 2 ^ 64), Nat.mod_eq_of_lt b2, hx, Nat.add_sub_cancel_left, Nat.mod_eq_of_lt (by omega)]
theorem fa_lit (n : Nat) : (OfNat.ofNat n : Int32) = nI n := rfl
theorem fa_litL (n : Nat) : (OfNat.ofNat n : Int64) = lN n := rfl
/-! ===== bits of a number: 'or', masks, one bit ===== -/
theorem fa_and (a b : Nat) : nI a &&& nI b = nI (a &&& b) := by
  apply Int32.toBitVec_inj.1
  show BitVec.ofNat 32 a &&& BitVec.ofNat 32 b = BitVec.ofNat 32 (a &&& b)
  apply BitVec.eq_of_getLsbD_eq
  intro i hi
  simp [hi]
theorem fa_or (a b : Nat) : nI a ||| nI b = nI (a ||| b) := by
  apply Int32.toBitVec_inj.1
  show BitVec.ofNat 32 a ||| BitVec.ofNat 32 b = BitVec.ofNat 32 (a ||| b)
  apply BitVec.eq_of_getLsbD_eq
  intro i hi
  simp [hi]
/-- a remainder by a power of two, as a mask -/
theorem fa_mask (n k : Nat) : nI n &&& nI (2 ^ k - 1) = nI (n % 2 ^ k) := by rw [fa_and, Nat.and_two_pow_sub_one_eq_mod]
/-! plain facts to paste, each family by itself; over the kit's nI, lN and upd -/
/-! ===== drawers: more things than places ===== -/
theorem fb_holes : ∀ (m n : Nat) (f : Nat → Nat), (∀ i, i < n → f i < m) → (∀ i j, i < j → j < n → f i ≠ f j) → n ≤ m := by
  intro m
  induction m with
  | zero =>
    intro n f h1 _
    rcases Nat.eq_zero_or_pos n with h | h
    · omega
    · exact absurd (h1 0 h) (Nat.not_lt_zero _)
  | succ m ih =>
    intro n f h1 h2
    by_cases hx : ∃ i, i < n ∧ f i = m
    · obtain ⟨a, ha, hfa⟩ := hx
      have hg := ih (n - 1) (fun i => if i < a then f i else f (i + 1)) (by
        intro i hi
        by_cases q : i < a
        · simp only [if_pos q]
          have b1 := h1 i (by omega)
          have b2 := h2 i a q ha
          omega
        · simp only [if_neg q]
          have b1 := h1 (i + 1) (by omega)
          have b2 := h2 a (i + 1) (by omega) (by omega)
          omega) (by
        intro i j hij hj
        by_cases q : i < a
        · by_cases r : j < a
          · simp only [if_pos q, if_pos r]
            exact h2 i j hij (by omega)
          · simp only [if_pos q, if_neg r]
            exact h2 i (j + 1) (by omega) (by omega)
        · have r : ¬ j < a := by omega
          simp only [if_neg q, if_neg r]
          exact h2 (i + 1) (j + 1) (by omega) (by omega))
      omega
    · have hg := ih n f (fun i hi => by
        have b1 := h1 i hi
        have b2 : f i ≠ m := fun e => hx ⟨i, hi, e⟩
        omega) h2
      omega
/-- two of them in one place -/
theorem fb_twice {m n : Nat} {f : Nat → Nat} (h : ∀ i, i < n → f i < m) (hm : m < n) : ∃ i j, i < j ∧ j < n ∧ f i = f j := by
  refine Classical.byContradiction fun hx => ?_
  have := fb_holes m n f h (fun i j hij hj e => hx ⟨i, j, hij, hj, e⟩)
  omega
/-- as many as places, none twice: each place is taken -/
theorem fb_onto {n : Nat} {f : Nat → Nat} (h : ∀ i, i < n → f i < n) (h2 : ∀ i j, i < j → j < n → f i ≠ f j) {y : Nat} (hy : y < n) : ∃ i, i < n ∧ f i = y := by
  refine Classical.byContradiction fun hx => ?_
  have hne : ∀ i, i < n → f i ≠ y := fun i hi e => hx ⟨i, hi, e⟩
  have := fb_holes (n - 1) n (fun i => if f i < y then f i else f i - 1) (by
    intro i hi
    have b1 := h i hi
    have b2 := hne i hi
    by_cases q : f i < y
    · simp only [if_pos q]; omega
    · simp only [if_neg q]; omega) (by
    intro i j hij hj
    have b1 := hne i (by omega)
    have b2 := hne j hj
    have b3 := h2 i j hij hj
    by_cases q : f i < y
    · by_cases r : f j < y
      · simp only [if_pos q, if_pos r]; exact b3
      · simp only [if_pos q, if_neg r]; omega
    · by_cases r : f j < y
      · simp only [if_neg q, if_pos r]; omega
      · simp only [if_neg q, if_neg r]; omega)
  omega
/-! ===== how many places have a property ===== -/
def fb_ct (p : Nat → Bool) : Nat → Nat
  | 0 => 0
  | n + 1 => fb_ct p n + (if p n then 1 else 0)
theorem fb_ct_succ (p : Nat → Bool) (n : Nat) : fb_ct p (n + 1) = fb_ct p n + (if p n then 1 else 0) := rfl
theorem fb_ct_le (p : Nat → Bool) : ∀ n, fb_ct p n ≤ n
  | 0 => Nat.le_refl _
  | n + 1 => by
    have h := fb_ct_le p n
    rw [fb_ct_succ]
    split <;> omega
theorem fb_ct_step (p : Nat → Bool) (m : Nat) : ∀ n, fb_ct p m ≤ fb_ct p (m + n)
  | 0 => Nat.le_refl _
  | n + 1 => by
    have h := fb_ct_step p m n
    show fb_ct p m ≤ fb_ct p (m + n + 1)
    rw [fb_ct_succ]
    omega
theorem fb_ct_mono (p : Nat → Bool) {m n : Nat} (h : m ≤ n) : fb_ct p m ≤ fb_ct p n := by
  have := fb_ct_step p m (n - m)
  rwa [Nat.add_sub_cancel' h] at this
theorem fb_ct_cong {p q : Nat → Bool} : ∀ {n : Nat}, (∀ k, k < n → p k = q k) → fb_ct p n = fb_ct q n
  | 0, _ => rfl
  | n + 1, h => by
    rw [fb_ct_succ, fb_ct_succ, fb_ct_cong (fun k hk => h k (by omega)), h n (by omega)]
/-- one place changed -/
theorem fb_ct_out (p : Nat → Bool) (b : Bool) {i n : Nat} (h : n ≤ i) : fb_ct (fun k => if k = i then b else p k) n = fb_ct p n :=
  fb_ct_cong fun k hk => if_neg (by omega)
theorem fb_ct_upd (p : Nat → Bool) (b : Bool) {i : Nat} : ∀ {n : Nat}, i < n → fb_ct (fun k => if k = i then b else p k) n + (if p i then 1 else 0) = fb_ct p n + (if b then 1 else 0)
  | 0, h => absurd h (Nat.not_lt_zero i)
  | n + 1, h => by
    rw [fb_ct_succ, fb_ct_succ]
    rcases Nat.lt_or_ge i n with q | q
    · have := fb_ct_upd p b q
      have e : (if n = i then b else p n) = p n := if_neg (by omega)
      rw [e]
      omega
    · have e : i = n := by omega
      subst e
      rw [fb_ct_out p b (Nat.le_refl _)]
      simp only [if_true]
      omega
theorem fb_ct_sub {p q : Nat → Bool} : ∀ {n : Nat}, (∀ k, k < n → p k = true → q k = true) → fb_ct p n ≤ fb_ct q n
  | 0, _ => Nat.le_refl _
  | n + 1, h => by
    have h1 := fb_ct_sub (n := n) (p := p) (q := q) (fun k hk => h k (by omega))
    have h2 := h n (by omega)
    rw [fb_ct_succ, fb_ct_succ]
    cases hp : p n <;> cases hq : q n <;> simp_all <;> omega
theorem fb_ct_or {p q : Nat → Bool} : ∀ {n : Nat}, (∀ k, k < n → ¬ (p k = true ∧ q k = true)) → fb_ct (fun k => p k || q k) n = fb_ct p n + fb_ct q n
  | 0, _ => rfl
  | n + 1, h => by
    have h1 := fb_ct_or (n := n) (p := p) (q := q) (fun k hk => h k (by omega))
    have h2 := h n (by omega)
    rw [fb_ct_succ, fb_ct_succ, fb_ct_succ, h1]
    cases hp : p n <;> cases hq : q n <;> simp_all <;> omega
theorem fb_ct_not (p : Nat → Bool) : ∀ n, fb_ct p n + fb_ct (fun k => !p k) n = n
  | 0 => rfl
  | n + 1 => by
    have h := fb_ct_not p n
    rw [fb_ct_succ, fb_ct_succ]
    cases p n <;> simp <;> omega
theorem fb_ct_split (p : Nat → Bool) (m : Nat) : ∀ n, fb_ct p (m + n) = fb_ct p m + fb_ct (fun k => p (m + k)) n
  | 0 => rfl
  | n + 1 => by
    have h := fb_ct_split p m n
    show fb_ct p (m + n + 1) = _
    rw [fb_ct_succ, fb_ct_succ, h, Nat.add_assoc]
theorem fb_ct_zero {p : Nat → Bool} : ∀ {n : Nat}, fb_ct p n = 0 ↔ ∀ k, k < n → p k = false
  | 0 => ⟨fun _ k hk => absurd hk (Nat.not_lt_zero k), fun _ => rfl⟩
  | n + 1 => by
    have h := fb_ct_zero (p := p) (n := n)
    rw [fb_ct_succ]
    constructor
    · intro e k hk
      have e1 : fb_ct p n = 0 := by omega
      rcases Nat.lt_or_ge k n with q | q
      · exact h.mp e1 k q
      · have ek : k = n := by omega
        subst ek
        cases hp : p k
        · rfl
        · simp [hp] at e
    · intro a
      rw [h.mpr (fun k hk => a k (by omega)), a n (by omega)]
      rfl
theorem fb_ct_pos {p : Nat → Bool} {n : Nat} : 0 < fb_ct p n ↔ ∃ k, k < n ∧ p k = true := by
  constructor
  · intro h
    refine Classical.byContradiction fun hx => ?_
    have := fb_ct_zero.mpr (fun k hk => by
      cases hp : p k
      · rfl
      · exact absurd ⟨k, hk, hp⟩ hx : ∀ k, k < n → p k = false)
    omega
  · rintro ⟨k, hk, hp⟩
    rcases Nat.eq_zero_or_pos (fb_ct p n) with e | e
    · have := fb_ct_zero.mp e k hk
      rw [this] at hp
      cases hp
    · exact e
theorem fb_ct_all {p : Nat → Bool} {n : Nat} : fb_ct p n = n ↔ ∀ k, k < n → p k = true := by
  have h := fb_ct_not p n
  constructor
  · intro e k hk
    have z : fb_ct (fun k => !p k) n = 0 := by omega
    have := fb_ct_zero.mp z k hk
    cases hp : p k
    · simp [hp] at this
    · rfl
  · intro a
    have z : fb_ct (fun k => !p k) n = 0 := fb_ct_zero.mpr (fun k hk => by simp [a k hk])
    omega
/-- the k-th place with the property -/
theorem fb_ct_kth {p : Nat → Bool} {k : Nat} : ∀ {n : Nat}, k < fb_ct p n → ∃ i, i < n ∧ p i = true ∧ fb_ct p i = k
  | 0, h => absurd h (Nat.not_lt_zero k)
  | n + 1, h => by
    rcases Nat.lt_or_ge k (fb_ct p n) with q | q
    · obtain ⟨i, h1, h2⟩ := fb_ct_kth q
      exact ⟨i, by omega, h2⟩
    · rw [fb_ct_succ] at h
      cases hp : p n
      · simp [hp] at h; omega
      · simp [hp] at h
        exact ⟨n, by omega, hp, by omega⟩
theorem fb_ct_kth_one {p : Nat → Bool} {i j : Nat} (hi : p i = true) (hj : p j = true) (e : fb_ct p i = fb_ct p j) : i = j := by
  have key : ∀ a b : Nat, a < b → p a = true → fb_ct p a < fb_ct p b := by
    intro a b hab ha
    have h := fb_ct_mono p (show a + 1 ≤ b from hab)
    rw [fb_ct_succ, ha] at h
    simp at h
    omega
  rcases Nat.lt_trichotomy i j with q | q | q
  · have := key i j q hi; omega
  · exact q
  · have := key j i q hj; omega
/-! ===== sums over a range: one place changed, parts, bounds ===== -/
def fb_sm (f : Nat → Nat) : Nat → Nat
  | 0 => 0
  | n + 1 => fb_sm f n + f n
theorem fb_sm_succ (f : Nat → Nat) (n : Nat) : fb_sm f (n + 1) = fb_sm f n + f n := rfl
theorem fb_sm_cong {f g : Nat → Nat} : ∀ {n : Nat}, (∀ k, k < n → f k = g k) → fb_sm f n = fb_sm g n
  | 0, _ => rfl
  | n + 1, h => by rw [fb_sm_succ, fb_sm_succ, fb_sm_cong (fun k hk => h k (by omega)), h n (by omega)]
theorem fb_sm_out (f : Nat → Nat) (v : Nat) {i n : Nat} (h : n ≤ i) : fb_sm (fun k => if k = i then v else f k) n = fb_sm f n :=
  fb_sm_cong fun k hk => if_neg (by omega)
theorem fb_sm_upd (f : Nat → Nat) (v : Nat) {i : Nat} : ∀ {n : Nat}, i < n → fb_sm (fun k => if k = i then v else f k) n + f i = fb_sm f n + v
  | 0, h => absurd h (Nat.not_lt_zero i)
  | n + 1, h => by
    rw [fb_sm_succ, fb_sm_succ]
    rcases Nat.lt_or_ge i n with q | q
    · have := fb_sm_upd f v q
      have e : (if n = i then v else f n) = f n := if_neg (by omega)
      rw [e]
      omega
    · have e : i = n := by omega
      subst e
      rw [fb_sm_out f v (Nat.le_refl _)]
      simp only [if_true]
      omega
theorem fb_sm_add (f g : Nat → Nat) : ∀ n, fb_sm (fun k => f k + g k) n = fb_sm f n + fb_sm g n
  | 0 => rfl
  | n + 1 => by
    have h := fb_sm_add f g n
    rw [fb_sm_succ, fb_sm_succ, fb_sm_succ, h]
    omega
theorem fb_sm_le {f g : Nat → Nat} : ∀ {n : Nat}, (∀ k, k < n → f k ≤ g k) → fb_sm f n ≤ fb_sm g n
  | 0, _ => Nat.le_refl _
  | n + 1, h => by
    have h1 := fb_sm_le (n := n) (f := f) (g := g) (fun k hk => h k (by omega))
    have h2 := h n (by omega)
    rw [fb_sm_succ, fb_sm_succ]
    omega
theorem fb_sm_const (c : Nat) : ∀ n, fb_sm (fun _ => c) n = n * c
  | 0 => by rw [Nat.zero_mul]; rfl
  | n + 1 => by rw [fb_sm_succ, fb_sm_const c n, Nat.succ_mul]
theorem fb_sm_bound {f : Nat → Nat} {c n : Nat} (h : ∀ k, k < n → f k ≤ c) : fb_sm f n ≤ n * c := by
  rw [← fb_sm_const c n]
  exact fb_sm_le h
theorem fb_sm_mono (f : Nat → Nat) (m : Nat) : ∀ n, fb_sm f m ≤ fb_sm f (m + n)
  | 0 => Nat.le_refl _
  | n + 1 => by
    have h := fb_sm_mono f m n
    show fb_sm f m ≤ fb_sm f (m + n + 1)
    rw [fb_sm_succ]
    omega
theorem fb_sm_part (f : Nat → Nat) {i n : Nat} (h : i < n) : fb_sm f i + f i ≤ fb_sm f n := by
  have := fb_sm_mono f (i + 1) (n - (i + 1))
  rw [fb_sm_succ, show i + 1 + (n - (i + 1)) = n by omega] at this
  exact this
theorem fb_sm_split (f : Nat → Nat) (m : Nat) : ∀ n, fb_sm f (m + n) = fb_sm f m + fb_sm (fun k => f (m + k)) n
  | 0 => rfl
  | n + 1 => by
    have h := fb_sm_split f m n
    show fb_sm f (m + n + 1) = _
    rw [fb_sm_succ, fb_sm_succ, h, Nat.add_assoc]
theorem fb_sm_zero {f : Nat → Nat} {n : Nat} (h : fb_sm f n = 0) : ∀ k, k < n → f k = 0 := fun k hk => by
  have := fb_sm_part f hk
  omega
/-- the same over whole numbers -/
def fb_si (f : Nat → Int) : Nat → Int
  | 0 => 0
  | n + 1 => fb_si f n + f n
theorem fb_si_succ (f : Nat → Int) (n : Nat) : fb_si f (n + 1) = fb_si f n + f n := rfl
theorem fb_si_cong {f g : Nat → Int} : ∀ {n : Nat}, (∀ k, k < n → f k = g k) → fb_si f n = fb_si g n
  | 0, _ => rfl
  | n + 1, h => by rw [fb_si_succ, fb_si_succ, fb_si_cong (fun k hk => h k (by omega)), h n (by omega)]
theorem fb_si_out (f : Nat → Int) (v : Int) {i n : Nat} (h : n ≤ i) : fb_si (fun k => if k = i then v else f k) n = fb_si f n :=
  fb_si_cong fun k hk => if_neg (by omega)
theorem fb_si_upd (f : Nat → Int) (v : Int) {i : Nat} : ∀ {n : Nat}, i < n → fb_si (fun k => if k = i then v else f k) n = fb_si f n - f i + v
  | 0, h => absurd h (Nat.not_lt_zero i)
  | n + 1, h => by
    rw [fb_si_succ, fb_si_succ]
    rcases Nat.lt_or_ge i n with q | q
    · have := fb_si_upd f v q
      have e : (if n = i then v else f n) = f n := if_neg (by omega)
      rw [e]
      omega
    · have e : i = n := by omega
      subst e
      rw [fb_si_out f v (Nat.le_refl _)]
      simp only [if_true]
      omega
theorem fb_si_add (f g : Nat → Int) : ∀ n, fb_si (fun k => f k + g k) n = fb_si f n + fb_si g n
  | 0 => rfl
  | n + 1 => by
    have h := fb_si_add f g n
    rw [fb_si_succ, fb_si_succ, fb_si_succ, h]
    omega
theorem fb_si_sub (f g : Nat → Int) : ∀ n, fb_si (fun k => f k - g k) n = fb_si f n - fb_si g n
  | 0 => rfl
  | n + 1 => by
    have h := fb_si_sub f g n
    rw [fb_si_succ, fb_si_succ, fb_si_succ, h]
    omega
theorem fb_si_mul (c : Int) (f : Nat → Int) : ∀ n, fb_si (fun k => c * f k) n = c * fb_si f n
  | 0 => (Int.mul_zero c).symm
  | n + 1 => by
    have h := fb_si_mul c f n
    rw [fb_si_succ, fb_si_succ, h, Int.mul_add]
theorem fb_si_split (f : Nat → Int) (m : Nat) : ∀ n, fb_si f (m + n) = fb_si f m + fb_si (fun k => f (m + k)) n
  | 0 => (Int.add_zero _).symm
  | n + 1 => by
    have h := fb_si_split f m n
    show fb_si f (m + n + 1) = _
    rw [fb_si_succ, fb_si_succ, h, Int.add_assoc]
theorem fb_si_nat (f : Nat → Nat) : ∀ n, fb_si (fun k => (f k : Int)) n = (fb_sm f n : Int)
  | 0 => rfl
  | n + 1 => by
    have h := fb_si_nat f n
    rw [fb_si_succ, fb_sm_succ, h]
    omega
theorem fb_si_bound {f : Nat → Int} {c : Int} (hc : 0 ≤ c) : ∀ {n : Nat}, (∀ k, k < n → -c ≤ f k ∧ f k ≤ c) → -(n * c) ≤ fb_si f n ∧ fb_si f n ≤ n * c
  | 0, _ => by simp [fb_si]
  | n + 1, h => by
    have h1 := fb_si_bound (n := n) (f := f) hc (fun k hk => h k (by omega))
    have h2 := h n (by omega)
    have e : ((n + 1 : Nat) : Int) * c = n * c + c := by rw [Int.natCast_add, Int.add_mul]; simp
    rw [fb_si_succ, e]
    omega
/-! ===== bits of a long that isn't negative ===== -/
theorem fb_andL (a b : Nat) : lN a &&& lN b = lN (a &&& b) := by
  apply Int64.toBitVec_inj.1
  show BitVec.ofNat 64 a &&& BitVec.ofNat 64 b = BitVec.ofNat 64 (a &&& b)
  apply BitVec.eq_of_getLsbD_eq
  intro i hi
  simp [hi]
theorem fb_orL (a b : Nat) : lN a ||| lN b = lN (a ||| b) := by
  apply Int64.toBitVec_inj.1
  show BitVec.ofNat 64 a ||| BitVec.ofNat 64 b = BitVec.ofNat 64 (a ||| b)
  apply BitVec.eq_of_getLsbD_eq
  intro i hi
  simp [hi]
theorem fb_xorL (a b : Nat) : lN a ^^^ lN b = lN (a ^^^ b) := by
  apply Int64.toBitVec_inj.1
  show BitVec.ofNat 64 a ^^^ BitVec.ofNat 64 b = BitVec.ofNat 64 (a ^^^ b)
  apply BitVec.eq_of_getLsbD_eq
  intro i hi
  simp [hi]
theorem fb_xorI (a b : Nat) : nI a ^^^ nI b = nI (a ^^^ b) := by
  apply Int32.toBitVec_inj.1
  show BitVec.ofNat 32 a ^^^ BitVec.ofNat 32 b = BitVec.ofNat 32 (a ^^^ b)
  apply BitVec.eq_of_getLsbD_eq
  intro i hi
  simp [hi]
theorem fb_maskL (n k : Nat) : lN n &&& lN (2 ^ k - 1) = lN (n % 2 ^ k) := by rw [fb_andL, Nat.and_two_pow_sub_one_eq_mod]
theorem fb_or_sumL {a k : Nat} (b : Nat) (h : a < 2 ^ k) : lN (2 ^ k * b) ||| lN a = lN (2 ^ k * b + a) := by rw [fb_orL, Nat.two_pow_add_eq_or_of_lt h]
theorem fb_lN_inj {a b : Nat} (ha : a < 2 ^ 63) (hb : b < 2 ^ 63) : lN a = lN b ↔ a = b := by
  constructor
  · intro h
    have h1 : (BitVec.ofNat 64 a).toNat = (BitVec.ofNat 64 b).toNat := congrArg (fun x : Int64 => x.toBitVec.toNat) h
    rw [BitVec.toNat_ofNat, BitVec.toNat_ofNat, Nat.mod_eq_of_lt (by omega), Nat.mod_eq_of_lt (by omega)] at h1
    exact h1
  · rintro rfl; rfl
theorem fb_bit_nat (n j : Nat) : n &&& 2 ^ j = 0 ↔ n.testBit j = false := by
  constructor
  · intro h
    have h1 : (n &&& 2 ^ j).testBit j = false := by rw [h]; simp
    rw [Nat.testBit_and] at h1
    simpa using h1
  · intro h
    apply Nat.eq_of_testBit_eq
    intro i
    rw [Nat.testBit_and]
    by_cases hi : j = i
    · subst hi; simp [h]
    · first | (simp [Nat.testBit_two_pow, hi]; done) | (simp [Nat.testBit_two_pow_of_ne hi]; done)
/-- one bit of a long -/
theorem fb_bitL {n j : Nat} (hj : j < 63) : lN n &&& lN (2 ^ j) = 0 ↔ n.testBit j = false := by
  have h2 : (2 : Nat) ^ j < 2 ^ 63 := Nat.pow_lt_pow_right (by decide) hj
  have hle : n &&& 2 ^ j ≤ 2 ^ j := Nat.and_le_right
  rw [fb_andL, ← fb_bit_nat, show (0 : Int64) = lN 0 from rfl]
  exact fb_lN_inj (by omega) (by decide)
/-- a bit set, a bit taken off -/
theorem fb_bit_set (n j i : Nat) : (n ||| 2 ^ j).testBit i = (n.testBit i || decide (i = j)) := by
  rw [Nat.testBit_or]
  by_cases h : j = i
  · subst h; simp
  · have h2 : ¬ i = j := fun e => h e.symm
    first | (simp [Nat.testBit_two_pow, h, h2]; done) | (simp [Nat.testBit_two_pow_of_ne h, h2]; done)
theorem fb_bit_flip (n j i : Nat) : (n ^^^ 2 ^ j).testBit i = (n.testBit i ^^ decide (i = j)) := by
  rw [Nat.testBit_xor]
  by_cases h : j = i
  · subst h; simp
  · have h2 : ¬ i = j := fun e => h e.symm
    first | (simp [Nat.testBit_two_pow, h, h2]; done) | (simp [Nat.testBit_two_pow_of_ne h, h2]; done)
/-! ===== a stretch of an array written over by a function ===== -/
def fb_put {α : Type} (f g : Nat → α) (a n : Nat) : Nat → α := fun k => if a ≤ k ∧ k < a + n then g (k - a) else f k
theorem fb_put_0 {α : Type} (f g : Nat → α) (a : Nat) : fb_put f g a 0 = f := funext fun k => if_neg (by omega)
theorem fb_put_in {α : Type} {f g : Nat → α} {a n k : Nat} (h1 : a ≤ k) (h2 : k < a + n) : fb_put f g a n k = g (k - a) := if_pos ⟨h1, h2⟩
theorem fb_put_out {α : Type} {f g : Nat → α} {a n k : Nat} (h : k < a ∨ a + n ≤ k) : fb_put f g a n k = f k := if_neg (by omega)
theorem fb_put_succ (f g : Nat → Int32) (a n : Nat) : upd (fb_put f g a n) (a + n) (g n) = fb_put f g a (n + 1) := by
  funext k
  by_cases h : k = a + n
  · subst h
    simp [upd, fb_put]
  · by_cases h1 : a ≤ k ∧ k < a + n
    · have h2 : a ≤ k ∧ k < a + (n + 1) := by omega
      simp only [upd, fb_put, if_neg h, if_pos h1, if_pos h2]
    · have h2 : ¬ (a ≤ k ∧ k < a + (n + 1)) := by omega
      simp only [upd, fb_put, if_neg h, if_neg h1, if_neg h2]
/-- .. from the far end down -/
theorem fb_put_down (f g : Nat → Int32) {a n m : Nat} (h : m < n) : upd (fb_put f (fun k => g (k + (m + 1))) (a + (m + 1)) (n - (m + 1))) (a + m) (g m) = fb_put f (fun k => g (k + m)) (a + m) (n - m) := by
  funext k
  by_cases h0 : k = a + m
  · subst h0
    simp only [upd, if_true]
    rw [fb_put_in (by omega) (by omega)]
    exact congrArg g (by omega)
  · simp only [upd, if_neg h0]
    by_cases h1 : a + (m + 1) ≤ k ∧ k < a + (m + 1) + (n - (m + 1))
    · rw [fb_put_in h1.1 h1.2, fb_put_in (by omega) (by omega)]
      exact congrArg g (by omega)
    · rw [fb_put_out (by omega), fb_put_out (by omega)]
theorem fb_put_cong {α : Type} {f f2 g g2 : Nat → α} {a n : Nat} (hf : ∀ k, (k < a ∨ a + n ≤ k) → f k = f2 k) (hg : ∀ k, k < n → g k = g2 k) : fb_put f g a n = fb_put f2 g2 a n := by
  funext k
  by_cases h : a ≤ k ∧ k < a + n
  · rw [fb_put_in h.1 h.2, fb_put_in h.1 h.2, hg _ (by omega)]
  · rw [fb_put_out (by omega), fb_put_out (by omega), hf _ (by omega)]
/-! ===== the least, the first, the best so far; that there is one alone ===== -/
theorem fb_first {p : Nat → Prop} [DecidablePred p] : ∀ {n : Nat}, (∃ i, i < n ∧ p i) → ∃ i, i < n ∧ p i ∧ ∀ j, j < i → ¬ p j
  | 0, h => by obtain ⟨i, hi, -⟩ := h; exact absurd hi (Nat.not_lt_zero i)
  | n + 1, h => by
    by_cases q : ∃ i, i < n ∧ p i
    · obtain ⟨i, h1, h2⟩ := fb_first q
      exact ⟨i, by omega, h2⟩
    · obtain ⟨i, h1, h2⟩ := h
      have e : i = n := by
        rcases Nat.lt_or_ge i n with r | r
        · exact absurd ⟨i, r, h2⟩ q
        · omega
      subst e
      exact ⟨i, by omega, h2, fun j hj hp => q ⟨j, hj, hp⟩⟩
theorem fb_first_one {p : Nat → Prop} {i j : Nat} (hi : p i) (hi2 : ∀ k, k < i → ¬ p k) (hj : p j) (hj2 : ∀ k, k < j → ¬ p k) : i = j := by
  rcases Nat.lt_trichotomy i j with q | q | q
  · exact absurd hi (hj2 i q)
  · exact q
  · exact absurd hj (hi2 j q)
theorem fb_last {p : Nat → Prop} [DecidablePred p] : ∀ {n : Nat}, (∃ i, i < n ∧ p i) → ∃ i, i < n ∧ p i ∧ ∀ j, i < j → j < n → ¬ p j
  | 0, h => by obtain ⟨i, hi, -⟩ := h; exact absurd hi (Nat.not_lt_zero i)
  | n + 1, h => by
    by_cases q : p n
    · exact ⟨n, by omega, q, fun j h1 h2 => by omega⟩
    · obtain ⟨i, h1, h2⟩ := h
      have hi : i < n := by
        rcases Nat.lt_or_ge i n with r | r
        · exact r
        · have e : i = n := by omega
          subst e
          exact absurd h2 q
      obtain ⟨i2, a1, a2, a3⟩ := fb_last (n := n) ⟨i, hi, h2⟩
      refine ⟨i2, by omega, a2, fun j b1 b2 => ?_⟩
      rcases Nat.lt_or_ge j n with r | r
      · exact a3 j b1 r
      · have e : j = n := by omega
        subst e
        exact q
/-- the first greatest -/
theorem fb_best (f : Nat → Int) : ∀ {n : Nat}, 0 < n → ∃ i, i < n ∧ (∀ j, j < n → f j ≤ f i) ∧ ∀ j, j < i → f j < f i
  | 0, h => absurd h (Nat.lt_irrefl 0)
  | 1, _ => ⟨0, by omega, fun j hj => by have e : j = 0 := by omega
                                         subst e; exact Int.le_refl _, fun j hj => absurd hj (Nat.not_lt_zero j)⟩
  | n + 2, _ => by
    obtain ⟨i, h1, h2, h3⟩ := fb_best f (n := n + 1) (by omega)
    by_cases q : f i < f (n + 1)
    · refine ⟨n + 1, by omega, fun j hj => ?_, fun j hj => ?_⟩
      · rcases Nat.lt_or_ge j (n + 1) with r | r
        · have := h2 j r; omega
        · have e : j = n + 1 := by omega
          subst e; exact Int.le_refl _
      · have := h2 j hj; omega
    · refine ⟨i, by omega, fun j hj => ?_, h3⟩
      rcases Nat.lt_or_ge j (n + 1) with r | r
      · exact h2 j r
      · have e : j = n + 1 := by omega
        subst e; omega
theorem fb_best_one {f : Nat → Int} {n i j : Nat} (hi : i < n) (hi2 : ∀ k, k < n → f k ≤ f i) (hi3 : ∀ k, k < i → f k < f i) (hj : j < n) (hj2 : ∀ k, k < n → f k ≤ f j) (hj3 : ∀ k, k < j → f k < f j) : i = j := by
  rcases Nat.lt_trichotomy i j with q | q | q
  · have a := hj3 i q
    have b := hi2 j hj
    omega
  · exact q
  · have a := hi3 j q
    have b := hj2 i hi
    omega
/-- the first least -/
theorem fb_low (f : Nat → Int) {n : Nat} (h : 0 < n) : ∃ i, i < n ∧ (∀ j, j < n → f i ≤ f j) ∧ ∀ j, j < i → f i < f j := by
  obtain ⟨i, h1, h2, h3⟩ := fb_best (fun k => -f k) h
  exact ⟨i, h1, fun j hj => by have := h2 j hj; omega, fun j hj => by have := h3 j hj; omega⟩
/-! ===== signed ints as whole numbers, within bounds ===== -/
theorem fb_rng (x : Int32) : -2147483648 ≤ x.toInt ∧ x.toInt < 2147483648 := by
  have h1 := Int32.le_toInt x
  have h2 := Int32.toInt_lt x
  omega
theorem fb_bmod {z : Int} (h1 : -2147483648 ≤ z) (h2 : z < 2147483648) : z.bmod (2 ^ 32) = z := by
  rw [Int.bmod_eq_of_le (by omega) (by omega)]
theorem fb_addI {x y : Int32} (h1 : -2147483648 ≤ x.toInt + y.toInt) (h2 : x.toInt + y.toInt < 2147483648) : (x + y).toInt = x.toInt + y.toInt := by
  rw [Int32.toInt_add, fb_bmod h1 h2]
theorem fb_subI {x y : Int32} (h1 : -2147483648 ≤ x.toInt - y.toInt) (h2 : x.toInt - y.toInt < 2147483648) : (x - y).toInt = x.toInt - y.toInt := by
  rw [Int32.toInt_sub, fb_bmod h1 h2]
theorem fb_mulI {x y : Int32} (h1 : -2147483648 ≤ x.toInt * y.toInt) (h2 : x.toInt * y.toInt < 2147483648) : (x * y).toInt = x.toInt * y.toInt := by
  rw [Int32.toInt_mul, fb_bmod h1 h2]
theorem fb_negI {x : Int32} (h : x.toInt ≠ -2147483648) : (-x).toInt = -x.toInt := by
  have := fb_rng x
  rw [Int32.toInt_neg, fb_bmod (by omega) (by omega)]
theorem fb_ofI {z : Int} (h1 : -2147483648 ≤ z) (h2 : z < 2147483648) : (Int32.ofInt z).toInt = z := by
  rw [Int32.toInt_ofInt, fb_bmod h1 h2]
theorem fb_asI (x : Int32) : Int32.ofInt x.toInt = x := Int32.ofInt_toInt x
theorem fb_rngL (x : Int64) : -9223372036854775808 ≤ x.toInt ∧ x.toInt < 9223372036854775808 := by
  have h1 := Int64.le_toInt x
  have h2 := Int64.toInt_lt x
  omega
theorem fb_bmodL {z : Int} (h1 : -9223372036854775808 ≤ z) (h2 : z < 9223372036854775808) : z.bmod (2 ^ 64) = z := by
  rw [Int.bmod_eq_of_le (by omega) (by omega)]
theorem fb_addL {x y : Int64} (h1 : -9223372036854775808 ≤ x.toInt + y.toInt) (h2 : x.toInt + y.toInt < 9223372036854775808) : (x + y).toInt = x.toInt + y.toInt := by
  rw [Int64.toInt_add, fb_bmodL h1 h2]
theorem fb_subL {x y : Int64} (h1 : -9223372036854775808 ≤ x.toInt - y.toInt) (h2 : x.toInt - y.toInt < 9223372036854775808) : (x - y).toInt = x.toInt - y.toInt := by
  rw [Int64.toInt_sub, fb_bmodL h1 h2]
theorem fb_mulL {x y : Int64} (h1 : -9223372036854775808 ≤ x.toInt * y.toInt) (h2 : x.toInt * y.toInt < 9223372036854775808) : (x * y).toInt = x.toInt * y.toInt := by
  rw [Int64.toInt_mul, fb_bmodL h1 h2]
/-! ===== cuts of what is narrow already ===== -/
theorem fb_byte {x : Int32} (h1 : -128 ≤ x.toInt) (h2 : x.toInt < 128) : x.toInt8.toInt32 = x := by
  apply Int32.toInt_inj.1
  rw [Int8.toInt_toInt32, Int32.toInt_toInt8, Int.bmod_eq_of_le (by omega) (by omega)]
theorem fb_short {x : Int32} (h1 : -32768 ≤ x.toInt) (h2 : x.toInt < 32768) : x.toInt16.toInt32 = x := by
  apply Int32.toInt_inj.1
  rw [Int16.toInt_toInt32, Int32.toInt_toInt16, Int.bmod_eq_of_le (by omega) (by omega)]
theorem fb_byte_rng (x : Int32) : -128 ≤ x.toInt8.toInt32.toInt ∧ x.toInt8.toInt32.toInt < 128 := by
  rw [Int8.toInt_toInt32]
  have h1 := Int8.le_toInt x.toInt8
  have h2 := Int8.toInt_lt x.toInt8
  omega
theorem fb_short_rng (x : Int32) : -32768 ≤ x.toInt16.toInt32.toInt ∧ x.toInt16.toInt32.toInt < 32768 := by
  rw [Int16.toInt_toInt32]
  have h1 := Int16.le_toInt x.toInt16
  have h2 := Int16.toInt_lt x.toInt16
  omega
theorem fb_byte_twice (x : Int32) : x.toInt8.toInt32.toInt8.toInt32 = x.toInt8.toInt32 := fb_byte (fb_byte_rng x).1 (fb_byte_rng x).2
theorem fb_short_twice (x : Int32) : x.toInt16.toInt32.toInt16.toInt32 = x.toInt16.toInt32 := fb_short (fb_short_rng x).1 (fb_short_rng x).2
theorem fb_char {n : Nat} (h : n < 65536) : (nI n).toUInt32.toUInt16.toUInt32.toInt32 = nI n := by
  apply Int32.toBitVec_inj.1
  apply BitVec.eq_of_toNat_eq
  have e1 : (nI n).toBitVec.toNat = n := by
    show (BitVec.ofNat 32 n).toNat = n
    rw [BitVec.toNat_ofNat, Nat.mod_eq_of_lt (by omega)]
  have e2 : ((nI n).toUInt32.toUInt16.toUInt32).toNat = n := by
    rw [UInt16.toNat_toUInt32, UInt32.toNat_toUInt16]
    show (nI n).toBitVec.toNat % 2 ^ 16 = n
    rw [e1, Nat.mod_eq_of_lt (by omega)]
  rw [e1]
  exact e2
end
section
/-! ===== fields of packed numbers ===== -/
def gF (n off w : Nat) : Nat := n / 2 ^ off % 2 ^ w
def sF (n off w v : Nat) : Nat := n / 2 ^ (off + w) * 2 ^ (off + w) + (v * 2 ^ off + n % 2 ^ off)
theorem gF_lt (n off w : Nat) : gF n off w < 2 ^ w := Nat.mod_lt _ (Nat.pow_pos (by decide))
theorem gF_bit (n off w j : Nat) : (gF n off w).testBit j = (decide (j < w) && n.testBit (off + j)) := by
  unfold gF
  rw [Nat.testBit_mod_two_pow, Nat.testBit_div_two_pow, Nat.add_comm]
theorem sF_bit {n off w v : Nat} (hv : v < 2 ^ w) (j : Nat) : (sF n off w v).testBit j = if j < off then n.testBit j else if j < off + w then v.testBit (j - off) else n.testBit j := by
  unfold sF
  have h1 : n % 2 ^ off < 2 ^ off := Nat.mod_lt _ (Nat.pow_pos (by decide))
  have h2 : v * 2 ^ off + n % 2 ^ off < 2 ^ (off + w) := by
    rw [Nat.pow_add]
    have h3 : (v + 1) * 2 ^ off ≤ 2 ^ w * 2 ^ off := Nat.mul_le_mul_right _ hv
    rw [Nat.add_mul, Nat.one_mul] at h3
    rw [Nat.mul_comm (2 ^ off)]
    omega
  rw [Nat.mul_comm (n / 2 ^ (off + w)), Nat.testBit_two_pow_mul_add _ h2, Nat.mul_comm v, Nat.testBit_two_pow_mul_add _ h1]
  by_cases c1 : j < off
  · have c2 : j < off + w := by omega
    simp only [c1, c2, if_true]
    rw [Nat.testBit_mod_two_pow]
    simp [c1]
  · by_cases c2 : j < off + w
    · simp only [c1, c2, if_true, if_false]
    · simp only [c1, c2, if_false]
      rw [Nat.testBit_div_two_pow]
      congr 1
      omega
theorem sF_lt {n off w v k : Nat} (hv : v < 2 ^ w) (hn : n < 2 ^ k) (hk : off + w ≤ k) : sF n off w v < 2 ^ k := by
  apply Nat.lt_pow_two_of_testBit
  intro j hj
  rw [sF_bit hv, if_neg (by omega), if_neg (by omega)]
  exact Nat.testBit_lt_two_pow (Nat.lt_of_lt_of_le hn (Nat.pow_le_pow_right (by decide) hj))
theorem gF_sF_same {n off w v : Nat} (hv : v < 2 ^ w) : gF (sF n off w v) off w = v := by
  apply Nat.eq_of_testBit_eq
  intro j
  rw [gF_bit, sF_bit hv]
  by_cases c : j < w
  · rw [if_neg (by omega), if_pos (by omega)]
    simp [c]
  · simp only [c, decide_false, Bool.false_and]
    rw [Nat.testBit_lt_two_pow (Nat.lt_of_lt_of_le hv (Nat.pow_le_pow_right (by decide) (by omega)))]
theorem gF_sF_other {n off w v o2 w2 : Nat} (hv : v < 2 ^ w) (h : o2 + w2 ≤ off ∨ off + w ≤ o2) : gF (sF n off w v) o2 w2 = gF n o2 w2 := by
  apply Nat.eq_of_testBit_eq
  intro j
  rw [gF_bit, gF_bit, sF_bit hv]
  by_cases c : j < w2
  · rcases h with h | h
    · rw [if_pos (by omega)]
    · rw [if_neg (by omega), if_neg (by omega)]
  · simp [c]
/-- a part of a field -/
theorem gF_gF {n off w o2 w2 : Nat} (h : o2 + w2 ≤ w) : gF (gF n off w) o2 w2 = gF n (off + o2) w2 := by
  apply Nat.eq_of_testBit_eq
  intro j
  rw [gF_bit, gF_bit, gF_bit]
  by_cases c : j < w2
  · simp only [c, decide_true, Bool.true_and]
    rw [show off + (o2 + j) = off + o2 + j by omega]
    simp [show o2 + j < w by omega]
  · simp [c]
theorem sF_sF {n off w v o2 w2 v2 : Nat} (hv : v < 2 ^ w) (hv2 : v2 < 2 ^ w2) (h : o2 + w2 ≤ w) : sF (sF n off w v) (off + o2) w2 v2 = sF n off w (sF v o2 w2 v2) := by
  apply Nat.eq_of_testBit_eq
  intro j
  rw [sF_bit hv2, sF_bit hv, sF_bit (sF_lt hv2 hv h), sF_bit hv2]
  by_cases c1 : j < off
  · rw [if_pos (by omega), if_pos c1, if_pos c1]
  · by_cases c2 : j < off + o2
    · rw [if_pos c2, if_neg c1, if_pos (by omega), if_neg c1, if_pos (by omega), if_pos (by omega)]
    · by_cases c3 : j < off + o2 + w2
      · rw [if_neg c2, if_pos c3, if_neg c1, if_pos (by omega), if_neg (by omega), if_pos (by omega)]
        congr 1
        omega
      · rw [if_neg c2, if_neg c3, if_neg c1]
        by_cases c4 : j < off + w
        · rw [if_pos c4, if_neg c1, if_pos c4, if_neg (by omega), if_neg (by omega)]
        · rw [if_neg c4, if_neg c1, if_neg c4]
/-! ===== the machine's shifts and masks on nI, lN ===== -/
theorem nI_bv (n : Nat) : (nI n).toBitVec = BitVec.ofNat 32 n := rfl
theorem nI_inj32 {a b : Int32} (h : a.toBitVec = b.toBitVec) : a = b := Int32.toBitVec_inj.mp h
theorem s_l32 : ∀ n, n < 32 → ((nI n &&& 31).toBitVec.smod 32).toNat = n := by decide +kernel
theorem s_m32 : ∀ n, n < 32 → (nI n &&& 31).toBitVec.smod 32 = BitVec.ofNat 32 n := by decide +kernel
theorem shlI (n : Nat) {k : Nat} (hk : k < 32) : nI n <<< (nI k &&& 31) = nI (n * 2 ^ k) := by
  apply nI_inj32
  rw [Int32.toBitVec_shiftLeft, nI_bv, s_m32 k hk, nI_bv]
  apply BitVec.eq_of_toNat_eq
  rw [BitVec.shiftLeft_eq', BitVec.toNat_shiftLeft, BitVec.toNat_ofNat, BitVec.toNat_ofNat, BitVec.toNat_ofNat, Nat.shiftLeft_eq, Nat.mod_eq_of_lt (show k < 2 ^ 32 by omega), Nat.mod_mul_mod]
theorem shrI {n k : Nat} (hn : n < 2 ^ 31) (hk : k < 32) : nI n >>> (nI k &&& 31) = nI (n / 2 ^ k) := pk_shrN hn _ k (s_l32 k hk)
theorem andI (n w : Nat) : nI n &&& nI (2 ^ w - 1) = nI (n % 2 ^ w) := fa_mask n w
/-- a field of an int replaced, as the machine does it -/
theorem setI {n off w v : Nat} (hv : v < 2 ^ w) (ho : off + w ≤ 32) : (nI n &&& (nI ((2 ^ w - 1) * 2 ^ off) ^^^ (-1))) ||| nI (v * 2 ^ off) = nI (sF n off w v) := by
  apply nI_inj32
  apply BitVec.eq_of_getLsbD_eq
  intro j hj
  rw [Int32.toBitVec_or, Int32.toBitVec_and, Int32.toBitVec_xor, nI_bv, nI_bv, nI_bv, nI_bv]
  rw [show ((-1 : Int32).toBitVec) = BitVec.allOnes 32 from rfl]
  simp only [BitVec.getLsbD_or, BitVec.getLsbD_and, BitVec.getLsbD_xor, BitVec.getLsbD_ofNat, BitVec.getLsbD_allOnes, hj, decide_true, Bool.true_and]
  rw [sF_bit hv, Nat.testBit_mul_two_pow, Nat.testBit_mul_two_pow, Nat.testBit_two_pow_sub_one]
  by_cases c1 : j < off
  · simp [c1, show ¬ off ≤ j by omega]
  · by_cases c2 : j < off + w
    · simp [c1, c2, show off ≤ j by omega, show j - off < w by omega]
    · have c3 : v.testBit (j - off) = false := Nat.testBit_lt_two_pow (Nat.lt_of_lt_of_le hv (Nat.pow_le_pow_right (by decide) (by omega)))
      simp [c1, c2, c3, show off ≤ j by omega, show ¬ j - off < w by omega]
theorem setL {n off w v : Nat} (hv : v < 2 ^ w) (ho : off + w ≤ 64) : (lN n &&& (lN ((2 ^ w - 1) * 2 ^ off) ^^^ (-1))) ||| lN (v * 2 ^ off) = lN (sF n off w v) := by
  apply wb_inj
  apply BitVec.eq_of_getLsbD_eq
  intro j hj
  rw [Int64.toBitVec_or, Int64.toBitVec_and, Int64.toBitVec_xor, wb_tb, wb_tb, wb_tb, wb_tb]
  rw [show ((-1 : Int64).toBitVec) = BitVec.allOnes 64 from rfl]
  simp only [BitVec.getLsbD_or, BitVec.getLsbD_and, BitVec.getLsbD_xor, BitVec.getLsbD_ofNat, BitVec.getLsbD_allOnes, hj, decide_true, Bool.true_and]
  rw [sF_bit hv, Nat.testBit_mul_two_pow, Nat.testBit_mul_two_pow, Nat.testBit_two_pow_sub_one]
  by_cases c1 : j < off
  · simp [c1, show ¬ off ≤ j by omega]
  · by_cases c2 : j < off + w
    · simp [c1, c2, show off ≤ j by omega, show j - off < w by omega]
    · have c3 : v.testBit (j - off) = false := Nat.testBit_lt_two_pow (Nat.lt_of_lt_of_le hv (Nat.pow_le_pow_right (by decide) (by omega)))
      simp [c1, c2, c3, show off ≤ j by omega, show ¬ j - off < w by omega]
/-- one bit set -/
theorem orI {n k : Nat} (hk : k < 32) : nI n ||| nI (2 ^ k) = nI (sF n k 1 1) := by
  apply nI_inj32
  apply BitVec.eq_of_getLsbD_eq
  intro j hj
  rw [Int32.toBitVec_or, nI_bv, nI_bv, nI_bv]
  simp only [BitVec.getLsbD_or, BitVec.getLsbD_ofNat, hj, decide_true, Bool.true_and]
  rw [sF_bit (by decide), Nat.testBit_two_pow]
  by_cases c1 : j < k
  · simp [c1, show ¬ k = j by omega]
  · by_cases c2 : j < k + 1
    · have c3 : j = k := by omega
      subst c3
      simp
    · simp [c1, c2, show ¬ k = j by omega]
theorem orL {n k : Nat} (hk : k < 64) : lN n ||| lN (2 ^ k) = lN (sF n k 1 1) := by
  apply wb_inj
  apply BitVec.eq_of_getLsbD_eq
  intro j hj
  rw [Int64.toBitVec_or, wb_tb, wb_tb, wb_tb]
  simp only [BitVec.getLsbD_or, BitVec.getLsbD_ofNat, hj, decide_true, Bool.true_and]
  rw [sF_bit (by decide), Nat.testBit_two_pow]
  by_cases c1 : j < k
  · simp [c1, show ¬ k = j by omega]
  · by_cases c2 : j < k + 1
    · have c3 : j = k := by omega
      subst c3
      simp
    · simp [c1, c2, show ¬ k = j by omega]
/-! ===== instruction rows on numbers ===== -/
section NROWS
variable {p : Program} {l : Launch} {e : Env} {R : Room} {s : State} {m : MethodId} {args : Array Value} {below : List Frame} {meth : Method} {c : Code} {H : Heap} {locs : List Loc} {cells slots : Nat} {Q : State → Prop}
variable {cc : ByteArray} {pc : Nat} {ls : Array Slot} {rest : List Value} {a b : Nat}
theorem n_iadd (hx : p.tables.exec = Jvm.exec) (hb : c.code = cc) (hdg : decode cc pc = .ok (.iadd, 1)) (k : W p l e R s m args below meth c H locs cells slots Q (F0 m (pc + 1) ls (.int (nI (a + b)) :: rest))) : W p l e R s m args below meth c H locs cells slots Q (F0 m pc ls (.int (nI b) :: .int (nI a) :: rest)) := lv_iadd hx hb hdg (by rw [nI_add]; exact k)
theorem n_isub (hx : p.tables.exec = Jvm.exec) (hb : c.code = cc) (h : b ≤ a) (hdg : decode cc pc = .ok (.isub, 1)) (k : W p l e R s m args below meth c H locs cells slots Q (F0 m (pc + 1) ls (.int (nI (a - b)) :: rest))) : W p l e R s m args below meth c H locs cells slots Q (F0 m pc ls (.int (nI b) :: .int (nI a) :: rest)) := lv_isub hx hb hdg (by rw [pk_sub h]; exact k)
theorem n_imul (hx : p.tables.exec = Jvm.exec) (hb : c.code = cc) (hdg : decode cc pc = .ok (.imul, 1)) (k : W p l e R s m args below meth c H locs cells slots Q (F0 m (pc + 1) ls (.int (nI (a * b)) :: rest))) : W p l e R s m args below meth c H locs cells slots Q (F0 m pc ls (.int (nI b) :: .int (nI a) :: rest)) := lv_imul hx hb hdg (by rw [pk_mul]; exact k)
theorem n_iand (hx : p.tables.exec = Jvm.exec) (hb : c.code = cc) (w : Nat) (hw : b = 2 ^ w - 1) (hdg : decode cc pc = .ok (.iand, 1)) (k : W p l e R s m args below meth c H locs cells slots Q (F0 m (pc + 1) ls (.int (nI (a % 2 ^ w)) :: rest))) : W p l e R s m args below meth c H locs cells slots Q (F0 m pc ls (.int (nI b) :: .int (nI a) :: rest)) := lv_iand hx hb hdg (by subst hw; rw [andI]; exact k)
theorem n_ishl (hx : p.tables.exec = Jvm.exec) (hb : c.code = cc) (h : b < 32) (hdg : decode cc pc = .ok (.ishl, 1)) (k : W p l e R s m args below meth c H locs cells slots Q (F0 m (pc + 1) ls (.int (nI (a * 2 ^ b)) :: rest))) : W p l e R s m args below meth c H locs cells slots Q (F0 m pc ls (.int (nI b) :: .int (nI a) :: rest)) := lv_ishl hx hb hdg (by rw [shlI a h]; exact k)
theorem n_ishr (hx : p.tables.exec = Jvm.exec) (hb : c.code = cc) (ha : a < 2 ^ 31) (h : b < 32) (hdg : decode cc pc = .ok (.ishr, 1)) (k : W p l e R s m args below meth c H locs cells slots Q (F0 m (pc + 1) ls (.int (nI (a / 2 ^ b)) :: rest))) : W p l e R s m args below meth c H locs cells slots Q (F0 m pc ls (.int (nI b) :: .int (nI a) :: rest)) := lv_ishr hx hb hdg (by rw [shrI ha h]; exact k)
theorem n_idiv (hx : p.tables.exec = Jvm.exec) (hb : c.code = cc) (ha : a < 2 ^ 31) (h0 : 0 < b) (h : b < 2 ^ 31) (hdg : decode cc pc = .ok (.idiv, 1)) (k : W p l e R s m args below meth c H locs cells slots Q (F0 m (pc + 1) ls (.int (nI (a / b)) :: rest))) : W p l e R s m args below meth c H locs cells slots Q (F0 m pc ls (.int (nI b) :: .int (nI a) :: rest)) := lv_idiv hx hb hdg (nI_ne0 h0 h) (by rw [pk_div ha h0 h]; exact k)
theorem n_l2i (hx : p.tables.exec = Jvm.exec) (hb : c.code = cc) (hdg : decode cc pc = .ok (.l2i, 1)) (k : W p l e R s m args below meth c H locs cells slots Q (F0 m (pc + 1) ls (.int (nI a) :: rest))) : W p l e R s m args below meth c H locs cells slots Q (F0 m pc ls (.long (lN a) :: rest)) := lv_l2i hx hb hdg (lN_i a) k
theorem n_i2l (hx : p.tables.exec = Jvm.exec) (hb : c.code = cc) (h : a < 2 ^ 31) (hdg : decode cc pc = .ok (.i2l, 1)) (k : W p l e R s m args below meth c H locs cells slots Q (F0 m (pc + 1) ls (.long (lN a) :: rest))) : W p l e R s m args below meth c H locs cells slots Q (F0 m pc ls (.int (nI a) :: rest)) := lv_i2l hx hb hdg (nI_l h) k
theorem n_lushr (hx : p.tables.exec = Jvm.exec) (hb : c.code = cc) (ha : a < 2 ^ 64) (h : b < 64) (hdg : decode cc pc = .ok (.lushr, 1)) (k : W p l e R s m args below meth c H locs cells slots Q (F0 m (pc + 1) ls (.long (lN (a / 2 ^ b)) :: rest))) : W p l e R s m args below meth c H locs cells slots Q (F0 m pc ls (.int (nI b) :: .long (lN a) :: rest)) := lv_lushr hx hb hdg (wb_shr ha h) k
theorem n_lshl (hx : p.tables.exec = Jvm.exec) (hb : c.code = cc) (h : b < 64) (hdg : decode cc pc = .ok (.lshl, 1)) (k : W p l e R s m args below meth c H locs cells slots Q (F0 m (pc + 1) ls (.long (lN (a * 2 ^ b)) :: rest))) : W p l e R s m args below meth c H locs cells slots Q (F0 m pc ls (.int (nI b) :: .long (lN a) :: rest)) := lv_lshl hx hb hdg (wb_shl a h) k
theorem n_ladd (hx : p.tables.exec = Jvm.exec) (hb : c.code = cc) (hdg : decode cc pc = .ok (.ladd, 1)) (k : W p l e R s m args below meth c H locs cells slots Q (F0 m (pc + 1) ls (.long (lN (a + b)) :: rest))) : W p l e R s m args below meth c H locs cells slots Q (F0 m pc ls (.long (lN b) :: .long (lN a) :: rest)) := lv_ladd hx hb hdg (by rw [lN_add]; exact k)
variable {off : Int} {tgt : Nat}
theorem n_ic_eq (hx : p.tables.exec = Jvm.exec) (hb : c.code = cc) (hdg : decode cc pc = .ok (.if_icmp .eq off, 3)) (ht : (pc : Int) + off = (tgt : Int)) (ha : a < 2 ^ 31) (hb1 : b < 2 ^ 31) (kt : a = b → W p l e R s m args below meth c H locs cells slots Q (F0 m tgt ls rest)) (kf : a ≠ b → W p l e R s m args below meth c H locs cells slots Q (F0 m (pc + 3) ls rest)) : W p l e R s m args below meth c H locs cells slots Q (F0 m pc ls (.int (nI b) :: .int (nI a) :: rest)) := lv_icmp_eq hx hb hdg ht (fun h => kt ((nI_eq ha hb1).mp h)) (fun h => kf (fun q => h (by rw [q])))
theorem n_ic_ne (hx : p.tables.exec = Jvm.exec) (hb : c.code = cc) (hdg : decode cc pc = .ok (.if_icmp .ne off, 3)) (ht : (pc : Int) + off = (tgt : Int)) (ha : a < 2 ^ 31) (hb1 : b < 2 ^ 31) (kt : a ≠ b → W p l e R s m args below meth c H locs cells slots Q (F0 m tgt ls rest)) (kf : a = b → W p l e R s m args below meth c H locs cells slots Q (F0 m (pc + 3) ls rest)) : W p l e R s m args below meth c H locs cells slots Q (F0 m pc ls (.int (nI b) :: .int (nI a) :: rest)) := lv_icmp_ne hx hb hdg ht (fun h => kt (fun q => h (by rw [q]))) (fun h => kf ((nI_eq ha hb1).mp h))
theorem n_ic_lt (hx : p.tables.exec = Jvm.exec) (hb : c.code = cc) (hdg : decode cc pc = .ok (.if_icmp .lt off, 3)) (ht : (pc : Int) + off = (tgt : Int)) (ha : a < 2 ^ 31) (hb1 : b < 2 ^ 31) (kt : a < b → W p l e R s m args below meth c H locs cells slots Q (F0 m tgt ls rest)) (kf : b ≤ a → W p l e R s m args below meth c H locs cells slots Q (F0 m (pc + 3) ls rest)) : W p l e R s m args below meth c H locs cells slots Q (F0 m pc ls (.int (nI b) :: .int (nI a) :: rest)) := lv_icmp_lt hx hb hdg ht (fun h => kt ((nI_ltI ha hb1).mp h)) (fun h => kf (Nat.not_lt.mp (fun q => h ((nI_ltI ha hb1).mpr q))))
theorem n_ic_ge (hx : p.tables.exec = Jvm.exec) (hb : c.code = cc) (hdg : decode cc pc = .ok (.if_icmp .ge off, 3)) (ht : (pc : Int) + off = (tgt : Int)) (ha : a < 2 ^ 31) (hb1 : b < 2 ^ 31) (kt : b ≤ a → W p l e R s m args below meth c H locs cells slots Q (F0 m tgt ls rest)) (kf : a < b → W p l e R s m args below meth c H locs cells slots Q (F0 m (pc + 3) ls rest)) : W p l e R s m args below meth c H locs cells slots Q (F0 m pc ls (.int (nI b) :: .int (nI a) :: rest)) := lv_icmp_ge hx hb hdg ht (fun h => kt ((nI_leI hb1 ha).mp h)) (fun h => kf (Nat.not_le.mp (fun q => h ((nI_leI hb1 ha).mpr q))))
theorem n_ic_gt (hx : p.tables.exec = Jvm.exec) (hb : c.code = cc) (hdg : decode cc pc = .ok (.if_icmp .gt off, 3)) (ht : (pc : Int) + off = (tgt : Int)) (ha : a < 2 ^ 31) (hb1 : b < 2 ^ 31) (kt : b < a → W p l e R s m args below meth c H locs cells slots Q (F0 m tgt ls rest)) (kf : a ≤ b → W p l e R s m args below meth c H locs cells slots Q (F0 m (pc + 3) ls rest)) : W p l e R s m args below meth c H locs cells slots Q (F0 m pc ls (.int (nI b) :: .int (nI a) :: rest)) := lv_icmp_gt hx hb hdg ht (fun h => kt ((nI_ltI hb1 ha).mp h)) (fun h => kf (Nat.not_lt.mp (fun q => h ((nI_ltI hb1 ha).mpr q))))
theorem n_ic_le (hx : p.tables.exec = Jvm.exec) (hb : c.code = cc) (hdg : decode cc pc = .ok (.if_icmp .le off, 3)) (ht : (pc : Int) + off = (tgt : Int)) (ha : a < 2 ^ 31) (hb1 : b < 2 ^ 31) (kt : a ≤ b → W p l e R s m args below meth c H locs cells slots Q (F0 m tgt ls rest)) (kf : b < a → W p l e R s m args below meth c H locs cells slots Q (F0 m (pc + 3) ls rest)) : W p l e R s m args below meth c H locs cells slots Q (F0 m pc ls (.int (nI b) :: .int (nI a) :: rest)) := lv_icmp_le hx hb hdg ht (fun h => kt ((nI_leI ha hb1).mp h)) (fun h => kf (Nat.not_le.mp (fun q => h ((nI_leI ha hb1).mpr q))))
theorem n_if_eq (hx : p.tables.exec = Jvm.exec) (hb : c.code = cc) (hdg : decode cc pc = .ok (.ifCond .eq off, 3)) (ht : (pc : Int) + off = (tgt : Int)) (ha : a < 2 ^ 31) (kt : a = 0 → W p l e R s m args below meth c H locs cells slots Q (F0 m tgt ls rest)) (kf : a ≠ 0 → W p l e R s m args below meth c H locs cells slots Q (F0 m (pc + 3) ls rest)) : W p l e R s m args below meth c H locs cells slots Q (F0 m pc ls (.int (nI a) :: rest)) := lv_if_eq hx hb hdg ht (fun h => kt ((nI_eq ha (by decide)).mp h)) (fun h => kf (fun q => h (by rw [q]; rfl)))
theorem n_if_ne (hx : p.tables.exec = Jvm.exec) (hb : c.code = cc) (hdg : decode cc pc = .ok (.ifCond .ne off, 3)) (ht : (pc : Int) + off = (tgt : Int)) (ha : a < 2 ^ 31) (kt : a ≠ 0 → W p l e R s m args below meth c H locs cells slots Q (F0 m tgt ls rest)) (kf : a = 0 → W p l e R s m args below meth c H locs cells slots Q (F0 m (pc + 3) ls rest)) : W p l e R s m args below meth c H locs cells slots Q (F0 m pc ls (.int (nI a) :: rest)) := lv_if_ne hx hb hdg ht (fun h => kt (fun q => h (by rw [q]; rfl))) (fun h => kf ((nI_eq ha (by decide)).mp h))
theorem n_if_lt (hx : p.tables.exec = Jvm.exec) (hb : c.code = cc) (hdg : decode cc pc = .ok (.ifCond .lt off, 3)) (ht : (pc : Int) + off = (tgt : Int)) (ha : a < 2 ^ 31) (kf : W p l e R s m args below meth c H locs cells slots Q (F0 m (pc + 3) ls rest)) : W p l e R s m args below meth c H locs cells slots Q (F0 m pc ls (.int (nI a) :: rest)) := lv_if_lt hx hb hdg ht (fun h => absurd h (nI_pos ha)) (fun _ => kf)
theorem n_if_ge (hx : p.tables.exec = Jvm.exec) (hb : c.code = cc) (hdg : decode cc pc = .ok (.ifCond .ge off, 3)) (ht : (pc : Int) + off = (tgt : Int)) (ha : a < 2 ^ 31) (kt : W p l e R s m args below meth c H locs cells slots Q (F0 m tgt ls rest)) : W p l e R s m args below meth c H locs cells slots Q (F0 m pc ls (.int (nI a) :: rest)) := lv_if_ge hx hb hdg ht (fun _ => kt) (fun h => absurd (nI_pos' ha) h)
theorem n_if_gt (hx : p.tables.exec = Jvm.exec) (hb : c.code = cc) (hdg : decode cc pc = .ok (.ifCond .gt off, 3)) (ht : (pc : Int) + off = (tgt : Int)) (ha : a < 2 ^ 31) (kt : 0 < a → W p l e R s m args below meth c H locs cells slots Q (F0 m tgt ls rest)) (kf : a = 0 → W p l e R s m args below meth c H locs cells slots Q (F0 m (pc + 3) ls rest)) : W p l e R s m args below meth c H locs cells slots Q (F0 m pc ls (.int (nI a) :: rest)) := lv_if_gt hx hb hdg ht (fun h => kt ((nI_ltI (a := 0) (by decide) ha).mp h)) (fun h => kf (Nat.eq_zero_of_not_pos (fun q => h ((nI_ltI (a := 0) (by decide) ha).mpr q))))
theorem n_if_le (hx : p.tables.exec = Jvm.exec) (hb : c.code = cc) (hdg : decode cc pc = .ok (.ifCond .le off, 3)) (ht : (pc : Int) + off = (tgt : Int)) (ha : a < 2 ^ 31) (kt : a = 0 → W p l e R s m args below meth c H locs cells slots Q (F0 m tgt ls rest)) (kf : 0 < a → W p l e R s m args below meth c H locs cells slots Q (F0 m (pc + 3) ls rest)) : W p l e R s m args below meth c H locs cells slots Q (F0 m pc ls (.int (nI a) :: rest)) := lv_if_le hx hb hdg ht (fun h => kt (Nat.eq_zero_of_not_pos (fun q => (Int32.not_le.mpr ((nI_ltI (a := 0) (by decide) ha).mpr q)) h))) (fun h => kf ((nI_ltI (a := 0) (by decide) ha).mp (Int32.not_le.mp h)))
end NROWS
end
section
/-! ===== array rows on numbers; the methods' shapes ===== -/
theorem ca_eq {D : va_G} {ca : Nat → ClassId} {s : State} {ty : FieldType} {cA cB : ClassId} (h1 : va_RA s cA ty) (h2 : va_RA s cB ty) : cA = cB := by
  have g : ∀ cC : ClassId, va_RA s cC ty → s.vm.findClass ("[" ++ ty.toString) = some cC := by
    intro cC h
    cases ty with
    | object C => obtain ⟨_, _, _, _, _, h4⟩ := h; exact h4
    | _ => exact h
  have a := g cA h1
  have b := g cB h2
  rw [a] at b
  exact Option.some.inj b
section NARR
variable {p : Program} {l : Launch} {e : Env} {R : Room} {s : State} {m : MethodId} {args : Array Value} {below : List Frame} {meth : Method} {c : Code} {H : Heap} {locs : List Loc} {cells slots : Nat} {Q : State → Prop}
variable {cc : ByteArray} {pc : Nat} {ls : Array Slot} {rest : List Value} {D : va_G} {ca : Nat → ClassId} {A : Nat → Prop} {a : Nat} {ws : va_W} {H0 : Heap} {n i : Nat}

theorem n_iald {v : Int32} (hx : p.tables.exec = Jvm.exec) (hb : c.code = cc) (hK : va_K D vwCl (TY ca) s) (hP : va_P D vwCl ws H) (q0 : Nat) {f : Nat → Int32} (ha : ws[q0]? = some (a, .inl (ca 0, n, .inl f))) (hi : i < n) (hn : n < 2 ^ 31) (hv : f i = v) (hdg : decode cc pc = .ok (.iaload, 1)) (kk : W p l e R s m args below meth c H locs cells slots Q (F0 m (pc + 1) ls (.int v :: rest))) : W p l e R s m args below meth c H locs cells slots Q (F0 m pc ls (.int (nI i) :: .ref a :: rest)) :=
  va_iald hx hb hK hP q0 0 ha rfl (vp_in_nI hi hn) hdg (by rw [nI_clamp (by omega), hv]; exact kk)
theorem n_zald {v : Int32} (hx : p.tables.exec = Jvm.exec) (hb : c.code = cc) (hK : va_K D vwCl (TY ca) s) (hP : va_P D vwCl ws H) (q0 : Nat) {f : Nat → Int32} (ha : ws[q0]? = some (a, .inl (ca 3, n, .inl f))) (hi : i < n) (hn : n < 2 ^ 31) (hv : f i = v) (hdg : decode cc pc = .ok (.baload, 1)) (kk : W p l e R s m args below meth c H locs cells slots Q (F0 m (pc + 1) ls (.int v :: rest))) : W p l e R s m args below meth c H locs cells slots Q (F0 m pc ls (.int (nI i) :: .ref a :: rest)) :=
  va_zald hx hb hK hP q0 3 ha rfl (vp_in_nI hi hn) hdg (by rw [nI_clamp (by omega), hv]; exact kk)
theorem n_cald {v : Int32} (hx : p.tables.exec = Jvm.exec) (hb : c.code = cc) (hK : va_K D vwCl (TY ca) s) (hP : va_P D vwCl ws H) (q0 : Nat) {f : Nat → Int32} (ha : ws[q0]? = some (a, .inl (ca 2, n, .inl f))) (hi : i < n) (hn : n < 2 ^ 31) (hv : f i = v) (hdg : decode cc pc = .ok (.caload, 1)) (kk : W p l e R s m args below meth c H locs cells slots Q (F0 m (pc + 1) ls (.int v :: rest))) : W p l e R s m args below meth c H locs cells slots Q (F0 m pc ls (.int (nI i) :: .ref a :: rest)) :=
  va_cald hx hb hK hP q0 2 ha rfl (vp_in_nI hi hn) hdg (by rw [nI_clamp (by omega), hv]; exact kk)
theorem n_lald {v : Int64} (hx : p.tables.exec = Jvm.exec) (hb : c.code = cc) (hK : va_K D vwCl (TY ca) s) (hP : va_P D vwCl ws H) (q0 : Nat) {f : Nat → Int64} (ha : ws[q0]? = some (a, .inl (ca 1, n, .inr (.inl f)))) (hi : i < n) (hn : n < 2 ^ 31) (hv : f i = v) (hdg : decode cc pc = .ok (.laload, 1)) (kk : W p l e R s m args below meth c H locs cells slots Q (F0 m (pc + 1) ls (.long v :: rest))) : W p l e R s m args below meth c H locs cells slots Q (F0 m pc ls (.int (nI i) :: .ref a :: rest)) :=
  va_lald hx hb hK hP q0 1 ha rfl (vp_in_nI hi hn) hdg (by rw [nI_clamp (by omega), hv]; exact kk)
theorem n_qald {v : Value} (hx : p.tables.exec = Jvm.exec) (hb : c.code = cc) (hK : va_K D vwCl (TY ca) s) (hP : va_P D vwCl ws H) (q0 : Nat) {f : Nat → Option Nat} (ha : ws[q0]? = some (a, .inl (ca 4, n, .inr (.inr (.inr (.inr f)))))) (hi : i < n) (hn : n < 2 ^ 31) (hv : va_rf (f i) = v) (hdg : decode cc pc = .ok (.aaload, 1)) (kk : W p l e R s m args below meth c H locs cells slots Q (F0 m (pc + 1) ls (v :: rest))) : W p l e R s m args below meth c H locs cells slots Q (F0 m pc ls (.int (nI i) :: .ref a :: rest)) :=
  va_aldq hx hb hK hP q0 4 ha rfl (vp_in_nI hi hn) hdg (by rw [nI_clamp (by omega), hv]; exact kk)
theorem n_iast (hx : p.tables.exec = Jvm.exec) (hb : c.code = cc) (hK : va_K D vwCl (TY ca) s) (hP : va_P D vwCl ws H) (hD : va_D A ws) (hS : va_S A H0 H locs) (q0 : Nat) {f : Nat → Int32} {x : Int32} (ha : ws[q0]? = some (a, .inl (ca 0, n, .inl f))) (hi : i < n) (hn : n < 2 ^ 31) (hdg : decode cc pc = .ok (.iastore, 1)) (kk : ∀ (H1 : Heap) (locs1 : List Loc), va_P D vwCl (ws.set q0 (a, .inl (ca 0, n, .inl (upd f i x)))) H1 → va_D A (ws.set q0 (a, .inl (ca 0, n, .inl (upd f i x)))) → va_S A H0 H1 locs1 → W p l e R s m args below meth c H1 locs1 cells slots Q (F0 m (pc + 1) ls rest)) : W p l e R s m args below meth c H locs cells slots Q (F0 m pc ls (.int x :: .int (nI i) :: .ref a :: rest)) :=
  va_iast hx hb hK hP hD hS q0 0 ha rfl (vp_in_nI hi hn) hdg (by rw [nI_clamp (by omega)]; exact kk)
theorem n_last (hx : p.tables.exec = Jvm.exec) (hb : c.code = cc) (hK : va_K D vwCl (TY ca) s) (hP : va_P D vwCl ws H) (hD : va_D A ws) (hS : va_S A H0 H locs) (q0 : Nat) {f : Nat → Int64} {x : Int64} (ha : ws[q0]? = some (a, .inl (ca 1, n, .inr (.inl f)))) (hi : i < n) (hn : n < 2 ^ 31) (hdg : decode cc pc = .ok (.lastore, 1)) (kk : ∀ (H1 : Heap) (locs1 : List Loc), va_P D vwCl (ws.set q0 (a, .inl (ca 1, n, .inr (.inl (vp_updL f i x))))) H1 → va_D A (ws.set q0 (a, .inl (ca 1, n, .inr (.inl (vp_updL f i x))))) → va_S A H0 H1 locs1 → W p l e R s m args below meth c H1 locs1 cells slots Q (F0 m (pc + 1) ls rest)) : W p l e R s m args below meth c H locs cells slots Q (F0 m pc ls (.long x :: .int (nI i) :: .ref a :: rest)) :=
  va_last hx hb hK hP hD hS q0 1 ha rfl (vp_in_nI hi hn) hdg (by rw [nI_clamp (by omega)]; exact kk)
theorem n_zast (hx : p.tables.exec = Jvm.exec) (hb : c.code = cc) (hK : va_K D vwCl (TY ca) s) (hP : va_P D vwCl ws H) (hD : va_D A ws) (hS : va_S A H0 H locs) (q0 : Nat) {f : Nat → Int32} {x : Int32} (ha : ws[q0]? = some (a, .inl (ca 3, n, .inl f))) (hi : i < n) (hn : n < 2 ^ 31) (hnar : vp_nar .boolean x = x) (hdg : decode cc pc = .ok (.bastore, 1)) (kk : ∀ (H1 : Heap) (locs1 : List Loc), va_P D vwCl (ws.set q0 (a, .inl (ca 3, n, .inl (upd f i x)))) H1 → va_D A (ws.set q0 (a, .inl (ca 3, n, .inl (upd f i x)))) → va_S A H0 H1 locs1 → W p l e R s m args below meth c H1 locs1 cells slots Q (F0 m (pc + 1) ls rest)) : W p l e R s m args below meth c H locs cells slots Q (F0 m pc ls (.int x :: .int (nI i) :: .ref a :: rest)) :=
  va_zast hx hb hK hP hD hS q0 3 ha rfl (vp_in_nI hi hn) hdg (by rw [nI_clamp (by omega), hnar]; exact kk)
theorem n_cast (hx : p.tables.exec = Jvm.exec) (hb : c.code = cc) (hK : va_K D vwCl (TY ca) s) (hP : va_P D vwCl ws H) (hD : va_D A ws) (hS : va_S A H0 H locs) (q0 : Nat) {f : Nat → Int32} {x : Int32} (ha : ws[q0]? = some (a, .inl (ca 2, n, .inl f))) (hi : i < n) (hn : n < 2 ^ 31) (hnar : vp_nar .char x = x) (hdg : decode cc pc = .ok (.castore, 1)) (kk : ∀ (H1 : Heap) (locs1 : List Loc), va_P D vwCl (ws.set q0 (a, .inl (ca 2, n, .inl (upd f i x)))) H1 → va_D A (ws.set q0 (a, .inl (ca 2, n, .inl (upd f i x)))) → va_S A H0 H1 locs1 → W p l e R s m args below meth c H1 locs1 cells slots Q (F0 m (pc + 1) ls rest)) : W p l e R s m args below meth c H locs cells slots Q (F0 m pc ls (.int x :: .int (nI i) :: .ref a :: rest)) :=
  va_cast hx hb hK hP hD hS q0 2 ha rfl (vp_in_nI hi hn) hdg (by rw [nI_clamp (by omega), hnar]; exact kk)
theorem n_qast {v : Nat} {vs : List Value} (hx : p.tables.exec = Jvm.exec) (hb : c.code = cc) (hK : va_K D vwCl (TY ca) s) (hP : va_P D vwCl ws H) (hD : va_D A ws) (hS : va_S A H0 H locs) (q0 qk : Nat) {f : Nat → Option Nat} (ha : ws[q0]? = some (a, .inl (ca 4, n, .inr (.inr (.inr (.inr f)))))) (hv : ws[qk]? = some (v, .inr (2, vs))) (hi : i < n) (hn : n < 2 ^ 31) (hdg : decode cc pc = .ok (.aastore, 1)) (kk : ∀ (H1 : Heap) (locs1 : List Loc), va_P D vwCl (ws.set q0 (a, .inl (ca 4, n, .inr (.inr (.inr (.inr (va_up f i (some v)))))))) H1 → va_D A (ws.set q0 (a, .inl (ca 4, n, .inr (.inr (.inr (.inr (va_up f i (some v)))))))) → va_S A H0 H1 locs1 → W p l e R s m args below meth c H1 locs1 cells slots Q (F0 m (pc + 1) ls rest)) : W p l e R s m args below meth c H locs cells slots Q (F0 m pc ls (.ref v :: .int (nI i) :: .ref a :: rest)) :=
  va_astq (r := (RX4, TX4, 8)) hx hb hK hP hD hS q0 4 qk 2 ha rfl hv rfl (vp_in_nI hi hn) hdg (by rw [nI_clamp (by omega)]; exact kk)
theorem n_newaI {N1 : Nat} (hx : p.tables.exec = Jvm.exec) (hb : c.code = cc) (harr : (Cond.arrayClass .int).before args s = true) (hK : va_K D vwCl (TY ca) s) (hP : va_P D vwCl ws H) (hD : va_D A ws) (hS : va_S A H0 H locs) (hA : ∀ q, H0.size ≤ q → A q) (hN : N1 < 2 ^ 31) (hbytes : N1 * 8 ≤ 536870912) (hcells : cells + 1 ≤ R.cells) (hslots : slots + N1 ≤ R.slots) (hdg : decode cc pc = .ok (.newarray .int, 2)) (kk : ∀ (q : Nat) (H1 : Heap), va_P D vwCl (ws ++ [(q, .inl (ca 0, N1, .inl (fun _ => 0)))]) H1 → va_D A (ws ++ [(q, .inl (ca 0, N1, .inl (fun _ => 0)))]) → va_S A H0 H1 locs → W p l e R s m args below meth c H1 locs (cells + 1) (slots + N1) Q (F0 m (pc + 2) ls (.ref q :: rest))) : W p l e R s m args below meth c H locs cells slots Q (F0 m pc ls (.int (nI N1) :: rest)) := by
  refine va_newa (D := D) (atype := .int) (a0 := (N1, .inl (fun _ => 0))) (ty := .int) hx hb harr rfl hK hP hD hS hA (fun cA => rfl) (nI_pos hN) (nI_clamp hN) (by simp [componentBytes]; omega) hcells hslots hdg (fun q cA H1 hK1 hP1 hD1 hS1 => ?_)
  have e : cA = ca 0 := ca_eq (D := D) (ca := ca) (hK1.2 5 (cA, .int) rfl).2 (hK.2 0 (ca 0, .int) rfl).2
  subst e
  exact kk q H1 hP1 hD1 hS1
theorem n_newaJ {N1 : Nat} (hx : p.tables.exec = Jvm.exec) (hb : c.code = cc) (harr : (Cond.arrayClass .long).before args s = true) (hK : va_K D vwCl (TY ca) s) (hP : va_P D vwCl ws H) (hD : va_D A ws) (hS : va_S A H0 H locs) (hA : ∀ q, H0.size ≤ q → A q) (hN : N1 < 2 ^ 31) (hbytes : N1 * 8 ≤ 536870912) (hcells : cells + 1 ≤ R.cells) (hslots : slots + N1 ≤ R.slots) (hdg : decode cc pc = .ok (.newarray .long, 2)) (kk : ∀ (q : Nat) (H1 : Heap), va_P D vwCl (ws ++ [(q, .inl (ca 1, N1, .inr (.inl (fun _ => 0))))]) H1 → va_D A (ws ++ [(q, .inl (ca 1, N1, .inr (.inl (fun _ => 0))))]) → va_S A H0 H1 locs → W p l e R s m args below meth c H1 locs (cells + 1) (slots + N1) Q (F0 m (pc + 2) ls (.ref q :: rest))) : W p l e R s m args below meth c H locs cells slots Q (F0 m pc ls (.int (nI N1) :: rest)) := by
  refine va_newa (D := D) (atype := .long) (a0 := (N1, .inr (.inl (fun _ => 0)))) (ty := .long) hx hb harr rfl hK hP hD hS hA (fun cA => rfl) (nI_pos hN) (nI_clamp hN) (by simp [componentBytes]; omega) hcells hslots hdg (fun q cA H1 hK1 hP1 hD1 hS1 => ?_)
  have e : cA = ca 1 := ca_eq (D := D) (ca := ca) (hK1.2 5 (cA, .long) rfl).2 (hK.2 1 (ca 1, .long) rfl).2
  subst e
  exact kk q H1 hP1 hD1 hS1
theorem n_newaC {N1 : Nat} (hx : p.tables.exec = Jvm.exec) (hb : c.code = cc) (harr : (Cond.arrayClass .char).before args s = true) (hK : va_K D vwCl (TY ca) s) (hP : va_P D vwCl ws H) (hD : va_D A ws) (hS : va_S A H0 H locs) (hA : ∀ q, H0.size ≤ q → A q) (hN : N1 < 2 ^ 31) (hbytes : N1 * 8 ≤ 536870912) (hcells : cells + 1 ≤ R.cells) (hslots : slots + N1 ≤ R.slots) (hdg : decode cc pc = .ok (.newarray .char, 2)) (kk : ∀ (q : Nat) (H1 : Heap), va_P D vwCl (ws ++ [(q, .inl (ca 2, N1, .inl (fun _ => 0)))]) H1 → va_D A (ws ++ [(q, .inl (ca 2, N1, .inl (fun _ => 0)))]) → va_S A H0 H1 locs → W p l e R s m args below meth c H1 locs (cells + 1) (slots + N1) Q (F0 m (pc + 2) ls (.ref q :: rest))) : W p l e R s m args below meth c H locs cells slots Q (F0 m pc ls (.int (nI N1) :: rest)) := by
  refine va_newa (D := D) (atype := .char) (a0 := (N1, .inl (fun _ => 0))) (ty := .char) hx hb harr rfl hK hP hD hS hA (fun cA => rfl) (nI_pos hN) (nI_clamp hN) (by simp [componentBytes]; omega) hcells hslots hdg (fun q cA H1 hK1 hP1 hD1 hS1 => ?_)
  have e : cA = ca 2 := ca_eq (D := D) (ca := ca) (hK1.2 5 (cA, .char) rfl).2 (hK.2 2 (ca 2, .char) rfl).2
  subst e
  exact kk q H1 hP1 hD1 hS1
theorem n_newaZ {N1 : Nat} (hx : p.tables.exec = Jvm.exec) (hb : c.code = cc) (harr : (Cond.arrayClass .boolean).before args s = true) (hK : va_K D vwCl (TY ca) s) (hP : va_P D vwCl ws H) (hD : va_D A ws) (hS : va_S A H0 H locs) (hA : ∀ q, H0.size ≤ q → A q) (hN : N1 < 2 ^ 31) (hbytes : N1 * 8 ≤ 536870912) (hcells : cells + 1 ≤ R.cells) (hslots : slots + N1 ≤ R.slots) (hdg : decode cc pc = .ok (.newarray .boolean, 2)) (kk : ∀ (q : Nat) (H1 : Heap), va_P D vwCl (ws ++ [(q, .inl (ca 3, N1, .inl (fun _ => 0)))]) H1 → va_D A (ws ++ [(q, .inl (ca 3, N1, .inl (fun _ => 0)))]) → va_S A H0 H1 locs → W p l e R s m args below meth c H1 locs (cells + 1) (slots + N1) Q (F0 m (pc + 2) ls (.ref q :: rest))) : W p l e R s m args below meth c H locs cells slots Q (F0 m pc ls (.int (nI N1) :: rest)) := by
  refine va_newa (D := D) (atype := .boolean) (a0 := (N1, .inl (fun _ => 0))) (ty := .boolean) hx hb harr rfl hK hP hD hS hA (fun cA => rfl) (nI_pos hN) (nI_clamp hN) (by simp [componentBytes]; omega) hcells hslots hdg (fun q cA H1 hK1 hP1 hD1 hS1 => ?_)
  have e : cA = ca 3 := ca_eq (D := D) (ca := ca) (hK1.2 5 (cA, .boolean) rfl).2 (hK.2 3 (ca 3, .boolean) rfl).2
  subst e
  exact kk q H1 hP1 hD1 hS1
theorem n_newq {N1 index : Nat} {own : String} (hx : p.tables.exec = Jvm.exec) (hb : c.code = cc) (hown : s.vm.findClass own = some m.cls) (hcl : (Cond.classLink own index "RenamingGrid$State").before args s = true) (hao : (Cond.arrayOver (.object "RenamingGrid$State")).before args s = true) (hK : va_K D vwCl (TY ca) s) (hP : va_P D vwCl ws H) (hD : va_D A ws) (hS : va_S A H0 H locs) (hA : ∀ q, H0.size ≤ q → A q) (hN : N1 < 2 ^ 31) (hbytes : N1 * 4 ≤ 536870912) (hcells : cells + 1 ≤ R.cells) (hslots : slots + N1 ≤ R.slots) (hdg : decode cc pc = .ok (.anewarray index, 3)) (kk : ∀ (q : Nat) (H1 : Heap), va_P D vwCl (ws ++ [(q, .inl (ca 4, N1, .inr (.inr (.inr (.inr (fun _ => none))))))]) H1 → va_D A (ws ++ [(q, .inl (ca 4, N1, .inr (.inr (.inr (.inr (fun _ => none))))))]) → va_S A H0 H1 locs → W p l e R s m args below meth c H1 locs (cells + 1) (slots + N1) Q (F0 m (pc + 3) ls (.ref q :: rest))) : W p l e R s m args below meth c H locs cells slots Q (F0 m pc ls (.int (nI N1) :: rest)) := by
  refine va_newq (D := D) hx hb hown hcl (va_AO.of hao) hK hP hD hS hA (nI_pos hN) (nI_clamp hN) hbytes hcells hslots hdg (fun q cA H1 hK1 hP1 hD1 hS1 => ?_)
  have e : cA = ca 4 := ca_eq (D := D) (ca := ca) (hK1.2 5 (cA, .object "RenamingGrid$State") rfl).2 (hK.2 4 (ca 4, .object "RenamingGrid$State") rfl).2
  subst e
  exact kk q H1 hP1 hD1 hS1
end NARR
theorem qX0_statusIn : yX0_statusIn.cls ≠ "java/lang/invoke/MethodHandle" ∧ yX0_statusIn.cls ≠ "java/lang/invoke/VarHandle" ∧ (parseMethodDescriptor yX0_statusIn.desc).map (fun d => d.parameters.length) = some 2 := by decide +kernel
theorem qX0_phaseIn : yX0_phaseIn.cls ≠ "java/lang/invoke/MethodHandle" ∧ yX0_phaseIn.cls ≠ "java/lang/invoke/VarHandle" ∧ (parseMethodDescriptor yX0_phaseIn.desc).map (fun d => d.parameters.length) = some 2 := by decide +kernel
theorem qX0_splitterIn : yX0_splitterIn.cls ≠ "java/lang/invoke/MethodHandle" ∧ yX0_splitterIn.cls ≠ "java/lang/invoke/VarHandle" ∧ (parseMethodDescriptor yX0_splitterIn.desc).map (fun d => d.parameters.length) = some 2 := by decide +kernel
theorem qX0_nameIn : yX0_nameIn.cls ≠ "java/lang/invoke/MethodHandle" ∧ yX0_nameIn.cls ≠ "java/lang/invoke/VarHandle" ∧ (parseMethodDescriptor yX0_nameIn.desc).map (fun d => d.parameters.length) = some 2 := by decide +kernel
theorem qX0_ownerShift : yX0_ownerShift.cls ≠ "java/lang/invoke/MethodHandle" ∧ yX0_ownerShift.cls ≠ "java/lang/invoke/VarHandle" ∧ (parseMethodDescriptor yX0_ownerShift.desc).map (fun d => d.parameters.length) = some 1 := by decide +kernel
theorem qX0_ownerIn : yX0_ownerIn.cls ≠ "java/lang/invoke/MethodHandle" ∧ yX0_ownerIn.cls ≠ "java/lang/invoke/VarHandle" ∧ (parseMethodDescriptor yX0_ownerIn.desc).map (fun d => d.parameters.length) = some 2 := by decide +kernel
theorem qX0_doorIn : yX0_doorIn.cls ≠ "java/lang/invoke/MethodHandle" ∧ yX0_doorIn.cls ≠ "java/lang/invoke/VarHandle" ∧ (parseMethodDescriptor yX0_doorIn.desc).map (fun d => d.parameters.length) = some 2 := by decide +kernel
theorem qX0_withStatus : yX0_withStatus.cls ≠ "java/lang/invoke/MethodHandle" ∧ yX0_withStatus.cls ≠ "java/lang/invoke/VarHandle" ∧ (parseMethodDescriptor yX0_withStatus.desc).map (fun d => d.parameters.length) = some 3 := by decide +kernel
theorem qX0_withOwner : yX0_withOwner.cls ≠ "java/lang/invoke/MethodHandle" ∧ yX0_withOwner.cls ≠ "java/lang/invoke/VarHandle" ∧ (parseMethodDescriptor yX0_withOwner.desc).map (fun d => d.parameters.length) = some 3 := by decide +kernel
theorem qX0_withPhase : yX0_withPhase.cls ≠ "java/lang/invoke/MethodHandle" ∧ yX0_withPhase.cls ≠ "java/lang/invoke/VarHandle" ∧ (parseMethodDescriptor yX0_withPhase.desc).map (fun d => d.parameters.length) = some 3 := by decide +kernel
theorem qX0_diagonalOf : yX0_diagonalOf.cls ≠ "java/lang/invoke/MethodHandle" ∧ yX0_diagonalOf.cls ≠ "java/lang/invoke/VarHandle" ∧ (parseMethodDescriptor yX0_diagonalOf.desc).map (fun d => d.parameters.length) = some 1 := by decide +kernel
theorem qX0_moved : yX0_moved.cls ≠ "java/lang/invoke/MethodHandle" ∧ yX0_moved.cls ≠ "java/lang/invoke/VarHandle" ∧ (parseMethodDescriptor yX0_moved.desc).map (fun d => d.parameters.length) = some 4 := by decide +kernel
theorem qX0_withDoorClosed : yX0_withDoorClosed.cls ≠ "java/lang/invoke/MethodHandle" ∧ yX0_withDoorClosed.cls ≠ "java/lang/invoke/VarHandle" ∧ (parseMethodDescriptor yX0_withDoorClosed.desc).map (fun d => d.parameters.length) = some 2 := by decide +kernel
theorem qX0_afterStep : yX0_afterStep.cls ≠ "java/lang/invoke/MethodHandle" ∧ yX0_afterStep.cls ≠ "java/lang/invoke/VarHandle" ∧ (parseMethodDescriptor yX0_afterStep.desc).map (fun d => d.parameters.length) = some 4 := by decide +kernel
theorem qX1_countIn : yX1_countIn.cls ≠ "java/lang/invoke/MethodHandle" ∧ yX1_countIn.cls ≠ "java/lang/invoke/VarHandle" ∧ (parseMethodDescriptor yX1_countIn.desc).map (fun d => d.parameters.length) = some 2 := by decide +kernel
theorem qX1_withOneMore : yX1_withOneMore.cls ≠ "java/lang/invoke/MethodHandle" ∧ yX1_withOneMore.cls ≠ "java/lang/invoke/VarHandle" ∧ (parseMethodDescriptor yX1_withOneMore.desc).map (fun d => d.parameters.length) = some 2 := by decide +kernel
theorem qX2_init : yX2_init.cls ≠ "java/lang/invoke/MethodHandle" ∧ yX2_init.cls ≠ "java/lang/invoke/VarHandle" ∧ (parseMethodDescriptor yX2_init.desc).map (fun d => d.parameters.length) = some 0 := by decide +kernel
theorem qJ7_fill_53178 : yJ7_fill_53178.cls ≠ "java/lang/invoke/MethodHandle" ∧ yJ7_fill_53178.cls ≠ "java/lang/invoke/VarHandle" ∧ (parseMethodDescriptor yJ7_fill_53178.desc).map (fun d => d.parameters.length) = some 2 := by decide +kernel
theorem qX2_keep : yX2_keep.cls ≠ "java/lang/invoke/MethodHandle" ∧ yX2_keep.cls ≠ "java/lang/invoke/VarHandle" ∧ (parseMethodDescriptor yX2_keep.desc).map (fun d => d.parameters.length) = some 3 := by decide +kernel
theorem qX2_foundAt : yX2_foundAt.cls ≠ "java/lang/invoke/MethodHandle" ∧ yX2_foundAt.cls ≠ "java/lang/invoke/VarHandle" ∧ (parseMethodDescriptor yX2_foundAt.desc).map (fun d => d.parameters.length) = some 1 := by decide +kernel
theorem qX2_find : yX2_find.cls ≠ "java/lang/invoke/MethodHandle" ∧ yX2_find.cls ≠ "java/lang/invoke/VarHandle" ∧ (parseMethodDescriptor yX2_find.desc).map (fun d => d.parameters.length) = some 3 := by decide +kernel
theorem qX2_findNext : yX2_findNext.cls ≠ "java/lang/invoke/MethodHandle" ∧ yX2_findNext.cls ≠ "java/lang/invoke/VarHandle" ∧ (parseMethodDescriptor yX2_findNext.desc).map (fun d => d.parameters.length) = some 2 := by decide +kernel
theorem qX2_findAllFrom : yX2_findAllFrom.cls ≠ "java/lang/invoke/MethodHandle" ∧ yX2_findAllFrom.cls ≠ "java/lang/invoke/VarHandle" ∧ (parseMethodDescriptor yX2_findAllFrom.desc).map (fun d => d.parameters.length) = some 1 := by decide +kernel
theorem qX2_isFinal : yX2_isFinal.cls ≠ "java/lang/invoke/MethodHandle" ∧ yX2_isFinal.cls ≠ "java/lang/invoke/VarHandle" ∧ (parseMethodDescriptor yX2_isFinal.desc).map (fun d => d.parameters.length) = some 1 := by decide +kernel
theorem qX2_countFinals : yX2_countFinals.cls ≠ "java/lang/invoke/MethodHandle" ∧ yX2_countFinals.cls ≠ "java/lang/invoke/VarHandle" ∧ (parseMethodDescriptor yX2_countFinals.desc).map (fun d => d.parameters.length) = some 0 := by decide +kernel
theorem qX2_countFinalsNamed : yX2_countFinalsNamed.cls ≠ "java/lang/invoke/MethodHandle" ∧ yX2_countFinalsNamed.cls ≠ "java/lang/invoke/VarHandle" ∧ (parseMethodDescriptor yX2_countFinalsNamed.desc).map (fun d => d.parameters.length) = some 2 := by decide +kernel
theorem qX2_isViolation : yX2_isViolation.cls ≠ "java/lang/invoke/MethodHandle" ∧ yX2_isViolation.cls ≠ "java/lang/invoke/VarHandle" ∧ (parseMethodDescriptor yX2_isViolation.desc).map (fun d => d.parameters.length) = some 1 := by decide +kernel
theorem qX2_countViolations : yX2_countViolations.cls ≠ "java/lang/invoke/MethodHandle" ∧ yX2_countViolations.cls ≠ "java/lang/invoke/VarHandle" ∧ (parseMethodDescriptor yX2_countViolations.desc).map (fun d => d.parameters.length) = some 0 := by decide +kernel
theorem qJ7_fill_d0a16 : yJ7_fill_d0a16.cls ≠ "java/lang/invoke/MethodHandle" ∧ yJ7_fill_d0a16.cls ≠ "java/lang/invoke/VarHandle" ∧ (parseMethodDescriptor yJ7_fill_d0a16.desc).map (fun d => d.parameters.length) = some 2 := by decide +kernel
theorem qX2_outcomeOf : yX2_outcomeOf.cls ≠ "java/lang/invoke/MethodHandle" ∧ yX2_outcomeOf.cls ≠ "java/lang/invoke/VarHandle" ∧ (parseMethodDescriptor yX2_outcomeOf.desc).map (fun d => d.parameters.length) = some 1 := by decide +kernel
theorem qX2_markOutcome : yX2_markOutcome.cls ≠ "java/lang/invoke/MethodHandle" ∧ yX2_markOutcome.cls ≠ "java/lang/invoke/VarHandle" ∧ (parseMethodDescriptor yX2_markOutcome.desc).map (fun d => d.parameters.length) = some 1 := by decide +kernel
theorem qJ13_bitCount_95d88 : yJ13_bitCount_95d88.cls ≠ "java/lang/invoke/MethodHandle" ∧ yJ13_bitCount_95d88.cls ≠ "java/lang/invoke/VarHandle" ∧ (parseMethodDescriptor yJ13_bitCount_95d88.desc).map (fun d => d.parameters.length) = some 1 := by decide +kernel
theorem qX2_countOutcomes : yX2_countOutcomes.cls ≠ "java/lang/invoke/MethodHandle" ∧ yX2_countOutcomes.cls ≠ "java/lang/invoke/VarHandle" ∧ (parseMethodDescriptor yX2_countOutcomes.desc).map (fun d => d.parameters.length) = some 0 := by decide +kernel
theorem qX2_highestName : yX2_highestName.cls ≠ "java/lang/invoke/MethodHandle" ∧ yX2_highestName.cls ≠ "java/lang/invoke/VarHandle" ∧ (parseMethodDescriptor yX2_highestName.desc).map (fun d => d.parameters.length) = some 0 := by decide +kernel
theorem qX2_parentOf : yX2_parentOf.cls ≠ "java/lang/invoke/MethodHandle" ∧ yX2_parentOf.cls ≠ "java/lang/invoke/VarHandle" ∧ (parseMethodDescriptor yX2_parentOf.desc).map (fun d => d.parameters.length) = some 1 := by decide +kernel
theorem qX2_depthOf : yX2_depthOf.cls ≠ "java/lang/invoke/MethodHandle" ∧ yX2_depthOf.cls ≠ "java/lang/invoke/VarHandle" ∧ (parseMethodDescriptor yX2_depthOf.desc).map (fun d => d.parameters.length) = some 1 := by decide +kernel
theorem qX2_firstViolation : yX2_firstViolation.cls ≠ "java/lang/invoke/MethodHandle" ∧ yX2_firstViolation.cls ≠ "java/lang/invoke/VarHandle" ∧ (parseMethodDescriptor yX2_firstViolation.desc).map (fun d => d.parameters.length) = some 0 := by decide +kernel
theorem qX2_moverTowardsViolation : yX2_moverTowardsViolation.cls ≠ "java/lang/invoke/MethodHandle" ∧ yX2_moverTowardsViolation.cls ≠ "java/lang/invoke/VarHandle" ∧ (parseMethodDescriptor yX2_moverTowardsViolation.desc).map (fun d => d.parameters.length) = some 1 := by decide +kernel
theorem qX3_init : yX3_init.cls ≠ "java/lang/invoke/MethodHandle" ∧ yX3_init.cls ≠ "java/lang/invoke/VarHandle" ∧ (parseMethodDescriptor yX3_init.desc).map (fun d => d.parameters.length) = some 0 := by decide +kernel
theorem qX3_isFull : yX3_isFull.cls ≠ "java/lang/invoke/MethodHandle" ∧ yX3_isFull.cls ≠ "java/lang/invoke/VarHandle" ∧ (parseMethodDescriptor yX3_isFull.desc).map (fun d => d.parameters.length) = some 0 := by decide +kernel
theorem qX3_add : yX3_add.cls ≠ "java/lang/invoke/MethodHandle" ∧ yX3_add.cls ≠ "java/lang/invoke/VarHandle" ∧ (parseMethodDescriptor yX3_add.desc).map (fun d => d.parameters.length) = some 1 := by decide +kernel
theorem qX3_clear : yX3_clear.cls ≠ "java/lang/invoke/MethodHandle" ∧ yX3_clear.cls ≠ "java/lang/invoke/VarHandle" ∧ (parseMethodDescriptor yX3_clear.desc).map (fun d => d.parameters.length) = some 0 := by decide +kernel
theorem qX3_characterAt : yX3_characterAt.cls ≠ "java/lang/invoke/MethodHandle" ∧ yX3_characterAt.cls ≠ "java/lang/invoke/VarHandle" ∧ (parseMethodDescriptor yX3_characterAt.desc).map (fun d => d.parameters.length) = some 1 := by decide +kernel
theorem qX3_digitAt : yX3_digitAt.cls ≠ "java/lang/invoke/MethodHandle" ∧ yX3_digitAt.cls ≠ "java/lang/invoke/VarHandle" ∧ (parseMethodDescriptor yX3_digitAt.desc).map (fun d => d.parameters.length) = some 1 := by decide +kernel
theorem qX3_beginsToken : yX3_beginsToken.cls ≠ "java/lang/invoke/MethodHandle" ∧ yX3_beginsToken.cls ≠ "java/lang/invoke/VarHandle" ∧ (parseMethodDescriptor yX3_beginsToken.desc).map (fun d => d.parameters.length) = some 1 := by decide +kernel
theorem qX3_numberAt : yX3_numberAt.cls ≠ "java/lang/invoke/MethodHandle" ∧ yX3_numberAt.cls ≠ "java/lang/invoke/VarHandle" ∧ (parseMethodDescriptor yX3_numberAt.desc).map (fun d => d.parameters.length) = some 1 := by decide +kernel
theorem qX3_addItem : yX3_addItem.cls ≠ "java/lang/invoke/MethodHandle" ∧ yX3_addItem.cls ≠ "java/lang/invoke/VarHandle" ∧ (parseMethodDescriptor yX3_addItem.desc).map (fun d => d.parameters.length) = some 1 := by decide +kernel
theorem qX3_setCount : yX3_setCount.cls ≠ "java/lang/invoke/MethodHandle" ∧ yX3_setCount.cls ≠ "java/lang/invoke/VarHandle" ∧ (parseMethodDescriptor yX3_setCount.desc).map (fun d => d.parameters.length) = some 1 := by decide +kernel
theorem qX3_afterToken : yX3_afterToken.cls ≠ "java/lang/invoke/MethodHandle" ∧ yX3_afterToken.cls ≠ "java/lang/invoke/VarHandle" ∧ (parseMethodDescriptor yX3_afterToken.desc).map (fun d => d.parameters.length) = some 3 := by decide +kernel
theorem qX3_read : yX3_read.cls ≠ "java/lang/invoke/MethodHandle" ∧ yX3_read.cls ≠ "java/lang/invoke/VarHandle" ∧ (parseMethodDescriptor yX3_read.desc).map (fun d => d.parameters.length) = some 1 := by decide +kernel
theorem qX4_isRunning : yX4_isRunning.cls ≠ "java/lang/invoke/MethodHandle" ∧ yX4_isRunning.cls ≠ "java/lang/invoke/VarHandle" ∧ (parseMethodDescriptor yX4_isRunning.desc).map (fun d => d.parameters.length) = some 1 := by decide +kernel
theorem qX4_countExit : yX4_countExit.cls ≠ "java/lang/invoke/MethodHandle" ∧ yX4_countExit.cls ≠ "java/lang/invoke/VarHandle" ∧ (parseMethodDescriptor yX4_countExit.desc).map (fun d => d.parameters.length) = some 2 := by decide +kernel
theorem qX4_advance : yX4_advance.cls ≠ "java/lang/invoke/MethodHandle" ∧ yX4_advance.cls ≠ "java/lang/invoke/VarHandle" ∧ (parseMethodDescriptor yX4_advance.desc).map (fun d => d.parameters.length) = some 1 := by decide +kernel
theorem qX4_advanceUpTo : yX4_advanceUpTo.cls ≠ "java/lang/invoke/MethodHandle" ∧ yX4_advanceUpTo.cls ≠ "java/lang/invoke/VarHandle" ∧ (parseMethodDescriptor yX4_advanceUpTo.desc).map (fun d => d.parameters.length) = some 2 := by decide +kernel
theorem qX3_executeOn : yX3_executeOn.cls ≠ "java/lang/invoke/MethodHandle" ∧ yX3_executeOn.cls ≠ "java/lang/invoke/VarHandle" ∧ (parseMethodDescriptor yX3_executeOn.desc).map (fun d => d.parameters.length) = some 1 := by decide +kernel
theorem qX4_init : yX4_init.cls ≠ "java/lang/invoke/MethodHandle" ∧ yX4_init.cls ≠ "java/lang/invoke/VarHandle" ∧ (parseMethodDescriptor yX4_init.desc).map (fun d => d.parameters.length) = some 0 := by decide +kernel
theorem qX4_begin : yX4_begin.cls ≠ "java/lang/invoke/MethodHandle" ∧ yX4_begin.cls ≠ "java/lang/invoke/VarHandle" ∧ (parseMethodDescriptor yX4_begin.desc).map (fun d => d.parameters.length) = some 3 := by decide +kernel
theorem qX4_copyFrom : yX4_copyFrom.cls ≠ "java/lang/invoke/MethodHandle" ∧ yX4_copyFrom.cls ≠ "java/lang/invoke/VarHandle" ∧ (parseMethodDescriptor yX4_copyFrom.desc).map (fun d => d.parameters.length) = some 1 := by decide +kernel
theorem qX4_names : yX4_names.cls ≠ "java/lang/invoke/MethodHandle" ∧ yX4_names.cls ≠ "java/lang/invoke/VarHandle" ∧ (parseMethodDescriptor yX4_names.desc).map (fun d => d.parameters.length) = some 0 := by decide +kernel
theorem qX4_hasProcess : yX4_hasProcess.cls ≠ "java/lang/invoke/MethodHandle" ∧ yX4_hasProcess.cls ≠ "java/lang/invoke/VarHandle" ∧ (parseMethodDescriptor yX4_hasProcess.desc).map (fun d => d.parameters.length) = some 1 := by decide +kernel
theorem qX4_hasSplitter : yX4_hasSplitter.cls ≠ "java/lang/invoke/MethodHandle" ∧ yX4_hasSplitter.cls ≠ "java/lang/invoke/VarHandle" ∧ (parseMethodDescriptor yX4_hasSplitter.desc).map (fun d => d.parameters.length) = some 1 := by decide +kernel
theorem qX4_countRunning : yX4_countRunning.cls ≠ "java/lang/invoke/MethodHandle" ∧ yX4_countRunning.cls ≠ "java/lang/invoke/VarHandle" ∧ (parseMethodDescriptor yX4_countRunning.desc).map (fun d => d.parameters.length) = some 0 := by decide +kernel
theorem qX4_markCrashed : yX4_markCrashed.cls ≠ "java/lang/invoke/MethodHandle" ∧ yX4_markCrashed.cls ≠ "java/lang/invoke/VarHandle" ∧ (parseMethodDescriptor yX4_markCrashed.desc).map (fun d => d.parameters.length) = some 1 := by decide +kernel
theorem qX5_init : yX5_init.cls ≠ "java/lang/invoke/MethodHandle" ∧ yX5_init.cls ≠ "java/lang/invoke/VarHandle" ∧ (parseMethodDescriptor yX5_init.desc).map (fun d => d.parameters.length) = some 0 := by decide +kernel
theorem qX5_discardOldestSaved : yX5_discardOldestSaved.cls ≠ "java/lang/invoke/MethodHandle" ∧ yX5_discardOldestSaved.cls ≠ "java/lang/invoke/VarHandle" ∧ (parseMethodDescriptor yX5_discardOldestSaved.desc).map (fun d => d.parameters.length) = some 0 := by decide +kernel
theorem qX5_prepareChange : yX5_prepareChange.cls ≠ "java/lang/invoke/MethodHandle" ∧ yX5_prepareChange.cls ≠ "java/lang/invoke/VarHandle" ∧ (parseMethodDescriptor yX5_prepareChange.desc).map (fun d => d.parameters.length) = some 0 := by decide +kernel
theorem qX5_configure : yX5_configure.cls ≠ "java/lang/invoke/MethodHandle" ∧ yX5_configure.cls ≠ "java/lang/invoke/VarHandle" ∧ (parseMethodDescriptor yX5_configure.desc).map (fun d => d.parameters.length) = some 3 := by decide +kernel
theorem qX5_nameCount : yX5_nameCount.cls ≠ "java/lang/invoke/MethodHandle" ∧ yX5_nameCount.cls ≠ "java/lang/invoke/VarHandle" ∧ (parseMethodDescriptor yX5_nameCount.desc).map (fun d => d.parameters.length) = some 0 := by decide +kernel
theorem qX5_processCount : yX5_processCount.cls ≠ "java/lang/invoke/MethodHandle" ∧ yX5_processCount.cls ≠ "java/lang/invoke/VarHandle" ∧ (parseMethodDescriptor yX5_processCount.desc).map (fun d => d.parameters.length) = some 0 := by decide +kernel
theorem qX5_step : yX5_step.cls ≠ "java/lang/invoke/MethodHandle" ∧ yX5_step.cls ≠ "java/lang/invoke/VarHandle" ∧ (parseMethodDescriptor yX5_step.desc).map (fun d => d.parameters.length) = some 1 := by decide +kernel
theorem qX5_crash : yX5_crash.cls ≠ "java/lang/invoke/MethodHandle" ∧ yX5_crash.cls ≠ "java/lang/invoke/VarHandle" ∧ (parseMethodDescriptor yX5_crash.desc).map (fun d => d.parameters.length) = some 1 := by decide +kernel
theorem qX5_append : yX5_append.cls ≠ "java/lang/invoke/MethodHandle" ∧ yX5_append.cls ≠ "java/lang/invoke/VarHandle" ∧ (parseMethodDescriptor yX5_append.desc).map (fun d => d.parameters.length) = some 1 := by decide +kernel
theorem qX5_clearText : yX5_clearText.cls ≠ "java/lang/invoke/MethodHandle" ∧ yX5_clearText.cls ≠ "java/lang/invoke/VarHandle" ∧ (parseMethodDescriptor yX5_clearText.desc).map (fun d => d.parameters.length) = some 0 := by decide +kernel
theorem qX5_runText : yX5_runText.cls ≠ "java/lang/invoke/MethodHandle" ∧ yX5_runText.cls ≠ "java/lang/invoke/VarHandle" ∧ (parseMethodDescriptor yX5_runText.desc).map (fun d => d.parameters.length) = some 0 := by decide +kernel
theorem qX5_status : yX5_status.cls ≠ "java/lang/invoke/MethodHandle" ∧ yX5_status.cls ≠ "java/lang/invoke/VarHandle" ∧ (parseMethodDescriptor yX5_status.desc).map (fun d => d.parameters.length) = some 1 := by decide +kernel
theorem qX5_splitterOf : yX5_splitterOf.cls ≠ "java/lang/invoke/MethodHandle" ∧ yX5_splitterOf.cls ≠ "java/lang/invoke/VarHandle" ∧ (parseMethodDescriptor yX5_splitterOf.desc).map (fun d => d.parameters.length) = some 1 := by decide +kernel
theorem qX5_phaseOf : yX5_phaseOf.cls ≠ "java/lang/invoke/MethodHandle" ∧ yX5_phaseOf.cls ≠ "java/lang/invoke/VarHandle" ∧ (parseMethodDescriptor yX5_phaseOf.desc).map (fun d => d.parameters.length) = some 1 := by decide +kernel
theorem qX5_stepsOf : yX5_stepsOf.cls ≠ "java/lang/invoke/MethodHandle" ∧ yX5_stepsOf.cls ≠ "java/lang/invoke/VarHandle" ∧ (parseMethodDescriptor yX5_stepsOf.desc).map (fun d => d.parameters.length) = some 1 := by decide +kernel
theorem qX5_soloSteps : yX5_soloSteps.cls ≠ "java/lang/invoke/MethodHandle" ∧ yX5_soloSteps.cls ≠ "java/lang/invoke/VarHandle" ∧ (parseMethodDescriptor yX5_soloSteps.desc).map (fun d => d.parameters.length) = some 1 := by decide +kernel
theorem qX5_soloName : yX5_soloName.cls ≠ "java/lang/invoke/MethodHandle" ∧ yX5_soloName.cls ≠ "java/lang/invoke/VarHandle" ∧ (parseMethodDescriptor yX5_soloName.desc).map (fun d => d.parameters.length) = some 1 := by decide +kernel
theorem qX5_owner : yX5_owner.cls ≠ "java/lang/invoke/MethodHandle" ∧ yX5_owner.cls ≠ "java/lang/invoke/VarHandle" ∧ (parseMethodDescriptor yX5_owner.desc).map (fun d => d.parameters.length) = some 1 := by decide +kernel
theorem qX5_door : yX5_door.cls ≠ "java/lang/invoke/MethodHandle" ∧ yX5_door.cls ≠ "java/lang/invoke/VarHandle" ∧ (parseMethodDescriptor yX5_door.desc).map (fun d => d.parameters.length) = some 1 := by decide +kernel
theorem qX5_entered : yX5_entered.cls ≠ "java/lang/invoke/MethodHandle" ∧ yX5_entered.cls ≠ "java/lang/invoke/VarHandle" ∧ (parseMethodDescriptor yX5_entered.desc).map (fun d => d.parameters.length) = some 1 := by decide +kernel
theorem qX5_left : yX5_left.cls ≠ "java/lang/invoke/MethodHandle" ∧ yX5_left.cls ≠ "java/lang/invoke/VarHandle" ∧ (parseMethodDescriptor yX5_left.desc).map (fun d => d.parameters.length) = some 2 := by decide +kernel
theorem qX5_explore : yX5_explore.cls ≠ "java/lang/invoke/MethodHandle" ∧ yX5_explore.cls ≠ "java/lang/invoke/VarHandle" ∧ (parseMethodDescriptor yX5_explore.desc).map (fun d => d.parameters.length) = some 0 := by decide +kernel
theorem qX5_finalCount : yX5_finalCount.cls ≠ "java/lang/invoke/MethodHandle" ∧ yX5_finalCount.cls ≠ "java/lang/invoke/VarHandle" ∧ (parseMethodDescriptor yX5_finalCount.desc).map (fun d => d.parameters.length) = some 0 := by decide +kernel
theorem qX5_violationCount : yX5_violationCount.cls ≠ "java/lang/invoke/MethodHandle" ∧ yX5_violationCount.cls ≠ "java/lang/invoke/VarHandle" ∧ (parseMethodDescriptor yX5_violationCount.desc).map (fun d => d.parameters.length) = some 0 := by decide +kernel
theorem qX5_violationStep : yX5_violationStep.cls ≠ "java/lang/invoke/MethodHandle" ∧ yX5_violationStep.cls ≠ "java/lang/invoke/VarHandle" ∧ (parseMethodDescriptor yX5_violationStep.desc).map (fun d => d.parameters.length) = some 1 := by decide +kernel
theorem qX5_greatestDepth : yX5_greatestDepth.cls ≠ "java/lang/invoke/MethodHandle" ∧ yX5_greatestDepth.cls ≠ "java/lang/invoke/VarHandle" ∧ (parseMethodDescriptor yX5_greatestDepth.desc).map (fun d => d.parameters.length) = some 0 := by decide +kernel
theorem qX5_greatestName : yX5_greatestName.cls ≠ "java/lang/invoke/MethodHandle" ∧ yX5_greatestName.cls ≠ "java/lang/invoke/VarHandle" ∧ (parseMethodDescriptor yX5_greatestName.desc).map (fun d => d.parameters.length) = some 0 := by decide +kernel
theorem qX5_outcomeCount : yX5_outcomeCount.cls ≠ "java/lang/invoke/MethodHandle" ∧ yX5_outcomeCount.cls ≠ "java/lang/invoke/VarHandle" ∧ (parseMethodDescriptor yX5_outcomeCount.desc).map (fun d => d.parameters.length) = some 0 := by decide +kernel
theorem qX5_finalsWith : yX5_finalsWith.cls ≠ "java/lang/invoke/MethodHandle" ∧ yX5_finalsWith.cls ≠ "java/lang/invoke/VarHandle" ∧ (parseMethodDescriptor yX5_finalsWith.desc).map (fun d => d.parameters.length) = some 2 := by decide +kernel
theorem qX5_undo : yX5_undo.cls ≠ "java/lang/invoke/MethodHandle" ∧ yX5_undo.cls ≠ "java/lang/invoke/VarHandle" ∧ (parseMethodDescriptor yX5_undo.desc).map (fun d => d.parameters.length) = some 0 := by decide +kernel
theorem qX5_save : yX5_save.cls ≠ "java/lang/invoke/MethodHandle" ∧ yX5_save.cls ≠ "java/lang/invoke/VarHandle" ∧ (parseMethodDescriptor yX5_save.desc).map (fun d => d.parameters.length) = some 1 := by decide +kernel
theorem qX5_restore : yX5_restore.cls ≠ "java/lang/invoke/MethodHandle" ∧ yX5_restore.cls ≠ "java/lang/invoke/VarHandle" ∧ (parseMethodDescriptor yX5_restore.desc).map (fun d => d.parameters.length) = some 1 := by decide +kernel
theorem qX6_begin : yX6_begin.cls ≠ "java/lang/invoke/MethodHandle" ∧ yX6_begin.cls ≠ "java/lang/invoke/VarHandle" ∧ (parseMethodDescriptor yX6_begin.desc).map (fun d => d.parameters.length) = some 3 := by decide +kernel
theorem qX6_init : yX6_init.cls ≠ "java/lang/invoke/MethodHandle" ∧ yX6_init.cls ≠ "java/lang/invoke/VarHandle" ∧ (parseMethodDescriptor yX6_init.desc).map (fun d => d.parameters.length) = some 0 := by decide +kernel
theorem qX6_in : yX6_in.cls ≠ "java/lang/invoke/MethodHandle" ∧ yX6_in.cls ≠ "java/lang/invoke/VarHandle" ∧ (parseMethodDescriptor yX6_in.desc).map (fun d => d.parameters.length) = some 3 := by decide +kernel
theorem qX6_statusIn : yX6_statusIn.cls ≠ "java/lang/invoke/MethodHandle" ∧ yX6_statusIn.cls ≠ "java/lang/invoke/VarHandle" ∧ (parseMethodDescriptor yX6_statusIn.desc).map (fun d => d.parameters.length) = some 1 := by decide +kernel
theorem qX6_splitterIn : yX6_splitterIn.cls ≠ "java/lang/invoke/MethodHandle" ∧ yX6_splitterIn.cls ≠ "java/lang/invoke/VarHandle" ∧ (parseMethodDescriptor yX6_splitterIn.desc).map (fun d => d.parameters.length) = some 1 := by decide +kernel
theorem qX6_phaseIn : yX6_phaseIn.cls ≠ "java/lang/invoke/MethodHandle" ∧ yX6_phaseIn.cls ≠ "java/lang/invoke/VarHandle" ∧ (parseMethodDescriptor yX6_phaseIn.desc).map (fun d => d.parameters.length) = some 1 := by decide +kernel
theorem qX6_setProcess : yX6_setProcess.cls ≠ "java/lang/invoke/MethodHandle" ∧ yX6_setProcess.cls ≠ "java/lang/invoke/VarHandle" ∧ (parseMethodDescriptor yX6_setProcess.desc).map (fun d => d.parameters.length) = some 4 := by decide +kernel
theorem qX6_ownerIn : yX6_ownerIn.cls ≠ "java/lang/invoke/MethodHandle" ∧ yX6_ownerIn.cls ≠ "java/lang/invoke/VarHandle" ∧ (parseMethodDescriptor yX6_ownerIn.desc).map (fun d => d.parameters.length) = some 1 := by decide +kernel
theorem qX6_doorIn : yX6_doorIn.cls ≠ "java/lang/invoke/MethodHandle" ∧ yX6_doorIn.cls ≠ "java/lang/invoke/VarHandle" ∧ (parseMethodDescriptor yX6_doorIn.desc).map (fun d => d.parameters.length) = some 1 := by decide +kernel
theorem qX6_diagonal : yX6_diagonal.cls ≠ "java/lang/invoke/MethodHandle" ∧ yX6_diagonal.cls ≠ "java/lang/invoke/VarHandle" ∧ (parseMethodDescriptor yX6_diagonal.desc).map (fun d => d.parameters.length) = some 1 := by decide +kernel
theorem qX6_move : yX6_move.cls ≠ "java/lang/invoke/MethodHandle" ∧ yX6_move.cls ≠ "java/lang/invoke/VarHandle" ∧ (parseMethodDescriptor yX6_move.desc).map (fun d => d.parameters.length) = some 2 := by decide +kernel
theorem qX6_proceed : yX6_proceed.cls ≠ "java/lang/invoke/MethodHandle" ∧ yX6_proceed.cls ≠ "java/lang/invoke/VarHandle" ∧ (parseMethodDescriptor yX6_proceed.desc).map (fun d => d.parameters.length) = some 2 := by decide +kernel
theorem qX6_becomeNamed : yX6_becomeNamed.cls ≠ "java/lang/invoke/MethodHandle" ∧ yX6_becomeNamed.cls ≠ "java/lang/invoke/VarHandle" ∧ (parseMethodDescriptor yX6_becomeNamed.desc).map (fun d => d.parameters.length) = some 1 := by decide +kernel
theorem qX6_closeDoor : yX6_closeDoor.cls ≠ "java/lang/invoke/MethodHandle" ∧ yX6_closeDoor.cls ≠ "java/lang/invoke/VarHandle" ∧ (parseMethodDescriptor yX6_closeDoor.desc).map (fun d => d.parameters.length) = some 1 := by decide +kernel
theorem qX6_stepOf : yX6_stepOf.cls ≠ "java/lang/invoke/MethodHandle" ∧ yX6_stepOf.cls ≠ "java/lang/invoke/VarHandle" ∧ (parseMethodDescriptor yX6_stepOf.desc).map (fun d => d.parameters.length) = some 1 := by decide +kernel
theorem qX6_take : yX6_take.cls ≠ "java/lang/invoke/MethodHandle" ∧ yX6_take.cls ≠ "java/lang/invoke/VarHandle" ∧ (parseMethodDescriptor yX6_take.desc).map (fun d => d.parameters.length) = some 0 := by decide +kernel
theorem qX6_keep : yX6_keep.cls ≠ "java/lang/invoke/MethodHandle" ∧ yX6_keep.cls ≠ "java/lang/invoke/VarHandle" ∧ (parseMethodDescriptor yX6_keep.desc).map (fun d => d.parameters.length) = some 0 := by decide +kernel
theorem qX6_names : yX6_names.cls ≠ "java/lang/invoke/MethodHandle" ∧ yX6_names.cls ≠ "java/lang/invoke/VarHandle" ∧ (parseMethodDescriptor yX6_names.desc).map (fun d => d.parameters.length) = some 0 := by decide +kernel
theorem qX6_configure : yX6_configure.cls ≠ "java/lang/invoke/MethodHandle" ∧ yX6_configure.cls ≠ "java/lang/invoke/VarHandle" ∧ (parseMethodDescriptor yX6_configure.desc).map (fun d => d.parameters.length) = some 3 := by decide +kernel
theorem qX6_nameCount : yX6_nameCount.cls ≠ "java/lang/invoke/MethodHandle" ∧ yX6_nameCount.cls ≠ "java/lang/invoke/VarHandle" ∧ (parseMethodDescriptor yX6_nameCount.desc).map (fun d => d.parameters.length) = some 0 := by decide +kernel
theorem qX6_processCount : yX6_processCount.cls ≠ "java/lang/invoke/MethodHandle" ∧ yX6_processCount.cls ≠ "java/lang/invoke/VarHandle" ∧ (parseMethodDescriptor yX6_processCount.desc).map (fun d => d.parameters.length) = some 0 := by decide +kernel
theorem qX6_isProcess : yX6_isProcess.cls ≠ "java/lang/invoke/MethodHandle" ∧ yX6_isProcess.cls ≠ "java/lang/invoke/VarHandle" ∧ (parseMethodDescriptor yX6_isProcess.desc).map (fun d => d.parameters.length) = some 1 := by decide +kernel
theorem qX6_running : yX6_running.cls ≠ "java/lang/invoke/MethodHandle" ∧ yX6_running.cls ≠ "java/lang/invoke/VarHandle" ∧ (parseMethodDescriptor yX6_running.desc).map (fun d => d.parameters.length) = some 0 := by decide +kernel
theorem qX6_make : yX6_make.cls ≠ "java/lang/invoke/MethodHandle" ∧ yX6_make.cls ≠ "java/lang/invoke/VarHandle" ∧ (parseMethodDescriptor yX6_make.desc).map (fun d => d.parameters.length) = some 1 := by decide +kernel
theorem qX6_step : yX6_step.cls ≠ "java/lang/invoke/MethodHandle" ∧ yX6_step.cls ≠ "java/lang/invoke/VarHandle" ∧ (parseMethodDescriptor yX6_step.desc).map (fun d => d.parameters.length) = some 1 := by decide +kernel
theorem qX6_crash : yX6_crash.cls ≠ "java/lang/invoke/MethodHandle" ∧ yX6_crash.cls ≠ "java/lang/invoke/VarHandle" ∧ (parseMethodDescriptor yX6_crash.desc).map (fun d => d.parameters.length) = some 1 := by decide +kernel
theorem qX6_characterAt : yX6_characterAt.cls ≠ "java/lang/invoke/MethodHandle" ∧ yX6_characterAt.cls ≠ "java/lang/invoke/VarHandle" ∧ (parseMethodDescriptor yX6_characterAt.desc).map (fun d => d.parameters.length) = some 1 := by decide +kernel
theorem qX6_advance : yX6_advance.cls ≠ "java/lang/invoke/MethodHandle" ∧ yX6_advance.cls ≠ "java/lang/invoke/VarHandle" ∧ (parseMethodDescriptor yX6_advance.desc).map (fun d => d.parameters.length) = some 0 := by decide +kernel
theorem qX6_isSign : yX6_isSign.cls ≠ "java/lang/invoke/MethodHandle" ∧ yX6_isSign.cls ≠ "java/lang/invoke/VarHandle" ∧ (parseMethodDescriptor yX6_isSign.desc).map (fun d => d.parameters.length) = some 1 := by decide +kernel
theorem qX6_accept : yX6_accept.cls ≠ "java/lang/invoke/MethodHandle" ∧ yX6_accept.cls ≠ "java/lang/invoke/VarHandle" ∧ (parseMethodDescriptor yX6_accept.desc).map (fun d => d.parameters.length) = some 1 := by decide +kernel
theorem qX6_execute : yX6_execute.cls ≠ "java/lang/invoke/MethodHandle" ∧ yX6_execute.cls ≠ "java/lang/invoke/VarHandle" ∧ (parseMethodDescriptor yX6_execute.desc).map (fun d => d.parameters.length) = some 2 := by decide +kernel
theorem qX6_read : yX6_read.cls ≠ "java/lang/invoke/MethodHandle" ∧ yX6_read.cls ≠ "java/lang/invoke/VarHandle" ∧ (parseMethodDescriptor yX6_read.desc).map (fun d => d.parameters.length) = some 1 := by decide +kernel
theorem qX6_append : yX6_append.cls ≠ "java/lang/invoke/MethodHandle" ∧ yX6_append.cls ≠ "java/lang/invoke/VarHandle" ∧ (parseMethodDescriptor yX6_append.desc).map (fun d => d.parameters.length) = some 1 := by decide +kernel
theorem qX6_clearText : yX6_clearText.cls ≠ "java/lang/invoke/MethodHandle" ∧ yX6_clearText.cls ≠ "java/lang/invoke/VarHandle" ∧ (parseMethodDescriptor yX6_clearText.desc).map (fun d => d.parameters.length) = some 0 := by decide +kernel
theorem qX6_runText : yX6_runText.cls ≠ "java/lang/invoke/MethodHandle" ∧ yX6_runText.cls ≠ "java/lang/invoke/VarHandle" ∧ (parseMethodDescriptor yX6_runText.desc).map (fun d => d.parameters.length) = some 0 := by decide +kernel
theorem qX6_status : yX6_status.cls ≠ "java/lang/invoke/MethodHandle" ∧ yX6_status.cls ≠ "java/lang/invoke/VarHandle" ∧ (parseMethodDescriptor yX6_status.desc).map (fun d => d.parameters.length) = some 1 := by decide +kernel
theorem qX6_splitterOf : yX6_splitterOf.cls ≠ "java/lang/invoke/MethodHandle" ∧ yX6_splitterOf.cls ≠ "java/lang/invoke/VarHandle" ∧ (parseMethodDescriptor yX6_splitterOf.desc).map (fun d => d.parameters.length) = some 1 := by decide +kernel
theorem qX6_phaseOf : yX6_phaseOf.cls ≠ "java/lang/invoke/MethodHandle" ∧ yX6_phaseOf.cls ≠ "java/lang/invoke/VarHandle" ∧ (parseMethodDescriptor yX6_phaseOf.desc).map (fun d => d.parameters.length) = some 1 := by decide +kernel
theorem qX6_stepsOf : yX6_stepsOf.cls ≠ "java/lang/invoke/MethodHandle" ∧ yX6_stepsOf.cls ≠ "java/lang/invoke/VarHandle" ∧ (parseMethodDescriptor yX6_stepsOf.desc).map (fun d => d.parameters.length) = some 1 := by decide +kernel
theorem qX6_runAlone : yX6_runAlone.cls ≠ "java/lang/invoke/MethodHandle" ∧ yX6_runAlone.cls ≠ "java/lang/invoke/VarHandle" ∧ (parseMethodDescriptor yX6_runAlone.desc).map (fun d => d.parameters.length) = some 1 := by decide +kernel
theorem qX6_soloSteps : yX6_soloSteps.cls ≠ "java/lang/invoke/MethodHandle" ∧ yX6_soloSteps.cls ≠ "java/lang/invoke/VarHandle" ∧ (parseMethodDescriptor yX6_soloSteps.desc).map (fun d => d.parameters.length) = some 1 := by decide +kernel
theorem qX6_soloName : yX6_soloName.cls ≠ "java/lang/invoke/MethodHandle" ∧ yX6_soloName.cls ≠ "java/lang/invoke/VarHandle" ∧ (parseMethodDescriptor yX6_soloName.desc).map (fun d => d.parameters.length) = some 1 := by decide +kernel
theorem qX6_isSplitter : yX6_isSplitter.cls ≠ "java/lang/invoke/MethodHandle" ∧ yX6_isSplitter.cls ≠ "java/lang/invoke/VarHandle" ∧ (parseMethodDescriptor yX6_isSplitter.desc).map (fun d => d.parameters.length) = some 1 := by decide +kernel
theorem qX6_owner : yX6_owner.cls ≠ "java/lang/invoke/MethodHandle" ∧ yX6_owner.cls ≠ "java/lang/invoke/VarHandle" ∧ (parseMethodDescriptor yX6_owner.desc).map (fun d => d.parameters.length) = some 1 := by decide +kernel
theorem qX6_door : yX6_door.cls ≠ "java/lang/invoke/MethodHandle" ∧ yX6_door.cls ≠ "java/lang/invoke/VarHandle" ∧ (parseMethodDescriptor yX6_door.desc).map (fun d => d.parameters.length) = some 1 := by decide +kernel
theorem qX6_entered : yX6_entered.cls ≠ "java/lang/invoke/MethodHandle" ∧ yX6_entered.cls ≠ "java/lang/invoke/VarHandle" ∧ (parseMethodDescriptor yX6_entered.desc).map (fun d => d.parameters.length) = some 1 := by decide +kernel
theorem qX6_left : yX6_left.cls ≠ "java/lang/invoke/MethodHandle" ∧ yX6_left.cls ≠ "java/lang/invoke/VarHandle" ∧ (parseMethodDescriptor yX6_left.desc).map (fun d => d.parameters.length) = some 2 := by decide +kernel
theorem qX6_found : yX6_found.cls ≠ "java/lang/invoke/MethodHandle" ∧ yX6_found.cls ≠ "java/lang/invoke/VarHandle" ∧ (parseMethodDescriptor yX6_found.desc).map (fun d => d.parameters.length) = some 2 := by decide +kernel
theorem qX6_findAll : yX6_findAll.cls ≠ "java/lang/invoke/MethodHandle" ∧ yX6_findAll.cls ≠ "java/lang/invoke/VarHandle" ∧ (parseMethodDescriptor yX6_findAll.desc).map (fun d => d.parameters.length) = some 0 := by decide +kernel
theorem qX6_isFinal : yX6_isFinal.cls ≠ "java/lang/invoke/MethodHandle" ∧ yX6_isFinal.cls ≠ "java/lang/invoke/VarHandle" ∧ (parseMethodDescriptor yX6_isFinal.desc).map (fun d => d.parameters.length) = some 0 := by decide +kernel
theorem qX6_isViolation : yX6_isViolation.cls ≠ "java/lang/invoke/MethodHandle" ∧ yX6_isViolation.cls ≠ "java/lang/invoke/VarHandle" ∧ (parseMethodDescriptor yX6_isViolation.desc).map (fun d => d.parameters.length) = some 0 := by decide +kernel
theorem qX6_noteFinal : yX6_noteFinal.cls ≠ "java/lang/invoke/MethodHandle" ∧ yX6_noteFinal.cls ≠ "java/lang/invoke/VarHandle" ∧ (parseMethodDescriptor yX6_noteFinal.desc).map (fun d => d.parameters.length) = some 0 := by decide +kernel
theorem qX6_notePath : yX6_notePath.cls ≠ "java/lang/invoke/MethodHandle" ∧ yX6_notePath.cls ≠ "java/lang/invoke/VarHandle" ∧ (parseMethodDescriptor yX6_notePath.desc).map (fun d => d.parameters.length) = some 1 := by decide +kernel
theorem qX6_note : yX6_note.cls ≠ "java/lang/invoke/MethodHandle" ∧ yX6_note.cls ≠ "java/lang/invoke/VarHandle" ∧ (parseMethodDescriptor yX6_note.desc).map (fun d => d.parameters.length) = some 1 := by decide +kernel
theorem qX6_explore : yX6_explore.cls ≠ "java/lang/invoke/MethodHandle" ∧ yX6_explore.cls ≠ "java/lang/invoke/VarHandle" ∧ (parseMethodDescriptor yX6_explore.desc).map (fun d => d.parameters.length) = some 0 := by decide +kernel
theorem qX6_finalCount : yX6_finalCount.cls ≠ "java/lang/invoke/MethodHandle" ∧ yX6_finalCount.cls ≠ "java/lang/invoke/VarHandle" ∧ (parseMethodDescriptor yX6_finalCount.desc).map (fun d => d.parameters.length) = some 0 := by decide +kernel
theorem qX6_violationCount : yX6_violationCount.cls ≠ "java/lang/invoke/MethodHandle" ∧ yX6_violationCount.cls ≠ "java/lang/invoke/VarHandle" ∧ (parseMethodDescriptor yX6_violationCount.desc).map (fun d => d.parameters.length) = some 0 := by decide +kernel
theorem qX6_violationStep : yX6_violationStep.cls ≠ "java/lang/invoke/MethodHandle" ∧ yX6_violationStep.cls ≠ "java/lang/invoke/VarHandle" ∧ (parseMethodDescriptor yX6_violationStep.desc).map (fun d => d.parameters.length) = some 1 := by decide +kernel
theorem qX6_greatestDepth : yX6_greatestDepth.cls ≠ "java/lang/invoke/MethodHandle" ∧ yX6_greatestDepth.cls ≠ "java/lang/invoke/VarHandle" ∧ (parseMethodDescriptor yX6_greatestDepth.desc).map (fun d => d.parameters.length) = some 0 := by decide +kernel
theorem qX6_greatestName : yX6_greatestName.cls ≠ "java/lang/invoke/MethodHandle" ∧ yX6_greatestName.cls ≠ "java/lang/invoke/VarHandle" ∧ (parseMethodDescriptor yX6_greatestName.desc).map (fun d => d.parameters.length) = some 0 := by decide +kernel
theorem qX6_outcomeCount : yX6_outcomeCount.cls ≠ "java/lang/invoke/MethodHandle" ∧ yX6_outcomeCount.cls ≠ "java/lang/invoke/VarHandle" ∧ (parseMethodDescriptor yX6_outcomeCount.desc).map (fun d => d.parameters.length) = some 0 := by decide +kernel
theorem qX6_finalsWith : yX6_finalsWith.cls ≠ "java/lang/invoke/MethodHandle" ∧ yX6_finalsWith.cls ≠ "java/lang/invoke/VarHandle" ∧ (parseMethodDescriptor yX6_finalsWith.desc).map (fun d => d.parameters.length) = some 2 := by decide +kernel
theorem qX6_undo : yX6_undo.cls ≠ "java/lang/invoke/MethodHandle" ∧ yX6_undo.cls ≠ "java/lang/invoke/VarHandle" ∧ (parseMethodDescriptor yX6_undo.desc).map (fun d => d.parameters.length) = some 0 := by decide +kernel
theorem qX6_save : yX6_save.cls ≠ "java/lang/invoke/MethodHandle" ∧ yX6_save.cls ≠ "java/lang/invoke/VarHandle" ∧ (parseMethodDescriptor yX6_save.desc).map (fun d => d.parameters.length) = some 1 := by decide +kernel
theorem qX6_restore : yX6_restore.cls ≠ "java/lang/invoke/MethodHandle" ∧ yX6_restore.cls ≠ "java/lang/invoke/VarHandle" ∧ (parseMethodDescriptor yX6_restore.desc).map (fun d => d.parameters.length) = some 1 := by decide +kernel
theorem qJ9_max_7cf53 : yJ9_max_7cf53.cls ≠ "java/lang/invoke/MethodHandle" ∧ yJ9_max_7cf53.cls ≠ "java/lang/invoke/VarHandle" ∧ (parseMethodDescriptor yJ9_max_7cf53.desc).map (fun d => d.parameters.length) = some 2 := by decide +kernel
end
section
/-! ===== a configuration packed as the class has it: fields, one step ===== -/
def stC (C p : Nat) : Nat := gF C (8 * p) 2
def phC (C p : Nat) : Nat := gF C (8 * p + 2) 2
def spC (C p : Nat) : Nat := gF C (8 * p + 4) 4
def owC (C s : Nat) : Nat := gF C (24 + 3 * s) 2
def doC (C s : Nat) : Nat := gF C (24 + 3 * s + 2) 1
def nmC (C p : Nat) : Int32 := if stC C p = 1 then nI (spC C p) else -9
def ownV (C s : Nat) : Int32 := if owC C s = 0 then -9 else nI (owC C s - 1)
def dgn (s : Nat) : Nat := if s < 1 then 0 else if s < 3 then 1 else if s < 6 then 2 else 3
def movC (C p k d : Nat) : Nat := if k ≤ dgn (spC C p) + 1 then sF C (8 * p) 8 2 else sF C (8 * p) 8 ((spC C p + (dgn (spC C p) + 1) + d) * 16)
def stepC (C p k g : Nat) : Nat :=
  if phC C p = 0 then sF (sF C (24 + 3 * spC C p) 2 (p + 1)) (8 * p + 2) 2 (if g = 1 then 2 else 1)
  else if phC C p = 1 then (if doC C (spC C p) = 1 then movC C p k 0 else sF C (8 * p + 2) 2 2)
  else if phC C p = (if g = 2 then 2 else 3) then
    (if owC C (spC C p) = p + 1 then (if phC C p = 2 then sF C (8 * p + 2) 2 3 else sF C (8 * p) 2 1) else movC C p k 1)
  else (if phC C p = 2 then sF (sF C (24 + 3 * spC C p + 2) 1 1) (8 * p + 2) 2 3 else sF (sF C (24 + 3 * spC C p + 2) 1 1) (8 * p) 2 1)
theorem stC_lt (C p : Nat) : stC C p < 4 := gF_lt _ _ _
theorem phC_lt (C p : Nat) : phC C p < 4 := gF_lt _ _ _
theorem spC_lt (C p : Nat) : spC C p < 16 := gF_lt _ _ _
theorem owC_lt (C p : Nat) : owC C p < 4 := gF_lt _ _ _
theorem doC_lt (C p : Nat) : doC C p < 2 := gF_lt _ _ _
theorem stC_b (C p : Nat) : stC C p < 2 ^ 31 := Nat.lt_trans (stC_lt C p) (by decide)
theorem phC_b (C p : Nat) : phC C p < 2 ^ 31 := Nat.lt_trans (phC_lt C p) (by decide)
theorem spC_b (C p : Nat) : spC C p < 2 ^ 31 := Nat.lt_trans (spC_lt C p) (by decide)
theorem owC_b (C p : Nat) : owC C p < 2 ^ 31 := Nat.lt_trans (owC_lt C p) (by decide)
theorem doC_b (C p : Nat) : doC C p < 2 ^ 31 := Nat.lt_trans (doC_lt C p) (by decide)
theorem dgn_le (s : Nat) : dgn s ≤ 3 := by unfold dgn; split; omega; split; omega; split <;> omega
theorem dgn_6 {s : Nat} (h : dgn s < 3) : s < 6 := by unfold dgn at h; split at h; omega; split at h; omega; split at h <;> omega
theorem pow_4 (x q : Nat) : x * 2 ^ (q + 4) = x * 16 * 2 ^ q := by rw [Nat.pow_add, Nat.mul_comm (2 ^ q), ← Nat.mul_assoc]
theorem ownV_eq {C s p : Nat} (hp : p < 3) : ownV C s = nI p ↔ owC C s = p + 1 := by
  have hb := owC_lt C s
  unfold ownV
  by_cases h : owC C s = 0
  · rw [if_pos h]
    constructor
    · intro q
      exfalso
      have h1 : p = 0 ∨ p = 1 ∨ p = 2 := by omega
      rcases h1 with rfl | rfl | rfl <;> exact absurd q (by decide)
    · intro q
      omega
  · rw [if_neg h, nI_eq (by omega) (by omega)]
    omega
theorem movC_lt {C p k d : Nat} (hC : C < 2 ^ 54) (hp : p < 3) (hk : k ≤ 4) (hd : d ≤ 1) : movC C p k d < 2 ^ 54 := by
  unfold movC
  split
  · exact sF_lt (by decide) hC (by omega)
  · have h1 := dgn_6 (s := spC C p) (by omega)
    have h2 := dgn_le (spC C p)
    exact sF_lt (by omega) hC (by omega)
theorem stepC_lt {C p k g : Nat} (hC : C < 2 ^ 54) (hp : p < 3) (hk : k ≤ 4) (hs : spC C p < 10) : stepC C p k g < 2 ^ 54 := by
  unfold stepC
  have h2 : (2 : Nat) ^ 2 = 4 := rfl
  repeat' split
  all_goals first
    | exact movC_lt hC hp hk (by decide)
    | exact sF_lt (by decide) hC (by omega)
    | exact sF_lt (by decide) (sF_lt (by omega) hC (by omega)) (by omega)
    | exact sF_lt (by omega) (sF_lt (by omega) hC (by omega)) (by omega)

set_option maxHeartbeats 4000000 in
set_option maxRecDepth 100000 in
theorem c_X0_statusIn (l : Launch) (D : va_G) (ca : Nat → ClassId) (C p : Nat) (hC : C < 2 ^ 54) (hp : p < 3) : RD l D ca yX0_statusIn wsX0_statusIn 0 0 [] [.long (lN C), .int (nI p)] (.int (nI (stC C p))) := by
  refine RD.start (cc := cX0_statusIn) (maxL := 3) (ret := (some .int)) (by decide) rfl (Nat.le_of_ble_eq_true rfl) ?_
  intro p_ e_ s_ m_ below_ meth_ c_ hx hb hml hr hlocks hown hts hP hK ls hl
  have hown : s_.vm.findClass RX0 = some m_.cls := hown
  have hl : lv_has ls 3 [(0, .long (lN C)), (2, .int (nI p))] := hl
  refine lv_lload_n hx hb dX0_statusIn_0 rfl (lv_at hl 0 rfl) ?_
  refine lv_bipush (v := nI 8) hx hb dX0_statusIn_1 (by decide) ?_
  refine lv_iload_n hx hb dX0_statusIn_3 rfl (lv_at hl 1 rfl) ?_
  refine n_imul hx hb dX0_statusIn_4 ?_
  refine n_lushr hx hb (by omega) (by omega) dX0_statusIn_5 ?_
  refine n_l2i hx hb dX0_statusIn_6 ?_
  refine lv_iconst (v := nI 3) hx hb dX0_statusIn_7 (by decide) ?_
  refine n_iand hx hb 2 (by decide) dX0_statusIn_8 ?_
  exact rRetI hx hb hr hlocks rfl dX0_statusIn_9

set_option maxHeartbeats 4000000 in
set_option maxRecDepth 100000 in
theorem c_X0_phaseIn (l : Launch) (D : va_G) (ca : Nat → ClassId) (C p : Nat) (hC : C < 2 ^ 54) (hp : p < 3) : RD l D ca yX0_phaseIn wsX0_phaseIn 0 0 [] [.long (lN C), .int (nI p)] (.int (nI (phC C p))) := by
  refine RD.start (cc := cX0_phaseIn) (maxL := 3) (ret := (some .int)) (by decide) rfl (Nat.le_of_ble_eq_true rfl) ?_
  intro p_ e_ s_ m_ below_ meth_ c_ hx hb hml hr hlocks hown hts hP hK ls hl
  have hown : s_.vm.findClass RX0 = some m_.cls := hown
  have hl : lv_has ls 3 [(0, .long (lN C)), (2, .int (nI p))] := hl
  refine lv_lload_n hx hb dX0_phaseIn_0 rfl (lv_at hl 0 rfl) ?_
  refine lv_bipush (v := nI 8) hx hb dX0_phaseIn_1 (by decide) ?_
  refine lv_iload_n hx hb dX0_phaseIn_3 rfl (lv_at hl 1 rfl) ?_
  refine n_imul hx hb dX0_phaseIn_4 ?_
  refine lv_iconst (v := nI 2) hx hb dX0_phaseIn_5 (by decide) ?_
  refine n_iadd hx hb dX0_phaseIn_6 ?_
  refine n_lushr hx hb (by omega) (by omega) dX0_phaseIn_7 ?_
  refine n_l2i hx hb dX0_phaseIn_8 ?_
  refine lv_iconst (v := nI 3) hx hb dX0_phaseIn_9 (by decide) ?_
  refine n_iand hx hb 2 (by decide) dX0_phaseIn_10 ?_
  exact rRetI hx hb hr hlocks rfl dX0_phaseIn_11

set_option maxHeartbeats 4000000 in
set_option maxRecDepth 100000 in
theorem c_X0_splitterIn (l : Launch) (D : va_G) (ca : Nat → ClassId) (C p : Nat) (hC : C < 2 ^ 54) (hp : p < 3) : RD l D ca yX0_splitterIn wsX0_splitterIn 0 0 [] [.long (lN C), .int (nI p)] (.int (nI (spC C p))) := by
  refine RD.start (cc := cX0_splitterIn) (maxL := 3) (ret := (some .int)) (by decide) rfl (Nat.le_of_ble_eq_true rfl) ?_
  intro p_ e_ s_ m_ below_ meth_ c_ hx hb hml hr hlocks hown hts hP hK ls hl
  have hown : s_.vm.findClass RX0 = some m_.cls := hown
  have hl : lv_has ls 3 [(0, .long (lN C)), (2, .int (nI p))] := hl
  refine lv_lload_n hx hb dX0_splitterIn_0 rfl (lv_at hl 0 rfl) ?_
  refine lv_bipush (v := nI 8) hx hb dX0_splitterIn_1 (by decide) ?_
  refine lv_iload_n hx hb dX0_splitterIn_3 rfl (lv_at hl 1 rfl) ?_
  refine n_imul hx hb dX0_splitterIn_4 ?_
  refine lv_iconst (v := nI 4) hx hb dX0_splitterIn_5 (by decide) ?_
  refine n_iadd hx hb dX0_splitterIn_6 ?_
  refine n_lushr hx hb (by omega) (by omega) dX0_splitterIn_7 ?_
  refine n_l2i hx hb dX0_splitterIn_8 ?_
  refine lv_bipush (v := nI 15) hx hb dX0_splitterIn_9 (by decide) ?_
  refine n_iand hx hb 4 (by decide) dX0_splitterIn_11 ?_
  exact rRetI hx hb hr hlocks rfl dX0_splitterIn_12

set_option maxHeartbeats 4000000 in
set_option maxRecDepth 100000 in
theorem c_X0_nameIn (l : Launch) (D : va_G) (ca : Nat → ClassId) (C p : Nat) (hC : C < 2 ^ 54) (hp : p < 3) : RD l D ca yX0_nameIn wsX0_nameIn 1 22 [] [.long (lN C), .int (nI p)] (.int ((nmC C p))) := by
  refine RD.start (cc := cX0_nameIn) (maxL := 3) (ret := (some .int)) (by decide) rfl (Nat.le_of_ble_eq_true rfl) ?_
  intro p_ e_ s_ m_ below_ meth_ c_ hx hb hml hr hlocks hown hts hP hK ls hl
  have hown : s_.vm.findClass RX0 = some m_.cls := hown
  have hl : lv_has ls 3 [(0, .long (lN C)), (2, .int (nI p))] := hl
  refine lv_lload_n hx hb dX0_nameIn_0 rfl (lv_at hl 0 rfl) ?_
  refine lv_iload_n hx hb dX0_nameIn_1 rfl (lv_at hl 1 rfl) ?_
  refine rdS (nL := 3) hx hb hml hown hts hK hP [.long (lN C), .int (nI p)] [] (c_X0_statusIn l D ca C p hC hp) gX0_nameIn_X0_statusIn rfl qX0_statusIn ⟨Nat.le_of_ble_eq_true rfl, Nat.le_of_ble_eq_true rfl⟩ [] rfl rfl hl.1 (Nat.le_of_ble_eq_true rfl) ⟨Nat.le_of_ble_eq_true rfl, Nat.le_of_ble_eq_true rfl⟩ dX0_nameIn_2 ?_
  refine lv_iconst (v := nI 1) hx hb dX0_nameIn_5 (by decide) ?_
  refine n_ic_ne (tgt := 17) hx hb dX0_nameIn_6 (by decide) (stC_b _ _) (by decide) (fun c6 => ?_) (fun c6 => ?_)
  · refine lv_bipush (v := -9) hx hb dX0_nameIn_17 (by decide) ?_
    exact rRetI hx hb hr hlocks (congrArg (fun z => Value.int z) (by first | (exfalso; omega) | simp [nmC, c6])) dX0_nameIn_19
  · refine lv_lload_n hx hb dX0_nameIn_9 rfl (lv_at hl 0 rfl) ?_
    refine lv_iload_n hx hb dX0_nameIn_10 rfl (lv_at hl 1 rfl) ?_
    refine rdS (nL := 3) hx hb hml hown hts hK hP [.long (lN C), .int (nI p)] [] (c_X0_splitterIn l D ca C p hC hp) gX0_nameIn_X0_splitterIn rfl qX0_splitterIn ⟨Nat.le_of_ble_eq_true rfl, Nat.le_of_ble_eq_true rfl⟩ [] rfl rfl hl.1 (Nat.le_of_ble_eq_true rfl) ⟨Nat.le_of_ble_eq_true rfl, Nat.le_of_ble_eq_true rfl⟩ dX0_nameIn_11 ?_
    refine lv_goto (tgt := 19) hx hb dX0_nameIn_14 (by decide) ?_
    exact rRetI hx hb hr hlocks (congrArg (fun z => Value.int z) (by first | (exfalso; omega) | simp [nmC, c6])) dX0_nameIn_19

set_option maxHeartbeats 4000000 in
set_option maxRecDepth 100000 in
theorem c_X0_ownerShift (l : Launch) (D : va_G) (ca : Nat → ClassId) (t : Nat) : RD l D ca yX0_ownerShift wsX0_ownerShift 0 0 [] [.int (nI t)] (.int (nI (24 + 3 * t))) := by
  refine RD.start (cc := cX0_ownerShift) (maxL := 1) (ret := (some .int)) (by decide) rfl (Nat.le_of_ble_eq_true rfl) ?_
  intro p_ e_ s_ m_ below_ meth_ c_ hx hb hml hr hlocks hown hts hP hK ls hl
  have hown : s_.vm.findClass RX0 = some m_.cls := hown
  have hl : lv_has ls 1 [(0, .int (nI t))] := hl
  refine lv_bipush (v := nI 24) hx hb dX0_ownerShift_0 (by decide) ?_
  refine lv_iconst (v := nI 3) hx hb dX0_ownerShift_2 (by decide) ?_
  refine lv_iload_n hx hb dX0_ownerShift_3 rfl (lv_at hl 0 rfl) ?_
  refine n_imul hx hb dX0_ownerShift_4 ?_
  refine n_iadd hx hb dX0_ownerShift_5 ?_
  exact rRetI hx hb hr hlocks rfl dX0_ownerShift_6

set_option maxHeartbeats 4000000 in
set_option maxRecDepth 100000 in
theorem c_X0_ownerIn (l : Launch) (D : va_G) (ca : Nat → ClassId) (C t : Nat) (hC : C < 2 ^ 54) (ht : t < 10) : RD l D ca yX0_ownerIn wsX0_ownerIn 1 20 [] [.long (lN C), .int (nI t)] (.int ((ownV C t))) := by
  refine RD.start (cc := cX0_ownerIn) (maxL := 4) (ret := (some .int)) (by decide) rfl (Nat.le_of_ble_eq_true rfl) ?_
  intro p_ e_ s_ m_ below_ meth_ c_ hx hb hml hr hlocks hown hts hP hK ls hl
  have hown : s_.vm.findClass RX0 = some m_.cls := hown
  have hl : lv_has ls 4 [(0, .long (lN C)), (2, .int (nI t))] := hl
  refine lv_lload_n hx hb dX0_ownerIn_0 rfl (lv_at hl 0 rfl) ?_
  refine lv_iload_n hx hb dX0_ownerIn_1 rfl (lv_at hl 1 rfl) ?_
  refine rdS (nL := 4) hx hb hml hown hts hK hP [.int (nI t)] [.long (lN C)] (c_X0_ownerShift l D ca t) gX0_ownerIn_X0_ownerShift rfl qX0_ownerShift ⟨Nat.le_of_ble_eq_true rfl, Nat.le_of_ble_eq_true rfl⟩ [] rfl rfl hl.1 (Nat.le_of_ble_eq_true rfl) ⟨Nat.le_of_ble_eq_true rfl, Nat.le_of_ble_eq_true rfl⟩ dX0_ownerIn_2 ?_
  refine n_lushr hx hb (by omega) (by omega) dX0_ownerIn_5 ?_
  refine n_l2i hx hb dX0_ownerIn_6 ?_
  refine lv_iconst (v := nI 3) hx hb dX0_ownerIn_7 (by decide) ?_
  refine n_iand hx hb 2 (by decide) dX0_ownerIn_8 ?_
  rw [show nI (C / 2 ^ (24 + 3 * t) % 2 ^ 2) = nI (owC C t) from rfl]
  refine lv_istore_n (lv' := [(3, .int (nI (owC C t))), (0, .long (lN C)), (2, .int (nI t))]) hx hb dX0_ownerIn_9 rfl hl (by decide) rfl (fun ls hl => ?_)
  refine lv_iload_n hx hb dX0_ownerIn_10 rfl (lv_at hl 0 rfl) ?_
  refine n_if_ne (tgt := 19) hx hb dX0_ownerIn_11 (by decide) (owC_b C t) (fun c11 => ?_) (fun c11 => ?_)
  · refine lv_iload_n hx hb dX0_ownerIn_19 rfl (lv_at hl 0 rfl) ?_
    refine lv_iconst (v := nI 1) hx hb dX0_ownerIn_20 (by decide) ?_
    refine n_isub hx hb (show 1 ≤ owC C t by omega) dX0_ownerIn_21 ?_
    exact rRetI hx hb hr hlocks (congrArg (fun z => Value.int z) (by first | (exfalso; omega) | simp [ownV, c11])) dX0_ownerIn_22
  · refine lv_bipush (v := -9) hx hb dX0_ownerIn_14 (by decide) ?_
    refine lv_goto (tgt := 22) hx hb dX0_ownerIn_16 (by decide) ?_
    exact rRetI hx hb hr hlocks (congrArg (fun z => Value.int z) (by first | (exfalso; omega) | simp [ownV, c11])) dX0_ownerIn_22

set_option maxHeartbeats 4000000 in
set_option maxRecDepth 100000 in
theorem c_X0_doorIn (l : Launch) (D : va_G) (ca : Nat → ClassId) (C t : Nat) (hC : C < 2 ^ 54) (ht : t < 10) : RD l D ca yX0_doorIn wsX0_doorIn 1 20 [] [.long (lN C), .int (nI t)] (.int (nI (doC C t))) := by
  refine RD.start (cc := cX0_doorIn) (maxL := 3) (ret := (some .int)) (by decide) rfl (Nat.le_of_ble_eq_true rfl) ?_
  intro p_ e_ s_ m_ below_ meth_ c_ hx hb hml hr hlocks hown hts hP hK ls hl
  have hown : s_.vm.findClass RX0 = some m_.cls := hown
  have hl : lv_has ls 3 [(0, .long (lN C)), (2, .int (nI t))] := hl
  refine lv_lload_n hx hb dX0_doorIn_0 rfl (lv_at hl 0 rfl) ?_
  refine lv_iload_n hx hb dX0_doorIn_1 rfl (lv_at hl 1 rfl) ?_
  refine rdS (nL := 3) hx hb hml hown hts hK hP [.int (nI t)] [.long (lN C)] (c_X0_ownerShift l D ca t) gX0_doorIn_X0_ownerShift rfl qX0_ownerShift ⟨Nat.le_of_ble_eq_true rfl, Nat.le_of_ble_eq_true rfl⟩ [] rfl rfl hl.1 (Nat.le_of_ble_eq_true rfl) ⟨Nat.le_of_ble_eq_true rfl, Nat.le_of_ble_eq_true rfl⟩ dX0_doorIn_2 ?_
  refine lv_iconst (v := nI 2) hx hb dX0_doorIn_5 (by decide) ?_
  refine n_iadd hx hb dX0_doorIn_6 ?_
  refine n_lushr hx hb (by omega) (by omega) dX0_doorIn_7 ?_
  refine n_l2i hx hb dX0_doorIn_8 ?_
  refine lv_iconst (v := nI 1) hx hb dX0_doorIn_9 (by decide) ?_
  refine n_iand hx hb 1 (by decide) dX0_doorIn_10 ?_
  exact rRetI hx hb hr hlocks rfl dX0_doorIn_11

set_option maxHeartbeats 4000000 in
set_option maxRecDepth 100000 in
theorem c_X0_withStatus (l : Launch) (D : va_G) (ca : Nat → ClassId) (C p v : Nat) (hC : C < 2 ^ 54) (hp : p < 3) (hv : v < 4) : RD l D ca yX0_withStatus wsX0_withStatus 0 0 [] [.long (lN C), .int (nI p), .int (nI v)] (.long (lN (sF C (8 * p) 2 v))) := by
  refine RD.start (cc := cX0_withStatus) (maxL := 5) (ret := (some .long)) (by decide) rfl (Nat.le_of_ble_eq_true rfl) ?_
  intro p_ e_ s_ m_ below_ meth_ c_ hx hb hml hr hlocks hown hts hP hK ls hl
  have hown : s_.vm.findClass RX0 = some m_.cls := hown
  have hl : lv_has ls 5 [(0, .long (lN C)), (2, .int (nI p)), (3, .int (nI v))] := hl
  refine lv_bipush (v := nI 8) hx hb dX0_withStatus_0 (by decide) ?_
  refine lv_iload_n hx hb dX0_withStatus_2 rfl (lv_at hl 1 rfl) ?_
  refine n_imul hx hb dX0_withStatus_3 ?_
  refine lv_istore (lv' := [(4, .int (nI (8 * p))), (0, .long (lN C)), (2, .int (nI p)), (3, .int (nI v))]) hx hb dX0_withStatus_4 hl (by decide) rfl (fun ls hl => ?_)
  refine lv_lload_n hx hb dX0_withStatus_6 rfl (lv_at hl 1 rfl) ?_
  refine lv_ldc2 (v := lN 3) hx hb hown (hts (.constantLong RX0 22 (3)) (List.mem_of_getElem? (i := 1) rfl)) dX0_withStatus_7 ?_
  refine lv_iload hx hb dX0_withStatus_10 (lv_at hl 0 rfl) ?_
  refine n_lshl hx hb (by omega) dX0_withStatus_12 ?_
  refine lv_ldc2 (v := -1) hx hb hown (hts (.constantLong RX0 24 (-1)) (List.mem_of_getElem? (i := 2) rfl)) dX0_withStatus_13 ?_
  refine lv_lxor hx hb dX0_withStatus_16 ?_
  refine lv_land hx hb dX0_withStatus_17 ?_
  refine lv_iload_n hx hb dX0_withStatus_18 rfl (lv_at hl 3 rfl) ?_
  refine n_i2l hx hb (by omega) dX0_withStatus_19 ?_
  refine lv_iload hx hb dX0_withStatus_20 (lv_at hl 0 rfl) ?_
  refine n_lshl hx hb (by omega) dX0_withStatus_22 ?_
  refine lv_lor hx hb dX0_withStatus_23 ?_
  exact rRetL hx hb hr hlocks (congrArg Value.long (setL (n := C) (w := 2) (v := v) hv (by omega))) dX0_withStatus_24

set_option maxHeartbeats 4000000 in
set_option maxRecDepth 100000 in
theorem c_X0_withPhase (l : Launch) (D : va_G) (ca : Nat → ClassId) (C p v : Nat) (hC : C < 2 ^ 54) (hp : p < 3) (hv : v < 4) : RD l D ca yX0_withPhase wsX0_withPhase 0 0 [] [.long (lN C), .int (nI p), .int (nI v)] (.long (lN (sF C (8 * p + 2) 2 v))) := by
  refine RD.start (cc := cX0_withPhase) (maxL := 5) (ret := (some .long)) (by decide) rfl (Nat.le_of_ble_eq_true rfl) ?_
  intro p_ e_ s_ m_ below_ meth_ c_ hx hb hml hr hlocks hown hts hP hK ls hl
  have hown : s_.vm.findClass RX0 = some m_.cls := hown
  have hl : lv_has ls 5 [(0, .long (lN C)), (2, .int (nI p)), (3, .int (nI v))] := hl
  refine lv_bipush (v := nI 8) hx hb dX0_withPhase_0 (by decide) ?_
  refine lv_iload_n hx hb dX0_withPhase_2 rfl (lv_at hl 1 rfl) ?_
  refine n_imul hx hb dX0_withPhase_3 ?_
  refine lv_iconst (v := nI 2) hx hb dX0_withPhase_4 (by decide) ?_
  refine n_iadd hx hb dX0_withPhase_5 ?_
  refine lv_istore (lv' := [(4, .int (nI ((8 * p) + 2))), (0, .long (lN C)), (2, .int (nI p)), (3, .int (nI v))]) hx hb dX0_withPhase_6 hl (by decide) rfl (fun ls hl => ?_)
  refine lv_lload_n hx hb dX0_withPhase_8 rfl (lv_at hl 1 rfl) ?_
  refine lv_ldc2 (v := lN 3) hx hb hown (hts (.constantLong RX0 22 (3)) (List.mem_of_getElem? (i := 1) rfl)) dX0_withPhase_9 ?_
  refine lv_iload hx hb dX0_withPhase_12 (lv_at hl 0 rfl) ?_
  refine n_lshl hx hb (by omega) dX0_withPhase_14 ?_
  refine lv_ldc2 (v := -1) hx hb hown (hts (.constantLong RX0 24 (-1)) (List.mem_of_getElem? (i := 2) rfl)) dX0_withPhase_15 ?_
  refine lv_lxor hx hb dX0_withPhase_18 ?_
  refine lv_land hx hb dX0_withPhase_19 ?_
  refine lv_iload_n hx hb dX0_withPhase_20 rfl (lv_at hl 3 rfl) ?_
  refine n_i2l hx hb (by omega) dX0_withPhase_21 ?_
  refine lv_iload hx hb dX0_withPhase_22 (lv_at hl 0 rfl) ?_
  refine n_lshl hx hb (by omega) dX0_withPhase_24 ?_
  refine lv_lor hx hb dX0_withPhase_25 ?_
  exact rRetL hx hb hr hlocks (congrArg Value.long (setL (n := C) (w := 2) (v := v) hv (by omega))) dX0_withPhase_26

set_option maxHeartbeats 4000000 in
set_option maxRecDepth 100000 in
theorem c_X0_withOwner (l : Launch) (D : va_G) (ca : Nat → ClassId) (C t p : Nat) (hC : C < 2 ^ 54) (ht : t < 10) (hp : p < 3) : RD l D ca yX0_withOwner wsX0_withOwner 1 20 [] [.long (lN C), .int (nI t), .int (nI p)] (.long (lN (sF C (24 + 3 * t) 2 (p + 1)))) := by
  refine RD.start (cc := cX0_withOwner) (maxL := 5) (ret := (some .long)) (by decide) rfl (Nat.le_of_ble_eq_true rfl) ?_
  intro p_ e_ s_ m_ below_ meth_ c_ hx hb hml hr hlocks hown hts hP hK ls hl
  have hown : s_.vm.findClass RX0 = some m_.cls := hown
  have hl : lv_has ls 5 [(0, .long (lN C)), (2, .int (nI t)), (3, .int (nI p))] := hl
  refine lv_iload_n hx hb dX0_withOwner_0 rfl (lv_at hl 1 rfl) ?_
  refine rdS (nL := 5) hx hb hml hown hts hK hP [.int (nI t)] [] (c_X0_ownerShift l D ca t) gX0_withOwner_X0_ownerShift rfl qX0_ownerShift ⟨Nat.le_of_ble_eq_true rfl, Nat.le_of_ble_eq_true rfl⟩ [] rfl rfl hl.1 (Nat.le_of_ble_eq_true rfl) ⟨Nat.le_of_ble_eq_true rfl, Nat.le_of_ble_eq_true rfl⟩ dX0_withOwner_1 ?_
  refine lv_istore (lv' := [(4, .int (nI (24 + 3 * t))), (0, .long (lN C)), (2, .int (nI t)), (3, .int (nI p))]) hx hb dX0_withOwner_4 hl (by decide) rfl (fun ls hl => ?_)
  refine lv_lload_n hx hb dX0_withOwner_6 rfl (lv_at hl 1 rfl) ?_
  refine lv_ldc2 (v := lN 3) hx hb hown (hts (.constantLong RX0 22 (3)) (List.mem_of_getElem? (i := 1) rfl)) dX0_withOwner_7 ?_
  refine lv_iload hx hb dX0_withOwner_10 (lv_at hl 0 rfl) ?_
  refine n_lshl hx hb (by omega) dX0_withOwner_12 ?_
  refine lv_ldc2 (v := -1) hx hb hown (hts (.constantLong RX0 24 (-1)) (List.mem_of_getElem? (i := 2) rfl)) dX0_withOwner_13 ?_
  refine lv_lxor hx hb dX0_withOwner_16 ?_
  refine lv_land hx hb dX0_withOwner_17 ?_
  refine lv_iload_n hx hb dX0_withOwner_18 rfl (lv_at hl 3 rfl) ?_
  refine lv_iconst (v := nI 1) hx hb dX0_withOwner_19 (by decide) ?_
  refine n_iadd hx hb dX0_withOwner_20 ?_
  refine n_i2l hx hb (by omega) dX0_withOwner_21 ?_
  refine lv_iload hx hb dX0_withOwner_22 (lv_at hl 0 rfl) ?_
  refine n_lshl hx hb (by omega) dX0_withOwner_24 ?_
  refine lv_lor hx hb dX0_withOwner_25 ?_
  exact rRetL hx hb hr hlocks (congrArg Value.long (setL (n := C) (w := 2) (v := p + 1) (by omega) (by omega))) dX0_withOwner_26

set_option maxHeartbeats 4000000 in
set_option maxRecDepth 100000 in
theorem c_X0_withDoorClosed (l : Launch) (D : va_G) (ca : Nat → ClassId) (C t : Nat) (hC : C < 2 ^ 54) (ht : t < 10) : RD l D ca yX0_withDoorClosed wsX0_withDoorClosed 1 20 [] [.long (lN C), .int (nI t)] (.long (lN (sF C (24 + 3 * t + 2) 1 1))) := by
  refine RD.start (cc := cX0_withDoorClosed) (maxL := 3) (ret := (some .long)) (by decide) rfl (Nat.le_of_ble_eq_true rfl) ?_
  intro p_ e_ s_ m_ below_ meth_ c_ hx hb hml hr hlocks hown hts hP hK ls hl
  have hown : s_.vm.findClass RX0 = some m_.cls := hown
  have hl : lv_has ls 3 [(0, .long (lN C)), (2, .int (nI t))] := hl
  refine lv_lload_n hx hb dX0_withDoorClosed_0 rfl (lv_at hl 0 rfl) ?_
  refine lv_lconst (v := lN 1) hx hb dX0_withDoorClosed_1 (by decide) ?_
  refine lv_iload_n hx hb dX0_withDoorClosed_2 rfl (lv_at hl 1 rfl) ?_
  refine rdS (nL := 3) hx hb hml hown hts hK hP [.int (nI t)] [.long (lN 1), .long (lN C)] (c_X0_ownerShift l D ca t) gX0_withDoorClosed_X0_ownerShift rfl qX0_ownerShift ⟨Nat.le_of_ble_eq_true rfl, Nat.le_of_ble_eq_true rfl⟩ [] rfl rfl hl.1 (Nat.le_of_ble_eq_true rfl) ⟨Nat.le_of_ble_eq_true rfl, Nat.le_of_ble_eq_true rfl⟩ dX0_withDoorClosed_3 ?_
  refine lv_iconst (v := nI 2) hx hb dX0_withDoorClosed_6 (by decide) ?_
  refine n_iadd hx hb dX0_withDoorClosed_7 ?_
  refine n_lshl hx hb (by omega) dX0_withDoorClosed_8 ?_
  refine lv_lor hx hb dX0_withDoorClosed_9 ?_
  exact rRetL hx hb hr hlocks (congrArg Value.long (by rw [Nat.one_mul]; exact orL (by omega))) dX0_withDoorClosed_10

set_option maxHeartbeats 4000000 in
set_option maxRecDepth 100000 in
theorem c_X0_diagonalOf (l : Launch) (D : va_G) (ca : Nat → ClassId) (t : Nat) (ht : t < 16) : RD l D ca yX0_diagonalOf wsX0_diagonalOf 0 0 [] [.int (nI t)] (.int (nI (dgn t))) := by
  refine RD.start (cc := cX0_diagonalOf) (maxL := 1) (ret := (some .int)) (by decide) rfl (Nat.le_of_ble_eq_true rfl) ?_
  intro p_ e_ s_ m_ below_ meth_ c_ hx hb hml hr hlocks hown hts hP hK ls hl
  have hown : s_.vm.findClass RX0 = some m_.cls := hown
  have hl : lv_has ls 1 [(0, .int (nI t))] := hl
  refine lv_iload_n hx hb dX0_diagonalOf_0 rfl (lv_at hl 0 rfl) ?_
  refine lv_iconst (v := nI 1) hx hb dX0_diagonalOf_1 (by decide) ?_
  refine n_ic_ge (tgt := 7) hx hb dX0_diagonalOf_2 (by decide) (by omega) (by decide) (fun c2 => ?_) (fun c2 => ?_)
  · refine lv_iload_n hx hb dX0_diagonalOf_7 rfl (lv_at hl 0 rfl) ?_
    refine lv_iconst (v := nI 3) hx hb dX0_diagonalOf_8 (by decide) ?_
    refine n_ic_ge (tgt := 14) hx hb dX0_diagonalOf_9 (by decide) (by omega) (by decide) (fun c9 => ?_) (fun c9 => ?_)
    · refine lv_iload_n hx hb dX0_diagonalOf_14 rfl (lv_at hl 0 rfl) ?_
      refine lv_bipush (v := nI 6) hx hb dX0_diagonalOf_15 (by decide) ?_
      refine n_ic_ge (tgt := 24) hx hb dX0_diagonalOf_17 (by decide) (by omega) (by decide) (fun c17 => ?_) (fun c17 => ?_)
      · refine lv_iconst (v := nI 3) hx hb dX0_diagonalOf_24 (by decide) ?_
        exact rRetI hx hb hr hlocks (congrArg (fun z => Value.int (nI z)) (by unfold dgn; (repeat' split) <;> omega)) dX0_diagonalOf_25
      · refine lv_iconst (v := nI 2) hx hb dX0_diagonalOf_20 (by decide) ?_
        refine lv_goto (tgt := 25) hx hb dX0_diagonalOf_21 (by decide) ?_
        exact rRetI hx hb hr hlocks (congrArg (fun z => Value.int (nI z)) (by unfold dgn; (repeat' split) <;> omega)) dX0_diagonalOf_25
    · refine lv_iconst (v := nI 1) hx hb dX0_diagonalOf_12 (by decide) ?_
      exact rRetI hx hb hr hlocks (congrArg (fun z => Value.int (nI z)) (by unfold dgn; (repeat' split) <;> omega)) dX0_diagonalOf_13
  · refine lv_iconst (v := nI 0) hx hb dX0_diagonalOf_5 (by decide) ?_
    exact rRetI hx hb hr hlocks (congrArg (fun z => Value.int (nI z)) (by unfold dgn; (repeat' split) <;> omega)) dX0_diagonalOf_6

set_option maxHeartbeats 4000000 in
set_option maxRecDepth 100000 in
theorem c_X0_moved (l : Launch) (D : va_G) (ca : Nat → ClassId) (C p k d : Nat) (hC : C < 2 ^ 54) (hp : p < 3) (hk : k ≤ 4) (hd : d ≤ 1) : RD l D ca yX0_moved wsX0_moved 1 22 [] [.long (lN C), .int (nI p), .int (nI k), .int (nI d)] (.long (lN (movC C p k d))) := by
  refine RD.start (cc := cX0_moved) (maxL := 12) (ret := (some .long)) (by decide) rfl (Nat.le_of_ble_eq_true rfl) ?_
  intro p_ e_ s_ m_ below_ meth_ c_ hx hb hml hr hlocks hown hts hP hK ls hl
  have hown : s_.vm.findClass RX0 = some m_.cls := hown
  have hl : lv_has ls 12 [(0, .long (lN C)), (2, .int (nI p)), (3, .int (nI k)), (4, .int (nI d))] := hl
  have hsp := spC_lt C p
  have hdg := dgn_le (spC C p)
  refine lv_bipush (v := nI 8) hx hb dX0_moved_0 (by decide) ?_
  refine lv_iload_n hx hb dX0_moved_2 rfl (lv_at hl 1 rfl) ?_
  refine n_imul hx hb dX0_moved_3 ?_
  refine lv_istore (lv' := [(5, .int (nI (8 * p))), (0, .long (lN C)), (2, .int (nI p)), (3, .int (nI k)), (4, .int (nI d))]) hx hb dX0_moved_4 hl (by decide) rfl (fun ls hl => ?_)
  refine lv_lload_n hx hb dX0_moved_6 rfl (lv_at hl 1 rfl) ?_
  refine lv_ldc2 (v := lN 255) hx hb hown (hts (.constantLong RX0 53 (255)) (List.mem_of_getElem? (i := 1) rfl)) dX0_moved_7 ?_
  refine lv_iload hx hb dX0_moved_10 (lv_at hl 0 rfl) ?_
  refine n_lshl hx hb (by omega) dX0_moved_12 ?_
  refine lv_ldc2 (v := -1) hx hb hown (hts (.constantLong RX0 24 (-1)) (List.mem_of_getElem? (i := 2) rfl)) dX0_moved_13 ?_
  refine lv_lxor hx hb dX0_moved_16 ?_
  refine lv_land hx hb dX0_moved_17 ?_
  refine lv_lstore (lv' := [(6, .long (((lN C) &&& (((lN (255 * 2 ^ (8 * p))) ^^^ ((-1))))))), (5, .int (nI (8 * p))), (0, .long (lN C)), (2, .int (nI p)), (3, .int (nI k)), (4, .int (nI d))]) hx hb dX0_moved_18 hl (by decide) rfl (fun ls hl => ?_)
  refine lv_lload_n hx hb dX0_moved_20 rfl (lv_at hl 2 rfl) ?_
  refine lv_iload_n hx hb dX0_moved_21 rfl (lv_at hl 3 rfl) ?_
  refine rdS (nL := 12) hx hb hml hown hts hK hP [.long (lN C), .int (nI p)] [] (c_X0_splitterIn l D ca C p hC hp) gX0_moved_X0_splitterIn rfl qX0_splitterIn ⟨Nat.le_of_ble_eq_true rfl, Nat.le_of_ble_eq_true rfl⟩ [] rfl rfl hl.1 (Nat.le_of_ble_eq_true rfl) ⟨Nat.le_of_ble_eq_true rfl, Nat.le_of_ble_eq_true rfl⟩ dX0_moved_22 ?_
  refine lv_istore (lv' := [(8, .int (nI (spC C p))), (6, .long (((lN C) &&& (((lN (255 * 2 ^ (8 * p))) ^^^ ((-1))))))), (5, .int (nI (8 * p))), (0, .long (lN C)), (2, .int (nI p)), (3, .int (nI k)), (4, .int (nI d))]) hx hb dX0_moved_25 hl (by decide) rfl (fun ls hl => ?_)
  refine lv_iload hx hb dX0_moved_27 (lv_at hl 0 rfl) ?_
  refine rdS (nL := 12) hx hb hml hown hts hK hP [.int (nI (spC C p))] [] (c_X0_diagonalOf l D ca (spC C p) hsp) gX0_moved_X0_diagonalOf rfl qX0_diagonalOf ⟨Nat.le_of_ble_eq_true rfl, Nat.le_of_ble_eq_true rfl⟩ [] rfl rfl hl.1 (Nat.le_of_ble_eq_true rfl) ⟨Nat.le_of_ble_eq_true rfl, Nat.le_of_ble_eq_true rfl⟩ dX0_moved_29 ?_
  refine lv_iconst (v := nI 1) hx hb dX0_moved_32 (by decide) ?_
  refine n_iadd hx hb dX0_moved_33 ?_
  refine lv_istore (lv' := [(9, .int (nI ((dgn (spC C p)) + 1))), (8, .int (nI (spC C p))), (6, .long (((lN C) &&& (((lN (255 * 2 ^ (8 * p))) ^^^ ((-1))))))), (5, .int (nI (8 * p))), (0, .long (lN C)), (2, .int (nI p)), (3, .int (nI k)), (4, .int (nI d))]) hx hb dX0_moved_34 hl (by decide) rfl (fun ls hl => ?_)
  refine lv_iload hx hb dX0_moved_36 (lv_at hl 0 rfl) ?_
  refine lv_iload_n hx hb dX0_moved_38 rfl (lv_at hl 6 rfl) ?_
  refine n_ic_lt (tgt := 52) hx hb dX0_moved_39 (by decide) (by omega) (by omega) (fun c39 => ?_) (fun c39 => ?_)
  · have h6 := dgn_6 (s := spC C p) (by omega)
    refine lv_iload hx hb dX0_moved_52 (lv_at hl 1 rfl) ?_
    refine lv_iload hx hb dX0_moved_54 (lv_at hl 0 rfl) ?_
    refine n_iadd hx hb dX0_moved_56 ?_
    refine lv_iload hx hb dX0_moved_57 (lv_at hl 7 rfl) ?_
    refine n_iadd hx hb dX0_moved_59 ?_
    refine n_i2l hx hb (by omega) dX0_moved_60 ?_
    refine lv_lstore (lv' := [(10, .long (lN (((spC C p) + ((dgn (spC C p)) + 1)) + d))), (9, .int (nI ((dgn (spC C p)) + 1))), (8, .int (nI (spC C p))), (6, .long (((lN C) &&& (((lN (255 * 2 ^ (8 * p))) ^^^ ((-1))))))), (5, .int (nI (8 * p))), (0, .long (lN C)), (2, .int (nI p)), (3, .int (nI k)), (4, .int (nI d))]) hx hb dX0_moved_61 hl (by decide) rfl (fun ls hl => ?_)
    refine lv_lload hx hb dX0_moved_63 (lv_at hl 3 rfl) ?_
    refine lv_lload hx hb dX0_moved_65 (lv_at hl 0 rfl) ?_
    refine lv_iload hx hb dX0_moved_67 (lv_at hl 4 rfl) ?_
    refine lv_iconst (v := nI 4) hx hb dX0_moved_69 (by decide) ?_
    refine n_iadd hx hb dX0_moved_70 ?_
    refine n_lshl hx hb (by omega) dX0_moved_71 ?_
    refine lv_lor hx hb dX0_moved_72 ?_
    exact rRetL hx hb hr hlocks (congrArg Value.long (by rw [pow_4, setL (n := C) (w := 8) (by omega) (by omega)]; unfold movC; rw [if_neg (by omega)])) dX0_moved_73
  · refine lv_lload hx hb dX0_moved_42 (lv_at hl 2 rfl) ?_
    refine lv_ldc2 (v := lN 2) hx hb hown (hts (.constantLong RX0 58 (2)) (List.mem_of_getElem? (i := 3) rfl)) dX0_moved_44 ?_
    refine lv_iload hx hb dX0_moved_47 (lv_at hl 3 rfl) ?_
    refine n_lshl hx hb (by omega) dX0_moved_49 ?_
    refine lv_lor hx hb dX0_moved_50 ?_
    exact rRetL hx hb hr hlocks (congrArg Value.long (by rw [setL (n := C) (w := 8) (v := 2) (by decide) (by omega)]; unfold movC; rw [if_pos c39])) dX0_moved_51

set_option maxHeartbeats 4000000 in
set_option maxRecDepth 100000 in
theorem c_X0_afterStep (l : Launch) (D : va_G) (ca : Nat → ClassId) (C p k g : Nat) (hC : C < 2 ^ 54) (hp : p < 3) (hk : k ≤ 4) (hg : g ≤ 2) (hs : spC C p < 10) : RD l D ca yX0_afterStep wsX0_afterStep 2 53 [] [.long (lN C), .int (nI p), .int (nI k), .int (nI g)] (.long (lN (stepC C p k g))) := by
  refine RD.start (cc := cX0_afterStep) (maxL := 10) (ret := (some .long)) (by decide) rfl (Nat.le_of_ble_eq_true rfl) ?_
  intro p_ e_ s_ m_ below_ meth_ c_ hx hb hml hr hlocks hown hts hP hK ls hl
  have hown : s_.vm.findClass RX0 = some m_.cls := hown
  have hl : lv_has ls 10 [(0, .long (lN C)), (2, .int (nI p)), (3, .int (nI k)), (4, .int (nI g))] := hl
  have hph := phC_lt C p
  have hdo := doC_lt C (spC C p)
  refine lv_lload_n hx hb dX0_afterStep_0 rfl (lv_at hl 0 rfl) ?_
  refine lv_iload_n hx hb dX0_afterStep_1 rfl (lv_at hl 1 rfl) ?_
  refine rdS (nL := 10) hx hb hml hown hts hK hP [.long (lN C), .int (nI p)] [] (c_X0_splitterIn l D ca C p hC hp) gX0_afterStep_X0_splitterIn rfl qX0_splitterIn ⟨Nat.le_of_ble_eq_true rfl, Nat.le_of_ble_eq_true rfl⟩ [] rfl rfl hl.1 (Nat.le_of_ble_eq_true rfl) ⟨Nat.le_of_ble_eq_true rfl, Nat.le_of_ble_eq_true rfl⟩ dX0_afterStep_2 ?_
  refine lv_istore (lv' := [(5, .int (nI (spC C p))), (0, .long (lN C)), (2, .int (nI p)), (3, .int (nI k)), (4, .int (nI g))]) hx hb dX0_afterStep_5 hl (by decide) rfl (fun ls hl => ?_)
  refine lv_lload_n hx hb dX0_afterStep_7 rfl (lv_at hl 1 rfl) ?_
  refine lv_iload_n hx hb dX0_afterStep_8 rfl (lv_at hl 2 rfl) ?_
  refine rdS (nL := 10) hx hb hml hown hts hK hP [.long (lN C), .int (nI p)] [] (c_X0_phaseIn l D ca C p hC hp) gX0_afterStep_X0_phaseIn rfl qX0_phaseIn ⟨Nat.le_of_ble_eq_true rfl, Nat.le_of_ble_eq_true rfl⟩ [] rfl rfl hl.1 (Nat.le_of_ble_eq_true rfl) ⟨Nat.le_of_ble_eq_true rfl, Nat.le_of_ble_eq_true rfl⟩ dX0_afterStep_9 ?_
  refine lv_istore (lv' := [(6, .int (nI (phC C p))), (5, .int (nI (spC C p))), (0, .long (lN C)), (2, .int (nI p)), (3, .int (nI k)), (4, .int (nI g))]) hx hb dX0_afterStep_12 hl (by decide) rfl (fun ls hl => ?_)
  refine lv_iload hx hb dX0_afterStep_14 (lv_at hl 0 rfl) ?_
  refine n_if_ne (tgt := 46) hx hb dX0_afterStep_16 (by decide) (by omega) (fun c16 => ?_) (fun c16 => ?_)
  · refine lv_iload hx hb dX0_afterStep_46 (lv_at hl 0 rfl) ?_
    refine lv_iconst (v := nI 1) hx hb dX0_afterStep_48 (by decide) ?_
    refine n_ic_ne (tgt := 79) hx hb dX0_afterStep_49 (by decide) (by omega) (by decide) (fun c49 => ?_) (fun c49 => ?_)
    · refine lv_iload hx hb dX0_afterStep_79 (lv_at hl 0 rfl) ?_
      refine lv_iload hx hb dX0_afterStep_81 (lv_at hl 5 rfl) ?_
      refine lv_iconst (v := nI 2) hx hb dX0_afterStep_83 (by decide) ?_
      refine n_ic_ne (tgt := 91) hx hb dX0_afterStep_84 (by decide) (by omega) (by decide) (fun c84 => ?_) (fun c84 => ?_)
      · refine lv_iconst (v := nI 3) hx hb dX0_afterStep_91 (by decide) ?_
        refine n_ic_ne (tgt := 99) hx hb dX0_afterStep_92 (by decide) (by omega) (by decide) (fun c92 => ?_) (fun c92 => ?_)
        · refine lv_iconst (v := nI 0) hx hb dX0_afterStep_99 (by decide) ?_
          refine lv_istore (lv' := [(7, .int (nI 0)), (6, .int (nI (phC C p))), (5, .int (nI (spC C p))), (0, .long (lN C)), (2, .int (nI p)), (3, .int (nI k)), (4, .int (nI g))]) hx hb dX0_afterStep_100 hl (by decide) rfl (fun ls hl => ?_)
          refine lv_iload hx hb dX0_afterStep_102 (lv_at hl 0 rfl) ?_
          refine n_if_eq (tgt := 125) hx hb dX0_afterStep_104 (by decide) (by decide) (fun _ => ?_) (fun q => absurd q (by decide))
          refine lv_iload hx hb dX0_afterStep_125 (lv_at hl 0 rfl) ?_
          refine n_if_eq (tgt := 134) hx hb dX0_afterStep_127 (by decide) (by decide) (fun _ => ?_) (fun q => absurd q (by decide))
          refine lv_lload_n hx hb dX0_afterStep_134 rfl (lv_at hl 3 rfl) ?_
          refine lv_iload hx hb dX0_afterStep_135 (lv_at hl 2 rfl) ?_
          refine rdS (nL := 10) hx hb hml hown hts hK hP [.long (lN C), .int (nI (spC C p))] [] (c_X0_withDoorClosed l D ca C (spC C p) hC hs) gX0_afterStep_X0_withDoorClosed rfl qX0_withDoorClosed ⟨Nat.le_of_ble_eq_true rfl, Nat.le_of_ble_eq_true rfl⟩ [] rfl rfl hl.1 (Nat.le_of_ble_eq_true rfl) ⟨Nat.le_of_ble_eq_true rfl, Nat.le_of_ble_eq_true rfl⟩ dX0_afterStep_137 ?_
          refine lv_lstore (lv' := [(8, .long (lN (sF C (24 + 3 * (spC C p) + 2) 1 1))), (7, .int (nI 0)), (6, .int (nI (phC C p))), (5, .int (nI (spC C p))), (0, .long (lN C)), (2, .int (nI p)), (3, .int (nI k)), (4, .int (nI g))]) hx hb dX0_afterStep_140 hl (by decide) rfl (fun ls hl => ?_)
          refine lv_iload hx hb dX0_afterStep_142 (lv_at hl 2 rfl) ?_
          refine lv_iconst (v := nI 2) hx hb dX0_afterStep_144 (by decide) ?_
          refine n_ic_ne (tgt := 158) hx hb dX0_afterStep_145 (by decide) (by omega) (by decide) (fun c145 => ?_) (fun c145 => ?_)
          · refine lv_lload hx hb dX0_afterStep_158 (lv_at hl 0 rfl) ?_
            refine lv_iload_n hx hb dX0_afterStep_160 rfl (lv_at hl 5 rfl) ?_
            refine lv_iconst (v := nI 1) hx hb dX0_afterStep_161 (by decide) ?_
            refine rdS (nL := 10) hx hb hml hown hts hK hP [.long (lN (sF C (24 + 3 * (spC C p) + 2) 1 1)), .int (nI p), .int (nI 1)] [] (c_X0_withStatus l D ca (sF C (24 + 3 * (spC C p) + 2) 1 1) p 1 (sF_lt (by decide) hC (by omega)) hp (by decide)) gX0_afterStep_X0_withStatus rfl qX0_withStatus ⟨Nat.le_of_ble_eq_true rfl, Nat.le_of_ble_eq_true rfl⟩ [] rfl rfl hl.1 (Nat.le_of_ble_eq_true rfl) ⟨Nat.le_of_ble_eq_true rfl, Nat.le_of_ble_eq_true rfl⟩ dX0_afterStep_162 ?_
            exact rRetL hx hb hr hlocks (congrArg (fun z => Value.long (lN z)) (by first | (exfalso; omega) | simp [stepC, c16, c49, c84, c92, c145])) dX0_afterStep_165
          · refine lv_lload hx hb dX0_afterStep_148 (lv_at hl 0 rfl) ?_
            refine lv_iload_n hx hb dX0_afterStep_150 rfl (lv_at hl 5 rfl) ?_
            refine lv_iconst (v := nI 3) hx hb dX0_afterStep_151 (by decide) ?_
            refine rdS (nL := 10) hx hb hml hown hts hK hP [.long (lN (sF C (24 + 3 * (spC C p) + 2) 1 1)), .int (nI p), .int (nI 3)] [] (c_X0_withPhase l D ca (sF C (24 + 3 * (spC C p) + 2) 1 1) p 3 (sF_lt (by decide) hC (by omega)) hp (by decide)) gX0_afterStep_X0_withPhase rfl qX0_withPhase ⟨Nat.le_of_ble_eq_true rfl, Nat.le_of_ble_eq_true rfl⟩ [] rfl rfl hl.1 (Nat.le_of_ble_eq_true rfl) ⟨Nat.le_of_ble_eq_true rfl, Nat.le_of_ble_eq_true rfl⟩ dX0_afterStep_152 ?_
            refine lv_goto (tgt := 165) hx hb dX0_afterStep_155 (by decide) ?_
            exact rRetL hx hb hr hlocks (congrArg (fun z => Value.long (lN z)) (by first | (exfalso; omega) | simp [stepC, c16, c49, c84, c92, c145])) dX0_afterStep_165
        · refine lv_iconst (v := nI 1) hx hb dX0_afterStep_95 (by decide) ?_
          refine lv_goto (tgt := 100) hx hb dX0_afterStep_96 (by decide) ?_
          refine lv_istore (lv' := [(7, .int (nI 1)), (6, .int (nI (phC C p))), (5, .int (nI (spC C p))), (0, .long (lN C)), (2, .int (nI p)), (3, .int (nI k)), (4, .int (nI g))]) hx hb dX0_afterStep_100 hl (by decide) rfl (fun ls hl => ?_)
          refine lv_iload hx hb dX0_afterStep_102 (lv_at hl 0 rfl) ?_
          refine n_if_eq (tgt := 125) hx hb dX0_afterStep_104 (by decide) (by decide) (fun q => absurd q (by decide)) (fun _ => ?_)
          refine lv_lload_n hx hb dX0_afterStep_107 rfl (lv_at hl 3 rfl) ?_
          refine lv_iload hx hb dX0_afterStep_108 (lv_at hl 2 rfl) ?_
          refine rdS (nL := 10) hx hb hml hown hts hK hP [.long (lN C), .int (nI (spC C p))] [] (c_X0_ownerIn l D ca C (spC C p) hC hs) gX0_afterStep_X0_ownerIn rfl qX0_ownerIn ⟨Nat.le_of_ble_eq_true rfl, Nat.le_of_ble_eq_true rfl⟩ [] rfl rfl hl.1 (Nat.le_of_ble_eq_true rfl) ⟨Nat.le_of_ble_eq_true rfl, Nat.le_of_ble_eq_true rfl⟩ dX0_afterStep_110 ?_
          refine lv_iload_n hx hb dX0_afterStep_113 rfl (lv_at hl 4 rfl) ?_
          refine lv_icmp_eq (tgt := 125) hx hb dX0_afterStep_114 (by decide) (fun c114 => ?_) (fun c114 => ?_)
          · rw [ownV_eq hp] at c114
            refine lv_iload hx hb dX0_afterStep_125 (lv_at hl 0 rfl) ?_
            refine n_if_eq (tgt := 134) hx hb dX0_afterStep_127 (by decide) (by decide) (fun q => absurd q (by decide)) (fun _ => ?_)
            refine lv_lload_n hx hb dX0_afterStep_130 rfl (lv_at hl 3 rfl) ?_
            refine lv_goto (tgt := 140) hx hb dX0_afterStep_131 (by decide) ?_
            refine lv_lstore (lv' := [(8, .long (lN C)), (7, .int (nI 1)), (6, .int (nI (phC C p))), (5, .int (nI (spC C p))), (0, .long (lN C)), (2, .int (nI p)), (3, .int (nI k)), (4, .int (nI g))]) hx hb dX0_afterStep_140 hl (by decide) rfl (fun ls hl => ?_)
            refine lv_iload hx hb dX0_afterStep_142 (lv_at hl 2 rfl) ?_
            refine lv_iconst (v := nI 2) hx hb dX0_afterStep_144 (by decide) ?_
            refine n_ic_ne (tgt := 158) hx hb dX0_afterStep_145 (by decide) (by omega) (by decide) (fun c145 => ?_) (fun c145 => ?_)
            · refine lv_lload hx hb dX0_afterStep_158 (lv_at hl 0 rfl) ?_
              refine lv_iload_n hx hb dX0_afterStep_160 rfl (lv_at hl 5 rfl) ?_
              refine lv_iconst (v := nI 1) hx hb dX0_afterStep_161 (by decide) ?_
              refine rdS (nL := 10) hx hb hml hown hts hK hP [.long (lN C), .int (nI p), .int (nI 1)] [] (c_X0_withStatus l D ca C p 1 hC hp (by decide)) gX0_afterStep_X0_withStatus rfl qX0_withStatus ⟨Nat.le_of_ble_eq_true rfl, Nat.le_of_ble_eq_true rfl⟩ [] rfl rfl hl.1 (Nat.le_of_ble_eq_true rfl) ⟨Nat.le_of_ble_eq_true rfl, Nat.le_of_ble_eq_true rfl⟩ dX0_afterStep_162 ?_
              exact rRetL hx hb hr hlocks (congrArg (fun z => Value.long (lN z)) (by first | (exfalso; omega) | simp [stepC, c16, c49, c84, c92, c114, c145])) dX0_afterStep_165
            · refine lv_lload hx hb dX0_afterStep_148 (lv_at hl 0 rfl) ?_
              refine lv_iload_n hx hb dX0_afterStep_150 rfl (lv_at hl 5 rfl) ?_
              refine lv_iconst (v := nI 3) hx hb dX0_afterStep_151 (by decide) ?_
              refine rdS (nL := 10) hx hb hml hown hts hK hP [.long (lN C), .int (nI p), .int (nI 3)] [] (c_X0_withPhase l D ca C p 3 hC hp (by decide)) gX0_afterStep_X0_withPhase rfl qX0_withPhase ⟨Nat.le_of_ble_eq_true rfl, Nat.le_of_ble_eq_true rfl⟩ [] rfl rfl hl.1 (Nat.le_of_ble_eq_true rfl) ⟨Nat.le_of_ble_eq_true rfl, Nat.le_of_ble_eq_true rfl⟩ dX0_afterStep_152 ?_
              refine lv_goto (tgt := 165) hx hb dX0_afterStep_155 (by decide) ?_
              exact rRetL hx hb hr hlocks (congrArg (fun z => Value.long (lN z)) (by first | (exfalso; omega) | simp [stepC, c16, c49, c84, c92, c114, c145])) dX0_afterStep_165
          · rw [ownV_eq hp] at c114
            refine lv_lload_n hx hb dX0_afterStep_117 rfl (lv_at hl 3 rfl) ?_
            refine lv_iload_n hx hb dX0_afterStep_118 rfl (lv_at hl 4 rfl) ?_
            refine lv_iload_n hx hb dX0_afterStep_119 rfl (lv_at hl 5 rfl) ?_
            refine lv_iconst (v := nI 1) hx hb dX0_afterStep_120 (by decide) ?_
            refine rdS (nL := 10) hx hb hml hown hts hK hP [.long (lN C), .int (nI p), .int (nI k), .int (nI 1)] [] (c_X0_moved l D ca C p k 1 hC hp (by omega) (by omega)) gX0_afterStep_X0_moved rfl qX0_moved ⟨Nat.le_of_ble_eq_true rfl, Nat.le_of_ble_eq_true rfl⟩ [] rfl rfl hl.1 (Nat.le_of_ble_eq_true rfl) ⟨Nat.le_of_ble_eq_true rfl, Nat.le_of_ble_eq_true rfl⟩ dX0_afterStep_121 ?_
            exact rRetL hx hb hr hlocks (congrArg (fun z => Value.long (lN z)) (by first | (exfalso; omega) | simp [stepC, c16, c49, c84, c92, c114])) dX0_afterStep_124
      · refine lv_iconst (v := nI 2) hx hb dX0_afterStep_87 (by decide) ?_
        refine lv_goto (tgt := 92) hx hb dX0_afterStep_88 (by decide) ?_
        refine n_ic_ne (tgt := 99) hx hb dX0_afterStep_92 (by decide) (by omega) (by decide) (fun c92 => ?_) (fun c92 => ?_)
        · refine lv_iconst (v := nI 0) hx hb dX0_afterStep_99 (by decide) ?_
          refine lv_istore (lv' := [(7, .int (nI 0)), (6, .int (nI (phC C p))), (5, .int (nI (spC C p))), (0, .long (lN C)), (2, .int (nI p)), (3, .int (nI k)), (4, .int (nI g))]) hx hb dX0_afterStep_100 hl (by decide) rfl (fun ls hl => ?_)
          refine lv_iload hx hb dX0_afterStep_102 (lv_at hl 0 rfl) ?_
          refine n_if_eq (tgt := 125) hx hb dX0_afterStep_104 (by decide) (by decide) (fun _ => ?_) (fun q => absurd q (by decide))
          refine lv_iload hx hb dX0_afterStep_125 (lv_at hl 0 rfl) ?_
          refine n_if_eq (tgt := 134) hx hb dX0_afterStep_127 (by decide) (by decide) (fun _ => ?_) (fun q => absurd q (by decide))
          refine lv_lload_n hx hb dX0_afterStep_134 rfl (lv_at hl 3 rfl) ?_
          refine lv_iload hx hb dX0_afterStep_135 (lv_at hl 2 rfl) ?_
          refine rdS (nL := 10) hx hb hml hown hts hK hP [.long (lN C), .int (nI (spC C p))] [] (c_X0_withDoorClosed l D ca C (spC C p) hC hs) gX0_afterStep_X0_withDoorClosed rfl qX0_withDoorClosed ⟨Nat.le_of_ble_eq_true rfl, Nat.le_of_ble_eq_true rfl⟩ [] rfl rfl hl.1 (Nat.le_of_ble_eq_true rfl) ⟨Nat.le_of_ble_eq_true rfl, Nat.le_of_ble_eq_true rfl⟩ dX0_afterStep_137 ?_
          refine lv_lstore (lv' := [(8, .long (lN (sF C (24 + 3 * (spC C p) + 2) 1 1))), (7, .int (nI 0)), (6, .int (nI (phC C p))), (5, .int (nI (spC C p))), (0, .long (lN C)), (2, .int (nI p)), (3, .int (nI k)), (4, .int (nI g))]) hx hb dX0_afterStep_140 hl (by decide) rfl (fun ls hl => ?_)
          refine lv_iload hx hb dX0_afterStep_142 (lv_at hl 2 rfl) ?_
          refine lv_iconst (v := nI 2) hx hb dX0_afterStep_144 (by decide) ?_
          refine n_ic_ne (tgt := 158) hx hb dX0_afterStep_145 (by decide) (by omega) (by decide) (fun c145 => ?_) (fun c145 => ?_)
          · refine lv_lload hx hb dX0_afterStep_158 (lv_at hl 0 rfl) ?_
            refine lv_iload_n hx hb dX0_afterStep_160 rfl (lv_at hl 5 rfl) ?_
            refine lv_iconst (v := nI 1) hx hb dX0_afterStep_161 (by decide) ?_
            refine rdS (nL := 10) hx hb hml hown hts hK hP [.long (lN (sF C (24 + 3 * (spC C p) + 2) 1 1)), .int (nI p), .int (nI 1)] [] (c_X0_withStatus l D ca (sF C (24 + 3 * (spC C p) + 2) 1 1) p 1 (sF_lt (by decide) hC (by omega)) hp (by decide)) gX0_afterStep_X0_withStatus rfl qX0_withStatus ⟨Nat.le_of_ble_eq_true rfl, Nat.le_of_ble_eq_true rfl⟩ [] rfl rfl hl.1 (Nat.le_of_ble_eq_true rfl) ⟨Nat.le_of_ble_eq_true rfl, Nat.le_of_ble_eq_true rfl⟩ dX0_afterStep_162 ?_
            exact rRetL hx hb hr hlocks (congrArg (fun z => Value.long (lN z)) (by first | (exfalso; omega) | simp [stepC, c16, c49, c84, c92, c145])) dX0_afterStep_165
          · refine lv_lload hx hb dX0_afterStep_148 (lv_at hl 0 rfl) ?_
            refine lv_iload_n hx hb dX0_afterStep_150 rfl (lv_at hl 5 rfl) ?_
            refine lv_iconst (v := nI 3) hx hb dX0_afterStep_151 (by decide) ?_
            refine rdS (nL := 10) hx hb hml hown hts hK hP [.long (lN (sF C (24 + 3 * (spC C p) + 2) 1 1)), .int (nI p), .int (nI 3)] [] (c_X0_withPhase l D ca (sF C (24 + 3 * (spC C p) + 2) 1 1) p 3 (sF_lt (by decide) hC (by omega)) hp (by decide)) gX0_afterStep_X0_withPhase rfl qX0_withPhase ⟨Nat.le_of_ble_eq_true rfl, Nat.le_of_ble_eq_true rfl⟩ [] rfl rfl hl.1 (Nat.le_of_ble_eq_true rfl) ⟨Nat.le_of_ble_eq_true rfl, Nat.le_of_ble_eq_true rfl⟩ dX0_afterStep_152 ?_
            refine lv_goto (tgt := 165) hx hb dX0_afterStep_155 (by decide) ?_
            exact rRetL hx hb hr hlocks (congrArg (fun z => Value.long (lN z)) (by first | (exfalso; omega) | simp [stepC, c16, c49, c84, c92, c145])) dX0_afterStep_165
        · refine lv_iconst (v := nI 1) hx hb dX0_afterStep_95 (by decide) ?_
          refine lv_goto (tgt := 100) hx hb dX0_afterStep_96 (by decide) ?_
          refine lv_istore (lv' := [(7, .int (nI 1)), (6, .int (nI (phC C p))), (5, .int (nI (spC C p))), (0, .long (lN C)), (2, .int (nI p)), (3, .int (nI k)), (4, .int (nI g))]) hx hb dX0_afterStep_100 hl (by decide) rfl (fun ls hl => ?_)
          refine lv_iload hx hb dX0_afterStep_102 (lv_at hl 0 rfl) ?_
          refine n_if_eq (tgt := 125) hx hb dX0_afterStep_104 (by decide) (by decide) (fun q => absurd q (by decide)) (fun _ => ?_)
          refine lv_lload_n hx hb dX0_afterStep_107 rfl (lv_at hl 3 rfl) ?_
          refine lv_iload hx hb dX0_afterStep_108 (lv_at hl 2 rfl) ?_
          refine rdS (nL := 10) hx hb hml hown hts hK hP [.long (lN C), .int (nI (spC C p))] [] (c_X0_ownerIn l D ca C (spC C p) hC hs) gX0_afterStep_X0_ownerIn rfl qX0_ownerIn ⟨Nat.le_of_ble_eq_true rfl, Nat.le_of_ble_eq_true rfl⟩ [] rfl rfl hl.1 (Nat.le_of_ble_eq_true rfl) ⟨Nat.le_of_ble_eq_true rfl, Nat.le_of_ble_eq_true rfl⟩ dX0_afterStep_110 ?_
          refine lv_iload_n hx hb dX0_afterStep_113 rfl (lv_at hl 4 rfl) ?_
          refine lv_icmp_eq (tgt := 125) hx hb dX0_afterStep_114 (by decide) (fun c114 => ?_) (fun c114 => ?_)
          · rw [ownV_eq hp] at c114
            refine lv_iload hx hb dX0_afterStep_125 (lv_at hl 0 rfl) ?_
            refine n_if_eq (tgt := 134) hx hb dX0_afterStep_127 (by decide) (by decide) (fun q => absurd q (by decide)) (fun _ => ?_)
            refine lv_lload_n hx hb dX0_afterStep_130 rfl (lv_at hl 3 rfl) ?_
            refine lv_goto (tgt := 140) hx hb dX0_afterStep_131 (by decide) ?_
            refine lv_lstore (lv' := [(8, .long (lN C)), (7, .int (nI 1)), (6, .int (nI (phC C p))), (5, .int (nI (spC C p))), (0, .long (lN C)), (2, .int (nI p)), (3, .int (nI k)), (4, .int (nI g))]) hx hb dX0_afterStep_140 hl (by decide) rfl (fun ls hl => ?_)
            refine lv_iload hx hb dX0_afterStep_142 (lv_at hl 2 rfl) ?_
            refine lv_iconst (v := nI 2) hx hb dX0_afterStep_144 (by decide) ?_
            refine n_ic_ne (tgt := 158) hx hb dX0_afterStep_145 (by decide) (by omega) (by decide) (fun c145 => ?_) (fun c145 => ?_)
            · refine lv_lload hx hb dX0_afterStep_158 (lv_at hl 0 rfl) ?_
              refine lv_iload_n hx hb dX0_afterStep_160 rfl (lv_at hl 5 rfl) ?_
              refine lv_iconst (v := nI 1) hx hb dX0_afterStep_161 (by decide) ?_
              refine rdS (nL := 10) hx hb hml hown hts hK hP [.long (lN C), .int (nI p), .int (nI 1)] [] (c_X0_withStatus l D ca C p 1 hC hp (by decide)) gX0_afterStep_X0_withStatus rfl qX0_withStatus ⟨Nat.le_of_ble_eq_true rfl, Nat.le_of_ble_eq_true rfl⟩ [] rfl rfl hl.1 (Nat.le_of_ble_eq_true rfl) ⟨Nat.le_of_ble_eq_true rfl, Nat.le_of_ble_eq_true rfl⟩ dX0_afterStep_162 ?_
              exact rRetL hx hb hr hlocks (congrArg (fun z => Value.long (lN z)) (by first | (exfalso; omega) | simp [stepC, c16, c49, c84, c92, c114, c145])) dX0_afterStep_165
            · refine lv_lload hx hb dX0_afterStep_148 (lv_at hl 0 rfl) ?_
              refine lv_iload_n hx hb dX0_afterStep_150 rfl (lv_at hl 5 rfl) ?_
              refine lv_iconst (v := nI 3) hx hb dX0_afterStep_151 (by decide) ?_
              refine rdS (nL := 10) hx hb hml hown hts hK hP [.long (lN C), .int (nI p), .int (nI 3)] [] (c_X0_withPhase l D ca C p 3 hC hp (by decide)) gX0_afterStep_X0_withPhase rfl qX0_withPhase ⟨Nat.le_of_ble_eq_true rfl, Nat.le_of_ble_eq_true rfl⟩ [] rfl rfl hl.1 (Nat.le_of_ble_eq_true rfl) ⟨Nat.le_of_ble_eq_true rfl, Nat.le_of_ble_eq_true rfl⟩ dX0_afterStep_152 ?_
              refine lv_goto (tgt := 165) hx hb dX0_afterStep_155 (by decide) ?_
              exact rRetL hx hb hr hlocks (congrArg (fun z => Value.long (lN z)) (by first | (exfalso; omega) | simp [stepC, c16, c49, c84, c92, c114, c145])) dX0_afterStep_165
          · rw [ownV_eq hp] at c114
            refine lv_lload_n hx hb dX0_afterStep_117 rfl (lv_at hl 3 rfl) ?_
            refine lv_iload_n hx hb dX0_afterStep_118 rfl (lv_at hl 4 rfl) ?_
            refine lv_iload_n hx hb dX0_afterStep_119 rfl (lv_at hl 5 rfl) ?_
            refine lv_iconst (v := nI 1) hx hb dX0_afterStep_120 (by decide) ?_
            refine rdS (nL := 10) hx hb hml hown hts hK hP [.long (lN C), .int (nI p), .int (nI k), .int (nI 1)] [] (c_X0_moved l D ca C p k 1 hC hp (by omega) (by omega)) gX0_afterStep_X0_moved rfl qX0_moved ⟨Nat.le_of_ble_eq_true rfl, Nat.le_of_ble_eq_true rfl⟩ [] rfl rfl hl.1 (Nat.le_of_ble_eq_true rfl) ⟨Nat.le_of_ble_eq_true rfl, Nat.le_of_ble_eq_true rfl⟩ dX0_afterStep_121 ?_
            exact rRetL hx hb hr hlocks (congrArg (fun z => Value.long (lN z)) (by first | (exfalso; omega) | simp [stepC, c16, c49, c84, c92, c114])) dX0_afterStep_124
    · refine lv_lload_n hx hb dX0_afterStep_52 rfl (lv_at hl 2 rfl) ?_
      refine lv_iload hx hb dX0_afterStep_53 (lv_at hl 1 rfl) ?_
      refine rdS (nL := 10) hx hb hml hown hts hK hP [.long (lN C), .int (nI (spC C p))] [] (c_X0_doorIn l D ca C (spC C p) hC hs) gX0_afterStep_X0_doorIn rfl qX0_doorIn ⟨Nat.le_of_ble_eq_true rfl, Nat.le_of_ble_eq_true rfl⟩ [] rfl rfl hl.1 (Nat.le_of_ble_eq_true rfl) ⟨Nat.le_of_ble_eq_true rfl, Nat.le_of_ble_eq_true rfl⟩ dX0_afterStep_55 ?_
      refine lv_iconst (v := nI 1) hx hb dX0_afterStep_58 (by decide) ?_
      refine n_ic_ne (tgt := 72) hx hb dX0_afterStep_59 (by decide) (by omega) (by decide) (fun c59 => ?_) (fun c59 => ?_)
      · refine lv_lload_n hx hb dX0_afterStep_72 rfl (lv_at hl 2 rfl) ?_
        refine lv_iload_n hx hb dX0_afterStep_73 rfl (lv_at hl 3 rfl) ?_
        refine lv_iconst (v := nI 2) hx hb dX0_afterStep_74 (by decide) ?_
        refine rdS (nL := 10) hx hb hml hown hts hK hP [.long (lN C), .int (nI p), .int (nI 2)] [] (c_X0_withPhase l D ca C p 2 hC hp (by decide)) gX0_afterStep_X0_withPhase rfl qX0_withPhase ⟨Nat.le_of_ble_eq_true rfl, Nat.le_of_ble_eq_true rfl⟩ [] rfl rfl hl.1 (Nat.le_of_ble_eq_true rfl) ⟨Nat.le_of_ble_eq_true rfl, Nat.le_of_ble_eq_true rfl⟩ dX0_afterStep_75 ?_
        exact rRetL hx hb hr hlocks (congrArg (fun z => Value.long (lN z)) (by first | (exfalso; omega) | simp [stepC, c16, c49, c59])) dX0_afterStep_78
      · refine lv_lload_n hx hb dX0_afterStep_62 rfl (lv_at hl 2 rfl) ?_
        refine lv_iload_n hx hb dX0_afterStep_63 rfl (lv_at hl 3 rfl) ?_
        refine lv_iload_n hx hb dX0_afterStep_64 rfl (lv_at hl 4 rfl) ?_
        refine lv_iconst (v := nI 0) hx hb dX0_afterStep_65 (by decide) ?_
        refine rdS (nL := 10) hx hb hml hown hts hK hP [.long (lN C), .int (nI p), .int (nI k), .int (nI 0)] [] (c_X0_moved l D ca C p k 0 hC hp (by omega) (by omega)) gX0_afterStep_X0_moved rfl qX0_moved ⟨Nat.le_of_ble_eq_true rfl, Nat.le_of_ble_eq_true rfl⟩ [] rfl rfl hl.1 (Nat.le_of_ble_eq_true rfl) ⟨Nat.le_of_ble_eq_true rfl, Nat.le_of_ble_eq_true rfl⟩ dX0_afterStep_66 ?_
        refine lv_goto (tgt := 78) hx hb dX0_afterStep_69 (by decide) ?_
        exact rRetL hx hb hr hlocks (congrArg (fun z => Value.long (lN z)) (by first | (exfalso; omega) | simp [stepC, c16, c49, c59])) dX0_afterStep_78
  · refine lv_lload_n hx hb dX0_afterStep_19 rfl (lv_at hl 2 rfl) ?_
    refine lv_iload hx hb dX0_afterStep_20 (lv_at hl 1 rfl) ?_
    refine lv_iload_n hx hb dX0_afterStep_22 rfl (lv_at hl 3 rfl) ?_
    refine rdS (nL := 10) hx hb hml hown hts hK hP [.long (lN C), .int (nI (spC C p)), .int (nI p)] [] (c_X0_withOwner l D ca C (spC C p) p hC hs hp) gX0_afterStep_X0_withOwner rfl qX0_withOwner ⟨Nat.le_of_ble_eq_true rfl, Nat.le_of_ble_eq_true rfl⟩ [] rfl rfl hl.1 (Nat.le_of_ble_eq_true rfl) ⟨Nat.le_of_ble_eq_true rfl, Nat.le_of_ble_eq_true rfl⟩ dX0_afterStep_23 ?_
    refine lv_lstore (lv' := [(7, .long (lN (sF C (24 + 3 * (spC C p)) 2 (p + 1)))), (6, .int (nI (phC C p))), (5, .int (nI (spC C p))), (0, .long (lN C)), (2, .int (nI p)), (3, .int (nI k)), (4, .int (nI g))]) hx hb dX0_afterStep_26 hl (by decide) rfl (fun ls hl => ?_)
    refine lv_lload hx hb dX0_afterStep_28 (lv_at hl 0 rfl) ?_
    refine lv_iload_n hx hb dX0_afterStep_30 rfl (lv_at hl 4 rfl) ?_
    refine lv_iload hx hb dX0_afterStep_31 (lv_at hl 6 rfl) ?_
    refine lv_iconst (v := nI 1) hx hb dX0_afterStep_33 (by decide) ?_
    refine n_ic_ne (tgt := 41) hx hb dX0_afterStep_34 (by decide) (by omega) (by decide) (fun c34 => ?_) (fun c34 => ?_)
    · refine lv_iconst (v := nI 1) hx hb dX0_afterStep_41 (by decide) ?_
      refine rdS (nL := 10) hx hb hml hown hts hK hP [.long (lN (sF C (24 + 3 * (spC C p)) 2 (p + 1))), .int (nI p), .int (nI 1)] [] (c_X0_withPhase l D ca (sF C (24 + 3 * (spC C p)) 2 (p + 1)) p 1 (sF_lt (by omega) hC (by omega)) hp (by decide)) gX0_afterStep_X0_withPhase rfl qX0_withPhase ⟨Nat.le_of_ble_eq_true rfl, Nat.le_of_ble_eq_true rfl⟩ [] rfl rfl hl.1 (Nat.le_of_ble_eq_true rfl) ⟨Nat.le_of_ble_eq_true rfl, Nat.le_of_ble_eq_true rfl⟩ dX0_afterStep_42 ?_
      exact rRetL hx hb hr hlocks (congrArg (fun z => Value.long (lN z)) (by first | (exfalso; omega) | simp [stepC, c16, c34])) dX0_afterStep_45
    · refine lv_iconst (v := nI 2) hx hb dX0_afterStep_37 (by decide) ?_
      refine lv_goto (tgt := 42) hx hb dX0_afterStep_38 (by decide) ?_
      refine rdS (nL := 10) hx hb hml hown hts hK hP [.long (lN (sF C (24 + 3 * (spC C p)) 2 (p + 1))), .int (nI p), .int (nI 2)] [] (c_X0_withPhase l D ca (sF C (24 + 3 * (spC C p)) 2 (p + 1)) p 2 (sF_lt (by omega) hC (by omega)) hp (by decide)) gX0_afterStep_X0_withPhase rfl qX0_withPhase ⟨Nat.le_of_ble_eq_true rfl, Nat.le_of_ble_eq_true rfl⟩ [] rfl rfl hl.1 (Nat.le_of_ble_eq_true rfl) ⟨Nat.le_of_ble_eq_true rfl, Nat.le_of_ble_eq_true rfl⟩ dX0_afterStep_42 ?_
      exact rRetL hx hb hr hlocks (congrArg (fun z => Value.long (lN z)) (by first | (exfalso; omega) | simp [stepC, c16, c34])) dX0_afterStep_45

/-! ===== counts: six bits each ===== -/
def cnt (n i : Nat) : Nat := n / 2 ^ (6 * i) % 2 ^ 6

set_option maxHeartbeats 4000000 in
set_option maxRecDepth 100000 in
theorem c_X1_countIn (l : Launch) (D : va_G) (ca : Nat → ClassId) (n i : Nat) (hn : n < 2 ^ 60) (hi : i < 10) : RD l D ca yX1_countIn wsX1_countIn 0 0 [] [.long (lN n), .int (nI i)] (.int (nI (cnt n i))) := by
  refine RD.start (cc := cX1_countIn) (maxL := 3) (ret := (some .int)) (by decide) rfl (Nat.le_of_ble_eq_true rfl) ?_
  intro p_ e_ s_ m_ below_ meth_ c_ hx hb hml hr hlocks hown hts hP hK ls hl
  have hown : s_.vm.findClass RX1 = some m_.cls := hown
  have hl : lv_has ls 3 [(0, .long (lN n)), (2, .int (nI i))] := hl
  refine lv_lload_n hx hb dX1_countIn_0 rfl (lv_at hl 0 rfl) ?_
  refine lv_bipush (v := nI 6) hx hb dX1_countIn_1 (by decide) ?_
  refine lv_iload_n hx hb dX1_countIn_3 rfl (lv_at hl 1 rfl) ?_
  refine n_imul hx hb dX1_countIn_4 ?_
  refine n_lushr hx hb (by omega) (by omega) dX1_countIn_5 ?_
  refine n_l2i hx hb dX1_countIn_6 ?_
  refine lv_bipush (v := nI 63) hx hb dX1_countIn_7 (by decide) ?_
  refine n_iand hx hb 6 (by decide) dX1_countIn_9 ?_
  exact rRetI hx hb hr hlocks rfl dX1_countIn_10

set_option maxHeartbeats 4000000 in
set_option maxRecDepth 100000 in
theorem c_X1_withOneMore (l : Launch) (D : va_G) (ca : Nat → ClassId) (n i : Nat) (hi : i < 10) : RD l D ca yX1_withOneMore wsX1_withOneMore 0 0 [] [.long (lN n), .int (nI i)] (.long (lN (n + 2 ^ (6 * i)))) := by
  refine RD.start (cc := cX1_withOneMore) (maxL := 3) (ret := (some .long)) (by decide) rfl (Nat.le_of_ble_eq_true rfl) ?_
  intro p_ e_ s_ m_ below_ meth_ c_ hx hb hml hr hlocks hown hts hP hK ls hl
  have hown : s_.vm.findClass RX1 = some m_.cls := hown
  have hl : lv_has ls 3 [(0, .long (lN n)), (2, .int (nI i))] := hl
  refine lv_lload_n hx hb dX1_withOneMore_0 rfl (lv_at hl 0 rfl) ?_
  refine lv_lconst (v := lN 1) hx hb dX1_withOneMore_1 (by decide) ?_
  refine lv_bipush (v := nI 6) hx hb dX1_withOneMore_2 (by decide) ?_
  refine lv_iload_n hx hb dX1_withOneMore_4 rfl (lv_at hl 1 rfl) ?_
  refine n_imul hx hb dX1_withOneMore_5 ?_
  refine n_lshl hx hb (by omega) dX1_withOneMore_6 ?_
  refine n_ladd hx hb dX1_withOneMore_7 ?_
  exact rRetL hx hb hr hlocks (congrArg (fun z => Value.long (lN z)) (by rw [Nat.one_mul])) dX1_withOneMore_8
end
section
/-! ===== what a step does to the fields of the processes; valid states ===== -/
theorem gF_sF_part {n off w v o2 w2 : Nat} (hv : v < 2 ^ w) (h : o2 + w2 ≤ w) : gF (sF n off w v) (off + o2) w2 = gF v o2 w2 := by
  rw [← gF_gF h, gF_sF_same hv]
/-- the three fields of a process -/
def fl3 (C p : Nat) : Nat × Nat × Nat := (stC C p, phC C p, spC C p)
theorem fl3_reg {C p o w v : Nat} (hv : v < 2 ^ w) (hp : p < 3) (ho : 24 ≤ o) : fl3 (sF C o w v) p = fl3 C p := by
  unfold fl3 stC phC spC
  rw [gF_sF_other hv (by omega), gF_sF_other hv (by omega), gF_sF_other hv (by omega)]
theorem fl3_other {C p q o w v : Nat} (hv : v < 2 ^ w) (hp : p < 3) (hq : q < 3) (hn : q ≠ p) (ho : 8 * p ≤ o) (hw : o + w ≤ 8 * p + 8) : fl3 (sF C o w v) q = fl3 C q := by
  have h : ∀ o2 w2, 8 * q ≤ o2 → o2 + w2 ≤ 8 * q + 8 → (o2 + w2 ≤ o ∨ o + w ≤ o2) := by
    intro o2 w2 a b
    have : q < p ∨ p < q := by omega
    omega
  unfold fl3 stC phC spC
  rw [gF_sF_other hv (h _ _ (by omega) (by omega)), gF_sF_other hv (h _ _ (by omega) (by omega)), gF_sF_other hv (h _ _ (by omega) (by omega))]
theorem fl3_phase {C p v : Nat} (hv : v < 2 ^ 2) : fl3 (sF C (8 * p + 2) 2 v) p = (stC C p, v, spC C p) := by
  unfold fl3 stC phC spC
  rw [gF_sF_other hv (by omega), gF_sF_same hv, gF_sF_other hv (by omega)]
theorem fl3_status {C p v : Nat} (hv : v < 2 ^ 2) : fl3 (sF C (8 * p) 2 v) p = (v, phC C p, spC C p) := by
  unfold fl3 stC phC spC
  rw [gF_sF_same hv, gF_sF_other hv (by omega), gF_sF_other hv (by omega)]
theorem fl3_byte {C p b : Nat} (hb : b < 2 ^ 8) : fl3 (sF C (8 * p) 8 b) p = (gF b 0 2, gF b 2 2, gF b 4 4) := by
  unfold fl3 stC phC spC
  have h0 : gF (sF C (8 * p) 8 b) (8 * p) 2 = gF b 0 2 := gF_sF_part (o2 := 0) hb (by decide)
  rw [h0, gF_sF_part hb (by decide), gF_sF_part hb (by decide)]
theorem dgn_mv : ∀ sp, sp < 6 → ∀ d, d < 2 → dgn (sp + (dgn sp + 1) + d) = dgn sp + 1 ∧ sp + (dgn sp + 1) + d < 10 ∧ sp + (dgn sp + 1) + d ≠ sp := by decide +kernel
theorem fl3_mov {C p k d : Nat} (hd : d < 2) (hk : k ≤ 4) : fl3 (movC C p k d) p = if k ≤ dgn (spC C p) + 1 then (2, 0, 0) else (0, 0, spC C p + (dgn (spC C p) + 1) + d) := by
  unfold movC
  split
  · rw [fl3_byte (by decide)]; rfl
  · have h := (dgn_mv (spC C p) (dgn_6 (by omega)) d hd).2.1
    rw [fl3_byte (by omega)]
    generalize spC C p + (dgn (spC C p) + 1) + d = x at *
    simp only [gF]
    have e1 : x * 16 / 2 ^ 0 % 2 ^ 2 = 0 := by omega
    have e2 : x * 16 / 2 ^ 2 % 2 ^ 2 = 0 := by omega
    have e3 : x * 16 / 2 ^ 4 % 2 ^ 4 = x := by omega
    rw [e1, e2, e3]
/-- the fields of the process that steps -/
def stepF (C p k g : Nat) : Nat × Nat × Nat :=
  if phC C p = 0 then (stC C p, if g = 1 then 2 else 1, spC C p)
  else if phC C p = 1 then (if doC C (spC C p) = 1 then (if k ≤ dgn (spC C p) + 1 then (2, 0, 0) else (0, 0, spC C p + (dgn (spC C p) + 1) + 0)) else (stC C p, 2, spC C p))
  else if phC C p = (if g = 2 then 2 else 3) then
    (if owC C (spC C p) = p + 1 then (if phC C p = 2 then (stC C p, 3, spC C p) else (1, phC C p, spC C p)) else (if k ≤ dgn (spC C p) + 1 then (2, 0, 0) else (0, 0, spC C p + (dgn (spC C p) + 1) + 1)))
  else (if phC C p = 2 then (stC C p, 3, spC C p) else (1, phC C p, spC C p))
theorem fl3_eq {C C2 p : Nat} (h : fl3 C2 p = fl3 C p) : stC C2 p = stC C p ∧ phC C2 p = phC C p ∧ spC C2 p = spC C p := by
  unfold fl3 at h
  exact ⟨congrArg (fun z => z.1) h, congrArg (fun z => z.2.1) h, congrArg (fun z => z.2.2) h⟩
theorem fl3_step {C p k g : Nat} (hp : p < 3) (hk : k ≤ 4) : fl3 (stepC C p k g) p = stepF C p k g := by
  have o : ∀ t v w, v < 2 ^ w → fl3 (sF C (24 + t) w v) p = fl3 C p := fun t v w hv => fl3_reg hv hp (by omega)
  have hO := fl3_eq (o (3 * spC C p) (p + 1) 2 (by omega))
  have hD := fl3_eq (o (3 * spC C p + 2) 1 1 (by decide))
  rw [← Nat.add_assoc] at hD
  unfold stepC stepF
  by_cases h0 : phC C p = 0
  · simp only [h0, if_true]
    rw [fl3_phase (by split <;> decide), hO.1, hO.2.2]
  · simp only [h0, if_false]
    by_cases h1 : phC C p = 1
    · simp only [h1, if_true]
      split
      · rw [fl3_mov (by decide) hk]
      · rw [fl3_phase (by decide)]
    · simp only [h1, if_false]
      by_cases h2 : phC C p = (if g = 2 then 2 else 3)
      · rw [if_pos h2, if_pos h2]
        by_cases h3 : owC C (spC C p) = p + 1
        · rw [if_pos h3, if_pos h3]
          by_cases h4 : phC C p = 2
          · rw [if_pos h4, if_pos h4, fl3_phase (by decide)]
          · rw [if_neg h4, if_neg h4, fl3_status (by decide)]
        · rw [if_neg h3, if_neg h3, fl3_mov (by decide) hk]
      · rw [if_neg h2, if_neg h2]
        by_cases h4 : phC C p = 2
        · rw [if_pos h4, if_pos h4, fl3_phase (by decide), hD.1, hD.2.2]
        · rw [if_neg h4, if_neg h4, fl3_status (by decide), hD.2.1, hD.2.2]
theorem fl3_step_other {C p q k g : Nat} (hp : p < 3) (hq : q < 3) (hn : q ≠ p) (hk : k ≤ 4) : fl3 (stepC C p k g) q = fl3 C q := by
  have m : ∀ d, d < 2 → fl3 (movC C p k d) q = fl3 C q := by
    intro d hd
    unfold movC
    split
    · exact fl3_other (by decide) hp hq hn (by omega) (by omega)
    · have h := (dgn_mv (spC C p) (dgn_6 (by omega)) d hd).2.1
      exact fl3_other (by omega) hp hq hn (by omega) (by omega)
  unfold stepC
  repeat' split
  all_goals first
    | exact m _ (by decide)
    | exact (fl3_other (by decide) hp hq hn (by omega) (by omega))
    | (rw [fl3_other (by decide) hp hq hn (by omega) (by omega), fl3_reg (by omega) hq (by omega)])
/-- a process' fields are such as occur -/
def pOK (k C p : Nat) : Prop := (stC C p = 2 ∧ phC C p = 0 ∧ spC C p = 0) ∨ (stC C p ≠ 2 ∧ spC C p < 10 ∧ dgn (spC C p) < k)
/-- how many steps a process can still make, at most -/
def pot (C p : Nat) : Nat := if stC C p = 0 then 16 - 4 * dgn (spC C p) - phC C p else 0
theorem pOK_of {k C C2 p q : Nat} (h : fl3 C2 q = fl3 C p) : pOK k C p → pOK k C2 q := by
  unfold fl3 at h
  have h1 : stC C2 q = stC C p := congrArg (fun z => z.1) h
  have h2 : phC C2 q = phC C p := congrArg (fun z => z.2.1) h
  have h3 : spC C2 q = spC C p := congrArg (fun z => z.2.2) h
  unfold pOK
  rw [h1, h2, h3]
  exact id
theorem pot_of {C C2 p q : Nat} (h : fl3 C2 q = fl3 C p) : pot C2 q = pot C p := by
  unfold fl3 at h
  have h1 : stC C2 q = stC C p := congrArg (fun z => z.1) h
  have h2 : phC C2 q = phC C p := congrArg (fun z => z.2.1) h
  have h3 : spC C2 q = spC C p := congrArg (fun z => z.2.2) h
  unfold pot
  rw [h1, h2, h3]
theorem pOK_sp {k C p : Nat} (h : pOK k C p) : spC C p < 10 := by rcases h with ⟨_, _, h⟩ | ⟨_, h, _⟩ <;> omega
/-- a step of a running process: what its fields are afterwards -/
theorem step_p {C p k g : Nat} (hp : p < 3) (hk2 : 2 ≤ k) (hk : k ≤ 4) (hr : stC C p = 0) (hok : pOK k C p) :
    pOK k (stepC C p k g) p ∧ pot (stepC C p k g) p < pot C p := by
  have h := fl3_step (C := C) (g := g) hp hk
  have hd := dgn_le (spC C p)
  have hph := phC_lt C p
  have hs : spC C p < 10 ∧ dgn (spC C p) < k := by rcases hok with ⟨a, _, _⟩ | ⟨_, a, b⟩; omega; exact ⟨a, b⟩
  generalize hC2 : stepC C p k g = C2 at h ⊢
  unfold fl3 at h
  have e1 : stC C2 p = (stepF C p k g).1 := congrArg (fun z => z.1) h
  have e2 : phC C2 p = (stepF C p k g).2.1 := congrArg (fun z => z.2.1) h
  have e3 : spC C2 p = (stepF C p k g).2.2 := congrArg (fun z => z.2.2) h
  have key : ∀ t : Nat × Nat × Nat, stepF C p k g = t → (t = (2, 0, 0) ∨ (∃ d, d < 2 ∧ dgn (spC C p) + 1 < k ∧ t = (0, 0, spC C p + (dgn (spC C p) + 1) + d)) ∨ (∃ v, phC C p < v ∧ v < 4 ∧ t = (0, v, spC C p)) ∨ t = (1, phC C p, spC C p)) := by
    intro t ht
    subst ht
    unfold stepF
    rw [hr]
    by_cases h0 : phC C p = 0
    · simp only [h0, if_true]
      exact Or.inr (Or.inr (Or.inl ⟨_, by split <;> omega, by split <;> omega, rfl⟩))
    · simp only [h0, if_false]
      by_cases h1 : phC C p = 1
      · simp only [h1, if_true]
        split
        · split
          · exact Or.inl rfl
          · exact Or.inr (Or.inl ⟨0, by decide, by omega, rfl⟩)
        · exact Or.inr (Or.inr (Or.inl ⟨2, by omega, by omega, rfl⟩))
      · simp only [h1, if_false]
        by_cases h2 : phC C p = (if g = 2 then 2 else 3)
        · rw [if_pos h2]
          by_cases h3 : owC C (spC C p) = p + 1
          · rw [if_pos h3]
            by_cases h4 : phC C p = 2
            · rw [if_pos h4]
              exact Or.inr (Or.inr (Or.inl ⟨3, by omega, by omega, rfl⟩))
            · rw [if_neg h4]
              exact Or.inr (Or.inr (Or.inr rfl))
          · rw [if_neg h3]
            split
            · exact Or.inl rfl
            · exact Or.inr (Or.inl ⟨1, by decide, by omega, rfl⟩)
        · rw [if_neg h2]
          by_cases h4 : phC C p = 2
          · rw [if_pos h4]
            exact Or.inr (Or.inr (Or.inl ⟨3, by omega, by omega, rfl⟩))
          · rw [if_neg h4]
            exact Or.inr (Or.inr (Or.inr rfl))
  have hpos : pot C p = 16 - 4 * dgn (spC C p) - phC C p := by unfold pot; rw [if_pos hr]
  rcases key _ rfl with h | ⟨d, hd1, hd2, h⟩ | ⟨v, h1, h2, h⟩ | h
  · rw [h] at e1 e2 e3
    refine ⟨Or.inl ⟨e1, e2, e3⟩, ?_⟩
    rw [hpos]
    unfold pot
    rw [if_neg (by omega)]
    omega
  · rw [h] at e1 e2 e3
    obtain ⟨a1, a2, a3⟩ := dgn_mv (spC C p) (dgn_6 (by omega)) d hd1
    refine ⟨Or.inr ⟨by omega, by rw [e3]; exact a2, by rw [e3, a1]; exact hd2⟩, ?_⟩
    rw [hpos]
    unfold pot
    rw [if_pos e1, e2, e3, a1]
    omega
  · rw [h] at e1 e2 e3
    refine ⟨Or.inr ⟨by omega, by rw [e3]; exact hs.1, by rw [e3]; exact hs.2⟩, ?_⟩
    rw [hpos]
    unfold pot
    rw [if_pos e1, e2, e3]
    show 16 - 4 * dgn (spC C p) - v < _
    omega
  · rw [h] at e1 e2 e3
    refine ⟨Or.inr ⟨by omega, by rw [e3]; exact hs.1, by rw [e3]; exact hs.2⟩, ?_⟩
    rw [hpos]
    unfold pot
    rw [if_neg (by omega)]
    omega
/-! ===== counts ===== -/
theorem sF_self (n off w : Nat) : sF n off w (gF n off w) = n := by
  apply Nat.eq_of_testBit_eq
  intro j
  rw [sF_bit (gF_lt _ _ _)]
  split
  · rfl
  · split
    · rw [gF_bit, show off + (j - off) = j by omega]
      simp [show j - off < w by omega]
    · rfl
theorem cnt_gF (n i : Nat) : cnt n i = gF n (6 * i) 6 := rfl
theorem cnt_lt (n i : Nat) : cnt n i < 64 := gF_lt _ _ _
theorem cnt_add (n i : Nat) : n + 2 ^ (6 * i) = sF n (6 * i) 6 (cnt n i + 1) := by
  have h := sF_self n (6 * i) 6
  rw [← cnt_gF] at h
  have h2 : sF n (6 * i) 6 (cnt n i + 1) = sF n (6 * i) 6 (cnt n i) + 2 ^ (6 * i) := by
    unfold sF
    rw [Nat.add_mul, Nat.one_mul]
    omega
  rw [h2, h]
theorem cnt_same {n i : Nat} (h : cnt n i < 63) : cnt (n + 2 ^ (6 * i)) i = cnt n i + 1 := by
  rw [cnt_add, cnt_gF (sF _ _ _ _), gF_sF_same (by omega)]
theorem cnt_other {n i j : Nat} (h : cnt n i < 63) (hij : j ≠ i) : cnt (n + 2 ^ (6 * i)) j = cnt n j := by
  rw [cnt_add, cnt_gF (sF _ _ _ _), gF_sF_other (by omega) (by omega), cnt_gF]
theorem cnt_bd {n i k : Nat} (h : cnt n i < 63) (hn : n < 2 ^ k) (hk : 6 * i + 6 ≤ k) : n + 2 ^ (6 * i) < 2 ^ k := by
  rw [cnt_add]
  exact sF_lt (by omega) hn hk
end
section
/-! ===== a state: 0 size, 1 processes, 2 program, 3 configuration, 4 steps, 5 entries, 6 right exits, 7 down exits ===== -/
def cS (S : Nat → Nat) : List Value := [.int (nI (S 0)), .int (nI (S 1)), .int (nI (S 2)), .long (lN (S 3)), .long (lN (S 4)), .long (lN (S 5)), .long (lN (S 6)), .long (lN (S 7))]
def begS (z n g : Nat) : Nat → Nat := fun k => if k = 0 then z else if k = 1 then n else if k = 2 then g else if k = 5 then n else 0
def nxC (S : Nat → Nat) (p : Nat) : Nat := stepC (S 3) p (S 0) (S 2)
/-- the answer of a step -/
def advA (S : Nat → Nat) (p : Nat) : Nat :=
  if stC (nxC S p) p = 1 then 1 else if stC (nxC S p) p = 0 ∧ spC (nxC S p) p = spC (S 3) p then 0 else if stC (nxC S p) p = 2 then 4 else if phC (S 3) p = 1 then 2 else 3
def advS (S : Nat → Nat) (p : Nat) : Nat → Nat := fun k =>
  if k = 3 then nxC S p else if k = 4 then S 4 + 2 ^ (6 * p)
  else if k = 5 then (if advA S p = 2 ∨ advA S p = 3 then S 5 + 2 ^ (6 * spC (nxC S p) p) else S 5)
  else if k = 6 then (if 2 ≤ advA S p ∧ phC (S 3) p = 1 then S 6 + 2 ^ (6 * spC (S 3) p) else S 6)
  else if k = 7 then (if 2 ≤ advA S p ∧ phC (S 3) p ≠ 1 then S 7 + 2 ^ (6 * spC (S 3) p) else S 7)
  else S k
def crsS (S : Nat → Nat) (p : Nat) : Nat → Nat := fun k => if k = 3 then sF (S 3) (8 * p) 2 3 else S k
def tot (S : Nat → Nat) : Nat := cnt (S 4) 0 + cnt (S 4) 1 + cnt (S 4) 2
def SOK (S : Nat → Nat) : Prop := (2 ≤ S 0 ∧ S 0 ≤ 4) ∧ (1 ≤ S 1 ∧ S 1 ≤ 3) ∧ S 2 ≤ 2 ∧ S 3 < 2 ^ 54 ∧ (∀ p, p < 3 → pOK (S 0) (S 3) p) ∧ (∀ p, p < 3 → cnt (S 4) p + pot (S 3) p ≤ 16) ∧
  (S 4 < 2 ^ 60 ∧ S 5 < 2 ^ 60 ∧ S 6 < 2 ^ 60 ∧ S 7 < 2 ^ 60) ∧ ∀ i, i < 10 → cnt (S 5) i ≤ 3 + tot S ∧ cnt (S 6) i ≤ tot S ∧ cnt (S 7) i ≤ tot S
theorem tot_le {S : Nat → Nat} (h : SOK S) : tot S ≤ 48 := by
  obtain ⟨-, -, -, -, -, h, -⟩ := h
  have h0 := h 0 (by decide)
  have h1 := h 1 (by decide)
  have h2 := h 2 (by decide)
  unfold tot
  omega
theorem pot_pos {k C p : Nat} (hok : pOK k C p) (hk : k ≤ 4) (hr : stC C p = 0) : 0 < pot C p := by
  have hph := phC_lt C p
  have hs : dgn (spC C p) < k := by rcases hok with ⟨a, _, _⟩ | ⟨_, a, b⟩; omega; exact b
  unfold pot
  rw [if_pos hr]
  omega
theorem cnt_0 (i : Nat) : cnt 0 i = 0 := by unfold cnt; simp
theorem gF_0 (o w : Nat) : gF 0 o w = 0 := by unfold gF; simp
theorem cnt_small {n i : Nat} (hn : n ≤ 3) : cnt n i ≤ 3 := by
  unfold cnt
  have h : n / 2 ^ (6 * i) ≤ n := Nat.div_le_self _ _
  exact Nat.le_trans (Nat.mod_le _ _) (by omega)
theorem SOK_beg {z n g : Nat} (hz : 2 ≤ z ∧ z ≤ 4) (hn : 1 ≤ n ∧ n ≤ 3) (hg : g ≤ 2) : SOK (begS z n g) := by
  refine ⟨hz, hn, hg, (by decide : (0 : Nat) < 2 ^ 54), fun p _ => ?_, fun p _ => ?_, ⟨(by decide : (0 : Nat) < 2 ^ 60), ?_, (by decide : (0 : Nat) < 2 ^ 60), (by decide : (0 : Nat) < 2 ^ 60)⟩, fun i _ => ⟨?_, ?_, ?_⟩⟩
  · have e : stC 0 p = 0 ∧ phC 0 p = 0 ∧ spC 0 p = 0 := ⟨gF_0 _ _, gF_0 _ _, gF_0 _ _⟩
    refine Or.inr ⟨by rw [show begS z n g 3 = 0 from rfl, e.1]; decide, ?_, ?_⟩
    · rw [show begS z n g 3 = 0 from rfl, e.2.2]; decide
    · rw [show begS z n g 3 = 0 from rfl, e.2.2]
      show 0 < z
      omega
  · show cnt 0 p + pot 0 p ≤ 16
    rw [cnt_0]
    unfold pot
    split <;> omega
  · show n < 2 ^ 60
    omega
  · show cnt n i ≤ _
    have := cnt_small (i := i) hn.2
    omega
  · show cnt 0 i ≤ _
    rw [cnt_0]; omega
  · show cnt 0 i ≤ _
    rw [cnt_0]; omega
theorem SOK_next {S S2 : Nat → Nat} {p : Nat} (h : SOK S) (hp : p < 3) (h0 : S2 0 = S 0) (h1 : S2 1 = S 1) (h2 : S2 2 = S 2) (h3 : S2 3 < 2 ^ 54) (hok : pOK (S 0) (S2 3) p) (hpot : pot (S2 3) p < pot (S 3) p) (hoth : ∀ q, q < 3 → q ≠ p → fl3 (S2 3) q = fl3 (S 3) q) (h4 : S2 4 = S 4 + 2 ^ (6 * p))
    (h5 : S2 5 = S 5 ∨ ∃ i, i < 10 ∧ S2 5 = S 5 + 2 ^ (6 * i)) (h6 : S2 6 = S 6 ∨ ∃ i, i < 10 ∧ S2 6 = S 6 + 2 ^ (6 * i)) (h7 : S2 7 = S 7 ∨ ∃ i, i < 10 ∧ S2 7 = S 7 + 2 ^ (6 * i)) : SOK S2 := by
  have ht := tot_le h
  obtain ⟨a0, a1, a2, a3, a4, a5, ⟨b4, b5, b6, b7⟩, a7⟩ := h
  have c4 : cnt (S 4) p < 63 := by have := a5 p hp; omega
  have e4 : ∀ q, q < 3 → q ≠ p → cnt (S2 4) q = cnt (S 4) q := fun q _ hn => by rw [h4, cnt_other c4 hn]
  have e4' : cnt (S2 4) p = cnt (S 4) p + 1 := by rw [h4, cnt_same c4]
  have et : tot S2 = tot S + 1 := by
    unfold tot
    have hp' : p = 0 ∨ p = 1 ∨ p = 2 := by omega
    rcases hp' with rfl | rfl | rfl
    · rw [e4', e4 1 (by decide) (by decide), e4 2 (by decide) (by decide)]; omega
    · rw [e4', e4 0 (by decide) (by decide), e4 2 (by decide) (by decide)]; omega
    · rw [e4', e4 0 (by decide) (by decide), e4 1 (by decide) (by decide)]; omega
  have key : ∀ k b, (∀ i, i < 10 → cnt (S k) i ≤ b + tot S) → b ≤ 3 → S k < 2 ^ 60 → (S2 k = S k ∨ ∃ i, i < 10 ∧ S2 k = S k + 2 ^ (6 * i)) → S2 k < 2 ^ 60 ∧ ∀ i, i < 10 → cnt (S2 k) i ≤ b + tot S2 := by
    intro k b hb hb3 hlt hor
    rcases hor with e | ⟨j, hj, e⟩
    · rw [e]
      exact ⟨hlt, fun i hi => by have := hb i hi; omega⟩
    · rw [e]
      have cj : cnt (S k) j < 63 := by have := hb j hj; omega
      refine ⟨cnt_bd cj hlt (by omega), fun i hi => ?_⟩
      have := hb i hi
      by_cases hij : i = j
      · subst hij
        rw [cnt_same cj]; omega
      · rw [cnt_other cj hij]; omega
  have k5 := key 5 3 (fun i hi => (a7 i hi).1) (by decide) b5 h5
  have k6 := key 6 0 (fun i hi => by have := (a7 i hi).2.1; omega) (by decide) b6 h6
  have k7 := key 7 0 (fun i hi => by have := (a7 i hi).2.2; omega) (by decide) b7 h7
  refine ⟨by rw [h0]; exact a0, by rw [h1]; exact a1, by rw [h2]; exact a2, h3, fun q hq => ?_, fun q hq => ?_, ⟨by rw [h4]; exact cnt_bd c4 b4 (by omega), k5.1, k6.1, k7.1⟩, fun i hi => ⟨k5.2 i hi, ?_, ?_⟩⟩
  · rw [h0]
    by_cases hqp : q = p
    · subst hqp; exact hok
    · exact pOK_of (hoth q hq hqp) (a4 q hq)
  · by_cases hqp : q = p
    · subst hqp
      rw [e4']
      have := a5 q hq
      omega
    · rw [e4 q hq hqp, pot_of (hoth q hq hqp)]
      exact a5 q hq
  · have := k6.2 i hi; omega
  · have := k7.2 i hi; omega
theorem advS_5 (S : Nat → Nat) (p : Nat) : advS S p 5 = if advA S p = 2 ∨ advA S p = 3 then S 5 + 2 ^ (6 * spC (nxC S p) p) else S 5 := rfl
theorem advS_6 (S : Nat → Nat) (p : Nat) : advS S p 6 = if 2 ≤ advA S p ∧ phC (S 3) p = 1 then S 6 + 2 ^ (6 * spC (S 3) p) else S 6 := rfl
theorem advS_7 (S : Nat → Nat) (p : Nat) : advS S p 7 = if 2 ≤ advA S p ∧ phC (S 3) p ≠ 1 then S 7 + 2 ^ (6 * spC (S 3) p) else S 7 := rfl
theorem SOK_adv {S : Nat → Nat} {p : Nat} (h : SOK S) (hp : p < 3) (hr : stC (S 3) p = 0) : SOK (advS S p) := by
  have a4 := h.2.2.2.2.1 p hp
  have hs := step_p (g := S 2) hp h.1.1 h.1.2 hr a4
  refine SOK_next h hp rfl rfl rfl (stepC_lt h.2.2.2.1 hp h.1.2 (pOK_sp a4)) hs.1 hs.2 (fun q hq hn => fl3_step_other hp hq hn h.1.2) rfl ?_ ?_ ?_
  · rw [advS_5]
    by_cases c : advA S p = 2 ∨ advA S p = 3
    · rw [if_pos c]; exact Or.inr ⟨_, pOK_sp hs.1, rfl⟩
    · rw [if_neg c]; exact Or.inl rfl
  · rw [advS_6]
    by_cases c : 2 ≤ advA S p ∧ phC (S 3) p = 1
    · rw [if_pos c]; exact Or.inr ⟨_, pOK_sp a4, rfl⟩
    · rw [if_neg c]; exact Or.inl rfl
  · rw [advS_7]
    by_cases c : 2 ≤ advA S p ∧ phC (S 3) p ≠ 1
    · rw [if_pos c]; exact Or.inr ⟨_, pOK_sp a4, rfl⟩
    · rw [if_neg c]; exact Or.inl rfl
theorem SOK_crs {S : Nat → Nat} {p : Nat} (h : SOK S) (hp : p < 3) (hr : stC (S 3) p = 0) : SOK (crsS S p) := by
  obtain ⟨a0, a1, a2, a3, a4, a5, a6, a7⟩ := h
  have hf := fl3_status (C := S 3) (p := p) (v := 3) (by decide)
  unfold fl3 at hf
  have e1 : stC (sF (S 3) (8 * p) 2 3) p = 3 := congrArg (fun z => z.1) hf
  have e2 : spC (sF (S 3) (8 * p) 2 3) p = spC (S 3) p := congrArg (fun z => z.2.2) hf
  refine ⟨a0, a1, a2, sF_lt (by decide) a3 (by omega), fun q hq => ?_, fun q hq => ?_, a6, a7⟩
  · show pOK (S 0) (sF (S 3) (8 * p) 2 3) q
    by_cases hqp : q = p
    · subst hqp
      rcases a4 q hq with ⟨b1, _, _⟩ | ⟨_, b2, b3⟩
      · omega
      · exact Or.inr ⟨by rw [e1]; decide, by rw [e2]; exact b2, by rw [e2]; exact b3⟩
    · exact pOK_of (fl3_other (by decide) hp hq hqp (by omega) (by omega)) (a4 q hq)
  · show cnt (S 4) q + pot (sF (S 3) (8 * p) 2 3) q ≤ 16
    by_cases hqp : q = p
    · subst hqp
      have := a5 q hq
      unfold pot
      rw [if_neg (by rw [e1]; decide)]
      omega
    · rw [pot_of (fl3_other (by decide) hp hq hqp (by omega) (by omega))]
      exact a5 q hq
/-! ===== answers that are true or false; arguments in a range ===== -/
def bN (b : Bool) : Nat := if b then 1 else 0
theorem bN_b (b : Bool) : bN b < 2 ^ 31 := by cases b <;> decide
theorem bN_0 {c : Prop} [Decidable c] : bN (decide c) = 0 ↔ ¬ c := by by_cases h : c <;> simp [bN, h]
theorem bN_1 {c : Prop} [Decidable c] : bN (decide c) ≠ 0 ↔ c := by by_cases h : c <;> simp [bN, h]
theorem bN_t {c : Prop} [Decidable c] (h : c) : bN (decide c) = 1 := by simp [bN, h]
theorem bN_f {c : Prop} [Decidable c] (h : ¬ c) : bN (decide c) = 0 := by simp [bN, h]
abbrev inR (n : Nat) (q : Int32) : Prop := ¬ q < 0 ∧ ¬ nI n ≤ q
theorem inR_j {n : Nat} {q : Int32} (hn : n < 2 ^ 31) (h : inR n q) : ∃ j, j < n ∧ q = nI j := by
  obtain ⟨j, hj, rfl⟩ := nI_of h.1
  exact ⟨j, Nat.not_le.mp (fun z => h.2 ((nI_leI hn hj).mpr z)), rfl⟩
theorem inR_nI {n j : Nat} (hn : n < 2 ^ 31) (h : j < n) : inR n (nI j) := ⟨nI_pos (by omega), fun z => by have := (nI_leI hn (by omega)).mp z; omega⟩
/-- how many processes of the first i are running -/
def runC (C : Nat) : Nat → Nat := fb_ct (fun p => decide (stC C p = 0))
theorem runC_t {C i : Nat} (h : stC C i = 0) : runC C (i + 1) = runC C i + 1 := by unfold runC; rw [fb_ct_succ]; simp [h]
theorem runC_f {C i : Nat} (h : ¬ stC C i = 0) : runC C (i + 1) = runC C i := by unfold runC; rw [fb_ct_succ]; simp [h]
theorem runC_le (C i : Nat) : runC C i ≤ i := fb_ct_le _ _
/-- steps of one process, k at most -/
def runS : Nat → (Nat → Nat) → Nat → (Nat → Nat)
  | 0, S, _ => S
  | k + 1, S, p => if stC (S 3) p = 0 then runS k (advS S p) p else S
def runN : Nat → (Nat → Nat) → Nat → Nat
  | 0, _, _ => 0
  | k + 1, S, p => if stC (S 3) p = 0 then runN k (advS S p) p + 1 else 0
theorem runN_le : ∀ (k : Nat) (S : Nat → Nat) (p : Nat), runN k S p ≤ k
  | 0, _, _ => Nat.le_refl 0
  | k + 1, S, p => by
    unfold runN
    split
    · have := runN_le k (advS S p) p; omega
    · omega
theorem SOK_run : ∀ (k : Nat) (S : Nat → Nat) (p : Nat), SOK S → p < 3 → SOK (runS k S p)
  | 0, _, _, h, _ => h
  | k + 1, S, p, h, hp => by
    unfold runS
    split
    · exact SOK_run k _ p (SOK_adv h hp (by assumption)) hp
    · exact h
theorem advS_1 (S : Nat → Nat) (p : Nat) : advS S p 1 = S 1 := rfl
theorem runS_1 : ∀ (k : Nat) (S : Nat → Nat) (p : Nat), runS k S p 1 = S 1
  | 0, _, _ => rfl
  | k + 1, S, p => by
    unfold runS
    split
    · rw [runS_1 k]; rfl
    · rfl
end
