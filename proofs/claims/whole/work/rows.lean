section
-- ===== PART A: goes FIRST, ahead of the names: the tables' words, and 'selects' of the private methods out of them =====
/-- a private method of a class that the tables say can be made, by its rows of tables_1 -/
def lw_okq (q : MethodName × Nat) : Prop := (q.1.cls ≠ "java/lang/invoke/MethodHandle" ∧ q.1.cls ≠ "java/lang/invoke/VarHandle") ∧ Cond.instantiable q.1.cls q.2 ∈ tables_1 ∧ Cond.privateMethod q.1 ∈ tables_1 ∧ Cond.instanceMethod q.1 ∈ tables_1
theorem lw_p0 : lw_okq (⟨"java/lang/Throwable", "fillInStackTrace", "(I)Ljava/lang/Throwable;"⟩, 6) := ⟨⟨by decide +kernel, by decide +kernel⟩, List.mem_of_getElem? (i := 280) (by decide +kernel), List.mem_of_getElem? (i := 278) (by decide +kernel), List.mem_of_getElem? (i := 279) (by decide +kernel)⟩
theorem lw_p1 : lw_okq (⟨"DeskMachine", "stepAtDesk", "()Z"⟩, 9) := ⟨⟨by decide +kernel, by decide +kernel⟩, List.mem_of_getElem? (i := 21) (by decide +kernel), List.mem_of_getElem? (i := 335) (by decide +kernel), List.mem_of_getElem? (i := 336) (by decide +kernel)⟩
theorem lw_p2 : lw_okq (⟨"DeskMachine$Desk", "findWords", "()V"⟩, 9) := ⟨⟨by decide +kernel, by decide +kernel⟩, List.mem_of_getElem? (i := 144) (by decide +kernel), List.mem_of_getElem? (i := 355) (by decide +kernel), List.mem_of_getElem? (i := 356) (by decide +kernel)⟩
theorem lw_p3 : lw_okq (⟨"DeskMachine$Desk", "skip", "(IZ)I"⟩, 9) := ⟨⟨by decide +kernel, by decide +kernel⟩, List.mem_of_getElem? (i := 144) (by decide +kernel), List.mem_of_getElem? (i := 359) (by decide +kernel), List.mem_of_getElem? (i := 360) (by decide +kernel)⟩
theorem lw_p4 : lw_okq (⟨"DeskMachine$Desk", "commandOfLine", "()I"⟩, 9) := ⟨⟨by decide +kernel, by decide +kernel⟩, List.mem_of_getElem? (i := 144) (by decide +kernel), List.mem_of_getElem? (i := 363) (by decide +kernel), List.mem_of_getElem? (i := 364) (by decide +kernel)⟩
theorem lw_p5 : lw_okq (⟨"DeskMachine$Desk", "firstWordIs", "(Ljava/lang/String;)Z"⟩, 9) := ⟨⟨by decide +kernel, by decide +kernel⟩, List.mem_of_getElem? (i := 144) (by decide +kernel), List.mem_of_getElem? (i := 368) (by decide +kernel), List.mem_of_getElem? (i := 369) (by decide +kernel)⟩
theorem lw_p6 : lw_okq (⟨"DeskMachine$Desk", "obey", "(I)Z"⟩, 9) := ⟨⟨by decide +kernel, by decide +kernel⟩, List.mem_of_getElem? (i := 144) (by decide +kernel), List.mem_of_getElem? (i := 426) (by decide +kernel), List.mem_of_getElem? (i := 427) (by decide +kernel)⟩
theorem lw_p7 : lw_okq (⟨"DeskMachine$Desk", "listFiles", "()V"⟩, 9) := ⟨⟨by decide +kernel, by decide +kernel⟩, List.mem_of_getElem? (i := 144) (by decide +kernel), List.mem_of_getElem? (i := 430) (by decide +kernel), List.mem_of_getElem? (i := 431) (by decide +kernel)⟩
theorem lw_p8 : lw_okq (⟨"DeskMachine$Desk", "showFile", "()Z"⟩, 9) := ⟨⟨by decide +kernel, by decide +kernel⟩, List.mem_of_getElem? (i := 144) (by decide +kernel), List.mem_of_getElem? (i := 446) (by decide +kernel), List.mem_of_getElem? (i := 447) (by decide +kernel)⟩
theorem lw_p9 : lw_okq (⟨"DeskMachine$Desk", "findFile", "(I)I"⟩, 9) := ⟨⟨by decide +kernel, by decide +kernel⟩, List.mem_of_getElem? (i := 144) (by decide +kernel), List.mem_of_getElem? (i := 450) (by decide +kernel), List.mem_of_getElem? (i := 451) (by decide +kernel)⟩
theorem lw_p10 : lw_okq (⟨"DeskMachine$Desk", "takeName", "(I)V"⟩, 9) := ⟨⟨by decide +kernel, by decide +kernel⟩, List.mem_of_getElem? (i := 144) (by decide +kernel), List.mem_of_getElem? (i := 454) (by decide +kernel), List.mem_of_getElem? (i := 455) (by decide +kernel)⟩
theorem lw_p11 : lw_okq (⟨"DeskMachine$Disk", "matches", "(I[IZ)Z"⟩, 2) := ⟨⟨by decide +kernel, by decide +kernel⟩, List.mem_of_getElem? (i := 77) (by decide +kernel), List.mem_of_getElem? (i := 462) (by decide +kernel), List.mem_of_getElem? (i := 463) (by decide +kernel)⟩
theorem lw_p12 : lw_okq (⟨"DeskMachine$Desk", "showBlock", "(I)Z"⟩, 9) := ⟨⟨by decide +kernel, by decide +kernel⟩, List.mem_of_getElem? (i := 144) (by decide +kernel), List.mem_of_getElem? (i := 473) (by decide +kernel), List.mem_of_getElem? (i := 474) (by decide +kernel)⟩
theorem lw_p13 : lw_okq (⟨"DeskMachine$Desk", "renameFile", "()Z"⟩, 9) := ⟨⟨by decide +kernel, by decide +kernel⟩, List.mem_of_getElem? (i := 144) (by decide +kernel), List.mem_of_getElem? (i := 489) (by decide +kernel), List.mem_of_getElem? (i := 490) (by decide +kernel)⟩
theorem lw_p14 : lw_okq (⟨"DeskMachine$Desk", "saveFile", "()Z"⟩, 9) := ⟨⟨by decide +kernel, by decide +kernel⟩, List.mem_of_getElem? (i := 144) (by decide +kernel), List.mem_of_getElem? (i := 497) (by decide +kernel), List.mem_of_getElem? (i := 498) (by decide +kernel)⟩
theorem lw_p15 : lw_okq (⟨"DeskMachine$Desk", "saveRecords", "(II)Z"⟩, 9) := ⟨⟨by decide +kernel, by decide +kernel⟩, List.mem_of_getElem? (i := 144) (by decide +kernel), List.mem_of_getElem? (i := 508) (by decide +kernel), List.mem_of_getElem? (i := 509) (by decide +kernel)⟩
def lw_privs_1 : List (MethodName × Nat) := [(⟨"java/lang/Throwable", "fillInStackTrace", "(I)Ljava/lang/Throwable;"⟩, 6), (⟨"DeskMachine", "stepAtDesk", "()Z"⟩, 9), (⟨"DeskMachine$Desk", "findWords", "()V"⟩, 9), (⟨"DeskMachine$Desk", "skip", "(IZ)I"⟩, 9), (⟨"DeskMachine$Desk", "commandOfLine", "()I"⟩, 9), (⟨"DeskMachine$Desk", "firstWordIs", "(Ljava/lang/String;)Z"⟩, 9), (⟨"DeskMachine$Desk", "obey", "(I)Z"⟩, 9), (⟨"DeskMachine$Desk", "listFiles", "()V"⟩, 9), (⟨"DeskMachine$Desk", "showFile", "()Z"⟩, 9), (⟨"DeskMachine$Desk", "findFile", "(I)I"⟩, 9), (⟨"DeskMachine$Desk", "takeName", "(I)V"⟩, 9), (⟨"DeskMachine$Disk", "matches", "(I[IZ)Z"⟩, 2), (⟨"DeskMachine$Desk", "showBlock", "(I)Z"⟩, 9), (⟨"DeskMachine$Desk", "renameFile", "()Z"⟩, 9), (⟨"DeskMachine$Desk", "saveFile", "()Z"⟩, 9), (⟨"DeskMachine$Desk", "saveRecords", "(II)Z"⟩, 9)]
theorem lw_r1 : ∀ q ∈ lw_privs_1, lw_okq q := List.forall_mem_cons.mpr ⟨lw_p0, List.forall_mem_cons.mpr ⟨lw_p1, List.forall_mem_cons.mpr ⟨lw_p2, List.forall_mem_cons.mpr ⟨lw_p3, List.forall_mem_cons.mpr ⟨lw_p4, List.forall_mem_cons.mpr ⟨lw_p5, List.forall_mem_cons.mpr ⟨lw_p6, List.forall_mem_cons.mpr ⟨lw_p7, List.forall_mem_cons.mpr ⟨lw_p8, List.forall_mem_cons.mpr ⟨lw_p9, List.forall_mem_cons.mpr ⟨lw_p10, List.forall_mem_cons.mpr ⟨lw_p11, List.forall_mem_cons.mpr ⟨lw_p12, List.forall_mem_cons.mpr ⟨lw_p13, List.forall_mem_cons.mpr ⟨lw_p14, List.forall_mem_cons.mpr ⟨lw_p15, fun _ h => absurd h List.not_mem_nil⟩⟩⟩⟩⟩⟩⟩⟩⟩⟩⟩⟩⟩⟩⟩⟩
theorem lw_p16 : lw_okq (⟨"DeskMachine$Desk", "loadFile", "()Z"⟩, 9) := ⟨⟨by decide +kernel, by decide +kernel⟩, List.mem_of_getElem? (i := 144) (by decide +kernel), List.mem_of_getElem? (i := 535) (by decide +kernel), List.mem_of_getElem? (i := 536) (by decide +kernel)⟩
theorem lw_p17 : lw_okq (⟨"DeskMachine$Processor", "setFlags", "(I)V"⟩, 9) := ⟨⟨by decide +kernel, by decide +kernel⟩, List.mem_of_getElem? (i := 40) (by decide +kernel), List.mem_of_getElem? (i := 551) (by decide +kernel), List.mem_of_getElem? (i := 552) (by decide +kernel)⟩
theorem lw_p18 : lw_okq (⟨"DeskMachine$Processor", "push", "(I)V"⟩, 9) := ⟨⟨by decide +kernel, by decide +kernel⟩, List.mem_of_getElem? (i := 40) (by decide +kernel), List.mem_of_getElem? (i := 555) (by decide +kernel), List.mem_of_getElem? (i := 556) (by decide +kernel)⟩
theorem lw_p19 : lw_okq (⟨"DeskMachine", "stepOfProgram", "()Z"⟩, 9) := ⟨⟨by decide +kernel, by decide +kernel⟩, List.mem_of_getElem? (i := 21) (by decide +kernel), List.mem_of_getElem? (i := 564) (by decide +kernel), List.mem_of_getElem? (i := 565) (by decide +kernel)⟩
theorem lw_p20 : lw_okq (⟨"DeskMachine$Processor", "nextByte", "()I"⟩, 9) := ⟨⟨by decide +kernel, by decide +kernel⟩, List.mem_of_getElem? (i := 40) (by decide +kernel), List.mem_of_getElem? (i := 572) (by decide +kernel), List.mem_of_getElem? (i := 573) (by decide +kernel)⟩
theorem lw_p21 : lw_okq (⟨"DeskMachine$Processor", "moveOrCount", "(II)V"⟩, 9) := ⟨⟨by decide +kernel, by decide +kernel⟩, List.mem_of_getElem? (i := 40) (by decide +kernel), List.mem_of_getElem? (i := 577) (by decide +kernel), List.mem_of_getElem? (i := 578) (by decide +kernel)⟩
theorem lw_p22 : lw_okq (⟨"DeskMachine$Processor", "nextWord", "()I"⟩, 9) := ⟨⟨by decide +kernel, by decide +kernel⟩, List.mem_of_getElem? (i := 40) (by decide +kernel), List.mem_of_getElem? (i := 581) (by decide +kernel), List.mem_of_getElem? (i := 582) (by decide +kernel)⟩
theorem lw_p23 : lw_okq (⟨"DeskMachine$Processor", "setPair", "(II)V"⟩, 9) := ⟨⟨by decide +kernel, by decide +kernel⟩, List.mem_of_getElem? (i := 40) (by decide +kernel), List.mem_of_getElem? (i := 585) (by decide +kernel), List.mem_of_getElem? (i := 586) (by decide +kernel)⟩
theorem lw_p24 : lw_okq (⟨"DeskMachine$Processor", "addToHL", "(I)V"⟩, 9) := ⟨⟨by decide +kernel, by decide +kernel⟩, List.mem_of_getElem? (i := 40) (by decide +kernel), List.mem_of_getElem? (i := 593) (by decide +kernel), List.mem_of_getElem? (i := 594) (by decide +kernel)⟩
theorem lw_p25 : lw_okq (⟨"DeskMachine$Processor", "moveByAddress", "(I)V"⟩, 9) := ⟨⟨by decide +kernel, by decide +kernel⟩, List.mem_of_getElem? (i := 40) (by decide +kernel), List.mem_of_getElem? (i := 597) (by decide +kernel), List.mem_of_getElem? (i := 598) (by decide +kernel)⟩
theorem lw_p26 : lw_okq (⟨"DeskMachine$Processor", "grow", "(I)V"⟩, 9) := ⟨⟨by decide +kernel, by decide +kernel⟩, List.mem_of_getElem? (i := 40) (by decide +kernel), List.mem_of_getElem? (i := 606) (by decide +kernel), List.mem_of_getElem? (i := 607) (by decide +kernel)⟩
theorem lw_p27 : lw_okq (⟨"DeskMachine$Processor", "get", "(I)I"⟩, 9) := ⟨⟨by decide +kernel, by decide +kernel⟩, List.mem_of_getElem? (i := 40) (by decide +kernel), List.mem_of_getElem? (i := 610) (by decide +kernel), List.mem_of_getElem? (i := 611) (by decide +kernel)⟩
theorem lw_p28 : lw_okq (⟨"DeskMachine$Processor", "put", "(II)V"⟩, 9) := ⟨⟨by decide +kernel, by decide +kernel⟩, List.mem_of_getElem? (i := 40) (by decide +kernel), List.mem_of_getElem? (i := 614) (by decide +kernel), List.mem_of_getElem? (i := 615) (by decide +kernel)⟩
theorem lw_p29 : lw_okq (⟨"DeskMachine$Processor", "judge", "(I)V"⟩, 9) := ⟨⟨by decide +kernel, by decide +kernel⟩, List.mem_of_getElem? (i := 40) (by decide +kernel), List.mem_of_getElem? (i := 618) (by decide +kernel), List.mem_of_getElem? (i := 619) (by decide +kernel)⟩
theorem lw_p30 : lw_okq (⟨"DeskMachine$Processor", "fall", "(I)V"⟩, 9) := ⟨⟨by decide +kernel, by decide +kernel⟩, List.mem_of_getElem? (i := 40) (by decide +kernel), List.mem_of_getElem? (i := 628) (by decide +kernel), List.mem_of_getElem? (i := 629) (by decide +kernel)⟩
theorem lw_p31 : lw_okq (⟨"DeskMachine$Processor", "changeA", "(I)V"⟩, 9) := ⟨⟨by decide +kernel, by decide +kernel⟩, List.mem_of_getElem? (i := 40) (by decide +kernel), List.mem_of_getElem? (i := 632) (by decide +kernel), List.mem_of_getElem? (i := 633) (by decide +kernel)⟩
def lw_privs_2 : List (MethodName × Nat) := [(⟨"DeskMachine$Desk", "loadFile", "()Z"⟩, 9), (⟨"DeskMachine$Processor", "setFlags", "(I)V"⟩, 9), (⟨"DeskMachine$Processor", "push", "(I)V"⟩, 9), (⟨"DeskMachine", "stepOfProgram", "()Z"⟩, 9), (⟨"DeskMachine$Processor", "nextByte", "()I"⟩, 9), (⟨"DeskMachine$Processor", "moveOrCount", "(II)V"⟩, 9), (⟨"DeskMachine$Processor", "nextWord", "()I"⟩, 9), (⟨"DeskMachine$Processor", "setPair", "(II)V"⟩, 9), (⟨"DeskMachine$Processor", "addToHL", "(I)V"⟩, 9), (⟨"DeskMachine$Processor", "moveByAddress", "(I)V"⟩, 9), (⟨"DeskMachine$Processor", "grow", "(I)V"⟩, 9), (⟨"DeskMachine$Processor", "get", "(I)I"⟩, 9), (⟨"DeskMachine$Processor", "put", "(II)V"⟩, 9), (⟨"DeskMachine$Processor", "judge", "(I)V"⟩, 9), (⟨"DeskMachine$Processor", "fall", "(I)V"⟩, 9), (⟨"DeskMachine$Processor", "changeA", "(I)V"⟩, 9)]
theorem lw_r2 : ∀ q ∈ lw_privs_2, lw_okq q := List.forall_mem_cons.mpr ⟨lw_p16, List.forall_mem_cons.mpr ⟨lw_p17, List.forall_mem_cons.mpr ⟨lw_p18, List.forall_mem_cons.mpr ⟨lw_p19, List.forall_mem_cons.mpr ⟨lw_p20, List.forall_mem_cons.mpr ⟨lw_p21, List.forall_mem_cons.mpr ⟨lw_p22, List.forall_mem_cons.mpr ⟨lw_p23, List.forall_mem_cons.mpr ⟨lw_p24, List.forall_mem_cons.mpr ⟨lw_p25, List.forall_mem_cons.mpr ⟨lw_p26, List.forall_mem_cons.mpr ⟨lw_p27, List.forall_mem_cons.mpr ⟨lw_p28, List.forall_mem_cons.mpr ⟨lw_p29, List.forall_mem_cons.mpr ⟨lw_p30, List.forall_mem_cons.mpr ⟨lw_p31, fun _ h => absurd h List.not_mem_nil⟩⟩⟩⟩⟩⟩⟩⟩⟩⟩⟩⟩⟩⟩⟩⟩
theorem lw_p32 : lw_okq (⟨"DeskMachine$Processor", "turnLeft", "(I)V"⟩, 9) := ⟨⟨by decide +kernel, by decide +kernel⟩, List.mem_of_getElem? (i := 40) (by decide +kernel), List.mem_of_getElem? (i := 636) (by decide +kernel), List.mem_of_getElem? (i := 637) (by decide +kernel)⟩
theorem lw_p33 : lw_okq (⟨"DeskMachine$Processor", "turnRight", "(I)V"⟩, 9) := ⟨⟨by decide +kernel, by decide +kernel⟩, List.mem_of_getElem? (i := 40) (by decide +kernel), List.mem_of_getElem? (i := 640) (by decide +kernel), List.mem_of_getElem? (i := 641) (by decide +kernel)⟩
theorem lw_p34 : lw_okq (⟨"DeskMachine$Processor", "adjust", "()V"⟩, 9) := ⟨⟨by decide +kernel, by decide +kernel⟩, List.mem_of_getElem? (i := 40) (by decide +kernel), List.mem_of_getElem? (i := 644) (by decide +kernel), List.mem_of_getElem? (i := 645) (by decide +kernel)⟩
theorem lw_p35 : lw_okq (⟨"DeskMachine$Processor", "combine", "(II)V"⟩, 9) := ⟨⟨by decide +kernel, by decide +kernel⟩, List.mem_of_getElem? (i := 40) (by decide +kernel), List.mem_of_getElem? (i := 648) (by decide +kernel), List.mem_of_getElem? (i := 649) (by decide +kernel)⟩
theorem lw_p36 : lw_okq (⟨"DeskMachine$Processor", "plus", "(II)I"⟩, 9) := ⟨⟨by decide +kernel, by decide +kernel⟩, List.mem_of_getElem? (i := 40) (by decide +kernel), List.mem_of_getElem? (i := 652) (by decide +kernel), List.mem_of_getElem? (i := 653) (by decide +kernel)⟩
theorem lw_p37 : lw_okq (⟨"DeskMachine$Processor", "minus", "(II)I"⟩, 9) := ⟨⟨by decide +kernel, by decide +kernel⟩, List.mem_of_getElem? (i := 40) (by decide +kernel), List.mem_of_getElem? (i := 656) (by decide +kernel), List.mem_of_getElem? (i := 657) (by decide +kernel)⟩
theorem lw_p38 : lw_okq (⟨"DeskMachine$Processor", "setBits", "(I)V"⟩, 9) := ⟨⟨by decide +kernel, by decide +kernel⟩, List.mem_of_getElem? (i := 40) (by decide +kernel), List.mem_of_getElem? (i := 660) (by decide +kernel), List.mem_of_getElem? (i := 661) (by decide +kernel)⟩
theorem lw_p39 : lw_okq (⟨"DeskMachine$Processor", "branchOrStack", "(II)V"⟩, 9) := ⟨⟨by decide +kernel, by decide +kernel⟩, List.mem_of_getElem? (i := 40) (by decide +kernel), List.mem_of_getElem? (i := 664) (by decide +kernel), List.mem_of_getElem? (i := 665) (by decide +kernel)⟩
theorem lw_p40 : lw_okq (⟨"DeskMachine$Processor", "holds", "(I)Z"⟩, 9) := ⟨⟨by decide +kernel, by decide +kernel⟩, List.mem_of_getElem? (i := 40) (by decide +kernel), List.mem_of_getElem? (i := 668) (by decide +kernel), List.mem_of_getElem? (i := 669) (by decide +kernel)⟩
theorem lw_p41 : lw_okq (⟨"DeskMachine$Processor", "popOrReturn", "(I)V"⟩, 9) := ⟨⟨by decide +kernel, by decide +kernel⟩, List.mem_of_getElem? (i := 40) (by decide +kernel), List.mem_of_getElem? (i := 676) (by decide +kernel), List.mem_of_getElem? (i := 677) (by decide +kernel)⟩
theorem lw_p42 : lw_okq (⟨"DeskMachine$Processor", "goTo", "(IZ)V"⟩, 9) := ⟨⟨by decide +kernel, by decide +kernel⟩, List.mem_of_getElem? (i := 40) (by decide +kernel), List.mem_of_getElem? (i := 680) (by decide +kernel), List.mem_of_getElem? (i := 681) (by decide +kernel)⟩
theorem lw_p43 : lw_okq (⟨"DeskMachine$Processor", "goOrExchange", "(I)V"⟩, 9) := ⟨⟨by decide +kernel, by decide +kernel⟩, List.mem_of_getElem? (i := 40) (by decide +kernel), List.mem_of_getElem? (i := 684) (by decide +kernel), List.mem_of_getElem? (i := 685) (by decide +kernel)⟩
theorem lw_p44 : lw_okq (⟨"DeskMachine$Processor", "callTo", "(IZ)V"⟩, 9) := ⟨⟨by decide +kernel, by decide +kernel⟩, List.mem_of_getElem? (i := 40) (by decide +kernel), List.mem_of_getElem? (i := 688) (by decide +kernel), List.mem_of_getElem? (i := 689) (by decide +kernel)⟩
theorem lw_p45 : lw_okq (⟨"DeskMachine$Processor", "pushOrCall", "(I)V"⟩, 9) := ⟨⟨by decide +kernel, by decide +kernel⟩, List.mem_of_getElem? (i := 40) (by decide +kernel), List.mem_of_getElem? (i := 692) (by decide +kernel), List.mem_of_getElem? (i := 693) (by decide +kernel)⟩
theorem lw_p46 : lw_okq (⟨"DeskMachine", "callSystem", "()V"⟩, 9) := ⟨⟨by decide +kernel, by decide +kernel⟩, List.mem_of_getElem? (i := 21) (by decide +kernel), List.mem_of_getElem? (i := 697) (by decide +kernel), List.mem_of_getElem? (i := 698) (by decide +kernel)⟩
theorem lw_p47 : lw_okq (⟨"DeskMachine$FileCalls", "takeName", "(I)V"⟩, 5) := ⟨⟨by decide +kernel, by decide +kernel⟩, List.mem_of_getElem? (i := 121) (by decide +kernel), List.mem_of_getElem? (i := 706) (by decide +kernel), List.mem_of_getElem? (i := 707) (by decide +kernel)⟩
def lw_privs_3 : List (MethodName × Nat) := [(⟨"DeskMachine$Processor", "turnLeft", "(I)V"⟩, 9), (⟨"DeskMachine$Processor", "turnRight", "(I)V"⟩, 9), (⟨"DeskMachine$Processor", "adjust", "()V"⟩, 9), (⟨"DeskMachine$Processor", "combine", "(II)V"⟩, 9), (⟨"DeskMachine$Processor", "plus", "(II)I"⟩, 9), (⟨"DeskMachine$Processor", "minus", "(II)I"⟩, 9), (⟨"DeskMachine$Processor", "setBits", "(I)V"⟩, 9), (⟨"DeskMachine$Processor", "branchOrStack", "(II)V"⟩, 9), (⟨"DeskMachine$Processor", "holds", "(I)Z"⟩, 9), (⟨"DeskMachine$Processor", "popOrReturn", "(I)V"⟩, 9), (⟨"DeskMachine$Processor", "goTo", "(IZ)V"⟩, 9), (⟨"DeskMachine$Processor", "goOrExchange", "(I)V"⟩, 9), (⟨"DeskMachine$Processor", "callTo", "(IZ)V"⟩, 9), (⟨"DeskMachine$Processor", "pushOrCall", "(I)V"⟩, 9), (⟨"DeskMachine", "callSystem", "()V"⟩, 9), (⟨"DeskMachine$FileCalls", "takeName", "(I)V"⟩, 5)]
theorem lw_r3 : ∀ q ∈ lw_privs_3, lw_okq q := List.forall_mem_cons.mpr ⟨lw_p32, List.forall_mem_cons.mpr ⟨lw_p33, List.forall_mem_cons.mpr ⟨lw_p34, List.forall_mem_cons.mpr ⟨lw_p35, List.forall_mem_cons.mpr ⟨lw_p36, List.forall_mem_cons.mpr ⟨lw_p37, List.forall_mem_cons.mpr ⟨lw_p38, List.forall_mem_cons.mpr ⟨lw_p39, List.forall_mem_cons.mpr ⟨lw_p40, List.forall_mem_cons.mpr ⟨lw_p41, List.forall_mem_cons.mpr ⟨lw_p42, List.forall_mem_cons.mpr ⟨lw_p43, List.forall_mem_cons.mpr ⟨lw_p44, List.forall_mem_cons.mpr ⟨lw_p45, List.forall_mem_cons.mpr ⟨lw_p46, List.forall_mem_cons.mpr ⟨lw_p47, fun _ h => absurd h List.not_mem_nil⟩⟩⟩⟩⟩⟩⟩⟩⟩⟩⟩⟩⟩⟩⟩⟩
theorem lw_p48 : lw_okq (⟨"DeskMachine$FileCalls", "open", "(I)I"⟩, 5) := ⟨⟨by decide +kernel, by decide +kernel⟩, List.mem_of_getElem? (i := 121) (by decide +kernel), List.mem_of_getElem? (i := 711) (by decide +kernel), List.mem_of_getElem? (i := 712) (by decide +kernel)⟩
theorem lw_p49 : lw_okq (⟨"DeskMachine$FileCalls", "close", "(I)I"⟩, 5) := ⟨⟨by decide +kernel, by decide +kernel⟩, List.mem_of_getElem? (i := 121) (by decide +kernel), List.mem_of_getElem? (i := 721) (by decide +kernel), List.mem_of_getElem? (i := 722) (by decide +kernel)⟩
theorem lw_p50 : lw_okq (⟨"DeskMachine$FileCalls", "search", "(I)I"⟩, 5) := ⟨⟨by decide +kernel, by decide +kernel⟩, List.mem_of_getElem? (i := 121) (by decide +kernel), List.mem_of_getElem? (i := 727) (by decide +kernel), List.mem_of_getElem? (i := 728) (by decide +kernel)⟩
theorem lw_p51 : lw_okq (⟨"DeskMachine$FileCalls", "read", "(I)I"⟩, 5) := ⟨⟨by decide +kernel, by decide +kernel⟩, List.mem_of_getElem? (i := 121) (by decide +kernel), List.mem_of_getElem? (i := 733) (by decide +kernel), List.mem_of_getElem? (i := 734) (by decide +kernel)⟩
theorem lw_p52 : lw_okq (⟨"DeskMachine$FileCalls", "hasRecord", "(II)Z"⟩, 5) := ⟨⟨by decide +kernel, by decide +kernel⟩, List.mem_of_getElem? (i := 121) (by decide +kernel), List.mem_of_getElem? (i := 737) (by decide +kernel), List.mem_of_getElem? (i := 738) (by decide +kernel)⟩
theorem lw_p53 : lw_okq (⟨"DeskMachine$FileCalls", "write", "(I)I"⟩, 5) := ⟨⟨by decide +kernel, by decide +kernel⟩, List.mem_of_getElem? (i := 121) (by decide +kernel), List.mem_of_getElem? (i := 742) (by decide +kernel), List.mem_of_getElem? (i := 743) (by decide +kernel)⟩
theorem lw_p54 : lw_okq (⟨"DeskMachine$FileCalls", "unusedBlock", "(I)I"⟩, 5) := ⟨⟨by decide +kernel, by decide +kernel⟩, List.mem_of_getElem? (i := 121) (by decide +kernel), List.mem_of_getElem? (i := 746) (by decide +kernel), List.mem_of_getElem? (i := 747) (by decide +kernel)⟩
theorem lw_p55 : lw_okq (⟨"DeskMachine$FileCalls", "make", "(I)I"⟩, 5) := ⟨⟨by decide +kernel, by decide +kernel⟩, List.mem_of_getElem? (i := 121) (by decide +kernel), List.mem_of_getElem? (i := 754) (by decide +kernel), List.mem_of_getElem? (i := 755) (by decide +kernel)⟩
theorem lw_p56 : lw_okq (⟨"DeskMachine$FileCalls", "rename", "(I)I"⟩, 5) := ⟨⟨by decide +kernel, by decide +kernel⟩, List.mem_of_getElem? (i := 121) (by decide +kernel), List.mem_of_getElem? (i := 759) (by decide +kernel), List.mem_of_getElem? (i := 760) (by decide +kernel)⟩
theorem lw_p57 : lw_okq (⟨"DeskMachine", "answerCall", "(II)I"⟩, 9) := ⟨⟨by decide +kernel, by decide +kernel⟩, List.mem_of_getElem? (i := 21) (by decide +kernel), List.mem_of_getElem? (i := 764) (by decide +kernel), List.mem_of_getElem? (i := 765) (by decide +kernel)⟩
theorem lw_p58 : lw_okq (⟨"DeskMachine", "showText", "(I)V"⟩, 9) := ⟨⟨by decide +kernel, by decide +kernel⟩, List.mem_of_getElem? (i := 21) (by decide +kernel), List.mem_of_getElem? (i := 769) (by decide +kernel), List.mem_of_getElem? (i := 770) (by decide +kernel)⟩
theorem lw_p59 : lw_okq (⟨"DeskMachineModel", "goes", "()Z"⟩, 22) := ⟨⟨by decide +kernel, by decide +kernel⟩, List.mem_of_getElem? (i := 813) (by decide +kernel), List.mem_of_getElem? (i := 898) (by decide +kernel), List.mem_of_getElem? (i := 899) (by decide +kernel)⟩
theorem lw_p60 : lw_okq (⟨"DeskMachineModel", "takeKey", "()I"⟩, 22) := ⟨⟨by decide +kernel, by decide +kernel⟩, List.mem_of_getElem? (i := 813) (by decide +kernel), List.mem_of_getElem? (i := 902) (by decide +kernel), List.mem_of_getElem? (i := 903) (by decide +kernel)⟩
theorem lw_p61 : lw_okq (⟨"DeskMachineModel", "typed", "(I)V"⟩, 22) := ⟨⟨by decide +kernel, by decide +kernel⟩, List.mem_of_getElem? (i := 813) (by decide +kernel), List.mem_of_getElem? (i := 906) (by decide +kernel), List.mem_of_getElem? (i := 907) (by decide +kernel)⟩
theorem lw_p62 : lw_okq (⟨"DeskMachineModel", "command", "()Z"⟩, 22) := ⟨⟨by decide +kernel, by decide +kernel⟩, List.mem_of_getElem? (i := 813) (by decide +kernel), List.mem_of_getElem? (i := 910) (by decide +kernel), List.mem_of_getElem? (i := 911) (by decide +kernel)⟩
theorem lw_p63 : lw_okq (⟨"DeskMachineModel", "there", "(I)Z"⟩, 22) := ⟨⟨by decide +kernel, by decide +kernel⟩, List.mem_of_getElem? (i := 813) (by decide +kernel), List.mem_of_getElem? (i := 914) (by decide +kernel), List.mem_of_getElem? (i := 915) (by decide +kernel)⟩
def lw_privs_4 : List (MethodName × Nat) := [(⟨"DeskMachine$FileCalls", "open", "(I)I"⟩, 5), (⟨"DeskMachine$FileCalls", "close", "(I)I"⟩, 5), (⟨"DeskMachine$FileCalls", "search", "(I)I"⟩, 5), (⟨"DeskMachine$FileCalls", "read", "(I)I"⟩, 5), (⟨"DeskMachine$FileCalls", "hasRecord", "(II)Z"⟩, 5), (⟨"DeskMachine$FileCalls", "write", "(I)I"⟩, 5), (⟨"DeskMachine$FileCalls", "unusedBlock", "(I)I"⟩, 5), (⟨"DeskMachine$FileCalls", "make", "(I)I"⟩, 5), (⟨"DeskMachine$FileCalls", "rename", "(I)I"⟩, 5), (⟨"DeskMachine", "answerCall", "(II)I"⟩, 9), (⟨"DeskMachine", "showText", "(I)V"⟩, 9), (⟨"DeskMachineModel", "goes", "()Z"⟩, 22), (⟨"DeskMachineModel", "takeKey", "()I"⟩, 22), (⟨"DeskMachineModel", "typed", "(I)V"⟩, 22), (⟨"DeskMachineModel", "command", "()Z"⟩, 22), (⟨"DeskMachineModel", "there", "(I)Z"⟩, 22)]
theorem lw_r4 : ∀ q ∈ lw_privs_4, lw_okq q := List.forall_mem_cons.mpr ⟨lw_p48, List.forall_mem_cons.mpr ⟨lw_p49, List.forall_mem_cons.mpr ⟨lw_p50, List.forall_mem_cons.mpr ⟨lw_p51, List.forall_mem_cons.mpr ⟨lw_p52, List.forall_mem_cons.mpr ⟨lw_p53, List.forall_mem_cons.mpr ⟨lw_p54, List.forall_mem_cons.mpr ⟨lw_p55, List.forall_mem_cons.mpr ⟨lw_p56, List.forall_mem_cons.mpr ⟨lw_p57, List.forall_mem_cons.mpr ⟨lw_p58, List.forall_mem_cons.mpr ⟨lw_p59, List.forall_mem_cons.mpr ⟨lw_p60, List.forall_mem_cons.mpr ⟨lw_p61, List.forall_mem_cons.mpr ⟨lw_p62, List.forall_mem_cons.mpr ⟨lw_p63, fun _ h => absurd h List.not_mem_nil⟩⟩⟩⟩⟩⟩⟩⟩⟩⟩⟩⟩⟩⟩⟩⟩
theorem lw_p64 : lw_okq (⟨"DeskMachineModel", "begins", "(I)I"⟩, 22) := ⟨⟨by decide +kernel, by decide +kernel⟩, List.mem_of_getElem? (i := 813) (by decide +kernel), List.mem_of_getElem? (i := 918) (by decide +kernel), List.mem_of_getElem? (i := 919) (by decide +kernel)⟩
theorem lw_p65 : lw_okq (⟨"DeskMachineModel", "isWord", "(IIII)Z"⟩, 22) := ⟨⟨by decide +kernel, by decide +kernel⟩, List.mem_of_getElem? (i := 813) (by decide +kernel), List.mem_of_getElem? (i := 922) (by decide +kernel), List.mem_of_getElem? (i := 923) (by decide +kernel)⟩
theorem lw_p66 : lw_okq (⟨"DeskMachineModel", "character", "(II)I"⟩, 22) := ⟨⟨by decide +kernel, by decide +kernel⟩, List.mem_of_getElem? (i := 813) (by decide +kernel), List.mem_of_getElem? (i := 926) (by decide +kernel), List.mem_of_getElem? (i := 927) (by decide +kernel)⟩
theorem lw_p67 : lw_okq (⟨"DeskMachineModel", "lists", "()V"⟩, 22) := ⟨⟨by decide +kernel, by decide +kernel⟩, List.mem_of_getElem? (i := 813) (by decide +kernel), List.mem_of_getElem? (i := 930) (by decide +kernel), List.mem_of_getElem? (i := 931) (by decide +kernel)⟩
theorem lw_p68 : lw_okq (⟨"DeskMachineModel", "isFree", "(I)Z"⟩, 22) := ⟨⟨by decide +kernel, by decide +kernel⟩, List.mem_of_getElem? (i := 813) (by decide +kernel), List.mem_of_getElem? (i := 934) (by decide +kernel), List.mem_of_getElem? (i := 935) (by decide +kernel)⟩
theorem lw_p69 : lw_okq (⟨"DeskMachineModel", "show", "(I)V"⟩, 22) := ⟨⟨by decide +kernel, by decide +kernel⟩, List.mem_of_getElem? (i := 813) (by decide +kernel), List.mem_of_getElem? (i := 938) (by decide +kernel), List.mem_of_getElem? (i := 939) (by decide +kernel)⟩
theorem lw_p70 : lw_okq (⟨"DeskMachineModel", "nameOf", "(I)V"⟩, 22) := ⟨⟨by decide +kernel, by decide +kernel⟩, List.mem_of_getElem? (i := 813) (by decide +kernel), List.mem_of_getElem? (i := 942) (by decide +kernel), List.mem_of_getElem? (i := 943) (by decide +kernel)⟩
theorem lw_p71 : lw_okq (⟨"DeskMachineModel", "erases", "()I"⟩, 22) := ⟨⟨by decide +kernel, by decide +kernel⟩, List.mem_of_getElem? (i := 813) (by decide +kernel), List.mem_of_getElem? (i := 946) (by decide +kernel), List.mem_of_getElem? (i := 947) (by decide +kernel)⟩
theorem lw_p72 : lw_okq (⟨"DeskMachineModel", "find", "(IZ)I"⟩, 22) := ⟨⟨by decide +kernel, by decide +kernel⟩, List.mem_of_getElem? (i := 813) (by decide +kernel), List.mem_of_getElem? (i := 950) (by decide +kernel), List.mem_of_getElem? (i := 951) (by decide +kernel)⟩
theorem lw_p73 : lw_okq (⟨"DeskMachineModel", "saves", "(I)Z"⟩, 22) := ⟨⟨by decide +kernel, by decide +kernel⟩, List.mem_of_getElem? (i := 813) (by decide +kernel), List.mem_of_getElem? (i := 954) (by decide +kernel), List.mem_of_getElem? (i := 955) (by decide +kernel)⟩
theorem lw_p74 : lw_okq (⟨"DeskMachineModel", "makes", "()I"⟩, 22) := ⟨⟨by decide +kernel, by decide +kernel⟩, List.mem_of_getElem? (i := 813) (by decide +kernel), List.mem_of_getElem? (i := 958) (by decide +kernel), List.mem_of_getElem? (i := 959) (by decide +kernel)⟩
theorem lw_p75 : lw_okq (⟨"DeskMachineModel", "firstFree", "()I"⟩, 22) := ⟨⟨by decide +kernel, by decide +kernel⟩, List.mem_of_getElem? (i := 813) (by decide +kernel), List.mem_of_getElem? (i := 962) (by decide +kernel), List.mem_of_getElem? (i := 963) (by decide +kernel)⟩
theorem lw_p76 : lw_okq (⟨"DeskMachineModel", "freeBlock", "(I)I"⟩, 22) := ⟨⟨by decide +kernel, by decide +kernel⟩, List.mem_of_getElem? (i := 813) (by decide +kernel), List.mem_of_getElem? (i := 966) (by decide +kernel), List.mem_of_getElem? (i := 967) (by decide +kernel)⟩
theorem lw_p77 : lw_okq (⟨"DeskMachineModel", "used", "(I)Z"⟩, 22) := ⟨⟨by decide +kernel, by decide +kernel⟩, List.mem_of_getElem? (i := 813) (by decide +kernel), List.mem_of_getElem? (i := 970) (by decide +kernel), List.mem_of_getElem? (i := 971) (by decide +kernel)⟩
theorem lw_p78 : lw_okq (⟨"DeskMachineModel", "get", "(I)I"⟩, 22) := ⟨⟨by decide +kernel, by decide +kernel⟩, List.mem_of_getElem? (i := 813) (by decide +kernel), List.mem_of_getElem? (i := 977) (by decide +kernel), List.mem_of_getElem? (i := 978) (by decide +kernel)⟩
theorem lw_p79 : lw_okq (⟨"DeskMachineModel", "types", "(I)V"⟩, 22) := ⟨⟨by decide +kernel, by decide +kernel⟩, List.mem_of_getElem? (i := 813) (by decide +kernel), List.mem_of_getElem? (i := 981) (by decide +kernel), List.mem_of_getElem? (i := 982) (by decide +kernel)⟩
def lw_privs_5 : List (MethodName × Nat) := [(⟨"DeskMachineModel", "begins", "(I)I"⟩, 22), (⟨"DeskMachineModel", "isWord", "(IIII)Z"⟩, 22), (⟨"DeskMachineModel", "character", "(II)I"⟩, 22), (⟨"DeskMachineModel", "lists", "()V"⟩, 22), (⟨"DeskMachineModel", "isFree", "(I)Z"⟩, 22), (⟨"DeskMachineModel", "show", "(I)V"⟩, 22), (⟨"DeskMachineModel", "nameOf", "(I)V"⟩, 22), (⟨"DeskMachineModel", "erases", "()I"⟩, 22), (⟨"DeskMachineModel", "find", "(IZ)I"⟩, 22), (⟨"DeskMachineModel", "saves", "(I)Z"⟩, 22), (⟨"DeskMachineModel", "makes", "()I"⟩, 22), (⟨"DeskMachineModel", "firstFree", "()I"⟩, 22), (⟨"DeskMachineModel", "freeBlock", "(I)I"⟩, 22), (⟨"DeskMachineModel", "used", "(I)Z"⟩, 22), (⟨"DeskMachineModel", "get", "(I)I"⟩, 22), (⟨"DeskMachineModel", "types", "(I)V"⟩, 22)]
theorem lw_r5 : ∀ q ∈ lw_privs_5, lw_okq q := List.forall_mem_cons.mpr ⟨lw_p64, List.forall_mem_cons.mpr ⟨lw_p65, List.forall_mem_cons.mpr ⟨lw_p66, List.forall_mem_cons.mpr ⟨lw_p67, List.forall_mem_cons.mpr ⟨lw_p68, List.forall_mem_cons.mpr ⟨lw_p69, List.forall_mem_cons.mpr ⟨lw_p70, List.forall_mem_cons.mpr ⟨lw_p71, List.forall_mem_cons.mpr ⟨lw_p72, List.forall_mem_cons.mpr ⟨lw_p73, List.forall_mem_cons.mpr ⟨lw_p74, List.forall_mem_cons.mpr ⟨lw_p75, List.forall_mem_cons.mpr ⟨lw_p76, List.forall_mem_cons.mpr ⟨lw_p77, List.forall_mem_cons.mpr ⟨lw_p78, List.forall_mem_cons.mpr ⟨lw_p79, fun _ h => absurd h List.not_mem_nil⟩⟩⟩⟩⟩⟩⟩⟩⟩⟩⟩⟩⟩⟩⟩⟩
theorem lw_p80 : lw_okq (⟨"DeskMachineModel", "loads", "(I)V"⟩, 22) := ⟨⟨by decide +kernel, by decide +kernel⟩, List.mem_of_getElem? (i := 813) (by decide +kernel), List.mem_of_getElem? (i := 988) (by decide +kernel), List.mem_of_getElem? (i := 989) (by decide +kernel)⟩
theorem lw_p81 : lw_okq (⟨"DeskMachineModel", "put", "(II)V"⟩, 22) := ⟨⟨by decide +kernel, by decide +kernel⟩, List.mem_of_getElem? (i := 813) (by decide +kernel), List.mem_of_getElem? (i := 992) (by decide +kernel), List.mem_of_getElem? (i := 993) (by decide +kernel)⟩
theorem lw_p82 : lw_okq (⟨"DeskMachineModel", "setFlags", "(I)V"⟩, 22) := ⟨⟨by decide +kernel, by decide +kernel⟩, List.mem_of_getElem? (i := 813) (by decide +kernel), List.mem_of_getElem? (i := 996) (by decide +kernel), List.mem_of_getElem? (i := 997) (by decide +kernel)⟩
theorem lw_p83 : lw_okq (⟨"DeskMachineModel", "push", "(I)V"⟩, 22) := ⟨⟨by decide +kernel, by decide +kernel⟩, List.mem_of_getElem? (i := 813) (by decide +kernel), List.mem_of_getElem? (i := 1000) (by decide +kernel), List.mem_of_getElem? (i := 1001) (by decide +kernel)⟩
theorem lw_p84 : lw_okq (⟨"DeskMachineModel", "putWord", "(II)V"⟩, 22) := ⟨⟨by decide +kernel, by decide +kernel⟩, List.mem_of_getElem? (i := 813) (by decide +kernel), List.mem_of_getElem? (i := 1005) (by decide +kernel), List.mem_of_getElem? (i := 1006) (by decide +kernel)⟩
theorem lw_p85 : lw_okq (⟨"DeskMachineModel", "call", "()Z"⟩, 22) := ⟨⟨by decide +kernel, by decide +kernel⟩, List.mem_of_getElem? (i := 813) (by decide +kernel), List.mem_of_getElem? (i := 1009) (by decide +kernel), List.mem_of_getElem? (i := 1010) (by decide +kernel)⟩
theorem lw_p86 : lw_okq (⟨"DeskMachineModel", "pair", "(I)I"⟩, 22) := ⟨⟨by decide +kernel, by decide +kernel⟩, List.mem_of_getElem? (i := 813) (by decide +kernel), List.mem_of_getElem? (i := 1013) (by decide +kernel), List.mem_of_getElem? (i := 1014) (by decide +kernel)⟩
theorem lw_p87 : lw_okq (⟨"DeskMachineModel", "answer", "(II)I"⟩, 22) := ⟨⟨by decide +kernel, by decide +kernel⟩, List.mem_of_getElem? (i := 813) (by decide +kernel), List.mem_of_getElem? (i := 1017) (by decide +kernel), List.mem_of_getElem? (i := 1018) (by decide +kernel)⟩
theorem lw_p88 : lw_okq (⟨"DeskMachineModel", "files", "(II)I"⟩, 22) := ⟨⟨by decide +kernel, by decide +kernel⟩, List.mem_of_getElem? (i := 813) (by decide +kernel), List.mem_of_getElem? (i := 1021) (by decide +kernel), List.mem_of_getElem? (i := 1022) (by decide +kernel)⟩
theorem lw_p89 : lw_okq (⟨"DeskMachineModel", "nameAt", "(I)V"⟩, 22) := ⟨⟨by decide +kernel, by decide +kernel⟩, List.mem_of_getElem? (i := 813) (by decide +kernel), List.mem_of_getElem? (i := 1025) (by decide +kernel), List.mem_of_getElem? (i := 1026) (by decide +kernel)⟩
theorem lw_p90 : lw_okq (⟨"DeskMachineModel", "searches", "(I)I"⟩, 22) := ⟨⟨by decide +kernel, by decide +kernel⟩, List.mem_of_getElem? (i := 813) (by decide +kernel), List.mem_of_getElem? (i := 1029) (by decide +kernel), List.mem_of_getElem? (i := 1030) (by decide +kernel)⟩
theorem lw_p91 : lw_okq (⟨"DeskMachineModel", "reads", "(I)I"⟩, 22) := ⟨⟨by decide +kernel, by decide +kernel⟩, List.mem_of_getElem? (i := 813) (by decide +kernel), List.mem_of_getElem? (i := 1033) (by decide +kernel), List.mem_of_getElem? (i := 1034) (by decide +kernel)⟩
theorem lw_p92 : lw_okq (⟨"DeskMachineModel", "writes", "(I)I"⟩, 22) := ⟨⟨by decide +kernel, by decide +kernel⟩, List.mem_of_getElem? (i := 813) (by decide +kernel), List.mem_of_getElem? (i := 1037) (by decide +kernel), List.mem_of_getElem? (i := 1038) (by decide +kernel)⟩
theorem lw_p93 : lw_okq (⟨"DeskMachineModel", "pop", "()I"⟩, 22) := ⟨⟨by decide +kernel, by decide +kernel⟩, List.mem_of_getElem? (i := 813) (by decide +kernel), List.mem_of_getElem? (i := 1041) (by decide +kernel), List.mem_of_getElem? (i := 1042) (by decide +kernel)⟩
theorem lw_p94 : lw_okq (⟨"DeskMachineModel", "word", "(I)I"⟩, 22) := ⟨⟨by decide +kernel, by decide +kernel⟩, List.mem_of_getElem? (i := 813) (by decide +kernel), List.mem_of_getElem? (i := 1045) (by decide +kernel), List.mem_of_getElem? (i := 1046) (by decide +kernel)⟩
theorem lw_p95 : lw_okq (⟨"DeskMachineModel", "instruction", "()V"⟩, 22) := ⟨⟨by decide +kernel, by decide +kernel⟩, List.mem_of_getElem? (i := 813) (by decide +kernel), List.mem_of_getElem? (i := 1049) (by decide +kernel), List.mem_of_getElem? (i := 1050) (by decide +kernel)⟩
def lw_privs_6 : List (MethodName × Nat) := [(⟨"DeskMachineModel", "loads", "(I)V"⟩, 22), (⟨"DeskMachineModel", "put", "(II)V"⟩, 22), (⟨"DeskMachineModel", "setFlags", "(I)V"⟩, 22), (⟨"DeskMachineModel", "push", "(I)V"⟩, 22), (⟨"DeskMachineModel", "putWord", "(II)V"⟩, 22), (⟨"DeskMachineModel", "call", "()Z"⟩, 22), (⟨"DeskMachineModel", "pair", "(I)I"⟩, 22), (⟨"DeskMachineModel", "answer", "(II)I"⟩, 22), (⟨"DeskMachineModel", "files", "(II)I"⟩, 22), (⟨"DeskMachineModel", "nameAt", "(I)V"⟩, 22), (⟨"DeskMachineModel", "searches", "(I)I"⟩, 22), (⟨"DeskMachineModel", "reads", "(I)I"⟩, 22), (⟨"DeskMachineModel", "writes", "(I)I"⟩, 22), (⟨"DeskMachineModel", "pop", "()I"⟩, 22), (⟨"DeskMachineModel", "word", "(I)I"⟩, 22), (⟨"DeskMachineModel", "instruction", "()V"⟩, 22)]
theorem lw_r6 : ∀ q ∈ lw_privs_6, lw_okq q := List.forall_mem_cons.mpr ⟨lw_p80, List.forall_mem_cons.mpr ⟨lw_p81, List.forall_mem_cons.mpr ⟨lw_p82, List.forall_mem_cons.mpr ⟨lw_p83, List.forall_mem_cons.mpr ⟨lw_p84, List.forall_mem_cons.mpr ⟨lw_p85, List.forall_mem_cons.mpr ⟨lw_p86, List.forall_mem_cons.mpr ⟨lw_p87, List.forall_mem_cons.mpr ⟨lw_p88, List.forall_mem_cons.mpr ⟨lw_p89, List.forall_mem_cons.mpr ⟨lw_p90, List.forall_mem_cons.mpr ⟨lw_p91, List.forall_mem_cons.mpr ⟨lw_p92, List.forall_mem_cons.mpr ⟨lw_p93, List.forall_mem_cons.mpr ⟨lw_p94, List.forall_mem_cons.mpr ⟨lw_p95, fun _ h => absurd h List.not_mem_nil⟩⟩⟩⟩⟩⟩⟩⟩⟩⟩⟩⟩⟩⟩⟩⟩
theorem lw_p96 : lw_okq (⟨"DeskMachineModel", "steps0", "(II)V"⟩, 22) := ⟨⟨by decide +kernel, by decide +kernel⟩, List.mem_of_getElem? (i := 813) (by decide +kernel), List.mem_of_getElem? (i := 1053) (by decide +kernel), List.mem_of_getElem? (i := 1054) (by decide +kernel)⟩
theorem lw_p97 : lw_okq (⟨"DeskMachineModel", "setPair", "(II)V"⟩, 22) := ⟨⟨by decide +kernel, by decide +kernel⟩, List.mem_of_getElem? (i := 813) (by decide +kernel), List.mem_of_getElem? (i := 1057) (by decide +kernel), List.mem_of_getElem? (i := 1058) (by decide +kernel)⟩
theorem lw_p98 : lw_okq (⟨"DeskMachineModel", "moves", "(II)V"⟩, 22) := ⟨⟨by decide +kernel, by decide +kernel⟩, List.mem_of_getElem? (i := 813) (by decide +kernel), List.mem_of_getElem? (i := 1061) (by decide +kernel), List.mem_of_getElem? (i := 1062) (by decide +kernel)⟩
theorem lw_p99 : lw_okq (⟨"DeskMachineModel", "valueOf", "(I)I"⟩, 22) := ⟨⟨by decide +kernel, by decide +kernel⟩, List.mem_of_getElem? (i := 813) (by decide +kernel), List.mem_of_getElem? (i := 1065) (by decide +kernel), List.mem_of_getElem? (i := 1066) (by decide +kernel)⟩
theorem lw_p100 : lw_okq (⟨"DeskMachineModel", "setTo", "(II)V"⟩, 22) := ⟨⟨by decide +kernel, by decide +kernel⟩, List.mem_of_getElem? (i := 813) (by decide +kernel), List.mem_of_getElem? (i := 1069) (by decide +kernel), List.mem_of_getElem? (i := 1070) (by decide +kernel)⟩
theorem lw_p101 : lw_okq (⟨"DeskMachineModel", "tells", "(I)V"⟩, 22) := ⟨⟨by decide +kernel, by decide +kernel⟩, List.mem_of_getElem? (i := 813) (by decide +kernel), List.mem_of_getElem? (i := 1073) (by decide +kernel), List.mem_of_getElem? (i := 1074) (by decide +kernel)⟩
theorem lw_p102 : lw_okq (⟨"DeskMachineModel", "turns", "(I)V"⟩, 22) := ⟨⟨by decide +kernel, by decide +kernel⟩, List.mem_of_getElem? (i := 813) (by decide +kernel), List.mem_of_getElem? (i := 1077) (by decide +kernel), List.mem_of_getElem? (i := 1078) (by decide +kernel)⟩
theorem lw_p103 : lw_okq (⟨"DeskMachineModel", "adjusts", "()V"⟩, 22) := ⟨⟨by decide +kernel, by decide +kernel⟩, List.mem_of_getElem? (i := 813) (by decide +kernel), List.mem_of_getElem? (i := 1081) (by decide +kernel), List.mem_of_getElem? (i := 1082) (by decide +kernel)⟩
theorem lw_p104 : lw_okq (⟨"DeskMachineModel", "added", "(II)I"⟩, 22) := ⟨⟨by decide +kernel, by decide +kernel⟩, List.mem_of_getElem? (i := 813) (by decide +kernel), List.mem_of_getElem? (i := 1085) (by decide +kernel), List.mem_of_getElem? (i := 1086) (by decide +kernel)⟩
theorem lw_p105 : lw_okq (⟨"DeskMachineModel", "reckons", "(II)V"⟩, 22) := ⟨⟨by decide +kernel, by decide +kernel⟩, List.mem_of_getElem? (i := 813) (by decide +kernel), List.mem_of_getElem? (i := 1089) (by decide +kernel), List.mem_of_getElem? (i := 1090) (by decide +kernel)⟩
theorem lw_p106 : lw_okq (⟨"DeskMachineModel", "steps3", "(II)V"⟩, 22) := ⟨⟨by decide +kernel, by decide +kernel⟩, List.mem_of_getElem? (i := 813) (by decide +kernel), List.mem_of_getElem? (i := 1093) (by decide +kernel), List.mem_of_getElem? (i := 1094) (by decide +kernel)⟩
theorem lw_p107 : lw_okq (⟨"DeskMachineModel", "holds", "(I)Z"⟩, 22) := ⟨⟨by decide +kernel, by decide +kernel⟩, List.mem_of_getElem? (i := 813) (by decide +kernel), List.mem_of_getElem? (i := 1097) (by decide +kernel), List.mem_of_getElem? (i := 1098) (by decide +kernel)⟩
theorem lw_p108 : lw_okq (⟨"DeskMachineModel", "piles", "(III)V"⟩, 22) := ⟨⟨by decide +kernel, by decide +kernel⟩, List.mem_of_getElem? (i := 813) (by decide +kernel), List.mem_of_getElem? (i := 1101) (by decide +kernel), List.mem_of_getElem? (i := 1102) (by decide +kernel)⟩
theorem lw_p109 : lw_okq (⟨"DeskMachineModel", "flags", "()I"⟩, 22) := ⟨⟨by decide +kernel, by decide +kernel⟩, List.mem_of_getElem? (i := 813) (by decide +kernel), List.mem_of_getElem? (i := 1105) (by decide +kernel), List.mem_of_getElem? (i := 1106) (by decide +kernel)⟩
theorem lw_p110 : lw_okq (⟨"DeskMachineModel", "exchanges", "(I)V"⟩, 22) := ⟨⟨by decide +kernel, by decide +kernel⟩, List.mem_of_getElem? (i := 813) (by decide +kernel), List.mem_of_getElem? (i := 1109) (by decide +kernel), List.mem_of_getElem? (i := 1110) (by decide +kernel)⟩
def lw_privs_7 : List (MethodName × Nat) := [(⟨"DeskMachineModel", "steps0", "(II)V"⟩, 22), (⟨"DeskMachineModel", "setPair", "(II)V"⟩, 22), (⟨"DeskMachineModel", "moves", "(II)V"⟩, 22), (⟨"DeskMachineModel", "valueOf", "(I)I"⟩, 22), (⟨"DeskMachineModel", "setTo", "(II)V"⟩, 22), (⟨"DeskMachineModel", "tells", "(I)V"⟩, 22), (⟨"DeskMachineModel", "turns", "(I)V"⟩, 22), (⟨"DeskMachineModel", "adjusts", "()V"⟩, 22), (⟨"DeskMachineModel", "added", "(II)I"⟩, 22), (⟨"DeskMachineModel", "reckons", "(II)V"⟩, 22), (⟨"DeskMachineModel", "steps3", "(II)V"⟩, 22), (⟨"DeskMachineModel", "holds", "(I)Z"⟩, 22), (⟨"DeskMachineModel", "piles", "(III)V"⟩, 22), (⟨"DeskMachineModel", "flags", "()I"⟩, 22), (⟨"DeskMachineModel", "exchanges", "(I)V"⟩, 22)]
theorem lw_r7 : ∀ q ∈ lw_privs_7, lw_okq q := List.forall_mem_cons.mpr ⟨lw_p96, List.forall_mem_cons.mpr ⟨lw_p97, List.forall_mem_cons.mpr ⟨lw_p98, List.forall_mem_cons.mpr ⟨lw_p99, List.forall_mem_cons.mpr ⟨lw_p100, List.forall_mem_cons.mpr ⟨lw_p101, List.forall_mem_cons.mpr ⟨lw_p102, List.forall_mem_cons.mpr ⟨lw_p103, List.forall_mem_cons.mpr ⟨lw_p104, List.forall_mem_cons.mpr ⟨lw_p105, List.forall_mem_cons.mpr ⟨lw_p106, List.forall_mem_cons.mpr ⟨lw_p107, List.forall_mem_cons.mpr ⟨lw_p108, List.forall_mem_cons.mpr ⟨lw_p109, List.forall_mem_cons.mpr ⟨lw_p110, fun _ h => absurd h List.not_mem_nil⟩⟩⟩⟩⟩⟩⟩⟩⟩⟩⟩⟩⟩⟩⟩
def lw_privs : List (MethodName × Nat) := lw_privs_1 ++ (lw_privs_2 ++ (lw_privs_3 ++ (lw_privs_4 ++ (lw_privs_5 ++ (lw_privs_6 ++ (lw_privs_7))))))
def lw_tbl : List Cond := k2_sels lw_privs ++ tables_1
theorem lw_privs_ok : ∀ q ∈ lw_privs, lw_okq q := by
  show ∀ q ∈ lw_privs_1 ++ (lw_privs_2 ++ (lw_privs_3 ++ (lw_privs_4 ++ (lw_privs_5 ++ (lw_privs_6 ++ (lw_privs_7)))))), lw_okq q
  exact List.forall_mem_append.mpr ⟨lw_r1, List.forall_mem_append.mpr ⟨lw_r2, List.forall_mem_append.mpr ⟨lw_r3, List.forall_mem_append.mpr ⟨lw_r4, List.forall_mem_append.mpr ⟨lw_r5, List.forall_mem_append.mpr ⟨lw_r6, lw_r7⟩⟩⟩⟩⟩⟩
/-! ===== BEGIN words of one list among another's, by their places ===== -/
theorem goodIn_r {big : List Cond} (ws : List Cond) (ps : List Nat) (hp : ws = ps.filterMap (fun i => big[i]?)) (h : ws.all goodWord = true) : GoodIn big ws := by
  intro w hw
  have h1 := List.all_eq_true.mp h w hw
  rw [hp] at hw
  obtain ⟨i, -, hi⟩ := List.mem_filterMap.mp hw
  have hm : w ∈ big := by first | exact List.mem_of_getElem? hi | exact List.getElem?_mem hi
  exact ⟨hm, good_of_word h1⟩
theorem goodIn_app {big a b : List Cond} (ha : GoodIn big a) (hb : GoodIn big b) : GoodIn big (a ++ b) := fun w h => (List.mem_append.mp h).elim (ha w) (hb w)
theorem goodIn_ca {big a b : List Cond} {c : Cond} (ha : GoodIn big (c :: a)) (hb : GoodIn big b) : GoodIn big (c :: (a ++ b)) := fun w h => (List.mem_cons.mp h).elim (fun e => ha w (List.mem_cons.mpr (Or.inl e))) (fun h => (List.mem_append.mp h).elim (fun h => ha w (List.mem_cons.mpr (Or.inr h))) (hb w))
theorem goodIn_sub {big ws : List Cond} (hm : ∀ w ∈ ws, w ∈ big) (h : ws.all goodWord = true) : GoodIn big ws := fun w hw => ⟨hm w hw, good_of_word (List.all_eq_true.mp h w hw)⟩
/-! ===== END ===== -/

/-! ===== BEGIN exceptions that leave a method, and their catching by the caller (launches without stack traces) ===== -/
section VXA
/-! The laws vx_back, vx_callV, vx_callS, vx_callSW, vx_throw0, vx_throwS follow proofs of the library, with one case more: JvmDerived/Free/Laws.lean (Back.of_free), Shelf42/LK1.lean (callV, callS), Shelf/KitTraced.lean (throwNew0V, throwNewS). -/
/-- where a method has thrown q: the class by its name, the cell, what was written, the world -/
def vx_T (XC : String → State → State → Prop) (st : State) (q : Addr) (t : State) (mc ms : Nat) (free : Addr → Prop) : Prop :=
  ∃ (E : String) (ce : Cell) (L : List Loc), XC E st t ∧ t.heap[q]? = some ce ∧ ce.vm = .none ∧ st.vm.findClass E = some ce.cls ∧ st.WarmedH t.vm ∧ st.sameButNew ({ t with vm := st.vm } : State) L mc ms ∧ ∀ z ∈ L, free z.base
def vx_Q (Qc : Array Value → State → Outcome → State → Prop) (XC : String → State → State → Prop) (mc ms : Nat) (free : Addr → Prop) : Array Value → State → Outcome → State → Prop := fun a st o t =>
  (Qc a st o t ∧ ∃ L, FrameEnd st o t L mc ms ∧ ∀ q ∈ L, free q.base) ∨ ∃ q, o = .threw q ∧ vx_T XC st q t mc ms free
/-- a callee that returns or throws -/
def vx_Met (l : Launch) (y : MethodName) (ws : List Cond) (rm : Room) (Pc : Array Value → State → Prop) (Qc : Array Value → State → Outcome → State → Prop) (XC : String → State → State → Prop) (mc ms : Nat) (free : Addr → Prop) : Prop :=
  MetFree l y (headSpec ws rm) Pc (fun _ _ _ _ _ => True) (vx_Q Qc XC mc ms free)
def vx_Post (XC : String → State → State → Prop) (mc ms : Nat) (free : Addr → Prop) : Pt → Array Value → Addr → Pt → Prop := fun A a q B =>
  ∃ (g : JFrame) (mk : MethodId) (t : State) (L : List Loc) (E : String) (ce : Cell), B.U.heap = t.heap ∧ B.U.vm = t.vm ∧ XC E (A.U.calling g mk a) t ∧ t.heap[q]? = some ce ∧ ce.vm = .none ∧ A.U.vm.findClass E = some ce.cls ∧ B.locs = A.locs ++ L ∧ (∀ z ∈ L, free z.base) ∧ B.cells = A.cells + mc ∧ B.slots = A.slots + ms
def vx_Back (l : Launch) (R : Room) (p : Program) (e : Env) (below : List Frame) (s : State) (sargs : Array Value) (y : MethodName) (len W9 : Nat)
    (Pre : Pt → Array Value → Prop) (Post : Pt → Array Value → Option Value → Pt → Prop) (PostX : Pt → Array Value → Addr → Pt → Prop) : Prop :=
  ∀ (m : MethodId) (meth : Method) (c : Code) (A : Pt) (g : JFrame) (ig : Instr) (mk : MethodId) (a : Array Value),
    Stand p l e R s m sargs below meth c A.U A.locs A.cells A.slots → g.method = m → g.locals.size = c.maxLocals → decode c.code g.pc = .ok (ig, len) →
    2 * g.monitorRoom + (g.stack.map fun v => v.category).sum ≤ W9 → A.U.methodNamed? y = some mk → Pre A a →
    (∃ (v : Option Value) (B : Pt), Stand p l e R s m sargs below meth c B.U B.locs B.cells B.slots ∧ Post A a v B ∧
      Steps p.tables e below (doInvoke e (A.U.setTop g) [] mk a).1 (B.U.setTop { g with pc := g.pc + len, stack := v.toList ++ g.stack })) ∨
    (∃ (q : Addr) (B : Pt), Stand p l e R s m sargs below meth c B.U B.locs B.cells B.slots ∧ PostX A a q B ∧
      Steps p.tables e below (doInvoke e (A.U.setTop g) [] mk a).1 ((B.U.setTop g).pushFrame (.throwing q)))
section Payer
variable {l : Launch} {R : Room} {p : Program} {e : Env} {below : List Frame} {s : State} {sargs : Array Value} {y : MethodName} {len W9 : Nat}
theorem vx_back {ws : List Cond} {rm : Room} {Pc : Array Value → State → Prop} {Qc : Array Value → State → Outcome → State → Prop} {XC : String → State → State → Prop} {mc ms : Nat} {free : Addr → Prop} {bytes : ByteArray} {maxL : Nat} {ret : Option FieldType}
    (hM : vx_Met l y ws rm Pc Qc XC mc ms free) (hblind : FrameBlind Pc) (hrc : rm.cells = mc) (hrs : rm.slots = ms)
    (hframes : rm.frames + 1 ≤ R.frames) (hlocals : W9 + (maxL + 11) + rm.locals ≤ R.locals)
    (hws : ∀ w ∈ ws, ∀ a' U, s.WarmedH U.vm → w.before a' U = true) (hcode : Cond.code y bytes maxL ret ∈ ws) (hinit : ∀ a' U, s.WarmedH U.vm → (Cond.initialized y.cls).before a' U = true) :
    vx_Back l R p e below s sargs y len W9 (PreOf R mc ms Pc) (PostOf Qc mc ms free) (vx_Post XC mc ms free) := by
  intro m meth c A g ig mk a X hg hsize hdg hW hn hp
  have h1 : (headSpec ws rm).pre.before a A.U = true := atoms_intro fun w hw => hws w hw _ _ X.warmed
  have h2 : (Cond.code y bytes maxL ret).before a A.U = true := hws _ hcode _ _ X.warmed
  have h3 : (Cond.initialized y.cls).before a A.U = true := hinit _ _ X.warmed
  have h4 : A.cells + (headSpec ws rm).room.cells ≤ R.cells := by rw [show (headSpec ws rm).room.cells = mc from hrc]; exact hp.1
  have h5 : A.slots + (headSpec ws rm).room.slots ≤ R.slots := by rw [show (headSpec ws rm).room.slots = ms from hrs]; exact hp.2.1
  have hPc : Pc a (A.U.calling g mk a) := hblind _ _ _ _ hp.2.2
  obtain ⟨U, Ls, c0, s0⟩ := A
  dsimp only [Pt.U, Pt.locs, Pt.cells, Pt.slots] at h1 h2 h3 h4 h5 X hn hPc ⊢
  obtain ⟨methY, cY, hmY, hcY, -, hlY, -, -, -, -⟩ := Cond.code_spec hn h2
  obtain ⟨kY, hkY, -⟩ := className_of_methodNamed hn
  have hinitY : kY.init = .initialized := Cond.initialized_spec (findClass_of_methodNamed hn) hkY h3
  have h : At U g.method c below := by rw [hg]; exact X.here
  have hlocals9 : W9 + (maxL + 11) + (headSpec ws rm).room.locals ≤ R.locals := hlocals
  have happ : (headSpec ws rm).appliesLoose y e.platform (U.calling g mk a) = true :=
    Spec.appliesLoose_calling (g := g) h hdg hn hkY hinitY
      (X.room_calling (g := g) (R' := (headSpec ws rm).room) hsize hmY hcY hframes (by rw [hlY]; omega) h4 h5) h1
  obtain ⟨mid, hmid⟩ := h.above
  have hfr : (U.setTop g).frames = (.java g :: mid) ++ below := by rw [State.frames_setTop' g h.top, hmid]; rfl
  obtain ⟨o, s₂, hsteps, -, hend, hq⟩ := Steps.callFree hM p X.admits X.cas X.clock (acts := []) hfr happ hPc trivial
  have hq' : vx_Q Qc XC mc ms free a (U.calling g mk a) o s₂ := hq
  rw [State.frames_setTop' g h.top] at hend
  obtain ⟨g₀, hg0⟩ := Option.isSome_iff_exists.mp h.top
  obtain ⟨r, hr⟩ := State.topJava?_eq_some.mp hg0
  have hr' : (({ U with heap := s₂.heap, slotsUsed := s₂.slotsUsed } : State).setVm s₂.vm).frames = .java g₀ :: r := hr
  rcases hq' with ⟨hqc, L, hfe, hL⟩ | ⟨q, rfl, E, ce, L, hx, hce, hcv, hcl, hW₂, hsm, hL⟩
  · obtain ⟨⟨v, rfl⟩, hW₂, e2, q2, q3, q4, q5, q6⟩ := id hfe
    have e3 : s₂ = ({ (U.calling g mk a).setFrames s₂.frames with heap := s₂.heap, slotsUsed := s₂.slotsUsed } : State).setVm s₂.vm := by
      have : s₂ = ({ s₂ with vm := (U.calling g mk a).vm } : State).setVm s₂.vm := rfl
      rw [e2] at this
      exact this
    obtain ⟨c₂, i₂, len₂, hc₂, hd₂, hf₂⟩ := hend
    have hW' : U.WarmedH s₂.vm := hW₂
    have hcc : c₂ = c := by
      have h1 : s₂.code? g.method = U.code? g.method := by
        rw [State.code?_eq, State.code?_eq, hW'.alike.method?]
      exact Option.some.inj (hc₂.symm.trans (h1.trans h.code))
    subst hcc
    have hlen : len₂ = len := by rw [hdg] at hd₂; cases hd₂; rfl
    subst hlen
    have hs₂ : s₂ = (({ U with heap := s₂.heap, slotsUsed := s₂.slotsUsed } : State).setVm s₂.vm).setTop { g with pc := g.pc + len₂, stack := v.toList ++ g.stack } := by
      refine e3.trans ?_
      rw [hf₂, State.calling_eq h.top, State.setFrames_setFrames, State.setTop_of_frames _ hr', hr]
      rfl
    have hsame : U.sameButNew ({ U with heap := s₂.heap, slotsUsed := s₂.slotsUsed } : State) L mc ms := by
      refine ⟨?_, q2, q3, q4, q5, q6⟩
      obtain ⟨t, ht, -⟩ := State.frames_cons hr
      show ({ U with heap := s₂.heap, slotsUsed := s₂.slotsUsed } : State) = { U.setFrames U.frames with heap := s₂.heap, slotsUsed := s₂.slotsUsed }
      rw [State.setFrames_self ht]
    subst hg
    refine Or.inl ⟨v, ⟨(({ U with heap := s₂.heap, slotsUsed := s₂.slotsUsed } : State).setVm s₂.vm), Ls ++ L, c0 + mc, s0 + ms⟩,
      ⟨X.admits, X.cas, X.clock, X.frames, X.room, X.hears, X.method, X.code, (X.here.setHeapUsed s₂.heap s₂.slotsUsed).setVm hW'.alike, X.tail, State.WarmedH.trans X.warmed hW', X.limits, X.bytes, X.same.trans (hsame.setVm s.vm)⟩,
      ⟨g, mk, s₂, L, rfl, rfl, hqc, rfl, hL, rfl, rfl⟩, ?_⟩
    show Steps p.tables e below _ ((({ U with heap := s₂.heap, slotsUsed := s₂.slotsUsed } : State).setVm s₂.vm).setTop { g with pc := g.pc + len₂, stack := v.toList ++ g.stack })
    rw [← hs₂]
    exact hsteps
  · obtain ⟨e2, q2, q3, q4, q5, q6⟩ := id hsm
    have e3 : s₂ = ({ (U.calling g mk a).setFrames s₂.frames with heap := s₂.heap, slotsUsed := s₂.slotsUsed } : State).setVm s₂.vm := by
      have : s₂ = ({ s₂ with vm := (U.calling g mk a).vm } : State).setVm s₂.vm := rfl
      rw [e2] at this
      exact this
    have hf₂ : s₂.frames = .throwing q :: .java g :: U.frames.tail := hend
    have hW' : U.WarmedH s₂.vm := hW₂
    have hs₂ : s₂ = ((({ U with heap := s₂.heap, slotsUsed := s₂.slotsUsed } : State).setVm s₂.vm).setTop g).pushFrame (.throwing q) := by
      refine e3.trans ?_
      rw [hf₂, State.calling_eq h.top, State.setFrames_setFrames, State.pushFrame, State.frames_setTop _ hr', State.setTop_of_frames _ hr', State.setFrames_setFrames, hr]
      rfl
    have hsame : U.sameButNew ({ U with heap := s₂.heap, slotsUsed := s₂.slotsUsed } : State) L mc ms := by
      refine ⟨?_, q2, q3, q4, q5, q6⟩
      obtain ⟨t, ht, -⟩ := State.frames_cons hr
      show ({ U with heap := s₂.heap, slotsUsed := s₂.slotsUsed } : State) = { U.setFrames U.frames with heap := s₂.heap, slotsUsed := s₂.slotsUsed }
      rw [State.setFrames_self ht]
    subst hg
    refine Or.inr ⟨q, ⟨(({ U with heap := s₂.heap, slotsUsed := s₂.slotsUsed } : State).setVm s₂.vm), Ls ++ L, c0 + mc, s0 + ms⟩,
      ⟨X.admits, X.cas, X.clock, X.frames, X.room, X.hears, X.method, X.code, (X.here.setHeapUsed s₂.heap s₂.slotsUsed).setVm hW'.alike, X.tail, State.WarmedH.trans X.warmed hW', X.limits, X.bytes, X.same.trans (hsame.setVm s.vm)⟩,
      ⟨g, mk, s₂, L, E, ce, rfl, rfl, hx, hce, hcv, hcl, rfl, hL, rfl, rfl⟩, ?_⟩
    show Steps p.tables e below _ (((({ U with heap := s₂.heap, slotsUsed := s₂.slotsUsed } : State).setVm s₂.vm).setTop g).pushFrame (.throwing q))
    rw [← hs₂]
    exact hsteps
end Payer
section Calls
variable {p : Program} {l : Launch} {e : Env} {R : Room} {s : State} {m : MethodId} {args : Array Value} {below : List Frame} {meth : Method} {c : Code} {T : State} {locs : List Loc} {cells slots : Nat}
theorem vx_callV (X : Stand p l e R s m args below meth c T locs cells slots) (hexec : p.tables.exec = Jvm.exec) {own C : String} {index : Nat} {y : MethodName} {bytes : ByteArray} {maxL : Nat} {ret : Option FieldType}
    (hown : s.vm.findClass own = some m.cls) (hlink : (Cond.methodLink own index y).before args s = true) (hinst : (Cond.instanceMethod y).before args s = true) (hsel : (Cond.selects C y y).before args s = true)
    (hcode : (Cond.code y bytes maxL ret).before args s = true) (hy : y.cls ≠ "java/lang/invoke/MethodHandle" ∧ y.cls ≠ "java/lang/invoke/VarHandle")
    {W9 : Nat} {Pre : Pt → Array Value → Prop} {Post : Pt → Array Value → Option Value → Pt → Prop} {PostX : Pt → Array Value → Addr → Pt → Prop} (hK : vx_Back l R p e below s args y 3 W9 Pre Post PostX)
    {b : Addr} {cellB : Cell} (hcell : T.heap[b]? = some cellB) (hobj : cellB.vm.isStatics = false) (hcls : s.vm.findClass C = some cellB.cls)
    {g : JFrame} (hg : g.method = m) (hsize : g.locals.size = c.maxLocals) {argsL rest : List Value} (hlen : ∀ sig, parseMethodDescriptor y.desc = some sig → argsL.length = sig.parameters.length)
    (hstack : g.stack = argsL.reverse ++ .ref b :: rest) (hW : 2 * g.monitorRoom + (rest.map fun v => v.category).sum ≤ W9) (hdg : decode c.code g.pc = .ok (.invokevirtual index, 3))
    (hpre : ∀ vm₁, s.WarmedH vm₁ → Pre ⟨T.setVm vm₁, locs, cells, slots⟩ (Value.ref b :: argsL).toArray) :
    (∃ (v : Option Value) (vm₁ : Vm) (B : Pt), s.WarmedH vm₁ ∧ Stand p l e R s m args below meth c B.U B.locs B.cells B.slots ∧ Post ⟨T.setVm vm₁, locs, cells, slots⟩ (Value.ref b :: argsL).toArray v B ∧
      ∀ target, Steps p.tables e below (B.U.setTop { g with pc := g.pc + 3, stack := v.toList ++ rest }) target → Steps p.tables e below (T.setTop g) target) ∨
    (∃ (q : Addr) (vm₁ : Vm) (B : Pt), s.WarmedH vm₁ ∧ Stand p l e R s m args below meth c B.U B.locs B.cells B.slots ∧ PostX ⟨T.setVm vm₁, locs, cells, slots⟩ (Value.ref b :: argsL).toArray q B ∧
      Steps p.tables e below (T.setTop g) ((B.U.setTop { g with stack := rest }).pushFrame (.throwing q))) := by
  obtain ⟨mk, methM, hnamed, hmethM, hstM, habM⟩ := Cond.instanceMethod_spec hinst
  obtain ⟨methM', cM, hmethM', -, -, -, -, -, -, hsigM⟩ := Cond.code_spec hnamed hcode
  cases hmethM.symm.trans hmethM'
  obtain ⟨c2, r2, m2, q1, q2, q3, q4, kP, hkP, hkPi⟩ := Cond.selects_spec hsel
  cases hcls.symm.trans q1
  cases (State.methodFound?_of_named hnamed hy).symm.trans q2
  cases hnamed.symm.trans q3
  have hselP : selectMethod e.platform s.vm cellB.cls mk = .method mk := by rw [Launch.admits_selectMethod X.admits]; exact q4
  obtain ⟨vm₁, X₁, hstep₁⟩ := X.invokevirtual hexec hown hlink hnamed hmethM hstM hkP hkPi hy (a := b) (cell := cellB) hcell
    (fun z h => by rw [h] at hobj; cases hobj) hselP hmethM habM hkP hkPi (g := g) hg (argsL := argsL) (rest := rest) (hlen _ hsigM) hstack hdg
  rcases hK m meth c ⟨T.setVm vm₁, locs, cells, slots⟩ { g with stack := rest } (.invokevirtual index) mk (Value.ref b :: argsL).toArray X₁ hg hsize hdg hW (X₁.named hnamed) (hpre vm₁ X₁.warmed) with ⟨v, B, X', hpost, hsteps⟩ | ⟨q, B, X', hpost, hsteps⟩
  · exact Or.inl ⟨v, vm₁, B, X₁.warmed, X', hpost, fun target h => hstep₁ _ fun acts => by rw [doInvoke_state]; exact hsteps.trans h⟩
  · exact Or.inr ⟨q, vm₁, B, X₁.warmed, X', hpost, hstep₁ _ fun acts => by rw [doInvoke_state]; exact hsteps⟩
theorem vx_callS (X : Stand p l e R s m args below meth c T locs cells slots) (hexec : p.tables.exec = Jvm.exec) {own : String} {index : Nat} {y : MethodName} {bytes : ByteArray} {maxL : Nat} {ret : Option FieldType}
    (hown : s.vm.findClass own = some m.cls) (hlink : (Cond.methodLink own index y).before args s = true) (hstat : (Cond.static y).before args s = true) (hinit : (Cond.initialized y.cls).before args s = true)
    (hcode : (Cond.code y bytes maxL ret).before args s = true) (hy : y.cls ≠ "java/lang/invoke/MethodHandle" ∧ y.cls ≠ "java/lang/invoke/VarHandle")
    {W9 : Nat} {Pre : Pt → Array Value → Prop} {Post : Pt → Array Value → Option Value → Pt → Prop} {PostX : Pt → Array Value → Addr → Pt → Prop} (hK : vx_Back l R p e below s args y 3 W9 Pre Post PostX)
    {g : JFrame} (hg : g.method = m) (hsize : g.locals.size = c.maxLocals) {argsL rest : List Value} (hlen : ∀ sig, parseMethodDescriptor y.desc = some sig → argsL.length = sig.parameters.length)
    (hstack : g.stack = argsL.reverse ++ rest) (hW : 2 * g.monitorRoom + (rest.map fun v => v.category).sum ≤ W9) (hdg : decode c.code g.pc = .ok (.invokestatic index, 3))
    (hpre : ∀ vm₁, s.WarmedH vm₁ → Pre ⟨T.setVm vm₁, locs, cells, slots⟩ argsL.toArray) :
    (∃ (v : Option Value) (vm₁ : Vm) (B : Pt), s.WarmedH vm₁ ∧ Stand p l e R s m args below meth c B.U B.locs B.cells B.slots ∧ Post ⟨T.setVm vm₁, locs, cells, slots⟩ argsL.toArray v B ∧
      ∀ target, Steps p.tables e below (B.U.setTop { g with pc := g.pc + 3, stack := v.toList ++ rest }) target → Steps p.tables e below (T.setTop g) target) ∨
    (∃ (q : Addr) (vm₁ : Vm) (B : Pt), s.WarmedH vm₁ ∧ Stand p l e R s m args below meth c B.U B.locs B.cells B.slots ∧ PostX ⟨T.setVm vm₁, locs, cells, slots⟩ argsL.toArray q B ∧
      Steps p.tables e below (T.setTop g) ((B.U.setTop { g with stack := rest }).pushFrame (.throwing q))) := by
  obtain ⟨mk, hnamed⟩ := Cond.code_named hcode
  obtain ⟨methM, cM, hmethM, -, -, -, -, -, -, hsigM⟩ := Cond.code_spec hnamed hcode
  have hstatic : methM.isStatic = true := Cond.static_spec hnamed hmethM hstat
  obtain ⟨kP, hkP, -⟩ := className_of_methodNamed hnamed
  have hinitP : kP.init = .initialized := Cond.initialized_spec (findClass_of_methodNamed hnamed) hkP hinit
  obtain ⟨vm₁, X₁, hstep₁⟩ := X.invokestatic hexec hown hlink hnamed hmethM hstatic hkP hinitP hy (g := g) hg (argsL := argsL) (rest := rest) (hlen _ hsigM) hstack hdg
  rcases hK m meth c ⟨T.setVm vm₁, locs, cells, slots⟩ { g with stack := rest } (.invokestatic index) mk argsL.toArray X₁ hg hsize hdg hW (X₁.named hnamed) (hpre vm₁ X₁.warmed) with ⟨v, B, X', hpost, hsteps⟩ | ⟨q, B, X', hpost, hsteps⟩
  · exact Or.inl ⟨v, vm₁, B, X₁.warmed, X', hpost, fun target h => hstep₁ _ fun acts => by rw [doInvoke_state]; exact hsteps.trans h⟩
  · exact Or.inr ⟨q, vm₁, B, X₁.warmed, X', hpost, hstep₁ _ fun acts => by rw [doInvoke_state]; exact hsteps⟩
end Calls
theorem vx_cls {s : State} {T : State} {vm₁ : Vm} {E : String} {k : ClassId} (hW : s.WarmedH vm₁) (h : (T.setVm vm₁).vm.findClass E = some k) : s.vm.findClass E = some k := by
  have h1 : vm₁.findClass E = some k := h
  rw [hW.alike.findClass] at h1
  exact h1
/-- the method's frame g, with q thrown over it -/
def vx_W (p : Program) (l : Launch) (e : Env) (R : Room) (s : State) (m : MethodId) (args : Array Value) (below : List Frame) (meth : Method) (c : Code) (H : Heap) (locs : List Loc) (cells slots : Nat) (Q : State → Prop) (g : JFrame) (q : Addr) : Prop :=
  ∀ T : State, T.heap = H → Stand p l e R s m args below meth c T locs cells slots → ∃ t, Steps p.tables e below ((T.setTop g).pushFrame (.throwing q)) t ∧ Q t
def vx_Run (p : Program) (l : Launch) (e : Env) (R : Room) (s : State) (m : MethodId) (args : Array Value) (below : List Frame) (meth : Method) (c : Code) (H : Heap) (locs : List Loc) (cells slots mc ms : Nat) (g : JFrame) (rest : List Value) (Qa : State → Outcome → State → Prop) (XC : String → State → State → Prop) (free : Addr → Prop) : Prop :=
  ∀ T : State, T.heap = H → Stand p l e R s m args below meth c T locs cells slots →
    (∃ (v : Option Value) (st₀ t T' : State) (L : List Loc), st₀.heap = H ∧ Stand p l e R s m args below meth c T' (locs ++ L) (cells + mc) (slots + ms) ∧ (∀ q ∈ L, free q.base) ∧ T'.heap = t.heap ∧ T'.vm = t.vm ∧ Qa st₀ (.returned v) t ∧
      Goes p e below T g T' { g with pc := g.pc + 3, stack := v.toList ++ rest }) ∨
    (∃ (q : Addr) (st₀ t T' : State) (L : List Loc) (E : String) (ce : Cell), st₀.heap = H ∧ Stand p l e R s m args below meth c T' (locs ++ L) (cells + mc) (slots + ms) ∧ (∀ z ∈ L, free z.base) ∧ T'.heap = t.heap ∧ T'.vm = t.vm ∧ XC E st₀ t ∧ t.heap[q]? = some ce ∧ ce.vm = .none ∧ s.vm.findClass E = some ce.cls ∧
      Steps p.tables e below (T.setTop g) ((T'.setTop { g with stack := rest }).pushFrame (.throwing q)))
def vx_X {S : Type} (px : S → Prop) (B : String → S → State → Prop) (A : Nat → Prop) : String → State → State → Prop := fun E st t => ∃ u : S, px u ∧ B E u t ∧ va_F A st t
section Runs
variable {p : Program} {l : Launch} {e : Env} {R : Room} {s : State} {m : MethodId} {args : Array Value} {below : List Frame} {meth : Method} {c : Code} {H : Heap} {locs : List Loc} {cells slots : Nat}
variable {y : MethodName} {bytes cc : ByteArray} {maxL nL mc ms n index : Nat} {ret : Option FieldType} {ws : List Cond} {rm : Room} {Pc : Array Value → State → Prop} {Qc : Array Value → State → Outcome → State → Prop} {XC : String → State → State → Prop} {free : Addr → Prop} {Ts : List Cond} {own C : String} {b : Addr} {As rest : List Value} {g : JFrame}
theorem vx_callBack (cb : CallB R s args own index y bytes maxL ret ws rm mc ms n) (hM : vx_Met l y ws rm Pc Qc XC mc ms free) (hbl : FrameBlind Pc) : vx_Back l R p e below s args y 3 8 (PreOf R mc ms Pc) (PostOf Qc mc ms free) (vx_Post XC mc ms free) := by
  obtain ⟨hrc, hrs, hfr, hlo, hws, hcw, -, hini, -⟩ := cb
  exact vx_back (bytes := bytes) (maxL := maxL) (ret := ret) hM hbl hrc hrs hfr hlo hws hcw (fun a' U hW => word_at hW (Or.inl (by first | rfl | simp [Cond.onTables, Cond.keeps, Cond.steady])) hini)
theorem vx_runV (S : CallFix p m c cc nL s args Ts own) (hM : vx_Met l y ws rm Pc Qc XC mc ms free) (cw : CallW R s args own C index y bytes maxL ret ws rm mc ms n) (hp : PreV s H C b Pc As)
    (hg : g.method = m) (hn : As.length = n) (hsize : g.locals.size = nL) (hstack : g.stack = As.reverse ++ .ref b :: rest) (hW : 2 * g.monitorRoom + (rest.map fun v => v.category).sum ≤ 8) (hdg : decode cc g.pc = .ok (.invokevirtual index, 3)) (hf : cells + mc ≤ R.cells ∧ slots + ms ≤ R.slots) :
    vx_Run p l e R s m args below meth c H locs cells slots mc ms g rest (Qc (Value.ref b :: As).toArray) XC free := by
  have hK : vx_Back l R p e below s args y 3 8 (PreOf R mc ms Pc) (PostOf Qc mc ms free) (vx_Post XC mc ms free) := vx_callBack cw.1 hM hp.1
  obtain ⟨⟨-, -, -, -, -, -, hcode, -, hy, hlen, hl⟩, hin, hse⟩ := cw
  obtain ⟨hx, hb, hml, ho, -⟩ := S
  obtain ⟨-, ⟨cellB, hcB, hoB, hclB⟩, hPc⟩ := hp
  intro T hT X
  rcases vx_callV X hx (C := C) (bytes := bytes) (maxL := maxL) (ret := ret) ho hl hin hse hcode hy hK (by rw [hT]; exact hcB) hoB hclB hg (hsize.trans hml.symm) (argsL := As) (rest := rest) (fun sig h => hn.trans (hlen sig h)) hstack hW (by rw [hb]; exact hdg)
    (fun vm₁ hW₁ => ⟨hf.1, hf.2, hPc (T.setVm vm₁) hT hW₁⟩) with ⟨v, vm₁, ⟨U', l2, c2, s2⟩, hW₁, X', ⟨g', mk, t, L, e1, e2, hq, h1, hL, h2, h3⟩, st⟩ | ⟨q, vm₁, ⟨U', l2, c2, s2⟩, hW₁, X', ⟨g', mk, t, L, E, ce, e1, e2, hq, hce, hcv, hcl, h1, hL, h2, h3⟩, st⟩
  · dsimp only [Pt.U, Pt.locs, Pt.cells, Pt.slots] at X' e1 e2 h1 h2 h3 st
    subst h1; subst h2; subst h3
    exact Or.inl ⟨v, (T.setVm vm₁).calling g' mk (Value.ref b :: As).toArray, t, U', L, hT, X', hL, e1, e2, hq, st⟩
  · dsimp only [Pt.U, Pt.locs, Pt.cells, Pt.slots] at X' e1 e2 h1 h2 h3 st hcl
    subst h1; subst h2; subst h3
    exact Or.inr ⟨q, (T.setVm vm₁).calling g' mk (Value.ref b :: As).toArray, t, U', L, E, ce, hT, X', hL, e1, e2, hq, hce, hcv, vx_cls hW₁ hcl, st⟩
theorem vx_runS (S : CallFix p m c cc nL s args Ts own) (hM : vx_Met l y ws rm Pc Qc XC mc ms free) (cw : CallB R s args own index y bytes maxL ret ws rm mc ms n ∧ (Cond.static y).before args s = true) (hp : PreS s H Pc As)
    (hg : g.method = m) (hn : As.length = n) (hsize : g.locals.size = nL) (hstack : g.stack = As.reverse ++ rest) (hW : 2 * g.monitorRoom + (rest.map fun v => v.category).sum ≤ 8) (hdg : decode cc g.pc = .ok (.invokestatic index, 3)) (hf : cells + mc ≤ R.cells ∧ slots + ms ≤ R.slots) :
    vx_Run p l e R s m args below meth c H locs cells slots mc ms g rest (Qc As.toArray) XC free := by
  have hK : vx_Back l R p e below s args y 3 8 (PreOf R mc ms Pc) (PostOf Qc mc ms free) (vx_Post XC mc ms free) := vx_callBack cw.1 hM hp.1
  obtain ⟨⟨-, -, -, -, -, -, hcode, hini, hy, hlen, hl⟩, hstt⟩ := cw
  obtain ⟨hx, hb, hml, ho, -⟩ := S
  intro T hT X
  rcases vx_callS X hx (bytes := bytes) (maxL := maxL) (ret := ret) ho hl hstt hini hcode hy hK hg (hsize.trans hml.symm) (argsL := As) (rest := rest) (fun sig h => hn.trans (hlen sig h)) hstack hW (by rw [hb]; exact hdg)
    (fun vm₁ hW₁ => ⟨hf.1, hf.2, hp.2 (T.setVm vm₁) hT hW₁⟩) with ⟨v, vm₁, ⟨U', l2, c2, s2⟩, hW₁, X', ⟨g', mk, t, L, e1, e2, hq, h1, hL, h2, h3⟩, st⟩ | ⟨q, vm₁, ⟨U', l2, c2, s2⟩, hW₁, X', ⟨g', mk, t, L, E, ce, e1, e2, hq, hce, hcv, hcl, h1, hL, h2, h3⟩, st⟩
  · dsimp only [Pt.U, Pt.locs, Pt.cells, Pt.slots] at X' e1 e2 h1 h2 h3 st
    subst h1; subst h2; subst h3
    exact Or.inl ⟨v, (T.setVm vm₁).calling g' mk As.toArray, t, U', L, hT, X', hL, e1, e2, hq, st⟩
  · dsimp only [Pt.U, Pt.locs, Pt.cells, Pt.slots] at X' e1 e2 h1 h2 h3 st hcl
    subst h1; subst h2; subst h3
    exact Or.inr ⟨q, (T.setVm vm₁).calling g' mk As.toArray, t, U', L, E, ce, hT, X', hL, e1, e2, hq, hce, hcv, vx_cls hW₁ hcl, st⟩
end Runs
section Rows
variable {p : Program} {l : Launch} {e : Env} {R : Room} {s : State} {m : MethodId} {args : Array Value} {below : List Frame} {meth : Method} {c : Code} {H : Heap} {locs : List Loc} {cells slots : Nat} {Q : State → Prop}
variable {mc ms : Nat} {free : Addr → Prop} {A0 A1 : Nat → Prop} {H0 : Heap} {a : Array Value} {pc : Nat} {ls : Array Slot} {st0 rest : List Value}
theorem vx_keep {st₀ t T' : State} {L : List Loc} (h0 : st₀.heap = H) (e1 : T'.heap = t.heap) (hS : va_S A0 H0 H locs) (hA : ∀ q, q < H.size → A1 q → A0 q) (hf : ∀ q, free q → A0 q) (hL : ∀ q ∈ L, free q.base) (hF : va_F A1 st₀ t) :
    H.size ≤ T'.heap.size ∧ (∀ q : Nat, q < H.size → ¬ A1 q → T'.heap[q]? = H[q]?) ∧ va_S A0 H0 T'.heap (locs ++ L) := by
  obtain ⟨hz, hk⟩ := hF
  rw [h0] at hz hk
  exact ⟨by rw [e1]; exact hz, fun q h1 h2 => by rw [e1]; exact hk q h1 h2,
    ⟨Nat.le_trans hS.1 (by rw [e1]; exact hz), fun q h1 h2 => by rw [e1, hk q (Nat.lt_of_lt_of_le h1 hS.1) (fun z => h2 (hA q (Nat.lt_of_lt_of_le h1 hS.1) z))]; exact hS.2.1 q h1 h2, fun q hq => by
      rcases List.mem_append.mp hq with h | h
      · exact hS.2.2 q h
      · exact hf _ (hL q h)⟩⟩
theorem vx_calli {S SX : Type} {post : Int32 → S → Prop} {px : SX → Prop} {B : S → State → Prop} {BX : String → SX → State → Prop} {AX : Nat → Prop} (hr : vx_Run p l e R s m args below meth c H locs cells slots mc ms (F0 m pc ls st0) rest (va_Qi post B A1 a) (vx_X px BX AX) free) (hS : va_S A0 H0 H locs) (hA : ∀ q, q < H.size → A1 q → A0 q) (hf : ∀ q, free q → A0 q) (hAX : ∀ q, q < H.size → AX q → A0 q)
    (kx : ∀ (E : String) (ce : Cell) (q9 : Addr) (u : SX) (t : State) (H1 : Heap) (locs1 : List Loc), t.heap = H1 → s.vm.Alike t.vm → px u → BX E u t → H.size ≤ H1.size → (∀ q : Nat, q < H.size → ¬ AX q → H1[q]? = H[q]?) → va_S A0 H0 H1 locs1 → H1[q9]? = some ce → ce.vm = .none → s.vm.findClass E = some ce.cls → vx_W p l e R s m args below meth c H1 locs1 (cells + mc) (slots + ms) Q (F0 m pc ls rest) q9)
    (kk : ∀ (r : Int32) (u : S) (t : State) (H1 : Heap) (locs1 : List Loc), t.heap = H1 → s.vm.Alike t.vm → post r u → B u t → H.size ≤ H1.size → (∀ q : Nat, q < H.size → ¬ A1 q → H1[q]? = H[q]?) → va_S A0 H0 H1 locs1 → W p l e R s m args below meth c H1 locs1 (cells + mc) (slots + ms) Q (F0 m (pc + 3) ls (.int r :: rest))) : W p l e R s m args below meth c H locs cells slots Q (F0 m pc ls st0) := by
  intro T hT X
  rcases hr T hT X with ⟨v, st₀, t, T', L, h0, X', hL, e1, e2, ⟨⟨r, u, hv, hp, hb⟩, hF⟩, st⟩ | ⟨q, st₀, t, T', L, E, ce, h0, X', hL, e1, e2, ⟨u, hp, hb, hF⟩, hce, hcv, hcl, st⟩
  · cases hv
    obtain ⟨k1, k2, k3⟩ := vx_keep h0 e1 hS hA hf hL hF
    obtain ⟨t2, a1, b1⟩ := kk r u t T'.heap (locs ++ L) e1.symm (by rw [← e2]; exact X'.warmed.alike) hp hb k1 k2 k3 T' rfl X'
    exact ⟨t2, st t2 a1, b1⟩
  · obtain ⟨k1, k2, k3⟩ := vx_keep h0 e1 hS hAX hf hL hF
    obtain ⟨t2, a1, b1⟩ := kx E ce q u t T'.heap (locs ++ L) e1.symm (by rw [← e2]; exact X'.warmed.alike) hp hb k1 k2 k3 (by rw [e1]; exact hce) hcv hcl T' rfl X'
    exact ⟨t2, st.trans a1, b1⟩
theorem vx_calll {S SX : Type} {post : Int64 → S → Prop} {px : SX → Prop} {B : S → State → Prop} {BX : String → SX → State → Prop} {AX : Nat → Prop} (hr : vx_Run p l e R s m args below meth c H locs cells slots mc ms (F0 m pc ls st0) rest (va_Ql post B A1 a) (vx_X px BX AX) free) (hS : va_S A0 H0 H locs) (hA : ∀ q, q < H.size → A1 q → A0 q) (hf : ∀ q, free q → A0 q) (hAX : ∀ q, q < H.size → AX q → A0 q)
    (kx : ∀ (E : String) (ce : Cell) (q9 : Addr) (u : SX) (t : State) (H1 : Heap) (locs1 : List Loc), t.heap = H1 → s.vm.Alike t.vm → px u → BX E u t → H.size ≤ H1.size → (∀ q : Nat, q < H.size → ¬ AX q → H1[q]? = H[q]?) → va_S A0 H0 H1 locs1 → H1[q9]? = some ce → ce.vm = .none → s.vm.findClass E = some ce.cls → vx_W p l e R s m args below meth c H1 locs1 (cells + mc) (slots + ms) Q (F0 m pc ls rest) q9)
    (kk : ∀ (r : Int64) (u : S) (t : State) (H1 : Heap) (locs1 : List Loc), t.heap = H1 → s.vm.Alike t.vm → post r u → B u t → H.size ≤ H1.size → (∀ q : Nat, q < H.size → ¬ A1 q → H1[q]? = H[q]?) → va_S A0 H0 H1 locs1 → W p l e R s m args below meth c H1 locs1 (cells + mc) (slots + ms) Q (F0 m (pc + 3) ls (.long r :: rest))) : W p l e R s m args below meth c H locs cells slots Q (F0 m pc ls st0) := by
  intro T hT X
  rcases hr T hT X with ⟨v, st₀, t, T', L, h0, X', hL, e1, e2, ⟨⟨r, u, hv, hp, hb⟩, hF⟩, st⟩ | ⟨q, st₀, t, T', L, E, ce, h0, X', hL, e1, e2, ⟨u, hp, hb, hF⟩, hce, hcv, hcl, st⟩
  · cases hv
    obtain ⟨k1, k2, k3⟩ := vx_keep h0 e1 hS hA hf hL hF
    obtain ⟨t2, a1, b1⟩ := kk r u t T'.heap (locs ++ L) e1.symm (by rw [← e2]; exact X'.warmed.alike) hp hb k1 k2 k3 T' rfl X'
    exact ⟨t2, st t2 a1, b1⟩
  · obtain ⟨k1, k2, k3⟩ := vx_keep h0 e1 hS hAX hf hL hF
    obtain ⟨t2, a1, b1⟩ := kx E ce q u t T'.heap (locs ++ L) e1.symm (by rw [← e2]; exact X'.warmed.alike) hp hb k1 k2 k3 (by rw [e1]; exact hce) hcv hcl T' rfl X'
    exact ⟨t2, st.trans a1, b1⟩
theorem vx_callf {S SX : Type} {post : UInt32 → S → Prop} {px : SX → Prop} {B : S → State → Prop} {BX : String → SX → State → Prop} {AX : Nat → Prop} (hr : vx_Run p l e R s m args below meth c H locs cells slots mc ms (F0 m pc ls st0) rest (va_Qf post B A1 a) (vx_X px BX AX) free) (hS : va_S A0 H0 H locs) (hA : ∀ q, q < H.size → A1 q → A0 q) (hf : ∀ q, free q → A0 q) (hAX : ∀ q, q < H.size → AX q → A0 q)
    (kx : ∀ (E : String) (ce : Cell) (q9 : Addr) (u : SX) (t : State) (H1 : Heap) (locs1 : List Loc), t.heap = H1 → s.vm.Alike t.vm → px u → BX E u t → H.size ≤ H1.size → (∀ q : Nat, q < H.size → ¬ AX q → H1[q]? = H[q]?) → va_S A0 H0 H1 locs1 → H1[q9]? = some ce → ce.vm = .none → s.vm.findClass E = some ce.cls → vx_W p l e R s m args below meth c H1 locs1 (cells + mc) (slots + ms) Q (F0 m pc ls rest) q9)
    (kk : ∀ (r : UInt32) (u : S) (t : State) (H1 : Heap) (locs1 : List Loc), t.heap = H1 → s.vm.Alike t.vm → post r u → B u t → H.size ≤ H1.size → (∀ q : Nat, q < H.size → ¬ A1 q → H1[q]? = H[q]?) → va_S A0 H0 H1 locs1 → W p l e R s m args below meth c H1 locs1 (cells + mc) (slots + ms) Q (F0 m (pc + 3) ls (.float r :: rest))) : W p l e R s m args below meth c H locs cells slots Q (F0 m pc ls st0) := by
  intro T hT X
  rcases hr T hT X with ⟨v, st₀, t, T', L, h0, X', hL, e1, e2, ⟨⟨r, u, hv, hp, hb⟩, hF⟩, st⟩ | ⟨q, st₀, t, T', L, E, ce, h0, X', hL, e1, e2, ⟨u, hp, hb, hF⟩, hce, hcv, hcl, st⟩
  · cases hv
    obtain ⟨k1, k2, k3⟩ := vx_keep h0 e1 hS hA hf hL hF
    obtain ⟨t2, a1, b1⟩ := kk r u t T'.heap (locs ++ L) e1.symm (by rw [← e2]; exact X'.warmed.alike) hp hb k1 k2 k3 T' rfl X'
    exact ⟨t2, st t2 a1, b1⟩
  · obtain ⟨k1, k2, k3⟩ := vx_keep h0 e1 hS hAX hf hL hF
    obtain ⟨t2, a1, b1⟩ := kx E ce q u t T'.heap (locs ++ L) e1.symm (by rw [← e2]; exact X'.warmed.alike) hp hb k1 k2 k3 (by rw [e1]; exact hce) hcv hcl T' rfl X'
    exact ⟨t2, st.trans a1, b1⟩
theorem vx_calld {S SX : Type} {post : UInt64 → S → Prop} {px : SX → Prop} {B : S → State → Prop} {BX : String → SX → State → Prop} {AX : Nat → Prop} (hr : vx_Run p l e R s m args below meth c H locs cells slots mc ms (F0 m pc ls st0) rest (va_Qd post B A1 a) (vx_X px BX AX) free) (hS : va_S A0 H0 H locs) (hA : ∀ q, q < H.size → A1 q → A0 q) (hf : ∀ q, free q → A0 q) (hAX : ∀ q, q < H.size → AX q → A0 q)
    (kx : ∀ (E : String) (ce : Cell) (q9 : Addr) (u : SX) (t : State) (H1 : Heap) (locs1 : List Loc), t.heap = H1 → s.vm.Alike t.vm → px u → BX E u t → H.size ≤ H1.size → (∀ q : Nat, q < H.size → ¬ AX q → H1[q]? = H[q]?) → va_S A0 H0 H1 locs1 → H1[q9]? = some ce → ce.vm = .none → s.vm.findClass E = some ce.cls → vx_W p l e R s m args below meth c H1 locs1 (cells + mc) (slots + ms) Q (F0 m pc ls rest) q9)
    (kk : ∀ (r : UInt64) (u : S) (t : State) (H1 : Heap) (locs1 : List Loc), t.heap = H1 → s.vm.Alike t.vm → post r u → B u t → H.size ≤ H1.size → (∀ q : Nat, q < H.size → ¬ A1 q → H1[q]? = H[q]?) → va_S A0 H0 H1 locs1 → W p l e R s m args below meth c H1 locs1 (cells + mc) (slots + ms) Q (F0 m (pc + 3) ls (.double r :: rest))) : W p l e R s m args below meth c H locs cells slots Q (F0 m pc ls st0) := by
  intro T hT X
  rcases hr T hT X with ⟨v, st₀, t, T', L, h0, X', hL, e1, e2, ⟨⟨r, u, hv, hp, hb⟩, hF⟩, st⟩ | ⟨q, st₀, t, T', L, E, ce, h0, X', hL, e1, e2, ⟨u, hp, hb, hF⟩, hce, hcv, hcl, st⟩
  · cases hv
    obtain ⟨k1, k2, k3⟩ := vx_keep h0 e1 hS hA hf hL hF
    obtain ⟨t2, a1, b1⟩ := kk r u t T'.heap (locs ++ L) e1.symm (by rw [← e2]; exact X'.warmed.alike) hp hb k1 k2 k3 T' rfl X'
    exact ⟨t2, st t2 a1, b1⟩
  · obtain ⟨k1, k2, k3⟩ := vx_keep h0 e1 hS hAX hf hL hF
    obtain ⟨t2, a1, b1⟩ := kx E ce q u t T'.heap (locs ++ L) e1.symm (by rw [← e2]; exact X'.warmed.alike) hp hb k1 k2 k3 (by rw [e1]; exact hce) hcv hcl T' rfl X'
    exact ⟨t2, st.trans a1, b1⟩
theorem vx_callv {S SX : Type} {post : S → Prop} {px : SX → Prop} {B : S → State → Prop} {BX : String → SX → State → Prop} {AX : Nat → Prop} (hr : vx_Run p l e R s m args below meth c H locs cells slots mc ms (F0 m pc ls st0) rest (va_Qv post B A1 a) (vx_X px BX AX) free) (hS : va_S A0 H0 H locs) (hA : ∀ q, q < H.size → A1 q → A0 q) (hf : ∀ q, free q → A0 q) (hAX : ∀ q, q < H.size → AX q → A0 q)
    (kx : ∀ (E : String) (ce : Cell) (q9 : Addr) (u : SX) (t : State) (H1 : Heap) (locs1 : List Loc), t.heap = H1 → s.vm.Alike t.vm → px u → BX E u t → H.size ≤ H1.size → (∀ q : Nat, q < H.size → ¬ AX q → H1[q]? = H[q]?) → va_S A0 H0 H1 locs1 → H1[q9]? = some ce → ce.vm = .none → s.vm.findClass E = some ce.cls → vx_W p l e R s m args below meth c H1 locs1 (cells + mc) (slots + ms) Q (F0 m pc ls rest) q9)
    (kk : ∀ (u : S) (t : State) (H1 : Heap) (locs1 : List Loc), t.heap = H1 → s.vm.Alike t.vm → post u → B u t → H.size ≤ H1.size → (∀ q : Nat, q < H.size → ¬ A1 q → H1[q]? = H[q]?) → va_S A0 H0 H1 locs1 → W p l e R s m args below meth c H1 locs1 (cells + mc) (slots + ms) Q (F0 m (pc + 3) ls (rest))) : W p l e R s m args below meth c H locs cells slots Q (F0 m pc ls st0) := by
  intro T hT X
  rcases hr T hT X with ⟨v, st₀, t, T', L, h0, X', hL, e1, e2, ⟨⟨u, hv, hp, hb⟩, hF⟩, st⟩ | ⟨q, st₀, t, T', L, E, ce, h0, X', hL, e1, e2, ⟨u, hp, hb, hF⟩, hce, hcv, hcl, st⟩
  · cases hv
    obtain ⟨k1, k2, k3⟩ := vx_keep h0 e1 hS hA hf hL hF
    obtain ⟨t2, a1, b1⟩ := kk u t T'.heap (locs ++ L) e1.symm (by rw [← e2]; exact X'.warmed.alike) hp hb k1 k2 k3 T' rfl X'
    exact ⟨t2, st t2 a1, b1⟩
  · obtain ⟨k1, k2, k3⟩ := vx_keep h0 e1 hS hAX hf hL hF
    obtain ⟨t2, a1, b1⟩ := kx E ce q u t T'.heap (locs ++ L) e1.symm (by rw [← e2]; exact X'.warmed.alike) hp hb k1 k2 k3 (by rw [e1]; exact hce) hcv hcl T' rfl X'
    exact ⟨t2, st.trans a1, b1⟩
/-- caught by the row x of this method's table; the rows ahead don't take it -/
theorem vx_catch {own name : String} {E : String} {ce : Cell} {q : Addr} (hown : s.vm.findClass own = some m.cls) (pre : List ExceptionTableEntry) (x : ExceptionTableEntry) (suf : List ExceptionTableEntry) (hsplit : c.exceptionTable.toList = pre ++ x :: suf)
    (hpass : ∀ z ∈ pre, covers z pc = false ∨ (z.catchType ≠ 0 ∧ ∃ nm : String, (Cond.classLink own z.catchType nm).before args s = true ∧ va_Nc E nm s)) (hx : covers x pc = true) (h0 : x.catchType ≠ 0)
    (hlink : (Cond.classLink own x.catchType name).before args s = true) (hcast : (Cond.castable E name).before args s = true) (hcell : H[q]? = some ce) (hv : ce.vm = .none) (hcl : s.vm.findClass E = some ce.cls)
    (kk : W p l e R s m args below meth c H locs cells slots Q (F0 m x.handlerPc ls [.ref q])) : vx_W p l e R s m args below meth c H locs cells slots Q (F0 m pc ls rest) q := by
  intro T hT X
  have hpl : e.platform.magicAccessors = ({} : Platform).magicAccessors := by rw [X.admits.platform]
  obtain ⟨c3, c4, hc3, hc4, hasg⟩ := Cond.castable_spec hcast
  cases Option.some.inj (hc3.symm.trans hcl)
  obtain ⟨c5, hc5, hcl5⟩ := Cond.classLink_spec hown hlink e.platform hpl
  cases Option.some.inj (hc4.symm.trans hc5)
  obtain ⟨vm', X', st⟩ := X.thenCaughtThrough q (g := F0 m pc ls rest) rfl (Steps.refl _) (by rw [hT]; exact hcell) (by rw [hv]; rfl) (by obtain ⟨k9, h9, -⟩ := Vm.findClass_spec hcl; exact ⟨k9, h9⟩) pre x suf hsplit
    (fun z hz => by
      rcases hpass z hz with h | ⟨hz0, nm, hl1, hn1⟩
      · exact Or.inl h
      · obtain ⟨c6, hc6, hcl6⟩ := Cond.classLink_spec hown hl1 e.platform hpl
        obtain ⟨a8, b8, h1, h2, h3⟩ := hn1
        cases Option.some.inj (h1.symm.trans hcl)
        cases Option.some.inj (h2.symm.trans hc6)
        exact Or.inr ⟨hz0, _, hcl6, h3⟩) hx (Or.inr ⟨h0, c4, hcl5, hasg⟩)
  obtain ⟨t, a1, b1⟩ := kk (T.setVm vm') hT X'
  exact ⟨t, st.trans a1, b1⟩
end Rows
section Ends
variable {p : Program} {l : Launch} {e : Env} {R : Room} {s : State} {m : MethodId} {args : Array Value} {below : List Frame} {meth : Method} {c : Code} {H : Heap} {locs : List Loc} {cells slots : Nat} {Q : State → Prop}
variable {mc ms : Nat} {free : Addr → Prop} {A0 A1 : Nat → Prop} {H0 : Heap} {a : Array Value} {ls : Array Slot} {st0 rest : List Value}
variable {Qc : Array Value → State → Outcome → State → Prop} {XC : String → State → State → Prop}
/-- what a body that may throw owes at its end -/
def vx_MQ (below : List Frame) (Qc : Array Value → State → Outcome → State → Prop) (XC : String → State → State → Prop) (a : Array Value) (s : State) (mc ms : Nat) (free : Addr → Prop) : State → Prop := fun t =>
  ∃ o, t.status = .running ∧ Ended t below o ∧ vx_Q Qc XC mc ms free a s o t
theorem vx_ret {g : JFrame} {mc ms : Nat} (k : W p l e R s m args below meth c H locs cells slots (MQ below Qc args s mc ms free) g) : W p l e R s m args below meth c H locs cells slots (vx_MQ below Qc XC args s mc ms free) g := by
  intro T hT X
  obtain ⟨t, a1, o, b1, b2, b3, b4⟩ := k T hT X
  exact ⟨t, a1, o, b1, b2, Or.inl ⟨b3, b4⟩⟩
/-- not caught here: it goes on to the caller -/
theorem vx_widen {g : JFrame} {q : Addr} {k n : Nat} (h1 : cells ≤ k) (h2 : slots ≤ n) (kk : vx_W p l e R s m args below meth c H locs k n Q g q) : vx_W p l e R s m args below meth c H locs cells slots Q g q := fun T hT X => kk T hT (stand_widen X h1 h2)
theorem vx_out {pc : Nat} {E : String} {ce : Cell} {q : Addr} {mc ms : Nat} (hout : ∀ x ∈ c.exceptionTable.toList, covers x pc = false) (hlocks : meth.locks = false) (hcell : H[q]? = some ce) (hv : ce.vm = .none) (hcl : s.vm.findClass E = some ce.cls)
    (hx : ∀ t : State, t.heap = H → s.vm.Alike t.vm → XC E s t) (hf : ∀ z ∈ locs, free z.base) (hc : cells ≤ mc) (hs : slots ≤ ms) :
    vx_W p l e R s m args below meth c H locs cells slots (vx_MQ below Qc XC args s mc ms free) (F0 m pc ls rest) q := by
  intro T hT X
  obtain ⟨st1, hrun, hend, hW, hsm⟩ := X.leaveThrown q (g := F0 m pc ls rest) rfl rfl rfl hout hlocks
  have hcell9 : (T.setFrames (.throwing q :: below)).heap[q]? = some ce := by
    show T.heap[q]? = some ce
    rw [hT]; exact hcell
  exact ⟨_, st1, .threw q, hrun, hend, Or.inr ⟨q, rfl, E, ce, locs, hx _ hT hW.alike, hcell9, hv, hcl, hW, hsm.mono hc hs, hf⟩⟩
theorem vx_frame {U : State} {k n : Nat} (h : s.sameButNew ({ U with vm := s.vm } : State) locs k n) : s.heap.size ≤ U.heap.size ∧ ∀ q : Nat, q < s.heap.size → (∀ z ∈ locs, z.base ≠ q) → U.heap[q]? = s.heap[q]? := by
  obtain ⟨-, h2, -, -, -, h6⟩ := h
  refine ⟨h2, fun q hq hz => ?_⟩
  obtain ⟨c9, e1, e2, e3, e4⟩ := h6 q _ (Array.getElem?_eq_getElem hq)
  have hs : c9.slots = (s.heap[q]).slots := Array.ext_getElem? fun i => e4 i fun hm => hz _ hm rfl
  have h9 : c9 = s.heap[q] := by
    rw [hs] at e2
    exact e2
  have e5 : U.heap[q]? = some c9 := e1
  rw [e5, h9, Array.getElem?_eq_getElem hq]
/-- the words of a throw but the four that speak of the heap -/
def vx_no (w : Cond) : Bool := decide (w ≠ .isRef (.static Bundle.tN "UNASSIGNED_STACK" Bundle.steD)) && decide (w ≠ .isRef (.static Bundle.tN "SUPPRESSED_SENTINEL" Bundle.listD)) && decide (w ≠ .laysStatic Bundle.tN "UNASSIGNED_STACK" Bundle.steD) && decide (w ≠ .laysStatic Bundle.tN "SUPPRESSED_SENTINEL" Bundle.listD)
def vx_at0 (own : String) (ic : Nat) (X : String) (names : List String) : List Cond := (Bundle.ownAtoms0 own ic X names).filter vx_no
def vx_atS (own : String) (ic : Nat) (X : String) (names : List String) : List Cond := (Bundle.ownAtoms own ic X names).filter vx_no
/-- a word that the tables alone decide, or a good one -/
def vx_ot (w : Cond) : Bool := w.onTables || goodWord w
theorem vx_ot_at {args a' : Array Value} {s U : State} {w : Cond} (hW : s.WarmedH U.vm) (hvm : s.vm = U.vm) (hg : vx_ot w = true) (h : w.before args s = true) : w.before a' U = true := by
  simp only [vx_ot, Bool.or_eq_true] at hg
  rcases hg with hg | hg
  · exact va_tabs hg hvm h
  · exact word_at hW (good_of_word hg) h
/-- a list's words: the good ones out of the method's own list, the others by premises of their own -/
theorem vx_hat {args : Array Value} {s : State} {L B : List Cond} (h1 : ∀ w ∈ L.filter goodWord, w.before args s = true) (h2 : ∀ w ∈ L.filter (fun w => !goodWord w), w ∈ B) (h3 : ∀ w ∈ B, w.before args s = true) : ∀ w ∈ L, w.before args s = true := by
  intro w hw
  by_cases g : goodWord w = true
  · exact h1 w (List.mem_filter.mpr ⟨hw, g⟩)
  · refine h3 w (h2 w (List.mem_filter.mpr ⟨hw, ?_⟩))
    show (!goodWord w) = true
    cases hgw : goodWord w
    · rfl
    · exact absurd hgw g
theorem vx_c {args : Array Value} {s : State} {w : Cond} {B : List Cond} (h : w.before args s = true) (t : ∀ w ∈ B, w.before args s = true) : ∀ w' ∈ w :: B, w'.before args s = true := fun w' h' => (List.mem_cons.mp h').elim (fun e => by rw [e]; exact h) (t w')
theorem vx_n {args : Array Value} {s : State} : ∀ w ∈ ([] : List Cond), w.before args s = true := fun _ h => nomatch h
theorem vx_own {args : Array Value} {s : State} {L : List Cond} (h1 : ∀ w ∈ L.filter vx_no, w.before args s = true)
    (hU : (Cond.isRef (.static Bundle.tN "UNASSIGNED_STACK" Bundle.steD)).before args s = true) (hN : (Cond.isRef (.static Bundle.tN "SUPPRESSED_SENTINEL" Bundle.listD)).before args s = true)
    (lU : (Cond.laysStatic Bundle.tN "UNASSIGNED_STACK" Bundle.steD).before args s = true) (lN : (Cond.laysStatic Bundle.tN "SUPPRESSED_SENTINEL" Bundle.listD).before args s = true) : ∀ w ∈ L, w.before args s = true := by
  intro w hw
  by_cases e1 : w = .isRef (.static Bundle.tN "UNASSIGNED_STACK" Bundle.steD)
  · rw [e1]; exact hU
  · by_cases e2 : w = .isRef (.static Bundle.tN "SUPPRESSED_SENTINEL" Bundle.listD)
    · rw [e2]; exact hN
    · by_cases e3 : w = .laysStatic Bundle.tN "UNASSIGNED_STACK" Bundle.steD
      · rw [e3]; exact lU
      · by_cases e4 : w = .laysStatic Bundle.tN "SUPPRESSED_SENTINEL" Bundle.listD
        · rw [e4]; exact lN
        · exact h1 w (List.mem_filter.mpr ⟨hw, by unfold vx_no; rw [decide_eq_true e1, decide_eq_true e2, decide_eq_true e3, decide_eq_true e4]; rfl⟩)
/-- where a static field lies, its class's statics cell in H -/
def vx_L (C n d : String) (A : Nat → Prop) (U : State) (H : Heap) : Prop := ∃ (c : ClassId) (k : Class) (i : Nat) (f : Field) (a : Nat) (cell : Cell), U.vm.findClass C = some c ∧ U.fieldFound? C n d = some (c, k, i, f) ∧ f.isStatic = true ∧ k.statics = some a ∧ H[a]? = some cell ∧ cell.vm.isStatics = true ∧ cell.cls = c ∧ f.slot < cell.slots.size ∧ k.staticTypes[f.slot]? = some f.type ∧ ¬ A a
theorem vx_L.moved {C n d : String} {A : Nat → Prop} {u U : State} {H : Heap} (hvm : u.vm.Alike U.vm) (h : vx_L C n d A u H) : vx_L C n d A U H := by
  obtain ⟨c, k, i, f, a, cell, h1, h2, h3, h4, h5, h6, h7, h8, h9, h10⟩ := h
  obtain ⟨k', hi', he⟩ := State.fieldFound?_setVm hvm h2
  exact ⟨c, k', i, f, a, cell, by rw [hvm.findClass]; exact h1, hi', h3, by rw [he]; exact h4, h5, h6, h7, h8, by rw [he]; exact h9, h10⟩
theorem vx_L.kept {C n d : String} {A : Nat → Prop} {U : State} {H H1 : Heap} (h : vx_L C n d A U H) (hq : ∀ a : Nat, a < H.size → ¬ A a → H1[a]? = H[a]?) : vx_L C n d A U H1 := by
  obtain ⟨c, k, i, f, a, cell, h1, h2, h3, h4, h5, h6, h7, h8, h9, h10⟩ := h
  exact ⟨c, k, i, f, a, cell, h1, h2, h3, h4, by rw [hq a (Array.getElem?_eq_some_iff.mp h5).1 h10]; exact h5, h6, h7, h8, h9, h10⟩
theorem vx_L.narrow {C n d : String} {A B : Nat → Prop} {U : State} {H : Heap} (h : vx_L C n d A U H) (hAB : ∀ q, B q → A q) : vx_L C n d B U H := by
  obtain ⟨c, k, i, f, a, cell, h1, h2, h3, h4, h5, h6, h7, h8, h9, h10⟩ := h
  exact ⟨c, k, i, f, a, cell, h1, h2, h3, h4, h5, h6, h7, h8, h9, fun z => h10 (hAB _ z)⟩
theorem vx_L.word {C n d : String} {A : Nat → Prop} {s : State} {args : Array Value} (h : vx_L C n d A s s.heap) : (Cond.laysStatic C n d).before args s = true := by
  obtain ⟨c, k, i, f, a, cell, h1, h2, h3, h4, h5, h6, h7, h8, h9, -⟩ := h
  show (Cond.laysStatic C n d).holds args s none s [] = true
  exact Cond.laysStatic_of h1 h2 h3 h4 h5 h6 h7 h8 h9
/-- .. and what it holds: null or some reference -/
def vx_Zq (C n d : String) (A : Nat → Prop) (U : State) (H : Heap) : Prop := va_Zq C n d A U H ∧ vx_L C n d A U H
theorem vx_Zq.moved {C n d : String} {A : Nat → Prop} {u U : State} {H : Heap} (hvm : u.vm.Alike U.vm) (h : vx_Zq C n d A u H) : vx_Zq C n d A U H := ⟨va_Zq.moved hvm h.1, vx_L.moved hvm h.2⟩
theorem vx_Zq.kept {C n d : String} {A : Nat → Prop} {U : State} {H H1 : Heap} (h : vx_Zq C n d A U H) (hq : ∀ a : Nat, a < H.size → ¬ A a → H1[a]? = H[a]?) : vx_Zq C n d A U H1 := ⟨va_Zq.kept h.1 hq, vx_L.kept h.2 hq⟩
theorem vx_Zq.narrow {C n d : String} {A B : Nat → Prop} {U : State} {H : Heap} (h : vx_Zq C n d A U H) (hAB : ∀ q, B q → A q) : vx_Zq C n d B U H := ⟨va_Zq.narrow h.1 hAB, vx_L.narrow h.2 hAB⟩
theorem vx_Zqof {args : Array Value} {s : State} {C n d : String} {A : Nat → Prop} (hl : (Cond.laysStatic C n d).before args s = true) (hini : (Cond.initialized C).before args s = true) (h : (Cond.isRef (.static C n d)).before args s = true) (hA : ∀ a : Nat, a < s.heap.size → ¬ A a) : vx_Zq C n d A s s.heap := by
  refine ⟨va_Zqof hl hini h hA, ?_⟩
  obtain ⟨c, k, i, f, a, cell, h1, h2, h3, h4, h5, h6, h7, h8, h9⟩ := Cond.laysStatic_spec hl
  exact ⟨c, k, i, f, a, cell, h1, h2, h3, h4, h5, h6, h7, h8, h9, hA a (Array.getElem?_eq_some_iff.mp h5).1⟩
theorem vx_isRef {C n d : String} {v : Value} {A : Nat → Prop} {s : State} {args : Array Value} (h : va_Z C n d v A s s.heap) (hv : v.isRef = true) : (Cond.isRef (.static C n d)).before args s = true := by
  obtain ⟨cf, kf, fi, f, a, cell, h1, h2, h3, h4, h5, h6, h7, -⟩ := h
  have he : (Term.static C n d).eval args s none [] s = some v := by
    simp [Term.eval, State.fieldNamed?, h1, h2, h4, h5, h6, h7]
  simp only [Cond.before, Cond.holds, Cond.value, he]
  cases v <;> simp_all [Value.isRef]
theorem vx_isRefq {C n d : String} {A : Nat → Prop} {s : State} {args : Array Value} (h : va_Zq C n d A s s.heap) : (Cond.isRef (.static C n d)).before args s = true := by
  rcases h with h | ⟨t, h⟩
  · exact vx_isRef h rfl
  · exact vx_isRef h rfl
/-- the same frame, seen from here: as if the method were called anew in this heap -/
theorem vx_rebase {T : State} (X : Stand p l e R s m args below meth c T locs cells slots) {R' : Room} (hf : R'.frames ≤ R.frames) (hl : R'.locals ≤ R.locals) (hc : cells + R'.cells ≤ R.cells) (hs : slots + R'.slots ≤ R.slots) :
    Stand p l e R' ((T.setVm s.vm).setFrames (.invoking m args :: below)) m args below meth c T [] 0 0 := by
  have htop : (T.setVm s.vm).topJava?.isSome := X.here.top
  have hF : ((T.setVm s.vm).setFrames (.invoking m args :: below)).frames = .invoking m args :: below := State.frames_setFrames _ (State.cur_lt_of_top htop)
  obtain ⟨g₀, hg0⟩ := Option.isSome_iff_exists.mp htop
  obtain ⟨r, hr⟩ := State.topJava?_eq_some.mp hg0
  have hl9 : e.platform.stackLimits (T.setVm s.vm).me = e.platform.stackLimits s.me := X.limits
  have hb9 : (T.setVm s.vm).me.stackBytes = s.me.stackBytes := X.bytes
  refine ⟨X.admits, X.cas, X.clock, hF, ?_, X.hears, X.method, X.code, X.here, X.tail, X.warmed, ?_, ?_, ?_⟩
  · have h := X.room
    have hU : ((T.setVm s.vm).setFrames (.invoking m args :: below)).localsInUse = s.localsInUse := by
      rw [State.localsInUse_invoking hF (meth := meth) (c := c) X.method X.code, State.localsInUse_invoking X.frames X.method X.code]
    simp only [State.hasRoom, Bool.and_eq_true, decide_eq_true_eq] at h ⊢
    obtain ⟨⟨⟨⟨h1, h2, h3, h4, h5, h6⟩, h7⟩, h8⟩, h9⟩ := h
    rw [X.frames, List.length_cons] at h2 h3
    have q1 := X.heapSize
    have q2 := X.used
    simp only [hF, hU, List.length_cons, State.stackLimits_setFrames, State.stackBytes_setFrames, hl9, hb9]
    refine ⟨⟨⟨⟨by omega, by omega, by omega, by omega, by omega, h6⟩, ?_⟩, ?_⟩, X.book⟩
    · show T.heap.size + R'.cells ≤ e.platform.maxCells
      omega
    · show T.slotsUsed + R'.slots ≤ e.platform.maxSlots
      omega
  · rw [State.stackLimits_setFrames]; rfl
  · rw [State.stackBytes_setFrames]; rfl
  · refine ⟨?_, Nat.le_refl _, Nat.le_refl _, ?_, ?_, fun a c9 h9 => ⟨c9, h9, rfl, rfl, fun _ _ => rfl⟩⟩
    · obtain ⟨t, ht, -⟩ := State.frames_cons hr
      show T.setVm s.vm = { ((T.setVm s.vm).setFrames (.invoking m args :: below)).setFrames (T.setVm s.vm).frames with heap := T.heap, slotsUsed := T.slotsUsed }
      rw [State.setFrames_setFrames, State.setFrames_self ht]
      rfl
    · show T.slotsUsed = T.slotsUsed + ((T.heap.toList.drop T.heap.size).map (·.slots.size)).sum
      rw [List.drop_eq_nil_of_le (Nat.le_of_eq Array.length_toList)]
      rfl
    · show ((T.heap.toList.drop T.heap.size).map (·.slots.size)).sum ≤ 0
      rw [List.drop_eq_nil_of_le (Nat.le_of_eq Array.length_toList)]
      exact Nat.le_refl _
/-- 'throw new E()': new; dup; invokespecial; athrow -/
theorem vx_throw0 {cc : ByteArray} {pc : Nat} (hexec : p.tables.exec = Jvm.exec) (hb : c.code = cc) (hl : l.stackTraces = false) {own cls : String} {names : List String} {ik ic mc ms : Nat} {A : Nat → Prop}
    (hown : s.vm.findClass own = some m.cls) (hcls : Bundle.fit cls = true) (hnames : ∀ n ∈ names, Bundle.fit n = true)
    (hk : (Cond.classLink own ik cls).before args s = true) (hini : (Cond.initialized cls).before args s = true) (hat : ∀ w ∈ vx_at0 own ic cls names, w.before args s = true)
    (hgood : ∀ w ∈ Cond.classLink own ik cls :: Cond.initialized cls :: vx_at0 own ic cls names, vx_ot w = true)
    (hU : vx_Zq Bundle.tN "UNASSIGNED_STACK" Bundle.steD A s s.heap) (hN : vx_Zq Bundle.tN "SUPPRESSED_SENTINEL" Bundle.listD A s s.heap) (hS : va_S A s.heap H locs) (hsize : ls.size = c.maxLocals)
    (d0 : decode cc pc = .ok (.new ik, 3)) (d3 : decode cc (pc + 3) = .ok (.dup, 1)) (d4 : decode cc (pc + 4) = .ok (.invokespecial ic, 3)) (d7 : decode cc (pc + 7) = .ok (.athrow, 1))
    (hout : ∀ x ∈ c.exceptionTable.toList, covers x (pc + 7) = false)
    (hRframes : names.length + 3 < R.frames) (hRlocals : (rest.map fun v => v.category).sum + (13 * (names.length + 1) + 42) ≤ R.locals) (hRcells : cells + 1 ≤ R.cells) (hRslots : slots + 6 ≤ R.slots) (hlocks : meth.locks = false)
    (hx : ∀ t : State, s.vm.Alike t.vm → H.size ≤ t.heap.size → (∀ q : Nat, q < H.size → t.heap[q]? = H[q]?) → XC cls s t)
    (hf : ∀ z ∈ locs, free z.base) (hc : cells + 1 ≤ mc) (hs : slots + 6 ≤ ms) :
    W p l e R s m args below meth c H locs cells slots (vx_MQ below Qc XC args s mc ms free) (F0 m pc ls rest) := by
  intro T hT X
  have htr : e.platform.stackTraces = false := (show e.platform.stackTraces = l.stackTraces by rw [X.admits.platform]).trans hl
  have Y := vx_rebase X (R' := { frames := R.frames, locals := R.locals, cells := 1, slots := 6 }) (Nat.le_refl _) (Nat.le_refl _) hRcells hRslots
  obtain ⟨s', hA⟩ : ∃ z, z = (T.setVm s.vm).setFrames (.invoking m args :: below) := ⟨_, rfl⟩
  rw [← hA] at Y
  have hvm : s'.vm = s.vm := by rw [hA]; rfl
  have hhp : s'.heap = H := by rw [hA]; exact hT
  have hW0 : s.WarmedH s'.vm := by rw [hvm]; exact State.WarmedH.refl s
  have hat' : ∀ w ∈ vx_at0 own ic cls names, w.before args s' = true := fun w hw => vx_ot_at hW0 hvm.symm (hgood w (List.mem_cons_of_mem _ (List.mem_cons_of_mem _ hw))) (hat w hw)
  have hk' : (Cond.classLink own ik cls).before args s' = true := vx_ot_at hW0 hvm.symm (hgood _ List.mem_cons_self) hk
  have hini' : (Cond.initialized cls).before args s' = true := vx_ot_at hW0 hvm.symm (hgood _ (List.mem_cons_of_mem _ List.mem_cons_self)) hini
  have hU' : vx_Zq Bundle.tN "UNASSIGNED_STACK" Bundle.steD A s' s'.heap := by rw [hhp]; exact vx_Zq.moved hW0.alike (hU.kept hS.2.1)
  have hN' : vx_Zq Bundle.tN "SUPPRESSED_SENTINEL" Bundle.listD A s' s'.heap := by rw [hhp]; exact vx_Zq.moved hW0.alike (hN.kept hS.2.1)
  have h : ∀ w ∈ Bundle.ownAtoms0 own ic cls names, w.before args s' = true := vx_own hat' (vx_isRefq hU'.1) (vx_isRefq hN'.1) hU'.2.word hN'.2.word
  have hown' : s'.vm.findClass own = some m.cls := by rw [hvm]; exact hown
  have hins : (Cond.instantiable cls 6).before args s' = true := h _ (by simp [Bundle.ownAtoms0])
  obtain ⟨vm₁, cX, kX, hfX, hkX, -, -, X₁, st1⟩ := Y.newCold hexec (own := own) (C := cls) (index := ik) (n := 6) hown' hk' hins hini'
    (g := F0 m pc ls rest) rfl (by rw [hb]; exact d0) (Nat.le_refl _) (Nat.le_refl _)
  generalize hT1 : (T.setVm vm₁).pushCell { cls := cX, slots := kX.instanceTypes.map defaultValue, vm := .none } = T1 at X₁ st1
  have hcat : (Value.ref T.heap.size).category = 1 := rfl
  have hcellA : T1.heap[T.heap.size]? = some (freshCell cX kX) := by rw [← hT1]; exact State.heap_pushCell_size _ _
  have d3' : decode c.code (pc + 3) = .ok (.dup, 1) := by rw [hb]; exact d3
  obtain ⟨U, hsteps, hrun, hend, hW, hsame, ce, hce, hO⟩ := X₁.ctorThrow0 hexec htr (own := own) (cls := cls) (names := names) (ic := ic) hown' hcls hnames h (fun x hx => nomatch hx) hfX hkX hcellA (by rw [hhp, hT]; exact Nat.le_refl _)
    (g := { method := m, pc := pc + 4, locals := ls, stack := .ref T.heap.size :: .ref T.heap.size :: rest, locked := none }) rfl hsize rfl rfl (rest := rest) rfl
    (by rw [hb]; exact d4) (by rw [hb]; exact d7) hout hRframes (by simp only [List.map_cons, List.sum_cons, hcat]; omega) hlocks
  obtain ⟨f1, f2⟩ := vx_frame hsame
  rw [hhp] at f1 f2
  have hWs : s.WarmedH U.vm := State.WarmedH.trans hW0 hW
  have hcl : s.vm.findClass cls = some ce.cls := by
    have h9 := hO.cls
    rw [hvm] at h9
    exact h9
  have hall : s.sameButNew ({ U with vm := s.vm } : State) locs mc ms := by
    subst hA
    obtain ⟨e1, e2⟩ := hsame
    rw [State.setFrames_setFrames] at e1
    have h2 : (T.setVm s.vm).sameButNew ({ U with vm := s.vm } : State) [] (0 + 1) (0 + 6) := ⟨e1, e2⟩
    have h3 := X.same.trans h2
    rw [List.append_nil] at h3
    exact h3.mono hc hs
  refine ⟨U, ?_, .threw T.heap.size, hrun, hend, Or.inr ⟨T.heap.size, rfl, cls, ce, locs, hx U hWs.alike f1 (fun q hq => f2 q hq (fun z hz => nomatch hz)), hce, hO.vm, hcl, hWs, hall, hf⟩⟩
  refine st1 _ ?_
  show Steps p.tables e below (T1.setTop { method := m, pc := pc + 3, locals := ls, stack := .ref T.heap.size :: rest, locked := none }) _
  jvm_step X₁.here [X₁.here.top, hexec, d3', Value.category]
  exact hsteps
/-- 'throw new E("text")': new; dup; ldc; invokespecial; athrow -/
theorem vx_throwS {cc : ByteArray} {pc : Nat} (hexec : p.tables.exec = Jvm.exec) (hb : c.code = cc) (hl : l.stackTraces = false) {own cls text : String} {names : List String} {ik is ic mc ms sa : Nat} {A : Nat → Prop}
    (hown : s.vm.findClass own = some m.cls) (hcls : Bundle.fit cls = true) (hnames : ∀ n ∈ names, Bundle.fit n = true)
    (hk : (Cond.classLink own ik cls).before args s = true) (hini : (Cond.initialized cls).before args s = true) (hstr : vk_R own is text sa s) (hat : ∀ w ∈ vx_atS own ic cls names, w.before args s = true)
    (hgood : ∀ w ∈ Cond.classLink own ik cls :: Cond.initialized cls :: vx_atS own ic cls names, vx_ot w = true)
    (hU : vx_Zq Bundle.tN "UNASSIGNED_STACK" Bundle.steD A s s.heap) (hN : vx_Zq Bundle.tN "SUPPRESSED_SENTINEL" Bundle.listD A s s.heap) (hS : va_S A s.heap H locs) (hsize : ls.size = c.maxLocals)
    (d0 : decode cc pc = .ok (.new ik, 3)) (d3 : decode cc (pc + 3) = .ok (.dup, 1)) (d4 : decode cc (pc + 4) = .ok (.ldc is, 2)) (d6 : decode cc (pc + 6) = .ok (.invokespecial ic, 3)) (d9 : decode cc (pc + 9) = .ok (.athrow, 1))
    (hout : ∀ x ∈ c.exceptionTable.toList, covers x (pc + 9) = false)
    (hRframes : names.length + 3 < R.frames) (hRlocals : (rest.map fun v => v.category).sum + (13 * (names.length + 1) + 43) ≤ R.locals) (hRcells : cells + 1 ≤ R.cells) (hRslots : slots + 6 ≤ R.slots) (hlocks : meth.locks = false)
    (hx : ∀ t : State, s.vm.Alike t.vm → H.size ≤ t.heap.size → (∀ q : Nat, q < H.size → t.heap[q]? = H[q]?) → XC cls s t)
    (hf : ∀ z ∈ locs, free z.base) (hc : cells + 1 ≤ mc) (hs : slots + 6 ≤ ms) :
    W p l e R s m args below meth c H locs cells slots (vx_MQ below Qc XC args s mc ms free) (F0 m pc ls rest) := by
  intro T hT X
  have htr : e.platform.stackTraces = false := (show e.platform.stackTraces = l.stackTraces by rw [X.admits.platform]).trans hl
  have Y := vx_rebase X (R' := { frames := R.frames, locals := R.locals, cells := 1, slots := 6 }) (Nat.le_refl _) (Nat.le_refl _) hRcells hRslots
  obtain ⟨s', hA⟩ : ∃ z, z = (T.setVm s.vm).setFrames (.invoking m args :: below) := ⟨_, rfl⟩
  rw [← hA] at Y
  have hvm : s'.vm = s.vm := by rw [hA]; rfl
  have hhp : s'.heap = H := by rw [hA]; exact hT
  have hW0 : s.WarmedH s'.vm := by rw [hvm]; exact State.WarmedH.refl s
  have hat' : ∀ w ∈ vx_atS own ic cls names, w.before args s' = true := fun w hw => vx_ot_at hW0 hvm.symm (hgood w (List.mem_cons_of_mem _ (List.mem_cons_of_mem _ hw))) (hat w hw)
  have hk' : (Cond.classLink own ik cls).before args s' = true := vx_ot_at hW0 hvm.symm (hgood _ List.mem_cons_self) hk
  have hini' : (Cond.initialized cls).before args s' = true := vx_ot_at hW0 hvm.symm (hgood _ (List.mem_cons_of_mem _ List.mem_cons_self)) hini
  have hU' : vx_Zq Bundle.tN "UNASSIGNED_STACK" Bundle.steD A s' s'.heap := by rw [hhp]; exact vx_Zq.moved hW0.alike (hU.kept hS.2.1)
  have hN' : vx_Zq Bundle.tN "SUPPRESSED_SENTINEL" Bundle.listD A s' s'.heap := by rw [hhp]; exact vx_Zq.moved hW0.alike (hN.kept hS.2.1)
  have h : ∀ w ∈ Bundle.ownAtoms own ic cls names, w.before args s' = true := vx_own hat' (vx_isRefq hU'.1) (vx_isRefq hN'.1) hU'.2.word hN'.2.word
  have hown' : s'.vm.findClass own = some m.cls := by rw [hvm]; exact hown
  have hins : (Cond.instantiable cls 6).before args s' = true := h _ (by simp [Bundle.ownAtoms])
  obtain ⟨vm₁, cX, kX, hfX, hkX, -, -, X₁, st1⟩ := Y.newCold hexec (own := own) (C := cls) (index := ik) (n := 6) hown' hk' hins hini'
    (g := F0 m pc ls rest) rfl (by rw [hb]; exact d0) (Nat.le_refl _) (Nat.le_refl _)
  generalize hT1 : (T.setVm vm₁).pushCell { cls := cX, slots := kX.instanceTypes.map defaultValue, vm := .none } = T1 at X₁ st1
  have hcat : (Value.ref T.heap.size).category = 1 := rfl
  have hcellA : T1.heap[T.heap.size]? = some (freshCell cX kX) := by rw [← hT1]; exact State.heap_pushCell_size _ _
  have d3' : decode c.code (pc + 3) = .ok (.dup, 1) := by rw [hb]; exact d3
  have d4' : decode c.code (pc + 4) = .ok (.ldc is, 2) := by rw [hb]; exact d4
  have hstr' : vk_R own is text sa s' := vk_R.warm hW0 hstr
  obtain ⟨U, hsteps, hrun, hend, hW, hsame, ce, hce, hO⟩ := X₁.ctorThrowS hexec htr (own := own) (cls := cls) (names := names) (ic := ic) hown' hcls hnames h (fun x hx => nomatch hx) hfX hkX hcellA (by rw [hhp, hT]; exact Nat.le_refl _) (msg := .ref sa) rfl
    (g := { method := m, pc := pc + 6, locals := ls, stack := .ref sa :: .ref T.heap.size :: .ref T.heap.size :: rest, locked := none }) rfl hsize rfl rfl (rest := rest) rfl
    (by rw [hb]; exact d6) (by rw [hb]; exact d9) hout hRframes (by simp only [List.map_cons, List.sum_cons, hcat]; omega) hlocks
  obtain ⟨f1, f2⟩ := vx_frame hsame
  rw [hhp] at f1 f2
  have hWs : s.WarmedH U.vm := State.WarmedH.trans hW0 hW
  have hcl : s.vm.findClass cls = some ce.cls := by
    have h9 := hO.cls
    rw [hvm] at h9
    exact h9
  have hall : s.sameButNew ({ U with vm := s.vm } : State) locs mc ms := by
    subst hA
    obtain ⟨e1, e2⟩ := hsame
    rw [State.setFrames_setFrames] at e1
    have h2 : (T.setVm s.vm).sameButNew ({ U with vm := s.vm } : State) [] (0 + 1) (0 + 6) := ⟨e1, e2⟩
    have h3 := X.same.trans h2
    rw [List.append_nil] at h3
    exact h3.mono hc hs
  refine ⟨U, ?_, .threw T.heap.size, hrun, hend, Or.inr ⟨T.heap.size, rfl, cls, ce, locs, hx U hWs.alike f1 (fun q hq => f2 q hq (fun z hz => nomatch hz)), hce, hO.vm, hcl, hWs, hall, hf⟩⟩
  refine st1 _ ?_
  show Steps p.tables e below (T1.setTop { method := m, pc := pc + 3, locals := ls, stack := .ref T.heap.size :: rest, locked := none }) _
  jvm_step X₁.here [X₁.here.top, hexec, d3', Value.category]
  exact X₁.ldcString hexec (own := own) (text := text) (index := is) (a := sa) hown' hstr'.1 hstr'.2
    (g := { method := m, pc := pc + 4, locals := ls, stack := .ref T.heap.size :: .ref T.heap.size :: rest, locked := none }) rfl d4' _ hsteps
/-- 'throw new E("text")', the text by a wide index -/
theorem vx_throwSW {cc : ByteArray} {pc : Nat} (hexec : p.tables.exec = Jvm.exec) (hb : c.code = cc) (hl : l.stackTraces = false) {own cls text : String} {names : List String} {ik is ic mc ms sa : Nat} {A : Nat → Prop}
    (hown : s.vm.findClass own = some m.cls) (hcls : Bundle.fit cls = true) (hnames : ∀ n ∈ names, Bundle.fit n = true)
    (hk : (Cond.classLink own ik cls).before args s = true) (hini : (Cond.initialized cls).before args s = true) (hstr : vk_R own is text sa s) (hat : ∀ w ∈ vx_atS own ic cls names, w.before args s = true)
    (hgood : ∀ w ∈ Cond.classLink own ik cls :: Cond.initialized cls :: vx_atS own ic cls names, vx_ot w = true)
    (hU : vx_Zq Bundle.tN "UNASSIGNED_STACK" Bundle.steD A s s.heap) (hN : vx_Zq Bundle.tN "SUPPRESSED_SENTINEL" Bundle.listD A s s.heap) (hS : va_S A s.heap H locs) (hsize : ls.size = c.maxLocals)
    (d0 : decode cc pc = .ok (.new ik, 3)) (d3 : decode cc (pc + 3) = .ok (.dup, 1)) (d4 : decode cc (pc + 4) = .ok (.ldc_w is, 3)) (d7 : decode cc (pc + 7) = .ok (.invokespecial ic, 3)) (d10 : decode cc (pc + 10) = .ok (.athrow, 1))
    (hout : ∀ x ∈ c.exceptionTable.toList, covers x (pc + 10) = false)
    (hRframes : names.length + 3 < R.frames) (hRlocals : (rest.map fun v => v.category).sum + (13 * (names.length + 1) + 43) ≤ R.locals) (hRcells : cells + 1 ≤ R.cells) (hRslots : slots + 6 ≤ R.slots) (hlocks : meth.locks = false)
    (hx : ∀ t : State, s.vm.Alike t.vm → H.size ≤ t.heap.size → (∀ q : Nat, q < H.size → t.heap[q]? = H[q]?) → XC cls s t)
    (hf : ∀ z ∈ locs, free z.base) (hc : cells + 1 ≤ mc) (hs : slots + 6 ≤ ms) :
    W p l e R s m args below meth c H locs cells slots (vx_MQ below Qc XC args s mc ms free) (F0 m pc ls rest) := by
  intro T hT X
  have htr : e.platform.stackTraces = false := (show e.platform.stackTraces = l.stackTraces by rw [X.admits.platform]).trans hl
  have Y := vx_rebase X (R' := { frames := R.frames, locals := R.locals, cells := 1, slots := 6 }) (Nat.le_refl _) (Nat.le_refl _) hRcells hRslots
  obtain ⟨s', hA⟩ : ∃ z, z = (T.setVm s.vm).setFrames (.invoking m args :: below) := ⟨_, rfl⟩
  rw [← hA] at Y
  have hvm : s'.vm = s.vm := by rw [hA]; rfl
  have hhp : s'.heap = H := by rw [hA]; exact hT
  have hW0 : s.WarmedH s'.vm := by rw [hvm]; exact State.WarmedH.refl s
  have hat' : ∀ w ∈ vx_atS own ic cls names, w.before args s' = true := fun w hw => vx_ot_at hW0 hvm.symm (hgood w (List.mem_cons_of_mem _ (List.mem_cons_of_mem _ hw))) (hat w hw)
  have hk' : (Cond.classLink own ik cls).before args s' = true := vx_ot_at hW0 hvm.symm (hgood _ List.mem_cons_self) hk
  have hini' : (Cond.initialized cls).before args s' = true := vx_ot_at hW0 hvm.symm (hgood _ (List.mem_cons_of_mem _ List.mem_cons_self)) hini
  have hU' : vx_Zq Bundle.tN "UNASSIGNED_STACK" Bundle.steD A s' s'.heap := by rw [hhp]; exact vx_Zq.moved hW0.alike (hU.kept hS.2.1)
  have hN' : vx_Zq Bundle.tN "SUPPRESSED_SENTINEL" Bundle.listD A s' s'.heap := by rw [hhp]; exact vx_Zq.moved hW0.alike (hN.kept hS.2.1)
  have h : ∀ w ∈ Bundle.ownAtoms own ic cls names, w.before args s' = true := vx_own hat' (vx_isRefq hU'.1) (vx_isRefq hN'.1) hU'.2.word hN'.2.word
  have hown' : s'.vm.findClass own = some m.cls := by rw [hvm]; exact hown
  have hins : (Cond.instantiable cls 6).before args s' = true := h _ (by simp [Bundle.ownAtoms])
  obtain ⟨vm₁, cX, kX, hfX, hkX, -, -, X₁, st1⟩ := Y.newCold hexec (own := own) (C := cls) (index := ik) (n := 6) hown' hk' hins hini'
    (g := F0 m pc ls rest) rfl (by rw [hb]; exact d0) (Nat.le_refl _) (Nat.le_refl _)
  generalize hT1 : (T.setVm vm₁).pushCell { cls := cX, slots := kX.instanceTypes.map defaultValue, vm := .none } = T1 at X₁ st1
  have hcat : (Value.ref T.heap.size).category = 1 := rfl
  have hcellA : T1.heap[T.heap.size]? = some (freshCell cX kX) := by rw [← hT1]; exact State.heap_pushCell_size _ _
  have d3' : decode c.code (pc + 3) = .ok (.dup, 1) := by rw [hb]; exact d3
  have d4' : decode c.code (pc + 4) = .ok (.ldc_w is, 3) := by rw [hb]; exact d4
  have hstr' : vk_R own is text sa s' := vk_R.warm hW0 hstr
  obtain ⟨U, hsteps, hrun, hend, hW, hsame, ce, hce, hO⟩ := X₁.ctorThrowS hexec htr (own := own) (cls := cls) (names := names) (ic := ic) hown' hcls hnames h (fun x hx => nomatch hx) hfX hkX hcellA (by rw [hhp, hT]; exact Nat.le_refl _) (msg := .ref sa) rfl
    (g := { method := m, pc := pc + 7, locals := ls, stack := .ref sa :: .ref T.heap.size :: .ref T.heap.size :: rest, locked := none }) rfl hsize rfl rfl (rest := rest) rfl
    (by rw [hb]; exact d7) (by rw [hb]; exact d10) hout hRframes (by simp only [List.map_cons, List.sum_cons, hcat]; omega) hlocks
  obtain ⟨f1, f2⟩ := vx_frame hsame
  rw [hhp] at f1 f2
  have hWs : s.WarmedH U.vm := State.WarmedH.trans hW0 hW
  have hcl : s.vm.findClass cls = some ce.cls := by
    have h9 := hO.cls
    rw [hvm] at h9
    exact h9
  have hall : s.sameButNew ({ U with vm := s.vm } : State) locs mc ms := by
    subst hA
    obtain ⟨e1, e2⟩ := hsame
    rw [State.setFrames_setFrames] at e1
    have h2 : (T.setVm s.vm).sameButNew ({ U with vm := s.vm } : State) [] (0 + 1) (0 + 6) := ⟨e1, e2⟩
    have h3 := X.same.trans h2
    rw [List.append_nil] at h3
    exact h3.mono hc hs
  refine ⟨U, ?_, .threw T.heap.size, hrun, hend, Or.inr ⟨T.heap.size, rfl, cls, ce, locs, hx U hWs.alike f1 (fun q hq => f2 q hq (fun z hz => nomatch hz)), hce, hO.vm, hcl, hWs, hall, hf⟩⟩
  refine st1 _ ?_
  show Steps p.tables e below (T1.setTop { method := m, pc := pc + 3, locals := ls, stack := .ref T.heap.size :: rest, locked := none }) _
  jvm_step X₁.here [X₁.here.top, hexec, d3', Value.category]
  exact X₁.ldcStringW hexec (own := own) (text := text) (index := is) (a := sa) hown' hstr'.1 hstr'.2
    (g := { method := m, pc := pc + 4, locals := ls, stack := .ref T.heap.size :: .ref T.heap.size :: rest, locked := none }) rfl d4' _ hsteps
end Ends
section Bodies
variable {l : Launch}
theorem vx_ofW {y : MethodName} {ws ws' : List Cond} {rm : Room} {Pc : Array Value → State → Prop} {Qc : Array Value → State → Outcome → State → Prop} {XC : String → State → State → Prop} {mc ms : Nat} {free : Addr → Prop} {cc : ByteArray} {maxL : Nat} {ret : Option FieldType}
    (hy : plainName y.cls = true) (hw : ws = Cond.code y cc maxL ret :: ws')
    (body : ∀ p e s m args below meth c s₁, BodyLoose p l y (headSpec ws rm) cc maxL ret e s m args below meth c s₁ → c.maxLocals = maxL → (∀ x ∈ c.exceptionTable.toList, False) → Pc args s →
      W p l e (headSpec ws rm).room s m args below meth c s.heap [] 0 0 (vx_MQ below Qc XC args s mc ms free) (entryFrame m args maxL)) : vx_Met l y ws rm Pc Qc XC mc ms free := by
  refine MetFree.of_bodyS (code := cc) (maxLocals := maxL) (ret := ret) hy ?_ ?_
  · intro args s m h hn
    obtain ⟨meth, c, h1, h2, h3, h4, h5, h6, -, -⟩ := Cond.code_spec hn (atoms_spec (ws := ws) h _ (by rw [hw]; exact List.mem_cons_self))
    exact ⟨meth, c, h1, h2, h3, h4, h5, h6⟩
  · intro p e s m args below meth c s₁ B hml hP _
    have hh0 : s₁.heap = s.heap := by rw [B.state]; rfl
    have ht : ∀ x ∈ c.exceptionTable.toList, False := by
      obtain ⟨meth9, c9, h1, h2, -, -, -, -, h7, -⟩ := Cond.code_spec B.named (atoms_spec (ws := ws) B.pre _ (by rw [hw]; exact List.mem_cons_self))
      cases Option.some.inj (h1.symm.trans B.method)
      cases Option.some.inj (h2.symm.trans (Stand.of_body B).code)
      intro x hx
      rw [Array.isEmpty_iff.mp h7] at hx
      cases hx
    obtain ⟨t, a1, o, b1, b2, b3⟩ := body p e s m args below meth c s₁ B hml ht hP s₁ hh0 (Stand.of_body B)
    exact ⟨t, o, a1, b1, b2, b3⟩
/-- the table of a body with handlers -/
theorem vx_table {p : Program} {x y : MethodName} {S : Spec} {cc bytes : ByteArray} {maxL maxL' : Nat} {ret ret' : Option FieldType} {e : Env} {s s₁ : State} {m : MethodId} {args : Array Value} {below : List Frame} {meth : Method} {c : Code} {hh : List (Nat × Nat × Nat × Nat)}
    (B : BodyLoose p l y S cc maxL ret e s m args below meth c s₁) (h : (Cond.codeWith y bytes maxL' ret' hh).before args s = true) : c.exceptionTable.toList = tableOf hh := by
  obtain ⟨m9, meth9, c9, hn9, h1, h2, -, -, h6, -⟩ := Cond.codeWith_spec h
  cases Option.some.inj (hn9.symm.trans B.named)
  cases Option.some.inj (h1.symm.trans B.method)
  cases Option.some.inj (h2.symm.trans (Stand.of_body B).code)
  rw [← h6, table_eq]
end Bodies
end VXA
/-! ===== END ===== -/
/-! ===== BEGIN a static call of a method with an exception table ===== -/
section VXS
variable {p : Program} {l : Launch} {e : Env} {R : Room} {s : State} {m : MethodId} {args : Array Value} {below : List Frame} {meth : Method} {c : Code} {T : State} {H : Heap} {locs : List Loc} {cells slots : Nat}
abbrev vx_CSW (R : Room) (s : State) (args : Array Value) (own : String) (index : Nat) (y : MethodName) (bytes : ByteArray) (maxL : Nat) (ret : Option FieldType) (hh : List (Nat × Nat × Nat × Nat)) (ws : List Cond) (rm : Room) (mc ms n : Nat) : Prop :=
  (rm.cells = mc ∧ rm.slots = ms ∧ rm.frames + 1 ≤ R.frames ∧ 8 + (maxL + 11) + rm.locals ≤ R.locals ∧ (∀ w ∈ ws, ∀ (a' : Array Value) (U : State), s.WarmedH U.vm → w.before a' U = true) ∧ Cond.codeWith y bytes maxL ret hh ∈ ws) ∧
  (Cond.codeWith y bytes maxL ret hh).before args s = true ∧ (Cond.initialized y.cls).before args s = true ∧ (y.cls ≠ "java/lang/invoke/MethodHandle" ∧ y.cls ≠ "java/lang/invoke/VarHandle") ∧
  (∀ sig, parseMethodDescriptor y.desc = some sig → n = sig.parameters.length) ∧ (Cond.methodLink own index y).before args s = true ∧ (Cond.static y).before args s = true
theorem vx_cwSW {own : String} {index maxL mc ms : Nat} {y : MethodName} {bytes : ByteArray} {ret : Option FieldType} {hh : List (Nat × Nat × Nat × Nat)} {Ts ws ws' : List Cond} {rm : Room} (n : Nat) (ht : ∀ w ∈ Ts, w.before args s = true) (hT : GoodIn Ts (va_wsS own index y ws)) (hw : ws = Cond.codeWith y bytes maxL ret hh :: ws') (hrc : rm.cells = mc) (hrs : rm.slots = ms)
    (hd : y.cls ≠ "java/lang/invoke/MethodHandle" ∧ y.cls ≠ "java/lang/invoke/VarHandle" ∧ (parseMethodDescriptor y.desc).map (fun d => d.parameters.length) = some n) (hR : rm.frames + 1 ≤ R.frames ∧ 8 + (maxL + 11) + rm.locals ≤ R.locals) :
    vx_CSW R s args own index y bytes maxL ret hh ws rm mc ms n := by
  have ok : ∀ w ∈ va_wsS own index y ws, w.before args s = true := fun w h => ht w (hT w h).1
  have hG : GoodIn Ts ws := fun w h => hT w (by unfold va_wsS; exact List.mem_append_right _ h)
  have hc : Cond.codeWith y bytes maxL ret hh ∈ ws := by rw [hw]; exact List.mem_cons_self
  refine ⟨⟨hrc, hrs, hR.1, hR.2, pay_in ht hG, hc⟩, ht _ (hG _ hc).1, ok _ (by simp [va_wsS]), ⟨hd.1, hd.2.1⟩, fun sig h => ?_, ok _ (by simp [va_wsS]), ok _ (by simp [va_wsS])⟩
  have h2 := hd.2.2
  rw [h] at h2
  exact (Option.some.inj h2).symm
theorem vx_callSW (X : Stand p l e R s m args below meth c T locs cells slots) (hexec : p.tables.exec = Jvm.exec) {own : String} {index : Nat} {y : MethodName} {bytes : ByteArray} {maxL : Nat} {ret : Option FieldType} {hh : List (Nat × Nat × Nat × Nat)}
    (hown : s.vm.findClass own = some m.cls) (hlink : (Cond.methodLink own index y).before args s = true) (hstat : (Cond.static y).before args s = true) (hinit : (Cond.initialized y.cls).before args s = true)
    (hcode : (Cond.codeWith y bytes maxL ret hh).before args s = true) (hy : y.cls ≠ "java/lang/invoke/MethodHandle" ∧ y.cls ≠ "java/lang/invoke/VarHandle")
    {W9 : Nat} {Pre : Pt → Array Value → Prop} {Post : Pt → Array Value → Option Value → Pt → Prop} (hK : Back l R p e below s args y 3 W9 Pre Post)
    {g : JFrame} (hg : g.method = m) (hsize : g.locals.size = c.maxLocals) {argsL rest : List Value} (hlen : ∀ sig, parseMethodDescriptor y.desc = some sig → argsL.length = sig.parameters.length)
    (hstack : g.stack = argsL.reverse ++ rest) (hW : 2 * g.monitorRoom + (rest.map fun v => v.category).sum ≤ W9) (hdg : decode c.code g.pc = .ok (.invokestatic index, 3))
    (hpre : ∀ vm₁, s.WarmedH vm₁ → Pre ⟨T.setVm vm₁, locs, cells, slots⟩ argsL.toArray) :
    ∃ (v : Option Value) (vm₁ : Vm) (B : Pt), s.WarmedH vm₁ ∧ Stand p l e R s m args below meth c B.U B.locs B.cells B.slots ∧ Post ⟨T.setVm vm₁, locs, cells, slots⟩ argsL.toArray v B ∧
      ∀ target, Steps p.tables e below (B.U.setTop { g with pc := g.pc + 3, stack := v.toList ++ rest }) target → Steps p.tables e below (T.setTop g) target := by
  obtain ⟨mk, methM, cM, hnamed, hmethM, -, -, -, -, -, -, hsigM⟩ := Cond.codeWith_spec hcode
  have hstatic : methM.isStatic = true := Cond.static_spec hnamed hmethM hstat
  obtain ⟨kP, hkP, -⟩ := className_of_methodNamed hnamed
  have hinitP : kP.init = .initialized := Cond.initialized_spec (findClass_of_methodNamed hnamed) hkP hinit
  obtain ⟨vm₁, X₁, hstep₁⟩ := X.invokestatic hexec hown hlink hnamed hmethM hstatic hkP hinitP hy (g := g) hg (argsL := argsL) (rest := rest) (hlen _ hsigM) hstack hdg
  obtain ⟨v, B, X', hpost, hsteps⟩ := hK m meth c ⟨T.setVm vm₁, locs, cells, slots⟩ { g with stack := rest } (.invokestatic index) mk argsL.toArray X₁ hg hsize hdg hW (X₁.named hnamed) (hpre vm₁ X₁.warmed)
  exact ⟨v, vm₁, B, X₁.warmed, X', hpost, fun target h => hstep₁ _ fun acts => by rw [doInvoke_state]; exact hsteps.trans h⟩
theorem vx_runSW {y : MethodName} {bytes cc : ByteArray} {maxL nL mc ms n index : Nat} {ret : Option FieldType} {hh : List (Nat × Nat × Nat × Nat)} {ws : List Cond} {rm : Room} {Pc : Array Value → State → Prop} {Qc : Array Value → State → Outcome → State → Prop} {free : Addr → Prop} {Ts : List Cond} {own : String} {As rest : List Value} {g : JFrame}
    (S : CallFix p m c cc nL s args Ts own) (hM : Met l y ws rm Pc Qc mc ms free) (cw : vx_CSW R s args own index y bytes maxL ret hh ws rm mc ms n) (hp : PreS s H Pc As)
    (hg : g.method = m) (hn : As.length = n) (hsize : g.locals.size = nL) (hstack : g.stack = As.reverse ++ rest) (hW : 2 * g.monitorRoom + (rest.map fun v => v.category).sum ≤ 8) (hdg : decode cc g.pc = .ok (.invokestatic index, 3)) (hf : cells + mc ≤ R.cells ∧ slots + ms ≤ R.slots) :
    va_Run p l e R s m args below meth c H locs cells slots mc ms g rest (Qc As.toArray) (free) := by
  obtain ⟨⟨hrc, hrs, hfr, hlo, hws, hcw⟩, hcode, hini, hy, hlen, hl, hstt⟩ := cw
  have hK : Back l R p e below s args y 3 8 (PreOf R mc ms Pc) (PostOf Qc mc ms free) := va_backW (hh := hh) (bytes := bytes) (maxL := maxL) (ret := ret) hM hp.1 hrc hrs hfr hlo hws hcw (fun a' U hW => word_at hW (Or.inl (by first | rfl | simp [Cond.onTables, Cond.keeps, Cond.steady])) hini)
  obtain ⟨hx, hb, hml, ho, -⟩ := S
  intro T hT X
  obtain ⟨v, vm₁, ⟨U', l2, c2, s2⟩, hW₁, X', ⟨g', mk, t, L, e1, e2, hq, h1, hL, h2, h3⟩, st⟩ := vx_callSW X hx (hh := hh) (bytes := bytes) (maxL := maxL) (ret := ret) ho hl hstt hini hcode hy hK hg (hsize.trans hml.symm) (argsL := As) (rest := rest) (fun sig h => hn.trans (hlen sig h)) hstack hW (by rw [hb]; exact hdg)
    (fun vm₁ hW₁ => ⟨hf.1, hf.2, hp.2 (T.setVm vm₁) hT hW₁⟩)
  dsimp only [Pt.U, Pt.locs, Pt.cells, Pt.slots] at X' e1 e2 h1 h2 h3 st
  subst h1; subst h2; subst h3
  exact ⟨v, (T.setVm vm₁).calling g' mk As.toArray, t, U', L, hT, X', hL, e1, e2, hq, st⟩
/-- not caught here, past rows that name other classes: it goes on to the caller -/
theorem vx_outP {p : Program} {l : Launch} {e : Env} {R : Room} {s : State} {m : MethodId} {args : Array Value} {below : List Frame} {meth : Method} {c : Code} {H : Heap} {locs : List Loc} {cells slots : Nat} {free : Addr → Prop} {ls : Array Slot} {rest : List Value} {Qc : Array Value → State → Outcome → State → Prop} {XC : String → State → State → Prop}
    {pc : Nat} {own E : String} {ce : Cell} {q : Addr} {mc ms : Nat} (hown : s.vm.findClass own = some m.cls) (hlocks : meth.locks = false)
    (hpass : ∀ z ∈ c.exceptionTable.toList, covers z pc = false ∨ (z.catchType ≠ 0 ∧ ∃ nm : String, (Cond.classLink own z.catchType nm).before args s = true ∧ va_Nc E nm s)) (hcell : H[q]? = some ce) (hv : ce.vm = .none) (hcl : s.vm.findClass E = some ce.cls)
    (hx : ∀ t : State, t.heap = H → s.vm.Alike t.vm → XC E s t) (hf : ∀ z ∈ locs, free z.base) (hc : cells ≤ mc) (hs : slots ≤ ms) :
    vx_W p l e R s m args below meth c H locs cells slots (vx_MQ below Qc XC args s mc ms free) (F0 m pc ls rest) q := by
  intro T hT X
  have hpl : e.platform.magicAccessors = ({} : Platform).magicAccessors := by rw [X.admits.platform]
  obtain ⟨vm', hW', X', st⟩ := X.outThrough hlocks q (g := F0 m pc ls rest) rfl rfl rfl (cell := ce) (by rw [hT]; exact hcell) (by rw [hv]; rfl)
    (by obtain ⟨k9, h9, -⟩ := Vm.findClass_spec hcl; exact ⟨k9, h9⟩) (fun z hz => by
      rcases hpass z hz with h | ⟨hz0, nm, hl1, hn1⟩
      · exact Or.inl h
      · obtain ⟨c6, hc6, hcl6⟩ := Cond.classLink_spec hown hl1 e.platform hpl
        obtain ⟨a8, b8, h1, h2, h3⟩ := hn1
        cases Option.some.inj (h1.symm.trans hcl)
        cases Option.some.inj (h2.symm.trans hc6)
        exact Or.inr ⟨hz0, _, hcl6, h3⟩)
  obtain ⟨g₀, hfr⟩ := X'.frames_eq
  have hcell9 : ((T.setVm vm').setFrames (.throwing q :: below)).heap[q]? = some ce := by
    show T.heap[q]? = some ce
    rw [hT]; exact hcell
  have hend : Ended ((T.setVm vm').setFrames (.throwing q :: below)) below (.threw q) := State.frames_setFrames _ (State.cur_lt_of_frames hfr)
  refine ⟨(T.setVm vm').setFrames (.throwing q :: below), ?_, .threw q, X'.here.running, hend, Or.inr ⟨q, rfl, E, ce, locs, hx _ hT (X'.ends _).1.alike, hcell9, hv, hcl, (X'.ends _).1, (X'.ends _).2.mono hc hs, hf⟩⟩
  rw [X.pushThrowing_eq]
  exact st
/-- a thing of a world lies in the heap -/
theorem vx_lt {D : va_G} {cl : List vw_C} {ws : va_W} {H1 : Heap} (h : va_P D cl ws H1) {k : Nat} {q : Nat × va_E} (hk : ws[k]? = some q) : q.1 < H1.size := (h k q hk).lt
end VXS
/-! ===== END ===== -/
/-! ===== BEGIN methods with a table of their own: called by a name, returning or throwing ===== -/
section VXH
/-! vx_backW, vx_callVX, vx_callSX, vx_callVW, vx_runVW, vx_runVX, vx_runSX, vx_ofWH follow the same proofs as their sisters above (Free/Laws.lean, Shelf42/LK1.lean); vx_outP calls Shelf42/NT130.lean (outThrough). -/
section
variable {l : Launch} {R : Room} {p : Program} {e : Env} {below : List Frame} {s : State} {sargs : Array Value} {y : MethodName} {len W9 : Nat}
theorem vx_backW {ws : List Cond} {rm : Room} {Pc : Array Value → State → Prop} {Qc : Array Value → State → Outcome → State → Prop} {XC : String → State → State → Prop} {mc ms : Nat} {free : Addr → Prop} {bytes : ByteArray} {maxL : Nat} {ret : Option FieldType} {hh : List (Nat × Nat × Nat × Nat)}
    (hM : vx_Met l y ws rm Pc Qc XC mc ms free) (hblind : FrameBlind Pc) (hrc : rm.cells = mc) (hrs : rm.slots = ms)
    (hframes : rm.frames + 1 ≤ R.frames) (hlocals : W9 + (maxL + 11) + rm.locals ≤ R.locals)
    (hws : ∀ w ∈ ws, ∀ a' U, s.WarmedH U.vm → w.before a' U = true) (hcode : Cond.codeWith y bytes maxL ret hh ∈ ws) (hinit : ∀ a' U, s.WarmedH U.vm → (Cond.initialized y.cls).before a' U = true) :
    vx_Back l R p e below s sargs y len W9 (PreOf R mc ms Pc) (PostOf Qc mc ms free) (vx_Post XC mc ms free) := by
  intro m meth c A g ig mk a X hg hsize hdg hW hn hp
  have h1 : (headSpec ws rm).pre.before a A.U = true := atoms_intro fun w hw => hws w hw _ _ X.warmed
  have h2 : (Cond.codeWith y bytes maxL ret hh).before a A.U = true := hws _ hcode _ _ X.warmed
  have h3 : (Cond.initialized y.cls).before a A.U = true := hinit _ _ X.warmed
  have h4 : A.cells + (headSpec ws rm).room.cells ≤ R.cells := by rw [show (headSpec ws rm).room.cells = mc from hrc]; exact hp.1
  have h5 : A.slots + (headSpec ws rm).room.slots ≤ R.slots := by rw [show (headSpec ws rm).room.slots = ms from hrs]; exact hp.2.1
  have hPc : Pc a (A.U.calling g mk a) := hblind _ _ _ _ hp.2.2
  obtain ⟨U, Ls, c0, s0⟩ := A
  dsimp only [Pt.U, Pt.locs, Pt.cells, Pt.slots] at h1 h2 h3 h4 h5 X hn hPc ⊢
  obtain ⟨m9, methY, cY, hn9, hmY, hcY, -, hlY, -⟩ := Cond.codeWith_spec h2
  cases Option.some.inj (hn9.symm.trans hn)
  obtain ⟨kY, hkY, -⟩ := className_of_methodNamed hn
  have hinitY : kY.init = .initialized := Cond.initialized_spec (findClass_of_methodNamed hn) hkY h3
  have h : At U g.method c below := by rw [hg]; exact X.here
  have hlocals9 : W9 + (maxL + 11) + (headSpec ws rm).room.locals ≤ R.locals := hlocals
  have happ : (headSpec ws rm).appliesLoose y e.platform (U.calling g mk a) = true :=
    Spec.appliesLoose_calling (g := g) h hdg hn hkY hinitY
      (X.room_calling (g := g) (R' := (headSpec ws rm).room) hsize hmY hcY hframes (by rw [hlY]; omega) h4 h5) h1
  obtain ⟨mid, hmid⟩ := h.above
  have hfr : (U.setTop g).frames = (.java g :: mid) ++ below := by rw [State.frames_setTop' g h.top, hmid]; rfl
  obtain ⟨o, s₂, hsteps, -, hend, hq⟩ := Steps.callFree hM p X.admits X.cas X.clock (acts := []) hfr happ hPc trivial
  have hq' : vx_Q Qc XC mc ms free a (U.calling g mk a) o s₂ := hq
  rw [State.frames_setTop' g h.top] at hend
  obtain ⟨g₀, hg0⟩ := Option.isSome_iff_exists.mp h.top
  obtain ⟨r, hr⟩ := State.topJava?_eq_some.mp hg0
  have hr' : (({ U with heap := s₂.heap, slotsUsed := s₂.slotsUsed } : State).setVm s₂.vm).frames = .java g₀ :: r := hr
  rcases hq' with ⟨hqc, L, hfe, hL⟩ | ⟨q, rfl, E, ce, L, hx, hce, hcv, hcl, hW₂, hsm, hL⟩
  · obtain ⟨⟨v, rfl⟩, hW₂, e2, q2, q3, q4, q5, q6⟩ := id hfe
    have e3 : s₂ = ({ (U.calling g mk a).setFrames s₂.frames with heap := s₂.heap, slotsUsed := s₂.slotsUsed } : State).setVm s₂.vm := by
      have : s₂ = ({ s₂ with vm := (U.calling g mk a).vm } : State).setVm s₂.vm := rfl
      rw [e2] at this
      exact this
    obtain ⟨c₂, i₂, len₂, hc₂, hd₂, hf₂⟩ := hend
    have hW' : U.WarmedH s₂.vm := hW₂
    have hcc : c₂ = c := by
      have h1 : s₂.code? g.method = U.code? g.method := by
        rw [State.code?_eq, State.code?_eq, hW'.alike.method?]
      exact Option.some.inj (hc₂.symm.trans (h1.trans h.code))
    subst hcc
    have hlen : len₂ = len := by rw [hdg] at hd₂; cases hd₂; rfl
    subst hlen
    have hs₂ : s₂ = (({ U with heap := s₂.heap, slotsUsed := s₂.slotsUsed } : State).setVm s₂.vm).setTop { g with pc := g.pc + len₂, stack := v.toList ++ g.stack } := by
      refine e3.trans ?_
      rw [hf₂, State.calling_eq h.top, State.setFrames_setFrames, State.setTop_of_frames _ hr', hr]
      rfl
    have hsame : U.sameButNew ({ U with heap := s₂.heap, slotsUsed := s₂.slotsUsed } : State) L mc ms := by
      refine ⟨?_, q2, q3, q4, q5, q6⟩
      obtain ⟨t, ht, -⟩ := State.frames_cons hr
      show ({ U with heap := s₂.heap, slotsUsed := s₂.slotsUsed } : State) = { U.setFrames U.frames with heap := s₂.heap, slotsUsed := s₂.slotsUsed }
      rw [State.setFrames_self ht]
    subst hg
    refine Or.inl ⟨v, ⟨(({ U with heap := s₂.heap, slotsUsed := s₂.slotsUsed } : State).setVm s₂.vm), Ls ++ L, c0 + mc, s0 + ms⟩,
      ⟨X.admits, X.cas, X.clock, X.frames, X.room, X.hears, X.method, X.code, (X.here.setHeapUsed s₂.heap s₂.slotsUsed).setVm hW'.alike, X.tail, State.WarmedH.trans X.warmed hW', X.limits, X.bytes, X.same.trans (hsame.setVm s.vm)⟩,
      ⟨g, mk, s₂, L, rfl, rfl, hqc, rfl, hL, rfl, rfl⟩, ?_⟩
    show Steps p.tables e below _ ((({ U with heap := s₂.heap, slotsUsed := s₂.slotsUsed } : State).setVm s₂.vm).setTop { g with pc := g.pc + len₂, stack := v.toList ++ g.stack })
    rw [← hs₂]
    exact hsteps
  · obtain ⟨e2, q2, q3, q4, q5, q6⟩ := id hsm
    have e3 : s₂ = ({ (U.calling g mk a).setFrames s₂.frames with heap := s₂.heap, slotsUsed := s₂.slotsUsed } : State).setVm s₂.vm := by
      have : s₂ = ({ s₂ with vm := (U.calling g mk a).vm } : State).setVm s₂.vm := rfl
      rw [e2] at this
      exact this
    have hf₂ : s₂.frames = .throwing q :: .java g :: U.frames.tail := hend
    have hW' : U.WarmedH s₂.vm := hW₂
    have hs₂ : s₂ = ((({ U with heap := s₂.heap, slotsUsed := s₂.slotsUsed } : State).setVm s₂.vm).setTop g).pushFrame (.throwing q) := by
      refine e3.trans ?_
      rw [hf₂, State.calling_eq h.top, State.setFrames_setFrames, State.pushFrame, State.frames_setTop _ hr', State.setTop_of_frames _ hr', State.setFrames_setFrames, hr]
      rfl
    have hsame : U.sameButNew ({ U with heap := s₂.heap, slotsUsed := s₂.slotsUsed } : State) L mc ms := by
      refine ⟨?_, q2, q3, q4, q5, q6⟩
      obtain ⟨t, ht, -⟩ := State.frames_cons hr
      show ({ U with heap := s₂.heap, slotsUsed := s₂.slotsUsed } : State) = { U.setFrames U.frames with heap := s₂.heap, slotsUsed := s₂.slotsUsed }
      rw [State.setFrames_self ht]
    subst hg
    refine Or.inr ⟨q, ⟨(({ U with heap := s₂.heap, slotsUsed := s₂.slotsUsed } : State).setVm s₂.vm), Ls ++ L, c0 + mc, s0 + ms⟩,
      ⟨X.admits, X.cas, X.clock, X.frames, X.room, X.hears, X.method, X.code, (X.here.setHeapUsed s₂.heap s₂.slotsUsed).setVm hW'.alike, X.tail, State.WarmedH.trans X.warmed hW', X.limits, X.bytes, X.same.trans (hsame.setVm s.vm)⟩,
      ⟨g, mk, s₂, L, E, ce, rfl, rfl, hx, hce, hcv, hcl, rfl, hL, rfl, rfl⟩, ?_⟩
    show Steps p.tables e below _ (((({ U with heap := s₂.heap, slotsUsed := s₂.slotsUsed } : State).setVm s₂.vm).setTop g).pushFrame (.throwing q))
    rw [← hs₂]
    exact hsteps
end
variable {p : Program} {l : Launch} {e : Env} {R : Room} {s : State} {m : MethodId} {args : Array Value} {below : List Frame} {meth : Method} {c : Code} {T : State} {H : Heap} {locs : List Loc} {cells slots : Nat}
theorem vx_callVX (X : Stand p l e R s m args below meth c T locs cells slots) (hexec : p.tables.exec = Jvm.exec) {own C : String} {index : Nat} {y : MethodName} {bytes : ByteArray} {maxL : Nat} {ret : Option FieldType} {hh : List (Nat × Nat × Nat × Nat)}
    (hown : s.vm.findClass own = some m.cls) (hlink : (Cond.methodLink own index y).before args s = true) (hinst : (Cond.instanceMethod y).before args s = true) (hsel : (Cond.selects C y y).before args s = true)
    (hcode : (Cond.codeWith y bytes maxL ret hh).before args s = true) (hy : y.cls ≠ "java/lang/invoke/MethodHandle" ∧ y.cls ≠ "java/lang/invoke/VarHandle")
    {W9 : Nat} {Pre : Pt → Array Value → Prop} {Post : Pt → Array Value → Option Value → Pt → Prop} {PostX : Pt → Array Value → Addr → Pt → Prop} (hK : vx_Back l R p e below s args y 3 W9 Pre Post PostX)
    {b : Addr} {cellB : Cell} (hcell : T.heap[b]? = some cellB) (hobj : cellB.vm.isStatics = false) (hcls : s.vm.findClass C = some cellB.cls)
    {g : JFrame} (hg : g.method = m) (hsize : g.locals.size = c.maxLocals) {argsL rest : List Value} (hlen : ∀ sig, parseMethodDescriptor y.desc = some sig → argsL.length = sig.parameters.length)
    (hstack : g.stack = argsL.reverse ++ .ref b :: rest) (hW : 2 * g.monitorRoom + (rest.map fun v => v.category).sum ≤ W9) (hdg : decode c.code g.pc = .ok (.invokevirtual index, 3))
    (hpre : ∀ vm₁, s.WarmedH vm₁ → Pre ⟨T.setVm vm₁, locs, cells, slots⟩ (Value.ref b :: argsL).toArray) :
    (∃ (v : Option Value) (vm₁ : Vm) (B : Pt), s.WarmedH vm₁ ∧ Stand p l e R s m args below meth c B.U B.locs B.cells B.slots ∧ Post ⟨T.setVm vm₁, locs, cells, slots⟩ (Value.ref b :: argsL).toArray v B ∧
      ∀ target, Steps p.tables e below (B.U.setTop { g with pc := g.pc + 3, stack := v.toList ++ rest }) target → Steps p.tables e below (T.setTop g) target) ∨
    (∃ (q : Addr) (vm₁ : Vm) (B : Pt), s.WarmedH vm₁ ∧ Stand p l e R s m args below meth c B.U B.locs B.cells B.slots ∧ PostX ⟨T.setVm vm₁, locs, cells, slots⟩ (Value.ref b :: argsL).toArray q B ∧
      Steps p.tables e below (T.setTop g) ((B.U.setTop { g with stack := rest }).pushFrame (.throwing q))) := by
  obtain ⟨mk, methM, hnamed, hmethM, hstM, habM⟩ := Cond.instanceMethod_spec hinst
  obtain ⟨m8, methM', cM, hn8, hmethM', -, -, -, -, -, -, hsigM⟩ := Cond.codeWith_spec hcode
  cases Option.some.inj (hn8.symm.trans hnamed)
  cases hmethM.symm.trans hmethM'
  obtain ⟨c2, r2, m2, q1, q2, q3, q4, kP, hkP, hkPi⟩ := Cond.selects_spec hsel
  cases hcls.symm.trans q1
  cases (State.methodFound?_of_named hnamed hy).symm.trans q2
  cases hnamed.symm.trans q3
  have hselP : selectMethod e.platform s.vm cellB.cls mk = .method mk := by rw [Launch.admits_selectMethod X.admits]; exact q4
  obtain ⟨vm₁, X₁, hstep₁⟩ := X.invokevirtual hexec hown hlink hnamed hmethM hstM hkP hkPi hy (a := b) (cell := cellB) hcell
    (fun z h => by rw [h] at hobj; cases hobj) hselP hmethM habM hkP hkPi (g := g) hg (argsL := argsL) (rest := rest) (hlen _ hsigM) hstack hdg
  rcases hK m meth c ⟨T.setVm vm₁, locs, cells, slots⟩ { g with stack := rest } (.invokevirtual index) mk (Value.ref b :: argsL).toArray X₁ hg hsize hdg hW (X₁.named hnamed) (hpre vm₁ X₁.warmed) with ⟨v, B, X', hpost, hsteps⟩ | ⟨q, B, X', hpost, hsteps⟩
  · exact Or.inl ⟨v, vm₁, B, X₁.warmed, X', hpost, fun target h => hstep₁ _ fun acts => by rw [doInvoke_state]; exact hsteps.trans h⟩
  · exact Or.inr ⟨q, vm₁, B, X₁.warmed, X', hpost, hstep₁ _ fun acts => by rw [doInvoke_state]; exact hsteps⟩
theorem vx_callSX (X : Stand p l e R s m args below meth c T locs cells slots) (hexec : p.tables.exec = Jvm.exec) {own : String} {index : Nat} {y : MethodName} {bytes : ByteArray} {maxL : Nat} {ret : Option FieldType} {hh : List (Nat × Nat × Nat × Nat)}
    (hown : s.vm.findClass own = some m.cls) (hlink : (Cond.methodLink own index y).before args s = true) (hstat : (Cond.static y).before args s = true) (hinit : (Cond.initialized y.cls).before args s = true)
    (hcode : (Cond.codeWith y bytes maxL ret hh).before args s = true) (hy : y.cls ≠ "java/lang/invoke/MethodHandle" ∧ y.cls ≠ "java/lang/invoke/VarHandle")
    {W9 : Nat} {Pre : Pt → Array Value → Prop} {Post : Pt → Array Value → Option Value → Pt → Prop} {PostX : Pt → Array Value → Addr → Pt → Prop} (hK : vx_Back l R p e below s args y 3 W9 Pre Post PostX)
    {g : JFrame} (hg : g.method = m) (hsize : g.locals.size = c.maxLocals) {argsL rest : List Value} (hlen : ∀ sig, parseMethodDescriptor y.desc = some sig → argsL.length = sig.parameters.length)
    (hstack : g.stack = argsL.reverse ++ rest) (hW : 2 * g.monitorRoom + (rest.map fun v => v.category).sum ≤ W9) (hdg : decode c.code g.pc = .ok (.invokestatic index, 3))
    (hpre : ∀ vm₁, s.WarmedH vm₁ → Pre ⟨T.setVm vm₁, locs, cells, slots⟩ argsL.toArray) :
    (∃ (v : Option Value) (vm₁ : Vm) (B : Pt), s.WarmedH vm₁ ∧ Stand p l e R s m args below meth c B.U B.locs B.cells B.slots ∧ Post ⟨T.setVm vm₁, locs, cells, slots⟩ argsL.toArray v B ∧
      ∀ target, Steps p.tables e below (B.U.setTop { g with pc := g.pc + 3, stack := v.toList ++ rest }) target → Steps p.tables e below (T.setTop g) target) ∨
    (∃ (q : Addr) (vm₁ : Vm) (B : Pt), s.WarmedH vm₁ ∧ Stand p l e R s m args below meth c B.U B.locs B.cells B.slots ∧ PostX ⟨T.setVm vm₁, locs, cells, slots⟩ argsL.toArray q B ∧
      Steps p.tables e below (T.setTop g) ((B.U.setTop { g with stack := rest }).pushFrame (.throwing q))) := by
  obtain ⟨mk, methM, cM, hnamed, hmethM, -, -, -, -, -, -, hsigM⟩ := Cond.codeWith_spec hcode
  have hstatic : methM.isStatic = true := Cond.static_spec hnamed hmethM hstat
  obtain ⟨kP, hkP, -⟩ := className_of_methodNamed hnamed
  have hinitP : kP.init = .initialized := Cond.initialized_spec (findClass_of_methodNamed hnamed) hkP hinit
  obtain ⟨vm₁, X₁, hstep₁⟩ := X.invokestatic hexec hown hlink hnamed hmethM hstatic hkP hinitP hy (g := g) hg (argsL := argsL) (rest := rest) (hlen _ hsigM) hstack hdg
  rcases hK m meth c ⟨T.setVm vm₁, locs, cells, slots⟩ { g with stack := rest } (.invokestatic index) mk argsL.toArray X₁ hg hsize hdg hW (X₁.named hnamed) (hpre vm₁ X₁.warmed) with ⟨v, B, X', hpost, hsteps⟩ | ⟨q, B, X', hpost, hsteps⟩
  · exact Or.inl ⟨v, vm₁, B, X₁.warmed, X', hpost, fun target h => hstep₁ _ fun acts => by rw [doInvoke_state]; exact hsteps.trans h⟩
  · exact Or.inr ⟨q, vm₁, B, X₁.warmed, X', hpost, hstep₁ _ fun acts => by rw [doInvoke_state]; exact hsteps⟩
theorem vx_callVW (X : Stand p l e R s m args below meth c T locs cells slots) (hexec : p.tables.exec = Jvm.exec) {own C : String} {index : Nat} {y : MethodName} {bytes : ByteArray} {maxL : Nat} {ret : Option FieldType} {hh : List (Nat × Nat × Nat × Nat)}
    (hown : s.vm.findClass own = some m.cls) (hlink : (Cond.methodLink own index y).before args s = true) (hinst : (Cond.instanceMethod y).before args s = true) (hsel : (Cond.selects C y y).before args s = true)
    (hcode : (Cond.codeWith y bytes maxL ret hh).before args s = true) (hy : y.cls ≠ "java/lang/invoke/MethodHandle" ∧ y.cls ≠ "java/lang/invoke/VarHandle")
    {W9 : Nat} {Pre : Pt → Array Value → Prop} {Post : Pt → Array Value → Option Value → Pt → Prop} (hK : Back l R p e below s args y 3 W9 Pre Post)
    {b : Addr} {cellB : Cell} (hcell : T.heap[b]? = some cellB) (hobj : cellB.vm.isStatics = false) (hcls : s.vm.findClass C = some cellB.cls)
    {g : JFrame} (hg : g.method = m) (hsize : g.locals.size = c.maxLocals) {argsL rest : List Value} (hlen : ∀ sig, parseMethodDescriptor y.desc = some sig → argsL.length = sig.parameters.length)
    (hstack : g.stack = argsL.reverse ++ .ref b :: rest) (hW : 2 * g.monitorRoom + (rest.map fun v => v.category).sum ≤ W9) (hdg : decode c.code g.pc = .ok (.invokevirtual index, 3))
    (hpre : ∀ vm₁, s.WarmedH vm₁ → Pre ⟨T.setVm vm₁, locs, cells, slots⟩ (Value.ref b :: argsL).toArray) :
    ∃ (v : Option Value) (vm₁ : Vm) (B : Pt), s.WarmedH vm₁ ∧ Stand p l e R s m args below meth c B.U B.locs B.cells B.slots ∧ Post ⟨T.setVm vm₁, locs, cells, slots⟩ (Value.ref b :: argsL).toArray v B ∧
      ∀ target, Steps p.tables e below (B.U.setTop { g with pc := g.pc + 3, stack := v.toList ++ rest }) target → Steps p.tables e below (T.setTop g) target := by
  obtain ⟨mk, methM, hnamed, hmethM, hstM, habM⟩ := Cond.instanceMethod_spec hinst
  obtain ⟨m8, methM', cM, hn8, hmethM', -, -, -, -, -, -, hsigM⟩ := Cond.codeWith_spec hcode
  cases Option.some.inj (hn8.symm.trans hnamed)
  cases hmethM.symm.trans hmethM'
  obtain ⟨c2, r2, m2, q1, q2, q3, q4, kP, hkP, hkPi⟩ := Cond.selects_spec hsel
  cases hcls.symm.trans q1
  cases (State.methodFound?_of_named hnamed hy).symm.trans q2
  cases hnamed.symm.trans q3
  have hselP : selectMethod e.platform s.vm cellB.cls mk = .method mk := by rw [Launch.admits_selectMethod X.admits]; exact q4
  obtain ⟨vm₁, X₁, hstep₁⟩ := X.invokevirtual hexec hown hlink hnamed hmethM hstM hkP hkPi hy (a := b) (cell := cellB) hcell
    (fun z h => by rw [h] at hobj; cases hobj) hselP hmethM habM hkP hkPi (g := g) hg (argsL := argsL) (rest := rest) (hlen _ hsigM) hstack hdg
  obtain ⟨v, B, X', hpost, hsteps⟩ := hK m meth c ⟨T.setVm vm₁, locs, cells, slots⟩ { g with stack := rest } (.invokevirtual index) mk (Value.ref b :: argsL).toArray X₁ hg hsize hdg hW (X₁.named hnamed) (hpre vm₁ X₁.warmed)
  exact ⟨v, vm₁, B, X₁.warmed, X', hpost, fun target h => hstep₁ _ fun acts => by rw [doInvoke_state]; exact hsteps.trans h⟩
abbrev vx_CVW (R : Room) (s : State) (args : Array Value) (own C : String) (index : Nat) (y : MethodName) (bytes : ByteArray) (maxL : Nat) (ret : Option FieldType) (hh : List (Nat × Nat × Nat × Nat)) (ws : List Cond) (rm : Room) (mc ms n : Nat) : Prop :=
  (rm.cells = mc ∧ rm.slots = ms ∧ rm.frames + 1 ≤ R.frames ∧ 8 + (maxL + 11) + rm.locals ≤ R.locals ∧ (∀ w ∈ ws, ∀ (a' : Array Value) (U : State), s.WarmedH U.vm → w.before a' U = true) ∧ Cond.codeWith y bytes maxL ret hh ∈ ws) ∧
  (Cond.codeWith y bytes maxL ret hh).before args s = true ∧ (Cond.initialized y.cls).before args s = true ∧ (y.cls ≠ "java/lang/invoke/MethodHandle" ∧ y.cls ≠ "java/lang/invoke/VarHandle") ∧
  (∀ sig, parseMethodDescriptor y.desc = some sig → n = sig.parameters.length) ∧ (Cond.methodLink own index y).before args s = true ∧ (Cond.instanceMethod y).before args s = true ∧ (Cond.selects C y y).before args s = true
theorem vx_cwVW {own C : String} {index maxL mc ms : Nat} {y : MethodName} {bytes : ByteArray} {ret : Option FieldType} {hh : List (Nat × Nat × Nat × Nat)} {Ts ws ws' : List Cond} {rm : Room} (n : Nat) (ht : ∀ w ∈ Ts, w.before args s = true) (hT : GoodIn Ts (wsV own index C y ws)) (hw : ws = Cond.codeWith y bytes maxL ret hh :: ws') (hrc : rm.cells = mc) (hrs : rm.slots = ms)
    (hd : y.cls = C ∧ y.cls ≠ "java/lang/invoke/MethodHandle" ∧ y.cls ≠ "java/lang/invoke/VarHandle" ∧ (parseMethodDescriptor y.desc).map (fun d => d.parameters.length) = some n) (hR : rm.frames + 1 ≤ R.frames ∧ 8 + (maxL + 11) + rm.locals ≤ R.locals) :
    vx_CVW R s args own C index y bytes maxL ret hh ws rm mc ms n := by
  obtain ⟨hC, hd⟩ := hd
  subst hC
  have ok : ∀ w ∈ wsV own index y.cls y ws, w.before args s = true := fun w h => ht w (hT w h).1
  have hG : GoodIn Ts ws := fun w h => hT w (by unfold wsV; exact List.mem_append_right _ h)
  have hc : Cond.codeWith y bytes maxL ret hh ∈ ws := by rw [hw]; exact List.mem_cons_self
  refine ⟨⟨hrc, hrs, hR.1, hR.2, pay_in ht hG, hc⟩, ht _ (hG _ hc).1, ok _ (by simp [wsV]), ⟨hd.1, hd.2.1⟩, fun sig h => ?_, ok _ (by simp [wsV]), ok _ (by simp [wsV]), ok _ (by simp [wsV])⟩
  have h2 := hd.2.2
  rw [h] at h2
  exact (Option.some.inj h2).symm
theorem vx_runVW {y : MethodName} {bytes cc : ByteArray} {maxL nL mc ms n index : Nat} {ret : Option FieldType} {hh : List (Nat × Nat × Nat × Nat)} {ws : List Cond} {rm : Room} {Pc : Array Value → State → Prop} {Qc : Array Value → State → Outcome → State → Prop} {free : Addr → Prop} {Ts : List Cond} {own C : String} {b : Addr} {As rest : List Value} {g : JFrame}
    (S : CallFix p m c cc nL s args Ts own) (hM : Met l y ws rm Pc Qc mc ms free) (cw : vx_CVW R s args own C index y bytes maxL ret hh ws rm mc ms n) (hp : PreV s H C b Pc As)
    (hg : g.method = m) (hn : As.length = n) (hsize : g.locals.size = nL) (hstack : g.stack = As.reverse ++ .ref b :: rest) (hW : 2 * g.monitorRoom + (rest.map fun v => v.category).sum ≤ 8) (hdg : decode cc g.pc = .ok (.invokevirtual index, 3)) (hf : cells + mc ≤ R.cells ∧ slots + ms ≤ R.slots) :
    va_Run p l e R s m args below meth c H locs cells slots mc ms g rest (Qc (Value.ref b :: As).toArray) free := by
  obtain ⟨⟨hrc, hrs, hfr, hlo, hws, hcw⟩, hcode, hini, hy, hlen, hl, hin, hse⟩ := cw
  have hK : Back l R p e below s args y 3 8 (PreOf R mc ms Pc) (PostOf Qc mc ms free) := va_backW (hh := hh) (bytes := bytes) (maxL := maxL) (ret := ret) hM hp.1 hrc hrs hfr hlo hws hcw (fun a' U hW => word_at hW (Or.inl (by first | rfl | simp [Cond.onTables, Cond.keeps, Cond.steady])) hini)
  obtain ⟨hx, hb, hml, ho, -⟩ := S
  obtain ⟨-, ⟨cellB, hcB, hoB, hclB⟩, hPc⟩ := hp
  intro T hT X
  obtain ⟨v, vm₁, ⟨U', l2, c2, s2⟩, hW₁, X', ⟨g', mk, t, L, e1, e2, hq, h1, hL, h2, h3⟩, st⟩ := vx_callVW X hx (C := C) (hh := hh) (bytes := bytes) (maxL := maxL) (ret := ret) ho hl hin hse hcode hy hK (by rw [hT]; exact hcB) hoB hclB hg (hsize.trans hml.symm) (argsL := As) (rest := rest) (fun sig h => hn.trans (hlen sig h)) hstack hW (by rw [hb]; exact hdg)
    (fun vm₁ hW₁ => ⟨hf.1, hf.2, hPc (T.setVm vm₁) hT hW₁⟩)
  dsimp only [Pt.U, Pt.locs, Pt.cells, Pt.slots] at X' e1 e2 h1 h2 h3 st
  subst h1; subst h2; subst h3
  exact ⟨v, (T.setVm vm₁).calling g' mk (Value.ref b :: As).toArray, t, U', L, hT, X', hL, e1, e2, hq, st⟩
section
variable {y : MethodName} {bytes cc : ByteArray} {maxL nL mc ms n index : Nat} {ret : Option FieldType} {ws : List Cond} {rm : Room} {Pc : Array Value → State → Prop} {Qc : Array Value → State → Outcome → State → Prop} {XC : String → State → State → Prop} {free : Addr → Prop} {Ts : List Cond} {own C : String} {b : Addr} {As rest : List Value} {g : JFrame}
theorem vx_runVX {hh : List (Nat × Nat × Nat × Nat)} (S : CallFix p m c cc nL s args Ts own) (hM : vx_Met l y ws rm Pc Qc XC mc ms free) (cw : vx_CVW R s args own C index y bytes maxL ret hh ws rm mc ms n) (hp : PreV s H C b Pc As)
    (hg : g.method = m) (hn : As.length = n) (hsize : g.locals.size = nL) (hstack : g.stack = As.reverse ++ .ref b :: rest) (hW : 2 * g.monitorRoom + (rest.map fun v => v.category).sum ≤ 8) (hdg : decode cc g.pc = .ok (.invokevirtual index, 3)) (hf : cells + mc ≤ R.cells ∧ slots + ms ≤ R.slots) :
    vx_Run p l e R s m args below meth c H locs cells slots mc ms g rest (Qc (Value.ref b :: As).toArray) XC free := by
  obtain ⟨⟨hrc, hrs, hfr, hlo, hws, hcw⟩, hcode, hini, hy, hlen, hl, hin, hse⟩ := cw
  have hK : vx_Back l R p e below s args y 3 8 (PreOf R mc ms Pc) (PostOf Qc mc ms free) (vx_Post XC mc ms free) := vx_backW (hh := hh) (bytes := bytes) (maxL := maxL) (ret := ret) hM hp.1 hrc hrs hfr hlo hws hcw (fun a' U hW => word_at hW (Or.inl (by first | rfl | simp [Cond.onTables, Cond.keeps, Cond.steady])) hini)
  obtain ⟨hx, hb, hml, ho, -⟩ := S
  obtain ⟨-, ⟨cellB, hcB, hoB, hclB⟩, hPc⟩ := hp
  intro T hT X
  rcases vx_callVX X hx (C := C) (hh := hh) (bytes := bytes) (maxL := maxL) (ret := ret) ho hl hin hse hcode hy hK (by rw [hT]; exact hcB) hoB hclB hg (hsize.trans hml.symm) (argsL := As) (rest := rest) (fun sig h => hn.trans (hlen sig h)) hstack hW (by rw [hb]; exact hdg)
    (fun vm₁ hW₁ => ⟨hf.1, hf.2, hPc (T.setVm vm₁) hT hW₁⟩) with ⟨v, vm₁, ⟨U', l2, c2, s2⟩, hW₁, X', ⟨g', mk, t, L, e1, e2, hq, h1, hL, h2, h3⟩, st⟩ | ⟨q, vm₁, ⟨U', l2, c2, s2⟩, hW₁, X', ⟨g', mk, t, L, E, ce, e1, e2, hq, hce, hcv, hcl, h1, hL, h2, h3⟩, st⟩
  · dsimp only [Pt.U, Pt.locs, Pt.cells, Pt.slots] at X' e1 e2 h1 h2 h3 st
    subst h1; subst h2; subst h3
    exact Or.inl ⟨v, (T.setVm vm₁).calling g' mk (Value.ref b :: As).toArray, t, U', L, hT, X', hL, e1, e2, hq, st⟩
  · dsimp only [Pt.U, Pt.locs, Pt.cells, Pt.slots] at X' e1 e2 h1 h2 h3 st hcl
    subst h1; subst h2; subst h3
    exact Or.inr ⟨q, (T.setVm vm₁).calling g' mk (Value.ref b :: As).toArray, t, U', L, E, ce, hT, X', hL, e1, e2, hq, hce, hcv, vx_cls hW₁ hcl, st⟩
theorem vx_runSX {hh : List (Nat × Nat × Nat × Nat)} (S : CallFix p m c cc nL s args Ts own) (hM : vx_Met l y ws rm Pc Qc XC mc ms free) (cw : vx_CSW R s args own index y bytes maxL ret hh ws rm mc ms n) (hp : PreS s H Pc As)
    (hg : g.method = m) (hn : As.length = n) (hsize : g.locals.size = nL) (hstack : g.stack = As.reverse ++ rest) (hW : 2 * g.monitorRoom + (rest.map fun v => v.category).sum ≤ 8) (hdg : decode cc g.pc = .ok (.invokestatic index, 3)) (hf : cells + mc ≤ R.cells ∧ slots + ms ≤ R.slots) :
    vx_Run p l e R s m args below meth c H locs cells slots mc ms g rest (Qc As.toArray) XC free := by
  obtain ⟨⟨hrc, hrs, hfr, hlo, hws, hcw⟩, hcode, hini, hy, hlen, hl, hstt⟩ := cw
  have hK : vx_Back l R p e below s args y 3 8 (PreOf R mc ms Pc) (PostOf Qc mc ms free) (vx_Post XC mc ms free) := vx_backW (hh := hh) (bytes := bytes) (maxL := maxL) (ret := ret) hM hp.1 hrc hrs hfr hlo hws hcw (fun a' U hW => word_at hW (Or.inl (by first | rfl | simp [Cond.onTables, Cond.keeps, Cond.steady])) hini)
  obtain ⟨hx, hb, hml, ho, -⟩ := S
  intro T hT X
  rcases vx_callSX X hx (hh := hh) (bytes := bytes) (maxL := maxL) (ret := ret) ho hl hstt hini hcode hy hK hg (hsize.trans hml.symm) (argsL := As) (rest := rest) (fun sig h => hn.trans (hlen sig h)) hstack hW (by rw [hb]; exact hdg)
    (fun vm₁ hW₁ => ⟨hf.1, hf.2, hp.2 (T.setVm vm₁) hT hW₁⟩) with ⟨v, vm₁, ⟨U', l2, c2, s2⟩, hW₁, X', ⟨g', mk, t, L, e1, e2, hq, h1, hL, h2, h3⟩, st⟩ | ⟨q, vm₁, ⟨U', l2, c2, s2⟩, hW₁, X', ⟨g', mk, t, L, E, ce, e1, e2, hq, hce, hcv, hcl, h1, hL, h2, h3⟩, st⟩
  · dsimp only [Pt.U, Pt.locs, Pt.cells, Pt.slots] at X' e1 e2 h1 h2 h3 st
    subst h1; subst h2; subst h3
    exact Or.inl ⟨v, (T.setVm vm₁).calling g' mk As.toArray, t, U', L, hT, X', hL, e1, e2, hq, st⟩
  · dsimp only [Pt.U, Pt.locs, Pt.cells, Pt.slots] at X' e1 e2 h1 h2 h3 st hcl
    subst h1; subst h2; subst h3
    exact Or.inr ⟨q, (T.setVm vm₁).calling g' mk As.toArray, t, U', L, E, ce, hT, X', hL, e1, e2, hq, hce, hcv, vx_cls hW₁ hcl, st⟩
end
end VXH
theorem vx_ofWH {l : Launch} {y : MethodName} {ws ws' : List Cond} {rm : Room} {Pc : Array Value → State → Prop} {Qc : Array Value → State → Outcome → State → Prop} {XC : String → State → State → Prop} {mc ms : Nat} {free : Addr → Prop} {cc : ByteArray} {maxL : Nat} {ret : Option FieldType} {hh : List (Nat × Nat × Nat × Nat)}
    (hy : plainName y.cls = true) (hw : ws = Cond.codeWith y cc maxL ret hh :: ws')
    (body : ∀ p e s m args below meth c s₁, BodyLoose p l y (headSpec ws rm) cc maxL ret e s m args below meth c s₁ → c.maxLocals = maxL → Pc args s →
      W p l e (headSpec ws rm).room s m args below meth c s.heap [] 0 0 (vx_MQ below Qc XC args s mc ms free) (entryFrame m args maxL)) : vx_Met l y ws rm Pc Qc XC mc ms free := by
  refine MetFree.of_bodyS (code := cc) (maxLocals := maxL) (ret := ret) hy ?_ ?_
  · intro args s m h hn
    obtain ⟨m9, meth, c, hn9, h1, h2, h3, h4, -, h5, h6, -⟩ := Cond.codeWith_spec (atoms_spec (ws := ws) h _ (by rw [hw]; exact List.mem_cons_self))
    cases hn.symm.trans hn9
    exact ⟨meth, c, h1, h2, h3, h4, h5, h6⟩
  · intro p e s m args below meth c s₁ B hml hP _
    have hh0 : s₁.heap = s.heap := by rw [B.state]; rfl
    obtain ⟨t, a1, o, b1, b2, b3⟩ := body p e s m args below meth c s₁ B hml hP s₁ hh0 (Stand.of_body B)
    exact ⟨t, o, a1, b1, b2, b3⟩
/-! ===== END ===== -/

/-! ===== BEGIN printed: names, fields, word lists, decode rows ===== -/
def RX0 : String := "DeskMachine$Desk"
def TX0 : u_T := fun k => match k with
  | 0 => ("DeskMachine$Desk", "memory", "LDeskMachine$Memory;", true)
  | 1 => ("DeskMachine$Desk", "disk", "LDeskMachine$Disk;", true)
  | 2 => ("DeskMachine$Desk", "screen", "LDeskMachine$Screen;", true)
  | 3 => ("DeskMachine$Desk", "line", "[I", true)
  | 4 => ("DeskMachine$Desk", "wordStart", "[I", true)
  | 5 => ("DeskMachine$Desk", "wordEnd", "[I", true)
  | 6 => ("DeskMachine$Desk", "name", "[I", true)
  | 7 => ("DeskMachine$Desk", "length", "I", false)
  | _ => ("DeskMachine$Desk", "words", "I", false)
def tyX0 : Nat → FieldType := fun k => match k with
  | 0 => .object "DeskMachine$Memory"
  | 1 => .object "DeskMachine$Disk"
  | 2 => .object "DeskMachine$Screen"
  | 3 => .array .int
  | 4 => .array .int
  | 5 => .array .int
  | 6 => .array .int
  | 7 => .int
  | _ => .int
abbrev wsX00 : List Cond := u_ws RX0 TX0 9
theorem nmX0 : ∀ a, a < 9 → ∀ b, b < 9 → a ≠ b → (TX0 a).2.1 ≠ (TX0 b).2.1 := by decide +kernel
theorem tyX0_ok : ∀ k, k < 9 → parseFieldDescriptor (TX0 k).2.2.1 = some (tyX0 k) := by decide +kernel
abbrev cX0_init : ByteArray := prog_2_method_1_code
def yX0_init : MethodName := ⟨RX0, "<init>", "(LDeskMachine$Memory;LDeskMachine$Disk;LDeskMachine$Screen;)V"⟩
def RX1 : String := "DeskMachine$Disk"
def TX1 : u_T := fun k => match k with
  | 0 => ("DeskMachine$Disk", "bytes", "[I", true)
  | _ => ("DeskMachine$Disk", "taken", "[Z", true)
def tyX1 : Nat → FieldType := fun k => match k with
  | 0 => .array .int
  | _ => .array .boolean
abbrev wsX10 : List Cond := u_ws RX1 TX1 2
theorem nmX1 : ∀ a, a < 2 → ∀ b, b < 2 → a ≠ b → (TX1 a).2.1 ≠ (TX1 b).2.1 := by decide +kernel
theorem tyX1_ok : ∀ k, k < 2 → parseFieldDescriptor (TX1 k).2.2.1 = some (tyX1 k) := by decide +kernel
abbrev cX1_init : ByteArray := prog_3_method_1_code
def yX1_init : MethodName := ⟨RX1, "<init>", "()V"⟩
def RX2 : String := "DeskMachine$FileCalls"
def TX2 : u_T := fun k => match k with
  | 0 => ("DeskMachine$FileCalls", "memory", "LDeskMachine$Memory;", true)
  | 1 => ("DeskMachine$FileCalls", "disk", "LDeskMachine$Disk;", true)
  | 2 => ("DeskMachine$FileCalls", "name", "[I", true)
  | 3 => ("DeskMachine$FileCalls", "buffer", "I", false)
  | _ => ("DeskMachine$FileCalls", "searchFrom", "I", false)
def tyX2 : Nat → FieldType := fun k => match k with
  | 0 => .object "DeskMachine$Memory"
  | 1 => .object "DeskMachine$Disk"
  | 2 => .array .int
  | 3 => .int
  | _ => .int
abbrev wsX20 : List Cond := u_ws RX2 TX2 5
theorem nmX2 : ∀ a, a < 5 → ∀ b, b < 5 → a ≠ b → (TX2 a).2.1 ≠ (TX2 b).2.1 := by decide +kernel
theorem tyX2_ok : ∀ k, k < 5 → parseFieldDescriptor (TX2 k).2.2.1 = some (tyX2 k) := by decide +kernel
abbrev cX2_init : ByteArray := prog_4_method_1_code
def yX2_init : MethodName := ⟨RX2, "<init>", "(LDeskMachine$Memory;LDeskMachine$Disk;)V"⟩
def RX3 : String := "DeskMachine$KeyQueue"
def TX3 : u_T := fun k => match k with
  | 0 => ("DeskMachine$KeyQueue", "ring", "[I", true)
  | 1 => ("DeskMachine$KeyQueue", "first", "I", false)
  | _ => ("DeskMachine$KeyQueue", "count", "I", false)
def tyX3 : Nat → FieldType := fun k => match k with
  | 0 => .array .int
  | 1 => .int
  | _ => .int
abbrev wsX30 : List Cond := u_ws RX3 TX3 3
theorem nmX3 : ∀ a, a < 3 → ∀ b, b < 3 → a ≠ b → (TX3 a).2.1 ≠ (TX3 b).2.1 := by decide +kernel
theorem tyX3_ok : ∀ k, k < 3 → parseFieldDescriptor (TX3 k).2.2.1 = some (tyX3 k) := by decide +kernel
abbrev cX3_init : ByteArray := prog_5_method_1_code
def yX3_init : MethodName := ⟨RX3, "<init>", "()V"⟩
abbrev cX3_size : ByteArray := prog_5_method_2_code
def yX3_size : MethodName := ⟨RX3, "size", "()I"⟩
def RX4 : String := "DeskMachine$Memory"
def TX4 : u_T := fun k => match k with
  | _ => ("DeskMachine$Memory", "bytes", "[I", true)
def tyX4 : Nat → FieldType := fun k => match k with
  | _ => .array .int
abbrev wsX40 : List Cond := u_ws RX4 TX4 1
theorem nmX4 : ∀ a, a < 1 → ∀ b, b < 1 → a ≠ b → (TX4 a).2.1 ≠ (TX4 b).2.1 := by decide +kernel
theorem tyX4_ok : ∀ k, k < 1 → parseFieldDescriptor (TX4 k).2.2.1 = some (tyX4 k) := by decide +kernel
abbrev cX4_init : ByteArray := prog_6_method_1_code
def yX4_init : MethodName := ⟨RX4, "<init>", "()V"⟩
def RX5 : String := "DeskMachine$Processor"
def TX5 : u_T := fun k => match k with
  | 0 => ("DeskMachine$Processor", "memory", "LDeskMachine$Memory;", true)
  | 1 => ("DeskMachine$Processor", "registers", "[I", true)
  | 2 => ("DeskMachine$Processor", "sp", "I", false)
  | 3 => ("DeskMachine$Processor", "pc", "I", false)
  | 4 => ("DeskMachine$Processor", "sign", "I", false)
  | 5 => ("DeskMachine$Processor", "zero", "I", false)
  | 6 => ("DeskMachine$Processor", "half", "I", false)
  | 7 => ("DeskMachine$Processor", "parity", "I", false)
  | _ => ("DeskMachine$Processor", "carry", "I", false)
def tyX5 : Nat → FieldType := fun k => match k with
  | 0 => .object "DeskMachine$Memory"
  | 1 => .array .int
  | 2 => .int
  | 3 => .int
  | 4 => .int
  | 5 => .int
  | 6 => .int
  | 7 => .int
  | _ => .int
abbrev wsX50 : List Cond := u_ws RX5 TX5 9
theorem nmX5 : ∀ a, a < 9 → ∀ b, b < 9 → a ≠ b → (TX5 a).2.1 ≠ (TX5 b).2.1 := by decide +kernel
theorem tyX5_ok : ∀ k, k < 9 → parseFieldDescriptor (TX5 k).2.2.1 = some (tyX5 k) := by decide +kernel
abbrev cX5_init : ByteArray := prog_7_method_1_code
def yX5_init : MethodName := ⟨RX5, "<init>", "(LDeskMachine$Memory;)V"⟩
abbrev cX5_flags : ByteArray := prog_7_method_4_code
def yX5_flags : MethodName := ⟨RX5, "flags", "()I"⟩
def RX6 : String := "DeskMachine$Screen"
def TX6 : u_T := fun k => match k with
  | 0 => ("DeskMachine$Screen", "ring", "[I", true)
  | _ => ("DeskMachine$Screen", "total", "I", false)
def tyX6 : Nat → FieldType := fun k => match k with
  | 0 => .array .int
  | _ => .int
abbrev wsX60 : List Cond := u_ws RX6 TX6 2
theorem nmX6 : ∀ a, a < 2 → ∀ b, b < 2 → a ≠ b → (TX6 a).2.1 ≠ (TX6 b).2.1 := by decide +kernel
theorem tyX6_ok : ∀ k, k < 2 → parseFieldDescriptor (TX6 k).2.2.1 = some (tyX6 k) := by decide +kernel
abbrev cX6_init : ByteArray := prog_8_method_1_code
def yX6_init : MethodName := ⟨RX6, "<init>", "()V"⟩
abbrev cX6_last : ByteArray := prog_8_method_3_code
def yX6_last : MethodName := ⟨RX6, "last", "(I)I"⟩
def RX7 : String := "DeskMachine"
def TX7 : u_T := fun k => match k with
  | 0 => ("DeskMachine", "memory", "LDeskMachine$Memory;", true)
  | 1 => ("DeskMachine", "processor", "LDeskMachine$Processor;", true)
  | 2 => ("DeskMachine", "store", "LDeskMachine$Disk;", true)
  | 3 => ("DeskMachine", "keys", "LDeskMachine$KeyQueue;", true)
  | 4 => ("DeskMachine", "screen", "LDeskMachine$Screen;", true)
  | 5 => ("DeskMachine", "files", "LDeskMachine$FileCalls;", true)
  | 6 => ("DeskMachine", "desk", "LDeskMachine$Desk;", true)
  | 7 => ("DeskMachine", "mode", "I", false)
  | _ => ("DeskMachine", "steps", "I", false)
def tyX7 : Nat → FieldType := fun k => match k with
  | 0 => .object "DeskMachine$Memory"
  | 1 => .object "DeskMachine$Processor"
  | 2 => .object "DeskMachine$Disk"
  | 3 => .object "DeskMachine$KeyQueue"
  | 4 => .object "DeskMachine$Screen"
  | 5 => .object "DeskMachine$FileCalls"
  | 6 => .object "DeskMachine$Desk"
  | 7 => .int
  | _ => .int
abbrev wsX70 : List Cond := u_ws RX7 TX7 9
theorem nmX7 : ∀ a, a < 9 → ∀ b, b < 9 → a ≠ b → (TX7 a).2.1 ≠ (TX7 b).2.1 := by decide +kernel
theorem tyX7_ok : ∀ k, k < 9 → parseFieldDescriptor (TX7 k).2.2.1 = some (tyX7 k) := by decide +kernel
abbrev cX7_init : ByteArray := prog_1_method_1_code
def yX7_init : MethodName := ⟨RX7, "<init>", "()V"⟩
abbrev cX7_key : ByteArray := prog_1_method_2_code
def yX7_key : MethodName := ⟨RX7, "key", "(I)I"⟩
abbrev cX7_shown : ByteArray := prog_1_method_8_code
def yX7_shown : MethodName := ⟨RX7, "shown", "(I)I"⟩
abbrev cX7_register : ByteArray := prog_1_method_9_code
def yX7_register : MethodName := ⟨RX7, "register", "(I)I"⟩
abbrev cX7_about : ByteArray := prog_1_method_10_code
def yX7_about : MethodName := ⟨RX7, "about", "(I)I"⟩
def RX8 : String := "DeskMachineModel"
def TX8 : u_T := fun k => match k with
  | _ => ("", "", "", false)
def tyX8 : Nat → FieldType := fun k => match k with
  | _ => .int
abbrev wsX80 : List Cond := u_ws RX8 TX8 0
theorem nmX8 : ∀ a, a < 0 → ∀ b, b < 0 → a ≠ b → (TX8 a).2.1 ≠ (TX8 b).2.1 := by decide +kernel
theorem tyX8_ok : ∀ k, k < 0 → parseFieldDescriptor (TX8 k).2.2.1 = some (tyX8 k) := by decide +kernel
def RJ6 : String := "java/lang/Integer"
def TJ6 : u_T := fun k => match k with
  | _ => ("", "", "", false)
def tyJ6 : Nat → FieldType := fun k => match k with
  | _ => .int
abbrev wsJ60 : List Cond := u_ws RJ6 TJ6 0
theorem nmJ6 : ∀ a, a < 0 → ∀ b, b < 0 → a ≠ b → (TJ6 a).2.1 ≠ (TJ6 b).2.1 := by decide +kernel
theorem tyJ6_ok : ∀ k, k < 0 → parseFieldDescriptor (TJ6 k).2.2.1 = some (tyJ6 k) := by decide +kernel
def RJ0 : String := "java/lang/String"
def TJ0 : u_T := fun k => match k with
  | _ => ("", "", "", false)
def tyJ0 : Nat → FieldType := fun k => match k with
  | _ => .int
abbrev wsJ00 : List Cond := u_ws RJ0 TJ0 0
theorem nmJ0 : ∀ a, a < 0 → ∀ b, b < 0 → a ≠ b → (TJ0 a).2.1 ≠ (TJ0 b).2.1 := by decide +kernel
theorem tyJ0_ok : ∀ k, k < 0 → parseFieldDescriptor (TJ0 k).2.2.1 = some (tyJ0 k) := by decide +kernel
def RJ1 : String := "java/lang/StringLatin1"
def TJ1 : u_T := fun k => match k with
  | _ => ("", "", "", false)
def tyJ1 : Nat → FieldType := fun k => match k with
  | _ => .int
abbrev wsJ10 : List Cond := u_ws RJ1 TJ1 0
theorem nmJ1 : ∀ a, a < 0 → ∀ b, b < 0 → a ≠ b → (TJ1 a).2.1 ≠ (TJ1 b).2.1 := by decide +kernel
theorem tyJ1_ok : ∀ k, k < 0 → parseFieldDescriptor (TJ1 k).2.2.1 = some (tyJ1 k) := by decide +kernel
def RJ2 : String := "java/lang/StringUTF16"
def TJ2 : u_T := fun k => match k with
  | _ => ("", "", "", false)
def tyJ2 : Nat → FieldType := fun k => match k with
  | _ => .int
abbrev wsJ20 : List Cond := u_ws RJ2 TJ2 0
theorem nmJ2 : ∀ a, a < 0 → ∀ b, b < 0 → a ≠ b → (TJ2 a).2.1 ≠ (TJ2 b).2.1 := by decide +kernel
theorem tyJ2_ok : ∀ k, k < 0 → parseFieldDescriptor (TJ2 k).2.2.1 = some (tyJ2 k) := by decide +kernel
def RJ3 : String := "jdk/internal/util/Preconditions"
def TJ3 : u_T := fun k => match k with
  | _ => ("", "", "", false)
def tyJ3 : Nat → FieldType := fun k => match k with
  | _ => .int
abbrev wsJ30 : List Cond := u_ws RJ3 TJ3 0
theorem nmJ3 : ∀ a, a < 0 → ∀ b, b < 0 → a ≠ b → (TJ3 a).2.1 ≠ (TJ3 b).2.1 := by decide +kernel
theorem tyJ3_ok : ∀ k, k < 0 → parseFieldDescriptor (TJ3 k).2.2.1 = some (tyJ3 k) := by decide +kernel
def RL : String := "DeskMachineLaw"
abbrev cL_key : ByteArray := method_3_code
def yL_key : MethodName := ⟨RL, "key", "(LDeskMachine;I[J)I"⟩
abbrev cL_law : ByteArray := code
def yL_law : MethodName := ⟨RL, "law", "([I)Z"⟩
def wsX0_init : List Cond := .code yX0_init cX0_init 4 none :: ([.methodLink RX0 3 objectInit, .instanceMethod objectInit, .code objectInit ⟨#[0xb1]⟩ 1 none, .fieldLink RX0 9 "DeskMachine$Desk" "memory" "LDeskMachine$Memory;", .fieldLink RX0 15 "DeskMachine$Desk" "disk" "LDeskMachine$Disk;", .fieldLink RX0 19 "DeskMachine$Desk" "screen" "LDeskMachine$Screen;", .arrayClass .int, .fieldLink RX0 23 "DeskMachine$Desk" "line" "[I", .fieldLink RX0 27 "DeskMachine$Desk" "wordStart" "[I", .fieldLink RX0 30 "DeskMachine$Desk" "wordEnd" "[I", .fieldLink RX0 33 "DeskMachine$Desk" "name" "[I", .fieldLink RX0 36 "DeskMachine$Desk" "length" "I", .fieldLink RX0 40 "DeskMachine$Desk" "words" "I"] ++ wsX00)
def wsX1_init : List Cond := .code yX1_init cX1_init 2 none :: ([.methodLink RX1 3 objectInit, .instanceMethod objectInit, .code objectInit ⟨#[0xb1]⟩ 1 none, .arrayClass .int, .fieldLink RX1 11 "DeskMachine$Disk" "bytes" "[I", .arrayClass .boolean, .fieldLink RX1 15 "DeskMachine$Disk" "taken" "[Z"] ++ wsX10)
def wsX2_init : List Cond := .code yX2_init cX2_init 3 none :: ([.methodLink RX2 3 objectInit, .instanceMethod objectInit, .code objectInit ⟨#[0xb1]⟩ 1 none, .fieldLink RX2 9 "DeskMachine$FileCalls" "memory" "LDeskMachine$Memory;", .fieldLink RX2 15 "DeskMachine$FileCalls" "disk" "LDeskMachine$Disk;", .arrayClass .int, .fieldLink RX2 19 "DeskMachine$FileCalls" "name" "[I", .fieldLink RX2 23 "DeskMachine$FileCalls" "buffer" "I", .fieldLink RX2 27 "DeskMachine$FileCalls" "searchFrom" "I"] ++ wsX20)
def wsX3_init : List Cond := .code yX3_init cX3_init 1 none :: ([.methodLink RX3 1 objectInit, .instanceMethod objectInit, .code objectInit ⟨#[0xb1]⟩ 1 none, .arrayClass .int, .fieldLink RX3 9 "DeskMachine$KeyQueue" "ring" "[I", .fieldLink RX3 13 "DeskMachine$KeyQueue" "first" "I", .fieldLink RX3 17 "DeskMachine$KeyQueue" "count" "I"] ++ wsX30)
def wsX3_size : List Cond := .code yX3_size cX3_size 1 (some .int) :: ([.fieldLink RX3 17 "DeskMachine$KeyQueue" "count" "I"] ++ wsX30)
def wsX4_init : List Cond := .code yX4_init cX4_init 1 none :: ([.methodLink RX4 1 objectInit, .instanceMethod objectInit, .code objectInit ⟨#[0xb1]⟩ 1 none, .arrayClass .int, .fieldLink RX4 9 "DeskMachine$Memory" "bytes" "[I"] ++ wsX40)
def wsX5_init : List Cond := .code yX5_init cX5_init 2 none :: ([.methodLink RX5 3 objectInit, .instanceMethod objectInit, .code objectInit ⟨#[0xb1]⟩ 1 none, .fieldLink RX5 9 "DeskMachine$Processor" "memory" "LDeskMachine$Memory;", .arrayClass .int, .fieldLink RX5 15 "DeskMachine$Processor" "registers" "[I"] ++ wsX50)
def wsX5_flags : List Cond := .code yX5_flags cX5_flags 1 (some .int) :: ([.fieldLink RX5 54 "DeskMachine$Processor" "sign" "I", .fieldLink RX5 57 "DeskMachine$Processor" "zero" "I", .fieldLink RX5 60 "DeskMachine$Processor" "half" "I", .fieldLink RX5 63 "DeskMachine$Processor" "parity" "I", .fieldLink RX5 66 "DeskMachine$Processor" "carry" "I"] ++ wsX50)
def wsX6_init : List Cond := .code yX6_init cX6_init 1 none :: ([.methodLink RX6 3 objectInit, .instanceMethod objectInit, .code objectInit ⟨#[0xb1]⟩ 1 none, .arrayClass .int, .fieldLink RX6 11 "DeskMachine$Screen" "ring" "[I", .fieldLink RX6 15 "DeskMachine$Screen" "total" "I"] ++ wsX60)
def wsX6_last : List Cond := .code yX6_last cX6_last 2 (some .int) :: ([.fieldLink RX6 15 "DeskMachine$Screen" "total" "I", .fieldLink RX6 11 "DeskMachine$Screen" "ring" "[I"] ++ wsX60)
def wsX7_init_r1 : List Cond := [Cond.methodLink RX7 1 objectInit, Cond.instanceMethod objectInit, Cond.code objectInit ⟨#[0xb1]⟩ 1 none, Cond.classLink RX7 7 RX4, Cond.instantiable RX4 1, Cond.initialized RX4, Cond.fieldLink RX7 10 "DeskMachine" "memory" "LDeskMachine$Memory;", Cond.classLink RX7 16 RX5, Cond.instantiable RX5 9, Cond.initialized RX5, Cond.fieldLink RX7 21 "DeskMachine" "processor" "LDeskMachine$Processor;", Cond.classLink RX7 25 RX1, Cond.instantiable RX1 2, Cond.initialized RX1, Cond.fieldLink RX7 28 "DeskMachine" "store" "LDeskMachine$Disk;", Cond.classLink RX7 32 RX3, Cond.instantiable RX3 3, Cond.initialized RX3, Cond.fieldLink RX7 35 "DeskMachine" "keys" "LDeskMachine$KeyQueue;", Cond.classLink RX7 39 RX6, Cond.instantiable RX6 2, Cond.initialized RX6, Cond.fieldLink RX7 42 "DeskMachine" "screen" "LDeskMachine$Screen;", Cond.classLink RX7 46 RX2]
def wsX7_init_r2 : List Cond := [Cond.instantiable RX2 5, Cond.initialized RX2, Cond.fieldLink RX7 51 "DeskMachine" "files" "LDeskMachine$FileCalls;", Cond.classLink RX7 55 RX0, Cond.instantiable RX0 9, Cond.initialized RX0, Cond.fieldLink RX7 60 "DeskMachine" "desk" "LDeskMachine$Desk;", Cond.fieldLink RX7 64 "DeskMachine" "mode" "I", Cond.fieldLink RX7 68 "DeskMachine" "steps" "I", Cond.methodLink RX7 9 yX4_init, Cond.instanceMethod yX4_init, Cond.code yX4_init cX4_init 1 none, Cond.methodLink RX4 1 objectInit, Cond.arrayClass .int, Cond.fieldLink RX4 9 "DeskMachine$Memory" "bytes" "[I", Cond.methodLink RX7 18 yX5_init, Cond.instanceMethod yX5_init, Cond.code yX5_init cX5_init 2 none, Cond.methodLink RX5 3 objectInit, Cond.fieldLink RX5 9 "DeskMachine$Processor" "memory" "LDeskMachine$Memory;", Cond.fieldLink RX5 15 "DeskMachine$Processor" "registers" "[I", Cond.methodLink RX7 27 yX1_init, Cond.instanceMethod yX1_init, Cond.code yX1_init cX1_init 2 none]
def wsX7_init_r3 : List Cond := [Cond.methodLink RX1 3 objectInit, Cond.fieldLink RX1 11 "DeskMachine$Disk" "bytes" "[I", Cond.arrayClass .boolean, Cond.fieldLink RX1 15 "DeskMachine$Disk" "taken" "[Z", Cond.methodLink RX7 34 yX3_init, Cond.instanceMethod yX3_init, Cond.code yX3_init cX3_init 1 none, Cond.methodLink RX3 1 objectInit, Cond.fieldLink RX3 9 "DeskMachine$KeyQueue" "ring" "[I", Cond.fieldLink RX3 13 "DeskMachine$KeyQueue" "first" "I", Cond.fieldLink RX3 17 "DeskMachine$KeyQueue" "count" "I", Cond.methodLink RX7 41 yX6_init, Cond.instanceMethod yX6_init, Cond.code yX6_init cX6_init 1 none, Cond.methodLink RX6 3 objectInit, Cond.fieldLink RX6 11 "DeskMachine$Screen" "ring" "[I", Cond.fieldLink RX6 15 "DeskMachine$Screen" "total" "I", Cond.methodLink RX7 48 yX2_init, Cond.instanceMethod yX2_init, Cond.code yX2_init cX2_init 3 none, Cond.methodLink RX2 3 objectInit, Cond.fieldLink RX2 9 "DeskMachine$FileCalls" "memory" "LDeskMachine$Memory;", Cond.fieldLink RX2 15 "DeskMachine$FileCalls" "disk" "LDeskMachine$Disk;", Cond.fieldLink RX2 19 "DeskMachine$FileCalls" "name" "[I"]
def wsX7_init_r4 : List Cond := [Cond.fieldLink RX2 23 "DeskMachine$FileCalls" "buffer" "I", Cond.fieldLink RX2 27 "DeskMachine$FileCalls" "searchFrom" "I", Cond.methodLink RX7 57 yX0_init, Cond.instanceMethod yX0_init, Cond.code yX0_init cX0_init 4 none, Cond.methodLink RX0 3 objectInit, Cond.fieldLink RX0 9 "DeskMachine$Desk" "memory" "LDeskMachine$Memory;", Cond.fieldLink RX0 15 "DeskMachine$Desk" "disk" "LDeskMachine$Disk;", Cond.fieldLink RX0 19 "DeskMachine$Desk" "screen" "LDeskMachine$Screen;", Cond.fieldLink RX0 23 "DeskMachine$Desk" "line" "[I", Cond.fieldLink RX0 27 "DeskMachine$Desk" "wordStart" "[I", Cond.fieldLink RX0 30 "DeskMachine$Desk" "wordEnd" "[I", Cond.fieldLink RX0 33 "DeskMachine$Desk" "name" "[I", Cond.fieldLink RX0 36 "DeskMachine$Desk" "length" "I", Cond.fieldLink RX0 40 "DeskMachine$Desk" "words" "I"]
def wsX7_init : List Cond := .code yX7_init cX7_init 1 none :: ((wsX7_init_r1 ++ (wsX7_init_r2 ++ (wsX7_init_r3 ++ wsX7_init_r4))) ++ wsX40 ++ wsX70 ++ wsX50 ++ wsX10 ++ wsX30 ++ wsX60 ++ wsX20 ++ wsX00)
def wsX7_key : List Cond := .code yX7_key cX7_key 2 (some .int) :: ([.classLink RX7 75 "java/lang/IllegalArgumentException", .initialized "java/lang/IllegalArgumentException", .classLink RX7 82 "java/lang/IllegalStateException", .initialized "java/lang/IllegalStateException", .fieldLink RX7 35 "DeskMachine" "keys" "LDeskMachine$KeyQueue;", .methodLink RX7 89 yX3_size, .instanceMethod yX3_size, .selects RX3 yX3_size yX3_size, .initialized RX3, .code yX3_size cX3_size 1 (some .int), .fieldLink RX3 17 "DeskMachine$KeyQueue" "count" "I"] ++ wsX70 ++ wsX30 ++ (vx_at0 RX7 77 "java/lang/IllegalArgumentException" ["java/lang/RuntimeException", "java/lang/Exception"]).filter goodWord ++ (vx_at0 RX7 84 "java/lang/IllegalStateException" ["java/lang/RuntimeException", "java/lang/Exception"]).filter goodWord)
def wsX7_shown : List Cond := .code yX7_shown cX7_shown 2 (some .int) :: ([.fieldLink RX7 42 "DeskMachine" "screen" "LDeskMachine$Screen;", .methodLink RX7 120 yX6_last, .instanceMethod yX6_last, .selects RX6 yX6_last yX6_last, .initialized RX6, .code yX6_last cX6_last 2 (some .int), .fieldLink RX6 15 "DeskMachine$Screen" "total" "I", .fieldLink RX6 11 "DeskMachine$Screen" "ring" "[I"] ++ wsX70 ++ wsX60)
def wsX7_register : List Cond := .code yX7_register cX7_register 2 (some .int) :: ([.fieldLink RX7 21 "DeskMachine" "processor" "LDeskMachine$Processor;", .fieldLink RX7 126 "DeskMachine$Processor" "sp" "I", .fieldLink RX7 129 "DeskMachine$Processor" "pc" "I", .fieldLink RX7 51 "DeskMachine" "files" "LDeskMachine$FileCalls;", .fieldLink RX7 132 "DeskMachine$FileCalls" "buffer" "I", .fieldLink RX7 135 "DeskMachine$Processor" "registers" "[I", .methodLink RX7 123 yX5_flags, .instanceMethod yX5_flags, .selects RX5 yX5_flags yX5_flags, .initialized RX5, .code yX5_flags cX5_flags 1 (some .int), .fieldLink RX5 54 "DeskMachine$Processor" "sign" "I", .fieldLink RX5 57 "DeskMachine$Processor" "zero" "I", .fieldLink RX5 60 "DeskMachine$Processor" "half" "I", .fieldLink RX5 63 "DeskMachine$Processor" "parity" "I", .fieldLink RX5 66 "DeskMachine$Processor" "carry" "I"] ++ wsX70 ++ wsX50 ++ wsX20)
def wsX7_about : List Cond := .code yX7_about cX7_about 2 (some .int) :: ([.fieldLink RX7 64 "DeskMachine" "mode" "I", .fieldLink RX7 35 "DeskMachine" "keys" "LDeskMachine$KeyQueue;", .fieldLink RX7 42 "DeskMachine" "screen" "LDeskMachine$Screen;", .fieldLink RX7 139 "DeskMachine$Screen" "total" "I", .fieldLink RX7 68 "DeskMachine" "steps" "I", .fieldLink RX7 60 "DeskMachine" "desk" "LDeskMachine$Desk;", .fieldLink RX7 142 "DeskMachine$Desk" "length" "I", .methodLink RX7 89 yX3_size, .instanceMethod yX3_size, .selects RX3 yX3_size yX3_size, .initialized RX3, .code yX3_size cX3_size 1 (some .int), .fieldLink RX3 17 "DeskMachine$KeyQueue" "count" "I"] ++ wsX70 ++ wsX60 ++ wsX00 ++ wsX30)
def wsL_key : List Cond := .codeWith yL_key cL_key 4 (some .int) [(0, 9, 12, 13), (0, 9, 15, 15)] :: ([.classLink RL 13 "java/lang/IllegalArgumentException", .classLink RL 15 "java/lang/IllegalStateException", .methodLink RL 7 yX7_key, .instanceMethod yX7_key, .selects RX7 yX7_key yX7_key, .initialized RX7, .code yX7_key cX7_key 2 (some .int), .classLink RX7 75 "java/lang/IllegalArgumentException", .initialized "java/lang/IllegalArgumentException", .classLink RX7 82 "java/lang/IllegalStateException", .initialized "java/lang/IllegalStateException", .fieldLink RX7 35 "DeskMachine" "keys" "LDeskMachine$KeyQueue;", .methodLink RX7 89 yX3_size, .instanceMethod yX3_size, .selects RX3 yX3_size yX3_size, .initialized RX3, .code yX3_size cX3_size 1 (some .int), .fieldLink RX3 17 "DeskMachine$KeyQueue" "count" "I"] ++ wsX70 ++ wsX30 ++ (vx_at0 RX7 77 "java/lang/IllegalArgumentException" ["java/lang/RuntimeException", "java/lang/Exception"]).filter goodWord ++ (vx_at0 RX7 84 "java/lang/IllegalStateException" ["java/lang/RuntimeException", "java/lang/Exception"]).filter goodWord)
def wsL_law0_r1 : List Cond := [Cond.classLink RL 8 RX7, Cond.instantiable RX7 9, Cond.initialized RX7, Cond.methodLink RL 35 yX7_init, Cond.instanceMethod yX7_init, Cond.code yX7_init cX7_init 1 none, Cond.methodLink RX7 1 objectInit, Cond.instanceMethod objectInit, Cond.code objectInit ⟨#[0xb1]⟩ 1 none, Cond.classLink RX7 7 RX4, Cond.instantiable RX4 1, Cond.initialized RX4, Cond.fieldLink RX7 10 "DeskMachine" "memory" "LDeskMachine$Memory;", Cond.classLink RX7 16 RX5, Cond.instantiable RX5 9, Cond.initialized RX5, Cond.fieldLink RX7 21 "DeskMachine" "processor" "LDeskMachine$Processor;", Cond.classLink RX7 25 RX1, Cond.instantiable RX1 2, Cond.initialized RX1, Cond.fieldLink RX7 28 "DeskMachine" "store" "LDeskMachine$Disk;", Cond.classLink RX7 32 RX3, Cond.instantiable RX3 3, Cond.initialized RX3]
def wsL_law0_r2 : List Cond := [Cond.fieldLink RX7 35 "DeskMachine" "keys" "LDeskMachine$KeyQueue;", Cond.classLink RX7 39 RX6, Cond.instantiable RX6 2, Cond.initialized RX6, Cond.fieldLink RX7 42 "DeskMachine" "screen" "LDeskMachine$Screen;", Cond.classLink RX7 46 RX2, Cond.instantiable RX2 5, Cond.initialized RX2, Cond.fieldLink RX7 51 "DeskMachine" "files" "LDeskMachine$FileCalls;", Cond.classLink RX7 55 RX0, Cond.instantiable RX0 9, Cond.initialized RX0, Cond.fieldLink RX7 60 "DeskMachine" "desk" "LDeskMachine$Desk;", Cond.fieldLink RX7 64 "DeskMachine" "mode" "I", Cond.fieldLink RX7 68 "DeskMachine" "steps" "I", Cond.methodLink RX7 9 yX4_init, Cond.instanceMethod yX4_init, Cond.code yX4_init cX4_init 1 none, Cond.methodLink RX4 1 objectInit, Cond.arrayClass .int, Cond.fieldLink RX4 9 "DeskMachine$Memory" "bytes" "[I", Cond.methodLink RX7 18 yX5_init, Cond.instanceMethod yX5_init, Cond.code yX5_init cX5_init 2 none]
def wsL_law0_r3 : List Cond := [Cond.methodLink RX5 3 objectInit, Cond.fieldLink RX5 9 "DeskMachine$Processor" "memory" "LDeskMachine$Memory;", Cond.fieldLink RX5 15 "DeskMachine$Processor" "registers" "[I", Cond.methodLink RX7 27 yX1_init, Cond.instanceMethod yX1_init, Cond.code yX1_init cX1_init 2 none, Cond.methodLink RX1 3 objectInit, Cond.fieldLink RX1 11 "DeskMachine$Disk" "bytes" "[I", Cond.arrayClass .boolean, Cond.fieldLink RX1 15 "DeskMachine$Disk" "taken" "[Z", Cond.methodLink RX7 34 yX3_init, Cond.instanceMethod yX3_init, Cond.code yX3_init cX3_init 1 none, Cond.methodLink RX3 1 objectInit, Cond.fieldLink RX3 9 "DeskMachine$KeyQueue" "ring" "[I", Cond.fieldLink RX3 13 "DeskMachine$KeyQueue" "first" "I", Cond.fieldLink RX3 17 "DeskMachine$KeyQueue" "count" "I", Cond.methodLink RX7 41 yX6_init, Cond.instanceMethod yX6_init, Cond.code yX6_init cX6_init 1 none, Cond.methodLink RX6 3 objectInit, Cond.fieldLink RX6 11 "DeskMachine$Screen" "ring" "[I", Cond.fieldLink RX6 15 "DeskMachine$Screen" "total" "I", Cond.methodLink RX7 48 yX2_init]
def wsL_law0_r4 : List Cond := [Cond.instanceMethod yX2_init, Cond.code yX2_init cX2_init 3 none, Cond.methodLink RX2 3 objectInit, Cond.fieldLink RX2 9 "DeskMachine$FileCalls" "memory" "LDeskMachine$Memory;", Cond.fieldLink RX2 15 "DeskMachine$FileCalls" "disk" "LDeskMachine$Disk;", Cond.fieldLink RX2 19 "DeskMachine$FileCalls" "name" "[I", Cond.fieldLink RX2 23 "DeskMachine$FileCalls" "buffer" "I", Cond.fieldLink RX2 27 "DeskMachine$FileCalls" "searchFrom" "I", Cond.methodLink RX7 57 yX0_init, Cond.instanceMethod yX0_init, Cond.code yX0_init cX0_init 4 none, Cond.methodLink RX0 3 objectInit, Cond.fieldLink RX0 9 "DeskMachine$Desk" "memory" "LDeskMachine$Memory;", Cond.fieldLink RX0 15 "DeskMachine$Desk" "disk" "LDeskMachine$Disk;", Cond.fieldLink RX0 19 "DeskMachine$Desk" "screen" "LDeskMachine$Screen;", Cond.fieldLink RX0 23 "DeskMachine$Desk" "line" "[I", Cond.fieldLink RX0 27 "DeskMachine$Desk" "wordStart" "[I", Cond.fieldLink RX0 30 "DeskMachine$Desk" "wordEnd" "[I", Cond.fieldLink RX0 33 "DeskMachine$Desk" "name" "[I", Cond.fieldLink RX0 36 "DeskMachine$Desk" "length" "I", Cond.fieldLink RX0 40 "DeskMachine$Desk" "words" "I", Cond.methodLink RL 39 yL_key, Cond.static yL_key, Cond.initialized RL]
def wsL_law0_r5 : List Cond := [Cond.codeWith yL_key cL_key 4 (some .int) [(0, 9, 12, 13), (0, 9, 15, 15)], Cond.classLink RL 13 "java/lang/IllegalArgumentException", Cond.classLink RL 15 "java/lang/IllegalStateException", Cond.methodLink RL 7 yX7_key, Cond.instanceMethod yX7_key, Cond.selects RX7 yX7_key yX7_key, Cond.code yX7_key cX7_key 2 (some .int), Cond.classLink RX7 75 "java/lang/IllegalArgumentException", Cond.initialized "java/lang/IllegalArgumentException", Cond.classLink RX7 82 "java/lang/IllegalStateException", Cond.initialized "java/lang/IllegalStateException", Cond.methodLink RX7 89 yX3_size, Cond.instanceMethod yX3_size, Cond.selects RX3 yX3_size yX3_size, Cond.code yX3_size cX3_size 1 (some .int), Cond.methodLink RL 66 yX7_shown, Cond.instanceMethod yX7_shown, Cond.selects RX7 yX7_shown yX7_shown, Cond.code yX7_shown cX7_shown 2 (some .int), Cond.methodLink RX7 120 yX6_last, Cond.instanceMethod yX6_last, Cond.selects RX6 yX6_last yX6_last, Cond.code yX6_last cX6_last 2 (some .int), Cond.methodLink RL 70 yX7_register]
def wsL_law0_r6 : List Cond := [Cond.instanceMethod yX7_register, Cond.selects RX7 yX7_register yX7_register, Cond.code yX7_register cX7_register 2 (some .int), Cond.fieldLink RX7 126 "DeskMachine$Processor" "sp" "I", Cond.fieldLink RX7 129 "DeskMachine$Processor" "pc" "I", Cond.fieldLink RX7 132 "DeskMachine$FileCalls" "buffer" "I", Cond.fieldLink RX7 135 "DeskMachine$Processor" "registers" "[I", Cond.methodLink RX7 123 yX5_flags, Cond.instanceMethod yX5_flags, Cond.selects RX5 yX5_flags yX5_flags, Cond.code yX5_flags cX5_flags 1 (some .int), Cond.fieldLink RX5 54 "DeskMachine$Processor" "sign" "I", Cond.fieldLink RX5 57 "DeskMachine$Processor" "zero" "I", Cond.fieldLink RX5 60 "DeskMachine$Processor" "half" "I", Cond.fieldLink RX5 63 "DeskMachine$Processor" "parity" "I", Cond.fieldLink RX5 66 "DeskMachine$Processor" "carry" "I", Cond.methodLink RL 74 yX7_about, Cond.instanceMethod yX7_about, Cond.selects RX7 yX7_about yX7_about, Cond.code yX7_about cX7_about 2 (some .int), Cond.fieldLink RX7 139 "DeskMachine$Screen" "total" "I", Cond.fieldLink RX7 142 "DeskMachine$Desk" "length" "I"]
def wsL_law0 : List Cond := (wsL_law0_r1 ++ (wsL_law0_r2 ++ (wsL_law0_r3 ++ (wsL_law0_r4 ++ (wsL_law0_r5 ++ wsL_law0_r6))))) ++ wsX70 ++ wsX40 ++ wsX50 ++ wsX10 ++ wsX30 ++ wsX60 ++ wsX20 ++ wsX00 ++ ([] : List Cond)
def wsL_law : List Cond := wsL_law0 ++ (vx_at0 RX7 77 "java/lang/IllegalArgumentException" ["java/lang/RuntimeException", "java/lang/Exception"]).filter goodWord ++ (vx_at0 RX7 84 "java/lang/IllegalStateException" ["java/lang/RuntimeException", "java/lang/Exception"]).filter goodWord
theorem dX0_init_0 : decode cX0_init 0 = .ok (.aload_n 0, 1) := by decide +kernel
theorem dX0_init_1 : decode cX0_init 1 = .ok (.invokespecial 3, 3) := by decide +kernel
theorem dX0_init_4 : decode cX0_init 4 = .ok (.aload_n 0, 1) := by decide +kernel
theorem dX0_init_5 : decode cX0_init 5 = .ok (.aload_n 1, 1) := by decide +kernel
theorem dX0_init_6 : decode cX0_init 6 = .ok (.putfield 9, 3) := by decide +kernel
theorem dX0_init_9 : decode cX0_init 9 = .ok (.aload_n 0, 1) := by decide +kernel
theorem dX0_init_10 : decode cX0_init 10 = .ok (.aload_n 2, 1) := by decide +kernel
theorem dX0_init_11 : decode cX0_init 11 = .ok (.putfield 15, 3) := by decide +kernel
theorem dX0_init_14 : decode cX0_init 14 = .ok (.aload_n 0, 1) := by decide +kernel
theorem dX0_init_15 : decode cX0_init 15 = .ok (.aload_n 3, 1) := by decide +kernel
theorem dX0_init_16 : decode cX0_init 16 = .ok (.putfield 19, 3) := by decide +kernel
theorem dX0_init_19 : decode cX0_init 19 = .ok (.aload_n 0, 1) := by decide +kernel
theorem dX0_init_20 : decode cX0_init 20 = .ok (.bipush 20, 2) := by decide +kernel
theorem dX0_init_22 : decode cX0_init 22 = .ok (.newarray .int, 2) := by decide +kernel
theorem dX0_init_24 : decode cX0_init 24 = .ok (.putfield 23, 3) := by decide +kernel
theorem dX0_init_27 : decode cX0_init 27 = .ok (.aload_n 0, 1) := by decide +kernel
theorem dX0_init_28 : decode cX0_init 28 = .ok (.iconst 3, 1) := by decide +kernel
theorem dX0_init_29 : decode cX0_init 29 = .ok (.newarray .int, 2) := by decide +kernel
theorem dX0_init_31 : decode cX0_init 31 = .ok (.putfield 27, 3) := by decide +kernel
theorem dX0_init_34 : decode cX0_init 34 = .ok (.aload_n 0, 1) := by decide +kernel
theorem dX0_init_35 : decode cX0_init 35 = .ok (.iconst 3, 1) := by decide +kernel
theorem dX0_init_36 : decode cX0_init 36 = .ok (.newarray .int, 2) := by decide +kernel
theorem dX0_init_38 : decode cX0_init 38 = .ok (.putfield 30, 3) := by decide +kernel
theorem dX0_init_41 : decode cX0_init 41 = .ok (.aload_n 0, 1) := by decide +kernel
theorem dX0_init_42 : decode cX0_init 42 = .ok (.iconst 4, 1) := by decide +kernel
theorem dX0_init_43 : decode cX0_init 43 = .ok (.newarray .int, 2) := by decide +kernel
theorem dX0_init_45 : decode cX0_init 45 = .ok (.putfield 33, 3) := by decide +kernel
theorem dX0_init_48 : decode cX0_init 48 = .ok (.aload_n 0, 1) := by decide +kernel
theorem dX0_init_49 : decode cX0_init 49 = .ok (.iconst 0, 1) := by decide +kernel
theorem dX0_init_50 : decode cX0_init 50 = .ok (.putfield 36, 3) := by decide +kernel
theorem dX0_init_53 : decode cX0_init 53 = .ok (.aload_n 0, 1) := by decide +kernel
theorem dX0_init_54 : decode cX0_init 54 = .ok (.iconst 0, 1) := by decide +kernel
theorem dX0_init_55 : decode cX0_init 55 = .ok (.putfield 40, 3) := by decide +kernel
theorem dX0_init_58 : decode cX0_init 58 = .ok (.return_, 1) := by decide +kernel
theorem dX1_init_0 : decode cX1_init 0 = .ok (.aload_n 0, 1) := by decide +kernel
theorem dX1_init_1 : decode cX1_init 1 = .ok (.invokespecial 3, 3) := by decide +kernel
theorem dX1_init_4 : decode cX1_init 4 = .ok (.aload_n 0, 1) := by decide +kernel
theorem dX1_init_5 : decode cX1_init 5 = .ok (.sipush 512, 3) := by decide +kernel
theorem dX1_init_8 : decode cX1_init 8 = .ok (.newarray .int, 2) := by decide +kernel
theorem dX1_init_10 : decode cX1_init 10 = .ok (.putfield 11, 3) := by decide +kernel
theorem dX1_init_13 : decode cX1_init 13 = .ok (.aload_n 0, 1) := by decide +kernel
theorem dX1_init_14 : decode cX1_init 14 = .ok (.sipush 256, 3) := by decide +kernel
theorem dX1_init_17 : decode cX1_init 17 = .ok (.newarray .boolean, 2) := by decide +kernel
theorem dX1_init_19 : decode cX1_init 19 = .ok (.putfield 15, 3) := by decide +kernel
theorem dX1_init_22 : decode cX1_init 22 = .ok (.iconst 0, 1) := by decide +kernel
theorem dX1_init_23 : decode cX1_init 23 = .ok (.istore_n 1, 1) := by decide +kernel
theorem dX1_init_24 : decode cX1_init 24 = .ok (.iload_n 1, 1) := by decide +kernel
theorem dX1_init_25 : decode cX1_init 25 = .ok (.bipush 8, 2) := by decide +kernel
theorem dX1_init_27 : decode cX1_init 27 = .ok (.if_icmp .ge 21, 3) := by decide +kernel
theorem dX1_init_30 : decode cX1_init 30 = .ok (.aload_n 0, 1) := by decide +kernel
theorem dX1_init_31 : decode cX1_init 31 = .ok (.getfield 11, 3) := by decide +kernel
theorem dX1_init_34 : decode cX1_init 34 = .ok (.iload_n 1, 1) := by decide +kernel
theorem dX1_init_35 : decode cX1_init 35 = .ok (.bipush 16, 2) := by decide +kernel
theorem dX1_init_37 : decode cX1_init 37 = .ok (.imul, 1) := by decide +kernel
theorem dX1_init_38 : decode cX1_init 38 = .ok (.sipush 229, 3) := by decide +kernel
theorem dX1_init_41 : decode cX1_init 41 = .ok (.iastore, 1) := by decide +kernel
theorem dX1_init_42 : decode cX1_init 42 = .ok (.iinc 1 1, 3) := by decide +kernel
theorem dX1_init_45 : decode cX1_init 45 = .ok (.goto (-21), 3) := by decide +kernel
theorem dX1_init_48 : decode cX1_init 48 = .ok (.return_, 1) := by decide +kernel
theorem dX2_init_0 : decode cX2_init 0 = .ok (.aload_n 0, 1) := by decide +kernel
theorem dX2_init_1 : decode cX2_init 1 = .ok (.invokespecial 3, 3) := by decide +kernel
theorem dX2_init_4 : decode cX2_init 4 = .ok (.aload_n 0, 1) := by decide +kernel
theorem dX2_init_5 : decode cX2_init 5 = .ok (.aload_n 1, 1) := by decide +kernel
theorem dX2_init_6 : decode cX2_init 6 = .ok (.putfield 9, 3) := by decide +kernel
theorem dX2_init_9 : decode cX2_init 9 = .ok (.aload_n 0, 1) := by decide +kernel
theorem dX2_init_10 : decode cX2_init 10 = .ok (.aload_n 2, 1) := by decide +kernel
theorem dX2_init_11 : decode cX2_init 11 = .ok (.putfield 15, 3) := by decide +kernel
theorem dX2_init_14 : decode cX2_init 14 = .ok (.aload_n 0, 1) := by decide +kernel
theorem dX2_init_15 : decode cX2_init 15 = .ok (.iconst 4, 1) := by decide +kernel
theorem dX2_init_16 : decode cX2_init 16 = .ok (.newarray .int, 2) := by decide +kernel
theorem dX2_init_18 : decode cX2_init 18 = .ok (.putfield 19, 3) := by decide +kernel
theorem dX2_init_21 : decode cX2_init 21 = .ok (.aload_n 0, 1) := by decide +kernel
theorem dX2_init_22 : decode cX2_init 22 = .ok (.sipush 128, 3) := by decide +kernel
theorem dX2_init_25 : decode cX2_init 25 = .ok (.putfield 23, 3) := by decide +kernel
theorem dX2_init_28 : decode cX2_init 28 = .ok (.aload_n 0, 1) := by decide +kernel
theorem dX2_init_29 : decode cX2_init 29 = .ok (.iconst 0, 1) := by decide +kernel
theorem dX2_init_30 : decode cX2_init 30 = .ok (.putfield 27, 3) := by decide +kernel
theorem dX2_init_33 : decode cX2_init 33 = .ok (.return_, 1) := by decide +kernel
theorem dX3_init_0 : decode cX3_init 0 = .ok (.aload_n 0, 1) := by decide +kernel
theorem dX3_init_1 : decode cX3_init 1 = .ok (.invokespecial 1, 3) := by decide +kernel
theorem dX3_init_4 : decode cX3_init 4 = .ok (.aload_n 0, 1) := by decide +kernel
theorem dX3_init_5 : decode cX3_init 5 = .ok (.bipush 40, 2) := by decide +kernel
theorem dX3_init_7 : decode cX3_init 7 = .ok (.newarray .int, 2) := by decide +kernel
theorem dX3_init_9 : decode cX3_init 9 = .ok (.putfield 9, 3) := by decide +kernel
theorem dX3_init_12 : decode cX3_init 12 = .ok (.aload_n 0, 1) := by decide +kernel
theorem dX3_init_13 : decode cX3_init 13 = .ok (.iconst 0, 1) := by decide +kernel
theorem dX3_init_14 : decode cX3_init 14 = .ok (.putfield 13, 3) := by decide +kernel
theorem dX3_init_17 : decode cX3_init 17 = .ok (.aload_n 0, 1) := by decide +kernel
theorem dX3_init_18 : decode cX3_init 18 = .ok (.iconst 0, 1) := by decide +kernel
theorem dX3_init_19 : decode cX3_init 19 = .ok (.putfield 17, 3) := by decide +kernel
theorem dX3_init_22 : decode cX3_init 22 = .ok (.return_, 1) := by decide +kernel
theorem dX3_size_0 : decode cX3_size 0 = .ok (.aload_n 0, 1) := by decide +kernel
theorem dX3_size_1 : decode cX3_size 1 = .ok (.getfield 17, 3) := by decide +kernel
theorem dX3_size_4 : decode cX3_size 4 = .ok (.ireturn, 1) := by decide +kernel
theorem dX4_init_0 : decode cX4_init 0 = .ok (.aload_n 0, 1) := by decide +kernel
theorem dX4_init_1 : decode cX4_init 1 = .ok (.invokespecial 1, 3) := by decide +kernel
theorem dX4_init_4 : decode cX4_init 4 = .ok (.aload_n 0, 1) := by decide +kernel
theorem dX4_init_5 : decode cX4_init 5 = .ok (.sipush 512, 3) := by decide +kernel
theorem dX4_init_8 : decode cX4_init 8 = .ok (.newarray .int, 2) := by decide +kernel
theorem dX4_init_10 : decode cX4_init 10 = .ok (.putfield 9, 3) := by decide +kernel
theorem dX4_init_13 : decode cX4_init 13 = .ok (.return_, 1) := by decide +kernel
theorem dX5_init_0 : decode cX5_init 0 = .ok (.aload_n 0, 1) := by decide +kernel
theorem dX5_init_1 : decode cX5_init 1 = .ok (.invokespecial 3, 3) := by decide +kernel
theorem dX5_init_4 : decode cX5_init 4 = .ok (.aload_n 0, 1) := by decide +kernel
theorem dX5_init_5 : decode cX5_init 5 = .ok (.aload_n 1, 1) := by decide +kernel
theorem dX5_init_6 : decode cX5_init 6 = .ok (.putfield 9, 3) := by decide +kernel
theorem dX5_init_9 : decode cX5_init 9 = .ok (.aload_n 0, 1) := by decide +kernel
theorem dX5_init_10 : decode cX5_init 10 = .ok (.bipush 8, 2) := by decide +kernel
theorem dX5_init_12 : decode cX5_init 12 = .ok (.newarray .int, 2) := by decide +kernel
theorem dX5_init_14 : decode cX5_init 14 = .ok (.putfield 15, 3) := by decide +kernel
theorem dX5_init_17 : decode cX5_init 17 = .ok (.return_, 1) := by decide +kernel
theorem dX5_flags_0 : decode cX5_flags 0 = .ok (.aload_n 0, 1) := by decide +kernel
theorem dX5_flags_1 : decode cX5_flags 1 = .ok (.getfield 54, 3) := by decide +kernel
theorem dX5_flags_4 : decode cX5_flags 4 = .ok (.bipush 7, 2) := by decide +kernel
theorem dX5_flags_6 : decode cX5_flags 6 = .ok (.ishl, 1) := by decide +kernel
theorem dX5_flags_7 : decode cX5_flags 7 = .ok (.aload_n 0, 1) := by decide +kernel
theorem dX5_flags_8 : decode cX5_flags 8 = .ok (.getfield 57, 3) := by decide +kernel
theorem dX5_flags_11 : decode cX5_flags 11 = .ok (.bipush 6, 2) := by decide +kernel
theorem dX5_flags_13 : decode cX5_flags 13 = .ok (.ishl, 1) := by decide +kernel
theorem dX5_flags_14 : decode cX5_flags 14 = .ok (.ior, 1) := by decide +kernel
theorem dX5_flags_15 : decode cX5_flags 15 = .ok (.aload_n 0, 1) := by decide +kernel
theorem dX5_flags_16 : decode cX5_flags 16 = .ok (.getfield 60, 3) := by decide +kernel
theorem dX5_flags_19 : decode cX5_flags 19 = .ok (.iconst 4, 1) := by decide +kernel
theorem dX5_flags_20 : decode cX5_flags 20 = .ok (.ishl, 1) := by decide +kernel
theorem dX5_flags_21 : decode cX5_flags 21 = .ok (.ior, 1) := by decide +kernel
theorem dX5_flags_22 : decode cX5_flags 22 = .ok (.aload_n 0, 1) := by decide +kernel
theorem dX5_flags_23 : decode cX5_flags 23 = .ok (.getfield 63, 3) := by decide +kernel
theorem dX5_flags_26 : decode cX5_flags 26 = .ok (.iconst 2, 1) := by decide +kernel
theorem dX5_flags_27 : decode cX5_flags 27 = .ok (.ishl, 1) := by decide +kernel
theorem dX5_flags_28 : decode cX5_flags 28 = .ok (.ior, 1) := by decide +kernel
theorem dX5_flags_29 : decode cX5_flags 29 = .ok (.iconst 2, 1) := by decide +kernel
theorem dX5_flags_30 : decode cX5_flags 30 = .ok (.ior, 1) := by decide +kernel
theorem dX5_flags_31 : decode cX5_flags 31 = .ok (.aload_n 0, 1) := by decide +kernel
theorem dX5_flags_32 : decode cX5_flags 32 = .ok (.getfield 66, 3) := by decide +kernel
theorem dX5_flags_35 : decode cX5_flags 35 = .ok (.ior, 1) := by decide +kernel
theorem dX5_flags_36 : decode cX5_flags 36 = .ok (.ireturn, 1) := by decide +kernel
theorem dX6_init_0 : decode cX6_init 0 = .ok (.aload_n 0, 1) := by decide +kernel
theorem dX6_init_1 : decode cX6_init 1 = .ok (.invokespecial 3, 3) := by decide +kernel
theorem dX6_init_4 : decode cX6_init 4 = .ok (.aload_n 0, 1) := by decide +kernel
theorem dX6_init_5 : decode cX6_init 5 = .ok (.bipush 64, 2) := by decide +kernel
theorem dX6_init_7 : decode cX6_init 7 = .ok (.newarray .int, 2) := by decide +kernel
theorem dX6_init_9 : decode cX6_init 9 = .ok (.putfield 11, 3) := by decide +kernel
theorem dX6_init_12 : decode cX6_init 12 = .ok (.aload_n 0, 1) := by decide +kernel
theorem dX6_init_13 : decode cX6_init 13 = .ok (.iconst 0, 1) := by decide +kernel
theorem dX6_init_14 : decode cX6_init 14 = .ok (.putfield 15, 3) := by decide +kernel
theorem dX6_init_17 : decode cX6_init 17 = .ok (.return_, 1) := by decide +kernel
theorem dX6_last_0 : decode cX6_last 0 = .ok (.iload_n 1, 1) := by decide +kernel
theorem dX6_last_1 : decode cX6_last 1 = .ok (.ifCond .lt 17, 3) := by decide +kernel
theorem dX6_last_4 : decode cX6_last 4 = .ok (.iload_n 1, 1) := by decide +kernel
theorem dX6_last_5 : decode cX6_last 5 = .ok (.bipush 64, 2) := by decide +kernel
theorem dX6_last_7 : decode cX6_last 7 = .ok (.if_icmp .ge 11, 3) := by decide +kernel
theorem dX6_last_10 : decode cX6_last 10 = .ok (.iload_n 1, 1) := by decide +kernel
theorem dX6_last_11 : decode cX6_last 11 = .ok (.aload_n 0, 1) := by decide +kernel
theorem dX6_last_12 : decode cX6_last 12 = .ok (.getfield 15, 3) := by decide +kernel
theorem dX6_last_15 : decode cX6_last 15 = .ok (.if_icmp .lt 5, 3) := by decide +kernel
theorem dX6_last_18 : decode cX6_last 18 = .ok (.iconst (-1), 1) := by decide +kernel
theorem dX6_last_19 : decode cX6_last 19 = .ok (.ireturn, 1) := by decide +kernel
theorem dX6_last_20 : decode cX6_last 20 = .ok (.aload_n 0, 1) := by decide +kernel
theorem dX6_last_21 : decode cX6_last 21 = .ok (.getfield 11, 3) := by decide +kernel
theorem dX6_last_24 : decode cX6_last 24 = .ok (.aload_n 0, 1) := by decide +kernel
theorem dX6_last_25 : decode cX6_last 25 = .ok (.getfield 15, 3) := by decide +kernel
theorem dX6_last_28 : decode cX6_last 28 = .ok (.iconst 1, 1) := by decide +kernel
theorem dX6_last_29 : decode cX6_last 29 = .ok (.isub, 1) := by decide +kernel
theorem dX6_last_30 : decode cX6_last 30 = .ok (.iload_n 1, 1) := by decide +kernel
theorem dX6_last_31 : decode cX6_last 31 = .ok (.isub, 1) := by decide +kernel
theorem dX6_last_32 : decode cX6_last 32 = .ok (.bipush 63, 2) := by decide +kernel
theorem dX6_last_34 : decode cX6_last 34 = .ok (.iand, 1) := by decide +kernel
theorem dX6_last_35 : decode cX6_last 35 = .ok (.iaload, 1) := by decide +kernel
theorem dX6_last_36 : decode cX6_last 36 = .ok (.ireturn, 1) := by decide +kernel
set_option maxRecDepth 20000 in
theorem ggX7_init_X4_init : GoodIn wsX7_init wsX4_init := goodIn_r _ [36, 37, 2, 3, 38, 39, 88] (by decide +kernel) (by decide +kernel)
set_option maxRecDepth 20000 in
theorem gX7_init_X4_init : GoodIn wsX7_init (wsX4_init) := ggX7_init_X4_init
set_option maxRecDepth 20000 in
theorem ggX7_init_X5_init : GoodIn wsX7_init wsX5_init := goodIn_r _ [42, 43, 2, 3, 44, 38, 45, 98, 99, 100, 101, 102, 103, 104, 105, 106] (by decide +kernel) (by decide +kernel)
set_option maxRecDepth 20000 in
theorem gX7_init_X5_init : GoodIn wsX7_init (wsX5_init) := ggX7_init_X5_init
set_option maxRecDepth 20000 in
theorem ggX7_init_X1_init : GoodIn wsX7_init wsX1_init := goodIn_r _ [48, 49, 2, 3, 38, 50, 51, 52, 107, 108] (by decide +kernel) (by decide +kernel)
set_option maxRecDepth 20000 in
theorem gX7_init_X1_init : GoodIn wsX7_init (wsX1_init) := ggX7_init_X1_init
set_option maxRecDepth 20000 in
theorem ggX7_init_X3_init : GoodIn wsX7_init wsX3_init := goodIn_r _ [55, 56, 2, 3, 38, 57, 58, 59, 109, 110, 111] (by decide +kernel) (by decide +kernel)
set_option maxRecDepth 20000 in
theorem gX7_init_X3_init : GoodIn wsX7_init (wsX3_init) := ggX7_init_X3_init
set_option maxRecDepth 20000 in
theorem ggX7_init_X6_init : GoodIn wsX7_init wsX6_init := goodIn_r _ [62, 63, 2, 3, 38, 64, 65, 112, 113] (by decide +kernel) (by decide +kernel)
set_option maxRecDepth 20000 in
theorem gX7_init_X6_init : GoodIn wsX7_init (wsX6_init) := ggX7_init_X6_init
set_option maxRecDepth 20000 in
theorem ggX7_init_X2_init : GoodIn wsX7_init wsX2_init := goodIn_r _ [68, 69, 2, 3, 70, 71, 38, 72, 73, 74, 114, 115, 116, 117, 118] (by decide +kernel) (by decide +kernel)
set_option maxRecDepth 20000 in
theorem gX7_init_X2_init : GoodIn wsX7_init (wsX2_init) := ggX7_init_X2_init
set_option maxRecDepth 20000 in
theorem ggX7_init_X0_init : GoodIn wsX7_init wsX0_init := goodIn_r _ [77, 78, 2, 3, 79, 80, 81, 38, 82, 83, 84, 85, 86, 87, 119, 120, 121, 122, 123, 124, 125, 126, 127] (by decide +kernel) (by decide +kernel)
set_option maxRecDepth 20000 in
theorem gX7_init_X0_init : GoodIn wsX7_init (wsX0_init) := ggX7_init_X0_init
theorem dX7_init_0 : decode cX7_init 0 = .ok (.aload_n 0, 1) := by decide +kernel
theorem dX7_init_1 : decode cX7_init 1 = .ok (.invokespecial 1, 3) := by decide +kernel
theorem dX7_init_4 : decode cX7_init 4 = .ok (.aload_n 0, 1) := by decide +kernel
theorem dX7_init_5 : decode cX7_init 5 = .ok (.new 7, 3) := by decide +kernel
theorem dX7_init_8 : decode cX7_init 8 = .ok (.dup, 1) := by decide +kernel
theorem dX7_init_9 : decode cX7_init 9 = .ok (.invokespecial 9, 3) := by decide +kernel
theorem dX7_init_12 : decode cX7_init 12 = .ok (.putfield 10, 3) := by decide +kernel
theorem dX7_init_15 : decode cX7_init 15 = .ok (.aload_n 0, 1) := by decide +kernel
theorem dX7_init_16 : decode cX7_init 16 = .ok (.new 16, 3) := by decide +kernel
theorem dX7_init_19 : decode cX7_init 19 = .ok (.dup, 1) := by decide +kernel
theorem dX7_init_20 : decode cX7_init 20 = .ok (.aload_n 0, 1) := by decide +kernel
theorem dX7_init_21 : decode cX7_init 21 = .ok (.getfield 10, 3) := by decide +kernel
theorem dX7_init_24 : decode cX7_init 24 = .ok (.invokespecial 18, 3) := by decide +kernel
theorem dX7_init_27 : decode cX7_init 27 = .ok (.putfield 21, 3) := by decide +kernel
theorem dX7_init_30 : decode cX7_init 30 = .ok (.aload_n 0, 1) := by decide +kernel
theorem dX7_init_31 : decode cX7_init 31 = .ok (.new 25, 3) := by decide +kernel
theorem dX7_init_34 : decode cX7_init 34 = .ok (.dup, 1) := by decide +kernel
theorem dX7_init_35 : decode cX7_init 35 = .ok (.invokespecial 27, 3) := by decide +kernel
theorem dX7_init_38 : decode cX7_init 38 = .ok (.putfield 28, 3) := by decide +kernel
theorem dX7_init_41 : decode cX7_init 41 = .ok (.aload_n 0, 1) := by decide +kernel
theorem dX7_init_42 : decode cX7_init 42 = .ok (.new 32, 3) := by decide +kernel
theorem dX7_init_45 : decode cX7_init 45 = .ok (.dup, 1) := by decide +kernel
theorem dX7_init_46 : decode cX7_init 46 = .ok (.invokespecial 34, 3) := by decide +kernel
theorem dX7_init_49 : decode cX7_init 49 = .ok (.putfield 35, 3) := by decide +kernel
theorem dX7_init_52 : decode cX7_init 52 = .ok (.aload_n 0, 1) := by decide +kernel
theorem dX7_init_53 : decode cX7_init 53 = .ok (.new 39, 3) := by decide +kernel
theorem dX7_init_56 : decode cX7_init 56 = .ok (.dup, 1) := by decide +kernel
theorem dX7_init_57 : decode cX7_init 57 = .ok (.invokespecial 41, 3) := by decide +kernel
theorem dX7_init_60 : decode cX7_init 60 = .ok (.putfield 42, 3) := by decide +kernel
theorem dX7_init_63 : decode cX7_init 63 = .ok (.aload_n 0, 1) := by decide +kernel
theorem dX7_init_64 : decode cX7_init 64 = .ok (.new 46, 3) := by decide +kernel
theorem dX7_init_67 : decode cX7_init 67 = .ok (.dup, 1) := by decide +kernel
theorem dX7_init_68 : decode cX7_init 68 = .ok (.aload_n 0, 1) := by decide +kernel
theorem dX7_init_69 : decode cX7_init 69 = .ok (.getfield 10, 3) := by decide +kernel
theorem dX7_init_72 : decode cX7_init 72 = .ok (.aload_n 0, 1) := by decide +kernel
theorem dX7_init_73 : decode cX7_init 73 = .ok (.getfield 28, 3) := by decide +kernel
theorem dX7_init_76 : decode cX7_init 76 = .ok (.invokespecial 48, 3) := by decide +kernel
theorem dX7_init_79 : decode cX7_init 79 = .ok (.putfield 51, 3) := by decide +kernel
theorem dX7_init_82 : decode cX7_init 82 = .ok (.aload_n 0, 1) := by decide +kernel
theorem dX7_init_83 : decode cX7_init 83 = .ok (.new 55, 3) := by decide +kernel
theorem dX7_init_86 : decode cX7_init 86 = .ok (.dup, 1) := by decide +kernel
theorem dX7_init_87 : decode cX7_init 87 = .ok (.aload_n 0, 1) := by decide +kernel
theorem dX7_init_88 : decode cX7_init 88 = .ok (.getfield 10, 3) := by decide +kernel
theorem dX7_init_91 : decode cX7_init 91 = .ok (.aload_n 0, 1) := by decide +kernel
theorem dX7_init_92 : decode cX7_init 92 = .ok (.getfield 28, 3) := by decide +kernel
theorem dX7_init_95 : decode cX7_init 95 = .ok (.aload_n 0, 1) := by decide +kernel
theorem dX7_init_96 : decode cX7_init 96 = .ok (.getfield 42, 3) := by decide +kernel
theorem dX7_init_99 : decode cX7_init 99 = .ok (.invokespecial 57, 3) := by decide +kernel
theorem dX7_init_102 : decode cX7_init 102 = .ok (.putfield 60, 3) := by decide +kernel
theorem dX7_init_105 : decode cX7_init 105 = .ok (.aload_n 0, 1) := by decide +kernel
theorem dX7_init_106 : decode cX7_init 106 = .ok (.iconst 0, 1) := by decide +kernel
theorem dX7_init_107 : decode cX7_init 107 = .ok (.putfield 64, 3) := by decide +kernel
theorem dX7_init_110 : decode cX7_init 110 = .ok (.aload_n 0, 1) := by decide +kernel
theorem dX7_init_111 : decode cX7_init 111 = .ok (.iconst 0, 1) := by decide +kernel
theorem dX7_init_112 : decode cX7_init 112 = .ok (.putfield 68, 3) := by decide +kernel
theorem dX7_init_115 : decode cX7_init 115 = .ok (.return_, 1) := by decide +kernel
set_option maxRecDepth 20000 in
theorem ggX7_key_X3_size : GoodIn wsX7_key wsX3_size := goodIn_r _ [10, 11, 21, 22, 23] (by decide +kernel) (by decide +kernel)
set_option maxRecDepth 20000 in
theorem gX7_key_X3_size : GoodIn wsX7_key (wsV RX7 89 RX3 yX3_size wsX3_size) := goodIn_app (goodIn_of _ (by decide +kernel)) ggX7_key_X3_size
theorem dX7_key_0 : decode cX7_key 0 = .ok (.iload_n 1, 1) := by decide +kernel
theorem dX7_key_1 : decode cX7_key 1 = .ok (.invokestatic 71, 3) := by decide +kernel
theorem dX7_key_4 : decode cX7_key 4 = .ok (.ifCond .ne 11, 3) := by decide +kernel
theorem dX7_key_7 : decode cX7_key 7 = .ok (.new 75, 3) := by decide +kernel
theorem dX7_key_10 : decode cX7_key 10 = .ok (.dup, 1) := by decide +kernel
theorem dX7_key_11 : decode cX7_key 11 = .ok (.invokespecial 77, 3) := by decide +kernel
theorem dX7_key_14 : decode cX7_key 14 = .ok (.athrow, 1) := by decide +kernel
theorem dX7_key_15 : decode cX7_key 15 = .ok (.aload_n 0, 1) := by decide +kernel
theorem dX7_key_16 : decode cX7_key 16 = .ok (.getfield 35, 3) := by decide +kernel
theorem dX7_key_19 : decode cX7_key 19 = .ok (.invokevirtual 78, 3) := by decide +kernel
theorem dX7_key_22 : decode cX7_key 22 = .ok (.ifCond .eq 11, 3) := by decide +kernel
theorem dX7_key_25 : decode cX7_key 25 = .ok (.new 82, 3) := by decide +kernel
theorem dX7_key_28 : decode cX7_key 28 = .ok (.dup, 1) := by decide +kernel
theorem dX7_key_29 : decode cX7_key 29 = .ok (.invokespecial 84, 3) := by decide +kernel
theorem dX7_key_32 : decode cX7_key 32 = .ok (.athrow, 1) := by decide +kernel
theorem dX7_key_33 : decode cX7_key 33 = .ok (.aload_n 0, 1) := by decide +kernel
theorem dX7_key_34 : decode cX7_key 34 = .ok (.getfield 35, 3) := by decide +kernel
theorem dX7_key_37 : decode cX7_key 37 = .ok (.iload_n 1, 1) := by decide +kernel
theorem dX7_key_38 : decode cX7_key 38 = .ok (.invokevirtual 85, 3) := by decide +kernel
theorem dX7_key_41 : decode cX7_key 41 = .ok (.aload_n 0, 1) := by decide +kernel
theorem dX7_key_42 : decode cX7_key 42 = .ok (.getfield 35, 3) := by decide +kernel
theorem dX7_key_45 : decode cX7_key 45 = .ok (.invokevirtual 89, 3) := by decide +kernel
theorem dX7_key_48 : decode cX7_key 48 = .ok (.ireturn, 1) := by decide +kernel
set_option maxRecDepth 20000 in
theorem ggX7_shown_X6_last : GoodIn wsX7_shown wsX6_last := goodIn_r _ [6, 7, 8, 18, 19] (by decide +kernel) (by decide +kernel)
set_option maxRecDepth 20000 in
theorem gX7_shown_X6_last : GoodIn wsX7_shown (wsV RX7 120 RX6 yX6_last wsX6_last) := goodIn_app (goodIn_of _ (by decide +kernel)) ggX7_shown_X6_last
theorem dX7_shown_0 : decode cX7_shown 0 = .ok (.aload_n 0, 1) := by decide +kernel
theorem dX7_shown_1 : decode cX7_shown 1 = .ok (.getfield 42, 3) := by decide +kernel
theorem dX7_shown_4 : decode cX7_shown 4 = .ok (.iload_n 1, 1) := by decide +kernel
theorem dX7_shown_5 : decode cX7_shown 5 = .ok (.invokevirtual 120, 3) := by decide +kernel
theorem dX7_shown_8 : decode cX7_shown 8 = .ok (.ireturn, 1) := by decide +kernel
set_option maxRecDepth 20000 in
theorem ggX7_register_X5_flags : GoodIn wsX7_register wsX5_flags := goodIn_r _ [11, 12, 13, 14, 15, 16, 26, 27, 28, 29, 30, 31, 32, 33, 34] (by decide +kernel) (by decide +kernel)
set_option maxRecDepth 20000 in
theorem gX7_register_X5_flags : GoodIn wsX7_register (wsV RX7 123 RX5 yX5_flags wsX5_flags) := goodIn_app (goodIn_of _ (by decide +kernel)) ggX7_register_X5_flags
theorem dX7_register_0 : decode cX7_register 0 = .ok (.iload_n 1, 1) := by decide +kernel
theorem dX7_register_1 : decode cX7_register 1 = .ok (.tableswitch 67 6 10 #[35, 67, 43, 51, 59], 35) := by decide +kernel
theorem dX7_register_36 : decode cX7_register 36 = .ok (.aload_n 0, 1) := by decide +kernel
theorem dX7_register_37 : decode cX7_register 37 = .ok (.getfield 21, 3) := by decide +kernel
theorem dX7_register_40 : decode cX7_register 40 = .ok (.invokevirtual 123, 3) := by decide +kernel
theorem dX7_register_43 : decode cX7_register 43 = .ok (.ireturn, 1) := by decide +kernel
theorem dX7_register_44 : decode cX7_register 44 = .ok (.aload_n 0, 1) := by decide +kernel
theorem dX7_register_45 : decode cX7_register 45 = .ok (.getfield 21, 3) := by decide +kernel
theorem dX7_register_48 : decode cX7_register 48 = .ok (.getfield 126, 3) := by decide +kernel
theorem dX7_register_51 : decode cX7_register 51 = .ok (.ireturn, 1) := by decide +kernel
theorem dX7_register_52 : decode cX7_register 52 = .ok (.aload_n 0, 1) := by decide +kernel
theorem dX7_register_53 : decode cX7_register 53 = .ok (.getfield 21, 3) := by decide +kernel
theorem dX7_register_56 : decode cX7_register 56 = .ok (.getfield 129, 3) := by decide +kernel
theorem dX7_register_59 : decode cX7_register 59 = .ok (.ireturn, 1) := by decide +kernel
theorem dX7_register_60 : decode cX7_register 60 = .ok (.aload_n 0, 1) := by decide +kernel
theorem dX7_register_61 : decode cX7_register 61 = .ok (.getfield 51, 3) := by decide +kernel
theorem dX7_register_64 : decode cX7_register 64 = .ok (.getfield 132, 3) := by decide +kernel
theorem dX7_register_67 : decode cX7_register 67 = .ok (.ireturn, 1) := by decide +kernel
theorem dX7_register_68 : decode cX7_register 68 = .ok (.iload_n 1, 1) := by decide +kernel
theorem dX7_register_69 : decode cX7_register 69 = .ok (.ifCond .lt 21, 3) := by decide +kernel
theorem dX7_register_72 : decode cX7_register 72 = .ok (.iload_n 1, 1) := by decide +kernel
theorem dX7_register_73 : decode cX7_register 73 = .ok (.bipush 8, 2) := by decide +kernel
theorem dX7_register_75 : decode cX7_register 75 = .ok (.if_icmp .ge 15, 3) := by decide +kernel
theorem dX7_register_78 : decode cX7_register 78 = .ok (.aload_n 0, 1) := by decide +kernel
theorem dX7_register_79 : decode cX7_register 79 = .ok (.getfield 21, 3) := by decide +kernel
theorem dX7_register_82 : decode cX7_register 82 = .ok (.getfield 135, 3) := by decide +kernel
theorem dX7_register_85 : decode cX7_register 85 = .ok (.iload_n 1, 1) := by decide +kernel
theorem dX7_register_86 : decode cX7_register 86 = .ok (.iaload, 1) := by decide +kernel
theorem dX7_register_87 : decode cX7_register 87 = .ok (.goto 4, 3) := by decide +kernel
theorem dX7_register_90 : decode cX7_register 90 = .ok (.iconst (-1), 1) := by decide +kernel
theorem dX7_register_91 : decode cX7_register 91 = .ok (.ireturn, 1) := by decide +kernel
set_option maxRecDepth 20000 in
theorem ggX7_about_X3_size : GoodIn wsX7_about wsX3_size := goodIn_r _ [12, 13, 34, 35, 36] (by decide +kernel) (by decide +kernel)
set_option maxRecDepth 20000 in
theorem gX7_about_X3_size : GoodIn wsX7_about (wsV RX7 89 RX3 yX3_size wsX3_size) := goodIn_app (goodIn_of _ (by decide +kernel)) ggX7_about_X3_size
theorem dX7_about_0 : decode cX7_about 0 = .ok (.iload_n 1, 1) := by decide +kernel
theorem dX7_about_1 : decode cX7_about 1 = .ok (.tableswitch 69 0 4 #[35, 40, 48, 56, 61], 35) := by decide +kernel
theorem dX7_about_36 : decode cX7_about 36 = .ok (.aload_n 0, 1) := by decide +kernel
theorem dX7_about_37 : decode cX7_about 37 = .ok (.getfield 64, 3) := by decide +kernel
theorem dX7_about_40 : decode cX7_about 40 = .ok (.ireturn, 1) := by decide +kernel
theorem dX7_about_41 : decode cX7_about 41 = .ok (.aload_n 0, 1) := by decide +kernel
theorem dX7_about_42 : decode cX7_about 42 = .ok (.getfield 35, 3) := by decide +kernel
theorem dX7_about_45 : decode cX7_about 45 = .ok (.invokevirtual 89, 3) := by decide +kernel
theorem dX7_about_48 : decode cX7_about 48 = .ok (.ireturn, 1) := by decide +kernel
theorem dX7_about_49 : decode cX7_about 49 = .ok (.aload_n 0, 1) := by decide +kernel
theorem dX7_about_50 : decode cX7_about 50 = .ok (.getfield 42, 3) := by decide +kernel
theorem dX7_about_53 : decode cX7_about 53 = .ok (.getfield 139, 3) := by decide +kernel
theorem dX7_about_56 : decode cX7_about 56 = .ok (.ireturn, 1) := by decide +kernel
theorem dX7_about_57 : decode cX7_about 57 = .ok (.aload_n 0, 1) := by decide +kernel
theorem dX7_about_58 : decode cX7_about 58 = .ok (.getfield 68, 3) := by decide +kernel
theorem dX7_about_61 : decode cX7_about 61 = .ok (.ireturn, 1) := by decide +kernel
theorem dX7_about_62 : decode cX7_about 62 = .ok (.aload_n 0, 1) := by decide +kernel
theorem dX7_about_63 : decode cX7_about 63 = .ok (.getfield 60, 3) := by decide +kernel
theorem dX7_about_66 : decode cX7_about 66 = .ok (.getfield 142, 3) := by decide +kernel
theorem dX7_about_69 : decode cX7_about 69 = .ok (.ireturn, 1) := by decide +kernel
theorem dX7_about_70 : decode cX7_about 70 = .ok (.iconst (-1), 1) := by decide +kernel
theorem dX7_about_71 : decode cX7_about 71 = .ok (.ireturn, 1) := by decide +kernel
theorem dL_key_0 : decode cL_key 0 = .ok (.aload_n 2, 1) := by decide +kernel
theorem dL_key_1 : decode cL_key 1 = .ok (.iconst 0, 1) := by decide +kernel
theorem dL_key_2 : decode cL_key 2 = .ok (.aload_n 0, 1) := by decide +kernel
theorem dL_key_3 : decode cL_key 3 = .ok (.iload_n 1, 1) := by decide +kernel
theorem dL_key_4 : decode cL_key 4 = .ok (.invokevirtual 7, 3) := by decide +kernel
theorem dL_key_7 : decode cL_key 7 = .ok (.i2l, 1) := by decide +kernel
theorem dL_key_8 : decode cL_key 8 = .ok (.lastore, 1) := by decide +kernel
theorem dL_key_9 : decode cL_key 9 = .ok (.goto 9, 3) := by decide +kernel
theorem dL_key_12 : decode cL_key 12 = .ok (.astore_n 3, 1) := by decide +kernel
theorem dL_key_13 : decode cL_key 13 = .ok (.iconst 1, 1) := by decide +kernel
theorem dL_key_14 : decode cL_key 14 = .ok (.ireturn, 1) := by decide +kernel
theorem dL_key_15 : decode cL_key 15 = .ok (.astore_n 3, 1) := by decide +kernel
theorem dL_key_16 : decode cL_key 16 = .ok (.iconst 2, 1) := by decide +kernel
theorem dL_key_17 : decode cL_key 17 = .ok (.ireturn, 1) := by decide +kernel
theorem dL_key_18 : decode cL_key 18 = .ok (.iconst 0, 1) := by decide +kernel
theorem dL_key_19 : decode cL_key 19 = .ok (.ireturn, 1) := by decide +kernel
theorem dL_law_0 : decode cL_law 0 = .ok (.new 8, 3) := by decide +kernel
theorem dL_law_3 : decode cL_law 3 = .ok (.dup, 1) := by decide +kernel
theorem dL_law_4 : decode cL_law 4 = .ok (.invokespecial 35, 3) := by decide +kernel
theorem dL_law_7 : decode cL_law 7 = .ok (.astore_n 1, 1) := by decide +kernel
theorem dL_law_8 : decode cL_law 8 = .ok (.new 36, 3) := by decide +kernel
theorem dL_law_11 : decode cL_law 11 = .ok (.dup, 1) := by decide +kernel
theorem dL_law_12 : decode cL_law 12 = .ok (.invokespecial 38, 3) := by decide +kernel
theorem dL_law_15 : decode cL_law 15 = .ok (.astore_n 2, 1) := by decide +kernel
theorem dL_law_16 : decode cL_law 16 = .ok (.iconst 1, 1) := by decide +kernel
theorem dL_law_17 : decode cL_law 17 = .ok (.newarray .long, 2) := by decide +kernel
theorem dL_law_19 : decode cL_law 19 = .ok (.astore_n 3, 1) := by decide +kernel
theorem dL_law_20 : decode cL_law 20 = .ok (.iconst 0, 1) := by decide +kernel
theorem dL_law_21 : decode cL_law 21 = .ok (.istore 4, 2) := by decide +kernel
theorem dL_law_23 : decode cL_law 23 = .ok (.iload 4, 2) := by decide +kernel
theorem dL_law_25 : decode cL_law 25 = .ok (.aload_n 0, 1) := by decide +kernel
theorem dL_law_26 : decode cL_law 26 = .ok (.arraylength, 1) := by decide +kernel
theorem dL_law_27 : decode cL_law 27 = .ok (.iconst 4, 1) := by decide +kernel
theorem dL_law_28 : decode cL_law 28 = .ok (.isub, 1) := by decide +kernel
theorem dL_law_29 : decode cL_law 29 = .ok (.if_icmp .gt 538, 3) := by decide +kernel
theorem dL_law_32 : decode cL_law 32 = .ok (.aload_n 0, 1) := by decide +kernel
theorem dL_law_33 : decode cL_law 33 = .ok (.iload 4, 2) := by decide +kernel
theorem dL_law_35 : decode cL_law 35 = .ok (.iaload, 1) := by decide +kernel
theorem dL_law_36 : decode cL_law 36 = .ok (.bipush 15, 2) := by decide +kernel
theorem dL_law_38 : decode cL_law 38 = .ok (.iand, 1) := by decide +kernel
theorem dL_law_39 : decode cL_law 39 = .ok (.tableswitch 522 0 8 #[49, 105, 161, 236, 292, 360, 447, 472, 497], 49) := by decide +kernel
theorem dL_law_88 : decode cL_law 88 = .ok (.aload_n 1, 1) := by decide +kernel
theorem dL_law_89 : decode cL_law 89 = .ok (.aload_n 0, 1) := by decide +kernel
theorem dL_law_90 : decode cL_law 90 = .ok (.iload 4, 2) := by decide +kernel
theorem dL_law_92 : decode cL_law 92 = .ok (.iconst 1, 1) := by decide +kernel
theorem dL_law_93 : decode cL_law 93 = .ok (.iadd, 1) := by decide +kernel
theorem dL_law_94 : decode cL_law 94 = .ok (.iaload, 1) := by decide +kernel
theorem dL_law_95 : decode cL_law 95 = .ok (.aload_n 3, 1) := by decide +kernel
theorem dL_law_96 : decode cL_law 96 = .ok (.invokestatic 39, 3) := by decide +kernel
theorem dL_law_99 : decode cL_law 99 = .ok (.istore 5, 2) := by decide +kernel
theorem dL_law_101 : decode cL_law 101 = .ok (.aload_n 2, 1) := by decide +kernel
theorem dL_law_102 : decode cL_law 102 = .ok (.aload_n 0, 1) := by decide +kernel
theorem dL_law_103 : decode cL_law 103 = .ok (.iload 4, 2) := by decide +kernel
theorem dL_law_105 : decode cL_law 105 = .ok (.iconst 1, 1) := by decide +kernel
theorem dL_law_106 : decode cL_law 106 = .ok (.iadd, 1) := by decide +kernel
theorem dL_law_107 : decode cL_law 107 = .ok (.iaload, 1) := by decide +kernel
theorem dL_law_108 : decode cL_law 108 = .ok (.invokevirtual 44, 3) := by decide +kernel
theorem dL_law_111 : decode cL_law 111 = .ok (.istore 6, 2) := by decide +kernel
theorem dL_law_113 : decode cL_law 113 = .ok (.aload_n 2, 1) := by decide +kernel
theorem dL_law_114 : decode cL_law 114 = .ok (.invokevirtual 45, 3) := by decide +kernel
theorem dL_law_117 : decode cL_law 117 = .ok (.iload 5, 2) := by decide +kernel
theorem dL_law_119 : decode cL_law 119 = .ok (.if_icmp .eq 5, 3) := by decide +kernel
theorem dL_law_122 : decode cL_law 122 = .ok (.iconst 0, 1) := by decide +kernel
theorem dL_law_123 : decode cL_law 123 = .ok (.ireturn, 1) := by decide +kernel
theorem dL_law_124 : decode cL_law 124 = .ok (.iload 5, 2) := by decide +kernel
theorem dL_law_126 : decode cL_law 126 = .ok (.ifCond .ne 15, 3) := by decide +kernel
theorem dL_law_129 : decode cL_law 129 = .ok (.aload_n 3, 1) := by decide +kernel
theorem dL_law_130 : decode cL_law 130 = .ok (.iconst 0, 1) := by decide +kernel
theorem dL_law_131 : decode cL_law 131 = .ok (.laload, 1) := by decide +kernel
theorem dL_law_132 : decode cL_law 132 = .ok (.iload 6, 2) := by decide +kernel
theorem dL_law_134 : decode cL_law 134 = .ok (.i2l, 1) := by decide +kernel
theorem dL_law_135 : decode cL_law 135 = .ok (.lcmp, 1) := by decide +kernel
theorem dL_law_136 : decode cL_law 136 = .ok (.ifCond .eq 5, 3) := by decide +kernel
theorem dL_law_139 : decode cL_law 139 = .ok (.iconst 0, 1) := by decide +kernel
theorem dL_law_140 : decode cL_law 140 = .ok (.ireturn, 1) := by decide +kernel
theorem dL_law_141 : decode cL_law 141 = .ok (.goto 420, 3) := by decide +kernel
theorem dL_law_144 : decode cL_law 144 = .ok (.aload_n 1, 1) := by decide +kernel
theorem dL_law_145 : decode cL_law 145 = .ok (.aload_n 0, 1) := by decide +kernel
theorem dL_law_146 : decode cL_law 146 = .ok (.iload 4, 2) := by decide +kernel
theorem dL_law_148 : decode cL_law 148 = .ok (.iconst 1, 1) := by decide +kernel
theorem dL_law_149 : decode cL_law 149 = .ok (.iadd, 1) := by decide +kernel
theorem dL_law_150 : decode cL_law 150 = .ok (.iaload, 1) := by decide +kernel
theorem dL_law_151 : decode cL_law 151 = .ok (.aload_n 3, 1) := by decide +kernel
theorem dL_law_152 : decode cL_law 152 = .ok (.invokestatic 49, 3) := by decide +kernel
theorem dL_law_155 : decode cL_law 155 = .ok (.istore 5, 2) := by decide +kernel
theorem dL_law_157 : decode cL_law 157 = .ok (.aload_n 2, 1) := by decide +kernel
theorem dL_law_158 : decode cL_law 158 = .ok (.aload_n 0, 1) := by decide +kernel
theorem dL_law_159 : decode cL_law 159 = .ok (.iload 4, 2) := by decide +kernel
theorem dL_law_161 : decode cL_law 161 = .ok (.iconst 1, 1) := by decide +kernel
theorem dL_law_162 : decode cL_law 162 = .ok (.iadd, 1) := by decide +kernel
theorem dL_law_163 : decode cL_law 163 = .ok (.iaload, 1) := by decide +kernel
theorem dL_law_164 : decode cL_law 164 = .ok (.invokevirtual 51, 3) := by decide +kernel
theorem dL_law_167 : decode cL_law 167 = .ok (.istore 6, 2) := by decide +kernel
theorem dL_law_169 : decode cL_law 169 = .ok (.aload_n 2, 1) := by decide +kernel
theorem dL_law_170 : decode cL_law 170 = .ok (.invokevirtual 45, 3) := by decide +kernel
theorem dL_law_173 : decode cL_law 173 = .ok (.iload 5, 2) := by decide +kernel
theorem dL_law_175 : decode cL_law 175 = .ok (.if_icmp .eq 5, 3) := by decide +kernel
theorem dL_law_178 : decode cL_law 178 = .ok (.iconst 0, 1) := by decide +kernel
theorem dL_law_179 : decode cL_law 179 = .ok (.ireturn, 1) := by decide +kernel
theorem dL_law_180 : decode cL_law 180 = .ok (.iload 5, 2) := by decide +kernel
theorem dL_law_182 : decode cL_law 182 = .ok (.ifCond .ne 15, 3) := by decide +kernel
theorem dL_law_185 : decode cL_law 185 = .ok (.aload_n 3, 1) := by decide +kernel
theorem dL_law_186 : decode cL_law 186 = .ok (.iconst 0, 1) := by decide +kernel
theorem dL_law_187 : decode cL_law 187 = .ok (.laload, 1) := by decide +kernel
theorem dL_law_188 : decode cL_law 188 = .ok (.iload 6, 2) := by decide +kernel
theorem dL_law_190 : decode cL_law 190 = .ok (.i2l, 1) := by decide +kernel
theorem dL_law_191 : decode cL_law 191 = .ok (.lcmp, 1) := by decide +kernel
theorem dL_law_192 : decode cL_law 192 = .ok (.ifCond .eq 5, 3) := by decide +kernel
theorem dL_law_195 : decode cL_law 195 = .ok (.iconst 0, 1) := by decide +kernel
theorem dL_law_196 : decode cL_law 196 = .ok (.ireturn, 1) := by decide +kernel
theorem dL_law_197 : decode cL_law 197 = .ok (.goto 364, 3) := by decide +kernel
theorem dL_law_200 : decode cL_law 200 = .ok (.aload_n 1, 1) := by decide +kernel
theorem dL_law_201 : decode cL_law 201 = .ok (.aload_n 0, 1) := by decide +kernel
theorem dL_law_202 : decode cL_law 202 = .ok (.iload 4, 2) := by decide +kernel
theorem dL_law_204 : decode cL_law 204 = .ok (.iconst 1, 1) := by decide +kernel
theorem dL_law_205 : decode cL_law 205 = .ok (.iadd, 1) := by decide +kernel
theorem dL_law_206 : decode cL_law 206 = .ok (.iaload, 1) := by decide +kernel
theorem dL_law_207 : decode cL_law 207 = .ok (.aload_n 0, 1) := by decide +kernel
theorem dL_law_208 : decode cL_law 208 = .ok (.iload 4, 2) := by decide +kernel
theorem dL_law_210 : decode cL_law 210 = .ok (.iconst 2, 1) := by decide +kernel
theorem dL_law_211 : decode cL_law 211 = .ok (.iadd, 1) := by decide +kernel
theorem dL_law_212 : decode cL_law 212 = .ok (.iaload, 1) := by decide +kernel
theorem dL_law_213 : decode cL_law 213 = .ok (.aload_n 3, 1) := by decide +kernel
theorem dL_law_214 : decode cL_law 214 = .ok (.invokestatic 52, 3) := by decide +kernel
theorem dL_law_217 : decode cL_law 217 = .ok (.istore 5, 2) := by decide +kernel
theorem dL_law_219 : decode cL_law 219 = .ok (.aload_n 2, 1) := by decide +kernel
theorem dL_law_220 : decode cL_law 220 = .ok (.aload_n 0, 1) := by decide +kernel
theorem dL_law_221 : decode cL_law 221 = .ok (.iload 4, 2) := by decide +kernel
theorem dL_law_223 : decode cL_law 223 = .ok (.iconst 1, 1) := by decide +kernel
theorem dL_law_224 : decode cL_law 224 = .ok (.iadd, 1) := by decide +kernel
theorem dL_law_225 : decode cL_law 225 = .ok (.iaload, 1) := by decide +kernel
theorem dL_law_226 : decode cL_law 226 = .ok (.aload_n 0, 1) := by decide +kernel
theorem dL_law_227 : decode cL_law 227 = .ok (.iload 4, 2) := by decide +kernel
theorem dL_law_229 : decode cL_law 229 = .ok (.iconst 2, 1) := by decide +kernel
theorem dL_law_230 : decode cL_law 230 = .ok (.iadd, 1) := by decide +kernel
theorem dL_law_231 : decode cL_law 231 = .ok (.iaload, 1) := by decide +kernel
theorem dL_law_232 : decode cL_law 232 = .ok (.invokevirtual 55, 3) := by decide +kernel
theorem dL_law_235 : decode cL_law 235 = .ok (.istore 6, 2) := by decide +kernel
theorem dL_law_237 : decode cL_law 237 = .ok (.aload_n 2, 1) := by decide +kernel
theorem dL_law_238 : decode cL_law 238 = .ok (.invokevirtual 45, 3) := by decide +kernel
theorem dL_law_241 : decode cL_law 241 = .ok (.iload 5, 2) := by decide +kernel
theorem dL_law_243 : decode cL_law 243 = .ok (.if_icmp .eq 5, 3) := by decide +kernel
theorem dL_law_246 : decode cL_law 246 = .ok (.iconst 0, 1) := by decide +kernel
theorem dL_law_247 : decode cL_law 247 = .ok (.ireturn, 1) := by decide +kernel
theorem dL_law_248 : decode cL_law 248 = .ok (.iload 5, 2) := by decide +kernel
theorem dL_law_250 : decode cL_law 250 = .ok (.ifCond .ne 22, 3) := by decide +kernel
theorem dL_law_253 : decode cL_law 253 = .ok (.aload_n 3, 1) := by decide +kernel
theorem dL_law_254 : decode cL_law 254 = .ok (.iconst 0, 1) := by decide +kernel
theorem dL_law_255 : decode cL_law 255 = .ok (.laload, 1) := by decide +kernel
theorem dL_law_256 : decode cL_law 256 = .ok (.iload 6, 2) := by decide +kernel
theorem dL_law_258 : decode cL_law 258 = .ok (.ifCond .eq 7, 3) := by decide +kernel
theorem dL_law_261 : decode cL_law 261 = .ok (.lconst 1, 1) := by decide +kernel
theorem dL_law_262 : decode cL_law 262 = .ok (.goto 4, 3) := by decide +kernel
theorem dL_law_265 : decode cL_law 265 = .ok (.lconst 0, 1) := by decide +kernel
theorem dL_law_266 : decode cL_law 266 = .ok (.lcmp, 1) := by decide +kernel
theorem dL_law_267 : decode cL_law 267 = .ok (.ifCond .eq 5, 3) := by decide +kernel
theorem dL_law_270 : decode cL_law 270 = .ok (.iconst 0, 1) := by decide +kernel
theorem dL_law_271 : decode cL_law 271 = .ok (.ireturn, 1) := by decide +kernel
theorem dL_law_272 : decode cL_law 272 = .ok (.goto 289, 3) := by decide +kernel
theorem dL_law_275 : decode cL_law 275 = .ok (.aload_n 1, 1) := by decide +kernel
theorem dL_law_276 : decode cL_law 276 = .ok (.aload_n 0, 1) := by decide +kernel
theorem dL_law_277 : decode cL_law 277 = .ok (.iload 4, 2) := by decide +kernel
theorem dL_law_279 : decode cL_law 279 = .ok (.iconst 1, 1) := by decide +kernel
theorem dL_law_280 : decode cL_law 280 = .ok (.iadd, 1) := by decide +kernel
theorem dL_law_281 : decode cL_law 281 = .ok (.iaload, 1) := by decide +kernel
theorem dL_law_282 : decode cL_law 282 = .ok (.aload_n 3, 1) := by decide +kernel
theorem dL_law_283 : decode cL_law 283 = .ok (.invokestatic 56, 3) := by decide +kernel
theorem dL_law_286 : decode cL_law 286 = .ok (.istore 5, 2) := by decide +kernel
theorem dL_law_288 : decode cL_law 288 = .ok (.aload_n 2, 1) := by decide +kernel
theorem dL_law_289 : decode cL_law 289 = .ok (.aload_n 0, 1) := by decide +kernel
theorem dL_law_290 : decode cL_law 290 = .ok (.iload 4, 2) := by decide +kernel
theorem dL_law_292 : decode cL_law 292 = .ok (.iconst 1, 1) := by decide +kernel
theorem dL_law_293 : decode cL_law 293 = .ok (.iadd, 1) := by decide +kernel
theorem dL_law_294 : decode cL_law 294 = .ok (.iaload, 1) := by decide +kernel
theorem dL_law_295 : decode cL_law 295 = .ok (.invokevirtual 58, 3) := by decide +kernel
theorem dL_law_298 : decode cL_law 298 = .ok (.istore 6, 2) := by decide +kernel
theorem dL_law_300 : decode cL_law 300 = .ok (.aload_n 2, 1) := by decide +kernel
theorem dL_law_301 : decode cL_law 301 = .ok (.invokevirtual 45, 3) := by decide +kernel
theorem dL_law_304 : decode cL_law 304 = .ok (.iload 5, 2) := by decide +kernel
theorem dL_law_306 : decode cL_law 306 = .ok (.if_icmp .eq 5, 3) := by decide +kernel
theorem dL_law_309 : decode cL_law 309 = .ok (.iconst 0, 1) := by decide +kernel
theorem dL_law_310 : decode cL_law 310 = .ok (.ireturn, 1) := by decide +kernel
theorem dL_law_311 : decode cL_law 311 = .ok (.iload 5, 2) := by decide +kernel
theorem dL_law_313 : decode cL_law 313 = .ok (.ifCond .ne 15, 3) := by decide +kernel
theorem dL_law_316 : decode cL_law 316 = .ok (.aload_n 3, 1) := by decide +kernel
theorem dL_law_317 : decode cL_law 317 = .ok (.iconst 0, 1) := by decide +kernel
theorem dL_law_318 : decode cL_law 318 = .ok (.laload, 1) := by decide +kernel
theorem dL_law_319 : decode cL_law 319 = .ok (.iload 6, 2) := by decide +kernel
theorem dL_law_321 : decode cL_law 321 = .ok (.i2l, 1) := by decide +kernel
theorem dL_law_322 : decode cL_law 322 = .ok (.lcmp, 1) := by decide +kernel
theorem dL_law_323 : decode cL_law 323 = .ok (.ifCond .eq 5, 3) := by decide +kernel
theorem dL_law_326 : decode cL_law 326 = .ok (.iconst 0, 1) := by decide +kernel
theorem dL_law_327 : decode cL_law 327 = .ok (.ireturn, 1) := by decide +kernel
theorem dL_law_328 : decode cL_law 328 = .ok (.goto 233, 3) := by decide +kernel
theorem dL_law_331 : decode cL_law 331 = .ok (.aload_n 1, 1) := by decide +kernel
theorem dL_law_332 : decode cL_law 332 = .ok (.aload_n 0, 1) := by decide +kernel
theorem dL_law_333 : decode cL_law 333 = .ok (.iload 4, 2) := by decide +kernel
theorem dL_law_335 : decode cL_law 335 = .ok (.iconst 1, 1) := by decide +kernel
theorem dL_law_336 : decode cL_law 336 = .ok (.iadd, 1) := by decide +kernel
theorem dL_law_337 : decode cL_law 337 = .ok (.iaload, 1) := by decide +kernel
theorem dL_law_338 : decode cL_law 338 = .ok (.aload_n 0, 1) := by decide +kernel
theorem dL_law_339 : decode cL_law 339 = .ok (.iload 4, 2) := by decide +kernel
theorem dL_law_341 : decode cL_law 341 = .ok (.iconst 2, 1) := by decide +kernel
theorem dL_law_342 : decode cL_law 342 = .ok (.iadd, 1) := by decide +kernel
theorem dL_law_343 : decode cL_law 343 = .ok (.iaload, 1) := by decide +kernel
theorem dL_law_344 : decode cL_law 344 = .ok (.aload_n 3, 1) := by decide +kernel
theorem dL_law_345 : decode cL_law 345 = .ok (.invokestatic 59, 3) := by decide +kernel
theorem dL_law_348 : decode cL_law 348 = .ok (.istore 5, 2) := by decide +kernel
theorem dL_law_350 : decode cL_law 350 = .ok (.aload_n 2, 1) := by decide +kernel
theorem dL_law_351 : decode cL_law 351 = .ok (.aload_n 0, 1) := by decide +kernel
theorem dL_law_352 : decode cL_law 352 = .ok (.iload 4, 2) := by decide +kernel
theorem dL_law_354 : decode cL_law 354 = .ok (.iconst 1, 1) := by decide +kernel
theorem dL_law_355 : decode cL_law 355 = .ok (.iadd, 1) := by decide +kernel
theorem dL_law_356 : decode cL_law 356 = .ok (.iaload, 1) := by decide +kernel
theorem dL_law_357 : decode cL_law 357 = .ok (.aload_n 0, 1) := by decide +kernel
theorem dL_law_358 : decode cL_law 358 = .ok (.iload 4, 2) := by decide +kernel
theorem dL_law_360 : decode cL_law 360 = .ok (.iconst 2, 1) := by decide +kernel
theorem dL_law_361 : decode cL_law 361 = .ok (.iadd, 1) := by decide +kernel
theorem dL_law_362 : decode cL_law 362 = .ok (.iaload, 1) := by decide +kernel
theorem dL_law_363 : decode cL_law 363 = .ok (.invokevirtual 61, 3) := by decide +kernel
theorem dL_law_366 : decode cL_law 366 = .ok (.istore 6, 2) := by decide +kernel
theorem dL_law_368 : decode cL_law 368 = .ok (.aload_n 2, 1) := by decide +kernel
theorem dL_law_369 : decode cL_law 369 = .ok (.invokevirtual 45, 3) := by decide +kernel
theorem dL_law_372 : decode cL_law 372 = .ok (.iload 5, 2) := by decide +kernel
theorem dL_law_374 : decode cL_law 374 = .ok (.if_icmp .eq 5, 3) := by decide +kernel
theorem dL_law_377 : decode cL_law 377 = .ok (.iconst 0, 1) := by decide +kernel
theorem dL_law_378 : decode cL_law 378 = .ok (.ireturn, 1) := by decide +kernel
theorem dL_law_379 : decode cL_law 379 = .ok (.iload 5, 2) := by decide +kernel
theorem dL_law_381 : decode cL_law 381 = .ok (.ifCond .ne 15, 3) := by decide +kernel
theorem dL_law_384 : decode cL_law 384 = .ok (.aload_n 3, 1) := by decide +kernel
theorem dL_law_385 : decode cL_law 385 = .ok (.iconst 0, 1) := by decide +kernel
theorem dL_law_386 : decode cL_law 386 = .ok (.laload, 1) := by decide +kernel
theorem dL_law_387 : decode cL_law 387 = .ok (.iload 6, 2) := by decide +kernel
theorem dL_law_389 : decode cL_law 389 = .ok (.i2l, 1) := by decide +kernel
theorem dL_law_390 : decode cL_law 390 = .ok (.lcmp, 1) := by decide +kernel
theorem dL_law_391 : decode cL_law 391 = .ok (.ifCond .eq 5, 3) := by decide +kernel
theorem dL_law_394 : decode cL_law 394 = .ok (.iconst 0, 1) := by decide +kernel
theorem dL_law_395 : decode cL_law 395 = .ok (.ireturn, 1) := by decide +kernel
theorem dL_law_396 : decode cL_law 396 = .ok (.goto 165, 3) := by decide +kernel
theorem dL_law_399 : decode cL_law 399 = .ok (.aload_n 1, 1) := by decide +kernel
theorem dL_law_400 : decode cL_law 400 = .ok (.aload_n 0, 1) := by decide +kernel
theorem dL_law_401 : decode cL_law 401 = .ok (.iload 4, 2) := by decide +kernel
theorem dL_law_403 : decode cL_law 403 = .ok (.iconst 1, 1) := by decide +kernel
theorem dL_law_404 : decode cL_law 404 = .ok (.iadd, 1) := by decide +kernel
theorem dL_law_405 : decode cL_law 405 = .ok (.iaload, 1) := by decide +kernel
theorem dL_law_406 : decode cL_law 406 = .ok (.aload_n 0, 1) := by decide +kernel
theorem dL_law_407 : decode cL_law 407 = .ok (.iload 4, 2) := by decide +kernel
theorem dL_law_409 : decode cL_law 409 = .ok (.iconst 2, 1) := by decide +kernel
theorem dL_law_410 : decode cL_law 410 = .ok (.iadd, 1) := by decide +kernel
theorem dL_law_411 : decode cL_law 411 = .ok (.iaload, 1) := by decide +kernel
theorem dL_law_412 : decode cL_law 412 = .ok (.aload_n 0, 1) := by decide +kernel
theorem dL_law_413 : decode cL_law 413 = .ok (.iload 4, 2) := by decide +kernel
theorem dL_law_415 : decode cL_law 415 = .ok (.iconst 3, 1) := by decide +kernel
theorem dL_law_416 : decode cL_law 416 = .ok (.iadd, 1) := by decide +kernel
theorem dL_law_417 : decode cL_law 417 = .ok (.iaload, 1) := by decide +kernel
theorem dL_law_418 : decode cL_law 418 = .ok (.aload_n 3, 1) := by decide +kernel
theorem dL_law_419 : decode cL_law 419 = .ok (.invokestatic 62, 3) := by decide +kernel
theorem dL_law_422 : decode cL_law 422 = .ok (.istore 5, 2) := by decide +kernel
theorem dL_law_424 : decode cL_law 424 = .ok (.aload_n 2, 1) := by decide +kernel
theorem dL_law_425 : decode cL_law 425 = .ok (.aload_n 0, 1) := by decide +kernel
theorem dL_law_426 : decode cL_law 426 = .ok (.iload 4, 2) := by decide +kernel
theorem dL_law_428 : decode cL_law 428 = .ok (.iconst 1, 1) := by decide +kernel
theorem dL_law_429 : decode cL_law 429 = .ok (.iadd, 1) := by decide +kernel
theorem dL_law_430 : decode cL_law 430 = .ok (.iaload, 1) := by decide +kernel
theorem dL_law_431 : decode cL_law 431 = .ok (.aload_n 0, 1) := by decide +kernel
theorem dL_law_432 : decode cL_law 432 = .ok (.iload 4, 2) := by decide +kernel
theorem dL_law_434 : decode cL_law 434 = .ok (.iconst 2, 1) := by decide +kernel
theorem dL_law_435 : decode cL_law 435 = .ok (.iadd, 1) := by decide +kernel
theorem dL_law_436 : decode cL_law 436 = .ok (.iaload, 1) := by decide +kernel
theorem dL_law_437 : decode cL_law 437 = .ok (.aload_n 0, 1) := by decide +kernel
theorem dL_law_438 : decode cL_law 438 = .ok (.iload 4, 2) := by decide +kernel
theorem dL_law_440 : decode cL_law 440 = .ok (.iconst 3, 1) := by decide +kernel
theorem dL_law_441 : decode cL_law 441 = .ok (.iadd, 1) := by decide +kernel
theorem dL_law_442 : decode cL_law 442 = .ok (.iaload, 1) := by decide +kernel
theorem dL_law_443 : decode cL_law 443 = .ok (.invokevirtual 65, 3) := by decide +kernel
theorem dL_law_446 : decode cL_law 446 = .ok (.istore 6, 2) := by decide +kernel
theorem dL_law_448 : decode cL_law 448 = .ok (.aload_n 2, 1) := by decide +kernel
theorem dL_law_449 : decode cL_law 449 = .ok (.invokevirtual 45, 3) := by decide +kernel
theorem dL_law_452 : decode cL_law 452 = .ok (.iload 5, 2) := by decide +kernel
theorem dL_law_454 : decode cL_law 454 = .ok (.if_icmp .eq 5, 3) := by decide +kernel
theorem dL_law_457 : decode cL_law 457 = .ok (.iconst 0, 1) := by decide +kernel
theorem dL_law_458 : decode cL_law 458 = .ok (.ireturn, 1) := by decide +kernel
theorem dL_law_459 : decode cL_law 459 = .ok (.iload 5, 2) := by decide +kernel
theorem dL_law_461 : decode cL_law 461 = .ok (.ifCond .ne 22, 3) := by decide +kernel
theorem dL_law_464 : decode cL_law 464 = .ok (.aload_n 3, 1) := by decide +kernel
theorem dL_law_465 : decode cL_law 465 = .ok (.iconst 0, 1) := by decide +kernel
theorem dL_law_466 : decode cL_law 466 = .ok (.laload, 1) := by decide +kernel
theorem dL_law_467 : decode cL_law 467 = .ok (.iload 6, 2) := by decide +kernel
theorem dL_law_469 : decode cL_law 469 = .ok (.ifCond .eq 7, 3) := by decide +kernel
theorem dL_law_472 : decode cL_law 472 = .ok (.lconst 1, 1) := by decide +kernel
theorem dL_law_473 : decode cL_law 473 = .ok (.goto 4, 3) := by decide +kernel
theorem dL_law_476 : decode cL_law 476 = .ok (.lconst 0, 1) := by decide +kernel
theorem dL_law_477 : decode cL_law 477 = .ok (.lcmp, 1) := by decide +kernel
theorem dL_law_478 : decode cL_law 478 = .ok (.ifCond .eq 5, 3) := by decide +kernel
theorem dL_law_481 : decode cL_law 481 = .ok (.iconst 0, 1) := by decide +kernel
theorem dL_law_482 : decode cL_law 482 = .ok (.ireturn, 1) := by decide +kernel
theorem dL_law_483 : decode cL_law 483 = .ok (.goto 78, 3) := by decide +kernel
theorem dL_law_486 : decode cL_law 486 = .ok (.aload_n 1, 1) := by decide +kernel
theorem dL_law_487 : decode cL_law 487 = .ok (.aload_n 0, 1) := by decide +kernel
theorem dL_law_488 : decode cL_law 488 = .ok (.iload 4, 2) := by decide +kernel
theorem dL_law_490 : decode cL_law 490 = .ok (.iconst 1, 1) := by decide +kernel
theorem dL_law_491 : decode cL_law 491 = .ok (.iadd, 1) := by decide +kernel
theorem dL_law_492 : decode cL_law 492 = .ok (.iaload, 1) := by decide +kernel
theorem dL_law_493 : decode cL_law 493 = .ok (.invokevirtual 66, 3) := by decide +kernel
theorem dL_law_496 : decode cL_law 496 = .ok (.aload_n 2, 1) := by decide +kernel
theorem dL_law_497 : decode cL_law 497 = .ok (.aload_n 0, 1) := by decide +kernel
theorem dL_law_498 : decode cL_law 498 = .ok (.iload 4, 2) := by decide +kernel
theorem dL_law_500 : decode cL_law 500 = .ok (.iconst 1, 1) := by decide +kernel
theorem dL_law_501 : decode cL_law 501 = .ok (.iadd, 1) := by decide +kernel
theorem dL_law_502 : decode cL_law 502 = .ok (.iaload, 1) := by decide +kernel
theorem dL_law_503 : decode cL_law 503 = .ok (.invokevirtual 69, 3) := by decide +kernel
theorem dL_law_506 : decode cL_law 506 = .ok (.if_icmp .eq 55, 3) := by decide +kernel
theorem dL_law_509 : decode cL_law 509 = .ok (.iconst 0, 1) := by decide +kernel
theorem dL_law_510 : decode cL_law 510 = .ok (.ireturn, 1) := by decide +kernel
theorem dL_law_511 : decode cL_law 511 = .ok (.aload_n 1, 1) := by decide +kernel
theorem dL_law_512 : decode cL_law 512 = .ok (.aload_n 0, 1) := by decide +kernel
theorem dL_law_513 : decode cL_law 513 = .ok (.iload 4, 2) := by decide +kernel
theorem dL_law_515 : decode cL_law 515 = .ok (.iconst 1, 1) := by decide +kernel
theorem dL_law_516 : decode cL_law 516 = .ok (.iadd, 1) := by decide +kernel
theorem dL_law_517 : decode cL_law 517 = .ok (.iaload, 1) := by decide +kernel
theorem dL_law_518 : decode cL_law 518 = .ok (.invokevirtual 70, 3) := by decide +kernel
theorem dL_law_521 : decode cL_law 521 = .ok (.aload_n 2, 1) := by decide +kernel
theorem dL_law_522 : decode cL_law 522 = .ok (.aload_n 0, 1) := by decide +kernel
theorem dL_law_523 : decode cL_law 523 = .ok (.iload 4, 2) := by decide +kernel
theorem dL_law_525 : decode cL_law 525 = .ok (.iconst 1, 1) := by decide +kernel
theorem dL_law_526 : decode cL_law 526 = .ok (.iadd, 1) := by decide +kernel
theorem dL_law_527 : decode cL_law 527 = .ok (.iaload, 1) := by decide +kernel
theorem dL_law_528 : decode cL_law 528 = .ok (.invokevirtual 73, 3) := by decide +kernel
theorem dL_law_531 : decode cL_law 531 = .ok (.if_icmp .eq 30, 3) := by decide +kernel
theorem dL_law_534 : decode cL_law 534 = .ok (.iconst 0, 1) := by decide +kernel
theorem dL_law_535 : decode cL_law 535 = .ok (.ireturn, 1) := by decide +kernel
theorem dL_law_536 : decode cL_law 536 = .ok (.aload_n 1, 1) := by decide +kernel
theorem dL_law_537 : decode cL_law 537 = .ok (.aload_n 0, 1) := by decide +kernel
theorem dL_law_538 : decode cL_law 538 = .ok (.iload 4, 2) := by decide +kernel
theorem dL_law_540 : decode cL_law 540 = .ok (.iconst 1, 1) := by decide +kernel
theorem dL_law_541 : decode cL_law 541 = .ok (.iadd, 1) := by decide +kernel
theorem dL_law_542 : decode cL_law 542 = .ok (.iaload, 1) := by decide +kernel
theorem dL_law_543 : decode cL_law 543 = .ok (.invokevirtual 74, 3) := by decide +kernel
theorem dL_law_546 : decode cL_law 546 = .ok (.aload_n 2, 1) := by decide +kernel
theorem dL_law_547 : decode cL_law 547 = .ok (.aload_n 0, 1) := by decide +kernel
theorem dL_law_548 : decode cL_law 548 = .ok (.iload 4, 2) := by decide +kernel
theorem dL_law_550 : decode cL_law 550 = .ok (.iconst 1, 1) := by decide +kernel
theorem dL_law_551 : decode cL_law 551 = .ok (.iadd, 1) := by decide +kernel
theorem dL_law_552 : decode cL_law 552 = .ok (.iaload, 1) := by decide +kernel
theorem dL_law_553 : decode cL_law 553 = .ok (.invokevirtual 77, 3) := by decide +kernel
theorem dL_law_556 : decode cL_law 556 = .ok (.if_icmp .eq 5, 3) := by decide +kernel
theorem dL_law_559 : decode cL_law 559 = .ok (.iconst 0, 1) := by decide +kernel
theorem dL_law_560 : decode cL_law 560 = .ok (.ireturn, 1) := by decide +kernel
theorem dL_law_561 : decode cL_law 561 = .ok (.iinc 4 4, 3) := by decide +kernel
theorem dL_law_564 : decode cL_law 564 = .ok (.goto (-541), 3) := by decide +kernel
theorem dL_law_567 : decode cL_law 567 = .ok (.iconst 1, 1) := by decide +kernel
theorem dL_law_568 : decode cL_law 568 = .ok (.ireturn, 1) := by decide +kernel
abbrev vwCl : List vw_C := [(RX0, TX0, 9), (RX1, TX1, 2), (RX2, TX2, 5), (RX3, TX3, 3), (RX4, TX4, 1), (RX5, TX5, 9), (RX6, TX6, 2), (RX7, TX7, 9)]
end
section
/-! The small machine: a store of numbers (object, place) over objects whose shape stays; a step an instruction; blocks between cuts; runs; methods by their depth. -/
abbrev xS : Type := Nat → Nat → Int32
abbrev xL : Type := List (Nat × Value)
abbrev xR : Type := Int32 × xS
abbrev xH : Type := (Nat × List (Option Nat)) ⊕ (Bool × Nat)
abbrev xO : Type := Nat × Instr × Int32 × Nat × List (Int32 × Nat)
abbrev xE : Type := Nat × Nat × Nat × Nat × Bool
abbrev xK : Type := Nat → xL → List Value → xS → Option xR
abbrev xC : Type := Nat → List Value → xS → Option xR
def x_up (σ : xS) (o k : Nat) (v : Int32) : xS := fun a => if a = o then upd (σ a) k v else σ a
def x_lk : xL → Nat → Option Value
  | [], _ => none
  | q :: L, i => if q.1 = i then some q.2 else x_lk L i
def x_st (L : xL) (i : Nat) (v : Value) : xL := (i, v) :: L.filter (fun q => !(q.1 == i) && !(q.1 + 1 == i && q.2.category == 2))
def x_rm : Nat → List Value → Bool
  | _, [] => true
  | n + 1, .int _ :: r => x_rm n r
  | n + 1, .ref _ :: r => x_rm n r
  | _, _ => false
def x_bin (f : Int32 → Int32 → Int32) (S : List Value) (kk : List Value → Option xR) : Option xR := match S with
  | .int y :: .int x :: S => kk (.int (f x y) :: S)
  | _ => none
def x_div (f : Int32 → Int32 → Int32) (S : List Value) (kk : List Value → Option xR) : Option xR := match S with
  | .int y :: .int x :: S => if y = 0 then none else kk (.int (f x y) :: S)
  | _ => none
def x_ldi (L : xL) (t : Nat) (kk : Int32 → Option xR) : Option xR := match x_lk L t with
  | some (.int x) => kk x
  | _ => none
def x_lda (L : xL) (t : Nat) (kk : Nat → Option xR) : Option xR := match x_lk L t with
  | some (.ref x) => kk x
  | _ => none
def x_top (S : List Value) (kk : Int32 → List Value → Option xR) : Option xR := match S with
  | .int x :: S => kk x S
  | _ => none
def x_two (S : List Value) (kk : Int32 → Int32 → List Value → Option xR) : Option xR := match S with
  | .int y :: .int x :: S => kk x y S
  | _ => none
def x_lt (t nL : Nat) (kk : Option xR) : Option xR := match Nat.blt t nL with
  | true => kk
  | false => none
def x_c1 : Value → Bool
  | .int _ => true
  | .ref _ => true
  | _ => false
def x_d1 (S : List Value) (kk : Value → List Value → Option xR) : Option xR := match S with
  | a :: S => (match x_c1 a with
    | true => kk a S
    | false => none)
  | _ => none
def x_d2 (S : List Value) (kk : Value → Value → List Value → Option xR) : Option xR := x_d1 S fun a S => x_d1 S fun b S => kk a b S
def x_br (c : ClassFile.Cond) (x y : Int32) (a b : Option xR) : Option xR := match c with
  | .eq => if x = y then a else b
  | .ne => if x = y then b else a
  | .lt => if x < y then a else b
  | .ge => if y ≤ x then a else b
  | .gt => if y < x then a else b
  | .le => if x ≤ y then a else b
def x_sw (x : Int32) (k : Nat → Option xR) (d : Nat) : List (Int32 × Nat) → Option xR
  | [] => k d
  | q :: r => if x = q.1 then k q.2 else x_sw x k d r
def x_gf (sh : List xH) (e : Option xE) (S : List Value) (σ : xS) (kk : List Value → Option xR) : Option xR := match e, S with
  | some (0, ci, f, _, _), .ref o :: S => (match sh[o]? with
    | some (.inl (cj, fs)) => (match Nat.beq cj ci with
      | true => (match fs[f]? with
        | some none => kk (.int (σ o f) :: S)
        | some (some a) => kk (.ref a :: S)
        | none => none)
      | false => none)
    | _ => none)
  | _, _ => none
def x_pf (sh : List xH) (e : Option xE) (S : List Value) (σ : xS) (kk : List Value → xS → Option xR) : Option xR := match e, S with
  | some (0, ci, f, _, true), .int x :: .ref o :: S => (match sh[o]? with
    | some (.inl (cj, fs)) => (match Nat.beq cj ci with
      | true => (match fs[f]? with
        | some none => kk S (x_up σ o f x)
        | _ => none)
      | false => none)
    | _ => none)
  | _, _ => none
def x_bq : Bool → Bool → Bool
  | true, true => true
  | false, false => true
  | _, _ => false
def x_al (sh : List xH) (ca : Nat → Option (List Int32)) (b : Bool) (S : List Value) (σ : xS) (kk : List Value → Option xR) : Option xR := match S with
  | .int i :: .ref o :: S => (match sh[o]? with
    | some (.inr (b2, n)) => (match x_bq b b2 with
      | true => if i < 0 ∨ n ≤ i.toNatClampNeg then none else kk (.int (σ o i.toNatClampNeg) :: S)
      | false => none)
    | some _ => none
    | none => (match b, ca o with
      | false, some q => if i < 0 ∨ q.length ≤ i.toNatClampNeg then none else kk (.int (q.getD i.toNatClampNeg 0) :: S)
      | _, _ => none))
  | _ => none
def x_nb (b : Bool) (x : Int32) : Int32 := match b with
  | true => vp_nar .boolean x
  | false => x
def x_rs (v : Bool) (x : Int32) (rest : List Value) : List Value := match v with
  | true => rest
  | false => .int x :: rest
def x_as (sh : List xH) (b : Bool) (S : List Value) (σ : xS) (kk : List Value → xS → Option xR) : Option xR := match S with
  | .int x :: .int i :: .ref o :: S => (match sh[o]? with
    | some (.inr (b2, n)) => (match x_bq b b2 with
      | true => if i < 0 ∨ n ≤ i.toNatClampNeg then none else kk S (x_up σ o i.toNatClampNeg (x_nb b x))
      | false => none)
    | _ => none)
  | _ => none
def x_go (C : xC) (j : Nat) (v : Bool) (as rest : List Value) (σ : xS) (kk : List Value → xS → Option xR) : Option xR :=
  (C j as σ).bind fun r => kk (x_rs v r.1 rest) r.2
def x_iv (sh : List xH) (C : xC) (e : Option xE) (S : List Value) (σ : xS) (kk : List Value → xS → Option xR) : Option xR := match e with
  | some (1, j, na, ci, v) => (match S.drop na with
    | .ref o :: rest => (match sh[o]? with
      | some (.inl (cj, _)) => (match Nat.beq cj ci && x_rm 8 rest with
        | true => x_go C j v (.ref o :: (S.take na).reverse) rest σ kk
        | false => none)
      | _ => none)
    | _ => none)
  | _ => none
def x_is (C : xC) (e : Option xE) (S : List Value) (σ : xS) (kk : List Value → xS → Option xR) : Option xR := match e with
  | some (2, j, na, _, v) => (match Nat.ble na S.length && x_rm 8 (S.drop na) with
    | true => x_go C j v (S.take na).reverse (S.drop na) σ kk
    | false => none)
  | _ => none
def x_ir (rt : Nat) (S : List Value) (σ : xS) : Option xR := match S with
  | [.int x] => (match rt with
    | 1 => some (x, σ)
    | 2 => if x = 0 ∨ x = 1 then some (x, σ) else none
    | _ => none)
  | _ => none
def x_vr (rt : Nat) (S : List Value) (σ : xS) : Option xR := match S, rt with
  | [], 0 => some (0, σ)
  | _, _ => none
def x_oc (e : Option xE) (S : List Value) (kk : List Value → Option xR) : Option xR := match e with
  | some (3, o, _, _, false) => kk (.ref o :: S)
  | some (4, n, _, _, _) => kk (.int (Int32.ofNat n) :: S)
  | _ => none
def x_ow (e : Option xE) (S : List Value) (kk : List Value → Option xR) : Option xR := match e with
  | some (4, n, _, _, _) => kk (.int (Int32.ofNat n) :: S)
  | _ => none
def x_os (e : Option xE) (S : List Value) (kk : List Value → Option xR) : Option xR := match e with
  | some (3, o, _, _, true) => kk (.ref o :: S)
  | _ => none
def x_step (sh : List xH) (ca : Nat → Option (List Int32)) (pool : Nat → Option xE) (nL rt : Nat) (C : xC) (k : xK) (o : xO) (pc : Nat) (L : xL) (S : List Value) (σ : xS) : Option xR := match o.2.1 with
  | .iconst _ => k (pc + o.1) L (.int o.2.2.1 :: S) σ
  | .bipush _ => k (pc + o.1) L (.int o.2.2.1 :: S) σ
  | .sipush _ => k (pc + o.1) L (.int o.2.2.1 :: S) σ
  | .iload_n _ => x_ldi L o.2.2.2.1 fun x => k (pc + o.1) L (.int x :: S) σ
  | .iload _ => x_ldi L o.2.2.2.1 fun x => k (pc + o.1) L (.int x :: S) σ
  | .aload_n _ => x_lda L o.2.2.2.1 fun x => k (pc + o.1) L (.ref x :: S) σ
  | .aload _ => x_lda L o.2.2.2.1 fun x => k (pc + o.1) L (.ref x :: S) σ
  | .istore_n _ => x_top S fun x S => x_lt o.2.2.2.1 nL (k (pc + o.1) (x_st L o.2.2.2.1 (.int x)) S σ)
  | .istore _ => x_top S fun x S => x_lt o.2.2.2.1 nL (k (pc + o.1) (x_st L o.2.2.2.1 (.int x)) S σ)
  | .iinc _ _ => x_ldi L o.2.2.2.1 fun x => x_lt o.2.2.2.1 nL (k (pc + o.1) (x_st L o.2.2.2.1 (.int (x + o.2.2.1))) S σ)
  | .iadd => x_bin (fun x y => x + y) S fun S => k (pc + o.1) L S σ
  | .isub => x_bin (fun x y => x - y) S fun S => k (pc + o.1) L S σ
  | .imul => x_bin (fun x y => x * y) S fun S => k (pc + o.1) L S σ
  | .iand => x_bin (fun x y => x &&& y) S fun S => k (pc + o.1) L S σ
  | .ior => x_bin (fun x y => x ||| y) S fun S => k (pc + o.1) L S σ
  | .ixor => x_bin (fun x y => x ^^^ y) S fun S => k (pc + o.1) L S σ
  | .ishl => x_bin (fun x y => x <<< (y &&& 31)) S fun S => k (pc + o.1) L S σ
  | .ishr => x_bin (fun x y => x >>> (y &&& 31)) S fun S => k (pc + o.1) L S σ
  | .iushr => x_bin (fun x y => (x.toUInt32 >>> (y.toUInt32 &&& Int32.toUInt32 31)).toInt32) S fun S => k (pc + o.1) L S σ
  | .idiv => x_div (fun x y => x / y) S fun S => k (pc + o.1) L S σ
  | .irem => x_div (fun x y => x - x / y * y) S fun S => k (pc + o.1) L S σ
  | .dup => x_d1 S fun a S => k (pc + o.1) L (a :: a :: S) σ
  | .pop => x_d1 S fun _ S => k (pc + o.1) L S σ
  | .dup_x1 => x_d2 S fun a b S => k (pc + o.1) L (a :: b :: a :: S) σ
  | .dup2 => x_d2 S fun a b S => k (pc + o.1) L (a :: b :: a :: b :: S) σ
  | .ifCond c _ => x_top S fun x S => x_br c x 0 (k o.2.2.2.1 L S σ) (k (pc + o.1) L S σ)
  | .if_icmp c _ => x_two S fun x y S => x_br c x y (k o.2.2.2.1 L S σ) (k (pc + o.1) L S σ)
  | .goto _ => k o.2.2.2.1 L S σ
  | .tableswitch _ _ _ _ => x_top S fun x S => x_sw x (fun t => k t L S σ) o.2.2.2.1 o.2.2.2.2
  | .lookupswitch _ _ => x_top S fun x S => x_sw x (fun t => k t L S σ) o.2.2.2.1 o.2.2.2.2
  | .getfield q => x_gf sh (pool q) S σ fun S => k (pc + o.1) L S σ
  | .putfield q => x_pf sh (pool q) S σ fun S σ => k (pc + o.1) L S σ
  | .iaload => x_al sh ca false S σ fun S => k (pc + o.1) L S σ
  | .baload => x_al sh ca true S σ fun S => k (pc + o.1) L S σ
  | .iastore => x_as sh false S σ fun S σ => k (pc + o.1) L S σ
  | .bastore => x_as sh true S σ fun S σ => k (pc + o.1) L S σ
  | .invokevirtual q => x_iv sh C (pool q) S σ fun S σ => k (pc + o.1) L S σ
  | .invokestatic q => x_is C (pool q) S σ fun S σ => k (pc + o.1) L S σ
  | .ldc q => x_oc (pool q) S fun S => k (pc + o.1) L S σ
  | .ldc_w q => x_ow (pool q) S fun S => k (pc + o.1) L S σ
  | .getstatic q => x_os (pool q) S fun S => k (pc + o.1) L S σ
  | .ireturn => x_ir rt S σ
  | .return_ => x_vr rt S σ
  | _ => none
def x_at (code : List (Nat × xO)) (pc : Nat) : Option xO := match code with
  | [] => none
  | q :: r => (match Nat.beq q.1 pc with
    | true => some q.2
    | false => x_at r pc)
def x_in (cuts : List (Nat × List Nat)) (pc : Nat) : Option (List Nat) := match cuts with
  | [] => none
  | q :: r => (match Nat.beq q.1 pc with
    | true => some q.2
    | false => x_in r pc)
/-- the locals that live on, in their order -/
def x_nm (L : xL) : List Nat → xL
  | [] => []
  | i :: r => (match x_lk L i with
    | some v => (i, v) :: x_nm L r
    | none => x_nm L r)
/-- from a cut to the next ones -/
noncomputable def x_blk (sh : List xH) (ca : Nat → Option (List Int32)) (pool : Nat → Option xE) (nL rt : Nat) (code : List (Nat × xO)) (cuts : List (Nat × List Nat)) (C : xC) (k0 : xK) (n : Nat) : xK :=
  Nat.rec (motive := fun _ => xK) (fun _ _ _ _ => none) (fun _ ih pc L S σ => match x_at code pc with
    | none => none
    | some o => x_step sh ca pool nL rt C (fun pc L S σ => match x_in cuts pc with
      | some live => k0 pc (x_nm L live) S σ
      | none => ih pc L S σ) o pc L S σ) n
noncomputable def x_run (B : xK → xK) (n : Nat) : xK := Nat.rec (motive := fun _ => xK) (fun _ _ _ _ => none) (fun _ ih => B ih) n
theorem x_run_succ (B : xK → xK) (n : Nat) : x_run B (n + 1) = B (x_run B n) := rfl
end
section
/-! What the small machine answers, the machine answers: the store as a world, an instruction by the kit's rows. -/
def x_tv (ad : Nat → Nat) : Value → Value
  | .ref a => .ref (ad a)
  | v => v
theorem x_tv_cat (ad : Nat → Nat) (v : Value) : (x_tv ad v).category = v.category := by cases v <;> rfl
def x_fv (ad : Nat → Nat) (f : Nat → Int32) : List (Option Nat) → Nat → List Value
  | [], _ => []
  | none :: r, k => .int (f k) :: x_fv ad f r (k + 1)
  | some a :: r, k => .ref (ad a) :: x_fv ad f r (k + 1)
def x_ce (ad : Nat → Nat) (cI cZ : ClassId) (f : Nat → Int32) : xH → va_E
  | .inl q => .inr (q.1, x_fv ad f q.2 0)
  | .inr q => .inl ((match q.1 with | true => cZ | false => cI), q.2, .inl f)
def x_wf (ad : Nat → Nat) (cI cZ : ClassId) (σ : xS) : List xH → Nat → va_W
  | [], _ => []
  | h :: r, o => (ad o, x_ce ad cI cZ (σ o) h) :: x_wf ad cI cZ σ r (o + 1)
def x_w (ad : Nat → Nat) (cI cZ : ClassId) (sh : List xH) (σ : xS) : va_W := x_wf ad cI cZ σ sh 0
theorem x_wf_get (ad : Nat → Nat) (cI cZ : ClassId) (σ : xS) : ∀ (sh : List xH) (o k : Nat), (x_wf ad cI cZ σ sh o)[k]? = (sh[k]?).map (fun h => (ad (o + k), x_ce ad cI cZ (σ (o + k)) h))
  | [], o, k => by simp [x_wf]
  | h :: r, o, 0 => by simp [x_wf]
  | h :: r, o, k + 1 => by
    have e : o + 1 + k = o + (k + 1) := by omega
    simp only [x_wf, List.getElem?_cons_succ, x_wf_get ad cI cZ σ r (o + 1) k, e]
theorem x_w_get (ad : Nat → Nat) (cI cZ : ClassId) (sh : List xH) (σ : xS) (k : Nat) : (x_w ad cI cZ sh σ)[k]? = (sh[k]?).map (fun h => (ad k, x_ce ad cI cZ (σ k) h)) := by
  have h := x_wf_get ad cI cZ σ sh 0 k
  rw [Nat.zero_add] at h
  exact h
theorem x_fv_get (ad : Nat → Nat) (f : Nat → Int32) : ∀ (fs : List (Option Nat)) (k0 k : Nat), (x_fv ad f fs k0)[k]? = (fs[k]?).map (fun q => match q with | none => Value.int (f (k0 + k)) | some a => Value.ref (ad a))
  | [], k0, k => by simp [x_fv]
  | none :: r, k0, 0 => by simp [x_fv]
  | some a :: r, k0, 0 => by simp [x_fv]
  | none :: r, k0, k + 1 => by
    have e : k0 + 1 + k = k0 + (k + 1) := by omega
    simp only [x_fv, List.getElem?_cons_succ, x_fv_get ad f r (k0 + 1) k, e]
  | some a :: r, k0, k + 1 => by
    have e : k0 + 1 + k = k0 + (k + 1) := by omega
    simp only [x_fv, List.getElem?_cons_succ, x_fv_get ad f r (k0 + 1) k, e]
theorem x_fv_set {ad : Nat → Nat} {f : Nat → Int32} {fs : List (Option Nat)} {k : Nat} {v : Int32} (hf : fs[k]? = some none) : (x_fv ad f fs 0).set k (.int v) = x_fv ad (upd f k v) fs 0 := by
  apply List.ext_getElem?
  intro j
  rw [List.getElem?_set, x_fv_get, x_fv_get]
  have hl : k < (x_fv ad f fs 0).length := by
    have h1 : (x_fv ad f fs 0)[k]? = some (.int (f k)) := by rw [x_fv_get, hf]; simp
    exact (List.getElem?_eq_some_iff.mp h1).1
  by_cases hj : k = j
  · subst hj
    simp [hl, hf, upd]
  · have hj' : ¬ j = k := fun e => hj e.symm
    simp only [hj, if_false]
    cases fs[j]? with
    | none => rfl
    | some q => cases q <;> simp [upd, hj']
theorem x_w_set {ad : Nat → Nat} {cI cZ : ClassId} {sh : List xH} {σ : xS} {o k : Nat} {v : Int32} {h : xH} {e : va_E} (hs : sh[o]? = some h) (he : e = x_ce ad cI cZ (upd (σ o) k v) h) : (x_w ad cI cZ sh σ).set o (ad o, e) = x_w ad cI cZ sh (x_up σ o k v) := by
  subst he
  apply List.ext_getElem?
  intro i
  rw [List.getElem?_set, x_w_get, x_w_get]
  have hl : o < (x_w ad cI cZ sh σ).length := by
    have h1 : (x_w ad cI cZ sh σ)[o]? = some (ad o, x_ce ad cI cZ (σ o) h) := by rw [x_w_get, hs]; rfl
    exact (List.getElem?_eq_some_iff.mp h1).1
  by_cases hi : o = i
  · subst hi
    simp [hl, hs, x_up]
  · have hi' : ¬ i = o := fun e => hi e.symm
    simp [hi, hi', x_up]
theorem x_w_at {ad : Nat → Nat} {cI cZ : ClassId} {sh : List xH} {σ : xS} {o : Nat} {h : xH} (hs : sh[o]? = some h) : (x_w ad cI cZ sh σ)[o]? = some (ad o, x_ce ad cI cZ (σ o) h) := by rw [x_w_get, hs]; rfl
theorem x_lk_mem : ∀ {L : xL} {i : Nat} {v : Value}, x_lk L i = some v → (i, v) ∈ L
  | [], i, v, h => by cases h
  | q :: L, i, v, h => by
    unfold x_lk at h
    by_cases hq : q.1 = i
    · rw [if_pos hq] at h
      cases h
      exact List.mem_cons.mpr (Or.inl (by rw [← hq]))
    · rw [if_neg hq] at h
      exact List.mem_cons_of_mem _ (x_lk_mem h)
theorem x_lk_at {ad : Nat → Nat} {ls : Array Slot} {nL : Nat} {L : xL} {i : Nat} {v : Value} (hl : lv_has ls nL (L.map fun q => (q.1, x_tv ad q.2))) (h : x_lk L i = some v) : ls[i]? = some (.val (x_tv ad v)) :=
  hl.2.2 (i, x_tv ad v) (List.mem_map.mpr ⟨(i, v), x_lk_mem h, rfl⟩)
theorem x_st_map (ad : Nat → Nat) (L : xL) (i : Nat) (v : Value) : (i, x_tv ad v) :: (L.map fun q => (q.1, x_tv ad q.2)).filter (fun q => !(q.1 == i) && !(q.1 + 1 == i && q.2.category == 2)) = (x_st L i v).map fun q => (q.1, x_tv ad q.2) := by
  simp only [x_st, List.map_cons, List.filter_map, Function.comp_def, x_tv_cat]
theorem x_rm_sum (ad : Nat → Nat) : ∀ {n : Nat} {S : List Value}, x_rm n S = true → ((S.map (x_tv ad)).map fun v => v.category).sum ≤ n
  | n, [], _ => by simp
  | 0, v :: r, h => by cases v <;> simp [x_rm] at h
  | n + 1, v :: r, h => by
    cases v with
    | int x =>
      have := x_rm_sum ad (n := n) (S := r) h
      simp only [List.map_cons, List.sum_cons, x_tv, Value.category] at this ⊢
      omega
    | ref x =>
      have := x_rm_sum ad (n := n) (S := r) h
      simp only [List.map_cons, List.sum_cons, x_tv, Value.category] at this ⊢
      omega
    | _ => simp [x_rm] at h
theorem x_bq_eq : ∀ {b b2 : Bool}, x_bq b b2 = true → b = b2
  | true, true, _ => rfl
  | false, false, _ => rfl
  | true, false, h => by cases h
  | false, true, h => by cases h
section XI
variable {f : Int32 → Int32 → Int32} {S : List Value} {r : xR} {σ : xS} {L : xL} {t nL rt : Nat} {sh : List xH}
theorem x_bin_inv {kk : List Value → Option xR} (h : x_bin f S kk = some r) : ∃ x y S', S = .int y :: .int x :: S' ∧ kk (.int (f x y) :: S') = some r := by
  unfold x_bin at h
  split at h
  · exact ⟨_, _, _, rfl, h⟩
  · cases h
theorem x_div_inv {kk : List Value → Option xR} (h : x_div f S kk = some r) : ∃ x y S', S = .int y :: .int x :: S' ∧ ¬ y = 0 ∧ kk (.int (f x y) :: S') = some r := by
  unfold x_div at h
  split at h
  · rename_i y x S'
    by_cases hy : y = 0
    · rw [if_pos hy] at h; cases h
    · rw [if_neg hy] at h; exact ⟨x, y, S', rfl, hy, h⟩
  · cases h
theorem x_ldi_inv {kk : Int32 → Option xR} (h : x_ldi L t kk = some r) : ∃ x, x_lk L t = some (.int x) ∧ kk x = some r := by
  unfold x_ldi at h
  split at h
  · rename_i x hx; exact ⟨x, hx, h⟩
  · cases h
theorem x_lda_inv {kk : Nat → Option xR} (h : x_lda L t kk = some r) : ∃ x, x_lk L t = some (.ref x) ∧ kk x = some r := by
  unfold x_lda at h
  split at h
  · rename_i x hx; exact ⟨x, hx, h⟩
  · cases h
theorem x_top_inv {kk : Int32 → List Value → Option xR} (h : x_top S kk = some r) : ∃ x S', S = .int x :: S' ∧ kk x S' = some r := by
  unfold x_top at h
  split at h
  · exact ⟨_, _, rfl, h⟩
  · cases h
theorem x_two_inv {kk : Int32 → Int32 → List Value → Option xR} (h : x_two S kk = some r) : ∃ x y S', S = .int y :: .int x :: S' ∧ kk x y S' = some r := by
  unfold x_two at h
  split at h
  · exact ⟨_, _, _, rfl, h⟩
  · cases h
theorem x_lt_inv {kk : Option xR} (h : x_lt t nL kk = some r) : t < nL ∧ kk = some r := by
  unfold x_lt at h
  split at h
  · rename_i hb; exact ⟨by simpa [Nat.blt_eq] using hb, h⟩
  · cases h
theorem x_c1_cat {a : Value} (h : x_c1 a = true) : a.category = 1 := by cases a <;> first | rfl | cases h
theorem x_d1_inv {kk : Value → List Value → Option xR} (h : x_d1 S kk = some r) : ∃ a S', S = a :: S' ∧ a.category = 1 ∧ kk a S' = some r := by
  unfold x_d1 at h
  split at h
  · rename_i a S'
    split at h
    · rename_i hc; exact ⟨a, S', rfl, x_c1_cat hc, h⟩
    · cases h
  · cases h
theorem x_d2_inv {kk : Value → Value → List Value → Option xR} (h : x_d2 S kk = some r) : ∃ a b S', S = a :: b :: S' ∧ a.category = 1 ∧ b.category = 1 ∧ kk a b S' = some r := by
  obtain ⟨a, S1, rfl, ha, h⟩ := x_d1_inv h
  obtain ⟨b, S2, rfl, hb, h⟩ := x_d1_inv h
  exact ⟨a, b, S2, rfl, ha, hb, h⟩
theorem x_sw_inv {x : Int32} {k : Nat → Option xR} {d : Nat} : ∀ {ts : List (Int32 × Nat)}, x_sw x k d ts = some r → (∃ (i : Nat) (q : Int32 × Nat), ts[i]? = some q ∧ x = q.1 ∧ k q.2 = some r) ∨ ((∀ q ∈ ts, ¬ x = q.1) ∧ k d = some r)
  | [], h => Or.inr ⟨fun q hq => (List.not_mem_nil hq).elim, h⟩
  | q :: ts, h => by
    unfold x_sw at h
    by_cases hq : x = q.1
    · rw [if_pos hq] at h
      exact Or.inl ⟨0, q, rfl, hq, h⟩
    · rw [if_neg hq] at h
      rcases x_sw_inv h with ⟨i, q', h1, h2, h3⟩ | ⟨h1, h2⟩
      · exact Or.inl ⟨i + 1, q', h1, h2, h3⟩
      · exact Or.inr ⟨fun z hz => by
          rcases List.mem_cons.mp hz with rfl | hz
          · exact hq
          · exact h1 z hz, h2⟩
theorem x_gf_inv {e : Option xE} {kk : List Value → Option xR} (h : x_gf sh e S σ kk = some r) : ∃ ci g n b o S' fs, e = some (0, ci, g, n, b) ∧ S = .ref o :: S' ∧ sh[o]? = some (.inl (ci, fs)) ∧ ((fs[g]? = some none ∧ kk (.int (σ o g) :: S') = some r) ∨ ∃ a, fs[g]? = some (some a) ∧ kk (.ref a :: S') = some r) := by
  unfold x_gf at h
  split at h
  · rename_i ci g n b o S'
    split at h
    · rename_i cj fs hs
      split at h
      · rename_i hc
        have hc : cj = ci := Nat.eq_of_beq_eq_true hc
        subst hc
        split at h
        · rename_i hf; exact ⟨cj, g, n, b, o, S', fs, rfl, rfl, hs, Or.inl ⟨hf, h⟩⟩
        · rename_i a hf; exact ⟨cj, g, n, b, o, S', fs, rfl, rfl, hs, Or.inr ⟨a, hf, h⟩⟩
        · cases h
      · cases h
    · cases h
  · cases h
theorem x_pf_inv {e : Option xE} {kk : List Value → xS → Option xR} (h : x_pf sh e S σ kk = some r) : ∃ ci g n x o S' fs, e = some (0, ci, g, n, true) ∧ S = .int x :: .ref o :: S' ∧ sh[o]? = some (.inl (ci, fs)) ∧ fs[g]? = some none ∧ kk S' (x_up σ o g x) = some r := by
  unfold x_pf at h
  split at h
  · rename_i ci g n x o S'
    split at h
    · rename_i cj fs hs
      split at h
      · rename_i hc
        have hc : cj = ci := Nat.eq_of_beq_eq_true hc
        subst hc
        split at h
        · rename_i hf; exact ⟨cj, g, n, x, o, S', fs, rfl, rfl, hs, hf, h⟩
        · cases h
      · cases h
    · cases h
  · cases h
theorem x_al_inv {ca : Nat → Option (List Int32)} {b : Bool} {kk : List Value → Option xR} (h : x_al sh ca b S σ kk = some r) : ∃ i o S', S = .int i :: .ref o :: S' ∧ ((∃ n, sh[o]? = some (.inr (b, n)) ∧ vp_in i n ∧ kk (.int (σ o i.toNatClampNeg) :: S') = some r) ∨ (b = false ∧ ∃ q, ca o = some q ∧ vp_in i q.length ∧ kk (.int (q.getD i.toNatClampNeg 0) :: S') = some r)) := by
  unfold x_al at h
  split at h
  · rename_i i o S'
    refine ⟨i, o, S', rfl, ?_⟩
    split at h
    · rename_i b2 n hs
      split at h
      · rename_i hb
        have hb : b = b2 := x_bq_eq hb
        subst hb
        by_cases hi : i < 0 ∨ n ≤ i.toNatClampNeg
        · rw [if_pos hi] at h; cases h
        · rw [if_neg hi] at h; exact Or.inl ⟨n, hs, hi, h⟩
      · cases h
    · cases h
    · split at h
      · rename_i q hq
        by_cases hi : i < 0 ∨ q.length ≤ i.toNatClampNeg
        · rw [if_pos hi] at h; cases h
        · rw [if_neg hi] at h; exact Or.inr ⟨rfl, q, hq, hi, h⟩
      · cases h
  · cases h
theorem x_as_inv {b : Bool} {kk : List Value → xS → Option xR} (h : x_as sh b S σ kk = some r) : ∃ x i o S' n, S = .int x :: .int i :: .ref o :: S' ∧ sh[o]? = some (.inr (b, n)) ∧ vp_in i n ∧ kk S' (x_up σ o i.toNatClampNeg (x_nb b x)) = some r := by
  unfold x_as at h
  split at h
  · rename_i x i o S'
    split at h
    · rename_i b2 n hs
      split at h
      · rename_i hb
        have hb : b = b2 := x_bq_eq hb
        subst hb
        by_cases hi : i < 0 ∨ n ≤ i.toNatClampNeg
        · rw [if_pos hi] at h; cases h
        · rw [if_neg hi] at h; exact ⟨x, i, o, S', n, rfl, hs, hi, h⟩
      · cases h
    · cases h
  · cases h
theorem x_go_inv {C : xC} {j : Nat} {v : Bool} {as rest : List Value} {kk : List Value → xS → Option xR} (h : x_go C j v as rest σ kk = some r) : ∃ r1, C j as σ = some r1 ∧ kk (x_rs v r1.1 rest) r1.2 = some r := by
  unfold x_go at h
  cases hc : C j as σ with
  | none => rw [hc] at h; cases h
  | some r1 =>
    rw [hc] at h
    exact ⟨r1, rfl, h⟩
theorem x_iv_inv {C : xC} {e : Option xE} {kk : List Value → xS → Option xR} (h : x_iv sh C e S σ kk = some r) : ∃ j na ci v o as rest fs r1, e = some (1, j, na, ci, v) ∧ S = as.reverse ++ .ref o :: rest ∧ as.length = na ∧ sh[o]? = some (.inl (ci, fs)) ∧ x_rm 8 rest = true ∧ C j (.ref o :: as) σ = some r1 ∧ kk (x_rs v r1.1 rest) r1.2 = some r := by
  unfold x_iv at h
  split at h
  · rename_i j na ci v
    split at h
    · rename_i o rest hd
      split at h
      · rename_i cj fs hs
        split at h
        · rename_i hc
          simp only [Bool.and_eq_true] at hc
          have hc1 : cj = ci := Nat.eq_of_beq_eq_true hc.1
          subst hc1
          obtain ⟨r1, h1, h2⟩ := x_go_inv h
          have hlen : na < S.length := by
            have := congrArg List.length hd
            simp only [List.length_drop, List.length_cons] at this
            omega
          refine ⟨j, na, cj, v, o, (S.take na).reverse, rest, fs, r1, rfl, ?_, ?_, hs, hc.2, h1, h2⟩
          · rw [List.reverse_reverse, ← hd, List.take_append_drop]
          · simp only [List.length_reverse, List.length_take]; omega
        · cases h
      · cases h
    · cases h
  · cases h
theorem x_is_inv {C : xC} {e : Option xE} {kk : List Value → xS → Option xR} (h : x_is C e S σ kk = some r) : ∃ j na ci v as rest r1, e = some (2, j, na, ci, v) ∧ S = as.reverse ++ rest ∧ as.length = na ∧ x_rm 8 rest = true ∧ C j as σ = some r1 ∧ kk (x_rs v r1.1 rest) r1.2 = some r := by
  unfold x_is at h
  split at h
  · rename_i j na ci v
    split at h
    · rename_i hc
      simp only [Bool.and_eq_true] at hc
      have hlen : na ≤ S.length := Nat.le_of_ble_eq_true hc.1
      obtain ⟨r1, h1, h2⟩ := x_go_inv h
      refine ⟨j, na, ci, v, (S.take na).reverse, S.drop na, r1, rfl, ?_, ?_, hc.2, h1, h2⟩
      · rw [List.reverse_reverse, List.take_append_drop]
      · simp only [List.length_reverse, List.length_take]; omega
    · cases h
  · cases h
theorem x_ir_inv (h : x_ir rt S σ = some r) : ∃ x, S = [.int x] ∧ r = (x, σ) ∧ (rt = 1 ∨ (rt = 2 ∧ (x = 0 ∨ x = 1))) := by
  unfold x_ir at h
  split at h
  · rename_i x
    split at h
    · cases h; exact ⟨x, rfl, rfl, Or.inl rfl⟩
    · by_cases hx : x = 0 ∨ x = 1
      · rw [if_pos hx] at h; cases h; exact ⟨x, rfl, rfl, Or.inr ⟨rfl, hx⟩⟩
      · rw [if_neg hx] at h; cases h
    · cases h
  · cases h
theorem x_vr_inv (h : x_vr rt S σ = some r) : S = [] ∧ rt = 0 ∧ r = (0, σ) := by
  unfold x_vr at h
  split at h
  · cases h; exact ⟨rfl, rfl, rfl⟩
  · cases h
theorem x_oc_inv {e : Option xE} {kk : List Value → Option xR} (h : x_oc e S kk = some r) : (∃ o n1 n2, e = some (3, o, n1, n2, false) ∧ kk (.ref o :: S) = some r) ∨ ∃ o n1 n2 b, e = some (4, o, n1, n2, b) ∧ kk (.int (Int32.ofNat o) :: S) = some r := by
  unfold x_oc at h
  split at h
  · exact Or.inl ⟨_, _, _, rfl, h⟩
  · exact Or.inr ⟨_, _, _, _, rfl, h⟩
  · cases h
theorem x_ow_inv {e : Option xE} {kk : List Value → Option xR} (h : x_ow e S kk = some r) : ∃ o n1 n2 b, e = some (4, o, n1, n2, b) ∧ kk (.int (Int32.ofNat o) :: S) = some r := by
  unfold x_ow at h
  split at h
  · exact ⟨_, _, _, _, rfl, h⟩
  · cases h
theorem x_os_inv {e : Option xE} {kk : List Value → Option xR} (h : x_os e S kk = some r) : ∃ o n1 n2, e = some (3, o, n1, n2, true) ∧ kk (.ref o :: S) = some r := by
  unfold x_os at h
  split at h
  · exact ⟨_, _, _, rfl, h⟩
  · cases h
end XI
/-! a row of a method's table against the instruction that its bytes decode to -/
def x_lsw (pc : Nat) : List (Int × Int) → List (Int32 × Nat) → Bool
  | [], [] => true
  | a :: r, q :: ts => decide (q.1.toInt = a.1 ∧ (pc : Int) + a.2 = (q.2 : Int)) && x_lsw pc r ts
  | _, _ => false
def x_tsw (pc : Nat) : Int → List Int → List (Int32 × Nat) → Bool
  | _, [], [] => true
  | lo, a :: r, q :: ts => decide (q.1.toInt = lo ∧ (pc : Int) + a = (q.2 : Int)) && x_tsw pc (lo + 1) r ts
  | _, _, _ => false
theorem x_lsw_ok {pc d : Nat} {dflt : Int} (hd : (pc : Int) + dflt = (d : Int)) {x : Int32} {k : Nat → Option xR} {r : xR} : ∀ {ps : List (Int × Int)} {ts : List (Int32 × Nat)}, x_lsw pc ps ts = true → x_sw x k d ts = some r → ∃ (off : Int) (tgt : Nat), Op.lookupswitch.offset ps dflt x.toInt = off ∧ (pc : Int) + off = (tgt : Int) ∧ k tgt = some r
  | [], [], _, h => ⟨dflt, d, rfl, hd, h⟩
  | [], _ :: _, h, _ => by cases h
  | _ :: _, [], h, _ => by cases h
  | a :: ps, q :: ts, hl, h => by
    unfold x_lsw at hl
    rw [Bool.and_eq_true] at hl
    obtain ⟨h1, h2⟩ := of_decide_eq_true hl.1
    unfold x_sw at h
    by_cases hq : x = q.1
    · rw [if_pos hq] at h
      refine ⟨a.2, q.2, ?_, h2, h⟩
      show (if a.1 = x.toInt then a.2 else _) = a.2
      rw [if_pos (by rw [hq, h1])]
    · rw [if_neg hq] at h
      obtain ⟨off, tgt, g1, g2, g3⟩ := x_lsw_ok hd hl.2 h
      refine ⟨off, tgt, ?_, g2, g3⟩
      show (if a.1 = x.toInt then a.2 else _) = off
      rw [if_neg (fun e => hq (Int32.toInt_inj.mp (by rw [h1, e])))]
      exact g1
theorem x_tsw_ok {pc d : Nat} {x : Int32} {k : Nat → Option xR} {r : xR} : ∀ {lo : Int} {os : List Int} {ts : List (Int32 × Nat)}, x_tsw pc lo os ts = true → x_sw x k d ts = some r → (∃ (i : Nat) (off : Int) (tgt : Nat), os[i]? = some off ∧ x.toInt = lo + i ∧ (pc : Int) + off = (tgt : Int) ∧ k tgt = some r) ∨ ((x.toInt < lo ∨ lo + os.length ≤ x.toInt) ∧ k d = some r)
  | lo, [], [], _, h => Or.inr ⟨by simp only [List.length_nil]; omega, h⟩
  | _, [], _ :: _, h, _ => by cases h
  | _, _ :: _, [], h, _ => by cases h
  | lo, a :: os, q :: ts, hl, h => by
    unfold x_tsw at hl
    rw [Bool.and_eq_true] at hl
    obtain ⟨h1, h2⟩ := of_decide_eq_true hl.1
    unfold x_sw at h
    by_cases hq : x = q.1
    · rw [if_pos hq] at h
      exact Or.inl ⟨0, a, q.2, rfl, by rw [hq, h1]; simp, h2, h⟩
    · rw [if_neg hq] at h
      have hne : ¬ x.toInt = lo := fun e => hq (Int32.toInt_inj.mp (by rw [h1, e]))
      rcases x_tsw_ok hl.2 h with ⟨i, off, tgt, g1, g2, g3, g4⟩ | ⟨g1, g2⟩
      · exact Or.inl ⟨i + 1, off, tgt, g1, by rw [g2]; omega, g3, g4⟩
      · exact Or.inr ⟨by simp only [List.length_cons]; omega, g2⟩
def x_ok (pc : Nat) (o : xO) : Bool := match o.2.1 with
  | .iconst n => decide (o.1 = 1 ∧ Int32.ofInt n = o.2.2.1)
  | .bipush n => decide (o.1 = 2 ∧ (Int8.ofInt n).toInt32 = o.2.2.1)
  | .sipush n => decide (o.1 = 3 ∧ (Int16.ofInt n).toInt32 = o.2.2.1)
  | .iload_n n => decide (o.1 = 1 ∧ n.val = o.2.2.2.1)
  | .iload n => decide (o.1 = 2 ∧ n = o.2.2.2.1)
  | .aload_n n => decide (o.1 = 1 ∧ n.val = o.2.2.2.1)
  | .aload n => decide (o.1 = 2 ∧ n = o.2.2.2.1)
  | .istore_n n => decide (o.1 = 1 ∧ n.val = o.2.2.2.1)
  | .istore n => decide (o.1 = 2 ∧ n = o.2.2.2.1)
  | .iinc n d => decide (o.1 = 3 ∧ n = o.2.2.2.1 ∧ Int32.ofInt d = o.2.2.1)
  | .ifCond _ off => decide (o.1 = 3 ∧ (pc : Int) + off = (o.2.2.2.1 : Int))
  | .if_icmp _ off => decide (o.1 = 3 ∧ (pc : Int) + off = (o.2.2.2.1 : Int))
  | .goto off => decide ((pc : Int) + off = (o.2.2.2.1 : Int)) && Nat.beq o.1 3
  | .tableswitch d lo hi os => decide ((pc : Int) + d = (o.2.2.2.1 : Int) ∧ hi = lo + os.toList.length - 1) && x_tsw pc lo os.toList o.2.2.2.2
  | .lookupswitch d ps => decide ((pc : Int) + d = (o.2.2.2.1 : Int) ∧ (ps.toList.zip (ps.toList.drop 1)).all (fun (a, next) => a.1 < next.1) = true) && x_lsw pc ps.toList o.2.2.2.2
  | .ldc_w _ => decide (o.1 = 3)
  | .getfield _ => decide (o.1 = 3)
  | .putfield _ => decide (o.1 = 3)
  | .invokevirtual _ => decide (o.1 = 3)
  | .invokestatic _ => decide (o.1 = 3)
  | .getstatic _ => decide (o.1 = 3)
  | .ldc _ => decide (o.1 = 2)
  | .iadd => decide (o.1 = 1)
  | .isub => decide (o.1 = 1)
  | .imul => decide (o.1 = 1)
  | .iand => decide (o.1 = 1)
  | .ior => decide (o.1 = 1)
  | .ixor => decide (o.1 = 1)
  | .ishl => decide (o.1 = 1)
  | .ishr => decide (o.1 = 1)
  | .iushr => decide (o.1 = 1)
  | .idiv => decide (o.1 = 1)
  | .irem => decide (o.1 = 1)
  | .dup => decide (o.1 = 1)
  | .pop => decide (o.1 = 1)
  | .dup_x1 => decide (o.1 = 1)
  | .dup2 => decide (o.1 = 1)
  | .iaload => decide (o.1 = 1)
  | .baload => decide (o.1 = 1)
  | .iastore => decide (o.1 = 1)
  | .bastore => decide (o.1 = 1)
  | .ireturn => decide (o.1 = 1)
  | .return_ => decide (o.1 = 1)
  | _ => false
def x_rt (rt : Nat) (ret : Option FieldType) : Prop := (rt = 0 ∧ ret = none) ∨ (rt = 1 ∧ ret = some .int) ∨ (rt = 2 ∧ ret = some .boolean)
/-- what a place of the pool says of a field -/
def x_FO (cl : List vw_C) (Ts : List Cond) (s : State) (args : Array Value) (own : String) (q ci f : Nat) (b : Bool) : Prop :=
  ∃ (C : String) (T : u_T) (N : Nat), cl[ci]? = some (C, T, N) ∧ f < N ∧ (∀ w ∈ u_ws C T N, w ∈ Ts) ∧ (T f).1 = C ∧ ((Cond.fieldLink own q C (T f).2.1 (T f).2.2.1).before args s = true ∨ ∃ host, (Cond.fieldLinkNest own q C (T f).2.1 (T f).2.2.1 host).before args s = true) ∧
    (b = true → (T f).2.2.2 = false ∧ parseFieldDescriptor (T f).2.2.1 = some .int ∧ (∃ ty0 : Nat → FieldType, ∀ k, k < N → parseFieldDescriptor (T k).2.2.1 = some (ty0 k)) ∧ ∀ a, a < N → ∀ b, b < N → a ≠ b → (T a).2.1 ≠ (T b).2.1)
/-- of a constant: a static's reference, a text -/
def x_SO (A : Nat → Prop) (ad : Nat → Nat) (s : State) (args : Array Value) (own : String) (q o : Nat) (b : Bool) : Prop := match b with
  | true => ∃ (C n d : String), va_Z C n d (.ref (ad o)) A s s.heap ∧ (Cond.fieldLink own q C n d).before args s = true
  | false => ∃ tx : String, vk_R own q tx (ad o) s
def x_Qc (D : va_G) (cl : List vw_C) (A : Nat → Prop) (ad : Nat → Nat) (cI cZ : ClassId) (sh : List xH) (v : Bool) (r : xR) : Array Value → State → Outcome → State → Prop := fun _ st o t =>
  o = .returned (match v with | true => none | false => some (.int r.1)) ∧ va_P D cl (x_w ad cI cZ sh r.2) t.heap ∧ va_F A st t
section XG
variable {p : Program} {l : Launch} {e : Env} {R : Room} {s : State} {m : MethodId} {args : Array Value} {below : List Frame} {meth : Method} {c : Code} {Q : State → Prop} {H : Heap} {locs : List Loc}
variable {D : va_G} {cl : List vw_C} {tys : List (ClassId × FieldType)} {A : Nat → Prop} {ad : Nat → Nat} {cI cZ : ClassId} {sh : List xH} {cc : ByteArray} {nL : Nat}
def x_G (p : Program) (l : Launch) (e : Env) (R : Room) (s : State) (m : MethodId) (args : Array Value) (below : List Frame) (meth : Method) (c : Code) (Q : State → Prop) (D : va_G) (cl : List vw_C) (A : Nat → Prop) (ad : Nat → Nat) (cI cZ : ClassId) (sh : List xH) (nL : Nat) (pc : Nat) (L : xL) (S : List Value) (σ : xS) : Prop :=
  ∀ (H : Heap) (locs : List Loc) (ls : Array Slot), va_P D cl (x_w ad cI cZ sh σ) H → va_S A s.heap H locs → lv_has ls nL (L.map fun q => (q.1, x_tv ad q.2)) → W p l e R s m args below meth c H locs 0 0 Q (F0 m pc ls (S.map (x_tv ad)))
theorem x_callW {pc : Nat} {ls : Array Slot} {st0 rest : List Value} {v : Bool} {r1 : xR} {a : Array Value} (hr : va_Run p l e R s m args below meth c H locs 0 0 0 0 (F0 m pc ls st0) rest (x_Qc D cl A ad cI cZ sh v r1 a) A) (hS : va_S A s.heap H locs)
    (kk : ∀ (H1 : Heap) (locs1 : List Loc), va_P D cl (x_w ad cI cZ sh r1.2) H1 → va_S A s.heap H1 locs1 → W p l e R s m args below meth c H1 locs1 0 0 Q (F0 m (pc + 3) ls (x_rs v r1.1 rest))) : W p l e R s m args below meth c H locs 0 0 Q (F0 m pc ls st0) := by
  intro T hT X
  obtain ⟨v', st₀, t, T', L, h0, X', hL, e1, e2, ⟨hv, hP, hz, hk⟩, st⟩ := hr T hT X
  rw [h0] at hz hk
  cases hv
  obtain ⟨t2, a1, b1⟩ := kk T'.heap (locs ++ L) (by rw [e1]; exact hP) ⟨Nat.le_trans hS.1 (by rw [e1]; exact hz), fun q h1 h2 => by rw [e1, hk q (Nat.lt_of_lt_of_le h1 hS.1) h2]; exact hS.2.1 q h1 h2, fun q hq => by
      rcases List.mem_append.mp hq with h | h
      · exact hS.2.2 q h
      · exact hL q h⟩ T' rfl X'
  refine ⟨t2, st t2 ?_, b1⟩
  cases v <;> exact a1
/-- an element of an array that is a constant -/
theorem x_Tld {pc : Nat} {ls : Array Slot} {rest : List Value} (hexec : p.tables.exec = Jvm.exec) (hb : c.code = cc) {t N : Nat} {f : Nat → Value} (hT : va_T .int t N f A s s.heap) (hS : va_S A s.heap H locs) {i : Int32} (hin : vp_in i N) (hdg : decode cc pc = .ok (.iaload, 1))
    (kk : W p l e R s m args below meth c H locs 0 0 Q (F0 m (pc + 1) ls (f i.toNatClampNeg :: rest))) : W p l e R s m args below meth c H locs 0 0 Q (F0 m pc ls (.int i :: .ref t :: rest)) := by
  obtain ⟨cell, h1, h2, h3, h4, h5, h6, h7⟩ := hT
  have hi : ¬ i < 0 ∧ i.toNatClampNeg < N := ⟨fun q => hin (Or.inl q), Nat.not_le.mp fun q => hin (Or.inr q)⟩
  exact W.iald hexec hb (by rw [hS.2.1 t (Array.getElem?_eq_some_iff.mp h1).1 h7]; exact h1) h2 h3 (fun q => by
    rcases q with q | q
    · exact hi.1 q
    · exact absurd (Nat.le_trans h4 q) (Nat.not_le.mpr hi.2)) (h6 _ hi.2) rfl rfl hdg kk
set_option maxHeartbeats 4000000 in
set_option maxRecDepth 100000 in
theorem x_step_ok {Ts : List Cond} {own : String} {ca : Nat → Option (List Int32)} {pool : Nat → Option xE} {rt : Nat} {C : xC} {k : xK} {o : xO} {pc : Nat} {L : xL} {S : List Value} {σ : xS} {r : xR}
    (hx : p.tables.exec = Jvm.exec) (hb : c.code = cc) (hlocks : meth.locks = false) (hown : s.vm.findClass own = some m.cls) (hts : ∀ w ∈ Ts, w.before args s = true) (hK : va_K D cl tys s) (hD : ∀ σ : xS, va_D A (x_w ad cI cZ sh σ))
    {t1 t2 : Nat} (ht1 : tys[t1]? = some (cI, .int)) (ht2 : tys[t2]? = some (cZ, .boolean)) (hret : x_rt rt meth.sig.returnType)
    (hfld : ∀ q ci f n b, pool q = some (0, ci, f, n, b) → x_FO cl Ts s args own q ci f b) (hsta : ∀ q o n1 n2 b, pool q = some (3, o, n1, n2, b) → x_SO A ad s args own q o b) (hcon : ∀ q o n1 n2 b, pool q = some (4, o, n1, n2, b) → (Jvm.Cond.constant own q (Int32.ofNat o)).before args s = true)
    (hca : ∀ o q, ca o = some q → va_T .int (ad o) q.length (fun j => .int (q.getD j 0)) A s s.heap)
    (hvirt : ∀ q j na ci v, pool q = some (1, j, na, ci, v) → ∀ (as rest : List Value) (o : Nat) (fs : List (Option Nat)) (σ : xS) (r1 : xR) (H : Heap) (locs : List Loc) (ls : Array Slot) (pc : Nat), as.length = na → sh[o]? = some (.inl (ci, fs)) → x_rm 8 rest = true → C j (.ref o :: as) σ = some r1 → va_P D cl (x_w ad cI cZ sh σ) H → va_S A s.heap H locs → ls.size = nL → decode cc pc = .ok (.invokevirtual q, 3) →
      ∃ a, va_Run p l e R s m args below meth c H locs 0 0 0 0 (F0 m pc ls ((as.map (x_tv ad)).reverse ++ .ref (ad o) :: rest.map (x_tv ad))) (rest.map (x_tv ad)) (x_Qc D cl A ad cI cZ sh v r1 a) A)
    (hstat : ∀ q j na ci v, pool q = some (2, j, na, ci, v) → ∀ (as rest : List Value) (σ : xS) (r1 : xR) (H : Heap) (locs : List Loc) (ls : Array Slot) (pc : Nat), as.length = na → x_rm 8 rest = true → C j as σ = some r1 → va_P D cl (x_w ad cI cZ sh σ) H → va_S A s.heap H locs → ls.size = nL → decode cc pc = .ok (.invokestatic q, 3) →
      ∃ a, va_Run p l e R s m args below meth c H locs 0 0 0 0 (F0 m pc ls ((as.map (x_tv ad)).reverse ++ rest.map (x_tv ad))) (rest.map (x_tv ad)) (x_Qc D cl A ad cI cZ sh v r1 a) A)
    (hk : ∀ pc L S σ, k pc L S σ = some r → x_G p l e R s m args below meth c (MQ below (x_Qc D cl A ad cI cZ sh (rt == 0) r) args s 0 0 A) D cl A ad cI cZ sh nL pc L S σ)
    (hdec : decode cc pc = .ok (o.2.1, o.1)) (hop : x_ok pc o = true) (h : x_step sh ca pool nL rt C k o pc L S σ = some r) :
    x_G p l e R s m args below meth c (MQ below (x_Qc D cl A ad cI cZ sh (rt == 0) r) args s 0 0 A) D cl A ad cI cZ sh nL pc L S σ := by
  intro H locs ls hP hS hl
  obtain ⟨len, i, v, t, ts⟩ := o
  dsimp only at hdec
  cases i with
  | iconst n =>
    obtain ⟨rfl, hv⟩ := of_decide_eq_true hop
    exact lv_iconst hx hb hdec hv (hk _ _ _ _ h _ _ _ hP hS hl)
  | bipush n =>
    obtain ⟨rfl, hv⟩ := of_decide_eq_true hop
    exact lv_bipush hx hb hdec hv (hk _ _ _ _ h _ _ _ hP hS hl)
  | sipush n =>
    obtain ⟨rfl, hv⟩ := of_decide_eq_true hop
    exact lv_sipush hx hb hdec hv (hk _ _ _ _ h _ _ _ hP hS hl)
  | iload_n n =>
    obtain ⟨rfl, hv⟩ := of_decide_eq_true hop
    obtain ⟨x, g, h⟩ := x_ldi_inv h
    exact lv_iload_n hx hb hdec hv (x_lk_at hl g) (hk _ _ _ _ h _ _ _ hP hS hl)
  | iload n =>
    obtain ⟨rfl, hv⟩ := of_decide_eq_true hop
    obtain ⟨x, g, h⟩ := x_ldi_inv h
    dsimp only at hv
    subst hv
    exact lv_iload hx hb hdec (x_lk_at hl g) (hk _ _ _ _ h _ _ _ hP hS hl)
  | aload_n n =>
    obtain ⟨rfl, hv⟩ := of_decide_eq_true hop
    obtain ⟨x, g, h⟩ := x_lda_inv h
    exact lv_aload_n hx hb hdec hv (x_lk_at hl g) (hk _ _ _ _ h _ _ _ hP hS hl)
  | aload n =>
    obtain ⟨rfl, hv⟩ := of_decide_eq_true hop
    obtain ⟨x, g, h⟩ := x_lda_inv h
    dsimp only at hv
    subst hv
    exact lv_aload hx hb hdec (x_lk_at hl g) (hk _ _ _ _ h _ _ _ hP hS hl)
  | istore_n n =>
    obtain ⟨rfl, hv⟩ := of_decide_eq_true hop
    obtain ⟨x, S', rfl, h⟩ := x_top_inv h
    obtain ⟨g, h⟩ := x_lt_inv h
    exact lv_istore_n hx hb hdec hv hl g (x_st_map ad L t (.int x)) fun ls' hl' => hk _ _ _ _ h _ _ _ hP hS hl'
  | istore n =>
    obtain ⟨rfl, hv⟩ := of_decide_eq_true hop
    dsimp only at hv
    subst hv
    obtain ⟨x, S', rfl, h⟩ := x_top_inv h
    obtain ⟨g, h⟩ := x_lt_inv h
    exact lv_istore hx hb hdec hl g (x_st_map ad L n (.int x)) fun ls' hl' => hk _ _ _ _ h _ _ _ hP hS hl'
  | iinc n d =>
    obtain ⟨rfl, hv, hd⟩ := of_decide_eq_true hop
    dsimp only at hv hd
    subst hv
    obtain ⟨x, g, h⟩ := x_ldi_inv h
    obtain ⟨g2, h⟩ := x_lt_inv h
    have hm : (n, Value.int x) ∈ L.map (fun q => (q.1, x_tv ad q.2)) := List.mem_map.mpr ⟨(n, .int x), x_lk_mem g, rfl⟩
    obtain ⟨j, hj⟩ := List.getElem?_of_mem hm
    exact lv_iinc hx hb hdec hl hj (by rw [hd]) g2 (x_st_map ad L n (.int (x + v))) fun ls' hl' => hk _ _ _ _ h _ _ _ hP hS hl'
  | iadd =>
    obtain rfl := of_decide_eq_true hop
    have h : x_bin (fun x y => x + y) S (fun S => k (pc + 1) L S σ) = some r := h
    obtain ⟨x, y, S', rfl, h⟩ := x_bin_inv h
    exact lv_iadd hx hb hdec (hk _ _ _ _ h _ _ _ hP hS hl)
  | isub =>
    obtain rfl := of_decide_eq_true hop
    have h : x_bin (fun x y => x - y) S (fun S => k (pc + 1) L S σ) = some r := h
    obtain ⟨x, y, S', rfl, h⟩ := x_bin_inv h
    exact lv_isub hx hb hdec (hk _ _ _ _ h _ _ _ hP hS hl)
  | imul =>
    obtain rfl := of_decide_eq_true hop
    have h : x_bin (fun x y => x * y) S (fun S => k (pc + 1) L S σ) = some r := h
    obtain ⟨x, y, S', rfl, h⟩ := x_bin_inv h
    exact lv_imul hx hb hdec (hk _ _ _ _ h _ _ _ hP hS hl)
  | iand =>
    obtain rfl := of_decide_eq_true hop
    have h : x_bin (fun x y => x &&& y) S (fun S => k (pc + 1) L S σ) = some r := h
    obtain ⟨x, y, S', rfl, h⟩ := x_bin_inv h
    exact lv_iand hx hb hdec (hk _ _ _ _ h _ _ _ hP hS hl)
  | ior =>
    obtain rfl := of_decide_eq_true hop
    have h : x_bin (fun x y => x ||| y) S (fun S => k (pc + 1) L S σ) = some r := h
    obtain ⟨x, y, S', rfl, h⟩ := x_bin_inv h
    exact lv_ior hx hb hdec (hk _ _ _ _ h _ _ _ hP hS hl)
  | ixor =>
    obtain rfl := of_decide_eq_true hop
    have h : x_bin (fun x y => x ^^^ y) S (fun S => k (pc + 1) L S σ) = some r := h
    obtain ⟨x, y, S', rfl, h⟩ := x_bin_inv h
    exact lv_ixor hx hb hdec (hk _ _ _ _ h _ _ _ hP hS hl)
  | ishl =>
    obtain rfl := of_decide_eq_true hop
    have h : x_bin (fun x y => x <<< (y &&& 31)) S (fun S => k (pc + 1) L S σ) = some r := h
    obtain ⟨x, y, S', rfl, h⟩ := x_bin_inv h
    exact lv_ishl hx hb hdec (hk _ _ _ _ h _ _ _ hP hS hl)
  | ishr =>
    obtain rfl := of_decide_eq_true hop
    have h : x_bin (fun x y => x >>> (y &&& 31)) S (fun S => k (pc + 1) L S σ) = some r := h
    obtain ⟨x, y, S', rfl, h⟩ := x_bin_inv h
    exact lv_ishr hx hb hdec (hk _ _ _ _ h _ _ _ hP hS hl)
  | iushr =>
    obtain rfl := of_decide_eq_true hop
    have h : x_bin (fun x y => (x.toUInt32 >>> (y.toUInt32 &&& Int32.toUInt32 31)).toInt32) S (fun S => k (pc + 1) L S σ) = some r := h
    obtain ⟨x, y, S', rfl, h⟩ := x_bin_inv h
    exact lv_iushr hx hb hdec rfl (hk _ _ _ _ h _ _ _ hP hS hl)
  | idiv =>
    obtain rfl := of_decide_eq_true hop
    have h : x_div (fun x y => x / y) S (fun S => k (pc + 1) L S σ) = some r := h
    obtain ⟨x, y, S', rfl, hy, h⟩ := x_div_inv h
    exact lv_idiv hx hb hdec hy (hk _ _ _ _ h _ _ _ hP hS hl)
  | irem =>
    obtain rfl := of_decide_eq_true hop
    have h : x_div (fun x y => x - x / y * y) S (fun S => k (pc + 1) L S σ) = some r := h
    obtain ⟨x, y, S', rfl, hy, h⟩ := x_div_inv h
    exact lv_irem hx hb hdec hy (hk _ _ _ _ h _ _ _ hP hS hl)
  | dup =>
    obtain rfl := of_decide_eq_true hop
    obtain ⟨a, S', rfl, ha, h⟩ := x_d1_inv h
    exact lv_dup hx hb hdec (by rw [x_tv_cat]; exact ha) (hk _ _ _ _ h _ _ _ hP hS hl)
  | pop =>
    obtain rfl := of_decide_eq_true hop
    obtain ⟨a, S', rfl, ha, h⟩ := x_d1_inv h
    exact lv_pop hx hb hdec (by rw [x_tv_cat]; exact ha) (hk _ _ _ _ h _ _ _ hP hS hl)
  | dup_x1 =>
    obtain rfl := of_decide_eq_true hop
    obtain ⟨a, b, S', rfl, ha, hb2, h⟩ := x_d2_inv h
    exact lv_dup_x1 hx hb hdec (by rw [x_tv_cat]; exact ha) (by rw [x_tv_cat]; exact hb2) (hk _ _ _ _ h _ _ _ hP hS hl)
  | dup2 =>
    obtain rfl := of_decide_eq_true hop
    obtain ⟨a, b, S', rfl, ha, hb2, h⟩ := x_d2_inv h
    exact lv_dup2_11 hx hb hdec (by rw [x_tv_cat]; exact ha) (by rw [x_tv_cat]; exact hb2) (hk _ _ _ _ h _ _ _ hP hS hl)
  | ifCond cnd off =>
    obtain ⟨rfl, ht⟩ := of_decide_eq_true hop
    dsimp only at ht
    obtain ⟨x, S', rfl, h⟩ := x_top_inv h
    cases cnd with
    | eq =>
      change (if x = 0 then _ else _) = some r at h
      exact lv_if_eq hx hb hdec ht (fun g => hk _ _ _ _ ((if_pos g).symm.trans h) _ _ _ hP hS hl) (fun g => hk _ _ _ _ ((if_neg g).symm.trans h) _ _ _ hP hS hl)
    | ne =>
      change (if x = 0 then _ else _) = some r at h
      exact lv_if_ne hx hb hdec ht (fun g => hk _ _ _ _ ((if_neg g).symm.trans h) _ _ _ hP hS hl) (fun g => hk _ _ _ _ ((if_pos g).symm.trans h) _ _ _ hP hS hl)
    | lt =>
      change (if x < 0 then _ else _) = some r at h
      exact lv_if_lt hx hb hdec ht (fun g => hk _ _ _ _ ((if_pos g).symm.trans h) _ _ _ hP hS hl) (fun g => hk _ _ _ _ ((if_neg g).symm.trans h) _ _ _ hP hS hl)
    | ge =>
      change (if 0 ≤ x then _ else _) = some r at h
      exact lv_if_ge hx hb hdec ht (fun g => hk _ _ _ _ ((if_pos g).symm.trans h) _ _ _ hP hS hl) (fun g => hk _ _ _ _ ((if_neg g).symm.trans h) _ _ _ hP hS hl)
    | gt =>
      change (if 0 < x then _ else _) = some r at h
      exact lv_if_gt hx hb hdec ht (fun g => hk _ _ _ _ ((if_pos g).symm.trans h) _ _ _ hP hS hl) (fun g => hk _ _ _ _ ((if_neg g).symm.trans h) _ _ _ hP hS hl)
    | le =>
      change (if x ≤ 0 then _ else _) = some r at h
      exact lv_if_le hx hb hdec ht (fun g => hk _ _ _ _ ((if_pos g).symm.trans h) _ _ _ hP hS hl) (fun g => hk _ _ _ _ ((if_neg g).symm.trans h) _ _ _ hP hS hl)
  | if_icmp cnd off =>
    obtain ⟨rfl, ht⟩ := of_decide_eq_true hop
    dsimp only at ht
    obtain ⟨x, y, S', rfl, h⟩ := x_two_inv h
    cases cnd with
    | eq =>
      change (if x = y then _ else _) = some r at h
      exact lv_icmp_eq hx hb hdec ht (fun g => hk _ _ _ _ ((if_pos g).symm.trans h) _ _ _ hP hS hl) (fun g => hk _ _ _ _ ((if_neg g).symm.trans h) _ _ _ hP hS hl)
    | ne =>
      change (if x = y then _ else _) = some r at h
      exact lv_icmp_ne hx hb hdec ht (fun g => hk _ _ _ _ ((if_neg g).symm.trans h) _ _ _ hP hS hl) (fun g => hk _ _ _ _ ((if_pos g).symm.trans h) _ _ _ hP hS hl)
    | lt =>
      change (if x < y then _ else _) = some r at h
      exact lv_icmp_lt hx hb hdec ht (fun g => hk _ _ _ _ ((if_pos g).symm.trans h) _ _ _ hP hS hl) (fun g => hk _ _ _ _ ((if_neg g).symm.trans h) _ _ _ hP hS hl)
    | ge =>
      change (if y ≤ x then _ else _) = some r at h
      exact lv_icmp_ge hx hb hdec ht (fun g => hk _ _ _ _ ((if_pos g).symm.trans h) _ _ _ hP hS hl) (fun g => hk _ _ _ _ ((if_neg g).symm.trans h) _ _ _ hP hS hl)
    | gt =>
      change (if y < x then _ else _) = some r at h
      exact lv_icmp_gt hx hb hdec ht (fun g => hk _ _ _ _ ((if_pos g).symm.trans h) _ _ _ hP hS hl) (fun g => hk _ _ _ _ ((if_neg g).symm.trans h) _ _ _ hP hS hl)
    | le =>
      change (if x ≤ y then _ else _) = some r at h
      exact lv_icmp_le hx hb hdec ht (fun g => hk _ _ _ _ ((if_pos g).symm.trans h) _ _ _ hP hS hl) (fun g => hk _ _ _ _ ((if_neg g).symm.trans h) _ _ _ hP hS hl)
  | goto off =>
    have hop2 : (decide ((pc : Int) + off = (t : Int)) && Nat.beq len 3) = true := hop
    rw [Bool.and_eq_true] at hop2
    have ht := of_decide_eq_true hop2.1
    have hlen : len = 3 := Nat.eq_of_beq_eq_true hop2.2
    subst hlen
    exact lv_goto hx hb hdec ht (hk _ _ _ _ h _ _ _ hP hS hl)
  | tableswitch d lo hi os =>
    have hop2 : (decide ((pc : Int) + d = (t : Int) ∧ hi = lo + os.toList.length - 1) && x_tsw pc lo os.toList ts) = true := hop
    rw [Bool.and_eq_true] at hop2
    obtain ⟨ht, hhi⟩ := of_decide_eq_true hop2.1
    obtain ⟨x, S', rfl, h⟩ := x_top_inv h
    rcases x_tsw_ok hop2.2 h with ⟨i, off, tgt, g1, g2, g3, g4⟩ | ⟨g1, g2⟩
    · have hi2 : i < os.toList.length := (List.getElem?_eq_some_iff.mp g1).1
      refine lv_tableIn hx hb hdec (by omega) (by omega) (off := off) (tgt := tgt) ?_ g3 (hk _ _ _ _ g4 _ _ _ hP hS hl)
      have e : (x.toInt - lo).toNat = i := by omega
      rw [e]
      simpa using g1
    · exact lv_tableOut hx hb hdec (by omega) ht (hk _ _ _ _ g2 _ _ _ hP hS hl)
  | lookupswitch d ps =>
    have hop2 : (decide ((pc : Int) + d = (t : Int) ∧ (ps.toList.zip (ps.toList.drop 1)).all (fun (a, next) => a.1 < next.1) = true) && x_lsw pc ps.toList ts) = true := hop
    rw [Bool.and_eq_true] at hop2
    obtain ⟨ht, hps⟩ := of_decide_eq_true hop2.1
    obtain ⟨x, S', rfl, h⟩ := x_top_inv h
    obtain ⟨off, tgt, g1, g2, g3⟩ := x_lsw_ok ht hop2.2 h
    exact lv_lookup hx hb hdec hps g1 g2 (hk _ _ _ _ g3 _ _ _ hP hS hl)
  | getfield q =>
    obtain rfl := of_decide_eq_true hop
    have h : x_gf sh (pool q) S σ (fun S => k (pc + 3) L S σ) = some r := h
    obtain ⟨ci, g, n, b, o, S', fs, hp, rfl, hs, h⟩ := x_gf_inv h
    obtain ⟨Cn, T, N, f1, f2, f3, f4, f5, -⟩ := hfld _ _ _ _ _ hp
    have hw := x_w_at (ad := ad) (cI := cI) (cZ := cZ) (σ := σ) hs
    rcases h with ⟨hf, h⟩ | ⟨a, hf, h⟩
    · have hv : (x_fv ad (σ o) fs 0)[g]? = some (.int (σ o g)) := by rw [x_fv_get, hf]; simp
      rcases f5 with f5 | ⟨host, f5⟩
      · exact va_get hx hb hts f3 hown hK hP o hw f1 g f2 f5 (fun _ z => by rw [f4] at z; exact z) hv hdec (hk _ _ _ _ h _ _ _ hP hS hl)
      · exact va_getN hx hb hts f3 hown hK hP o hw f1 g f2 f5 (fun _ z => by rw [f4] at z; exact z) hv hdec (hk _ _ _ _ h _ _ _ hP hS hl)
    · have hv : (x_fv ad (σ o) fs 0)[g]? = some (.ref (ad a)) := by rw [x_fv_get, hf]; simp
      rcases f5 with f5 | ⟨host, f5⟩
      · exact va_get hx hb hts f3 hown hK hP o hw f1 g f2 f5 (fun _ z => by rw [f4] at z; exact z) hv hdec (hk _ _ _ _ h _ _ _ hP hS hl)
      · exact va_getN hx hb hts f3 hown hK hP o hw f1 g f2 f5 (fun _ z => by rw [f4] at z; exact z) hv hdec (hk _ _ _ _ h _ _ _ hP hS hl)
  | putfield q =>
    obtain rfl := of_decide_eq_true hop
    have h : x_pf sh (pool q) S σ (fun S σ => k (pc + 3) L S σ) = some r := h
    obtain ⟨ci, g, n, x, o, S', fs, hp, rfl, hs, hf, h⟩ := x_pf_inv h
    obtain ⟨Cn, T, N, f1, f2, f3, f4, f5, f6⟩ := hfld _ _ _ _ _ hp
    obtain ⟨f7, f8, ⟨ty0, f9⟩, f10⟩ := f6 rfl
    have hw := x_w_at (ad := ad) (cI := cI) (cZ := cZ) (σ := σ) hs
    have hlen : g < (x_fv ad (σ o) fs 0).length := by
      have h1 : (x_fv ad (σ o) fs 0)[g]? = some (.int (σ o g)) := by rw [x_fv_get, hf]; simp
      exact (List.getElem?_eq_some_iff.mp h1).1
    have hset : (x_w ad cI cZ sh σ).set o (ad o, .inr (ci, (x_fv ad (σ o) fs 0).set g (.int x))) = x_w ad cI cZ sh (x_up σ o g x) := x_w_set hs (by rw [x_fv_set hf]; rfl)
    rcases f5 with f5 | ⟨host, f5⟩
    · exact va_put hx hb hts f3 ty0 f9 f10 hown hK hP (hD σ) hS o hw f1 g f2 f5 (fun _ z => by rw [f4] at z; exact z) f7 f8 (by rfl) (by rfl) hlen hdec fun H1 locs1 hP1 _ hS1 => hk _ _ _ _ h _ _ _ (by rw [← hset]; exact hP1) hS1 hl
    · exact va_putN hx hb hts f3 ty0 f9 f10 hown hK hP (hD σ) hS o hw f1 g f2 f5 (fun _ z => by rw [f4] at z; exact z) f7 f8 (by rfl) (by rfl) hlen hdec fun H1 locs1 hP1 _ hS1 => hk _ _ _ _ h _ _ _ (by rw [← hset]; exact hP1) hS1 hl
  | iaload =>
    obtain rfl := of_decide_eq_true hop
    have h : x_al sh ca false S σ (fun S => k (pc + 1) L S σ) = some r := h
    obtain ⟨i, o, S', rfl, h2⟩ := x_al_inv h
    rcases h2 with ⟨n, hs, hi, h⟩ | ⟨-, q, hq, hi, h⟩
    · exact va_iald hx hb hK hP o t1 (x_w_at (ad := ad) (cI := cI) (cZ := cZ) (σ := σ) hs) ht1 hi hdec (hk _ _ _ _ h _ _ _ hP hS hl)
    · exact x_Tld hx hb (hca _ _ hq) hS hi hdec (hk _ _ _ _ h _ _ _ hP hS hl)
  | baload =>
    obtain rfl := of_decide_eq_true hop
    have h : x_al sh ca true S σ (fun S => k (pc + 1) L S σ) = some r := h
    obtain ⟨i, o, S', rfl, h2⟩ := x_al_inv h
    rcases h2 with ⟨n, hs, hi, h⟩ | ⟨hf, -⟩
    · exact va_zald hx hb hK hP o t2 (x_w_at (ad := ad) (cI := cI) (cZ := cZ) (σ := σ) hs) ht2 hi hdec (hk _ _ _ _ h _ _ _ hP hS hl)
    · cases hf
  | iastore =>
    obtain rfl := of_decide_eq_true hop
    have h : x_as sh false S σ (fun S σ => k (pc + 1) L S σ) = some r := h
    obtain ⟨x, i, o, S', n, rfl, hs, hi, h⟩ := x_as_inv h
    have hset : (x_w ad cI cZ sh σ).set o (ad o, .inl (cI, n, .inl (upd (σ o) i.toNatClampNeg x))) = x_w ad cI cZ sh (x_up σ o i.toNatClampNeg (x_nb false x)) := x_w_set hs rfl
    exact va_iast hx hb hK hP (hD σ) hS o t1 (x_w_at (ad := ad) (cI := cI) (cZ := cZ) (σ := σ) hs) ht1 hi hdec fun H1 locs1 hP1 _ hS1 => hk _ _ _ _ h _ _ _ (by rw [← hset]; exact hP1) hS1 hl
  | bastore =>
    obtain rfl := of_decide_eq_true hop
    have h : x_as sh true S σ (fun S σ => k (pc + 1) L S σ) = some r := h
    obtain ⟨x, i, o, S', n, rfl, hs, hi, h⟩ := x_as_inv h
    have hset : (x_w ad cI cZ sh σ).set o (ad o, .inl (cZ, n, .inl (upd (σ o) i.toNatClampNeg (vp_nar .boolean x)))) = x_w ad cI cZ sh (x_up σ o i.toNatClampNeg (x_nb true x)) := x_w_set hs rfl
    exact va_zast hx hb hK hP (hD σ) hS o t2 (x_w_at (ad := ad) (cI := cI) (cZ := cZ) (σ := σ) hs) ht2 hi hdec fun H1 locs1 hP1 _ hS1 => hk _ _ _ _ h _ _ _ (by rw [← hset]; exact hP1) hS1 hl
  | invokevirtual q =>
    obtain rfl := of_decide_eq_true hop
    have h : x_iv sh C (pool q) S σ (fun S σ => k (pc + 3) L S σ) = some r := h
    obtain ⟨j, na, ci, v, o, as, rest, fs, r1, hp, rfl, hn, hs, hr, hc, h⟩ := x_iv_inv h
    obtain ⟨a, hrun⟩ := hvirt _ _ _ _ _ hp as rest o fs σ r1 H locs ls pc hn hs hr hc hP hS hl.1 hdec
    refine W.eq (g2 := F0 m pc ls ((as.map (x_tv ad)).reverse ++ .ref (ad o) :: rest.map (x_tv ad))) ?_ (x_callW hrun hS fun H1 locs1 hP1 hS1 => ?_)
    · simp only [List.map_append, List.map_reverse, List.map_cons, x_tv]
    · have := hk _ _ _ _ h H1 locs1 ls hP1 hS1 hl
      cases v <;> exact this
  | invokestatic q =>
    obtain rfl := of_decide_eq_true hop
    have h : x_is C (pool q) S σ (fun S σ => k (pc + 3) L S σ) = some r := h
    obtain ⟨j, na, ci, v, as, rest, r1, hp, rfl, hn, hr, hc, h⟩ := x_is_inv h
    obtain ⟨a, hrun⟩ := hstat _ _ _ _ _ hp as rest σ r1 H locs ls pc hn hr hc hP hS hl.1 hdec
    refine W.eq (g2 := F0 m pc ls ((as.map (x_tv ad)).reverse ++ rest.map (x_tv ad))) ?_ (x_callW hrun hS fun H1 locs1 hP1 hS1 => ?_)
    · simp only [List.map_append, List.map_reverse]
    · have := hk _ _ _ _ h H1 locs1 ls hP1 hS1 hl
      cases v <;> exact this
  | ldc q =>
    obtain rfl := of_decide_eq_true hop
    have h : x_oc (pool q) S (fun S => k (pc + 2) L S σ) = some r := h
    rcases x_oc_inv h with ⟨o, n1, n2, hp, h⟩ | ⟨o, n1, n2, b, hp, h⟩
    · obtain ⟨tx, hz⟩ := hsta _ _ _ _ _ hp
      exact va_ldcS hx hb hown hz hdec (hk _ _ _ _ h _ _ _ hP hS hl)
    · exact lv_ldc hx hb hown (hcon _ _ _ _ _ hp) hdec (hk _ _ _ _ h _ _ _ hP hS hl)
  | ldc_w q =>
    obtain rfl := of_decide_eq_true hop
    have h : x_ow (pool q) S (fun S => k (pc + 3) L S σ) = some r := h
    obtain ⟨o, n1, n2, b, hp, h⟩ := x_ow_inv h
    exact lv_ldcw hx hb hown (hcon _ _ _ _ _ hp) hdec (hk _ _ _ _ h _ _ _ hP hS hl)
  | getstatic q =>
    obtain rfl := of_decide_eq_true hop
    have h : x_os (pool q) S (fun S => k (pc + 3) L S σ) = some r := h
    obtain ⟨o, n1, n2, hp, h⟩ := x_os_inv h
    obtain ⟨Cn, n, d, hz, hlk⟩ := hsta _ _ _ _ _ hp
    exact va_gets hx hb hz hS hown hlk (fun _ z => z) hdec (hk _ _ _ _ h _ _ _ hP hS hl)
  | ireturn =>
    obtain rfl := of_decide_eq_true hop
    have h : x_ir rt S σ = some r := h
    obtain ⟨x, rfl, rfl, hrt⟩ := x_ir_inv h
    rcases hrt with rfl | ⟨rfl, hx01⟩
    · have hr : meth.sig.returnType = some .int := by
        rcases hret with ⟨q, -⟩ | ⟨-, q⟩ | ⟨q, -⟩
        · cases q
        · exact q
        · cases q
      exact W.iret hx hb hr (fun t ht hW => ⟨rfl, by rw [ht]; exact hP, hS.F ht⟩) hS.2.2 hdec hlocks
    · have hr : meth.sig.returnType = some .boolean := by
        rcases hret with ⟨q, -⟩ | ⟨q, -⟩ | ⟨-, q⟩
        · cases q
        · cases q
        · exact q
      have hn : narrow .boolean (.int x) = .int x := by rcases hx01 with rfl | rfl <;> rfl
      exact W.zret hx hb hr hn (fun t ht hW => ⟨rfl, by rw [ht]; exact hP, hS.F ht⟩) hS.2.2 hdec hlocks
  | return_ =>
    obtain rfl := of_decide_eq_true hop
    have h : x_vr rt S σ = some r := h
    obtain ⟨rfl, rfl, rfl⟩ := x_vr_inv h
    have hr : meth.sig.returnType = none := by
      rcases hret with ⟨-, q⟩ | ⟨q, -⟩ | ⟨q, -⟩
      · exact q
      · cases q
      · cases q
    exact W.vret hx hb hr (fun t ht hW => ⟨rfl, by rw [ht]; exact hP, hS.F ht⟩) hS.2.2 hdec hlocks
  | _ => exact absurd h (by simp [x_step])
end XG
end
section
/-! Blocks, runs, a method's contract out of a run -/
theorem x_at_mem : ∀ {code : List (Nat × xO)} {pc : Nat} {o : xO}, x_at code pc = some o → (pc, o) ∈ code
  | [], pc, o, h => by cases h
  | q :: r, pc, o, h => by
    unfold x_at at h
    split at h
    · rename_i hq
      cases h
      have e : q.1 = pc := Nat.eq_of_beq_eq_true hq
      exact List.mem_cons.mpr (Or.inl (by rw [← e]))
    · exact List.mem_cons_of_mem _ (x_at_mem h)
theorem x_nm_mem : ∀ {live : List Nat} {L : xL} {q : Nat × Value}, q ∈ x_nm L live → q ∈ L
  | [], L, q, h => by cases h
  | i :: r, L, q, h => by
    unfold x_nm at h
    split at h
    · rename_i v hv
      rcases List.mem_cons.mp h with rfl | h
      · exact x_lk_mem hv
      · exact x_nm_mem h
    · exact x_nm_mem h
theorem x_blk_ok {cc : ByteArray} {sh : List xH} {ca : Nat → Option (List Int32)} {pool : Nat → Option xE} {nL rt : Nat} {code : List (Nat × xO)} {cuts : List (Nat × List Nat)} {C : xC} {k0 : xK} {r : xR} {G : Nat → xL → List Value → xS → Prop}
    (hstep : ∀ (k : xK) (o : xO) (pc : Nat) (L : xL) (S : List Value) (σ : xS), (∀ pc L S σ, k pc L S σ = some r → G pc L S σ) → decode cc pc = .ok (o.2.1, o.1) → x_ok pc o = true → x_step sh ca pool nL rt C k o pc L S σ = some r → G pc L S σ)
    (hcode : ∀ q ∈ code, decode cc q.1 = .ok (q.2.2.1, q.2.1) ∧ x_ok q.1 q.2 = true) (hG : ∀ (pc : Nat) (L L' : xL) (S : List Value) (σ : xS), (∀ q ∈ L', q ∈ L) → G pc L' S σ → G pc L S σ) (hk0 : ∀ pc L S σ, k0 pc L S σ = some r → G pc L S σ) :
    ∀ (n pc : Nat) (L : xL) (S : List Value) (σ : xS), x_blk sh ca pool nL rt code cuts C k0 n pc L S σ = some r → G pc L S σ := by
  intro n
  induction n with
  | zero => intro pc L S σ h; cases h
  | succ n ih =>
    intro pc L S σ h
    change (match x_at code pc with
      | none => none
      | some o => x_step sh ca pool nL rt C (fun pc L S σ => match x_in cuts pc with
        | some live => k0 pc (x_nm L live) S σ
        | none => x_blk sh ca pool nL rt code cuts C k0 n pc L S σ) o pc L S σ) = some r at h
    split at h
    · cases h
    · rename_i o ho
      obtain ⟨h1, h2⟩ := hcode _ (x_at_mem ho)
      refine hstep _ o pc L S σ (fun pc L S σ h => ?_) h1 h2 h
      split at h
      · exact hG _ _ _ _ _ (fun q hq => x_nm_mem hq) (hk0 _ _ _ _ h)
      · exact ih _ _ _ _ h
theorem x_run_ok {B : xK → xK} {r : xR} {G : Nat → xL → List Value → xS → Prop} (hB : ∀ k0 : xK, (∀ pc L S σ, k0 pc L S σ = some r → G pc L S σ) → ∀ pc L S σ, B k0 pc L S σ = some r → G pc L S σ) :
    ∀ (n pc : Nat) (L : xL) (S : List Value) (σ : xS), x_run B n pc L S σ = some r → G pc L S σ := by
  intro n
  induction n with
  | zero => intro pc L S σ h; cases h
  | succ n ih => intro pc L S σ h; exact hB (x_run B n) ih pc L S σ h
theorem x_args_map (ad : Nat → Nat) : ∀ (as : List Value) (i : Nat), lv_args i (as.map (x_tv ad)) = (lv_args i as).map fun q => (q.1, x_tv ad q.2)
  | [], i => rfl
  | a :: as, i => by
    simp only [List.map_cons, lv_args, x_tv_cat, x_args_map ad as]
theorem x_sl_len (ad : Nat → Nat) : ∀ {n : Nat} {as : List Value}, x_rm n as = true → (lg_sl (as.map (x_tv ad))).length ≤ n
  | n, [], _ => by simp [lg_sl]
  | 0, v :: r, h => by cases v <;> simp [x_rm] at h
  | n + 1, v :: r, h => by
    cases v with
    | int x =>
      have := x_sl_len ad (n := n) (as := r) h
      have e : lg_sl ((Value.int x :: r).map (x_tv ad)) = Slot.val (x_tv ad (.int x)) :: lg_sl (r.map (x_tv ad)) := rfl
      rw [e, List.length_cons]
      omega
    | ref x =>
      have := x_sl_len ad (n := n) (as := r) h
      have e : lg_sl ((Value.ref x :: r).map (x_tv ad)) = Slot.val (x_tv ad (.ref x)) :: lg_sl (r.map (x_tv ad)) := rfl
      rw [e, List.length_cons]
      omega
    | _ => simp [x_rm] at h
def x_Pc (D : va_G) (cl : List vw_C) (tys : List (ClassId × FieldType)) (ad : Nat → Nat) (cI cZ : ClassId) (sh : List xH) (NW : State → Prop) (as : List Value) (σ : xS) : Array Value → State → Prop :=
  va_Pc (as.map (x_tv ad)) (fun U => va_P D cl (x_w ad cI cZ sh σ) U.heap ∧ va_K D cl tys U ∧ NW U)
/-- what the constants' words ride on -/
def x_Mv (A : Nat → Prop) (NW : State → Prop) : Prop := ∀ s U : State, NW s → s.WarmedH U.vm → (∀ q : Nat, q < s.heap.size → ¬ A q → U.heap[q]? = s.heap[q]?) → NW U
section XV
variable {p : Program} {l : Launch} {e : Env} {R : Room} {s : State} {m : MethodId} {args : Array Value} {below : List Frame} {meth : Method} {c : Code} {H : Heap} {locs : List Loc}
variable {D : va_G} {cl : List vw_C} {tys : List (ClassId × FieldType)} {A : Nat → Prop} {ad : Nat → Nat} {cI cZ : ClassId} {sh : List xH} {cc bytes : ByteArray} {nL maxL na ci q pc o : Nat} {NW : State → Prop} {Ts ws : List Cond} {own C : String} {T : u_T} {N : Nat} {y : MethodName} {ret : Option FieldType} {rm : Room} {as rest : List Value} {σ : xS} {v : Bool} {r1 : xR} {ls : Array Slot} {fs : List (Option Nat)}
theorem x_Pc_blind (hMv : x_Mv A NW) : FrameBlind (x_Pc D cl tys ad cI cZ sh NW as σ) := fun a U g mk h =>
  ⟨h.1, h.2.1, va_K.moved (u := U) (U := U.calling g mk a) (Vm.Alike.refl U.vm) h.2.2.1, hMv U (U.calling g mk a) h.2.2.2 (State.WarmedH.refl U) (fun _ _ _ => rfl)⟩
theorem x_virt (hMv : x_Mv A NW) (S : CallFix p m c cc nL s args Ts own) (hM : Met l y ws rm (x_Pc D cl tys ad cI cZ sh NW (.ref o :: as) σ) (x_Qc D cl A ad cI cZ sh v r1) 0 0 A)
    (cw : CallW R s args own C q y bytes maxL ret ws rm 0 0 na ∨ ∃ host, va_CN R s args own q y host bytes maxL ret ws rm 0 0 na ∧ (Cond.instanceMethod y).before args s = true ∧ (Cond.selects C y y).before args s = true)
    (hc : cl[ci]? = some (C, T, N)) (hs : sh[o]? = some (.inl (ci, fs))) (hP : va_P D cl (x_w ad cI cZ sh σ) H) (hK : va_K D cl tys s) (hS : va_S A s.heap H locs) (hN : NW s) (hn : as.length = na) (hls : ls.size = nL) (hr : x_rm 8 rest = true) (hdg : decode cc pc = .ok (.invokevirtual q, 3)) :
    ∃ a, va_Run p l e R s m args below meth c H locs 0 0 0 0 (F0 m pc ls ((as.map (x_tv ad)).reverse ++ .ref (ad o) :: rest.map (x_tv ad))) (rest.map (x_tv ad)) (x_Qc D cl A ad cI cZ sh v r1 a) A := by
  have hpre : PreV s H C (ad o) (x_Pc D cl tys ad cI cZ sh NW (.ref o :: as) σ) (as.map (x_tv ad)) :=
    ⟨x_Pc_blind hMv, va_recv hK hP hc (x_w_at hs), fun U hU hW => ⟨rfl, by rw [hU]; exact hP, va_K.moved hW.alike hK, hMv s U hN hW (fun z h1 h2 => by rw [hU]; exact hS.2.1 z h1 h2)⟩⟩
  rcases cw with cw | ⟨host, cw⟩
  · exact ⟨_, va_runV (As := as.map (x_tv ad)) (rest := rest.map (x_tv ad)) (b := ad o) S hM cw hpre rfl (by rw [List.length_map]; exact hn) hls rfl (lv_room (x_rm_sum ad hr)) hdg ⟨Nat.zero_le _, Nat.zero_le _⟩⟩
  · exact ⟨_, va_runVN (As := as.map (x_tv ad)) (rest := rest.map (x_tv ad)) (b := ad o) S hM cw hpre rfl (by rw [List.length_map]; exact hn) hls rfl (lv_room (x_rm_sum ad hr)) hdg ⟨Nat.zero_le _, Nat.zero_le _⟩⟩
theorem x_stat (hMv : x_Mv A NW) (S : CallFix p m c cc nL s args Ts own) (hM : Met l y ws rm (x_Pc D cl tys ad cI cZ sh NW as σ) (x_Qc D cl A ad cI cZ sh v r1) 0 0 A)
    (cw : (CallB R s args own q y bytes maxL ret ws rm 0 0 na ∧ (Cond.static y).before args s = true) ∨ ∃ host, va_CN R s args own q y host bytes maxL ret ws rm 0 0 na ∧ (Cond.static y).before args s = true)
    (hP : va_P D cl (x_w ad cI cZ sh σ) H) (hK : va_K D cl tys s) (hS : va_S A s.heap H locs) (hN : NW s) (hn : as.length = na) (hls : ls.size = nL) (hr : x_rm 8 rest = true) (hdg : decode cc pc = .ok (.invokestatic q, 3)) :
    ∃ a, va_Run p l e R s m args below meth c H locs 0 0 0 0 (F0 m pc ls ((as.map (x_tv ad)).reverse ++ rest.map (x_tv ad))) (rest.map (x_tv ad)) (x_Qc D cl A ad cI cZ sh v r1 a) A := by
  have hpre : PreS s H (x_Pc D cl tys ad cI cZ sh NW as σ) (as.map (x_tv ad)) :=
    ⟨x_Pc_blind hMv, fun U hU hW => ⟨rfl, by rw [hU]; exact hP, va_K.moved hW.alike hK, hMv s U hN hW (fun z h1 h2 => by rw [hU]; exact hS.2.1 z h1 h2)⟩⟩
  rcases cw with cw | ⟨host, cw1, cw2⟩
  · exact ⟨_, va_runS (As := as.map (x_tv ad)) (rest := rest.map (x_tv ad)) S hM cw hpre rfl (by rw [List.length_map]; exact hn) hls rfl (lv_room (x_rm_sum ad hr)) hdg ⟨Nat.zero_le _, Nat.zero_le _⟩⟩
  · exact ⟨_, va_runSN (As := as.map (x_tv ad)) (rest := rest.map (x_tv ad)) S hM ⟨cw1, cw2, trivial⟩ hpre rfl (by rw [List.length_map]; exact hn) hls rfl (lv_room (x_rm_sum ad hr)) hdg ⟨Nat.zero_le _, Nat.zero_le _⟩⟩
end XV
/-- what the words say of a pool's places, for the methods' tables y, b, l, r, w, v -/
def x_PO (cl : List vw_C) (A : Nat → Prop) (ad : Nat → Nat) (ca : Nat → Option (List Int32)) (pool : Nat → Option xE) (ws : List Cond) (own : String) (yj : Nat → MethodName) (bj : Nat → ByteArray) (lj : Nat → Nat) (rj : Nat → Option FieldType) (wj : Nat → List Cond) (vj : Nat → Bool) (mj : Nat → Room) (rm : Room) (s : State) (args : Array Value) : Prop :=
  (∀ q ci f n b, pool q = some (0, ci, f, n, b) → x_FO cl ws s args own q ci f b) ∧ (∀ q o n1 n2 b, pool q = some (3, o, n1, n2, b) → x_SO A ad s args own q o b) ∧ (∀ q o n1 n2 b, pool q = some (4, o, n1, n2, b) → (Jvm.Cond.constant own q (Int32.ofNat o)).before args s = true) ∧
  (∀ o q, ca o = some q → va_T .int (ad o) q.length (fun j => .int (q.getD j 0)) A s s.heap) ∧
  (∀ q j na ci v, pool q = some (1, j, na, ci, v) → v = vj j ∧ ∃ (C : String) (T : u_T) (N : Nat), cl[ci]? = some (C, T, N) ∧ (CallW rm s args own C q (yj j) (bj j) (lj j) (rj j) (wj j) (mj j) 0 0 na ∨ ∃ host, va_CN rm s args own q (yj j) host (bj j) (lj j) (rj j) (wj j) (mj j) 0 0 na ∧ (Cond.instanceMethod (yj j)).before args s = true ∧ (Cond.selects C (yj j) (yj j)).before args s = true)) ∧
  (∀ q j na ci v, pool q = some (2, j, na, ci, v) → v = vj j ∧ ((CallB rm s args own q (yj j) (bj j) (lj j) (rj j) (wj j) (mj j) 0 0 na ∧ (Cond.static (yj j)).before args s = true) ∨ ∃ host, va_CN rm s args own q (yj j) host (bj j) (lj j) (rj j) (wj j) (mj j) 0 0 na ∧ (Cond.static (yj j)).before args s = true))
theorem x_met {l : Launch} {D : va_G} {cl : List vw_C} {tys : List (ClassId × FieldType)} {A : Nat → Prop} {ad : Nat → Nat} {cI cZ : ClassId} {sh : List xH} {NW : State → Prop} {ca : Nat → Option (List Int32)} {y : MethodName} {ws ws' : List Cond} {rm : Room} {cc : ByteArray} {nL rt : Nat} {ret : Option FieldType} {pool : Nat → Option xE} {code : List (Nat × xO)} {cuts : List (Nat × List Nat)} {C : xC} {n0 n1 : Nat} {as : List Value} {σ : xS} {r : xR}
    {yj : Nat → MethodName} {bj : Nat → ByteArray} {lj : Nat → Nat} {rj : Nat → Option FieldType} {wj : Nat → List Cond} {vj : Nat → Bool} {mj : Nat → Room}
    (hy : plainName y.cls = true) (hw : ws = Cond.code y cc nL ret :: ws') (hret : x_rt rt ret) (hcode : ∀ q ∈ code, decode cc q.1 = .ok (q.2.2.1, q.2.1) ∧ x_ok q.1 q.2 = true) (hMv : x_Mv A NW) (hD : ∀ σ : xS, va_D A (x_w ad cI cZ sh σ)) {t1 t2 : Nat} (ht1 : tys[t1]? = some (cI, .int)) (ht2 : tys[t2]? = some (cZ, .boolean))
    (hpool : ∀ (s : State) (args : Array Value), (∀ w ∈ ws, w.before args s = true) → NW s → x_PO cl A ad ca pool ws y.cls yj bj lj rj wj vj mj rm s args)
    (hM : ∀ (j : Nat) (as : List Value) (σ : xS) (r1 : xR), C j as σ = some r1 → Met l (yj j) (wj j) (mj j) (x_Pc D cl tys ad cI cZ sh NW as σ) (x_Qc D cl A ad cI cZ sh (vj j) r1) 0 0 A)
    (hrm : x_rm nL as = true) (h : x_run (fun k0 => x_blk sh ca pool nL rt code cuts C k0 n0) n1 0 (lv_args 0 as) [] σ = some r) :
    Met l y ws rm (x_Pc D cl tys ad cI cZ sh NW as σ) (x_Qc D cl A ad cI cZ sh (rt == 0) r) 0 0 A := by
  refine Met.ofW (cc := cc) (maxL := nL) (ret := ret) hy hw ?_
  intro p e s m args below meth c s₁ B hml hv
  obtain ⟨rfl, hP, hK, hN⟩ := hv
  have hx := B.exec
  have hb := B.bytes
  have hr := B.returns
  have hts := atoms_spec (ws := ws) B.pre
  have hown : s.vm.findClass y.cls = some m.cls := findClass_of_methodNamed B.named
  have hlocks := B.notSynchronized
  obtain ⟨p1, p2, p3, p4, p5, p6⟩ := hpool s _ hts hN
  have hl := lv_entry (as.map (x_tv ad)) (n := nL) (x_sl_len ad hrm)
  rw [lg_entry_eq]
  rw [x_args_map] at hl
  refine x_run_ok (G := x_G p l e (headSpec ws rm).room s m _ below meth c (MQ below (x_Qc D cl A ad cI cZ sh (rt == 0) r) _ s 0 0 A) D cl A ad cI cZ sh nL) ?_ n1 0 (lv_args 0 as) [] σ h s.heap [] _ hP va_S.rf hl
  intro k0 hk0
  refine x_blk_ok (cc := cc) ?_ hcode ?_ hk0 n0
  · intro k o pc L S σ hk hdec hop hst
    refine x_step_ok (Ts := ws) (own := y.cls) hx hb hlocks hown hts hK hD ht1 ht2 (by rw [hr]; exact hret) p1 p2 p3 p4 ?_ ?_ hk hdec hop hst
    · intro q j na ci v hp as rest o fs σ r1 H locs ls pc g1 g2 g3 g4 g5 g6 g7 g8
      obtain ⟨rfl, Cn, T, N, f1, f2⟩ := p5 q j na ci v hp
      exact x_virt hMv ⟨hx, hb, hml, hown, hts⟩ (hM _ _ _ _ g4) f2 f1 g2 g5 hK g6 hN g1 g7 g3 g8
    · intro q j na ci v hp as rest σ r1 H locs ls pc g1 g3 g4 g5 g6 g7 g8
      obtain ⟨rfl, f2⟩ := p6 q j na ci v hp
      exact x_stat hMv ⟨hx, hb, hml, hown, hts⟩ (hM _ _ _ _ g4) f2 g5 hK g6 hN g1 g7 g3 g8
  · intro pc L L' S σ hsub hg H locs ls hP hS hl
    refine hg H locs ls hP hS ⟨hl.1, hl.2.1, fun q hq => ?_⟩
    obtain ⟨z, hz, rfl⟩ := List.mem_map.mp hq
    exact hl.2.2 _ (List.mem_map.mpr ⟨z, hsub z hz, rfl⟩)
end
section
/-! The program: shapes, pools, rows of the methods (written by a program out of the bytes of the Statement) -/
def x_sh : List xH := [.inl (0, [some 1, some 3, some 5, some 8, some 10, some 12, some 14, none, none]), .inl (1, [some 2]), .inr (false, 512), .inl (2, [some 1, some 4, none, none, none, none, none, none, none]), .inr (false, 8), .inl (3, [some 6, some 7]), .inr (false, 512), .inr (true, 256), .inl (4, [some 9, none, none]), .inr (false, 40), .inl (5, [some 11, none]), .inr (false, 64), .inl (6, [some 1, some 5, some 13, none, none]), .inr (false, 4), .inl (7, [some 1, some 5, some 10, some 15, some 16, some 17, some 18, none, none]), .inr (false, 20), .inr (false, 3), .inr (false, 3), .inr (false, 4), .inl (8, [none, some 20, some 21, some 22, none, none, none, none, none, none, none, none, none, none, some 23, none, some 24, none, some 25, none, none, some 26]), .inr (false, 512), .inr (false, 512), .inr (false, 8), .inr (false, 40), .inr (false, 20), .inr (false, 64), .inr (false, 4)]
def x_ca : Nat → Option (List Int32) := fun o => match Nat.beq o 900 with
  | true => some [1, 2, 2, 3, 3, 1, 0]
  | false => none
def RXM : String := "DeskMachineModel"
def TXM : u_T := fun k => match k with
  | 0 => ("DeskMachineModel", "threw", "I", false)
  | 1 => ("DeskMachineModel", "memory", "[I", true)
  | 2 => ("DeskMachineModel", "disk", "[I", true)
  | 3 => ("DeskMachineModel", "register", "[I", true)
  | 4 => ("DeskMachineModel", "sp", "I", false)
  | 5 => ("DeskMachineModel", "pc", "I", false)
  | 6 => ("DeskMachineModel", "buffer", "I", false)
  | 7 => ("DeskMachineModel", "sign", "I", false)
  | 8 => ("DeskMachineModel", "zero", "I", false)
  | 9 => ("DeskMachineModel", "parity", "I", false)
  | 10 => ("DeskMachineModel", "half", "I", false)
  | 11 => ("DeskMachineModel", "carry", "I", false)
  | 12 => ("DeskMachineModel", "state", "I", false)
  | 13 => ("DeskMachineModel", "keys", "I", false)
  | 14 => ("DeskMachineModel", "key", "[I", true)
  | 15 => ("DeskMachineModel", "length", "I", false)
  | 16 => ("DeskMachineModel", "line", "[I", true)
  | 17 => ("DeskMachineModel", "shows", "I", false)
  | 18 => ("DeskMachineModel", "ring", "[I", true)
  | 19 => ("DeskMachineModel", "steps", "I", false)
  | 20 => ("DeskMachineModel", "last", "I", false)
  | _ => ("DeskMachineModel", "name", "[I", true)
def tyXM : Nat → FieldType := fun k => match k with
  | 0 => .int
  | 1 => .array .int
  | 2 => .array .int
  | 3 => .array .int
  | 4 => .int
  | 5 => .int
  | 6 => .int
  | 7 => .int
  | 8 => .int
  | 9 => .int
  | 10 => .int
  | 11 => .int
  | 12 => .int
  | 13 => .int
  | 14 => .array .int
  | 15 => .int
  | 16 => .array .int
  | 17 => .int
  | 18 => .array .int
  | 19 => .int
  | 20 => .int
  | _ => .array .int
theorem nmXM : ∀ a, a < 22 → ∀ b, b < 22 → a ≠ b → (TXM a).2.1 ≠ (TXM b).2.1 := by decide +kernel
theorem tyXM_ok : ∀ k, k < 22 → parseFieldDescriptor (TXM k).2.2.1 = some (tyXM k) := by decide +kernel
abbrev x_cl : List vw_C := [(RX7, TX7, 9), (RX4, TX4, 1), (RX5, TX5, 9), (RX1, TX1, 2), (RX3, TX3, 3), (RX6, TX6, 2), (RX2, TX2, 5), (RX0, TX0, 9), (RXM, TXM, 22)]
abbrev xI : Type := MethodName × ByteArray × Nat × Option FieldType × Nat × List (Nat × xE) × List (Nat × xO) × List (Nat × List Nat) × Nat × Nat × Nat × Nat
def x_pl : List (Nat × xE) → Nat → Option xE
  | [], _ => none
  | e :: r, q => (match Nat.beq e.1 q with
    | true => some e.2
    | false => x_pl r q)
-- 0: DeskMachine.isByte(I)Z
def x_p0 : List (Nat × xE) := []
def xc_0 : List (Nat × xO) := [(0, 1, .iload_n 0, 0, 0, []), (1, 3, .ifCond .lt 14, 0, 15, []), (4, 1, .iload_n 0, 0, 0, []), (5, 3, .sipush 255, 255, 0, []), (8, 3, .if_icmp .gt 7, 0, 15, []), (11, 1, .iconst 1, 1, 0, []), (12, 3, .goto 4, 0, 16, []), (15, 1, .iconst 0, 0, 0, []), (16, 1, .ireturn, 0, 0, [])]
def x_i0 : xI := (⟨"DeskMachine", "isByte", "(I)Z"⟩, prog_1_method_11_code, 1, some .boolean, 2, x_p0, xc_0, [], 0, 0, 1, 0)
-- 1: DeskMachine$KeyQueue.isFull()Z
def x_p1 : List (Nat × xE) := [(17, 0, 4, 2, 0, true)]
def xc_1 : List (Nat × xO) := [(0, 1, .aload_n 0, 0, 0, []), (1, 3, .getfield 17, 0, 0, []), (4, 2, .bipush 40, 40, 0, []), (6, 3, .if_icmp .ne 7, 0, 13, []), (9, 1, .iconst 1, 1, 0, []), (10, 3, .goto 4, 0, 14, []), (13, 1, .iconst 0, 0, 0, []), (14, 1, .ireturn, 0, 0, [])]
def x_i1 : xI := (⟨"DeskMachine$KeyQueue", "isFull", "()Z"⟩, prog_5_method_4_code, 1, some .boolean, 2, x_p1, xc_1, [], 0, 0, 0, 4)
-- 2: DeskMachine$KeyQueue.add(I)V
def x_p2 : List (Nat × xE) := [(9, 0, 4, 0, 0, false), (13, 0, 4, 1, 0, true), (17, 0, 4, 2, 0, true)]
def xc_2 : List (Nat × xO) := [(0, 1, .aload_n 0, 0, 0, []), (1, 3, .getfield 9, 0, 0, []), (4, 1, .aload_n 0, 0, 0, []), (5, 3, .getfield 13, 0, 0, []), (8, 1, .aload_n 0, 0, 0, []), (9, 3, .getfield 17, 0, 0, []), (12, 1, .iadd, 0, 0, []), (13, 2, .bipush 40, 40, 0, []), (15, 1, .irem, 0, 0, []), (16, 1, .iload_n 1, 0, 1, []), (17, 1, .iastore, 0, 0, []), (18, 1, .aload_n 0, 0, 0, []), (19, 1, .dup, 0, 0, []), (20, 3, .getfield 17, 0, 0, []), (23, 1, .iconst 1, 1, 0, []), (24, 1, .iadd, 0, 0, []), (25, 3, .putfield 17, 0, 0, []), (28, 1, .return_, 0, 0, [])]
def x_i2 : xI := (⟨"DeskMachine$KeyQueue", "add", "(I)V"⟩, prog_5_method_5_code, 2, none, 0, x_p2, xc_2, [], 0, 0, 1, 4)
-- 3: DeskMachine$KeyQueue.size()I
def x_p3 : List (Nat × xE) := [(17, 0, 4, 2, 0, true)]
def xc_3 : List (Nat × xO) := [(0, 1, .aload_n 0, 0, 0, []), (1, 3, .getfield 17, 0, 0, []), (4, 1, .ireturn, 0, 0, [])]
def x_i3 : xI := (⟨"DeskMachine$KeyQueue", "size", "()I"⟩, prog_5_method_2_code, 1, some .int, 1, x_p3, xc_3, [], 0, 0, 0, 4)
-- 4: DeskMachine.key(I)I
def x_p4 : List (Nat × xE) := [(35, 0, 0, 3, 0, false), (71, 2, 0, 1, 0, false), (78, 1, 1, 0, 4, false), (85, 1, 2, 1, 4, true), (89, 1, 3, 0, 4, false)]
def xc_4 : List (Nat × xO) := [(0, 1, .iload_n 1, 0, 1, []), (1, 3, .invokestatic 71, 0, 0, []), (4, 3, .ifCond .ne 11, 0, 15, []), (15, 1, .aload_n 0, 0, 0, []), (16, 3, .getfield 35, 0, 0, []), (19, 3, .invokevirtual 78, 0, 0, []), (22, 3, .ifCond .eq 11, 0, 33, []), (33, 1, .aload_n 0, 0, 0, []), (34, 3, .getfield 35, 0, 0, []), (37, 1, .iload_n 1, 0, 1, []), (38, 3, .invokevirtual 85, 0, 0, []), (41, 1, .aload_n 0, 0, 0, []), (42, 3, .getfield 35, 0, 0, []), (45, 3, .invokevirtual 89, 0, 0, []), (48, 1, .ireturn, 0, 0, [])]
def x_i4 : xI := (⟨"DeskMachine", "key", "(I)I"⟩, prog_1_method_2_code, 2, some .int, 1, x_p4, xc_4, [], 1, 21, 1, 0)
-- 5: DeskMachine$KeyQueue.isEmpty()Z
def x_p5 : List (Nat × xE) := [(17, 0, 4, 2, 0, true)]
def xc_5 : List (Nat × xO) := [(0, 1, .aload_n 0, 0, 0, []), (1, 3, .getfield 17, 0, 0, []), (4, 3, .ifCond .ne 7, 0, 11, []), (7, 1, .iconst 1, 1, 0, []), (8, 3, .goto 4, 0, 12, []), (11, 1, .iconst 0, 0, 0, []), (12, 1, .ireturn, 0, 0, [])]
def x_i5 : xI := (⟨"DeskMachine$KeyQueue", "isEmpty", "()Z"⟩, prog_5_method_3_code, 1, some .boolean, 2, x_p5, xc_5, [], 0, 0, 0, 4)
-- 6: DeskMachine$KeyQueue.take()I
def x_p6 : List (Nat × xE) := [(9, 0, 4, 0, 0, false), (13, 0, 4, 1, 0, true), (17, 0, 4, 2, 0, true)]
def xc_6 : List (Nat × xO) := [(0, 1, .aload_n 0, 0, 0, []), (1, 3, .getfield 9, 0, 0, []), (4, 1, .aload_n 0, 0, 0, []), (5, 3, .getfield 13, 0, 0, []), (8, 1, .iaload, 0, 0, []), (9, 1, .istore_n 1, 0, 1, []), (10, 1, .aload_n 0, 0, 0, []), (11, 1, .aload_n 0, 0, 0, []), (12, 3, .getfield 13, 0, 0, []), (15, 1, .iconst 1, 1, 0, []), (16, 1, .iadd, 0, 0, []), (17, 2, .bipush 40, 40, 0, []), (19, 1, .irem, 0, 0, []), (20, 3, .putfield 13, 0, 0, []), (23, 1, .aload_n 0, 0, 0, []), (24, 1, .dup, 0, 0, []), (25, 3, .getfield 17, 0, 0, []), (28, 1, .iconst 1, 1, 0, []), (29, 1, .isub, 0, 0, []), (30, 3, .putfield 17, 0, 0, []), (33, 1, .iload_n 1, 0, 1, []), (34, 1, .ireturn, 0, 0, [])]
def x_i6 : xI := (⟨"DeskMachine$KeyQueue", "take", "()I"⟩, prog_5_method_6_code, 2, some .int, 1, x_p6, xc_6, [], 0, 0, 0, 4)
-- 7: DeskMachine$Desk.add(I)V
def x_p7 : List (Nat × xE) := [(23, 0, 7, 3, 0, false), (36, 0, 7, 7, 0, true)]
def xc_7 : List (Nat × xO) := [(0, 1, .iload_n 1, 0, 1, []), (1, 2, .bipush 32, 32, 0, []), (3, 3, .if_icmp .lt 38, 0, 41, []), (6, 1, .iload_n 1, 0, 1, []), (7, 2, .bipush 126, 126, 0, []), (9, 3, .if_icmp .gt 32, 0, 41, []), (12, 1, .aload_n 0, 0, 0, []), (13, 3, .getfield 36, 0, 0, []), (16, 2, .bipush 20, 20, 0, []), (18, 3, .if_icmp .ge 23, 0, 41, []), (21, 1, .aload_n 0, 0, 0, []), (22, 3, .getfield 23, 0, 0, []), (25, 1, .aload_n 0, 0, 0, []), (26, 3, .getfield 36, 0, 0, []), (29, 1, .iload_n 1, 0, 1, []), (30, 1, .iastore, 0, 0, []), (31, 1, .aload_n 0, 0, 0, []), (32, 1, .dup, 0, 0, []), (33, 3, .getfield 36, 0, 0, []), (36, 1, .iconst 1, 1, 0, []), (37, 1, .iadd, 0, 0, []), (38, 3, .putfield 36, 0, 0, []), (41, 1, .return_, 0, 0, [])]
def x_i7 : xI := (⟨"DeskMachine$Desk", "add", "(I)V"⟩, prog_2_method_2_code, 2, none, 0, x_p7, xc_7, [], 0, 0, 1, 7)
-- 8: DeskMachine$Desk.skip(IZ)I
def x_p8 : List (Nat × xE) := [(23, 0, 7, 3, 0, false), (36, 0, 7, 7, 0, true)]
def xc_8 : List (Nat × xO) := [(0, 1, .iload_n 1, 0, 1, []), (1, 1, .istore_n 3, 0, 3, []), (2, 1, .iload_n 3, 0, 3, []), (3, 1, .aload_n 0, 0, 0, []), (4, 3, .getfield 36, 0, 0, []), (7, 3, .if_icmp .ge 29, 0, 36, []), (10, 1, .aload_n 0, 0, 0, []), (11, 3, .getfield 23, 0, 0, []), (14, 1, .iload_n 3, 0, 3, []), (15, 1, .iaload, 0, 0, []), (16, 2, .bipush 32, 32, 0, []), (18, 3, .if_icmp .ne 7, 0, 25, []), (21, 1, .iconst 1, 1, 0, []), (22, 3, .goto 4, 0, 26, []), (25, 1, .iconst 0, 0, 0, []), (26, 1, .iload_n 2, 0, 2, []), (27, 3, .if_icmp .ne 9, 0, 36, []), (30, 3, .iinc 3 1, 1, 3, []), (33, 3, .goto (-31), 0, 2, []), (36, 1, .iload_n 3, 0, 3, []), (37, 1, .ireturn, 0, 0, [])]
def x_i8 : xI := (⟨"DeskMachine$Desk", "skip", "(IZ)I"⟩, prog_2_method_5_code, 4, some .int, 1, x_p8, xc_8, [(2, [0, 2, 3])], 0, 0, 2, 7)
-- 9: DeskMachine$Desk.findWords()V
def x_p9 : List (Nat × xE) := [(27, 0, 7, 4, 0, false), (30, 0, 7, 5, 0, false), (40, 0, 7, 8, 0, true), (63, 1, 8, 2, 7, false)]
def xc_9 : List (Nat × xO) := [(0, 1, .aload_n 0, 0, 0, []), (1, 1, .iconst 0, 0, 0, []), (2, 3, .putfield 40, 0, 0, []), (5, 1, .iconst 0, 0, 0, []), (6, 1, .istore_n 1, 0, 1, []), (7, 1, .iconst 0, 0, 0, []), (8, 1, .istore_n 2, 0, 2, []), (9, 1, .iload_n 2, 0, 2, []), (10, 1, .iconst 3, 3, 0, []), (11, 3, .if_icmp .ge 52, 0, 63, []), (14, 1, .aload_n 0, 0, 0, []), (15, 1, .iload_n 1, 0, 1, []), (16, 1, .iconst 1, 1, 0, []), (17, 3, .invokevirtual 63, 0, 0, []), (20, 1, .istore_n 3, 0, 3, []), (21, 1, .aload_n 0, 0, 0, []), (22, 1, .iload_n 3, 0, 3, []), (23, 1, .iconst 0, 0, 0, []), (24, 3, .invokevirtual 63, 0, 0, []), (27, 1, .istore_n 1, 0, 1, []), (28, 1, .iload_n 3, 0, 3, []), (29, 1, .iload_n 1, 0, 1, []), (30, 3, .if_icmp .ge 27, 0, 57, []), (33, 1, .aload_n 0, 0, 0, []), (34, 3, .getfield 27, 0, 0, []), (37, 1, .iload_n 2, 0, 2, []), (38, 1, .iload_n 3, 0, 3, []), (39, 1, .iastore, 0, 0, []), (40, 1, .aload_n 0, 0, 0, []), (41, 3, .getfield 30, 0, 0, []), (44, 1, .iload_n 2, 0, 2, []), (45, 1, .iload_n 1, 0, 1, []), (46, 1, .iastore, 0, 0, []), (47, 1, .aload_n 0, 0, 0, []), (48, 1, .dup, 0, 0, []), (49, 3, .getfield 40, 0, 0, []), (52, 1, .iconst 1, 1, 0, []), (53, 1, .iadd, 0, 0, []), (54, 3, .putfield 40, 0, 0, []), (57, 3, .iinc 2 1, 1, 2, []), (60, 3, .goto (-51), 0, 9, []), (63, 1, .return_, 0, 0, [])]
def x_i9 : xI := (⟨"DeskMachine$Desk", "findWords", "()V"⟩, prog_2_method_4_code, 4, none, 0, x_p9, xc_9, [(9, [0, 1, 2])], 1, 23, 0, 7)
def x_i10 : xI := (⟨"DeskMachine$Desk", "firstWordIs", "(Ljava/lang/String;)Z"⟩, prog_2_method_7_code, 4, some .boolean, 2, [], [], [], 4, 150, 1, 7)
-- 11: DeskMachine$Desk.commandOfLine()I
def x_p11 : List (Nat × xE) := [(40, 0, 7, 8, 0, true), (67, 3, 1000, 0, 0, false), (69, 1, 10, 1, 7, false), (73, 3, 1001, 0, 0, false), (75, 3, 1002, 0, 0, false), (77, 3, 1003, 0, 0, false), (79, 3, 1004, 0, 0, false)]
def xc_11 : List (Nat × xO) := [(0, 1, .aload_n 0, 0, 0, []), (1, 3, .getfield 40, 0, 0, []), (4, 3, .ifCond .ne 6, 0, 10, []), (7, 2, .bipush 6, 6, 0, []), (9, 1, .ireturn, 0, 0, []), (10, 1, .aload_n 0, 0, 0, []), (11, 2, .ldc 67, 0, 0, []), (13, 3, .invokevirtual 69, 0, 0, []), (16, 3, .ifCond .eq 5, 0, 21, []), (19, 1, .iconst 0, 0, 0, []), (20, 1, .ireturn, 0, 0, []), (21, 1, .aload_n 0, 0, 0, []), (22, 2, .ldc 73, 0, 0, []), (24, 3, .invokevirtual 69, 0, 0, []), (27, 3, .ifCond .eq 5, 0, 32, []), (30, 1, .iconst 1, 1, 0, []), (31, 1, .ireturn, 0, 0, []), (32, 1, .aload_n 0, 0, 0, []), (33, 2, .ldc 75, 0, 0, []), (35, 3, .invokevirtual 69, 0, 0, []), (38, 3, .ifCond .eq 5, 0, 43, []), (41, 1, .iconst 2, 2, 0, []), (42, 1, .ireturn, 0, 0, []), (43, 1, .aload_n 0, 0, 0, []), (44, 2, .ldc 77, 0, 0, []), (46, 3, .invokevirtual 69, 0, 0, []), (49, 3, .ifCond .eq 5, 0, 54, []), (52, 1, .iconst 3, 3, 0, []), (53, 1, .ireturn, 0, 0, []), (54, 1, .aload_n 0, 0, 0, []), (55, 2, .ldc 79, 0, 0, []), (57, 3, .invokevirtual 69, 0, 0, []), (60, 3, .ifCond .eq 7, 0, 67, []), (63, 1, .iconst 4, 4, 0, []), (64, 3, .goto 4, 0, 68, []), (67, 1, .iconst 5, 5, 0, []), (68, 1, .ireturn, 0, 0, [])]
def x_i11 : xI := (⟨"DeskMachine$Desk", "commandOfLine", "()I"⟩, prog_2_method_6_code, 1, some .int, 1, x_p11, xc_11, [], 5, 173, 0, 7)
-- 12: DeskMachine$Disk.isFree(I)Z
def x_p12 : List (Nat × xE) := [(11, 0, 3, 0, 0, false)]
def xc_12 : List (Nat × xO) := [(0, 1, .aload_n 0, 0, 0, []), (1, 3, .getfield 11, 0, 0, []), (4, 1, .iload_n 1, 0, 1, []), (5, 2, .bipush 7, 7, 0, []), (7, 1, .iand, 0, 0, []), (8, 2, .bipush 16, 16, 0, []), (10, 1, .imul, 0, 0, []), (11, 1, .iaload, 0, 0, []), (12, 3, .sipush 229, 229, 0, []), (15, 3, .if_icmp .ne 7, 0, 22, []), (18, 1, .iconst 1, 1, 0, []), (19, 3, .goto 4, 0, 23, []), (22, 1, .iconst 0, 0, 0, []), (23, 1, .ireturn, 0, 0, [])]
def x_i12 : xI := (⟨"DeskMachine$Disk", "isFree", "(I)Z"⟩, prog_3_method_4_code, 2, some .boolean, 2, x_p12, xc_12, [], 0, 0, 1, 3)
-- 13: DeskMachine$Disk.get(II)I
def x_p13 : List (Nat × xE) := [(11, 0, 3, 0, 0, false)]
def xc_13 : List (Nat × xO) := [(0, 1, .aload_n 0, 0, 0, []), (1, 3, .getfield 11, 0, 0, []), (4, 1, .iload_n 1, 0, 1, []), (5, 2, .bipush 31, 31, 0, []), (7, 1, .iand, 0, 0, []), (8, 2, .bipush 16, 16, 0, []), (10, 1, .imul, 0, 0, []), (11, 1, .iload_n 2, 0, 2, []), (12, 2, .bipush 15, 15, 0, []), (14, 1, .iand, 0, 0, []), (15, 1, .iadd, 0, 0, []), (16, 1, .iaload, 0, 0, []), (17, 1, .ireturn, 0, 0, [])]
def x_i13 : xI := (⟨"DeskMachine$Disk", "get", "(II)I"⟩, prog_3_method_2_code, 3, some .int, 1, x_p13, xc_13, [], 0, 0, 2, 3)
-- 14: DeskMachine$Screen.show(I)V
def x_p14 : List (Nat × xE) := [(11, 0, 5, 0, 0, false), (15, 0, 5, 1, 0, true)]
def xc_14 : List (Nat × xO) := [(0, 1, .aload_n 0, 0, 0, []), (1, 3, .getfield 11, 0, 0, []), (4, 1, .aload_n 0, 0, 0, []), (5, 3, .getfield 15, 0, 0, []), (8, 2, .bipush 63, 63, 0, []), (10, 1, .iand, 0, 0, []), (11, 1, .iload_n 1, 0, 1, []), (12, 1, .iastore, 0, 0, []), (13, 1, .aload_n 0, 0, 0, []), (14, 1, .dup, 0, 0, []), (15, 3, .getfield 15, 0, 0, []), (18, 1, .iconst 1, 1, 0, []), (19, 1, .iadd, 0, 0, []), (20, 3, .putfield 15, 0, 0, []), (23, 1, .return_, 0, 0, [])]
def x_i14 : xI := (⟨"DeskMachine$Screen", "show", "(I)V"⟩, prog_8_method_2_code, 2, none, 0, x_p14, xc_14, [], 0, 0, 1, 5)
-- 15: DeskMachine$Desk.listFiles()V
def x_p15 : List (Nat × xE) := [(15, 0, 7, 1, 0, false), (19, 0, 7, 2, 0, false), (57, 1, 14, 1, 5, true), (118, 1, 12, 1, 3, false), (121, 1, 13, 2, 3, false)]
def xc_15 : List (Nat × xO) := [(0, 1, .iconst 0, 0, 0, []), (1, 1, .istore_n 1, 0, 1, []), (2, 1, .iload_n 1, 0, 1, []), (3, 2, .bipush 8, 8, 0, []), (5, 3, .if_icmp .ge 60, 0, 65, []), (8, 1, .aload_n 0, 0, 0, []), (9, 3, .getfield 15, 0, 0, []), (12, 1, .iload_n 1, 0, 1, []), (13, 3, .invokevirtual 118, 0, 0, []), (16, 3, .ifCond .ne 43, 0, 59, []), (19, 1, .iconst 0, 0, 0, []), (20, 1, .istore_n 2, 0, 2, []), (21, 1, .iload_n 2, 0, 2, []), (22, 1, .iconst 4, 4, 0, []), (23, 3, .if_icmp .ge 27, 0, 50, []), (26, 1, .aload_n 0, 0, 0, []), (27, 3, .getfield 19, 0, 0, []), (30, 1, .aload_n 0, 0, 0, []), (31, 3, .getfield 15, 0, 0, []), (34, 1, .iload_n 1, 0, 1, []), (35, 1, .iconst 1, 1, 0, []), (36, 1, .iload_n 2, 0, 2, []), (37, 1, .iadd, 0, 0, []), (38, 3, .invokevirtual 121, 0, 0, []), (41, 3, .invokevirtual 57, 0, 0, []), (44, 3, .iinc 2 1, 1, 2, []), (47, 3, .goto (-26), 0, 21, []), (50, 1, .aload_n 0, 0, 0, []), (51, 3, .getfield 19, 0, 0, []), (54, 2, .bipush 32, 32, 0, []), (56, 3, .invokevirtual 57, 0, 0, []), (59, 3, .iinc 1 1, 1, 1, []), (62, 3, .goto (-60), 0, 2, []), (65, 1, .return_, 0, 0, [])]
def x_i15 : xI := (⟨"DeskMachine$Desk", "listFiles", "()V"⟩, prog_2_method_11_code, 3, none, 0, x_p15, xc_15, [(2, [0, 1]), (21, [0, 1, 2])], 1, 22, 0, 7)
-- 16: DeskMachine$Desk.takeName(I)V
def x_p16 : List (Nat × xE) := [(23, 0, 7, 3, 0, false), (27, 0, 7, 4, 0, false), (30, 0, 7, 5, 0, false), (33, 0, 7, 6, 0, false)]
def xc_16 : List (Nat × xO) := [(0, 1, .iconst 0, 0, 0, []), (1, 1, .istore_n 2, 0, 2, []), (2, 1, .iload_n 2, 0, 2, []), (3, 1, .iconst 4, 4, 0, []), (4, 3, .if_icmp .ge 45, 0, 49, []), (7, 1, .aload_n 0, 0, 0, []), (8, 3, .getfield 27, 0, 0, []), (11, 1, .iload_n 1, 0, 1, []), (12, 1, .iaload, 0, 0, []), (13, 1, .iload_n 2, 0, 2, []), (14, 1, .iadd, 0, 0, []), (15, 1, .istore_n 3, 0, 3, []), (16, 1, .aload_n 0, 0, 0, []), (17, 3, .getfield 33, 0, 0, []), (20, 1, .iload_n 2, 0, 2, []), (21, 1, .iload_n 3, 0, 3, []), (22, 1, .aload_n 0, 0, 0, []), (23, 3, .getfield 30, 0, 0, []), (26, 1, .iload_n 1, 0, 1, []), (27, 1, .iaload, 0, 0, []), (28, 3, .if_icmp .ge 12, 0, 40, []), (31, 1, .aload_n 0, 0, 0, []), (32, 3, .getfield 23, 0, 0, []), (35, 1, .iload_n 3, 0, 3, []), (36, 1, .iaload, 0, 0, []), (37, 3, .goto 5, 0, 42, []), (40, 2, .bipush 32, 32, 0, []), (42, 1, .iastore, 0, 0, []), (43, 3, .iinc 2 1, 1, 2, []), (46, 3, .goto (-44), 0, 2, []), (49, 1, .return_, 0, 0, [])]
def x_i16 : xI := (⟨"DeskMachine$Desk", "takeName", "(I)V"⟩, prog_2_method_9_code, 4, none, 0, x_p16, xc_16, [(2, [0, 1, 2])], 0, 0, 1, 7)
-- 17: DeskMachine$Disk.matches(I[IZ)Z
def x_p17 : List (Nat × xE) := [(11, 0, 3, 0, 0, false)]
def xc_17 : List (Nat × xO) := [(0, 1, .iload_n 1, 0, 1, []), (1, 2, .bipush 7, 7, 0, []), (3, 1, .iand, 0, 0, []), (4, 2, .bipush 16, 16, 0, []), (6, 1, .imul, 0, 0, []), (7, 2, .istore 4, 0, 4, []), (9, 1, .aload_n 0, 0, 0, []), (10, 3, .getfield 11, 0, 0, []), (13, 2, .iload 4, 0, 4, []), (15, 1, .iaload, 0, 0, []), (16, 3, .sipush 229, 229, 0, []), (19, 3, .if_icmp .ne 5, 0, 24, []), (22, 1, .iconst 0, 0, 0, []), (23, 1, .ireturn, 0, 0, []), (24, 1, .iconst 0, 0, 0, []), (25, 2, .istore 5, 0, 5, []), (27, 2, .iload 5, 0, 5, []), (29, 1, .iconst 4, 4, 0, []), (30, 3, .if_icmp .ge 43, 0, 73, []), (33, 1, .aload_n 2, 0, 2, []), (34, 2, .iload 5, 0, 5, []), (36, 1, .iaload, 0, 0, []), (37, 1, .aload_n 0, 0, 0, []), (38, 3, .getfield 11, 0, 0, []), (41, 2, .iload 4, 0, 4, []), (43, 1, .iconst 1, 1, 0, []), (44, 1, .iadd, 0, 0, []), (45, 2, .iload 5, 0, 5, []), (47, 1, .iadd, 0, 0, []), (48, 1, .iaload, 0, 0, []), (49, 3, .if_icmp .eq 18, 0, 67, []), (52, 1, .iload_n 3, 0, 3, []), (53, 3, .ifCond .eq 12, 0, 65, []), (56, 1, .aload_n 2, 0, 2, []), (57, 2, .iload 5, 0, 5, []), (59, 1, .iaload, 0, 0, []), (60, 2, .bipush 63, 63, 0, []), (62, 3, .if_icmp .eq 5, 0, 67, []), (65, 1, .iconst 0, 0, 0, []), (66, 1, .ireturn, 0, 0, []), (67, 3, .iinc 5 1, 1, 5, []), (70, 3, .goto (-43), 0, 27, []), (73, 1, .iconst 1, 1, 0, []), (74, 1, .ireturn, 0, 0, [])]
def x_i17 : xI := (⟨"DeskMachine$Disk", "matches", "(I[IZ)Z"⟩, prog_3_method_10_code, 6, some .boolean, 2, x_p17, xc_17, [(27, [0, 2, 3, 4, 5])], 0, 0, 3, 3)
-- 18: DeskMachine$Disk.findExact([I)I
def x_p18 : List (Nat × xE) := [(23, 1, 17, 3, 3, false)]
def xc_18 : List (Nat × xO) := [(0, 1, .iconst 0, 0, 0, []), (1, 1, .istore_n 2, 0, 2, []), (2, 1, .iload_n 2, 0, 2, []), (3, 2, .bipush 8, 8, 0, []), (5, 3, .if_icmp .ge 21, 0, 26, []), (8, 1, .aload_n 0, 0, 0, []), (9, 1, .iload_n 2, 0, 2, []), (10, 1, .aload_n 1, 0, 1, []), (11, 1, .iconst 0, 0, 0, []), (12, 3, .invokevirtual 23, 0, 0, []), (15, 3, .ifCond .eq 5, 0, 20, []), (18, 1, .iload_n 2, 0, 2, []), (19, 1, .ireturn, 0, 0, []), (20, 3, .iinc 2 1, 1, 2, []), (23, 3, .goto (-21), 0, 2, []), (26, 1, .iconst (-1), (-1), 0, []), (27, 1, .ireturn, 0, 0, [])]
def x_i18 : xI := (⟨"DeskMachine$Disk", "findExact", "([I)I"⟩, prog_3_method_8_code, 3, some .int, 1, x_p18, xc_18, [(2, [0, 1, 2])], 1, 25, 1, 3)
-- 19: DeskMachine$Desk.findFile(I)I
def x_p19 : List (Nat × xE) := [(15, 0, 7, 1, 0, false), (33, 0, 7, 6, 0, false), (96, 1, 16, 1, 7, true), (114, 1, 18, 1, 3, false)]
def xc_19 : List (Nat × xO) := [(0, 1, .aload_n 0, 0, 0, []), (1, 1, .iload_n 1, 0, 1, []), (2, 3, .invokevirtual 96, 0, 0, []), (5, 1, .aload_n 0, 0, 0, []), (6, 3, .getfield 15, 0, 0, []), (9, 1, .aload_n 0, 0, 0, []), (10, 3, .getfield 33, 0, 0, []), (13, 3, .invokevirtual 114, 0, 0, []), (16, 1, .ireturn, 0, 0, [])]
def x_i19 : xI := (⟨"DeskMachine$Desk", "findFile", "(I)I"⟩, prog_2_method_10_code, 2, some .int, 1, x_p19, xc_19, [], 2, 47, 1, 7)
-- 20: DeskMachine$Disk.recordsOf(I)I
def x_p20 : List (Nat × xE) := [(11, 0, 3, 0, 0, false)]
def xc_20 : List (Nat × xO) := [(0, 1, .aload_n 0, 0, 0, []), (1, 3, .getfield 11, 0, 0, []), (4, 1, .iload_n 1, 0, 1, []), (5, 2, .bipush 7, 7, 0, []), (7, 1, .iand, 0, 0, []), (8, 2, .bipush 16, 16, 0, []), (10, 1, .imul, 0, 0, []), (11, 1, .iconst 5, 5, 0, []), (12, 1, .iadd, 0, 0, []), (13, 1, .iaload, 0, 0, []), (14, 1, .istore_n 2, 0, 2, []), (15, 1, .iload_n 2, 0, 2, []), (16, 2, .bipush 10, 10, 0, []), (18, 3, .if_icmp .ge 7, 0, 25, []), (21, 1, .iload_n 2, 0, 2, []), (22, 3, .goto 5, 0, 27, []), (25, 2, .bipush 10, 10, 0, []), (27, 1, .ireturn, 0, 0, [])]
def x_i20 : xI := (⟨"DeskMachine$Disk", "recordsOf", "(I)I"⟩, prog_3_method_7_code, 3, some .int, 1, x_p20, xc_20, [], 0, 0, 1, 3)
-- 21: DeskMachine$Disk.isForRecords(I)Z
def x_p21 : List (Nat × xE) := []
def xc_21 : List (Nat × xO) := [(0, 1, .iload_n 0, 0, 0, []), (1, 2, .bipush 8, 8, 0, []), (3, 3, .if_icmp .lt 13, 0, 16, []), (6, 1, .iload_n 0, 0, 0, []), (7, 2, .bipush 32, 32, 0, []), (9, 3, .if_icmp .ge 7, 0, 16, []), (12, 1, .iconst 1, 1, 0, []), (13, 3, .goto 4, 0, 17, []), (16, 1, .iconst 0, 0, 0, []), (17, 1, .ireturn, 0, 0, [])]
def x_i21 : xI := (⟨"DeskMachine$Disk", "isForRecords", "(I)Z"⟩, prog_3_method_6_code, 1, some .boolean, 2, x_p21, xc_21, [], 0, 0, 1, 3)
-- 22: DeskMachine$Desk.showBlock(I)Z
def x_p22 : List (Nat × xE) := [(15, 0, 7, 1, 0, false), (19, 0, 7, 2, 0, false), (57, 1, 14, 1, 5, true), (121, 1, 13, 2, 3, false)]
def xc_22 : List (Nat × xO) := [(0, 1, .iconst 0, 0, 0, []), (1, 1, .istore_n 2, 0, 2, []), (2, 1, .iload_n 2, 0, 2, []), (3, 2, .bipush 16, 16, 0, []), (5, 3, .if_icmp .ge 35, 0, 40, []), (8, 1, .aload_n 0, 0, 0, []), (9, 3, .getfield 15, 0, 0, []), (12, 1, .iload_n 1, 0, 1, []), (13, 1, .iload_n 2, 0, 2, []), (14, 3, .invokevirtual 121, 0, 0, []), (17, 1, .istore_n 3, 0, 3, []), (18, 1, .iload_n 3, 0, 3, []), (19, 2, .bipush 26, 26, 0, []), (21, 3, .if_icmp .ne 5, 0, 26, []), (24, 1, .iconst 0, 0, 0, []), (25, 1, .ireturn, 0, 0, []), (26, 1, .aload_n 0, 0, 0, []), (27, 3, .getfield 19, 0, 0, []), (30, 1, .iload_n 3, 0, 3, []), (31, 3, .invokevirtual 57, 0, 0, []), (34, 3, .iinc 2 1, 1, 2, []), (37, 3, .goto (-35), 0, 2, []), (40, 1, .iconst 1, 1, 0, []), (41, 1, .ireturn, 0, 0, [])]
def x_i22 : xI := (⟨"DeskMachine$Desk", "showBlock", "(I)Z"⟩, prog_2_method_13_code, 4, some .boolean, 2, x_p22, xc_22, [(2, [0, 1, 2])], 1, 22, 1, 7)
-- 23: DeskMachine$Desk.showFile()Z
def x_p23 : List (Nat × xE) := [(15, 0, 7, 1, 0, false), (121, 1, 13, 2, 3, false), (125, 1, 19, 1, 7, false), (129, 1, 20, 1, 3, false), (132, 2, 21, 1, 0, false), (135, 1, 22, 1, 7, false)]
def xc_23 : List (Nat × xO) := [(0, 1, .aload_n 0, 0, 0, []), (1, 1, .iconst 1, 1, 0, []), (2, 3, .invokevirtual 125, 0, 0, []), (5, 1, .istore_n 1, 0, 1, []), (6, 1, .iload_n 1, 0, 1, []), (7, 1, .iconst (-1), (-1), 0, []), (8, 3, .if_icmp .ne 5, 0, 13, []), (11, 1, .iconst 0, 0, 0, []), (12, 1, .ireturn, 0, 0, []), (13, 1, .aload_n 0, 0, 0, []), (14, 3, .getfield 15, 0, 0, []), (17, 1, .iload_n 1, 0, 1, []), (18, 3, .invokevirtual 129, 0, 0, []), (21, 1, .istore_n 2, 0, 2, []), (22, 1, .iconst 0, 0, 0, []), (23, 1, .istore_n 3, 0, 3, []), (24, 1, .iload_n 3, 0, 3, []), (25, 1, .iload_n 2, 0, 2, []), (26, 3, .if_icmp .ge 42, 0, 68, []), (29, 1, .aload_n 0, 0, 0, []), (30, 3, .getfield 15, 0, 0, []), (33, 1, .iload_n 1, 0, 1, []), (34, 2, .bipush 6, 6, 0, []), (36, 1, .iload_n 3, 0, 3, []), (37, 1, .iadd, 0, 0, []), (38, 3, .invokevirtual 121, 0, 0, []), (41, 2, .istore 4, 0, 4, []), (43, 2, .iload 4, 0, 4, []), (45, 3, .invokestatic 132, 0, 0, []), (48, 3, .ifCond .eq 14, 0, 62, []), (51, 1, .aload_n 0, 0, 0, []), (52, 2, .iload 4, 0, 4, []), (54, 3, .invokevirtual 135, 0, 0, []), (57, 3, .ifCond .ne 5, 0, 62, []), (60, 1, .iconst 1, 1, 0, []), (61, 1, .ireturn, 0, 0, []), (62, 3, .iinc 3 1, 1, 3, []), (65, 3, .goto (-41), 0, 24, []), (68, 1, .iconst 1, 1, 0, []), (69, 1, .ireturn, 0, 0, [])]
def x_i23 : xI := (⟨"DeskMachine$Desk", "showFile", "()Z"⟩, prog_2_method_12_code, 5, some .boolean, 2, x_p23, xc_23, [(24, [0, 1, 2, 3])], 3, 68, 0, 7)
-- 24: DeskMachine$Disk.put(III)V
def x_p24 : List (Nat × xE) := [(11, 0, 3, 0, 0, false)]
def xc_24 : List (Nat × xO) := [(0, 1, .aload_n 0, 0, 0, []), (1, 3, .getfield 11, 0, 0, []), (4, 1, .iload_n 1, 0, 1, []), (5, 2, .bipush 31, 31, 0, []), (7, 1, .iand, 0, 0, []), (8, 2, .bipush 16, 16, 0, []), (10, 1, .imul, 0, 0, []), (11, 1, .iload_n 2, 0, 2, []), (12, 2, .bipush 15, 15, 0, []), (14, 1, .iand, 0, 0, []), (15, 1, .iadd, 0, 0, []), (16, 1, .iload_n 3, 0, 3, []), (17, 1, .iastore, 0, 0, []), (18, 1, .return_, 0, 0, [])]
def x_i24 : xI := (⟨"DeskMachine$Disk", "put", "(III)V"⟩, prog_3_method_3_code, 4, none, 0, x_p24, xc_24, [], 0, 0, 3, 3)
-- 25: DeskMachine$Disk.free(I)V
def x_p25 : List (Nat × xE) := [(19, 1, 24, 3, 3, true)]
def xc_25 : List (Nat × xO) := [(0, 1, .aload_n 0, 0, 0, []), (1, 1, .iload_n 1, 0, 1, []), (2, 1, .iconst 0, 0, 0, []), (3, 3, .sipush 229, 229, 0, []), (6, 3, .invokevirtual 19, 0, 0, []), (9, 1, .return_, 0, 0, [])]
def x_i25 : xI := (⟨"DeskMachine$Disk", "free", "(I)V"⟩, prog_3_method_5_code, 2, none, 0, x_p25, xc_25, [], 1, 23, 1, 3)
-- 26: DeskMachine$Disk.eraseAny([I)Z
def x_p26 : List (Nat × xE) := [(23, 1, 17, 3, 3, false), (35, 1, 25, 1, 3, true)]
def xc_26 : List (Nat × xO) := [(0, 1, .iconst 0, 0, 0, []), (1, 1, .istore_n 2, 0, 2, []), (2, 1, .iconst 0, 0, 0, []), (3, 1, .istore_n 3, 0, 3, []), (4, 1, .iload_n 3, 0, 3, []), (5, 2, .bipush 8, 8, 0, []), (7, 3, .if_icmp .ge 26, 0, 33, []), (10, 1, .aload_n 0, 0, 0, []), (11, 1, .iload_n 3, 0, 3, []), (12, 1, .aload_n 1, 0, 1, []), (13, 1, .iconst 1, 1, 0, []), (14, 3, .invokevirtual 23, 0, 0, []), (17, 3, .ifCond .eq 10, 0, 27, []), (20, 1, .aload_n 0, 0, 0, []), (21, 1, .iload_n 3, 0, 3, []), (22, 3, .invokevirtual 35, 0, 0, []), (25, 1, .iconst 1, 1, 0, []), (26, 1, .istore_n 2, 0, 2, []), (27, 3, .iinc 3 1, 1, 3, []), (30, 3, .goto (-26), 0, 4, []), (33, 1, .iload_n 2, 0, 2, []), (34, 1, .ireturn, 0, 0, [])]
def x_i26 : xI := (⟨"DeskMachine$Disk", "eraseAny", "([I)Z"⟩, prog_3_method_13_code, 4, some .boolean, 2, x_p26, xc_26, [(4, [0, 1, 2, 3])], 2, 44, 1, 3)
-- 27: DeskMachine$Disk.rename(I[I)V
def x_p27 : List (Nat × xE) := [(19, 1, 24, 3, 3, true)]
def xc_27 : List (Nat × xO) := [(0, 1, .iconst 0, 0, 0, []), (1, 1, .istore_n 3, 0, 3, []), (2, 1, .iload_n 3, 0, 3, []), (3, 1, .iconst 4, 4, 0, []), (4, 3, .if_icmp .ge 20, 0, 24, []), (7, 1, .aload_n 0, 0, 0, []), (8, 1, .iload_n 1, 0, 1, []), (9, 1, .iconst 1, 1, 0, []), (10, 1, .iload_n 3, 0, 3, []), (11, 1, .iadd, 0, 0, []), (12, 1, .aload_n 2, 0, 2, []), (13, 1, .iload_n 3, 0, 3, []), (14, 1, .iaload, 0, 0, []), (15, 3, .invokevirtual 19, 0, 0, []), (18, 3, .iinc 3 1, 1, 3, []), (21, 3, .goto (-19), 0, 2, []), (24, 1, .return_, 0, 0, [])]
def x_i27 : xI := (⟨"DeskMachine$Disk", "rename", "(I[I)V"⟩, prog_3_method_12_code, 4, none, 0, x_p27, xc_27, [(2, [0, 1, 2, 3])], 1, 23, 2, 3)
-- 28: DeskMachine$Desk.renameFile()Z
def x_p28 : List (Nat × xE) := [(15, 0, 7, 1, 0, false), (33, 0, 7, 6, 0, false), (96, 1, 16, 1, 7, true), (125, 1, 19, 1, 7, false), (138, 1, 27, 2, 3, true)]
def xc_28 : List (Nat × xO) := [(0, 1, .aload_n 0, 0, 0, []), (1, 1, .iconst 1, 1, 0, []), (2, 3, .invokevirtual 125, 0, 0, []), (5, 1, .istore_n 1, 0, 1, []), (6, 1, .iload_n 1, 0, 1, []), (7, 1, .iconst (-1), (-1), 0, []), (8, 3, .if_icmp .ne 5, 0, 13, []), (11, 1, .iconst 0, 0, 0, []), (12, 1, .ireturn, 0, 0, []), (13, 1, .aload_n 0, 0, 0, []), (14, 1, .iconst 2, 2, 0, []), (15, 3, .invokevirtual 96, 0, 0, []), (18, 1, .aload_n 0, 0, 0, []), (19, 3, .getfield 15, 0, 0, []), (22, 1, .iload_n 1, 0, 1, []), (23, 1, .aload_n 0, 0, 0, []), (24, 3, .getfield 33, 0, 0, []), (27, 3, .invokevirtual 138, 0, 0, []), (30, 1, .iconst 1, 1, 0, []), (31, 1, .ireturn, 0, 0, [])]
def x_i28 : xI := (⟨"DeskMachine$Desk", "renameFile", "()Z"⟩, prog_2_method_14_code, 2, some .boolean, 2, x_p28, xc_28, [], 3, 68, 0, 7)
-- 29: DeskMachine$Disk.make([I)I
def x_p29 : List (Nat × xE) := [(19, 1, 24, 3, 3, true), (27, 1, 12, 1, 3, false), (31, 1, 27, 2, 3, true)]
def xc_29 : List (Nat × xO) := [(0, 1, .iconst 0, 0, 0, []), (1, 1, .istore_n 2, 0, 2, []), (2, 1, .iload_n 2, 0, 2, []), (3, 2, .bipush 8, 8, 0, []), (5, 3, .if_icmp .ge 46, 0, 51, []), (8, 1, .aload_n 0, 0, 0, []), (9, 1, .iload_n 2, 0, 2, []), (10, 3, .invokevirtual 27, 0, 0, []), (13, 3, .ifCond .eq 32, 0, 45, []), (16, 1, .iconst 0, 0, 0, []), (17, 1, .istore_n 3, 0, 3, []), (18, 1, .iload_n 3, 0, 3, []), (19, 2, .bipush 16, 16, 0, []), (21, 3, .if_icmp .ge 16, 0, 37, []), (24, 1, .aload_n 0, 0, 0, []), (25, 1, .iload_n 2, 0, 2, []), (26, 1, .iload_n 3, 0, 3, []), (27, 1, .iconst 0, 0, 0, []), (28, 3, .invokevirtual 19, 0, 0, []), (31, 3, .iinc 3 1, 1, 3, []), (34, 3, .goto (-16), 0, 18, []), (37, 1, .aload_n 0, 0, 0, []), (38, 1, .iload_n 2, 0, 2, []), (39, 1, .aload_n 1, 0, 1, []), (40, 3, .invokevirtual 31, 0, 0, []), (43, 1, .iload_n 2, 0, 2, []), (44, 1, .ireturn, 0, 0, []), (45, 3, .iinc 2 1, 1, 2, []), (48, 3, .goto (-46), 0, 2, []), (51, 1, .iconst (-1), (-1), 0, []), (52, 1, .ireturn, 0, 0, [])]
def x_i29 : xI := (⟨"DeskMachine$Disk", "make", "([I)I"⟩, prog_3_method_11_code, 4, some .int, 1, x_p29, xc_29, [(2, [0, 1, 2]), (18, [0, 1, 2, 3])], 2, 46, 1, 3)
-- 30: DeskMachine$Disk.mark(I)V
def x_p30 : List (Nat × xE) := [(15, 0, 3, 1, 0, false)]
def xc_30 : List (Nat × xO) := [(0, 1, .aload_n 0, 0, 0, []), (1, 3, .getfield 15, 0, 0, []), (4, 1, .iload_n 1, 0, 1, []), (5, 3, .sipush 255, 255, 0, []), (8, 1, .iand, 0, 0, []), (9, 1, .iconst 1, 1, 0, []), (10, 1, .bastore, 0, 0, []), (11, 1, .return_, 0, 0, [])]
def x_i30 : xI := (⟨"DeskMachine$Disk", "mark", "(I)V"⟩, prog_3_method_15_code, 2, none, 0, x_p30, xc_30, [], 0, 0, 1, 3)
-- 31: DeskMachine$Disk.markUsed()V
def x_p31 : List (Nat × xE) := [(15, 0, 3, 1, 0, false), (27, 1, 12, 1, 3, false), (39, 1, 20, 1, 3, false), (43, 1, 13, 2, 3, false), (47, 1, 30, 1, 3, true)]
def xc_31 : List (Nat × xO) := [(0, 2, .bipush 8, 8, 0, []), (2, 1, .istore_n 1, 0, 1, []), (3, 1, .iload_n 1, 0, 1, []), (4, 2, .bipush 32, 32, 0, []), (6, 3, .if_icmp .ge 16, 0, 22, []), (9, 1, .aload_n 0, 0, 0, []), (10, 3, .getfield 15, 0, 0, []), (13, 1, .iload_n 1, 0, 1, []), (14, 1, .iconst 0, 0, 0, []), (15, 1, .bastore, 0, 0, []), (16, 3, .iinc 1 1, 1, 1, []), (19, 3, .goto (-16), 0, 3, []), (22, 1, .iconst 0, 0, 0, []), (23, 1, .istore_n 1, 0, 1, []), (24, 1, .iload_n 1, 0, 1, []), (25, 2, .bipush 8, 8, 0, []), (27, 3, .if_icmp .ge 53, 0, 80, []), (30, 1, .aload_n 0, 0, 0, []), (31, 1, .iload_n 1, 0, 1, []), (32, 3, .invokevirtual 27, 0, 0, []), (35, 3, .ifCond .eq 7, 0, 42, []), (38, 1, .iconst 0, 0, 0, []), (39, 3, .goto 8, 0, 47, []), (42, 1, .aload_n 0, 0, 0, []), (43, 1, .iload_n 1, 0, 1, []), (44, 3, .invokevirtual 39, 0, 0, []), (47, 1, .istore_n 2, 0, 2, []), (48, 1, .iconst 0, 0, 0, []), (49, 1, .istore_n 3, 0, 3, []), (50, 1, .iload_n 3, 0, 3, []), (51, 1, .iload_n 2, 0, 2, []), (52, 3, .if_icmp .ge 22, 0, 74, []), (55, 1, .aload_n 0, 0, 0, []), (56, 1, .aload_n 0, 0, 0, []), (57, 1, .iload_n 1, 0, 1, []), (58, 2, .bipush 6, 6, 0, []), (60, 1, .iload_n 3, 0, 3, []), (61, 1, .iadd, 0, 0, []), (62, 3, .invokevirtual 43, 0, 0, []), (65, 3, .invokevirtual 47, 0, 0, []), (68, 3, .iinc 3 1, 1, 3, []), (71, 3, .goto (-21), 0, 50, []), (74, 3, .iinc 1 1, 1, 1, []), (77, 3, .goto (-53), 0, 24, []), (80, 1, .return_, 0, 0, [])]
def x_i31 : xI := (⟨"DeskMachine$Disk", "markUsed", "()V"⟩, prog_3_method_14_code, 4, none, 0, x_p31, xc_31, [(3, [0, 1]), (24, [0, 1]), (50, [0, 1, 2, 3])], 1, 22, 0, 3)
-- 32: DeskMachine$Disk.leastUnmarked()I
def x_p32 : List (Nat × xE) := [(15, 0, 3, 1, 0, false)]
def xc_32 : List (Nat × xO) := [(0, 2, .bipush 8, 8, 0, []), (2, 1, .istore_n 1, 0, 1, []), (3, 1, .iload_n 1, 0, 1, []), (4, 2, .bipush 32, 32, 0, []), (6, 3, .if_icmp .ge 20, 0, 26, []), (9, 1, .aload_n 0, 0, 0, []), (10, 3, .getfield 15, 0, 0, []), (13, 1, .iload_n 1, 0, 1, []), (14, 1, .baload, 0, 0, []), (15, 3, .ifCond .ne 5, 0, 20, []), (18, 1, .iload_n 1, 0, 1, []), (19, 1, .ireturn, 0, 0, []), (20, 3, .iinc 1 1, 1, 1, []), (23, 3, .goto (-20), 0, 3, []), (26, 1, .iconst (-1), (-1), 0, []), (27, 1, .ireturn, 0, 0, [])]
def x_i32 : xI := (⟨"DeskMachine$Disk", "leastUnmarked", "()I"⟩, prog_3_method_16_code, 2, some .int, 1, x_p32, xc_32, [(3, [0, 1])], 0, 0, 0, 3)
-- 33: DeskMachine$Memory.get(I)I
def x_p33 : List (Nat × xE) := [(9, 0, 1, 0, 0, false)]
def xc_33 : List (Nat × xO) := [(0, 1, .aload_n 0, 0, 0, []), (1, 3, .getfield 9, 0, 0, []), (4, 1, .iload_n 1, 0, 1, []), (5, 3, .sipush 511, 511, 0, []), (8, 1, .iand, 0, 0, []), (9, 1, .iaload, 0, 0, []), (10, 1, .ireturn, 0, 0, [])]
def x_i33 : xI := (⟨"DeskMachine$Memory", "get", "(I)I"⟩, prog_6_method_2_code, 2, some .int, 1, x_p33, xc_33, [], 0, 0, 1, 1)
-- 34: DeskMachine$Disk.write(ILDeskMachine$Memory;I)V
def x_p34 : List (Nat × xE) := [(19, 1, 24, 3, 3, true), (55, 1, 33, 1, 1, false)]
def xc_34 : List (Nat × xO) := [(0, 1, .iconst 0, 0, 0, []), (1, 2, .istore 4, 0, 4, []), (3, 2, .iload 4, 0, 4, []), (5, 2, .bipush 16, 16, 0, []), (7, 3, .if_icmp .ge 24, 0, 31, []), (10, 1, .aload_n 0, 0, 0, []), (11, 1, .iload_n 1, 0, 1, []), (12, 2, .iload 4, 0, 4, []), (14, 1, .aload_n 2, 0, 2, []), (15, 1, .iload_n 3, 0, 3, []), (16, 2, .iload 4, 0, 4, []), (18, 1, .iadd, 0, 0, []), (19, 3, .invokevirtual 55, 0, 0, []), (22, 3, .invokevirtual 19, 0, 0, []), (25, 3, .iinc 4 1, 1, 4, []), (28, 3, .goto (-25), 0, 3, []), (31, 1, .return_, 0, 0, [])]
def x_i34 : xI := (⟨"DeskMachine$Disk", "write", "(ILDeskMachine$Memory;I)V"⟩, prog_3_method_18_code, 5, none, 0, x_p34, xc_34, [(3, [0, 1, 2, 3, 4])], 1, 23, 3, 3)
-- 35: DeskMachine$Desk.saveRecords(II)Z
def x_p35 : List (Nat × xE) := [(9, 0, 7, 0, 0, false), (15, 0, 7, 1, 0, false), (152, 1, 31, 0, 3, true), (155, 1, 32, 0, 3, false), (158, 1, 34, 3, 3, true), (162, 1, 24, 3, 3, true)]
def xc_35 : List (Nat × xO) := [(0, 1, .iconst 0, 0, 0, []), (1, 1, .istore_n 3, 0, 3, []), (2, 1, .iload_n 3, 0, 3, []), (3, 1, .iload_n 2, 0, 2, []), (4, 3, .if_icmp .ge 80, 0, 84, []), (7, 1, .aload_n 0, 0, 0, []), (8, 3, .getfield 15, 0, 0, []), (11, 3, .invokevirtual 152, 0, 0, []), (14, 1, .aload_n 0, 0, 0, []), (15, 3, .getfield 15, 0, 0, []), (18, 3, .invokevirtual 155, 0, 0, []), (21, 2, .istore 4, 0, 4, []), (23, 2, .iload 4, 0, 4, []), (25, 1, .iconst (-1), (-1), 0, []), (26, 3, .if_icmp .ne 5, 0, 31, []), (29, 1, .iconst 0, 0, 0, []), (30, 1, .ireturn, 0, 0, []), (31, 1, .aload_n 0, 0, 0, []), (32, 3, .getfield 15, 0, 0, []), (35, 2, .iload 4, 0, 4, []), (37, 1, .aload_n 0, 0, 0, []), (38, 3, .getfield 9, 0, 0, []), (41, 3, .sipush 256, 256, 0, []), (44, 2, .bipush 16, 16, 0, []), (46, 1, .iload_n 3, 0, 3, []), (47, 1, .imul, 0, 0, []), (48, 1, .iadd, 0, 0, []), (49, 3, .invokevirtual 158, 0, 0, []), (52, 1, .aload_n 0, 0, 0, []), (53, 3, .getfield 15, 0, 0, []), (56, 1, .iload_n 1, 0, 1, []), (57, 2, .bipush 6, 6, 0, []), (59, 1, .iload_n 3, 0, 3, []), (60, 1, .iadd, 0, 0, []), (61, 2, .iload 4, 0, 4, []), (63, 3, .invokevirtual 162, 0, 0, []), (66, 1, .aload_n 0, 0, 0, []), (67, 3, .getfield 15, 0, 0, []), (70, 1, .iload_n 1, 0, 1, []), (71, 1, .iconst 5, 5, 0, []), (72, 1, .iload_n 3, 0, 3, []), (73, 1, .iconst 1, 1, 0, []), (74, 1, .iadd, 0, 0, []), (75, 3, .invokevirtual 162, 0, 0, []), (78, 3, .iinc 3 1, 1, 3, []), (81, 3, .goto (-79), 0, 2, []), (84, 1, .iconst 1, 1, 0, []), (85, 1, .ireturn, 0, 0, [])]
def x_i35 : xI := (⟨"DeskMachine$Desk", "saveRecords", "(II)Z"⟩, prog_2_method_16_code, 5, some .boolean, 2, x_p35, xc_35, [(2, [0, 1, 2, 3])], 2, 47, 2, 7)
-- 36: DeskMachine$Desk.saveFile()Z
def x_p36 : List (Nat × xE) := [(15, 0, 7, 1, 0, false), (23, 0, 7, 3, 0, false), (27, 0, 7, 4, 0, false), (30, 0, 7, 5, 0, false), (33, 0, 7, 6, 0, false), (125, 1, 19, 1, 7, false), (142, 1, 25, 1, 3, true), (145, 1, 29, 1, 3, false), (148, 1, 35, 2, 7, false)]
def xc_36 : List (Nat × xO) := [(0, 1, .aload_n 0, 0, 0, []), (1, 3, .getfield 23, 0, 0, []), (4, 1, .aload_n 0, 0, 0, []), (5, 3, .getfield 27, 0, 0, []), (8, 1, .iconst 1, 1, 0, []), (9, 1, .iaload, 0, 0, []), (10, 1, .iaload, 0, 0, []), (11, 2, .bipush 48, 48, 0, []), (13, 1, .isub, 0, 0, []), (14, 1, .istore_n 1, 0, 1, []), (15, 1, .aload_n 0, 0, 0, []), (16, 3, .getfield 30, 0, 0, []), (19, 1, .iconst 1, 1, 0, []), (20, 1, .iaload, 0, 0, []), (21, 1, .aload_n 0, 0, 0, []), (22, 3, .getfield 27, 0, 0, []), (25, 1, .iconst 1, 1, 0, []), (26, 1, .iaload, 0, 0, []), (27, 1, .isub, 0, 0, []), (28, 1, .iconst 1, 1, 0, []), (29, 3, .if_icmp .ne 13, 0, 42, []), (32, 1, .iload_n 1, 0, 1, []), (33, 3, .ifCond .lt 9, 0, 42, []), (36, 1, .iload_n 1, 0, 1, []), (37, 2, .bipush 9, 9, 0, []), (39, 3, .if_icmp .le 5, 0, 44, []), (42, 1, .iconst 0, 0, 0, []), (43, 1, .ireturn, 0, 0, []), (44, 1, .aload_n 0, 0, 0, []), (45, 1, .iconst 2, 2, 0, []), (46, 3, .invokevirtual 125, 0, 0, []), (49, 1, .istore_n 2, 0, 2, []), (50, 1, .iload_n 2, 0, 2, []), (51, 1, .iconst (-1), (-1), 0, []), (52, 3, .if_icmp .eq 11, 0, 63, []), (55, 1, .aload_n 0, 0, 0, []), (56, 3, .getfield 15, 0, 0, []), (59, 1, .iload_n 2, 0, 2, []), (60, 3, .invokevirtual 142, 0, 0, []), (63, 1, .aload_n 0, 0, 0, []), (64, 3, .getfield 15, 0, 0, []), (67, 1, .aload_n 0, 0, 0, []), (68, 3, .getfield 33, 0, 0, []), (71, 3, .invokevirtual 145, 0, 0, []), (74, 1, .istore_n 3, 0, 3, []), (75, 1, .iload_n 3, 0, 3, []), (76, 1, .iconst (-1), (-1), 0, []), (77, 3, .if_icmp .eq 16, 0, 93, []), (80, 1, .aload_n 0, 0, 0, []), (81, 1, .iload_n 3, 0, 3, []), (82, 1, .iload_n 1, 0, 1, []), (83, 3, .invokevirtual 148, 0, 0, []), (86, 3, .ifCond .eq 7, 0, 93, []), (89, 1, .iconst 1, 1, 0, []), (90, 3, .goto 4, 0, 94, []), (93, 1, .iconst 0, 0, 0, []), (94, 1, .ireturn, 0, 0, [])]
def x_i36 : xI := (⟨"DeskMachine$Desk", "saveFile", "()Z"⟩, prog_2_method_15_code, 4, some .boolean, 2, x_p36, xc_36, [], 3, 71, 0, 7)
-- 37: DeskMachine$Memory.put(II)V
def x_p37 : List (Nat × xE) := [(9, 0, 1, 0, 0, false)]
def xc_37 : List (Nat × xO) := [(0, 1, .aload_n 0, 0, 0, []), (1, 3, .getfield 9, 0, 0, []), (4, 1, .iload_n 1, 0, 1, []), (5, 3, .sipush 511, 511, 0, []), (8, 1, .iand, 0, 0, []), (9, 1, .iload_n 2, 0, 2, []), (10, 3, .sipush 255, 255, 0, []), (13, 1, .iand, 0, 0, []), (14, 1, .iastore, 0, 0, []), (15, 1, .return_, 0, 0, [])]
def x_i37 : xI := (⟨"DeskMachine$Memory", "put", "(II)V"⟩, prog_6_method_3_code, 3, none, 0, x_p37, xc_37, [], 0, 0, 2, 1)
-- 38: DeskMachine$Disk.read(ILDeskMachine$Memory;I)V
def x_p38 : List (Nat × xE) := [(43, 1, 13, 2, 3, false), (50, 1, 37, 2, 1, true)]
def xc_38 : List (Nat × xO) := [(0, 1, .iconst 0, 0, 0, []), (1, 2, .istore 4, 0, 4, []), (3, 2, .iload 4, 0, 4, []), (5, 2, .bipush 16, 16, 0, []), (7, 3, .if_icmp .ge 24, 0, 31, []), (10, 1, .aload_n 2, 0, 2, []), (11, 1, .iload_n 3, 0, 3, []), (12, 2, .iload 4, 0, 4, []), (14, 1, .iadd, 0, 0, []), (15, 1, .aload_n 0, 0, 0, []), (16, 1, .iload_n 1, 0, 1, []), (17, 2, .iload 4, 0, 4, []), (19, 3, .invokevirtual 43, 0, 0, []), (22, 3, .invokevirtual 50, 0, 0, []), (25, 3, .iinc 4 1, 1, 4, []), (28, 3, .goto (-25), 0, 3, []), (31, 1, .return_, 0, 0, [])]
def x_i38 : xI := (⟨"DeskMachine$Disk", "read", "(ILDeskMachine$Memory;I)V"⟩, prog_3_method_17_code, 5, none, 0, x_p38, xc_38, [(3, [0, 1, 2, 3, 4])], 1, 22, 3, 3)
-- 39: DeskMachine$Desk.loadFile()Z
def x_p39 : List (Nat × xE) := [(9, 0, 7, 0, 0, false), (15, 0, 7, 1, 0, false), (121, 1, 13, 2, 3, false), (125, 1, 19, 1, 7, false), (129, 1, 20, 1, 3, false), (132, 2, 21, 1, 0, false), (166, 1, 38, 3, 3, true)]
def xc_39 : List (Nat × xO) := [(0, 1, .aload_n 0, 0, 0, []), (1, 1, .iconst 0, 0, 0, []), (2, 3, .invokevirtual 125, 0, 0, []), (5, 1, .istore_n 1, 0, 1, []), (6, 1, .iload_n 1, 0, 1, []), (7, 1, .iconst (-1), (-1), 0, []), (8, 3, .if_icmp .ne 5, 0, 13, []), (11, 1, .iconst 0, 0, 0, []), (12, 1, .ireturn, 0, 0, []), (13, 1, .aload_n 0, 0, 0, []), (14, 3, .getfield 15, 0, 0, []), (17, 1, .iload_n 1, 0, 1, []), (18, 3, .invokevirtual 129, 0, 0, []), (21, 1, .istore_n 2, 0, 2, []), (22, 1, .iconst 0, 0, 0, []), (23, 1, .istore_n 3, 0, 3, []), (24, 1, .iload_n 3, 0, 3, []), (25, 1, .iload_n 2, 0, 2, []), (26, 3, .if_icmp .ge 52, 0, 78, []), (29, 1, .aload_n 0, 0, 0, []), (30, 3, .getfield 15, 0, 0, []), (33, 1, .iload_n 1, 0, 1, []), (34, 2, .bipush 6, 6, 0, []), (36, 1, .iload_n 3, 0, 3, []), (37, 1, .iadd, 0, 0, []), (38, 3, .invokevirtual 121, 0, 0, []), (41, 2, .istore 4, 0, 4, []), (43, 2, .iload 4, 0, 4, []), (45, 3, .invokestatic 132, 0, 0, []), (48, 3, .ifCond .eq 24, 0, 72, []), (51, 1, .aload_n 0, 0, 0, []), (52, 3, .getfield 15, 0, 0, []), (55, 2, .iload 4, 0, 4, []), (57, 1, .aload_n 0, 0, 0, []), (58, 3, .getfield 9, 0, 0, []), (61, 3, .sipush 256, 256, 0, []), (64, 2, .bipush 16, 16, 0, []), (66, 1, .iload_n 3, 0, 3, []), (67, 1, .imul, 0, 0, []), (68, 1, .iadd, 0, 0, []), (69, 3, .invokevirtual 166, 0, 0, []), (72, 3, .iinc 3 1, 1, 3, []), (75, 3, .goto (-51), 0, 24, []), (78, 1, .iconst 1, 1, 0, []), (79, 1, .ireturn, 0, 0, [])]
def x_i39 : xI := (⟨"DeskMachine$Desk", "loadFile", "()Z"⟩, prog_2_method_17_code, 5, some .boolean, 2, x_p39, xc_39, [(24, [0, 1, 2, 3])], 3, 68, 0, 7)
-- 40: DeskMachine$Desk.obey(I)Z
def x_p40 : List (Nat × xE) := [(15, 0, 7, 1, 0, false), (33, 0, 7, 6, 0, false), (89, 1, 15, 0, 7, true), (92, 1, 23, 0, 7, false), (96, 1, 16, 1, 7, true), (99, 1, 26, 1, 3, false), (105, 1, 28, 0, 7, false), (108, 1, 36, 0, 7, false), (111, 1, 39, 0, 7, false)]
def xc_40 : List (Nat × xO) := [(0, 1, .iload_n 1, 0, 1, []), (1, 39, .tableswitch 84 0 5 #[39, 45, 50, 69, 74, 79], 0, 85, [(0, 40), (1, 46), (2, 51), (3, 70), (4, 75), (5, 80)]), (40, 1, .aload_n 0, 0, 0, []), (41, 3, .invokevirtual 89, 0, 0, []), (44, 1, .iconst 1, 1, 0, []), (45, 1, .ireturn, 0, 0, []), (46, 1, .aload_n 0, 0, 0, []), (47, 3, .invokevirtual 92, 0, 0, []), (50, 1, .ireturn, 0, 0, []), (51, 1, .aload_n 0, 0, 0, []), (52, 1, .iconst 1, 1, 0, []), (53, 3, .invokevirtual 96, 0, 0, []), (56, 1, .aload_n 0, 0, 0, []), (57, 3, .getfield 15, 0, 0, []), (60, 1, .aload_n 0, 0, 0, []), (61, 3, .getfield 33, 0, 0, []), (64, 3, .invokevirtual 99, 0, 0, []), (67, 1, .pop, 0, 0, []), (68, 1, .iconst 1, 1, 0, []), (69, 1, .ireturn, 0, 0, []), (70, 1, .aload_n 0, 0, 0, []), (71, 3, .invokevirtual 105, 0, 0, []), (74, 1, .ireturn, 0, 0, []), (75, 1, .aload_n 0, 0, 0, []), (76, 3, .invokevirtual 108, 0, 0, []), (79, 1, .ireturn, 0, 0, []), (80, 1, .aload_n 0, 0, 0, []), (81, 3, .invokevirtual 111, 0, 0, []), (84, 1, .ireturn, 0, 0, []), (85, 1, .iconst 1, 1, 0, []), (86, 1, .ireturn, 0, 0, [])]
def x_i40 : xI := (⟨"DeskMachine$Desk", "obey", "(I)Z"⟩, prog_2_method_8_code, 2, some .boolean, 2, x_p40, xc_40, [], 4, 94, 1, 7)
-- 41: DeskMachine$Desk.endLine()Z
def x_p41 : List (Nat × xE) := [(19, 0, 7, 2, 0, false), (36, 0, 7, 7, 0, true), (40, 0, 7, 8, 0, true), (43, 1, 9, 0, 7, true), (46, 1, 11, 0, 7, false), (50, 3, 900, 0, 0, true), (53, 1, 40, 1, 7, false), (57, 1, 14, 1, 5, true)]
def xc_41 : List (Nat × xO) := [(0, 1, .aload_n 0, 0, 0, []), (1, 3, .invokevirtual 43, 0, 0, []), (4, 1, .aload_n 0, 0, 0, []), (5, 1, .iconst 0, 0, 0, []), (6, 3, .putfield 36, 0, 0, []), (9, 1, .aload_n 0, 0, 0, []), (10, 3, .invokevirtual 46, 0, 0, []), (13, 1, .istore_n 1, 0, 1, []), (14, 1, .aload_n 0, 0, 0, []), (15, 3, .getfield 40, 0, 0, []), (18, 3, .getstatic 50, 0, 0, []), (21, 1, .iload_n 1, 0, 1, []), (22, 1, .iaload, 0, 0, []), (23, 3, .if_icmp .lt 15, 0, 38, []), (26, 1, .aload_n 0, 0, 0, []), (27, 1, .iload_n 1, 0, 1, []), (28, 3, .invokevirtual 53, 0, 0, []), (31, 3, .ifCond .eq 7, 0, 38, []), (34, 1, .iconst 1, 1, 0, []), (35, 3, .goto 4, 0, 39, []), (38, 1, .iconst 0, 0, 0, []), (39, 1, .istore_n 2, 0, 2, []), (40, 1, .iload_n 2, 0, 2, []), (41, 3, .ifCond .ne 12, 0, 53, []), (44, 1, .aload_n 0, 0, 0, []), (45, 3, .getfield 19, 0, 0, []), (48, 2, .bipush 63, 63, 0, []), (50, 3, .invokevirtual 57, 0, 0, []), (53, 1, .aload_n 0, 0, 0, []), (54, 3, .getfield 19, 0, 0, []), (57, 2, .bipush 13, 13, 0, []), (59, 3, .invokevirtual 57, 0, 0, []), (62, 1, .iload_n 2, 0, 2, []), (63, 3, .ifCond .eq 12, 0, 75, []), (66, 1, .iload_n 1, 0, 1, []), (67, 1, .iconst 5, 5, 0, []), (68, 3, .if_icmp .ne 7, 0, 75, []), (71, 1, .iconst 1, 1, 0, []), (72, 3, .goto 4, 0, 76, []), (75, 1, .iconst 0, 0, 0, []), (76, 1, .istore_n 3, 0, 3, []), (77, 1, .iload_n 3, 0, 3, []), (78, 3, .ifCond .ne 12, 0, 90, []), (81, 1, .aload_n 0, 0, 0, []), (82, 3, .getfield 19, 0, 0, []), (85, 2, .bipush 62, 62, 0, []), (87, 3, .invokevirtual 57, 0, 0, []), (90, 1, .iload_n 3, 0, 3, []), (91, 1, .ireturn, 0, 0, [])]
def x_i41 : xI := (⟨"DeskMachine$Desk", "endLine", "()Z"⟩, prog_2_method_3_code, 4, some .boolean, 2, x_p41, xc_41, [(53, [0, 1, 2])], 6, 193, 0, 7)
-- 42: DeskMachine$Processor.setFlags(I)V
def x_p42 : List (Nat × xE) := [(54, 0, 2, 4, 0, true), (57, 0, 2, 5, 0, true), (60, 0, 2, 6, 0, true), (63, 0, 2, 7, 0, true), (66, 0, 2, 8, 0, true)]
def xc_42 : List (Nat × xO) := [(0, 1, .aload_n 0, 0, 0, []), (1, 1, .iload_n 1, 0, 1, []), (2, 2, .bipush 7, 7, 0, []), (4, 1, .ishr, 0, 0, []), (5, 1, .iconst 1, 1, 0, []), (6, 1, .iand, 0, 0, []), (7, 3, .putfield 54, 0, 0, []), (10, 1, .aload_n 0, 0, 0, []), (11, 1, .iload_n 1, 0, 1, []), (12, 2, .bipush 6, 6, 0, []), (14, 1, .ishr, 0, 0, []), (15, 1, .iconst 1, 1, 0, []), (16, 1, .iand, 0, 0, []), (17, 3, .putfield 57, 0, 0, []), (20, 1, .aload_n 0, 0, 0, []), (21, 1, .iload_n 1, 0, 1, []), (22, 1, .iconst 4, 4, 0, []), (23, 1, .ishr, 0, 0, []), (24, 1, .iconst 1, 1, 0, []), (25, 1, .iand, 0, 0, []), (26, 3, .putfield 60, 0, 0, []), (29, 1, .aload_n 0, 0, 0, []), (30, 1, .iload_n 1, 0, 1, []), (31, 1, .iconst 2, 2, 0, []), (32, 1, .ishr, 0, 0, []), (33, 1, .iconst 1, 1, 0, []), (34, 1, .iand, 0, 0, []), (35, 3, .putfield 63, 0, 0, []), (38, 1, .aload_n 0, 0, 0, []), (39, 1, .iload_n 1, 0, 1, []), (40, 1, .iconst 1, 1, 0, []), (41, 1, .iand, 0, 0, []), (42, 3, .putfield 66, 0, 0, []), (45, 1, .return_, 0, 0, [])]
def x_i42 : xI := (⟨"DeskMachine$Processor", "setFlags", "(I)V"⟩, prog_7_method_8_code, 2, none, 0, x_p42, xc_42, [], 0, 0, 1, 2)
-- 43: DeskMachine$Memory.putWord(II)V
def x_p43 : List (Nat × xE) := [(9, 0, 1, 0, 0, false)]
def xc_43 : List (Nat × xO) := [(0, 1, .aload_n 0, 0, 0, []), (1, 3, .getfield 9, 0, 0, []), (4, 1, .iload_n 1, 0, 1, []), (5, 3, .sipush 511, 511, 0, []), (8, 1, .iand, 0, 0, []), (9, 1, .iload_n 2, 0, 2, []), (10, 3, .sipush 255, 255, 0, []), (13, 1, .iand, 0, 0, []), (14, 1, .iastore, 0, 0, []), (15, 1, .aload_n 0, 0, 0, []), (16, 3, .getfield 9, 0, 0, []), (19, 1, .iload_n 1, 0, 1, []), (20, 1, .iconst 1, 1, 0, []), (21, 1, .iadd, 0, 0, []), (22, 3, .sipush 511, 511, 0, []), (25, 1, .iand, 0, 0, []), (26, 1, .iload_n 2, 0, 2, []), (27, 2, .bipush 8, 8, 0, []), (29, 1, .ishr, 0, 0, []), (30, 3, .sipush 255, 255, 0, []), (33, 1, .iand, 0, 0, []), (34, 1, .iastore, 0, 0, []), (35, 1, .return_, 0, 0, [])]
def x_i43 : xI := (⟨"DeskMachine$Memory", "putWord", "(II)V"⟩, prog_6_method_5_code, 3, none, 0, x_p43, xc_43, [], 0, 0, 2, 1)
-- 44: DeskMachine$Processor.push(I)V
def x_p44 : List (Nat × xE) := [(9, 0, 2, 0, 0, false), (23, 0, 2, 2, 0, true), (74, 4, 65535, 0, 0, false), (75, 1, 43, 2, 1, true)]
def xc_44 : List (Nat × xO) := [(0, 1, .aload_n 0, 0, 0, []), (1, 1, .aload_n 0, 0, 0, []), (2, 3, .getfield 23, 0, 0, []), (5, 1, .iconst 2, 2, 0, []), (6, 1, .isub, 0, 0, []), (7, 2, .ldc 74, 0, 0, []), (9, 1, .iand, 0, 0, []), (10, 3, .putfield 23, 0, 0, []), (13, 1, .aload_n 0, 0, 0, []), (14, 3, .getfield 9, 0, 0, []), (17, 1, .aload_n 0, 0, 0, []), (18, 3, .getfield 23, 0, 0, []), (21, 1, .iload_n 1, 0, 1, []), (22, 3, .invokevirtual 75, 0, 0, []), (25, 1, .return_, 0, 0, [])]
def x_i44 : xI := (⟨"DeskMachine$Processor", "push", "(I)V"⟩, prog_7_method_7_code, 2, none, 0, x_p44, xc_44, [], 1, 22, 1, 2)
-- 45: DeskMachine$Processor.start()V
def x_p45 : List (Nat × xE) := [(15, 0, 2, 1, 0, false), (19, 1, 42, 1, 2, true), (23, 0, 2, 2, 0, true), (27, 1, 44, 1, 2, true), (30, 0, 2, 3, 0, true)]
def xc_45 : List (Nat × xO) := [(0, 1, .iconst 0, 0, 0, []), (1, 1, .istore_n 1, 0, 1, []), (2, 1, .iload_n 1, 0, 1, []), (3, 2, .bipush 8, 8, 0, []), (5, 3, .if_icmp .ge 16, 0, 21, []), (8, 1, .aload_n 0, 0, 0, []), (9, 3, .getfield 15, 0, 0, []), (12, 1, .iload_n 1, 0, 1, []), (13, 1, .iconst 0, 0, 0, []), (14, 1, .iastore, 0, 0, []), (15, 3, .iinc 1 1, 1, 1, []), (18, 3, .goto (-16), 0, 2, []), (21, 1, .aload_n 0, 0, 0, []), (22, 1, .iconst 0, 0, 0, []), (23, 3, .invokevirtual 19, 0, 0, []), (26, 1, .aload_n 0, 0, 0, []), (27, 3, .sipush 496, 496, 0, []), (30, 3, .putfield 23, 0, 0, []), (33, 1, .aload_n 0, 0, 0, []), (34, 1, .iconst 0, 0, 0, []), (35, 3, .invokevirtual 27, 0, 0, []), (38, 1, .aload_n 0, 0, 0, []), (39, 3, .sipush 256, 256, 0, []), (42, 3, .putfield 30, 0, 0, []), (45, 1, .return_, 0, 0, [])]
def x_i45 : xI := (⟨"DeskMachine$Processor", "start", "()V"⟩, prog_7_method_2_code, 2, none, 0, x_p45, xc_45, [(2, [0, 1])], 2, 43, 0, 2)
-- 46: DeskMachine.stepAtDesk()Z
def x_p46 : List (Nat × xE) := [(21, 0, 0, 1, 0, false), (35, 0, 0, 3, 0, false), (51, 0, 0, 5, 0, false), (60, 0, 0, 6, 0, false), (64, 0, 0, 7, 0, true), (132, 0, 6, 3, 0, true), (145, 1, 5, 0, 4, false), (148, 1, 6, 0, 4, false), (151, 1, 7, 1, 7, true), (152, 1, 41, 0, 7, false), (155, 1, 45, 0, 2, true)]
def xc_46 : List (Nat × xO) := [(0, 1, .aload_n 0, 0, 0, []), (1, 3, .getfield 35, 0, 0, []), (4, 3, .invokevirtual 145, 0, 0, []), (7, 3, .ifCond .eq 5, 0, 12, []), (10, 1, .iconst 0, 0, 0, []), (11, 1, .ireturn, 0, 0, []), (12, 1, .aload_n 0, 0, 0, []), (13, 3, .getfield 35, 0, 0, []), (16, 3, .invokevirtual 148, 0, 0, []), (19, 1, .istore_n 1, 0, 1, []), (20, 1, .iload_n 1, 0, 1, []), (21, 2, .bipush 13, 13, 0, []), (23, 3, .if_icmp .eq 14, 0, 37, []), (26, 1, .aload_n 0, 0, 0, []), (27, 3, .getfield 60, 0, 0, []), (30, 1, .iload_n 1, 0, 1, []), (31, 3, .invokevirtual 151, 0, 0, []), (34, 3, .goto 35, 0, 69, []), (37, 1, .aload_n 0, 0, 0, []), (38, 3, .getfield 60, 0, 0, []), (41, 3, .invokevirtual 152, 0, 0, []), (44, 3, .ifCond .eq 25, 0, 69, []), (47, 1, .aload_n 0, 0, 0, []), (48, 3, .getfield 21, 0, 0, []), (51, 3, .invokevirtual 155, 0, 0, []), (54, 1, .aload_n 0, 0, 0, []), (55, 3, .getfield 51, 0, 0, []), (58, 3, .sipush 128, 128, 0, []), (61, 3, .putfield 132, 0, 0, []), (64, 1, .aload_n 0, 0, 0, []), (65, 1, .iconst 1, 1, 0, []), (66, 3, .putfield 64, 0, 0, []), (69, 1, .iconst 1, 1, 0, []), (70, 1, .ireturn, 0, 0, [])]
def x_i46 : xI := (⟨"DeskMachine", "stepAtDesk", "()Z"⟩, prog_1_method_14_code, 2, some .boolean, 2, x_p46, xc_46, [], 7, 216, 0, 0)
-- 47: DeskMachine$Processor.nextByte()I
def x_p47 : List (Nat × xE) := [(9, 0, 2, 0, 0, false), (30, 0, 2, 3, 0, true), (74, 4, 65535, 0, 0, false), (81, 1, 33, 1, 1, false)]
def xc_47 : List (Nat × xO) := [(0, 1, .aload_n 0, 0, 0, []), (1, 3, .getfield 9, 0, 0, []), (4, 1, .aload_n 0, 0, 0, []), (5, 3, .getfield 30, 0, 0, []), (8, 3, .invokevirtual 81, 0, 0, []), (11, 1, .istore_n 1, 0, 1, []), (12, 1, .aload_n 0, 0, 0, []), (13, 1, .aload_n 0, 0, 0, []), (14, 3, .getfield 30, 0, 0, []), (17, 1, .iconst 1, 1, 0, []), (18, 1, .iadd, 0, 0, []), (19, 2, .ldc 74, 0, 0, []), (21, 1, .iand, 0, 0, []), (22, 3, .putfield 30, 0, 0, []), (25, 1, .iload_n 1, 0, 1, []), (26, 1, .ireturn, 0, 0, [])]
def x_i47 : xI := (⟨"DeskMachine$Processor", "nextByte", "()I"⟩, prog_7_method_12_code, 2, some .int, 1, x_p47, xc_47, [], 1, 21, 0, 2)
-- 48: DeskMachine$Processor.nextWord()I
def x_p48 : List (Nat × xE) := [(33, 1, 47, 0, 2, false)]
def xc_48 : List (Nat × xO) := [(0, 1, .aload_n 0, 0, 0, []), (1, 3, .invokevirtual 33, 0, 0, []), (4, 1, .istore_n 1, 0, 1, []), (5, 1, .iload_n 1, 0, 1, []), (6, 1, .aload_n 0, 0, 0, []), (7, 3, .invokevirtual 33, 0, 0, []), (10, 2, .bipush 8, 8, 0, []), (12, 1, .ishl, 0, 0, []), (13, 1, .ior, 0, 0, []), (14, 1, .ireturn, 0, 0, [])]
def x_i48 : xI := (⟨"DeskMachine$Processor", "nextWord", "()I"⟩, prog_7_method_13_code, 2, some .int, 1, x_p48, xc_48, [], 2, 42, 0, 2)
-- 49: DeskMachine$Processor.setPair(II)V
def x_p49 : List (Nat × xE) := [(15, 0, 2, 1, 0, false), (23, 0, 2, 2, 0, true), (74, 4, 65535, 0, 0, false)]
def xc_49 : List (Nat × xO) := [(0, 1, .iload_n 1, 0, 1, []), (1, 1, .iconst 3, 3, 0, []), (2, 3, .if_icmp .ne 14, 0, 16, []), (5, 1, .aload_n 0, 0, 0, []), (6, 1, .iload_n 2, 0, 2, []), (7, 2, .ldc 74, 0, 0, []), (9, 1, .iand, 0, 0, []), (10, 3, .putfield 23, 0, 0, []), (13, 3, .goto 34, 0, 47, []), (16, 1, .aload_n 0, 0, 0, []), (17, 3, .getfield 15, 0, 0, []), (20, 1, .iconst 2, 2, 0, []), (21, 1, .iload_n 1, 0, 1, []), (22, 1, .imul, 0, 0, []), (23, 1, .iload_n 2, 0, 2, []), (24, 2, .bipush 8, 8, 0, []), (26, 1, .ishr, 0, 0, []), (27, 3, .sipush 255, 255, 0, []), (30, 1, .iand, 0, 0, []), (31, 1, .iastore, 0, 0, []), (32, 1, .aload_n 0, 0, 0, []), (33, 3, .getfield 15, 0, 0, []), (36, 1, .iconst 2, 2, 0, []), (37, 1, .iload_n 1, 0, 1, []), (38, 1, .imul, 0, 0, []), (39, 1, .iconst 1, 1, 0, []), (40, 1, .iadd, 0, 0, []), (41, 1, .iload_n 2, 0, 2, []), (42, 3, .sipush 255, 255, 0, []), (45, 1, .iand, 0, 0, []), (46, 1, .iastore, 0, 0, []), (47, 1, .return_, 0, 0, [])]
def x_i49 : xI := (⟨"DeskMachine$Processor", "setPair", "(II)V"⟩, prog_7_method_9_code, 3, none, 0, x_p49, xc_49, [], 0, 0, 2, 2)
-- 50: DeskMachine$Processor.pair(I)I
def x_p50 : List (Nat × xE) := [(15, 0, 2, 1, 0, false), (23, 0, 2, 2, 0, true)]
def xc_50 : List (Nat × xO) := [(0, 1, .iload_n 1, 0, 1, []), (1, 1, .iconst 3, 3, 0, []), (2, 3, .if_icmp .ne 10, 0, 12, []), (5, 1, .aload_n 0, 0, 0, []), (6, 3, .getfield 23, 0, 0, []), (9, 3, .goto 25, 0, 34, []), (12, 1, .aload_n 0, 0, 0, []), (13, 3, .getfield 15, 0, 0, []), (16, 1, .iconst 2, 2, 0, []), (17, 1, .iload_n 1, 0, 1, []), (18, 1, .imul, 0, 0, []), (19, 1, .iaload, 0, 0, []), (20, 2, .bipush 8, 8, 0, []), (22, 1, .ishl, 0, 0, []), (23, 1, .aload_n 0, 0, 0, []), (24, 3, .getfield 15, 0, 0, []), (27, 1, .iconst 2, 2, 0, []), (28, 1, .iload_n 1, 0, 1, []), (29, 1, .imul, 0, 0, []), (30, 1, .iconst 1, 1, 0, []), (31, 1, .iadd, 0, 0, []), (32, 1, .iaload, 0, 0, []), (33, 1, .ior, 0, 0, []), (34, 1, .ireturn, 0, 0, [])]
def x_i50 : xI := (⟨"DeskMachine$Processor", "pair", "(I)I"⟩, prog_7_method_5_code, 2, some .int, 1, x_p50, xc_50, [], 0, 0, 1, 2)
-- 51: DeskMachine$Processor.addToHL(I)V
def x_p51 : List (Nat × xE) := [(66, 0, 2, 8, 0, true), (78, 1, 50, 1, 2, false), (86, 1, 49, 2, 2, true)]
def xc_51 : List (Nat × xO) := [(0, 1, .aload_n 0, 0, 0, []), (1, 1, .iconst 2, 2, 0, []), (2, 3, .invokevirtual 78, 0, 0, []), (5, 1, .iload_n 1, 0, 1, []), (6, 1, .iadd, 0, 0, []), (7, 1, .istore_n 2, 0, 2, []), (8, 1, .aload_n 0, 0, 0, []), (9, 1, .iconst 2, 2, 0, []), (10, 1, .iload_n 2, 0, 2, []), (11, 3, .invokevirtual 86, 0, 0, []), (14, 1, .aload_n 0, 0, 0, []), (15, 1, .iload_n 2, 0, 2, []), (16, 2, .bipush 16, 16, 0, []), (18, 1, .ishr, 0, 0, []), (19, 3, .putfield 66, 0, 0, []), (22, 1, .return_, 0, 0, [])]
def x_i51 : xI := (⟨"DeskMachine$Processor", "addToHL", "(I)V"⟩, prog_7_method_15_code, 3, none, 0, x_p51, xc_51, [], 1, 22, 1, 2)
-- 52: DeskMachine$Memory.word(I)I
def x_p52 : List (Nat × xE) := [(9, 0, 1, 0, 0, false)]
def xc_52 : List (Nat × xO) := [(0, 1, .aload_n 0, 0, 0, []), (1, 3, .getfield 9, 0, 0, []), (4, 1, .iload_n 1, 0, 1, []), (5, 3, .sipush 511, 511, 0, []), (8, 1, .iand, 0, 0, []), (9, 1, .iaload, 0, 0, []), (10, 1, .aload_n 0, 0, 0, []), (11, 3, .getfield 9, 0, 0, []), (14, 1, .iload_n 1, 0, 1, []), (15, 1, .iconst 1, 1, 0, []), (16, 1, .iadd, 0, 0, []), (17, 3, .sipush 511, 511, 0, []), (20, 1, .iand, 0, 0, []), (21, 1, .iaload, 0, 0, []), (22, 2, .bipush 8, 8, 0, []), (24, 1, .ishl, 0, 0, []), (25, 1, .ior, 0, 0, []), (26, 1, .ireturn, 0, 0, [])]
def x_i52 : xI := (⟨"DeskMachine$Memory", "word", "(I)I"⟩, prog_6_method_4_code, 2, some .int, 1, x_p52, xc_52, [], 0, 0, 1, 1)
-- 53: DeskMachine$Processor.moveByAddress(I)V
def x_p53 : List (Nat × xE) := [(9, 0, 2, 0, 0, false), (15, 0, 2, 1, 0, false), (69, 1, 52, 1, 1, false), (75, 1, 43, 2, 1, true), (78, 1, 50, 1, 2, false), (81, 1, 33, 1, 1, false), (82, 1, 37, 2, 1, true), (83, 1, 48, 0, 2, false), (86, 1, 49, 2, 2, true)]
def xc_53 : List (Nat × xO) := [(0, 1, .iload_n 1, 0, 1, []), (1, 43, .tableswitch 150 0 6 #[43, 67, 43, 67, 91, 110, 129], 0, 151, [(0, 44), (1, 68), (2, 44), (3, 68), (4, 92), (5, 111), (6, 130)]), (44, 1, .aload_n 0, 0, 0, []), (45, 3, .getfield 9, 0, 0, []), (48, 1, .aload_n 0, 0, 0, []), (49, 1, .iload_n 1, 0, 1, []), (50, 1, .iconst 1, 1, 0, []), (51, 1, .ishr, 0, 0, []), (52, 3, .invokevirtual 78, 0, 0, []), (55, 1, .aload_n 0, 0, 0, []), (56, 3, .getfield 15, 0, 0, []), (59, 2, .bipush 7, 7, 0, []), (61, 1, .iaload, 0, 0, []), (62, 3, .invokevirtual 82, 0, 0, []), (65, 3, .goto 104, 0, 169, []), (68, 1, .aload_n 0, 0, 0, []), (69, 3, .getfield 15, 0, 0, []), (72, 2, .bipush 7, 7, 0, []), (74, 1, .aload_n 0, 0, 0, []), (75, 3, .getfield 9, 0, 0, []), (78, 1, .aload_n 0, 0, 0, []), (79, 1, .iload_n 1, 0, 1, []), (80, 1, .iconst 1, 1, 0, []), (81, 1, .ishr, 0, 0, []), (82, 3, .invokevirtual 78, 0, 0, []), (85, 3, .invokevirtual 81, 0, 0, []), (88, 1, .iastore, 0, 0, []), (89, 3, .goto 80, 0, 169, []), (92, 1, .aload_n 0, 0, 0, []), (93, 3, .getfield 9, 0, 0, []), (96, 1, .aload_n 0, 0, 0, []), (97, 3, .invokevirtual 83, 0, 0, []), (100, 1, .aload_n 0, 0, 0, []), (101, 1, .iconst 2, 2, 0, []), (102, 3, .invokevirtual 78, 0, 0, []), (105, 3, .invokevirtual 75, 0, 0, []), (108, 3, .goto 61, 0, 169, []), (111, 1, .aload_n 0, 0, 0, []), (112, 1, .iconst 2, 2, 0, []), (113, 1, .aload_n 0, 0, 0, []), (114, 3, .getfield 9, 0, 0, []), (117, 1, .aload_n 0, 0, 0, []), (118, 3, .invokevirtual 83, 0, 0, []), (121, 3, .invokevirtual 69, 0, 0, []), (124, 3, .invokevirtual 86, 0, 0, []), (127, 3, .goto 42, 0, 169, []), (130, 1, .aload_n 0, 0, 0, []), (131, 3, .getfield 9, 0, 0, []), (134, 1, .aload_n 0, 0, 0, []), (135, 3, .invokevirtual 83, 0, 0, []), (138, 1, .aload_n 0, 0, 0, []), (139, 3, .getfield 15, 0, 0, []), (142, 2, .bipush 7, 7, 0, []), (144, 1, .iaload, 0, 0, []), (145, 3, .invokevirtual 82, 0, 0, []), (148, 3, .goto 21, 0, 169, []), (151, 1, .aload_n 0, 0, 0, []), (152, 3, .getfield 15, 0, 0, []), (155, 2, .bipush 7, 7, 0, []), (157, 1, .aload_n 0, 0, 0, []), (158, 3, .getfield 9, 0, 0, []), (161, 1, .aload_n 0, 0, 0, []), (162, 3, .invokevirtual 83, 0, 0, []), (165, 3, .invokevirtual 81, 0, 0, []), (168, 1, .iastore, 0, 0, []), (169, 1, .return_, 0, 0, [])]
def x_i53 : xI := (⟨"DeskMachine$Processor", "moveByAddress", "(I)V"⟩, prog_7_method_16_code, 2, none, 0, x_p53, xc_53, [], 3, 63, 1, 2)
-- 54: DeskMachine$Processor.get(I)I
def x_p54 : List (Nat × xE) := [(9, 0, 2, 0, 0, false), (15, 0, 2, 1, 0, false), (78, 1, 50, 1, 2, false), (81, 1, 33, 1, 1, false)]
def xc_54 : List (Nat × xO) := [(0, 1, .iload_n 1, 0, 1, []), (1, 2, .bipush 6, 6, 0, []), (3, 3, .if_icmp .ne 18, 0, 21, []), (6, 1, .aload_n 0, 0, 0, []), (7, 3, .getfield 9, 0, 0, []), (10, 1, .aload_n 0, 0, 0, []), (11, 1, .iconst 2, 2, 0, []), (12, 3, .invokevirtual 78, 0, 0, []), (15, 3, .invokevirtual 81, 0, 0, []), (18, 3, .goto 9, 0, 27, []), (21, 1, .aload_n 0, 0, 0, []), (22, 3, .getfield 15, 0, 0, []), (25, 1, .iload_n 1, 0, 1, []), (26, 1, .iaload, 0, 0, []), (27, 1, .ireturn, 0, 0, [])]
def x_i54 : xI := (⟨"DeskMachine$Processor", "get", "(I)I"⟩, prog_7_method_10_code, 2, some .int, 1, x_p54, xc_54, [], 1, 21, 1, 2)
-- 55: DeskMachine$Processor.put(II)V
def x_p55 : List (Nat × xE) := [(9, 0, 2, 0, 0, false), (15, 0, 2, 1, 0, false), (78, 1, 50, 1, 2, false), (82, 1, 37, 2, 1, true)]
def xc_55 : List (Nat × xO) := [(0, 1, .iload_n 1, 0, 1, []), (1, 2, .bipush 6, 6, 0, []), (3, 3, .if_icmp .ne 19, 0, 22, []), (6, 1, .aload_n 0, 0, 0, []), (7, 3, .getfield 9, 0, 0, []), (10, 1, .aload_n 0, 0, 0, []), (11, 1, .iconst 2, 2, 0, []), (12, 3, .invokevirtual 78, 0, 0, []), (15, 1, .iload_n 2, 0, 2, []), (16, 3, .invokevirtual 82, 0, 0, []), (19, 3, .goto 10, 0, 29, []), (22, 1, .aload_n 0, 0, 0, []), (23, 3, .getfield 15, 0, 0, []), (26, 1, .iload_n 1, 0, 1, []), (27, 1, .iload_n 2, 0, 2, []), (28, 1, .iastore, 0, 0, []), (29, 1, .return_, 0, 0, [])]
def x_i55 : xI := (⟨"DeskMachine$Processor", "put", "(II)V"⟩, prog_7_method_11_code, 3, none, 0, x_p55, xc_55, [], 1, 22, 2, 2)
-- 56: java/lang/Integer.bitCount(I)I
def x_p56 : List (Nat × xE) := [(265, 4, 1431655765, 0, 0, false), (266, 4, 858993459, 0, 0, false), (267, 4, 252645135, 0, 0, false)]
def xc_56 : List (Nat × xO) := [(0, 1, .iload_n 0, 0, 0, []), (1, 1, .iload_n 0, 0, 0, []), (2, 1, .iconst 1, 1, 0, []), (3, 1, .iushr, 0, 0, []), (4, 3, .ldc_w 265, 0, 0, []), (7, 1, .iand, 0, 0, []), (8, 1, .isub, 0, 0, []), (9, 1, .istore_n 0, 0, 0, []), (10, 1, .iload_n 0, 0, 0, []), (11, 3, .ldc_w 266, 0, 0, []), (14, 1, .iand, 0, 0, []), (15, 1, .iload_n 0, 0, 0, []), (16, 1, .iconst 2, 2, 0, []), (17, 1, .iushr, 0, 0, []), (18, 3, .ldc_w 266, 0, 0, []), (21, 1, .iand, 0, 0, []), (22, 1, .iadd, 0, 0, []), (23, 1, .istore_n 0, 0, 0, []), (24, 1, .iload_n 0, 0, 0, []), (25, 1, .iload_n 0, 0, 0, []), (26, 1, .iconst 4, 4, 0, []), (27, 1, .iushr, 0, 0, []), (28, 1, .iadd, 0, 0, []), (29, 3, .ldc_w 267, 0, 0, []), (32, 1, .iand, 0, 0, []), (33, 1, .istore_n 0, 0, 0, []), (34, 1, .iload_n 0, 0, 0, []), (35, 1, .iload_n 0, 0, 0, []), (36, 2, .bipush 8, 8, 0, []), (38, 1, .iushr, 0, 0, []), (39, 1, .iadd, 0, 0, []), (40, 1, .istore_n 0, 0, 0, []), (41, 1, .iload_n 0, 0, 0, []), (42, 1, .iload_n 0, 0, 0, []), (43, 2, .bipush 16, 16, 0, []), (45, 1, .iushr, 0, 0, []), (46, 1, .iadd, 0, 0, []), (47, 1, .istore_n 0, 0, 0, []), (48, 1, .iload_n 0, 0, 0, []), (49, 2, .bipush 63, 63, 0, []), (51, 1, .iand, 0, 0, []), (52, 1, .ireturn, 0, 0, [])]
def x_i56 : xI := (⟨"java/lang/Integer", "bitCount", "(I)I"⟩, prog_14_method_49_code, 1, some .int, 1, x_p56, xc_56, [], 0, 0, 1, 99)
-- 57: DeskMachine$Processor.judge(I)V
def x_p57 : List (Nat × xE) := [(54, 0, 2, 4, 0, true), (57, 0, 2, 5, 0, true), (63, 0, 2, 7, 0, true), (107, 2, 56, 1, 0, false)]
def xc_57 : List (Nat × xO) := [(0, 1, .aload_n 0, 0, 0, []), (1, 1, .iload_n 1, 0, 1, []), (2, 2, .bipush 7, 7, 0, []), (4, 1, .ishr, 0, 0, []), (5, 3, .putfield 54, 0, 0, []), (8, 1, .aload_n 0, 0, 0, []), (9, 1, .iload_n 1, 0, 1, []), (10, 3, .ifCond .ne 7, 0, 17, []), (13, 1, .iconst 1, 1, 0, []), (14, 3, .goto 4, 0, 18, []), (17, 1, .iconst 0, 0, 0, []), (18, 3, .putfield 57, 0, 0, []), (21, 1, .aload_n 0, 0, 0, []), (22, 1, .iconst 1, 1, 0, []), (23, 1, .iload_n 1, 0, 1, []), (24, 3, .invokestatic 107, 0, 0, []), (27, 1, .iconst 1, 1, 0, []), (28, 1, .iand, 0, 0, []), (29, 1, .isub, 0, 0, []), (30, 3, .putfield 63, 0, 0, []), (33, 1, .return_, 0, 0, [])]
def x_i57 : xI := (⟨"DeskMachine$Processor", "judge", "(I)V"⟩, prog_7_method_19_code, 2, none, 0, x_p57, xc_57, [], 1, 20, 1, 2)
-- 58: DeskMachine$Processor.grow(I)V
def x_p58 : List (Nat × xE) := [(41, 1, 54, 1, 2, false), (45, 1, 55, 2, 2, true), (60, 0, 2, 6, 0, true), (104, 1, 57, 1, 2, true)]
def xc_58 : List (Nat × xO) := [(0, 1, .aload_n 0, 0, 0, []), (1, 1, .iload_n 1, 0, 1, []), (2, 3, .invokevirtual 41, 0, 0, []), (5, 1, .iconst 1, 1, 0, []), (6, 1, .iadd, 0, 0, []), (7, 3, .sipush 255, 255, 0, []), (10, 1, .iand, 0, 0, []), (11, 1, .istore_n 2, 0, 2, []), (12, 1, .aload_n 0, 0, 0, []), (13, 1, .iload_n 1, 0, 1, []), (14, 1, .iload_n 2, 0, 2, []), (15, 3, .invokevirtual 45, 0, 0, []), (18, 1, .aload_n 0, 0, 0, []), (19, 1, .iload_n 2, 0, 2, []), (20, 3, .invokevirtual 104, 0, 0, []), (23, 1, .aload_n 0, 0, 0, []), (24, 1, .iload_n 2, 0, 2, []), (25, 2, .bipush 15, 15, 0, []), (27, 1, .iand, 0, 0, []), (28, 3, .ifCond .ne 7, 0, 35, []), (31, 1, .iconst 1, 1, 0, []), (32, 3, .goto 4, 0, 36, []), (35, 1, .iconst 0, 0, 0, []), (36, 3, .putfield 60, 0, 0, []), (39, 1, .return_, 0, 0, [])]
def x_i58 : xI := (⟨"DeskMachine$Processor", "grow", "(I)V"⟩, prog_7_method_17_code, 3, none, 0, x_p58, xc_58, [], 2, 44, 1, 2)
-- 59: DeskMachine$Processor.fall(I)V
def x_p59 : List (Nat × xE) := [(41, 1, 54, 1, 2, false), (45, 1, 55, 2, 2, true), (60, 0, 2, 6, 0, true), (104, 1, 57, 1, 2, true)]
def xc_59 : List (Nat × xO) := [(0, 1, .aload_n 0, 0, 0, []), (1, 1, .iload_n 1, 0, 1, []), (2, 3, .invokevirtual 41, 0, 0, []), (5, 1, .iconst 1, 1, 0, []), (6, 1, .isub, 0, 0, []), (7, 3, .sipush 255, 255, 0, []), (10, 1, .iand, 0, 0, []), (11, 1, .istore_n 2, 0, 2, []), (12, 1, .aload_n 0, 0, 0, []), (13, 1, .iload_n 1, 0, 1, []), (14, 1, .iload_n 2, 0, 2, []), (15, 3, .invokevirtual 45, 0, 0, []), (18, 1, .aload_n 0, 0, 0, []), (19, 1, .iload_n 2, 0, 2, []), (20, 3, .invokevirtual 104, 0, 0, []), (23, 1, .aload_n 0, 0, 0, []), (24, 1, .iload_n 2, 0, 2, []), (25, 2, .bipush 15, 15, 0, []), (27, 1, .iand, 0, 0, []), (28, 2, .bipush 15, 15, 0, []), (30, 3, .if_icmp .ne 7, 0, 37, []), (33, 1, .iconst 0, 0, 0, []), (34, 3, .goto 4, 0, 38, []), (37, 1, .iconst 1, 1, 0, []), (38, 3, .putfield 60, 0, 0, []), (41, 1, .return_, 0, 0, [])]
def x_i59 : xI := (⟨"DeskMachine$Processor", "fall", "(I)V"⟩, prog_7_method_18_code, 3, none, 0, x_p59, xc_59, [], 2, 44, 1, 2)
-- 60: DeskMachine$Processor.turnLeft(I)V
def x_p60 : List (Nat × xE) := [(15, 0, 2, 1, 0, false), (66, 0, 2, 8, 0, true)]
def xc_60 : List (Nat × xO) := [(0, 1, .aload_n 0, 0, 0, []), (1, 3, .getfield 15, 0, 0, []), (4, 2, .bipush 7, 7, 0, []), (6, 1, .iaload, 0, 0, []), (7, 1, .istore_n 2, 0, 2, []), (8, 1, .aload_n 0, 0, 0, []), (9, 3, .getfield 15, 0, 0, []), (12, 2, .bipush 7, 7, 0, []), (14, 1, .iload_n 2, 0, 2, []), (15, 1, .iconst 1, 1, 0, []), (16, 1, .ishl, 0, 0, []), (17, 3, .sipush 255, 255, 0, []), (20, 1, .iand, 0, 0, []), (21, 1, .iload_n 1, 0, 1, []), (22, 1, .ior, 0, 0, []), (23, 1, .iastore, 0, 0, []), (24, 1, .aload_n 0, 0, 0, []), (25, 1, .iload_n 2, 0, 2, []), (26, 2, .bipush 7, 7, 0, []), (28, 1, .ishr, 0, 0, []), (29, 3, .putfield 66, 0, 0, []), (32, 1, .return_, 0, 0, [])]
def x_i60 : xI := (⟨"DeskMachine$Processor", "turnLeft", "(I)V"⟩, prog_7_method_21_code, 3, none, 0, x_p60, xc_60, [], 0, 0, 1, 2)
-- 61: DeskMachine$Processor.turnRight(I)V
def x_p61 : List (Nat × xE) := [(15, 0, 2, 1, 0, false), (66, 0, 2, 8, 0, true)]
def xc_61 : List (Nat × xO) := [(0, 1, .aload_n 0, 0, 0, []), (1, 3, .getfield 15, 0, 0, []), (4, 2, .bipush 7, 7, 0, []), (6, 1, .iaload, 0, 0, []), (7, 1, .istore_n 2, 0, 2, []), (8, 1, .aload_n 0, 0, 0, []), (9, 3, .getfield 15, 0, 0, []), (12, 2, .bipush 7, 7, 0, []), (14, 1, .iload_n 2, 0, 2, []), (15, 1, .iconst 1, 1, 0, []), (16, 1, .ishr, 0, 0, []), (17, 1, .iload_n 1, 0, 1, []), (18, 2, .bipush 7, 7, 0, []), (20, 1, .ishl, 0, 0, []), (21, 1, .ior, 0, 0, []), (22, 1, .iastore, 0, 0, []), (23, 1, .aload_n 0, 0, 0, []), (24, 1, .iload_n 2, 0, 2, []), (25, 1, .iconst 1, 1, 0, []), (26, 1, .iand, 0, 0, []), (27, 3, .putfield 66, 0, 0, []), (30, 1, .return_, 0, 0, [])]
def x_i61 : xI := (⟨"DeskMachine$Processor", "turnRight", "(I)V"⟩, prog_7_method_22_code, 3, none, 0, x_p61, xc_61, [], 0, 0, 1, 2)
-- 62: DeskMachine$Processor.adjust()V
def x_p62 : List (Nat × xE) := [(15, 0, 2, 1, 0, false), (60, 0, 2, 6, 0, true), (66, 0, 2, 8, 0, true), (104, 1, 57, 1, 2, true)]
def xc_62 : List (Nat × xO) := [(0, 1, .aload_n 0, 0, 0, []), (1, 3, .getfield 15, 0, 0, []), (4, 2, .bipush 7, 7, 0, []), (6, 1, .iaload, 0, 0, []), (7, 1, .istore_n 1, 0, 1, []), (8, 1, .iload_n 1, 0, 1, []), (9, 2, .bipush 15, 15, 0, []), (11, 1, .iand, 0, 0, []), (12, 2, .bipush 9, 9, 0, []), (14, 3, .if_icmp .gt 11, 0, 25, []), (17, 1, .aload_n 0, 0, 0, []), (18, 3, .getfield 60, 0, 0, []), (21, 1, .iconst 1, 1, 0, []), (22, 3, .if_icmp .ne 8, 0, 30, []), (25, 2, .bipush 6, 6, 0, []), (27, 3, .goto 4, 0, 31, []), (30, 1, .iconst 0, 0, 0, []), (31, 1, .istore_n 2, 0, 2, []), (32, 1, .aload_n 0, 0, 0, []), (33, 1, .iload_n 1, 0, 1, []), (34, 2, .bipush 15, 15, 0, []), (36, 1, .iand, 0, 0, []), (37, 1, .iload_n 2, 0, 2, []), (38, 1, .iadd, 0, 0, []), (39, 1, .iconst 4, 4, 0, []), (40, 1, .ishr, 0, 0, []), (41, 3, .putfield 60, 0, 0, []), (44, 1, .iload_n 1, 0, 1, []), (45, 3, .sipush 153, 153, 0, []), (48, 3, .if_icmp .gt 11, 0, 59, []), (51, 1, .aload_n 0, 0, 0, []), (52, 3, .getfield 66, 0, 0, []), (55, 1, .iconst 1, 1, 0, []), (56, 3, .if_icmp .ne 11, 0, 67, []), (59, 3, .iinc 2 96, 96, 2, []), (62, 1, .aload_n 0, 0, 0, []), (63, 1, .iconst 1, 1, 0, []), (64, 3, .putfield 66, 0, 0, []), (67, 1, .aload_n 0, 0, 0, []), (68, 3, .getfield 15, 0, 0, []), (71, 2, .bipush 7, 7, 0, []), (73, 1, .iload_n 1, 0, 1, []), (74, 1, .iload_n 2, 0, 2, []), (75, 1, .iadd, 0, 0, []), (76, 3, .sipush 255, 255, 0, []), (79, 1, .iand, 0, 0, []), (80, 1, .iastore, 0, 0, []), (81, 1, .aload_n 0, 0, 0, []), (82, 1, .aload_n 0, 0, 0, []), (83, 3, .getfield 15, 0, 0, []), (86, 2, .bipush 7, 7, 0, []), (88, 1, .iaload, 0, 0, []), (89, 3, .invokevirtual 104, 0, 0, []), (92, 1, .return_, 0, 0, [])]
def x_i62 : xI := (⟨"DeskMachine$Processor", "adjust", "()V"⟩, prog_7_method_23_code, 3, none, 0, x_p62, xc_62, [(31, [0, 1])], 2, 41, 0, 2)
-- 63: DeskMachine$Processor.changeA(I)V
def x_p63 : List (Nat × xE) := [(15, 0, 2, 1, 0, false), (66, 0, 2, 8, 0, true), (112, 1, 60, 1, 2, true), (115, 1, 61, 1, 2, true), (118, 1, 62, 0, 2, true)]
def xc_63 : List (Nat × xO) := [(0, 1, .iload_n 1, 0, 1, []), (1, 43, .tableswitch 134 0 6 #[43, 60, 76, 87, 98, 105, 126], 0, 135, [(0, 44), (1, 61), (2, 77), (3, 88), (4, 99), (5, 106), (6, 127)]), (44, 1, .aload_n 0, 0, 0, []), (45, 1, .aload_n 0, 0, 0, []), (46, 3, .getfield 15, 0, 0, []), (49, 2, .bipush 7, 7, 0, []), (51, 1, .iaload, 0, 0, []), (52, 2, .bipush 7, 7, 0, []), (54, 1, .ishr, 0, 0, []), (55, 3, .invokevirtual 112, 0, 0, []), (58, 3, .goto 87, 0, 145, []), (61, 1, .aload_n 0, 0, 0, []), (62, 1, .aload_n 0, 0, 0, []), (63, 3, .getfield 15, 0, 0, []), (66, 2, .bipush 7, 7, 0, []), (68, 1, .iaload, 0, 0, []), (69, 1, .iconst 1, 1, 0, []), (70, 1, .iand, 0, 0, []), (71, 3, .invokevirtual 115, 0, 0, []), (74, 3, .goto 71, 0, 145, []), (77, 1, .aload_n 0, 0, 0, []), (78, 1, .aload_n 0, 0, 0, []), (79, 3, .getfield 66, 0, 0, []), (82, 3, .invokevirtual 112, 0, 0, []), (85, 3, .goto 60, 0, 145, []), (88, 1, .aload_n 0, 0, 0, []), (89, 1, .aload_n 0, 0, 0, []), (90, 3, .getfield 66, 0, 0, []), (93, 3, .invokevirtual 115, 0, 0, []), (96, 3, .goto 49, 0, 145, []), (99, 1, .aload_n 0, 0, 0, []), (100, 3, .invokevirtual 118, 0, 0, []), (103, 3, .goto 42, 0, 145, []), (106, 1, .aload_n 0, 0, 0, []), (107, 3, .getfield 15, 0, 0, []), (110, 2, .bipush 7, 7, 0, []), (112, 3, .sipush 255, 255, 0, []), (115, 1, .aload_n 0, 0, 0, []), (116, 3, .getfield 15, 0, 0, []), (119, 2, .bipush 7, 7, 0, []), (121, 1, .iaload, 0, 0, []), (122, 1, .isub, 0, 0, []), (123, 1, .iastore, 0, 0, []), (124, 3, .goto 21, 0, 145, []), (127, 1, .aload_n 0, 0, 0, []), (128, 1, .iconst 1, 1, 0, []), (129, 3, .putfield 66, 0, 0, []), (132, 3, .goto 13, 0, 145, []), (135, 1, .aload_n 0, 0, 0, []), (136, 1, .iconst 1, 1, 0, []), (137, 1, .aload_n 0, 0, 0, []), (138, 3, .getfield 66, 0, 0, []), (141, 1, .isub, 0, 0, []), (142, 3, .putfield 66, 0, 0, []), (145, 1, .return_, 0, 0, [])]
def x_i63 : xI := (⟨"DeskMachine$Processor", "changeA", "(I)V"⟩, prog_7_method_20_code, 2, none, 0, x_p63, xc_63, [], 3, 63, 1, 2)
-- 64: DeskMachine$Processor.moveOrCount(II)V
def x_p64 : List (Nat × xE) := [(33, 1, 47, 0, 2, false), (45, 1, 55, 2, 2, true), (78, 1, 50, 1, 2, false), (83, 1, 48, 0, 2, false), (86, 1, 49, 2, 2, true), (89, 1, 51, 1, 2, true), (92, 1, 53, 1, 2, true), (95, 1, 58, 1, 2, true), (98, 1, 59, 1, 2, true), (101, 1, 63, 1, 2, true)]
def xc_64 : List (Nat × xO) := [(0, 1, .iload_n 2, 0, 2, []), (1, 43, .tableswitch 145 0 6 #[43, 46, 80, 88, 117, 125, 133], 0, 146, [(0, 44), (1, 47), (2, 81), (3, 89), (4, 118), (5, 126), (6, 134)]), (44, 3, .goto 107, 0, 151, []), (47, 1, .iload_n 1, 0, 1, []), (48, 1, .iconst 1, 1, 0, []), (49, 1, .iand, 0, 0, []), (50, 3, .ifCond .ne 17, 0, 67, []), (53, 1, .aload_n 0, 0, 0, []), (54, 1, .iload_n 1, 0, 1, []), (55, 1, .iconst 1, 1, 0, []), (56, 1, .ishr, 0, 0, []), (57, 1, .aload_n 0, 0, 0, []), (58, 3, .invokevirtual 83, 0, 0, []), (61, 3, .invokevirtual 86, 0, 0, []), (64, 3, .goto 87, 0, 151, []), (67, 1, .aload_n 0, 0, 0, []), (68, 1, .aload_n 0, 0, 0, []), (69, 1, .iload_n 1, 0, 1, []), (70, 1, .iconst 1, 1, 0, []), (71, 1, .ishr, 0, 0, []), (72, 3, .invokevirtual 78, 0, 0, []), (75, 3, .invokevirtual 89, 0, 0, []), (78, 3, .goto 73, 0, 151, []), (81, 1, .aload_n 0, 0, 0, []), (82, 1, .iload_n 1, 0, 1, []), (83, 3, .invokevirtual 92, 0, 0, []), (86, 3, .goto 65, 0, 151, []), (89, 1, .aload_n 0, 0, 0, []), (90, 1, .iload_n 1, 0, 1, []), (91, 1, .iconst 1, 1, 0, []), (92, 1, .ishr, 0, 0, []), (93, 1, .aload_n 0, 0, 0, []), (94, 1, .iload_n 1, 0, 1, []), (95, 1, .iconst 1, 1, 0, []), (96, 1, .ishr, 0, 0, []), (97, 3, .invokevirtual 78, 0, 0, []), (100, 1, .iload_n 1, 0, 1, []), (101, 1, .iconst 1, 1, 0, []), (102, 1, .iand, 0, 0, []), (103, 3, .ifCond .ne 7, 0, 110, []), (106, 1, .iconst 1, 1, 0, []), (107, 3, .goto 4, 0, 111, []), (110, 1, .iconst (-1), (-1), 0, []), (111, 1, .iadd, 0, 0, []), (112, 3, .invokevirtual 86, 0, 0, []), (115, 3, .goto 36, 0, 151, []), (118, 1, .aload_n 0, 0, 0, []), (119, 1, .iload_n 1, 0, 1, []), (120, 3, .invokevirtual 95, 0, 0, []), (123, 3, .goto 28, 0, 151, []), (126, 1, .aload_n 0, 0, 0, []), (127, 1, .iload_n 1, 0, 1, []), (128, 3, .invokevirtual 98, 0, 0, []), (131, 3, .goto 20, 0, 151, []), (134, 1, .aload_n 0, 0, 0, []), (135, 1, .iload_n 1, 0, 1, []), (136, 1, .aload_n 0, 0, 0, []), (137, 3, .invokevirtual 33, 0, 0, []), (140, 3, .invokevirtual 45, 0, 0, []), (143, 3, .goto 8, 0, 151, []), (146, 1, .aload_n 0, 0, 0, []), (147, 1, .iload_n 1, 0, 1, []), (148, 3, .invokevirtual 101, 0, 0, []), (151, 1, .return_, 0, 0, [])]
def x_i64 : xI := (⟨"DeskMachine$Processor", "moveOrCount", "(II)V"⟩, prog_7_method_14_code, 3, none, 0, x_p64, xc_64, [], 4, 84, 2, 2)
-- 65: DeskMachine$Processor.plus(II)I
def x_p65 : List (Nat × xE) := [(15, 0, 2, 1, 0, false), (60, 0, 2, 6, 0, true), (66, 0, 2, 8, 0, true), (104, 1, 57, 1, 2, true)]
def xc_65 : List (Nat × xO) := [(0, 1, .aload_n 0, 0, 0, []), (1, 3, .getfield 15, 0, 0, []), (4, 2, .bipush 7, 7, 0, []), (6, 1, .iaload, 0, 0, []), (7, 1, .istore_n 3, 0, 3, []), (8, 1, .iload_n 3, 0, 3, []), (9, 1, .iload_n 1, 0, 1, []), (10, 1, .iadd, 0, 0, []), (11, 1, .iload_n 2, 0, 2, []), (12, 1, .iadd, 0, 0, []), (13, 2, .istore 4, 0, 4, []), (15, 1, .aload_n 0, 0, 0, []), (16, 1, .iload_n 3, 0, 3, []), (17, 2, .bipush 15, 15, 0, []), (19, 1, .iand, 0, 0, []), (20, 1, .iload_n 1, 0, 1, []), (21, 2, .bipush 15, 15, 0, []), (23, 1, .iand, 0, 0, []), (24, 1, .iadd, 0, 0, []), (25, 1, .iload_n 2, 0, 2, []), (26, 1, .iadd, 0, 0, []), (27, 1, .iconst 4, 4, 0, []), (28, 1, .ishr, 0, 0, []), (29, 3, .putfield 60, 0, 0, []), (32, 1, .aload_n 0, 0, 0, []), (33, 2, .iload 4, 0, 4, []), (35, 2, .bipush 8, 8, 0, []), (37, 1, .ishr, 0, 0, []), (38, 3, .putfield 66, 0, 0, []), (41, 1, .aload_n 0, 0, 0, []), (42, 2, .iload 4, 0, 4, []), (44, 3, .sipush 255, 255, 0, []), (47, 1, .iand, 0, 0, []), (48, 3, .invokevirtual 104, 0, 0, []), (51, 2, .iload 4, 0, 4, []), (53, 3, .sipush 255, 255, 0, []), (56, 1, .iand, 0, 0, []), (57, 1, .ireturn, 0, 0, [])]
def x_i65 : xI := (⟨"DeskMachine$Processor", "plus", "(II)I"⟩, prog_7_method_25_code, 5, some .int, 1, x_p65, xc_65, [], 2, 41, 2, 2)
-- 66: DeskMachine$Processor.minus(II)I
def x_p66 : List (Nat × xE) := [(66, 0, 2, 8, 0, true), (121, 1, 65, 2, 2, false)]
def xc_66 : List (Nat × xO) := [(0, 1, .aload_n 0, 0, 0, []), (1, 3, .sipush 255, 255, 0, []), (4, 1, .iload_n 1, 0, 1, []), (5, 1, .isub, 0, 0, []), (6, 1, .iconst 1, 1, 0, []), (7, 1, .iload_n 2, 0, 2, []), (8, 1, .isub, 0, 0, []), (9, 3, .invokevirtual 121, 0, 0, []), (12, 1, .istore_n 3, 0, 3, []), (13, 1, .aload_n 0, 0, 0, []), (14, 1, .iconst 1, 1, 0, []), (15, 1, .aload_n 0, 0, 0, []), (16, 3, .getfield 66, 0, 0, []), (19, 1, .isub, 0, 0, []), (20, 3, .putfield 66, 0, 0, []), (23, 1, .iload_n 3, 0, 3, []), (24, 1, .ireturn, 0, 0, [])]
def x_i66 : xI := (⟨"DeskMachine$Processor", "minus", "(II)I"⟩, prog_7_method_26_code, 4, some .int, 1, x_p66, xc_66, [], 3, 65, 2, 2)
-- 67: DeskMachine$Processor.setBits(I)V
def x_p67 : List (Nat × xE) := [(15, 0, 2, 1, 0, false), (66, 0, 2, 8, 0, true), (104, 1, 57, 1, 2, true)]
def xc_67 : List (Nat × xO) := [(0, 1, .aload_n 0, 0, 0, []), (1, 3, .getfield 15, 0, 0, []), (4, 2, .bipush 7, 7, 0, []), (6, 1, .iload_n 1, 0, 1, []), (7, 1, .iastore, 0, 0, []), (8, 1, .aload_n 0, 0, 0, []), (9, 1, .iconst 0, 0, 0, []), (10, 3, .putfield 66, 0, 0, []), (13, 1, .aload_n 0, 0, 0, []), (14, 1, .iload_n 1, 0, 1, []), (15, 3, .invokevirtual 104, 0, 0, []), (18, 1, .return_, 0, 0, [])]
def x_i67 : xI := (⟨"DeskMachine$Processor", "setBits", "(I)V"⟩, prog_7_method_27_code, 2, none, 0, x_p67, xc_67, [], 2, 41, 1, 2)
-- 68: DeskMachine$Processor.combine(II)V
def x_p68 : List (Nat × xE) := [(15, 0, 2, 1, 0, false), (60, 0, 2, 6, 0, true), (66, 0, 2, 8, 0, true), (121, 1, 65, 2, 2, false), (125, 1, 66, 2, 2, false), (128, 1, 67, 1, 2, true)]
def xc_68 : List (Nat × xO) := [(0, 1, .iload_n 1, 0, 1, []), (1, 43, .tableswitch 188 0 6 #[43, 59, 78, 94, 113, 146, 167], 0, 189, [(0, 44), (1, 60), (2, 79), (3, 95), (4, 114), (5, 147), (6, 168)]), (44, 1, .aload_n 0, 0, 0, []), (45, 3, .getfield 15, 0, 0, []), (48, 2, .bipush 7, 7, 0, []), (50, 1, .aload_n 0, 0, 0, []), (51, 1, .iload_n 2, 0, 2, []), (52, 1, .iconst 0, 0, 0, []), (53, 3, .invokevirtual 121, 0, 0, []), (56, 1, .iastore, 0, 0, []), (57, 3, .goto 139, 0, 196, []), (60, 1, .aload_n 0, 0, 0, []), (61, 3, .getfield 15, 0, 0, []), (64, 2, .bipush 7, 7, 0, []), (66, 1, .aload_n 0, 0, 0, []), (67, 1, .iload_n 2, 0, 2, []), (68, 1, .aload_n 0, 0, 0, []), (69, 3, .getfield 66, 0, 0, []), (72, 3, .invokevirtual 121, 0, 0, []), (75, 1, .iastore, 0, 0, []), (76, 3, .goto 120, 0, 196, []), (79, 1, .aload_n 0, 0, 0, []), (80, 3, .getfield 15, 0, 0, []), (83, 2, .bipush 7, 7, 0, []), (85, 1, .aload_n 0, 0, 0, []), (86, 1, .iload_n 2, 0, 2, []), (87, 1, .iconst 0, 0, 0, []), (88, 3, .invokevirtual 125, 0, 0, []), (91, 1, .iastore, 0, 0, []), (92, 3, .goto 104, 0, 196, []), (95, 1, .aload_n 0, 0, 0, []), (96, 3, .getfield 15, 0, 0, []), (99, 2, .bipush 7, 7, 0, []), (101, 1, .aload_n 0, 0, 0, []), (102, 1, .iload_n 2, 0, 2, []), (103, 1, .aload_n 0, 0, 0, []), (104, 3, .getfield 66, 0, 0, []), (107, 3, .invokevirtual 125, 0, 0, []), (110, 1, .iastore, 0, 0, []), (111, 3, .goto 85, 0, 196, []), (114, 1, .aload_n 0, 0, 0, []), (115, 1, .aload_n 0, 0, 0, []), (116, 3, .getfield 15, 0, 0, []), (119, 2, .bipush 7, 7, 0, []), (121, 1, .iaload, 0, 0, []), (122, 1, .iload_n 2, 0, 2, []), (123, 1, .ior, 0, 0, []), (124, 1, .iconst 3, 3, 0, []), (125, 1, .ishr, 0, 0, []), (126, 1, .iconst 1, 1, 0, []), (127, 1, .iand, 0, 0, []), (128, 3, .putfield 60, 0, 0, []), (131, 1, .aload_n 0, 0, 0, []), (132, 1, .aload_n 0, 0, 0, []), (133, 3, .getfield 15, 0, 0, []), (136, 2, .bipush 7, 7, 0, []), (138, 1, .iaload, 0, 0, []), (139, 1, .iload_n 2, 0, 2, []), (140, 1, .iand, 0, 0, []), (141, 3, .invokevirtual 128, 0, 0, []), (144, 3, .goto 52, 0, 196, []), (147, 1, .aload_n 0, 0, 0, []), (148, 1, .iconst 0, 0, 0, []), (149, 3, .putfield 60, 0, 0, []), (152, 1, .aload_n 0, 0, 0, []), (153, 1, .aload_n 0, 0, 0, []), (154, 3, .getfield 15, 0, 0, []), (157, 2, .bipush 7, 7, 0, []), (159, 1, .iaload, 0, 0, []), (160, 1, .iload_n 2, 0, 2, []), (161, 1, .ixor, 0, 0, []), (162, 3, .invokevirtual 128, 0, 0, []), (165, 3, .goto 31, 0, 196, []), (168, 1, .aload_n 0, 0, 0, []), (169, 1, .iconst 0, 0, 0, []), (170, 3, .putfield 60, 0, 0, []), (173, 1, .aload_n 0, 0, 0, []), (174, 1, .aload_n 0, 0, 0, []), (175, 3, .getfield 15, 0, 0, []), (178, 2, .bipush 7, 7, 0, []), (180, 1, .iaload, 0, 0, []), (181, 1, .iload_n 2, 0, 2, []), (182, 1, .ior, 0, 0, []), (183, 3, .invokevirtual 128, 0, 0, []), (186, 3, .goto 10, 0, 196, []), (189, 1, .aload_n 0, 0, 0, []), (190, 1, .iload_n 2, 0, 2, []), (191, 1, .iconst 0, 0, 0, []), (192, 3, .invokevirtual 125, 0, 0, []), (195, 1, .pop, 0, 0, []), (196, 1, .return_, 0, 0, [])]
def x_i68 : xI := (⟨"DeskMachine$Processor", "combine", "(II)V"⟩, prog_7_method_24_code, 3, none, 0, x_p68, xc_68, [], 4, 88, 2, 2)
-- 69: DeskMachine$Processor.holds(I)Z
def x_p69 : List (Nat × xE) := [(54, 0, 2, 4, 0, true), (57, 0, 2, 5, 0, true), (63, 0, 2, 7, 0, true), (66, 0, 2, 8, 0, true)]
def xc_69 : List (Nat × xO) := [(0, 1, .iload_n 1, 0, 1, []), (1, 1, .iconst 1, 1, 0, []), (2, 1, .iand, 0, 0, []), (3, 1, .istore_n 2, 0, 2, []), (4, 1, .iload_n 1, 0, 1, []), (5, 1, .iconst 1, 1, 0, []), (6, 1, .ishr, 0, 0, []), (7, 25, .tableswitch 67 0 2 #[25, 39, 53], 0, 74, [(0, 32), (1, 46), (2, 60)]), (32, 1, .aload_n 0, 0, 0, []), (33, 3, .getfield 57, 0, 0, []), (36, 1, .iload_n 2, 0, 2, []), (37, 3, .if_icmp .ne 7, 0, 44, []), (40, 1, .iconst 1, 1, 0, []), (41, 3, .goto 4, 0, 45, []), (44, 1, .iconst 0, 0, 0, []), (45, 1, .ireturn, 0, 0, []), (46, 1, .aload_n 0, 0, 0, []), (47, 3, .getfield 66, 0, 0, []), (50, 1, .iload_n 2, 0, 2, []), (51, 3, .if_icmp .ne 7, 0, 58, []), (54, 1, .iconst 1, 1, 0, []), (55, 3, .goto 4, 0, 59, []), (58, 1, .iconst 0, 0, 0, []), (59, 1, .ireturn, 0, 0, []), (60, 1, .aload_n 0, 0, 0, []), (61, 3, .getfield 63, 0, 0, []), (64, 1, .iload_n 2, 0, 2, []), (65, 3, .if_icmp .ne 7, 0, 72, []), (68, 1, .iconst 1, 1, 0, []), (69, 3, .goto 4, 0, 73, []), (72, 1, .iconst 0, 0, 0, []), (73, 1, .ireturn, 0, 0, []), (74, 1, .aload_n 0, 0, 0, []), (75, 3, .getfield 54, 0, 0, []), (78, 1, .iload_n 2, 0, 2, []), (79, 3, .if_icmp .ne 7, 0, 86, []), (82, 1, .iconst 1, 1, 0, []), (83, 3, .goto 4, 0, 87, []), (86, 1, .iconst 0, 0, 0, []), (87, 1, .ireturn, 0, 0, [])]
def x_i69 : xI := (⟨"DeskMachine$Processor", "holds", "(I)Z"⟩, prog_7_method_29_code, 3, some .boolean, 2, x_p69, xc_69, [], 0, 0, 1, 2)
-- 70: DeskMachine$Processor.pop()I
def x_p70 : List (Nat × xE) := [(9, 0, 2, 0, 0, false), (23, 0, 2, 2, 0, true), (69, 1, 52, 1, 1, false), (74, 4, 65535, 0, 0, false)]
def xc_70 : List (Nat × xO) := [(0, 1, .aload_n 0, 0, 0, []), (1, 3, .getfield 9, 0, 0, []), (4, 1, .aload_n 0, 0, 0, []), (5, 3, .getfield 23, 0, 0, []), (8, 3, .invokevirtual 69, 0, 0, []), (11, 1, .istore_n 1, 0, 1, []), (12, 1, .aload_n 0, 0, 0, []), (13, 1, .aload_n 0, 0, 0, []), (14, 3, .getfield 23, 0, 0, []), (17, 1, .iconst 2, 2, 0, []), (18, 1, .iadd, 0, 0, []), (19, 2, .ldc 74, 0, 0, []), (21, 1, .iand, 0, 0, []), (22, 3, .putfield 23, 0, 0, []), (25, 1, .iload_n 1, 0, 1, []), (26, 1, .ireturn, 0, 0, [])]
def x_i70 : xI := (⟨"DeskMachine$Processor", "pop", "()I"⟩, prog_7_method_6_code, 2, some .int, 1, x_p70, xc_70, [], 1, 21, 0, 2)
-- 71: DeskMachine$Processor.popOrReturn(I)V
def x_p71 : List (Nat × xE) := [(15, 0, 2, 1, 0, false), (19, 1, 42, 1, 2, true), (23, 0, 2, 2, 0, true), (30, 0, 2, 3, 0, true), (78, 1, 50, 1, 2, false), (86, 1, 49, 2, 2, true), (135, 1, 70, 0, 2, false)]
def xc_71 : List (Nat × xO) := [(0, 1, .iload_n 1, 0, 1, []), (1, 43, .tableswitch 102 1 7 #[43, 102, 43, 102, 54, 66, 90], 0, 103, [(1, 44), (2, 103), (3, 44), (4, 103), (5, 55), (6, 67), (7, 91)]), (44, 1, .aload_n 0, 0, 0, []), (45, 1, .aload_n 0, 0, 0, []), (46, 3, .invokevirtual 135, 0, 0, []), (49, 3, .putfield 30, 0, 0, []), (52, 3, .goto 62, 0, 114, []), (55, 1, .aload_n 0, 0, 0, []), (56, 1, .aload_n 0, 0, 0, []), (57, 1, .iconst 2, 2, 0, []), (58, 3, .invokevirtual 78, 0, 0, []), (61, 3, .putfield 30, 0, 0, []), (64, 3, .goto 50, 0, 114, []), (67, 1, .aload_n 0, 0, 0, []), (68, 3, .invokevirtual 135, 0, 0, []), (71, 1, .istore_n 2, 0, 2, []), (72, 1, .aload_n 0, 0, 0, []), (73, 3, .getfield 15, 0, 0, []), (76, 2, .bipush 7, 7, 0, []), (78, 1, .iload_n 2, 0, 2, []), (79, 2, .bipush 8, 8, 0, []), (81, 1, .ishr, 0, 0, []), (82, 1, .iastore, 0, 0, []), (83, 1, .aload_n 0, 0, 0, []), (84, 1, .iload_n 2, 0, 2, []), (85, 3, .invokevirtual 19, 0, 0, []), (88, 3, .goto 26, 0, 114, []), (91, 1, .aload_n 0, 0, 0, []), (92, 1, .aload_n 0, 0, 0, []), (93, 1, .iconst 2, 2, 0, []), (94, 3, .invokevirtual 78, 0, 0, []), (97, 3, .putfield 23, 0, 0, []), (100, 3, .goto 14, 0, 114, []), (103, 1, .aload_n 0, 0, 0, []), (104, 1, .iload_n 1, 0, 1, []), (105, 1, .iconst 1, 1, 0, []), (106, 1, .ishr, 0, 0, []), (107, 1, .aload_n 0, 0, 0, []), (108, 3, .invokevirtual 135, 0, 0, []), (111, 3, .invokevirtual 86, 0, 0, []), (114, 1, .return_, 0, 0, [])]
def x_i71 : xI := (⟨"DeskMachine$Processor", "popOrReturn", "(I)V"⟩, prog_7_method_32_code, 3, none, 0, x_p71, xc_71, [], 2, 42, 1, 2)
-- 72: DeskMachine$Processor.goTo(IZ)V
def x_p72 : List (Nat × xE) := [(30, 0, 2, 3, 0, true)]
def xc_72 : List (Nat × xO) := [(0, 1, .iload_n 2, 0, 2, []), (1, 3, .ifCond .eq 8, 0, 9, []), (4, 1, .aload_n 0, 0, 0, []), (5, 1, .iload_n 1, 0, 1, []), (6, 3, .putfield 30, 0, 0, []), (9, 1, .return_, 0, 0, [])]
def x_i72 : xI := (⟨"DeskMachine$Processor", "goTo", "(IZ)V"⟩, prog_7_method_30_code, 3, none, 0, x_p72, xc_72, [], 0, 0, 2, 2)
-- 73: DeskMachine$Processor.goOrExchange(I)V
def x_p73 : List (Nat × xE) := [(9, 0, 2, 0, 0, false), (23, 0, 2, 2, 0, true), (33, 1, 47, 0, 2, false), (69, 1, 52, 1, 1, false), (75, 1, 43, 2, 1, true), (78, 1, 50, 1, 2, false), (83, 1, 48, 0, 2, false), (86, 1, 49, 2, 2, true), (141, 1, 72, 2, 2, true)]
def xc_73 : List (Nat × xO) := [(0, 1, .iload_n 1, 0, 1, []), (1, 39, .tableswitch 121 0 5 #[39, 39, 51, 51, 59, 96], 0, 122, [(0, 40), (1, 40), (2, 52), (3, 52), (4, 60), (5, 97)]), (40, 1, .aload_n 0, 0, 0, []), (41, 1, .aload_n 0, 0, 0, []), (42, 3, .invokevirtual 83, 0, 0, []), (45, 1, .iconst 1, 1, 0, []), (46, 3, .invokevirtual 141, 0, 0, []), (49, 3, .goto 73, 0, 122, []), (52, 1, .aload_n 0, 0, 0, []), (53, 3, .invokevirtual 33, 0, 0, []), (56, 1, .pop, 0, 0, []), (57, 3, .goto 65, 0, 122, []), (60, 1, .aload_n 0, 0, 0, []), (61, 3, .getfield 9, 0, 0, []), (64, 1, .aload_n 0, 0, 0, []), (65, 3, .getfield 23, 0, 0, []), (68, 3, .invokevirtual 69, 0, 0, []), (71, 1, .istore_n 2, 0, 2, []), (72, 1, .aload_n 0, 0, 0, []), (73, 3, .getfield 9, 0, 0, []), (76, 1, .aload_n 0, 0, 0, []), (77, 3, .getfield 23, 0, 0, []), (80, 1, .aload_n 0, 0, 0, []), (81, 1, .iconst 2, 2, 0, []), (82, 3, .invokevirtual 78, 0, 0, []), (85, 3, .invokevirtual 75, 0, 0, []), (88, 1, .aload_n 0, 0, 0, []), (89, 1, .iconst 2, 2, 0, []), (90, 1, .iload_n 2, 0, 2, []), (91, 3, .invokevirtual 86, 0, 0, []), (94, 3, .goto 28, 0, 122, []), (97, 1, .aload_n 0, 0, 0, []), (98, 1, .iconst 1, 1, 0, []), (99, 3, .invokevirtual 78, 0, 0, []), (102, 1, .istore_n 3, 0, 3, []), (103, 1, .aload_n 0, 0, 0, []), (104, 1, .iconst 1, 1, 0, []), (105, 1, .aload_n 0, 0, 0, []), (106, 1, .iconst 2, 2, 0, []), (107, 3, .invokevirtual 78, 0, 0, []), (110, 3, .invokevirtual 86, 0, 0, []), (113, 1, .aload_n 0, 0, 0, []), (114, 1, .iconst 2, 2, 0, []), (115, 1, .iload_n 3, 0, 3, []), (116, 3, .invokevirtual 86, 0, 0, []), (119, 3, .goto 3, 0, 122, []), (122, 1, .return_, 0, 0, [])]
def x_i73 : xI := (⟨"DeskMachine$Processor", "goOrExchange", "(I)V"⟩, prog_7_method_33_code, 4, none, 0, x_p73, xc_73, [], 3, 63, 1, 2)
-- 74: DeskMachine$Processor.callTo(IZ)V
def x_p74 : List (Nat × xE) := [(27, 1, 44, 1, 2, true), (30, 0, 2, 3, 0, true)]
def xc_74 : List (Nat × xO) := [(0, 1, .iload_n 2, 0, 2, []), (1, 3, .ifCond .eq 16, 0, 17, []), (4, 1, .aload_n 0, 0, 0, []), (5, 1, .aload_n 0, 0, 0, []), (6, 3, .getfield 30, 0, 0, []), (9, 3, .invokevirtual 27, 0, 0, []), (12, 1, .aload_n 0, 0, 0, []), (13, 1, .iload_n 1, 0, 1, []), (14, 3, .putfield 30, 0, 0, []), (17, 1, .return_, 0, 0, [])]
def x_i74 : xI := (⟨"DeskMachine$Processor", "callTo", "(IZ)V"⟩, prog_7_method_31_code, 3, none, 0, x_p74, xc_74, [], 2, 43, 2, 2)
-- 75: DeskMachine$Processor.flags()I
def x_p75 : List (Nat × xE) := [(54, 0, 2, 4, 0, true), (57, 0, 2, 5, 0, true), (60, 0, 2, 6, 0, true), (63, 0, 2, 7, 0, true), (66, 0, 2, 8, 0, true)]
def xc_75 : List (Nat × xO) := [(0, 1, .aload_n 0, 0, 0, []), (1, 3, .getfield 54, 0, 0, []), (4, 2, .bipush 7, 7, 0, []), (6, 1, .ishl, 0, 0, []), (7, 1, .aload_n 0, 0, 0, []), (8, 3, .getfield 57, 0, 0, []), (11, 2, .bipush 6, 6, 0, []), (13, 1, .ishl, 0, 0, []), (14, 1, .ior, 0, 0, []), (15, 1, .aload_n 0, 0, 0, []), (16, 3, .getfield 60, 0, 0, []), (19, 1, .iconst 4, 4, 0, []), (20, 1, .ishl, 0, 0, []), (21, 1, .ior, 0, 0, []), (22, 1, .aload_n 0, 0, 0, []), (23, 3, .getfield 63, 0, 0, []), (26, 1, .iconst 2, 2, 0, []), (27, 1, .ishl, 0, 0, []), (28, 1, .ior, 0, 0, []), (29, 1, .iconst 2, 2, 0, []), (30, 1, .ior, 0, 0, []), (31, 1, .aload_n 0, 0, 0, []), (32, 3, .getfield 66, 0, 0, []), (35, 1, .ior, 0, 0, []), (36, 1, .ireturn, 0, 0, [])]
def x_i75 : xI := (⟨"DeskMachine$Processor", "flags", "()I"⟩, prog_7_method_4_code, 1, some .int, 1, x_p75, xc_75, [], 0, 0, 0, 2)
-- 76: DeskMachine$Processor.pushOrCall(I)V
def x_p76 : List (Nat × xE) := [(15, 0, 2, 1, 0, false), (27, 1, 44, 1, 2, true), (78, 1, 50, 1, 2, false), (83, 1, 48, 0, 2, false), (148, 1, 74, 2, 2, true), (154, 1, 75, 0, 2, false)]
def xc_76 : List (Nat × xO) := [(0, 1, .iload_n 1, 0, 1, []), (1, 1, .iconst 1, 1, 0, []), (2, 1, .iand, 0, 0, []), (3, 1, .iconst 1, 1, 0, []), (4, 3, .if_icmp .ne 15, 0, 19, []), (7, 1, .aload_n 0, 0, 0, []), (8, 1, .aload_n 0, 0, 0, []), (9, 3, .invokevirtual 83, 0, 0, []), (12, 1, .iconst 1, 1, 0, []), (13, 3, .invokevirtual 148, 0, 0, []), (16, 3, .goto 42, 0, 58, []), (19, 1, .iload_n 1, 0, 1, []), (20, 2, .bipush 6, 6, 0, []), (22, 3, .if_icmp .ne 25, 0, 47, []), (25, 1, .aload_n 0, 0, 0, []), (26, 1, .aload_n 0, 0, 0, []), (27, 3, .getfield 15, 0, 0, []), (30, 2, .bipush 7, 7, 0, []), (32, 1, .iaload, 0, 0, []), (33, 2, .bipush 8, 8, 0, []), (35, 1, .ishl, 0, 0, []), (36, 1, .aload_n 0, 0, 0, []), (37, 3, .invokevirtual 154, 0, 0, []), (40, 1, .ior, 0, 0, []), (41, 3, .invokevirtual 27, 0, 0, []), (44, 3, .goto 14, 0, 58, []), (47, 1, .aload_n 0, 0, 0, []), (48, 1, .aload_n 0, 0, 0, []), (49, 1, .iload_n 1, 0, 1, []), (50, 1, .iconst 1, 1, 0, []), (51, 1, .ishr, 0, 0, []), (52, 3, .invokevirtual 78, 0, 0, []), (55, 3, .invokevirtual 27, 0, 0, []), (58, 1, .return_, 0, 0, [])]
def x_i76 : xI := (⟨"DeskMachine$Processor", "pushOrCall", "(I)V"⟩, prog_7_method_34_code, 2, none, 0, x_p76, xc_76, [], 3, 65, 1, 2)
-- 77: DeskMachine$Processor.branchOrStack(II)V
def x_p77 : List (Nat × xE) := [(30, 0, 2, 3, 0, true), (83, 1, 48, 0, 2, false), (131, 1, 69, 1, 2, false), (135, 1, 70, 0, 2, false), (138, 1, 71, 1, 2, true), (141, 1, 72, 2, 2, true), (145, 1, 73, 1, 2, true), (148, 1, 74, 2, 2, true), (151, 1, 76, 1, 2, true)]
def xc_77 : List (Nat × xO) := [(0, 1, .iload_n 2, 0, 2, []), (1, 39, .tableswitch 114 0 5 #[39, 58, 66, 82, 90, 106], 0, 115, [(0, 40), (1, 59), (2, 67), (3, 83), (4, 91), (5, 107)]), (40, 1, .aload_n 0, 0, 0, []), (41, 1, .iload_n 1, 0, 1, []), (42, 3, .invokevirtual 131, 0, 0, []), (45, 3, .ifCond .eq 79, 0, 124, []), (48, 1, .aload_n 0, 0, 0, []), (49, 1, .aload_n 0, 0, 0, []), (50, 3, .invokevirtual 135, 0, 0, []), (53, 3, .putfield 30, 0, 0, []), (56, 3, .goto 68, 0, 124, []), (59, 1, .aload_n 0, 0, 0, []), (60, 1, .iload_n 1, 0, 1, []), (61, 3, .invokevirtual 138, 0, 0, []), (64, 3, .goto 60, 0, 124, []), (67, 1, .aload_n 0, 0, 0, []), (68, 1, .aload_n 0, 0, 0, []), (69, 3, .invokevirtual 83, 0, 0, []), (72, 1, .aload_n 0, 0, 0, []), (73, 1, .iload_n 1, 0, 1, []), (74, 3, .invokevirtual 131, 0, 0, []), (77, 3, .invokevirtual 141, 0, 0, []), (80, 3, .goto 44, 0, 124, []), (83, 1, .aload_n 0, 0, 0, []), (84, 1, .iload_n 1, 0, 1, []), (85, 3, .invokevirtual 145, 0, 0, []), (88, 3, .goto 36, 0, 124, []), (91, 1, .aload_n 0, 0, 0, []), (92, 1, .aload_n 0, 0, 0, []), (93, 3, .invokevirtual 83, 0, 0, []), (96, 1, .aload_n 0, 0, 0, []), (97, 1, .iload_n 1, 0, 1, []), (98, 3, .invokevirtual 131, 0, 0, []), (101, 3, .invokevirtual 148, 0, 0, []), (104, 3, .goto 20, 0, 124, []), (107, 1, .aload_n 0, 0, 0, []), (108, 1, .iload_n 1, 0, 1, []), (109, 3, .invokevirtual 151, 0, 0, []), (112, 3, .goto 12, 0, 124, []), (115, 1, .aload_n 0, 0, 0, []), (116, 2, .bipush 8, 8, 0, []), (118, 1, .iload_n 1, 0, 1, []), (119, 1, .imul, 0, 0, []), (120, 1, .iconst 1, 1, 0, []), (121, 3, .invokevirtual 148, 0, 0, []), (124, 1, .return_, 0, 0, [])]
def x_i77 : xI := (⟨"DeskMachine$Processor", "branchOrStack", "(II)V"⟩, prog_7_method_28_code, 3, none, 0, x_p77, xc_77, [], 4, 86, 2, 2)
-- 78: DeskMachine$Processor.step()Z
def x_p78 : List (Nat × xE) := [(33, 1, 47, 0, 2, false), (37, 1, 64, 2, 2, true), (41, 1, 54, 1, 2, false), (45, 1, 55, 2, 2, true), (48, 1, 68, 2, 2, true), (51, 1, 77, 2, 2, true)]
def xc_78 : List (Nat × xO) := [(0, 1, .aload_n 0, 0, 0, []), (1, 3, .invokevirtual 33, 0, 0, []), (4, 1, .istore_n 1, 0, 1, []), (5, 1, .iload_n 1, 0, 1, []), (6, 2, .bipush 118, 118, 0, []), (8, 3, .if_icmp .ne 5, 0, 13, []), (11, 1, .iconst 0, 0, 0, []), (12, 1, .ireturn, 0, 0, []), (13, 1, .iload_n 1, 0, 1, []), (14, 1, .iconst 3, 3, 0, []), (15, 1, .ishr, 0, 0, []), (16, 2, .bipush 7, 7, 0, []), (18, 1, .iand, 0, 0, []), (19, 1, .istore_n 2, 0, 2, []), (20, 1, .iload_n 1, 0, 1, []), (21, 2, .bipush 7, 7, 0, []), (23, 1, .iand, 0, 0, []), (24, 1, .istore_n 3, 0, 3, []), (25, 1, .iload_n 1, 0, 1, []), (26, 2, .bipush 6, 6, 0, []), (28, 1, .ishr, 0, 0, []), (29, 27, .tableswitch 62 0 2 #[27, 36, 49], 0, 91, [(0, 56), (1, 65), (2, 78)]), (56, 1, .aload_n 0, 0, 0, []), (57, 1, .iload_n 2, 0, 2, []), (58, 1, .iload_n 3, 0, 3, []), (59, 3, .invokevirtual 37, 0, 0, []), (62, 3, .goto 53, 0, 115, []), (65, 1, .aload_n 0, 0, 0, []), (66, 1, .iload_n 2, 0, 2, []), (67, 1, .aload_n 0, 0, 0, []), (68, 1, .iload_n 3, 0, 3, []), (69, 3, .invokevirtual 41, 0, 0, []), (72, 3, .invokevirtual 45, 0, 0, []), (75, 3, .goto 40, 0, 115, []), (78, 1, .aload_n 0, 0, 0, []), (79, 1, .iload_n 2, 0, 2, []), (80, 1, .aload_n 0, 0, 0, []), (81, 1, .iload_n 3, 0, 3, []), (82, 3, .invokevirtual 41, 0, 0, []), (85, 3, .invokevirtual 48, 0, 0, []), (88, 3, .goto 27, 0, 115, []), (91, 1, .iload_n 3, 0, 3, []), (92, 2, .bipush 6, 6, 0, []), (94, 3, .if_icmp .ne 15, 0, 109, []), (97, 1, .aload_n 0, 0, 0, []), (98, 1, .iload_n 2, 0, 2, []), (99, 1, .aload_n 0, 0, 0, []), (100, 3, .invokevirtual 33, 0, 0, []), (103, 3, .invokevirtual 48, 0, 0, []), (106, 3, .goto 9, 0, 115, []), (109, 1, .aload_n 0, 0, 0, []), (110, 1, .iload_n 2, 0, 2, []), (111, 1, .iload_n 3, 0, 3, []), (112, 3, .invokevirtual 51, 0, 0, []), (115, 1, .iconst 1, 1, 0, []), (116, 1, .ireturn, 0, 0, [])]
def x_i78 : xI := (⟨"DeskMachine$Processor", "step", "()Z"⟩, prog_7_method_3_code, 4, some .boolean, 2, x_p78, xc_78, [], 5, 110, 0, 2)
-- 79: DeskMachine$FileCalls.takeName(I)V
def x_p79 : List (Nat × xE) := [(9, 0, 6, 0, 0, false), (19, 0, 6, 2, 0, false), (62, 1, 33, 1, 1, false)]
def xc_79 : List (Nat × xO) := [(0, 1, .iconst 0, 0, 0, []), (1, 1, .istore_n 2, 0, 2, []), (2, 1, .iload_n 2, 0, 2, []), (3, 1, .iconst 4, 4, 0, []), (4, 3, .if_icmp .ge 25, 0, 29, []), (7, 1, .aload_n 0, 0, 0, []), (8, 3, .getfield 19, 0, 0, []), (11, 1, .iload_n 2, 0, 2, []), (12, 1, .aload_n 0, 0, 0, []), (13, 3, .getfield 9, 0, 0, []), (16, 1, .iload_n 1, 0, 1, []), (17, 1, .iload_n 2, 0, 2, []), (18, 1, .iadd, 0, 0, []), (19, 3, .invokevirtual 62, 0, 0, []), (22, 1, .iastore, 0, 0, []), (23, 3, .iinc 2 1, 1, 2, []), (26, 3, .goto (-24), 0, 2, []), (29, 1, .return_, 0, 0, [])]
def x_i79 : xI := (⟨"DeskMachine$FileCalls", "takeName", "(I)V"⟩, prog_4_method_3_code, 3, none, 0, x_p79, xc_79, [(2, [0, 1, 2])], 1, 21, 1, 6)
-- 80: DeskMachine$Disk.findFitting([II)I
def x_p80 : List (Nat × xE) := [(23, 1, 17, 3, 3, false)]
def xc_80 : List (Nat × xO) := [(0, 1, .iload_n 2, 0, 2, []), (1, 1, .istore_n 3, 0, 3, []), (2, 1, .iload_n 3, 0, 3, []), (3, 2, .bipush 8, 8, 0, []), (5, 3, .if_icmp .ge 21, 0, 26, []), (8, 1, .aload_n 0, 0, 0, []), (9, 1, .iload_n 3, 0, 3, []), (10, 1, .aload_n 1, 0, 1, []), (11, 1, .iconst 1, 1, 0, []), (12, 3, .invokevirtual 23, 0, 0, []), (15, 3, .ifCond .eq 5, 0, 20, []), (18, 1, .iload_n 3, 0, 3, []), (19, 1, .ireturn, 0, 0, []), (20, 3, .iinc 3 1, 1, 3, []), (23, 3, .goto (-21), 0, 2, []), (26, 1, .iconst (-1), (-1), 0, []), (27, 1, .ireturn, 0, 0, [])]
def x_i80 : xI := (⟨"DeskMachine$Disk", "findFitting", "([II)I"⟩, prog_3_method_9_code, 4, some .int, 1, x_p80, xc_80, [(2, [0, 1, 3])], 1, 25, 2, 3)
-- 81: DeskMachine$FileCalls.open(I)I
def x_p81 : List (Nat × xE) := [(9, 0, 6, 0, 0, false), (15, 0, 6, 1, 0, false), (19, 0, 6, 2, 0, false), (67, 1, 80, 2, 3, false), (71, 1, 13, 2, 3, false), (74, 1, 37, 2, 1, true)]
def xc_81 : List (Nat × xO) := [(0, 1, .aload_n 0, 0, 0, []), (1, 3, .getfield 15, 0, 0, []), (4, 1, .aload_n 0, 0, 0, []), (5, 3, .getfield 19, 0, 0, []), (8, 1, .iconst 0, 0, 0, []), (9, 3, .invokevirtual 67, 0, 0, []), (12, 1, .istore_n 2, 0, 2, []), (13, 1, .iload_n 2, 0, 2, []), (14, 1, .iconst (-1), (-1), 0, []), (15, 3, .if_icmp .ne 7, 0, 22, []), (18, 3, .sipush 255, 255, 0, []), (21, 1, .ireturn, 0, 0, []), (22, 1, .iconst 1, 1, 0, []), (23, 1, .istore_n 3, 0, 3, []), (24, 1, .iload_n 3, 0, 3, []), (25, 2, .bipush 16, 16, 0, []), (27, 3, .if_icmp .ge 28, 0, 55, []), (30, 1, .aload_n 0, 0, 0, []), (31, 3, .getfield 9, 0, 0, []), (34, 1, .iload_n 1, 0, 1, []), (35, 1, .iload_n 3, 0, 3, []), (36, 1, .iadd, 0, 0, []), (37, 1, .aload_n 0, 0, 0, []), (38, 3, .getfield 15, 0, 0, []), (41, 1, .iload_n 2, 0, 2, []), (42, 1, .iload_n 3, 0, 3, []), (43, 3, .invokevirtual 71, 0, 0, []), (46, 3, .invokevirtual 74, 0, 0, []), (49, 3, .iinc 3 1, 1, 3, []), (52, 3, .goto (-28), 0, 24, []), (55, 1, .iload_n 2, 0, 2, []), (56, 1, .ireturn, 0, 0, [])]
def x_i81 : xI := (⟨"DeskMachine$FileCalls", "open", "(I)I"⟩, prog_4_method_4_code, 4, some .int, 1, x_p81, xc_81, [(24, [0, 1, 2, 3])], 2, 48, 1, 6)
-- 82: DeskMachine$FileCalls.close(I)I
def x_p82 : List (Nat × xE) := [(9, 0, 6, 0, 0, false), (15, 0, 6, 1, 0, false), (19, 0, 6, 2, 0, false), (62, 1, 33, 1, 1, false), (78, 1, 18, 1, 3, false), (82, 1, 24, 3, 3, true)]
def xc_82 : List (Nat × xO) := [(0, 1, .aload_n 0, 0, 0, []), (1, 3, .getfield 15, 0, 0, []), (4, 1, .aload_n 0, 0, 0, []), (5, 3, .getfield 19, 0, 0, []), (8, 3, .invokevirtual 78, 0, 0, []), (11, 1, .istore_n 2, 0, 2, []), (12, 1, .iload_n 2, 0, 2, []), (13, 1, .iconst (-1), (-1), 0, []), (14, 3, .if_icmp .ne 7, 0, 21, []), (17, 3, .sipush 255, 255, 0, []), (20, 1, .ireturn, 0, 0, []), (21, 1, .iconst 5, 5, 0, []), (22, 1, .istore_n 3, 0, 3, []), (23, 1, .iload_n 3, 0, 3, []), (24, 2, .bipush 16, 16, 0, []), (26, 3, .if_icmp .ge 28, 0, 54, []), (29, 1, .aload_n 0, 0, 0, []), (30, 3, .getfield 15, 0, 0, []), (33, 1, .iload_n 2, 0, 2, []), (34, 1, .iload_n 3, 0, 3, []), (35, 1, .aload_n 0, 0, 0, []), (36, 3, .getfield 9, 0, 0, []), (39, 1, .iload_n 1, 0, 1, []), (40, 1, .iload_n 3, 0, 3, []), (41, 1, .iadd, 0, 0, []), (42, 3, .invokevirtual 62, 0, 0, []), (45, 3, .invokevirtual 82, 0, 0, []), (48, 3, .iinc 3 1, 1, 3, []), (51, 3, .goto (-28), 0, 23, []), (54, 1, .iload_n 2, 0, 2, []), (55, 1, .ireturn, 0, 0, [])]
def x_i82 : xI := (⟨"DeskMachine$FileCalls", "close", "(I)I"⟩, prog_4_method_5_code, 4, some .int, 1, x_p82, xc_82, [(23, [0, 1, 2, 3])], 2, 47, 1, 6)
-- 83: DeskMachine$FileCalls.search(I)I
def x_p83 : List (Nat × xE) := [(9, 0, 6, 0, 0, false), (15, 0, 6, 1, 0, false), (19, 0, 6, 2, 0, false), (23, 0, 6, 3, 0, true), (27, 0, 6, 4, 0, true), (67, 1, 80, 2, 3, false), (85, 1, 38, 3, 3, true)]
def xc_83 : List (Nat × xO) := [(0, 1, .aload_n 0, 0, 0, []), (1, 3, .getfield 15, 0, 0, []), (4, 1, .aload_n 0, 0, 0, []), (5, 3, .getfield 19, 0, 0, []), (8, 1, .iload_n 1, 0, 1, []), (9, 3, .invokevirtual 67, 0, 0, []), (12, 1, .istore_n 2, 0, 2, []), (13, 1, .iload_n 2, 0, 2, []), (14, 1, .iconst (-1), (-1), 0, []), (15, 3, .if_icmp .ne 13, 0, 28, []), (18, 1, .aload_n 0, 0, 0, []), (19, 2, .bipush 8, 8, 0, []), (21, 3, .putfield 27, 0, 0, []), (24, 3, .sipush 255, 255, 0, []), (27, 1, .ireturn, 0, 0, []), (28, 1, .aload_n 0, 0, 0, []), (29, 1, .iload_n 2, 0, 2, []), (30, 1, .iconst 1, 1, 0, []), (31, 1, .iadd, 0, 0, []), (32, 3, .putfield 27, 0, 0, []), (35, 1, .aload_n 0, 0, 0, []), (36, 3, .getfield 15, 0, 0, []), (39, 1, .iload_n 2, 0, 2, []), (40, 1, .aload_n 0, 0, 0, []), (41, 3, .getfield 9, 0, 0, []), (44, 1, .aload_n 0, 0, 0, []), (45, 3, .getfield 23, 0, 0, []), (48, 3, .invokevirtual 85, 0, 0, []), (51, 1, .iload_n 2, 0, 2, []), (52, 1, .ireturn, 0, 0, [])]
def x_i83 : xI := (⟨"DeskMachine$FileCalls", "search", "(I)I"⟩, prog_4_method_6_code, 3, some .int, 1, x_p83, xc_83, [], 2, 48, 1, 6)
-- 84: DeskMachine$FileCalls.hasRecord(II)Z
def x_p84 : List (Nat × xE) := [(9, 0, 6, 0, 0, false), (62, 1, 33, 1, 1, false), (92, 2, 21, 1, 0, false)]
def xc_84 : List (Nat × xO) := [(0, 1, .iload_n 2, 0, 2, []), (1, 1, .aload_n 0, 0, 0, []), (2, 3, .getfield 9, 0, 0, []), (5, 1, .iload_n 1, 0, 1, []), (6, 1, .iconst 5, 5, 0, []), (7, 1, .iadd, 0, 0, []), (8, 3, .invokevirtual 62, 0, 0, []), (11, 3, .if_icmp .ge 26, 0, 37, []), (14, 1, .aload_n 0, 0, 0, []), (15, 3, .getfield 9, 0, 0, []), (18, 1, .iload_n 1, 0, 1, []), (19, 2, .bipush 6, 6, 0, []), (21, 1, .iadd, 0, 0, []), (22, 1, .iload_n 2, 0, 2, []), (23, 1, .iadd, 0, 0, []), (24, 3, .invokevirtual 62, 0, 0, []), (27, 3, .invokestatic 92, 0, 0, []), (30, 3, .ifCond .eq 7, 0, 37, []), (33, 1, .iconst 1, 1, 0, []), (34, 3, .goto 4, 0, 38, []), (37, 1, .iconst 0, 0, 0, []), (38, 1, .ireturn, 0, 0, [])]
def x_i84 : xI := (⟨"DeskMachine$FileCalls", "hasRecord", "(II)Z"⟩, prog_4_method_8_code, 3, some .boolean, 2, x_p84, xc_84, [], 1, 21, 2, 6)
-- 85: DeskMachine$FileCalls.read(I)I
def x_p85 : List (Nat × xE) := [(9, 0, 6, 0, 0, false), (15, 0, 6, 1, 0, false), (23, 0, 6, 3, 0, true), (62, 1, 33, 1, 1, false), (74, 1, 37, 2, 1, true), (85, 1, 38, 3, 3, true), (88, 1, 84, 2, 6, false)]
def xc_85 : List (Nat × xO) := [(0, 1, .aload_n 0, 0, 0, []), (1, 3, .getfield 9, 0, 0, []), (4, 1, .iload_n 1, 0, 1, []), (5, 2, .bipush 16, 16, 0, []), (7, 1, .iadd, 0, 0, []), (8, 3, .invokevirtual 62, 0, 0, []), (11, 1, .istore_n 2, 0, 2, []), (12, 1, .iload_n 2, 0, 2, []), (13, 2, .bipush 10, 10, 0, []), (15, 3, .if_icmp .ge 12, 0, 27, []), (18, 1, .aload_n 0, 0, 0, []), (19, 1, .iload_n 1, 0, 1, []), (20, 1, .iload_n 2, 0, 2, []), (21, 3, .invokevirtual 88, 0, 0, []), (24, 3, .ifCond .ne 5, 0, 29, []), (27, 1, .iconst 1, 1, 0, []), (28, 1, .ireturn, 0, 0, []), (29, 1, .aload_n 0, 0, 0, []), (30, 3, .getfield 15, 0, 0, []), (33, 1, .aload_n 0, 0, 0, []), (34, 3, .getfield 9, 0, 0, []), (37, 1, .iload_n 1, 0, 1, []), (38, 2, .bipush 6, 6, 0, []), (40, 1, .iadd, 0, 0, []), (41, 1, .iload_n 2, 0, 2, []), (42, 1, .iadd, 0, 0, []), (43, 3, .invokevirtual 62, 0, 0, []), (46, 1, .aload_n 0, 0, 0, []), (47, 3, .getfield 9, 0, 0, []), (50, 1, .aload_n 0, 0, 0, []), (51, 3, .getfield 23, 0, 0, []), (54, 3, .invokevirtual 85, 0, 0, []), (57, 1, .aload_n 0, 0, 0, []), (58, 3, .getfield 9, 0, 0, []), (61, 1, .iload_n 1, 0, 1, []), (62, 2, .bipush 16, 16, 0, []), (64, 1, .iadd, 0, 0, []), (65, 1, .iload_n 2, 0, 2, []), (66, 1, .iconst 1, 1, 0, []), (67, 1, .iadd, 0, 0, []), (68, 3, .invokevirtual 74, 0, 0, []), (71, 1, .iconst 0, 0, 0, []), (72, 1, .ireturn, 0, 0, [])]
def x_i85 : xI := (⟨"DeskMachine$FileCalls", "read", "(I)I"⟩, prog_4_method_7_code, 3, some .int, 1, x_p85, xc_85, [], 2, 46, 1, 6)
-- 86: DeskMachine$FileCalls.unusedBlock(I)I
def x_p86 : List (Nat × xE) := [(9, 0, 6, 0, 0, false), (15, 0, 6, 1, 0, false), (62, 1, 33, 1, 1, false), (101, 1, 31, 0, 3, true), (104, 1, 30, 1, 3, true), (107, 1, 32, 0, 3, false)]
def xc_86 : List (Nat × xO) := [(0, 1, .aload_n 0, 0, 0, []), (1, 3, .getfield 15, 0, 0, []), (4, 3, .invokevirtual 101, 0, 0, []), (7, 1, .aload_n 0, 0, 0, []), (8, 3, .getfield 9, 0, 0, []), (11, 1, .iload_n 1, 0, 1, []), (12, 1, .iconst 5, 5, 0, []), (13, 1, .iadd, 0, 0, []), (14, 3, .invokevirtual 62, 0, 0, []), (17, 1, .istore_n 2, 0, 2, []), (18, 1, .iconst 0, 0, 0, []), (19, 1, .istore_n 3, 0, 3, []), (20, 1, .iload_n 3, 0, 3, []), (21, 1, .iload_n 2, 0, 2, []), (22, 3, .if_icmp .ge 35, 0, 57, []), (25, 1, .iload_n 3, 0, 3, []), (26, 2, .bipush 10, 10, 0, []), (28, 3, .if_icmp .ge 29, 0, 57, []), (31, 1, .aload_n 0, 0, 0, []), (32, 3, .getfield 15, 0, 0, []), (35, 1, .aload_n 0, 0, 0, []), (36, 3, .getfield 9, 0, 0, []), (39, 1, .iload_n 1, 0, 1, []), (40, 2, .bipush 6, 6, 0, []), (42, 1, .iadd, 0, 0, []), (43, 1, .iload_n 3, 0, 3, []), (44, 1, .iadd, 0, 0, []), (45, 3, .invokevirtual 62, 0, 0, []), (48, 3, .invokevirtual 104, 0, 0, []), (51, 3, .iinc 3 1, 1, 3, []), (54, 3, .goto (-34), 0, 20, []), (57, 1, .aload_n 0, 0, 0, []), (58, 3, .getfield 15, 0, 0, []), (61, 3, .invokevirtual 107, 0, 0, []), (64, 1, .ireturn, 0, 0, [])]
def x_i86 : xI := (⟨"DeskMachine$FileCalls", "unusedBlock", "(I)I"⟩, prog_4_method_10_code, 4, some .int, 1, x_p86, xc_86, [(20, [0, 1, 2, 3])], 2, 45, 1, 6)
-- 87: DeskMachine$FileCalls.write(I)I
def x_p87 : List (Nat × xE) := [(9, 0, 6, 0, 0, false), (15, 0, 6, 1, 0, false), (23, 0, 6, 3, 0, true), (62, 1, 33, 1, 1, false), (74, 1, 37, 2, 1, true), (88, 1, 84, 2, 6, false), (96, 1, 86, 1, 6, false), (99, 1, 34, 3, 3, true)]
def xc_87 : List (Nat × xO) := [(0, 1, .aload_n 0, 0, 0, []), (1, 3, .getfield 9, 0, 0, []), (4, 1, .iload_n 1, 0, 1, []), (5, 2, .bipush 16, 16, 0, []), (7, 1, .iadd, 0, 0, []), (8, 3, .invokevirtual 62, 0, 0, []), (11, 1, .istore_n 2, 0, 2, []), (12, 1, .iload_n 2, 0, 2, []), (13, 2, .bipush 10, 10, 0, []), (15, 3, .if_icmp .lt 5, 0, 20, []), (18, 1, .iconst 1, 1, 0, []), (19, 1, .ireturn, 0, 0, []), (20, 1, .aload_n 0, 0, 0, []), (21, 1, .iload_n 1, 0, 1, []), (22, 1, .iload_n 2, 0, 2, []), (23, 3, .invokevirtual 88, 0, 0, []), (26, 3, .ifCond .ne 30, 0, 56, []), (29, 1, .aload_n 0, 0, 0, []), (30, 1, .iload_n 1, 0, 1, []), (31, 3, .invokevirtual 96, 0, 0, []), (34, 1, .istore_n 3, 0, 3, []), (35, 1, .iload_n 3, 0, 3, []), (36, 1, .iconst (-1), (-1), 0, []), (37, 3, .if_icmp .ne 5, 0, 42, []), (40, 1, .iconst 2, 2, 0, []), (41, 1, .ireturn, 0, 0, []), (42, 1, .aload_n 0, 0, 0, []), (43, 3, .getfield 9, 0, 0, []), (46, 1, .iload_n 1, 0, 1, []), (47, 2, .bipush 6, 6, 0, []), (49, 1, .iadd, 0, 0, []), (50, 1, .iload_n 2, 0, 2, []), (51, 1, .iadd, 0, 0, []), (52, 1, .iload_n 3, 0, 3, []), (53, 3, .invokevirtual 74, 0, 0, []), (56, 1, .aload_n 0, 0, 0, []), (57, 3, .getfield 15, 0, 0, []), (60, 1, .aload_n 0, 0, 0, []), (61, 3, .getfield 9, 0, 0, []), (64, 1, .iload_n 1, 0, 1, []), (65, 2, .bipush 6, 6, 0, []), (67, 1, .iadd, 0, 0, []), (68, 1, .iload_n 2, 0, 2, []), (69, 1, .iadd, 0, 0, []), (70, 3, .invokevirtual 62, 0, 0, []), (73, 1, .aload_n 0, 0, 0, []), (74, 3, .getfield 9, 0, 0, []), (77, 1, .aload_n 0, 0, 0, []), (78, 3, .getfield 23, 0, 0, []), (81, 3, .invokevirtual 99, 0, 0, []), (84, 1, .aload_n 0, 0, 0, []), (85, 3, .getfield 9, 0, 0, []), (88, 1, .iload_n 1, 0, 1, []), (89, 1, .iconst 5, 5, 0, []), (90, 1, .iadd, 0, 0, []), (91, 3, .invokevirtual 62, 0, 0, []), (94, 1, .iload_n 2, 0, 2, []), (95, 1, .iconst 1, 1, 0, []), (96, 1, .iadd, 0, 0, []), (97, 3, .if_icmp .ge 16, 0, 113, []), (100, 1, .aload_n 0, 0, 0, []), (101, 3, .getfield 9, 0, 0, []), (104, 1, .iload_n 1, 0, 1, []), (105, 1, .iconst 5, 5, 0, []), (106, 1, .iadd, 0, 0, []), (107, 1, .iload_n 2, 0, 2, []), (108, 1, .iconst 1, 1, 0, []), (109, 1, .iadd, 0, 0, []), (110, 3, .invokevirtual 74, 0, 0, []), (113, 1, .aload_n 0, 0, 0, []), (114, 3, .getfield 9, 0, 0, []), (117, 1, .iload_n 1, 0, 1, []), (118, 2, .bipush 16, 16, 0, []), (120, 1, .iadd, 0, 0, []), (121, 1, .iload_n 2, 0, 2, []), (122, 1, .iconst 1, 1, 0, []), (123, 1, .iadd, 0, 0, []), (124, 3, .invokevirtual 74, 0, 0, []), (127, 1, .iconst 0, 0, 0, []), (128, 1, .ireturn, 0, 0, [])]
def x_i87 : xI := (⟨"DeskMachine$FileCalls", "write", "(I)I"⟩, prog_4_method_9_code, 4, some .int, 1, x_p87, xc_87, [(56, [0, 1, 2])], 3, 68, 1, 6)
-- 88: DeskMachine$FileCalls.make(I)I
def x_p88 : List (Nat × xE) := [(9, 0, 6, 0, 0, false), (15, 0, 6, 1, 0, false), (19, 0, 6, 2, 0, false), (74, 1, 37, 2, 1, true), (111, 1, 29, 1, 3, false)]
def xc_88 : List (Nat × xO) := [(0, 1, .aload_n 0, 0, 0, []), (1, 3, .getfield 15, 0, 0, []), (4, 1, .aload_n 0, 0, 0, []), (5, 3, .getfield 19, 0, 0, []), (8, 3, .invokevirtual 111, 0, 0, []), (11, 1, .istore_n 2, 0, 2, []), (12, 1, .iload_n 2, 0, 2, []), (13, 1, .iconst (-1), (-1), 0, []), (14, 3, .if_icmp .ne 7, 0, 21, []), (17, 3, .sipush 255, 255, 0, []), (20, 1, .ireturn, 0, 0, []), (21, 1, .iconst 5, 5, 0, []), (22, 1, .istore_n 3, 0, 3, []), (23, 1, .iload_n 3, 0, 3, []), (24, 2, .bipush 16, 16, 0, []), (26, 3, .if_icmp .ge 20, 0, 46, []), (29, 1, .aload_n 0, 0, 0, []), (30, 3, .getfield 9, 0, 0, []), (33, 1, .iload_n 1, 0, 1, []), (34, 1, .iload_n 3, 0, 3, []), (35, 1, .iadd, 0, 0, []), (36, 1, .iconst 0, 0, 0, []), (37, 3, .invokevirtual 74, 0, 0, []), (40, 3, .iinc 3 1, 1, 3, []), (43, 3, .goto (-20), 0, 23, []), (46, 1, .iload_n 2, 0, 2, []), (47, 1, .ireturn, 0, 0, [])]
def x_i88 : xI := (⟨"DeskMachine$FileCalls", "make", "(I)I"⟩, prog_4_method_11_code, 4, some .int, 1, x_p88, xc_88, [(23, [0, 1, 2, 3])], 3, 69, 1, 6)
-- 89: DeskMachine$FileCalls.rename(I)I
def x_p89 : List (Nat × xE) := [(15, 0, 6, 1, 0, false), (19, 0, 6, 2, 0, false), (30, 1, 79, 1, 6, true), (78, 1, 18, 1, 3, false), (113, 1, 27, 2, 3, true)]
def xc_89 : List (Nat × xO) := [(0, 1, .aload_n 0, 0, 0, []), (1, 3, .getfield 15, 0, 0, []), (4, 1, .aload_n 0, 0, 0, []), (5, 3, .getfield 19, 0, 0, []), (8, 3, .invokevirtual 78, 0, 0, []), (11, 1, .istore_n 2, 0, 2, []), (12, 1, .iload_n 2, 0, 2, []), (13, 1, .iconst (-1), (-1), 0, []), (14, 3, .if_icmp .ne 7, 0, 21, []), (17, 3, .sipush 255, 255, 0, []), (20, 1, .ireturn, 0, 0, []), (21, 1, .aload_n 0, 0, 0, []), (22, 1, .iload_n 1, 0, 1, []), (23, 2, .bipush 17, 17, 0, []), (25, 1, .iadd, 0, 0, []), (26, 3, .invokevirtual 30, 0, 0, []), (29, 1, .aload_n 0, 0, 0, []), (30, 3, .getfield 15, 0, 0, []), (33, 1, .iload_n 2, 0, 2, []), (34, 1, .aload_n 0, 0, 0, []), (35, 3, .getfield 19, 0, 0, []), (38, 3, .invokevirtual 113, 0, 0, []), (41, 1, .iconst 0, 0, 0, []), (42, 1, .ireturn, 0, 0, [])]
def x_i89 : xI := (⟨"DeskMachine$FileCalls", "rename", "(I)I"⟩, prog_4_method_12_code, 3, some .int, 1, x_p89, xc_89, [], 2, 47, 1, 6)
-- 90: DeskMachine$FileCalls.answer(II)I
def x_p90 : List (Nat × xE) := [(15, 0, 6, 1, 0, false), (19, 0, 6, 2, 0, false), (27, 0, 6, 4, 0, true), (30, 1, 79, 1, 6, true), (34, 1, 81, 1, 6, false), (38, 1, 82, 1, 6, false), (41, 1, 83, 1, 6, false), (44, 1, 26, 1, 3, false), (50, 1, 85, 1, 6, false), (53, 1, 87, 1, 6, false), (56, 1, 88, 1, 6, false), (59, 1, 89, 1, 6, false)]
def xc_90 : List (Nat × xO) := [(0, 1, .aload_n 0, 0, 0, []), (1, 1, .iload_n 2, 0, 2, []), (2, 1, .iconst 1, 1, 0, []), (3, 1, .iadd, 0, 0, []), (4, 3, .invokevirtual 30, 0, 0, []), (7, 1, .iload_n 1, 0, 1, []), (8, 52, .tableswitch 125 15 23 #[52, 58, 64, 70, 79, 101, 107, 113, 119], 0, 133, [(15, 60), (16, 66), (17, 72), (18, 78), (19, 87), (20, 109), (21, 115), (22, 121), (23, 127)]), (60, 1, .aload_n 0, 0, 0, []), (61, 1, .iload_n 2, 0, 2, []), (62, 3, .invokevirtual 34, 0, 0, []), (65, 1, .ireturn, 0, 0, []), (66, 1, .aload_n 0, 0, 0, []), (67, 1, .iload_n 2, 0, 2, []), (68, 3, .invokevirtual 38, 0, 0, []), (71, 1, .ireturn, 0, 0, []), (72, 1, .aload_n 0, 0, 0, []), (73, 1, .iconst 0, 0, 0, []), (74, 3, .invokevirtual 41, 0, 0, []), (77, 1, .ireturn, 0, 0, []), (78, 1, .aload_n 0, 0, 0, []), (79, 1, .aload_n 0, 0, 0, []), (80, 3, .getfield 27, 0, 0, []), (83, 3, .invokevirtual 41, 0, 0, []), (86, 1, .ireturn, 0, 0, []), (87, 1, .aload_n 0, 0, 0, []), (88, 3, .getfield 15, 0, 0, []), (91, 1, .aload_n 0, 0, 0, []), (92, 3, .getfield 19, 0, 0, []), (95, 3, .invokevirtual 44, 0, 0, []), (98, 3, .ifCond .eq 7, 0, 105, []), (101, 1, .iconst 0, 0, 0, []), (102, 3, .goto 6, 0, 108, []), (105, 3, .sipush 255, 255, 0, []), (108, 1, .ireturn, 0, 0, []), (109, 1, .aload_n 0, 0, 0, []), (110, 1, .iload_n 2, 0, 2, []), (111, 3, .invokevirtual 50, 0, 0, []), (114, 1, .ireturn, 0, 0, []), (115, 1, .aload_n 0, 0, 0, []), (116, 1, .iload_n 2, 0, 2, []), (117, 3, .invokevirtual 53, 0, 0, []), (120, 1, .ireturn, 0, 0, []), (121, 1, .aload_n 0, 0, 0, []), (122, 1, .iload_n 2, 0, 2, []), (123, 3, .invokevirtual 56, 0, 0, []), (126, 1, .ireturn, 0, 0, []), (127, 1, .aload_n 0, 0, 0, []), (128, 1, .iload_n 2, 0, 2, []), (129, 3, .invokevirtual 59, 0, 0, []), (132, 1, .ireturn, 0, 0, []), (133, 1, .iconst 0, 0, 0, []), (134, 1, .ireturn, 0, 0, [])]
def x_i90 : xI := (⟨"DeskMachine$FileCalls", "answer", "(II)I"⟩, prog_4_method_2_code, 3, some .int, 1, x_p90, xc_90, [], 4, 92, 2, 6)
-- 91: DeskMachine.showText(I)V
def x_p91 : List (Nat × xE) := [(10, 0, 0, 0, 0, false), (42, 0, 0, 4, 0, false), (106, 1, 33, 1, 1, false), (176, 1, 14, 1, 5, true)]
def xc_91 : List (Nat × xO) := [(0, 1, .iconst 0, 0, 0, []), (1, 1, .istore_n 2, 0, 2, []), (2, 1, .iload_n 2, 0, 2, []), (3, 2, .bipush 64, 64, 0, []), (5, 3, .if_icmp .ge 35, 0, 40, []), (8, 1, .aload_n 0, 0, 0, []), (9, 3, .getfield 10, 0, 0, []), (12, 1, .iload_n 1, 0, 1, []), (13, 1, .iload_n 2, 0, 2, []), (14, 1, .iadd, 0, 0, []), (15, 3, .invokevirtual 106, 0, 0, []), (18, 1, .istore_n 3, 0, 3, []), (19, 1, .iload_n 3, 0, 3, []), (20, 2, .bipush 36, 36, 0, []), (22, 3, .if_icmp .ne 4, 0, 26, []), (25, 1, .return_, 0, 0, []), (26, 1, .aload_n 0, 0, 0, []), (27, 3, .getfield 42, 0, 0, []), (30, 1, .iload_n 3, 0, 3, []), (31, 3, .invokevirtual 176, 0, 0, []), (34, 3, .iinc 2 1, 1, 2, []), (37, 3, .goto (-35), 0, 2, []), (40, 1, .return_, 0, 0, [])]
def x_i91 : xI := (⟨"DeskMachine", "showText", "(I)V"⟩, prog_1_method_18_code, 4, none, 0, x_p91, xc_91, [(2, [0, 1, 2])], 1, 21, 1, 0)
-- 92: DeskMachine.answerCall(II)I
def x_p92 : List (Nat × xE) := [(35, 0, 0, 3, 0, false), (42, 0, 0, 4, 0, false), (51, 0, 0, 5, 0, false), (132, 0, 6, 3, 0, true), (145, 1, 5, 0, 4, false), (148, 1, 6, 0, 4, false), (176, 1, 14, 1, 5, true), (179, 1, 91, 1, 0, true)]
def xc_92 : List (Nat × xO) := [(0, 1, .iload_n 1, 0, 1, []), (1, 51, .lookupswitch 108 #[(1, 51), (2, 59), (9, 73), (11, 80), (26, 98)], 0, 109, [(1, 52), (2, 60), (9, 74), (11, 81), (26, 99)]), (52, 1, .aload_n 0, 0, 0, []), (53, 3, .getfield 35, 0, 0, []), (56, 3, .invokevirtual 148, 0, 0, []), (59, 1, .ireturn, 0, 0, []), (60, 1, .aload_n 0, 0, 0, []), (61, 3, .getfield 42, 0, 0, []), (64, 1, .iload_n 2, 0, 2, []), (65, 3, .sipush 255, 255, 0, []), (68, 1, .iand, 0, 0, []), (69, 3, .invokevirtual 176, 0, 0, []), (72, 1, .iconst 0, 0, 0, []), (73, 1, .ireturn, 0, 0, []), (74, 1, .aload_n 0, 0, 0, []), (75, 1, .iload_n 2, 0, 2, []), (76, 3, .invokevirtual 179, 0, 0, []), (79, 1, .iconst 0, 0, 0, []), (80, 1, .ireturn, 0, 0, []), (81, 1, .aload_n 0, 0, 0, []), (82, 3, .getfield 35, 0, 0, []), (85, 3, .invokevirtual 145, 0, 0, []), (88, 3, .ifCond .eq 7, 0, 95, []), (91, 1, .iconst 0, 0, 0, []), (92, 3, .goto 6, 0, 98, []), (95, 3, .sipush 255, 255, 0, []), (98, 1, .ireturn, 0, 0, []), (99, 1, .aload_n 0, 0, 0, []), (100, 3, .getfield 51, 0, 0, []), (103, 1, .iload_n 2, 0, 2, []), (104, 3, .putfield 132, 0, 0, []), (107, 1, .iconst 0, 0, 0, []), (108, 1, .ireturn, 0, 0, []), (109, 1, .iconst 0, 0, 0, []), (110, 1, .ireturn, 0, 0, [])]
def x_i92 : xI := (⟨"DeskMachine", "answerCall", "(II)I"⟩, prog_1_method_17_code, 3, some .int, 1, x_p92, xc_92, [], 2, 44, 2, 0)
-- 93: DeskMachine.callSystem()V
def x_p93 : List (Nat × xE) := [(21, 0, 0, 1, 0, false), (51, 0, 0, 5, 0, false), (64, 0, 0, 7, 0, true), (129, 0, 2, 3, 0, true), (135, 0, 2, 1, 0, false), (164, 1, 50, 1, 2, false), (167, 1, 90, 2, 6, false), (170, 1, 92, 2, 0, false), (173, 1, 70, 0, 2, false)]
def xc_93 : List (Nat × xO) := [(0, 1, .aload_n 0, 0, 0, []), (1, 3, .getfield 21, 0, 0, []), (4, 3, .getfield 135, 0, 0, []), (7, 1, .iconst 1, 1, 0, []), (8, 1, .iaload, 0, 0, []), (9, 1, .istore_n 1, 0, 1, []), (10, 1, .iload_n 1, 0, 1, []), (11, 3, .ifCond .ne 9, 0, 20, []), (14, 1, .aload_n 0, 0, 0, []), (15, 1, .iconst 0, 0, 0, []), (16, 3, .putfield 64, 0, 0, []), (19, 1, .return_, 0, 0, []), (20, 1, .aload_n 0, 0, 0, []), (21, 1, .iconst 1, 1, 0, []), (22, 3, .putfield 64, 0, 0, []), (25, 1, .aload_n 0, 0, 0, []), (26, 3, .getfield 21, 0, 0, []), (29, 1, .iconst 1, 1, 0, []), (30, 3, .invokevirtual 164, 0, 0, []), (33, 1, .istore_n 2, 0, 2, []), (34, 1, .iload_n 1, 0, 1, []), (35, 2, .bipush 15, 15, 0, []), (37, 3, .if_icmp .lt 13, 0, 50, []), (40, 1, .iload_n 1, 0, 1, []), (41, 2, .bipush 23, 23, 0, []), (43, 3, .if_icmp .gt 7, 0, 50, []), (46, 1, .iconst 1, 1, 0, []), (47, 3, .goto 4, 0, 51, []), (50, 1, .iconst 0, 0, 0, []), (51, 1, .istore_n 3, 0, 3, []), (52, 1, .aload_n 0, 0, 0, []), (53, 3, .getfield 21, 0, 0, []), (56, 3, .getfield 135, 0, 0, []), (59, 2, .bipush 7, 7, 0, []), (61, 1, .iload_n 3, 0, 3, []), (62, 3, .ifCond .eq 15, 0, 77, []), (65, 1, .aload_n 0, 0, 0, []), (66, 3, .getfield 51, 0, 0, []), (69, 1, .iload_n 1, 0, 1, []), (70, 1, .iload_n 2, 0, 2, []), (71, 3, .invokevirtual 167, 0, 0, []), (74, 3, .goto 9, 0, 83, []), (77, 1, .aload_n 0, 0, 0, []), (78, 1, .iload_n 1, 0, 1, []), (79, 1, .iload_n 2, 0, 2, []), (80, 3, .invokevirtual 170, 0, 0, []), (83, 1, .iastore, 0, 0, []), (84, 1, .aload_n 0, 0, 0, []), (85, 3, .getfield 21, 0, 0, []), (88, 1, .aload_n 0, 0, 0, []), (89, 3, .getfield 21, 0, 0, []), (92, 3, .invokevirtual 173, 0, 0, []), (95, 3, .putfield 129, 0, 0, []), (98, 1, .return_, 0, 0, [])]
def x_i93 : xI := (⟨"DeskMachine", "callSystem", "()V"⟩, prog_1_method_16_code, 4, none, 0, x_p93, xc_93, [], 5, 114, 0, 0)
-- 94: DeskMachine.stepOfProgram()Z
def x_p94 : List (Nat × xE) := [(21, 0, 0, 1, 0, false), (35, 0, 0, 3, 0, false), (64, 0, 0, 7, 0, true), (129, 0, 2, 3, 0, true), (135, 0, 2, 1, 0, false), (145, 1, 5, 0, 4, false), (158, 1, 78, 0, 2, false), (161, 1, 93, 0, 0, true)]
def xc_94 : List (Nat × xO) := [(0, 1, .aload_n 0, 0, 0, []), (1, 3, .getfield 21, 0, 0, []), (4, 3, .getfield 129, 0, 0, []), (7, 1, .iconst 5, 5, 0, []), (8, 3, .if_icmp .eq 25, 0, 33, []), (11, 1, .aload_n 0, 0, 0, []), (12, 1, .aload_n 0, 0, 0, []), (13, 3, .getfield 21, 0, 0, []), (16, 3, .invokevirtual 158, 0, 0, []), (19, 3, .ifCond .eq 7, 0, 26, []), (22, 1, .iconst 1, 1, 0, []), (23, 3, .goto 4, 0, 27, []), (26, 1, .iconst 0, 0, 0, []), (27, 3, .putfield 64, 0, 0, []), (30, 3, .goto 37, 0, 67, []), (33, 1, .aload_n 0, 0, 0, []), (34, 3, .getfield 21, 0, 0, []), (37, 3, .getfield 135, 0, 0, []), (40, 1, .iconst 1, 1, 0, []), (41, 1, .iaload, 0, 0, []), (42, 1, .iconst 1, 1, 0, []), (43, 3, .if_icmp .ne 20, 0, 63, []), (46, 1, .aload_n 0, 0, 0, []), (47, 3, .getfield 35, 0, 0, []), (50, 3, .invokevirtual 145, 0, 0, []), (53, 3, .ifCond .eq 10, 0, 63, []), (56, 1, .aload_n 0, 0, 0, []), (57, 1, .iconst 2, 2, 0, []), (58, 3, .putfield 64, 0, 0, []), (61, 1, .iconst 0, 0, 0, []), (62, 1, .ireturn, 0, 0, []), (63, 1, .aload_n 0, 0, 0, []), (64, 3, .invokevirtual 161, 0, 0, []), (67, 1, .aload_n 0, 0, 0, []), (68, 3, .getfield 21, 0, 0, []), (71, 3, .getfield 129, 0, 0, []), (74, 3, .ifCond .ne 8, 0, 82, []), (77, 1, .aload_n 0, 0, 0, []), (78, 1, .iconst 0, 0, 0, []), (79, 3, .putfield 64, 0, 0, []), (82, 1, .iconst 1, 1, 0, []), (83, 1, .ireturn, 0, 0, [])]
def x_i94 : xI := (⟨"DeskMachine", "stepOfProgram", "()Z"⟩, prog_1_method_15_code, 1, some .boolean, 2, x_p94, xc_94, [], 6, 137, 0, 0)
-- 95: DeskMachine.run(I)I
def x_p95 : List (Nat × xE) := [(64, 0, 0, 7, 0, true), (68, 0, 0, 8, 0, true), (93, 1, 46, 0, 0, false), (96, 1, 94, 0, 0, false)]
def xc_95 : List (Nat × xO) := [(0, 1, .iload_n 1, 0, 1, []), (1, 1, .iconst 1, 1, 0, []), (2, 3, .if_icmp .lt 10, 0, 12, []), (5, 1, .iload_n 1, 0, 1, []), (6, 3, .sipush 1000, 1000, 0, []), (9, 3, .if_icmp .le 11, 0, 20, []), (20, 1, .iconst 0, 0, 0, []), (21, 1, .istore_n 2, 0, 2, []), (22, 1, .iload_n 2, 0, 2, []), (23, 1, .iload_n 1, 0, 1, []), (24, 3, .if_icmp .ge 44, 0, 68, []), (27, 1, .aload_n 0, 0, 0, []), (28, 3, .getfield 64, 0, 0, []), (31, 3, .ifCond .ne 10, 0, 41, []), (34, 1, .aload_n 0, 0, 0, []), (35, 3, .invokevirtual 93, 0, 0, []), (38, 3, .goto 7, 0, 45, []), (41, 1, .aload_n 0, 0, 0, []), (42, 3, .invokevirtual 96, 0, 0, []), (45, 1, .istore_n 3, 0, 3, []), (46, 1, .iload_n 3, 0, 3, []), (47, 3, .ifCond .ne 5, 0, 52, []), (50, 1, .iload_n 2, 0, 2, []), (51, 1, .ireturn, 0, 0, []), (52, 1, .aload_n 0, 0, 0, []), (53, 1, .dup, 0, 0, []), (54, 3, .getfield 68, 0, 0, []), (57, 1, .iconst 1, 1, 0, []), (58, 1, .iadd, 0, 0, []), (59, 3, .putfield 68, 0, 0, []), (62, 3, .iinc 2 1, 1, 2, []), (65, 3, .goto (-43), 0, 22, []), (68, 1, .iload_n 1, 0, 1, []), (69, 1, .ireturn, 0, 0, [])]
def x_i95 : xI := (⟨"DeskMachine", "run", "(I)I"⟩, prog_1_method_3_code, 4, some .int, 1, x_p95, xc_95, [(22, [0, 1, 2])], 8, 237, 1, 0)
-- 96: DeskMachine.isAddress(I)Z
def x_p96 : List (Nat × xE) := []
def xc_96 : List (Nat × xO) := [(0, 1, .iload_n 0, 0, 0, []), (1, 3, .ifCond .lt 14, 0, 15, []), (4, 1, .iload_n 0, 0, 0, []), (5, 3, .sipush 512, 512, 0, []), (8, 3, .if_icmp .ge 7, 0, 15, []), (11, 1, .iconst 1, 1, 0, []), (12, 3, .goto 4, 0, 16, []), (15, 1, .iconst 0, 0, 0, []), (16, 1, .ireturn, 0, 0, [])]
def x_i96 : xI := (⟨"DeskMachine", "isAddress", "(I)Z"⟩, prog_1_method_12_code, 1, some .boolean, 2, x_p96, xc_96, [], 0, 0, 1, 0)
-- 97: DeskMachine.poke(II)Z
def x_p97 : List (Nat × xE) := [(10, 0, 0, 0, 0, false), (71, 2, 0, 1, 0, false), (99, 2, 96, 1, 0, false), (102, 1, 37, 2, 1, true)]
def xc_97 : List (Nat × xO) := [(0, 1, .iload_n 1, 0, 1, []), (1, 3, .invokestatic 99, 0, 0, []), (4, 3, .ifCond .eq 10, 0, 14, []), (7, 1, .iload_n 2, 0, 2, []), (8, 3, .invokestatic 71, 0, 0, []), (11, 3, .ifCond .ne 11, 0, 22, []), (22, 1, .aload_n 0, 0, 0, []), (23, 3, .getfield 10, 0, 0, []), (26, 1, .iload_n 1, 0, 1, []), (27, 1, .iload_n 2, 0, 2, []), (28, 3, .invokevirtual 102, 0, 0, []), (31, 1, .iconst 1, 1, 0, []), (32, 1, .ireturn, 0, 0, [])]
def x_i97 : xI := (⟨"DeskMachine", "poke", "(II)Z"⟩, prog_1_method_4_code, 3, some .boolean, 2, x_p97, xc_97, [], 1, 22, 2, 0)
-- 98: DeskMachine.peek(I)I
def x_p98 : List (Nat × xE) := [(10, 0, 0, 0, 0, false), (99, 2, 96, 1, 0, false), (106, 1, 33, 1, 1, false)]
def xc_98 : List (Nat × xO) := [(0, 1, .iload_n 1, 0, 1, []), (1, 3, .invokestatic 99, 0, 0, []), (4, 3, .ifCond .ne 11, 0, 15, []), (15, 1, .aload_n 0, 0, 0, []), (16, 3, .getfield 10, 0, 0, []), (19, 1, .iload_n 1, 0, 1, []), (20, 3, .invokevirtual 106, 0, 0, []), (23, 1, .ireturn, 0, 0, [])]
def x_i98 : xI := (⟨"DeskMachine", "peek", "(I)I"⟩, prog_1_method_5_code, 2, some .int, 1, x_p98, xc_98, [], 1, 21, 1, 0)
-- 99: DeskMachine.isPlaceOnDisk(II)Z
def x_p99 : List (Nat × xE) := []
def xc_99 : List (Nat × xO) := [(0, 1, .iload_n 0, 0, 0, []), (1, 3, .ifCond .lt 23, 0, 24, []), (4, 1, .iload_n 0, 0, 0, []), (5, 2, .bipush 32, 32, 0, []), (7, 3, .if_icmp .ge 17, 0, 24, []), (10, 1, .iload_n 1, 0, 1, []), (11, 3, .ifCond .lt 13, 0, 24, []), (14, 1, .iload_n 1, 0, 1, []), (15, 2, .bipush 16, 16, 0, []), (17, 3, .if_icmp .ge 7, 0, 24, []), (20, 1, .iconst 1, 1, 0, []), (21, 3, .goto 4, 0, 25, []), (24, 1, .iconst 0, 0, 0, []), (25, 1, .ireturn, 0, 0, [])]
def x_i99 : xI := (⟨"DeskMachine", "isPlaceOnDisk", "(II)Z"⟩, prog_1_method_13_code, 2, some .boolean, 2, x_p99, xc_99, [], 0, 0, 2, 0)
-- 100: DeskMachine.disk(II)I
def x_p100 : List (Nat × xE) := [(28, 0, 0, 2, 0, false), (110, 2, 99, 2, 0, false), (114, 1, 13, 2, 3, false)]
def xc_100 : List (Nat × xO) := [(0, 1, .iload_n 1, 0, 1, []), (1, 1, .iload_n 2, 0, 2, []), (2, 3, .invokestatic 110, 0, 0, []), (5, 3, .ifCond .ne 11, 0, 16, []), (16, 1, .aload_n 0, 0, 0, []), (17, 3, .getfield 28, 0, 0, []), (20, 1, .iload_n 1, 0, 1, []), (21, 1, .iload_n 2, 0, 2, []), (22, 3, .invokevirtual 114, 0, 0, []), (25, 1, .ireturn, 0, 0, [])]
def x_i100 : xI := (⟨"DeskMachine", "disk", "(II)I"⟩, prog_1_method_6_code, 3, some .int, 1, x_p100, xc_100, [], 1, 22, 2, 0)
-- 101: DeskMachine.burn(III)Z
def x_p101 : List (Nat × xE) := [(28, 0, 0, 2, 0, false), (71, 2, 0, 1, 0, false), (110, 2, 99, 2, 0, false), (117, 1, 24, 3, 3, true)]
def xc_101 : List (Nat × xO) := [(0, 1, .iload_n 1, 0, 1, []), (1, 1, .iload_n 2, 0, 2, []), (2, 3, .invokestatic 110, 0, 0, []), (5, 3, .ifCond .eq 10, 0, 15, []), (8, 1, .iload_n 3, 0, 3, []), (9, 3, .invokestatic 71, 0, 0, []), (12, 3, .ifCond .ne 11, 0, 23, []), (23, 1, .aload_n 0, 0, 0, []), (24, 3, .getfield 28, 0, 0, []), (27, 1, .iload_n 1, 0, 1, []), (28, 1, .iload_n 2, 0, 2, []), (29, 1, .iload_n 3, 0, 3, []), (30, 3, .invokevirtual 117, 0, 0, []), (33, 1, .iconst 1, 1, 0, []), (34, 1, .ireturn, 0, 0, [])]
def x_i101 : xI := (⟨"DeskMachine", "burn", "(III)Z"⟩, prog_1_method_7_code, 4, some .boolean, 2, x_p101, xc_101, [], 1, 23, 3, 0)
-- 102: DeskMachine$Screen.last(I)I
def x_p102 : List (Nat × xE) := [(11, 0, 5, 0, 0, false), (15, 0, 5, 1, 0, true)]
def xc_102 : List (Nat × xO) := [(0, 1, .iload_n 1, 0, 1, []), (1, 3, .ifCond .lt 17, 0, 18, []), (4, 1, .iload_n 1, 0, 1, []), (5, 2, .bipush 64, 64, 0, []), (7, 3, .if_icmp .ge 11, 0, 18, []), (10, 1, .iload_n 1, 0, 1, []), (11, 1, .aload_n 0, 0, 0, []), (12, 3, .getfield 15, 0, 0, []), (15, 3, .if_icmp .lt 5, 0, 20, []), (18, 1, .iconst (-1), (-1), 0, []), (19, 1, .ireturn, 0, 0, []), (20, 1, .aload_n 0, 0, 0, []), (21, 3, .getfield 11, 0, 0, []), (24, 1, .aload_n 0, 0, 0, []), (25, 3, .getfield 15, 0, 0, []), (28, 1, .iconst 1, 1, 0, []), (29, 1, .isub, 0, 0, []), (30, 1, .iload_n 1, 0, 1, []), (31, 1, .isub, 0, 0, []), (32, 2, .bipush 63, 63, 0, []), (34, 1, .iand, 0, 0, []), (35, 1, .iaload, 0, 0, []), (36, 1, .ireturn, 0, 0, [])]
def x_i102 : xI := (⟨"DeskMachine$Screen", "last", "(I)I"⟩, prog_8_method_3_code, 2, some .int, 1, x_p102, xc_102, [], 0, 0, 1, 5)
-- 103: DeskMachine.shown(I)I
def x_p103 : List (Nat × xE) := [(42, 0, 0, 4, 0, false), (120, 1, 102, 1, 5, false)]
def xc_103 : List (Nat × xO) := [(0, 1, .aload_n 0, 0, 0, []), (1, 3, .getfield 42, 0, 0, []), (4, 1, .iload_n 1, 0, 1, []), (5, 3, .invokevirtual 120, 0, 0, []), (8, 1, .ireturn, 0, 0, [])]
def x_i103 : xI := (⟨"DeskMachine", "shown", "(I)I"⟩, prog_1_method_8_code, 2, some .int, 1, x_p103, xc_103, [], 1, 21, 1, 0)
-- 104: DeskMachine.register(I)I
def x_p104 : List (Nat × xE) := [(21, 0, 0, 1, 0, false), (51, 0, 0, 5, 0, false), (123, 1, 75, 0, 2, false), (126, 0, 2, 2, 0, true), (129, 0, 2, 3, 0, true), (132, 0, 6, 3, 0, true), (135, 0, 2, 1, 0, false)]
def xc_104 : List (Nat × xO) := [(0, 1, .iload_n 1, 0, 1, []), (1, 35, .tableswitch 67 6 10 #[35, 67, 43, 51, 59], 0, 68, [(6, 36), (7, 68), (8, 44), (9, 52), (10, 60)]), (36, 1, .aload_n 0, 0, 0, []), (37, 3, .getfield 21, 0, 0, []), (40, 3, .invokevirtual 123, 0, 0, []), (43, 1, .ireturn, 0, 0, []), (44, 1, .aload_n 0, 0, 0, []), (45, 3, .getfield 21, 0, 0, []), (48, 3, .getfield 126, 0, 0, []), (51, 1, .ireturn, 0, 0, []), (52, 1, .aload_n 0, 0, 0, []), (53, 3, .getfield 21, 0, 0, []), (56, 3, .getfield 129, 0, 0, []), (59, 1, .ireturn, 0, 0, []), (60, 1, .aload_n 0, 0, 0, []), (61, 3, .getfield 51, 0, 0, []), (64, 3, .getfield 132, 0, 0, []), (67, 1, .ireturn, 0, 0, []), (68, 1, .iload_n 1, 0, 1, []), (69, 3, .ifCond .lt 21, 0, 90, []), (72, 1, .iload_n 1, 0, 1, []), (73, 2, .bipush 8, 8, 0, []), (75, 3, .if_icmp .ge 15, 0, 90, []), (78, 1, .aload_n 0, 0, 0, []), (79, 3, .getfield 21, 0, 0, []), (82, 3, .getfield 135, 0, 0, []), (85, 1, .iload_n 1, 0, 1, []), (86, 1, .iaload, 0, 0, []), (87, 3, .goto 4, 0, 91, []), (90, 1, .iconst (-1), (-1), 0, []), (91, 1, .ireturn, 0, 0, [])]
def x_i104 : xI := (⟨"DeskMachine", "register", "(I)I"⟩, prog_1_method_9_code, 2, some .int, 1, x_p104, xc_104, [], 1, 20, 1, 0)
-- 105: DeskMachine.about(I)I
def x_p105 : List (Nat × xE) := [(35, 0, 0, 3, 0, false), (42, 0, 0, 4, 0, false), (60, 0, 0, 6, 0, false), (64, 0, 0, 7, 0, true), (68, 0, 0, 8, 0, true), (89, 1, 3, 0, 4, false), (139, 0, 5, 1, 0, true), (142, 0, 7, 7, 0, true)]
def xc_105 : List (Nat × xO) := [(0, 1, .iload_n 1, 0, 1, []), (1, 35, .tableswitch 69 0 4 #[35, 40, 48, 56, 61], 0, 70, [(0, 36), (1, 41), (2, 49), (3, 57), (4, 62)]), (36, 1, .aload_n 0, 0, 0, []), (37, 3, .getfield 64, 0, 0, []), (40, 1, .ireturn, 0, 0, []), (41, 1, .aload_n 0, 0, 0, []), (42, 3, .getfield 35, 0, 0, []), (45, 3, .invokevirtual 89, 0, 0, []), (48, 1, .ireturn, 0, 0, []), (49, 1, .aload_n 0, 0, 0, []), (50, 3, .getfield 42, 0, 0, []), (53, 3, .getfield 139, 0, 0, []), (56, 1, .ireturn, 0, 0, []), (57, 1, .aload_n 0, 0, 0, []), (58, 3, .getfield 68, 0, 0, []), (61, 1, .ireturn, 0, 0, []), (62, 1, .aload_n 0, 0, 0, []), (63, 3, .getfield 60, 0, 0, []), (66, 3, .getfield 142, 0, 0, []), (69, 1, .ireturn, 0, 0, []), (70, 1, .iconst (-1), (-1), 0, []), (71, 1, .ireturn, 0, 0, [])]
def x_i105 : xI := (⟨"DeskMachine", "about", "(I)I"⟩, prog_1_method_10_code, 2, some .int, 1, x_p105, xc_105, [], 1, 20, 1, 0)
-- 106: DeskMachineModel.key(I)I
def x_p106 : List (Nat × xE) := [(26, 0, 8, 14, 0, false), (41, 0, 8, 0, 0, true), (185, 0, 8, 13, 0, true)]
def xc_106 : List (Nat × xO) := [(0, 1, .aload_n 0, 0, 0, []), (1, 1, .iload_n 1, 0, 1, []), (2, 3, .ifCond .lt 10, 0, 12, []), (5, 1, .iload_n 1, 0, 1, []), (6, 3, .sipush 255, 255, 0, []), (9, 3, .if_icmp .le 7, 0, 16, []), (12, 1, .iconst 1, 1, 0, []), (13, 3, .goto 17, 0, 30, []), (16, 1, .aload_n 0, 0, 0, []), (17, 3, .getfield 185, 0, 0, []), (20, 2, .bipush 40, 40, 0, []), (22, 3, .if_icmp .ne 7, 0, 29, []), (25, 1, .iconst 2, 2, 0, []), (26, 3, .goto 4, 0, 30, []), (29, 1, .iconst 0, 0, 0, []), (30, 3, .putfield 41, 0, 0, []), (33, 1, .aload_n 0, 0, 0, []), (34, 3, .getfield 41, 0, 0, []), (37, 3, .ifCond .ne 23, 0, 60, []), (40, 1, .aload_n 0, 0, 0, []), (41, 3, .getfield 26, 0, 0, []), (44, 1, .aload_n 0, 0, 0, []), (45, 3, .getfield 185, 0, 0, []), (48, 1, .iload_n 1, 0, 1, []), (49, 1, .iastore, 0, 0, []), (50, 1, .aload_n 0, 0, 0, []), (51, 1, .dup, 0, 0, []), (52, 3, .getfield 185, 0, 0, []), (55, 1, .iconst 1, 1, 0, []), (56, 1, .iadd, 0, 0, []), (57, 3, .putfield 185, 0, 0, []), (60, 1, .aload_n 0, 0, 0, []), (61, 3, .getfield 185, 0, 0, []), (64, 1, .ireturn, 0, 0, [])]
def x_i106 : xI := (⟨"DeskMachineModel", "key", "(I)I"⟩, prog_10_method_56_code, 2, some .int, 1, x_p106, xc_106, [(30, [0, 1])], 0, 0, 1, 8)
-- 107: DeskMachineModel.takeKey()I
def x_p107 : List (Nat × xE) := [(26, 0, 8, 14, 0, false), (185, 0, 8, 13, 0, true)]
def xc_107 : List (Nat × xO) := [(0, 1, .aload_n 0, 0, 0, []), (1, 3, .getfield 26, 0, 0, []), (4, 1, .iconst 0, 0, 0, []), (5, 1, .iaload, 0, 0, []), (6, 1, .istore_n 1, 0, 1, []), (7, 1, .aload_n 0, 0, 0, []), (8, 1, .dup, 0, 0, []), (9, 3, .getfield 185, 0, 0, []), (12, 1, .iconst 1, 1, 0, []), (13, 1, .isub, 0, 0, []), (14, 3, .putfield 185, 0, 0, []), (17, 1, .iconst 0, 0, 0, []), (18, 1, .istore_n 2, 0, 2, []), (19, 1, .iload_n 2, 0, 2, []), (20, 1, .aload_n 0, 0, 0, []), (21, 3, .getfield 185, 0, 0, []), (24, 3, .if_icmp .ge 23, 0, 47, []), (27, 1, .aload_n 0, 0, 0, []), (28, 3, .getfield 26, 0, 0, []), (31, 1, .iload_n 2, 0, 2, []), (32, 1, .aload_n 0, 0, 0, []), (33, 3, .getfield 26, 0, 0, []), (36, 1, .iload_n 2, 0, 2, []), (37, 1, .iconst 1, 1, 0, []), (38, 1, .iadd, 0, 0, []), (39, 1, .iaload, 0, 0, []), (40, 1, .iastore, 0, 0, []), (41, 3, .iinc 2 1, 1, 2, []), (44, 3, .goto (-25), 0, 19, []), (47, 1, .iload_n 1, 0, 1, []), (48, 1, .ireturn, 0, 0, [])]
def x_i107 : xI := (⟨"DeskMachineModel", "takeKey", "()I"⟩, prog_10_method_42_code, 3, some .int, 1, x_p107, xc_107, [(19, [0, 1, 2])], 0, 0, 0, 8)
-- 108: DeskMachineModel.begins(I)I
def x_p108 : List (Nat × xE) := [(29, 0, 8, 16, 0, false), (200, 0, 8, 15, 0, true)]
def xc_108 : List (Nat × xO) := [(0, 1, .iconst 0, 0, 0, []), (1, 1, .istore_n 2, 0, 2, []), (2, 1, .iconst 0, 0, 0, []), (3, 1, .istore_n 3, 0, 3, []), (4, 1, .iload_n 3, 0, 3, []), (5, 1, .iload_n 1, 0, 1, []), (6, 3, .if_icmp .gt 63, 0, 69, []), (9, 1, .iload_n 3, 0, 3, []), (10, 3, .ifCond .le 28, 0, 38, []), (13, 1, .iload_n 2, 0, 2, []), (14, 1, .aload_n 0, 0, 0, []), (15, 3, .getfield 200, 0, 0, []), (18, 3, .if_icmp .ge 20, 0, 38, []), (21, 1, .aload_n 0, 0, 0, []), (22, 3, .getfield 29, 0, 0, []), (25, 1, .iload_n 2, 0, 2, []), (26, 1, .iaload, 0, 0, []), (27, 2, .bipush 32, 32, 0, []), (29, 3, .if_icmp .eq 9, 0, 38, []), (32, 3, .iinc 2 1, 1, 2, []), (35, 3, .goto (-26), 0, 9, []), (38, 1, .iload_n 2, 0, 2, []), (39, 1, .aload_n 0, 0, 0, []), (40, 3, .getfield 200, 0, 0, []), (43, 3, .if_icmp .ge 20, 0, 63, []), (46, 1, .aload_n 0, 0, 0, []), (47, 3, .getfield 29, 0, 0, []), (50, 1, .iload_n 2, 0, 2, []), (51, 1, .iaload, 0, 0, []), (52, 2, .bipush 32, 32, 0, []), (54, 3, .if_icmp .ne 9, 0, 63, []), (57, 3, .iinc 2 1, 1, 2, []), (60, 3, .goto (-22), 0, 38, []), (63, 3, .iinc 3 1, 1, 3, []), (66, 3, .goto (-62), 0, 4, []), (69, 1, .iload_n 2, 0, 2, []), (70, 1, .ireturn, 0, 0, [])]
def x_i108 : xI := (⟨"DeskMachineModel", "begins", "(I)I"⟩, prog_10_method_45_code, 4, some .int, 1, x_p108, xc_108, [(4, [0, 1, 2, 3]), (9, [0, 1, 2, 3]), (38, [0, 1, 2, 3])], 0, 0, 1, 8)
-- 109: DeskMachineModel.there(I)Z
def x_p109 : List (Nat × xE) := [(200, 0, 8, 15, 0, true), (203, 1, 108, 1, 8, false)]
def xc_109 : List (Nat × xO) := [(0, 1, .aload_n 0, 0, 0, []), (1, 1, .iload_n 1, 0, 1, []), (2, 3, .invokevirtual 203, 0, 0, []), (5, 1, .aload_n 0, 0, 0, []), (6, 3, .getfield 200, 0, 0, []), (9, 3, .if_icmp .ge 7, 0, 16, []), (12, 1, .iconst 1, 1, 0, []), (13, 3, .goto 4, 0, 17, []), (16, 1, .iconst 0, 0, 0, []), (17, 1, .ireturn, 0, 0, [])]
def x_i109 : xI := (⟨"DeskMachineModel", "there", "(I)Z"⟩, prog_10_method_46_code, 2, some .boolean, 2, x_p109, xc_109, [], 1, 23, 1, 8)
-- 110: DeskMachineModel.character(II)I
def x_p110 : List (Nat × xE) := [(29, 0, 8, 16, 0, false), (200, 0, 8, 15, 0, true), (203, 1, 108, 1, 8, false)]
def xc_110 : List (Nat × xO) := [(0, 1, .aload_n 0, 0, 0, []), (1, 1, .iload_n 1, 0, 1, []), (2, 3, .invokevirtual 203, 0, 0, []), (5, 1, .istore_n 3, 0, 3, []), (6, 1, .iconst 0, 0, 0, []), (7, 2, .istore 4, 0, 4, []), (9, 2, .iload 4, 0, 4, []), (11, 1, .iload_n 2, 0, 2, []), (12, 3, .if_icmp .ge 31, 0, 43, []), (15, 1, .iload_n 3, 0, 3, []), (16, 1, .aload_n 0, 0, 0, []), (17, 3, .getfield 200, 0, 0, []), (20, 3, .if_icmp .ge 23, 0, 43, []), (23, 1, .aload_n 0, 0, 0, []), (24, 3, .getfield 29, 0, 0, []), (27, 1, .iload_n 3, 0, 3, []), (28, 1, .iaload, 0, 0, []), (29, 2, .bipush 32, 32, 0, []), (31, 3, .if_icmp .eq 12, 0, 43, []), (34, 3, .iinc 3 1, 1, 3, []), (37, 3, .iinc 4 1, 1, 4, []), (40, 3, .goto (-31), 0, 9, []), (43, 1, .iload_n 3, 0, 3, []), (44, 1, .aload_n 0, 0, 0, []), (45, 3, .getfield 200, 0, 0, []), (48, 3, .if_icmp .ge 12, 0, 60, []), (51, 1, .aload_n 0, 0, 0, []), (52, 3, .getfield 29, 0, 0, []), (55, 1, .iload_n 3, 0, 3, []), (56, 1, .iaload, 0, 0, []), (57, 3, .goto 5, 0, 62, []), (60, 2, .bipush 32, 32, 0, []), (62, 1, .ireturn, 0, 0, [])]
def x_i110 : xI := (⟨"DeskMachineModel", "character", "(II)I"⟩, prog_10_method_47_code, 5, some .int, 1, x_p110, xc_110, [(9, [0, 2, 3, 4])], 1, 23, 2, 8)
-- 111: DeskMachineModel.isWord(IIII)Z
def x_p111 : List (Nat × xE) := [(206, 1, 110, 2, 8, false)]
def xc_111 : List (Nat × xO) := [(0, 1, .aload_n 0, 0, 0, []), (1, 1, .iconst 0, 0, 0, []), (2, 1, .iconst 0, 0, 0, []), (3, 3, .invokevirtual 206, 0, 0, []), (6, 1, .iload_n 1, 0, 1, []), (7, 3, .if_icmp .ne 49, 0, 56, []), (10, 1, .aload_n 0, 0, 0, []), (11, 1, .iconst 0, 0, 0, []), (12, 1, .iconst 1, 1, 0, []), (13, 3, .invokevirtual 206, 0, 0, []), (16, 1, .iload_n 2, 0, 2, []), (17, 3, .if_icmp .ne 39, 0, 56, []), (20, 1, .aload_n 0, 0, 0, []), (21, 1, .iconst 0, 0, 0, []), (22, 1, .iconst 2, 2, 0, []), (23, 3, .invokevirtual 206, 0, 0, []), (26, 1, .iload_n 3, 0, 3, []), (27, 3, .if_icmp .ne 29, 0, 56, []), (30, 1, .aload_n 0, 0, 0, []), (31, 1, .iconst 0, 0, 0, []), (32, 1, .iconst 3, 3, 0, []), (33, 3, .invokevirtual 206, 0, 0, []), (36, 2, .iload 4, 0, 4, []), (38, 3, .if_icmp .ne 18, 0, 56, []), (41, 1, .aload_n 0, 0, 0, []), (42, 1, .iconst 0, 0, 0, []), (43, 1, .iconst 4, 4, 0, []), (44, 3, .invokevirtual 206, 0, 0, []), (47, 2, .bipush 32, 32, 0, []), (49, 3, .if_icmp .ne 7, 0, 56, []), (52, 1, .iconst 1, 1, 0, []), (53, 3, .goto 4, 0, 57, []), (56, 1, .iconst 0, 0, 0, []), (57, 1, .ireturn, 0, 0, [])]
def x_i111 : xI := (⟨"DeskMachineModel", "isWord", "(IIII)Z"⟩, prog_10_method_49_code, 5, some .boolean, 2, x_p111, xc_111, [], 2, 47, 4, 8)
-- 112: DeskMachineModel.isFree(I)Z
def x_p112 : List (Nat × xE) := [(13, 0, 8, 2, 0, false)]
def xc_112 : List (Nat × xO) := [(0, 1, .aload_n 0, 0, 0, []), (1, 3, .getfield 13, 0, 0, []), (4, 2, .bipush 16, 16, 0, []), (6, 1, .iload_n 1, 0, 1, []), (7, 1, .imul, 0, 0, []), (8, 1, .iaload, 0, 0, []), (9, 3, .sipush 229, 229, 0, []), (12, 3, .if_icmp .ne 7, 0, 19, []), (15, 1, .iconst 1, 1, 0, []), (16, 3, .goto 4, 0, 20, []), (19, 1, .iconst 0, 0, 0, []), (20, 1, .ireturn, 0, 0, [])]
def x_i112 : xI := (⟨"DeskMachineModel", "isFree", "(I)Z"⟩, prog_10_method_28_code, 2, some .boolean, 2, x_p112, xc_112, [], 0, 0, 1, 8)
-- 113: DeskMachineModel.show(I)V
def x_p113 : List (Nat × xE) := [(32, 0, 8, 18, 0, false), (142, 0, 8, 17, 0, true)]
def xc_113 : List (Nat × xO) := [(0, 1, .aload_n 0, 0, 0, []), (1, 3, .getfield 32, 0, 0, []), (4, 1, .aload_n 0, 0, 0, []), (5, 3, .getfield 142, 0, 0, []), (8, 2, .bipush 64, 64, 0, []), (10, 1, .irem, 0, 0, []), (11, 1, .iload_n 1, 0, 1, []), (12, 1, .iastore, 0, 0, []), (13, 1, .aload_n 0, 0, 0, []), (14, 1, .dup, 0, 0, []), (15, 3, .getfield 142, 0, 0, []), (18, 1, .iconst 1, 1, 0, []), (19, 1, .iadd, 0, 0, []), (20, 3, .putfield 142, 0, 0, []), (23, 1, .return_, 0, 0, [])]
def x_i113 : xI := (⟨"DeskMachineModel", "show", "(I)V"⟩, prog_10_method_27_code, 2, none, 0, x_p113, xc_113, [], 0, 0, 1, 8)
-- 114: DeskMachineModel.lists()V
def x_p114 : List (Nat × xE) := [(13, 0, 8, 2, 0, false), (145, 1, 112, 1, 8, false), (191, 1, 113, 1, 8, true)]
def xc_114 : List (Nat × xO) := [(0, 1, .iconst 0, 0, 0, []), (1, 1, .istore_n 1, 0, 1, []), (2, 1, .iload_n 1, 0, 1, []), (3, 2, .bipush 8, 8, 0, []), (5, 3, .if_icmp .ge 56, 0, 61, []), (8, 1, .iconst 1, 1, 0, []), (9, 1, .istore_n 2, 0, 2, []), (10, 1, .iload_n 2, 0, 2, []), (11, 2, .bipush 6, 6, 0, []), (13, 3, .if_icmp .ge 42, 0, 55, []), (16, 1, .aload_n 0, 0, 0, []), (17, 1, .iload_n 1, 0, 1, []), (18, 3, .invokevirtual 145, 0, 0, []), (21, 3, .ifCond .ne 34, 0, 55, []), (24, 1, .aload_n 0, 0, 0, []), (25, 1, .iload_n 2, 0, 2, []), (26, 1, .iconst 5, 5, 0, []), (27, 3, .if_icmp .ge 17, 0, 44, []), (30, 1, .aload_n 0, 0, 0, []), (31, 3, .getfield 13, 0, 0, []), (34, 2, .bipush 16, 16, 0, []), (36, 1, .iload_n 1, 0, 1, []), (37, 1, .imul, 0, 0, []), (38, 1, .iload_n 2, 0, 2, []), (39, 1, .iadd, 0, 0, []), (40, 1, .iaload, 0, 0, []), (41, 3, .goto 5, 0, 46, []), (44, 2, .bipush 32, 32, 0, []), (46, 3, .invokevirtual 191, 0, 0, []), (49, 3, .iinc 2 1, 1, 2, []), (52, 3, .goto (-42), 0, 10, []), (55, 3, .iinc 1 1, 1, 1, []), (58, 3, .goto (-56), 0, 2, []), (61, 1, .return_, 0, 0, [])]
def x_i114 : xI := (⟨"DeskMachineModel", "lists", "()V"⟩, prog_10_method_50_code, 3, none, 0, x_p114, xc_114, [(2, [0, 1]), (10, [0, 1, 2])], 1, 21, 0, 8)
-- 115: DeskMachineModel.nameOf(I)V
def x_p115 : List (Nat × xE) := [(38, 0, 8, 21, 0, false), (206, 1, 110, 2, 8, false)]
def xc_115 : List (Nat × xO) := [(0, 1, .iconst 0, 0, 0, []), (1, 1, .istore_n 2, 0, 2, []), (2, 1, .iload_n 2, 0, 2, []), (3, 1, .iconst 4, 4, 0, []), (4, 3, .if_icmp .ge 23, 0, 27, []), (7, 1, .aload_n 0, 0, 0, []), (8, 1, .iload_n 1, 0, 1, []), (9, 1, .iload_n 2, 0, 2, []), (10, 3, .invokevirtual 206, 0, 0, []), (13, 1, .istore_n 3, 0, 3, []), (14, 1, .aload_n 0, 0, 0, []), (15, 3, .getfield 38, 0, 0, []), (18, 1, .iload_n 2, 0, 2, []), (19, 1, .iload_n 3, 0, 3, []), (20, 1, .iastore, 0, 0, []), (21, 3, .iinc 2 1, 1, 2, []), (24, 3, .goto (-22), 0, 2, []), (27, 1, .return_, 0, 0, [])]
def x_i115 : xI := (⟨"DeskMachineModel", "nameOf", "(I)V"⟩, prog_10_method_48_code, 4, none, 0, x_p115, xc_115, [(2, [0, 1, 2])], 2, 47, 1, 8)
-- 116: DeskMachineModel.find(IZ)I
def x_p116 : List (Nat × xE) := [(13, 0, 8, 2, 0, false), (38, 0, 8, 21, 0, false), (145, 1, 112, 1, 8, false)]
def xc_116 : List (Nat × xO) := [(0, 1, .iload_n 1, 0, 1, []), (1, 1, .istore_n 3, 0, 3, []), (2, 1, .iload_n 3, 0, 3, []), (3, 2, .bipush 8, 8, 0, []), (5, 3, .if_icmp .ge 98, 0, 103, []), (8, 1, .aload_n 0, 0, 0, []), (9, 1, .iload_n 3, 0, 3, []), (10, 3, .invokevirtual 145, 0, 0, []), (13, 3, .ifCond .ne 7, 0, 20, []), (16, 1, .iconst 1, 1, 0, []), (17, 3, .goto 4, 0, 21, []), (20, 1, .iconst 0, 0, 0, []), (21, 2, .istore 4, 0, 4, []), (23, 1, .iconst 0, 0, 0, []), (24, 2, .istore 5, 0, 5, []), (26, 2, .iload 5, 0, 5, []), (28, 1, .iconst 4, 4, 0, []), (29, 3, .if_icmp .ge 61, 0, 90, []), (32, 2, .iload 4, 0, 4, []), (34, 3, .ifCond .eq 47, 0, 81, []), (37, 1, .aload_n 0, 0, 0, []), (38, 3, .getfield 13, 0, 0, []), (41, 2, .bipush 16, 16, 0, []), (43, 1, .iload_n 3, 0, 3, []), (44, 1, .imul, 0, 0, []), (45, 1, .iconst 1, 1, 0, []), (46, 1, .iadd, 0, 0, []), (47, 2, .iload 5, 0, 5, []), (49, 1, .iadd, 0, 0, []), (50, 1, .iaload, 0, 0, []), (51, 1, .aload_n 0, 0, 0, []), (52, 3, .getfield 38, 0, 0, []), (55, 2, .iload 5, 0, 5, []), (57, 1, .iaload, 0, 0, []), (58, 3, .if_icmp .eq 19, 0, 77, []), (61, 1, .iload_n 2, 0, 2, []), (62, 3, .ifCond .eq 19, 0, 81, []), (65, 1, .aload_n 0, 0, 0, []), (66, 3, .getfield 38, 0, 0, []), (69, 2, .iload 5, 0, 5, []), (71, 1, .iaload, 0, 0, []), (72, 2, .bipush 63, 63, 0, []), (74, 3, .if_icmp .ne 7, 0, 81, []), (77, 1, .iconst 1, 1, 0, []), (78, 3, .goto 4, 0, 82, []), (81, 1, .iconst 0, 0, 0, []), (82, 2, .istore 4, 0, 4, []), (84, 3, .iinc 5 1, 1, 5, []), (87, 3, .goto (-61), 0, 26, []), (90, 2, .iload 4, 0, 4, []), (92, 3, .ifCond .eq 5, 0, 97, []), (95, 1, .iload_n 3, 0, 3, []), (96, 1, .ireturn, 0, 0, []), (97, 3, .iinc 3 1, 1, 3, []), (100, 3, .goto (-98), 0, 2, []), (103, 1, .iconst (-1), (-1), 0, []), (104, 1, .ireturn, 0, 0, [])]
def x_i116 : xI := (⟨"DeskMachineModel", "find", "(IZ)I"⟩, prog_10_method_29_code, 6, some .int, 1, x_p116, xc_116, [(2, [0, 2, 3]), (26, [0, 2, 3, 4, 5])], 1, 21, 2, 8)
-- 117: DeskMachineModel.erases()I
def x_p117 : List (Nat × xE) := [(13, 0, 8, 2, 0, false), (157, 1, 116, 2, 8, false)]
def xc_117 : List (Nat × xO) := [(0, 1, .iconst 0, 0, 0, []), (1, 1, .istore_n 1, 0, 1, []), (2, 1, .aload_n 0, 0, 0, []), (3, 1, .iconst 0, 0, 0, []), (4, 1, .iconst 1, 1, 0, []), (5, 3, .invokevirtual 157, 0, 0, []), (8, 1, .istore_n 2, 0, 2, []), (9, 1, .iload_n 2, 0, 2, []), (10, 1, .iconst (-1), (-1), 0, []), (11, 3, .if_icmp .eq 28, 0, 39, []), (14, 1, .aload_n 0, 0, 0, []), (15, 3, .getfield 13, 0, 0, []), (18, 2, .bipush 16, 16, 0, []), (20, 1, .iload_n 2, 0, 2, []), (21, 1, .imul, 0, 0, []), (22, 3, .sipush 229, 229, 0, []), (25, 1, .iastore, 0, 0, []), (26, 3, .iinc 1 1, 1, 1, []), (29, 1, .aload_n 0, 0, 0, []), (30, 1, .iload_n 2, 0, 2, []), (31, 1, .iconst 1, 1, 0, []), (32, 3, .invokevirtual 157, 0, 0, []), (35, 1, .istore_n 2, 0, 2, []), (36, 3, .goto (-27), 0, 9, []), (39, 1, .iload_n 1, 0, 1, []), (40, 1, .ireturn, 0, 0, [])]
def x_i117 : xI := (⟨"DeskMachineModel", "erases", "()I"⟩, prog_10_method_37_code, 3, some .int, 1, x_p117, xc_117, [(9, [0, 1, 2])], 2, 46, 0, 8)
-- 118: DeskMachineModel.firstFree()I
def x_p118 : List (Nat × xE) := [(145, 1, 112, 1, 8, false)]
def xc_118 : List (Nat × xO) := [(0, 1, .iconst 0, 0, 0, []), (1, 1, .istore_n 1, 0, 1, []), (2, 1, .iload_n 1, 0, 1, []), (3, 2, .bipush 8, 8, 0, []), (5, 3, .if_icmp .ge 19, 0, 24, []), (8, 1, .aload_n 0, 0, 0, []), (9, 1, .iload_n 1, 0, 1, []), (10, 3, .invokevirtual 145, 0, 0, []), (13, 3, .ifCond .eq 5, 0, 18, []), (16, 1, .iload_n 1, 0, 1, []), (17, 1, .ireturn, 0, 0, []), (18, 3, .iinc 1 1, 1, 1, []), (21, 3, .goto (-19), 0, 2, []), (24, 1, .iconst (-1), (-1), 0, []), (25, 1, .ireturn, 0, 0, [])]
def x_i118 : xI := (⟨"DeskMachineModel", "firstFree", "()I"⟩, prog_10_method_30_code, 2, some .int, 1, x_p118, xc_118, [(2, [0, 1])], 1, 21, 0, 8)
-- 119: DeskMachineModel.makes()I
def x_p119 : List (Nat × xE) := [(13, 0, 8, 2, 0, false), (38, 0, 8, 21, 0, false), (154, 1, 118, 0, 8, false)]
def xc_119 : List (Nat × xO) := [(0, 1, .aload_n 0, 0, 0, []), (1, 3, .invokevirtual 154, 0, 0, []), (4, 1, .istore_n 1, 0, 1, []), (5, 1, .iconst 0, 0, 0, []), (6, 1, .istore_n 2, 0, 2, []), (7, 1, .iload_n 2, 0, 2, []), (8, 2, .bipush 16, 16, 0, []), (10, 3, .if_icmp .ge 46, 0, 56, []), (13, 1, .iload_n 1, 0, 1, []), (14, 1, .iconst (-1), (-1), 0, []), (15, 3, .if_icmp .eq 41, 0, 56, []), (18, 1, .aload_n 0, 0, 0, []), (19, 3, .getfield 13, 0, 0, []), (22, 2, .bipush 16, 16, 0, []), (24, 1, .iload_n 1, 0, 1, []), (25, 1, .imul, 0, 0, []), (26, 1, .iload_n 2, 0, 2, []), (27, 1, .iadd, 0, 0, []), (28, 1, .iload_n 2, 0, 2, []), (29, 3, .ifCond .le 19, 0, 48, []), (32, 1, .iload_n 2, 0, 2, []), (33, 1, .iconst 5, 5, 0, []), (34, 3, .if_icmp .ge 14, 0, 48, []), (37, 1, .aload_n 0, 0, 0, []), (38, 3, .getfield 38, 0, 0, []), (41, 1, .iload_n 2, 0, 2, []), (42, 1, .iconst 1, 1, 0, []), (43, 1, .isub, 0, 0, []), (44, 1, .iaload, 0, 0, []), (45, 3, .goto 4, 0, 49, []), (48, 1, .iconst 0, 0, 0, []), (49, 1, .iastore, 0, 0, []), (50, 3, .iinc 2 1, 1, 2, []), (53, 3, .goto (-46), 0, 7, []), (56, 1, .iload_n 1, 0, 1, []), (57, 1, .ireturn, 0, 0, [])]
def x_i119 : xI := (⟨"DeskMachineModel", "makes", "()I"⟩, prog_10_method_36_code, 3, some .int, 1, x_p119, xc_119, [(7, [0, 1, 2])], 2, 42, 0, 8)
-- 120: DeskMachineModel.least(II)I
def x_p120 : List (Nat × xE) := []
def xc_120 : List (Nat × xO) := [(0, 1, .iload_n 0, 0, 0, []), (1, 1, .iload_n 1, 0, 1, []), (2, 3, .if_icmp .ge 7, 0, 9, []), (5, 1, .iload_n 0, 0, 0, []), (6, 3, .goto 4, 0, 10, []), (9, 1, .iload_n 1, 0, 1, []), (10, 1, .ireturn, 0, 0, [])]
def x_i120 : xI := (⟨"DeskMachineModel", "least", "(II)I"⟩, prog_10_method_33_code, 2, some .int, 1, x_p120, xc_120, [], 0, 0, 2, 8)
-- 121: DeskMachineModel.used(I)Z
def x_p121 : List (Nat × xE) := [(13, 0, 8, 2, 0, false), (145, 1, 112, 1, 8, false), (148, 2, 120, 2, 0, false)]
def xc_121 : List (Nat × xO) := [(0, 1, .iconst 0, 0, 0, []), (1, 1, .istore_n 2, 0, 2, []), (2, 1, .iconst 0, 0, 0, []), (3, 1, .istore_n 3, 0, 3, []), (4, 1, .iload_n 3, 0, 3, []), (5, 2, .bipush 8, 8, 0, []), (7, 3, .if_icmp .ge 76, 0, 83, []), (10, 1, .iconst 0, 0, 0, []), (11, 2, .istore 4, 0, 4, []), (13, 2, .iload 4, 0, 4, []), (15, 1, .aload_n 0, 0, 0, []), (16, 3, .getfield 13, 0, 0, []), (19, 2, .bipush 16, 16, 0, []), (21, 1, .iload_n 3, 0, 3, []), (22, 1, .imul, 0, 0, []), (23, 1, .iconst 5, 5, 0, []), (24, 1, .iadd, 0, 0, []), (25, 1, .iaload, 0, 0, []), (26, 2, .bipush 10, 10, 0, []), (28, 3, .invokestatic 148, 0, 0, []), (31, 3, .if_icmp .ge 46, 0, 77, []), (34, 1, .iload_n 2, 0, 2, []), (35, 3, .ifCond .ne 30, 0, 65, []), (38, 1, .aload_n 0, 0, 0, []), (39, 1, .iload_n 3, 0, 3, []), (40, 3, .invokevirtual 145, 0, 0, []), (43, 3, .ifCond .ne 26, 0, 69, []), (46, 1, .aload_n 0, 0, 0, []), (47, 3, .getfield 13, 0, 0, []), (50, 2, .bipush 16, 16, 0, []), (52, 1, .iload_n 3, 0, 3, []), (53, 1, .imul, 0, 0, []), (54, 2, .bipush 6, 6, 0, []), (56, 1, .iadd, 0, 0, []), (57, 2, .iload 4, 0, 4, []), (59, 1, .iadd, 0, 0, []), (60, 1, .iaload, 0, 0, []), (61, 1, .iload_n 1, 0, 1, []), (62, 3, .if_icmp .ne 7, 0, 69, []), (65, 1, .iconst 1, 1, 0, []), (66, 3, .goto 4, 0, 70, []), (69, 1, .iconst 0, 0, 0, []), (70, 1, .istore_n 2, 0, 2, []), (71, 3, .iinc 4 1, 1, 4, []), (74, 3, .goto (-61), 0, 13, []), (77, 3, .iinc 3 1, 1, 3, []), (80, 3, .goto (-76), 0, 4, []), (83, 1, .iload_n 2, 0, 2, []), (84, 1, .ireturn, 0, 0, [])]
def x_i121 : xI := (⟨"DeskMachineModel", "used", "(I)Z"⟩, prog_10_method_34_code, 5, some .boolean, 2, x_p121, xc_121, [(4, [0, 1, 2, 3]), (13, [0, 1, 2, 3, 4])], 1, 21, 1, 8)
-- 122: DeskMachineModel.get(I)I
def x_p122 : List (Nat × xE) := [(7, 0, 8, 1, 0, false)]
def xc_122 : List (Nat × xO) := [(0, 1, .aload_n 0, 0, 0, []), (1, 3, .getfield 7, 0, 0, []), (4, 1, .iload_n 1, 0, 1, []), (5, 3, .sipush 511, 511, 0, []), (8, 1, .iand, 0, 0, []), (9, 1, .iaload, 0, 0, []), (10, 1, .ireturn, 0, 0, [])]
def x_i122 : xI := (⟨"DeskMachineModel", "get", "(I)I"⟩, prog_10_method_3_code, 2, some .int, 1, x_p122, xc_122, [], 0, 0, 1, 8)
-- 123: DeskMachineModel.freeBlock(I)I
def x_p123 : List (Nat × xE) := [(44, 1, 122, 1, 8, false), (148, 2, 120, 2, 0, false), (151, 1, 121, 1, 8, false)]
def xc_123 : List (Nat × xO) := [(0, 2, .bipush 8, 8, 0, []), (2, 1, .istore_n 2, 0, 2, []), (3, 1, .iload_n 2, 0, 2, []), (4, 2, .bipush 32, 32, 0, []), (6, 3, .if_icmp .ge 77, 0, 83, []), (9, 1, .aload_n 0, 0, 0, []), (10, 1, .iload_n 2, 0, 2, []), (11, 3, .invokevirtual 151, 0, 0, []), (14, 1, .istore_n 3, 0, 3, []), (15, 1, .iconst 0, 0, 0, []), (16, 2, .istore 4, 0, 4, []), (18, 1, .iload_n 1, 0, 1, []), (19, 1, .iconst (-1), (-1), 0, []), (20, 3, .if_icmp .eq 51, 0, 71, []), (23, 2, .iload 4, 0, 4, []), (25, 1, .aload_n 0, 0, 0, []), (26, 1, .iload_n 1, 0, 1, []), (27, 1, .iconst 5, 5, 0, []), (28, 1, .iadd, 0, 0, []), (29, 3, .invokevirtual 44, 0, 0, []), (32, 2, .bipush 10, 10, 0, []), (34, 3, .invokestatic 148, 0, 0, []), (37, 3, .if_icmp .ge 34, 0, 71, []), (40, 1, .iload_n 3, 0, 3, []), (41, 3, .ifCond .ne 18, 0, 59, []), (44, 1, .aload_n 0, 0, 0, []), (45, 1, .iload_n 1, 0, 1, []), (46, 2, .bipush 6, 6, 0, []), (48, 1, .iadd, 0, 0, []), (49, 2, .iload 4, 0, 4, []), (51, 1, .iadd, 0, 0, []), (52, 3, .invokevirtual 44, 0, 0, []), (55, 1, .iload_n 2, 0, 2, []), (56, 3, .if_icmp .ne 7, 0, 63, []), (59, 1, .iconst 1, 1, 0, []), (60, 3, .goto 4, 0, 64, []), (63, 1, .iconst 0, 0, 0, []), (64, 1, .istore_n 3, 0, 3, []), (65, 3, .iinc 4 1, 1, 4, []), (68, 3, .goto (-50), 0, 18, []), (71, 1, .iload_n 3, 0, 3, []), (72, 3, .ifCond .ne 5, 0, 77, []), (75, 1, .iload_n 2, 0, 2, []), (76, 1, .ireturn, 0, 0, []), (77, 3, .iinc 2 1, 1, 2, []), (80, 3, .goto (-77), 0, 3, []), (83, 1, .iconst (-1), (-1), 0, []), (84, 1, .ireturn, 0, 0, [])]
def x_i123 : xI := (⟨"DeskMachineModel", "freeBlock", "(I)I"⟩, prog_10_method_35_code, 5, some .int, 1, x_p123, xc_123, [(3, [0, 1, 2]), (18, [0, 1, 2, 3, 4])], 2, 45, 1, 8)
-- 124: DeskMachineModel.saves(I)Z
def x_p124 : List (Nat × xE) := [(13, 0, 8, 2, 0, false), (44, 1, 122, 1, 8, false), (157, 1, 116, 2, 8, false), (164, 1, 123, 1, 8, false), (182, 1, 119, 0, 8, false)]
def xc_124 : List (Nat × xO) := [(0, 1, .aload_n 0, 0, 0, []), (1, 1, .iconst 0, 0, 0, []), (2, 1, .iconst 0, 0, 0, []), (3, 3, .invokevirtual 157, 0, 0, []), (6, 1, .istore_n 2, 0, 2, []), (7, 1, .iload_n 2, 0, 2, []), (8, 1, .iconst (-1), (-1), 0, []), (9, 3, .if_icmp .eq 15, 0, 24, []), (12, 1, .aload_n 0, 0, 0, []), (13, 3, .getfield 13, 0, 0, []), (16, 2, .bipush 16, 16, 0, []), (18, 1, .iload_n 2, 0, 2, []), (19, 1, .imul, 0, 0, []), (20, 3, .sipush 229, 229, 0, []), (23, 1, .iastore, 0, 0, []), (24, 1, .aload_n 0, 0, 0, []), (25, 3, .invokevirtual 182, 0, 0, []), (28, 1, .istore_n 3, 0, 3, []), (29, 1, .iload_n 3, 0, 3, []), (30, 1, .iconst (-1), (-1), 0, []), (31, 3, .if_icmp .ne 5, 0, 36, []), (34, 1, .iconst 0, 0, 0, []), (35, 1, .ireturn, 0, 0, []), (36, 1, .iconst 0, 0, 0, []), (37, 2, .istore 4, 0, 4, []), (39, 2, .iload 4, 0, 4, []), (41, 1, .iload_n 1, 0, 1, []), (42, 3, .if_icmp .ge 101, 0, 143, []), (45, 1, .aload_n 0, 0, 0, []), (46, 1, .iconst (-1), (-1), 0, []), (47, 3, .invokevirtual 164, 0, 0, []), (50, 2, .istore 5, 0, 5, []), (52, 2, .iload 5, 0, 5, []), (54, 1, .iconst (-1), (-1), 0, []), (55, 3, .if_icmp .ne 5, 0, 60, []), (58, 1, .iconst 0, 0, 0, []), (59, 1, .ireturn, 0, 0, []), (60, 1, .aload_n 0, 0, 0, []), (61, 3, .getfield 13, 0, 0, []), (64, 2, .bipush 16, 16, 0, []), (66, 1, .iload_n 3, 0, 3, []), (67, 1, .imul, 0, 0, []), (68, 2, .bipush 6, 6, 0, []), (70, 1, .iadd, 0, 0, []), (71, 2, .iload 4, 0, 4, []), (73, 1, .iadd, 0, 0, []), (74, 2, .iload 5, 0, 5, []), (76, 1, .iastore, 0, 0, []), (77, 1, .aload_n 0, 0, 0, []), (78, 3, .getfield 13, 0, 0, []), (81, 2, .bipush 16, 16, 0, []), (83, 1, .iload_n 3, 0, 3, []), (84, 1, .imul, 0, 0, []), (85, 1, .iconst 5, 5, 0, []), (86, 1, .iadd, 0, 0, []), (87, 2, .iload 4, 0, 4, []), (89, 1, .iconst 1, 1, 0, []), (90, 1, .iadd, 0, 0, []), (91, 1, .iastore, 0, 0, []), (92, 1, .iconst 0, 0, 0, []), (93, 2, .istore 6, 0, 6, []), (95, 2, .iload 6, 0, 6, []), (97, 2, .bipush 16, 16, 0, []), (99, 3, .if_icmp .ge 38, 0, 137, []), (102, 1, .aload_n 0, 0, 0, []), (103, 3, .getfield 13, 0, 0, []), (106, 2, .bipush 16, 16, 0, []), (108, 2, .iload 5, 0, 5, []), (110, 1, .imul, 0, 0, []), (111, 2, .iload 6, 0, 6, []), (113, 1, .iadd, 0, 0, []), (114, 1, .aload_n 0, 0, 0, []), (115, 3, .sipush 256, 256, 0, []), (118, 2, .bipush 16, 16, 0, []), (120, 2, .iload 4, 0, 4, []), (122, 1, .imul, 0, 0, []), (123, 1, .iadd, 0, 0, []), (124, 2, .iload 6, 0, 6, []), (126, 1, .iadd, 0, 0, []), (127, 3, .invokevirtual 44, 0, 0, []), (130, 1, .iastore, 0, 0, []), (131, 3, .iinc 6 1, 1, 6, []), (134, 3, .goto (-39), 0, 95, []), (137, 3, .iinc 4 1, 1, 4, []), (140, 3, .goto (-101), 0, 39, []), (143, 1, .iconst 1, 1, 0, []), (144, 1, .ireturn, 0, 0, [])]
def x_i124 : xI := (⟨"DeskMachineModel", "saves", "(I)Z"⟩, prog_10_method_52_code, 7, some .boolean, 2, x_p124, xc_124, [(39, [0, 1, 3, 4]), (95, [0, 1, 3, 4, 5, 6])], 3, 69, 1, 8)
-- 125: DeskMachineModel.isData(I)Z
def x_p125 : List (Nat × xE) := []
def xc_125 : List (Nat × xO) := [(0, 1, .iload_n 0, 0, 0, []), (1, 2, .bipush 8, 8, 0, []), (3, 3, .if_icmp .lt 13, 0, 16, []), (6, 1, .iload_n 0, 0, 0, []), (7, 2, .bipush 31, 31, 0, []), (9, 3, .if_icmp .gt 7, 0, 16, []), (12, 1, .iconst 1, 1, 0, []), (13, 3, .goto 4, 0, 17, []), (16, 1, .iconst 0, 0, 0, []), (17, 1, .ireturn, 0, 0, [])]
def x_i125 : xI := (⟨"DeskMachineModel", "isData", "(I)Z"⟩, prog_10_method_32_code, 1, some .boolean, 2, x_p125, xc_125, [], 0, 0, 1, 8)
-- 126: DeskMachineModel.types(I)V
def x_p126 : List (Nat × xE) := [(13, 0, 8, 2, 0, false), (148, 2, 120, 2, 0, false), (161, 2, 125, 1, 0, false), (191, 1, 113, 1, 8, true)]
def xc_126 : List (Nat × xO) := [(0, 1, .iconst 1, 1, 0, []), (1, 1, .istore_n 2, 0, 2, []), (2, 1, .iconst 0, 0, 0, []), (3, 1, .istore_n 3, 0, 3, []), (4, 1, .iload_n 3, 0, 3, []), (5, 1, .aload_n 0, 0, 0, []), (6, 3, .getfield 13, 0, 0, []), (9, 2, .bipush 16, 16, 0, []), (11, 1, .iload_n 1, 0, 1, []), (12, 1, .imul, 0, 0, []), (13, 1, .iconst 5, 5, 0, []), (14, 1, .iadd, 0, 0, []), (15, 1, .iaload, 0, 0, []), (16, 2, .bipush 10, 10, 0, []), (18, 3, .invokestatic 148, 0, 0, []), (21, 3, .if_icmp .ge 98, 0, 119, []), (24, 1, .aload_n 0, 0, 0, []), (25, 3, .getfield 13, 0, 0, []), (28, 2, .bipush 16, 16, 0, []), (30, 1, .iload_n 1, 0, 1, []), (31, 1, .imul, 0, 0, []), (32, 2, .bipush 6, 6, 0, []), (34, 1, .iadd, 0, 0, []), (35, 1, .iload_n 3, 0, 3, []), (36, 1, .iadd, 0, 0, []), (37, 1, .iaload, 0, 0, []), (38, 2, .istore 4, 0, 4, []), (40, 1, .iconst 0, 0, 0, []), (41, 2, .istore 5, 0, 5, []), (43, 2, .iload 5, 0, 5, []), (45, 2, .bipush 16, 16, 0, []), (47, 3, .if_icmp .ge 66, 0, 113, []), (50, 1, .iload_n 2, 0, 2, []), (51, 3, .ifCond .eq 62, 0, 113, []), (54, 2, .iload 4, 0, 4, []), (56, 3, .invokestatic 161, 0, 0, []), (59, 3, .ifCond .eq 54, 0, 113, []), (62, 1, .aload_n 0, 0, 0, []), (63, 3, .getfield 13, 0, 0, []), (66, 2, .bipush 16, 16, 0, []), (68, 2, .iload 4, 0, 4, []), (70, 1, .imul, 0, 0, []), (71, 2, .iload 5, 0, 5, []), (73, 1, .iadd, 0, 0, []), (74, 1, .iaload, 0, 0, []), (75, 2, .bipush 26, 26, 0, []), (77, 3, .if_icmp .eq 7, 0, 84, []), (80, 1, .iconst 1, 1, 0, []), (81, 3, .goto 4, 0, 85, []), (84, 1, .iconst 0, 0, 0, []), (85, 1, .istore_n 2, 0, 2, []), (86, 1, .iload_n 2, 0, 2, []), (87, 3, .ifCond .eq 20, 0, 107, []), (90, 1, .aload_n 0, 0, 0, []), (91, 1, .aload_n 0, 0, 0, []), (92, 3, .getfield 13, 0, 0, []), (95, 2, .bipush 16, 16, 0, []), (97, 2, .iload 4, 0, 4, []), (99, 1, .imul, 0, 0, []), (100, 2, .iload 5, 0, 5, []), (102, 1, .iadd, 0, 0, []), (103, 1, .iaload, 0, 0, []), (104, 3, .invokevirtual 191, 0, 0, []), (107, 3, .iinc 5 1, 1, 5, []), (110, 3, .goto (-67), 0, 43, []), (113, 3, .iinc 3 1, 1, 3, []), (116, 3, .goto (-112), 0, 4, []), (119, 1, .return_, 0, 0, [])]
def x_i126 : xI := (⟨"DeskMachineModel", "types", "(I)V"⟩, prog_10_method_51_code, 6, none, 0, x_p126, xc_126, [(4, [0, 1, 2, 3]), (43, [0, 1, 2, 3, 4, 5])], 1, 21, 1, 8)
-- 127: DeskMachineModel.put(II)V
def x_p127 : List (Nat × xE) := [(7, 0, 8, 1, 0, false)]
def xc_127 : List (Nat × xO) := [(0, 1, .aload_n 0, 0, 0, []), (1, 3, .getfield 7, 0, 0, []), (4, 1, .iload_n 1, 0, 1, []), (5, 3, .sipush 511, 511, 0, []), (8, 1, .iand, 0, 0, []), (9, 1, .iload_n 2, 0, 2, []), (10, 3, .sipush 255, 255, 0, []), (13, 1, .iand, 0, 0, []), (14, 1, .iastore, 0, 0, []), (15, 1, .return_, 0, 0, [])]
def x_i127 : xI := (⟨"DeskMachineModel", "put", "(II)V"⟩, prog_10_method_4_code, 3, none, 0, x_p127, xc_127, [], 0, 0, 2, 8)
-- 128: DeskMachineModel.setFlags(I)V
def x_p128 : List (Nat × xE) := [(65, 0, 8, 7, 0, true), (68, 0, 8, 8, 0, true), (71, 0, 8, 10, 0, true), (74, 0, 8, 9, 0, true), (77, 0, 8, 11, 0, true)]
def xc_128 : List (Nat × xO) := [(0, 1, .aload_n 0, 0, 0, []), (1, 1, .iload_n 1, 0, 1, []), (2, 2, .bipush 7, 7, 0, []), (4, 1, .ishr, 0, 0, []), (5, 1, .iconst 1, 1, 0, []), (6, 1, .iand, 0, 0, []), (7, 3, .putfield 65, 0, 0, []), (10, 1, .aload_n 0, 0, 0, []), (11, 1, .iload_n 1, 0, 1, []), (12, 2, .bipush 6, 6, 0, []), (14, 1, .ishr, 0, 0, []), (15, 1, .iconst 1, 1, 0, []), (16, 1, .iand, 0, 0, []), (17, 3, .putfield 68, 0, 0, []), (20, 1, .aload_n 0, 0, 0, []), (21, 1, .iload_n 1, 0, 1, []), (22, 1, .iconst 4, 4, 0, []), (23, 1, .ishr, 0, 0, []), (24, 1, .iconst 1, 1, 0, []), (25, 1, .iand, 0, 0, []), (26, 3, .putfield 71, 0, 0, []), (29, 1, .aload_n 0, 0, 0, []), (30, 1, .iload_n 1, 0, 1, []), (31, 1, .iconst 2, 2, 0, []), (32, 1, .ishr, 0, 0, []), (33, 1, .iconst 1, 1, 0, []), (34, 1, .iand, 0, 0, []), (35, 3, .putfield 74, 0, 0, []), (38, 1, .aload_n 0, 0, 0, []), (39, 1, .iload_n 1, 0, 1, []), (40, 1, .iconst 1, 1, 0, []), (41, 1, .iand, 0, 0, []), (42, 3, .putfield 77, 0, 0, []), (45, 1, .return_, 0, 0, [])]
def x_i128 : xI := (⟨"DeskMachineModel", "setFlags", "(I)V"⟩, prog_10_method_14_code, 2, none, 0, x_p128, xc_128, [], 0, 0, 1, 8)
-- 129: DeskMachineModel.putWord(II)V
def x_p129 : List (Nat × xE) := [(48, 1, 127, 2, 8, true)]
def xc_129 : List (Nat × xO) := [(0, 1, .aload_n 0, 0, 0, []), (1, 1, .iload_n 1, 0, 1, []), (2, 1, .iload_n 2, 0, 2, []), (3, 3, .invokevirtual 48, 0, 0, []), (6, 1, .aload_n 0, 0, 0, []), (7, 1, .iload_n 1, 0, 1, []), (8, 1, .iconst 1, 1, 0, []), (9, 1, .iadd, 0, 0, []), (10, 1, .iload_n 2, 0, 2, []), (11, 2, .bipush 8, 8, 0, []), (13, 1, .ishr, 0, 0, []), (14, 3, .invokevirtual 48, 0, 0, []), (17, 1, .return_, 0, 0, [])]
def x_i129 : xI := (⟨"DeskMachineModel", "putWord", "(II)V"⟩, prog_10_method_6_code, 3, none, 0, x_p129, xc_129, [], 1, 22, 2, 8)
-- 130: DeskMachineModel.push(I)V
def x_p130 : List (Nat × xE) := [(52, 0, 8, 4, 0, true), (55, 4, 65535, 0, 0, false), (59, 1, 129, 2, 8, true)]
def xc_130 : List (Nat × xO) := [(0, 1, .aload_n 0, 0, 0, []), (1, 1, .aload_n 0, 0, 0, []), (2, 3, .getfield 52, 0, 0, []), (5, 1, .iconst 2, 2, 0, []), (6, 1, .isub, 0, 0, []), (7, 2, .ldc 55, 0, 0, []), (9, 1, .iand, 0, 0, []), (10, 3, .putfield 52, 0, 0, []), (13, 1, .aload_n 0, 0, 0, []), (14, 1, .aload_n 0, 0, 0, []), (15, 3, .getfield 52, 0, 0, []), (18, 1, .iload_n 1, 0, 1, []), (19, 3, .invokevirtual 59, 0, 0, []), (22, 1, .return_, 0, 0, [])]
def x_i130 : xI := (⟨"DeskMachineModel", "push", "(I)V"⟩, prog_10_method_11_code, 2, none, 0, x_p130, xc_130, [], 2, 44, 1, 8)
-- 131: DeskMachineModel.loads(I)V
def x_p131 : List (Nat × xE) := [(13, 0, 8, 2, 0, false), (16, 0, 8, 3, 0, false), (19, 0, 8, 6, 0, true), (23, 0, 8, 12, 0, true), (48, 1, 127, 2, 8, true), (52, 0, 8, 4, 0, true), (94, 0, 8, 5, 0, true), (113, 1, 130, 1, 8, true), (119, 1, 128, 1, 8, true), (148, 2, 120, 2, 0, false), (161, 2, 125, 1, 0, false)]
def xc_131 : List (Nat × xO) := [(0, 1, .iconst 0, 0, 0, []), (1, 1, .istore_n 2, 0, 2, []), (2, 1, .iload_n 2, 0, 2, []), (3, 1, .aload_n 0, 0, 0, []), (4, 3, .getfield 13, 0, 0, []), (7, 2, .bipush 16, 16, 0, []), (9, 1, .iload_n 1, 0, 1, []), (10, 1, .imul, 0, 0, []), (11, 1, .iconst 5, 5, 0, []), (12, 1, .iadd, 0, 0, []), (13, 1, .iaload, 0, 0, []), (14, 2, .bipush 10, 10, 0, []), (16, 3, .invokestatic 148, 0, 0, []), (19, 3, .if_icmp .ge 74, 0, 93, []), (22, 1, .aload_n 0, 0, 0, []), (23, 3, .getfield 13, 0, 0, []), (26, 2, .bipush 16, 16, 0, []), (28, 1, .iload_n 1, 0, 1, []), (29, 1, .imul, 0, 0, []), (30, 2, .bipush 6, 6, 0, []), (32, 1, .iadd, 0, 0, []), (33, 1, .iload_n 2, 0, 2, []), (34, 1, .iadd, 0, 0, []), (35, 1, .iaload, 0, 0, []), (36, 1, .istore_n 3, 0, 3, []), (37, 1, .iconst 0, 0, 0, []), (38, 2, .istore 4, 0, 4, []), (40, 2, .iload 4, 0, 4, []), (42, 2, .bipush 16, 16, 0, []), (44, 3, .if_icmp .ge 43, 0, 87, []), (47, 1, .iload_n 3, 0, 3, []), (48, 3, .invokestatic 161, 0, 0, []), (51, 3, .ifCond .eq 36, 0, 87, []), (54, 1, .aload_n 0, 0, 0, []), (55, 3, .sipush 256, 256, 0, []), (58, 2, .bipush 16, 16, 0, []), (60, 1, .iload_n 2, 0, 2, []), (61, 1, .imul, 0, 0, []), (62, 1, .iadd, 0, 0, []), (63, 2, .iload 4, 0, 4, []), (65, 1, .iadd, 0, 0, []), (66, 1, .aload_n 0, 0, 0, []), (67, 3, .getfield 13, 0, 0, []), (70, 2, .bipush 16, 16, 0, []), (72, 1, .iload_n 3, 0, 3, []), (73, 1, .imul, 0, 0, []), (74, 2, .iload 4, 0, 4, []), (76, 1, .iadd, 0, 0, []), (77, 1, .iaload, 0, 0, []), (78, 3, .invokevirtual 48, 0, 0, []), (81, 3, .iinc 4 1, 1, 4, []), (84, 3, .goto (-44), 0, 40, []), (87, 3, .iinc 2 1, 1, 2, []), (90, 3, .goto (-88), 0, 2, []), (93, 1, .iconst 0, 0, 0, []), (94, 1, .istore_n 2, 0, 2, []), (95, 1, .iload_n 2, 0, 2, []), (96, 2, .bipush 8, 8, 0, []), (98, 3, .if_icmp .ge 16, 0, 114, []), (101, 1, .aload_n 0, 0, 0, []), (102, 3, .getfield 16, 0, 0, []), (105, 1, .iload_n 2, 0, 2, []), (106, 1, .iconst 0, 0, 0, []), (107, 1, .iastore, 0, 0, []), (108, 3, .iinc 2 1, 1, 2, []), (111, 3, .goto (-16), 0, 95, []), (114, 1, .aload_n 0, 0, 0, []), (115, 1, .iconst 0, 0, 0, []), (116, 3, .invokevirtual 119, 0, 0, []), (119, 1, .aload_n 0, 0, 0, []), (120, 3, .sipush 496, 496, 0, []), (123, 3, .putfield 52, 0, 0, []), (126, 1, .aload_n 0, 0, 0, []), (127, 1, .iconst 0, 0, 0, []), (128, 3, .invokevirtual 113, 0, 0, []), (131, 1, .aload_n 0, 0, 0, []), (132, 3, .sipush 256, 256, 0, []), (135, 3, .putfield 94, 0, 0, []), (138, 1, .aload_n 0, 0, 0, []), (139, 3, .sipush 128, 128, 0, []), (142, 3, .putfield 19, 0, 0, []), (145, 1, .aload_n 0, 0, 0, []), (146, 1, .iconst 1, 1, 0, []), (147, 3, .putfield 23, 0, 0, []), (150, 1, .return_, 0, 0, [])]
def x_i131 : xI := (⟨"DeskMachineModel", "loads", "(I)V"⟩, prog_10_method_53_code, 5, none, 0, x_p131, xc_131, [(2, [0, 1, 2]), (40, [0, 1, 2, 3, 4]), (95, [0, 2])], 3, 65, 1, 8)
-- 132: DeskMachineModel.command()Z
def x_p132 : List (Nat × xE) := [(13, 0, 8, 2, 0, false), (38, 0, 8, 21, 0, false), (157, 1, 116, 2, 8, false), (173, 1, 117, 0, 8, false), (206, 1, 110, 2, 8, false), (209, 1, 109, 1, 8, false), (212, 1, 111, 4, 8, false), (216, 1, 114, 0, 8, true), (219, 1, 115, 1, 8, true), (222, 1, 124, 1, 8, false), (225, 1, 126, 1, 8, true), (228, 1, 131, 1, 8, true)]
def xc_132 : List (Nat × xO) := [(0, 1, .aload_n 0, 0, 0, []), (1, 1, .iconst 0, 0, 0, []), (2, 3, .invokevirtual 209, 0, 0, []), (5, 3, .ifCond .ne 5, 0, 10, []), (8, 1, .iconst 1, 1, 0, []), (9, 1, .ireturn, 0, 0, []), (10, 1, .aload_n 0, 0, 0, []), (11, 2, .bipush 76, 76, 0, []), (13, 2, .bipush 73, 73, 0, []), (15, 2, .bipush 83, 83, 0, []), (17, 2, .bipush 84, 84, 0, []), (19, 3, .invokevirtual 212, 0, 0, []), (22, 3, .ifCond .eq 9, 0, 31, []), (25, 1, .aload_n 0, 0, 0, []), (26, 3, .invokevirtual 216, 0, 0, []), (29, 1, .iconst 1, 1, 0, []), (30, 1, .ireturn, 0, 0, []), (31, 1, .aload_n 0, 0, 0, []), (32, 2, .bipush 83, 83, 0, []), (34, 2, .bipush 72, 72, 0, []), (36, 2, .bipush 79, 79, 0, []), (38, 2, .bipush 87, 87, 0, []), (40, 3, .invokevirtual 212, 0, 0, []), (43, 1, .istore_n 1, 0, 1, []), (44, 1, .aload_n 0, 0, 0, []), (45, 2, .bipush 68, 68, 0, []), (47, 2, .bipush 82, 82, 0, []), (49, 2, .bipush 79, 79, 0, []), (51, 2, .bipush 80, 80, 0, []), (53, 3, .invokevirtual 212, 0, 0, []), (56, 1, .istore_n 2, 0, 2, []), (57, 1, .aload_n 0, 0, 0, []), (58, 2, .bipush 67, 67, 0, []), (60, 2, .bipush 65, 65, 0, []), (62, 2, .bipush 76, 76, 0, []), (64, 2, .bipush 76, 76, 0, []), (66, 3, .invokevirtual 212, 0, 0, []), (69, 1, .istore_n 3, 0, 3, []), (70, 1, .aload_n 0, 0, 0, []), (71, 2, .bipush 83, 83, 0, []), (73, 2, .bipush 65, 65, 0, []), (75, 2, .bipush 86, 86, 0, []), (77, 2, .bipush 69, 69, 0, []), (79, 3, .invokevirtual 212, 0, 0, []), (82, 2, .istore 4, 0, 4, []), (84, 1, .iload_n 1, 0, 1, []), (85, 3, .ifCond .ne 7, 0, 92, []), (88, 1, .iload_n 2, 0, 2, []), (89, 3, .ifCond .eq 11, 0, 100, []), (92, 1, .aload_n 0, 0, 0, []), (93, 1, .iconst 1, 1, 0, []), (94, 3, .invokevirtual 209, 0, 0, []), (97, 3, .ifCond .eq 20, 0, 117, []), (100, 1, .iload_n 3, 0, 3, []), (101, 3, .ifCond .ne 8, 0, 109, []), (104, 2, .iload 4, 0, 4, []), (106, 3, .ifCond .eq 13, 0, 119, []), (109, 1, .aload_n 0, 0, 0, []), (110, 1, .iconst 2, 2, 0, []), (111, 3, .invokevirtual 209, 0, 0, []), (114, 3, .ifCond .ne 5, 0, 119, []), (117, 1, .iconst 0, 0, 0, []), (118, 1, .ireturn, 0, 0, []), (119, 1, .iload_n 2, 0, 2, []), (120, 3, .ifCond .eq 25, 0, 145, []), (123, 1, .aload_n 0, 0, 0, []), (124, 1, .iconst 1, 1, 0, []), (125, 3, .invokevirtual 219, 0, 0, []), (128, 1, .aload_n 0, 0, 0, []), (129, 3, .invokevirtual 173, 0, 0, []), (132, 2, .istore 5, 0, 5, []), (134, 2, .iload 5, 0, 5, []), (136, 3, .ifCond .lt 7, 0, 143, []), (139, 1, .iconst 1, 1, 0, []), (140, 3, .goto 4, 0, 144, []), (143, 1, .iconst 0, 0, 0, []), (144, 1, .ireturn, 0, 0, []), (145, 2, .iload 4, 0, 4, []), (147, 3, .ifCond .eq 69, 0, 216, []), (150, 1, .aload_n 0, 0, 0, []), (151, 1, .iconst 1, 1, 0, []), (152, 1, .iconst 0, 0, 0, []), (153, 3, .invokevirtual 206, 0, 0, []), (156, 2, .bipush 48, 48, 0, []), (158, 1, .isub, 0, 0, []), (159, 2, .istore 5, 0, 5, []), (161, 1, .aload_n 0, 0, 0, []), (162, 1, .iconst 2, 2, 0, []), (163, 3, .invokevirtual 219, 0, 0, []), (166, 2, .iload 5, 0, 5, []), (168, 3, .ifCond .lt 25, 0, 193, []), (171, 2, .iload 5, 0, 5, []), (173, 2, .bipush 9, 9, 0, []), (175, 3, .if_icmp .gt 18, 0, 193, []), (178, 1, .aload_n 0, 0, 0, []), (179, 1, .iconst 1, 1, 0, []), (180, 1, .iconst 1, 1, 0, []), (181, 3, .invokevirtual 206, 0, 0, []), (184, 2, .bipush 32, 32, 0, []), (186, 3, .if_icmp .ne 7, 0, 193, []), (189, 1, .iconst 1, 1, 0, []), (190, 3, .goto 4, 0, 194, []), (193, 1, .iconst 0, 0, 0, []), (194, 2, .istore 6, 0, 6, []), (196, 2, .iload 6, 0, 6, []), (198, 3, .ifCond .eq 16, 0, 214, []), (201, 1, .aload_n 0, 0, 0, []), (202, 2, .iload 5, 0, 5, []), (204, 3, .invokevirtual 222, 0, 0, []), (207, 3, .ifCond .eq 7, 0, 214, []), (210, 1, .iconst 1, 1, 0, []), (211, 3, .goto 4, 0, 215, []), (214, 1, .iconst 0, 0, 0, []), (215, 1, .ireturn, 0, 0, []), (216, 1, .aload_n 0, 0, 0, []), (217, 1, .iload_n 1, 0, 1, []), (218, 3, .ifCond .ne 7, 0, 225, []), (221, 1, .iload_n 3, 0, 3, []), (222, 3, .ifCond .eq 7, 0, 229, []), (225, 1, .iconst 1, 1, 0, []), (226, 3, .goto 4, 0, 230, []), (229, 1, .iconst 0, 0, 0, []), (230, 3, .invokevirtual 219, 0, 0, []), (233, 1, .aload_n 0, 0, 0, []), (234, 1, .iconst 0, 0, 0, []), (235, 1, .iconst 0, 0, 0, []), (236, 3, .invokevirtual 157, 0, 0, []), (239, 2, .istore 5, 0, 5, []), (241, 2, .iload 5, 0, 5, []), (243, 1, .iconst (-1), (-1), 0, []), (244, 3, .if_icmp .ne 5, 0, 249, []), (247, 1, .iconst 0, 0, 0, []), (248, 1, .ireturn, 0, 0, []), (249, 1, .iload_n 1, 0, 1, []), (250, 3, .ifCond .eq 12, 0, 262, []), (253, 1, .aload_n 0, 0, 0, []), (254, 2, .iload 5, 0, 5, []), (256, 3, .invokevirtual 225, 0, 0, []), (259, 3, .goto 58, 0, 317, []), (262, 1, .iload_n 3, 0, 3, []), (263, 3, .ifCond .eq 48, 0, 311, []), (266, 1, .aload_n 0, 0, 0, []), (267, 1, .iconst 2, 2, 0, []), (268, 3, .invokevirtual 219, 0, 0, []), (271, 1, .iconst 0, 0, 0, []), (272, 2, .istore 6, 0, 6, []), (274, 2, .iload 6, 0, 6, []), (276, 1, .iconst 4, 4, 0, []), (277, 3, .if_icmp .ge 31, 0, 308, []), (280, 1, .aload_n 0, 0, 0, []), (281, 3, .getfield 13, 0, 0, []), (284, 2, .bipush 16, 16, 0, []), (286, 2, .iload 5, 0, 5, []), (288, 1, .imul, 0, 0, []), (289, 1, .iconst 1, 1, 0, []), (290, 1, .iadd, 0, 0, []), (291, 2, .iload 6, 0, 6, []), (293, 1, .iadd, 0, 0, []), (294, 1, .aload_n 0, 0, 0, []), (295, 3, .getfield 38, 0, 0, []), (298, 2, .iload 6, 0, 6, []), (300, 1, .iaload, 0, 0, []), (301, 1, .iastore, 0, 0, []), (302, 3, .iinc 6 1, 1, 6, []), (305, 3, .goto (-31), 0, 274, []), (308, 3, .goto 9, 0, 317, []), (311, 1, .aload_n 0, 0, 0, []), (312, 2, .iload 5, 0, 5, []), (314, 3, .invokevirtual 228, 0, 0, []), (317, 1, .iconst 1, 1, 0, []), (318, 1, .ireturn, 0, 0, [])]
def x_i132 : xI := (⟨"DeskMachineModel", "command", "()Z"⟩, prog_10_method_54_code, 7, some .boolean, 2, x_p132, xc_132, [(119, [0, 1, 2, 3, 4]), (274, [0, 5, 6])], 4, 95, 0, 8)
-- 133: DeskMachineModel.typed(I)V
def x_p133 : List (Nat × xE) := [(23, 0, 8, 12, 0, true), (29, 0, 8, 16, 0, false), (191, 1, 113, 1, 8, true), (200, 0, 8, 15, 0, true), (231, 1, 132, 0, 8, false)]
def xc_133 : List (Nat × xO) := [(0, 1, .iload_n 1, 0, 1, []), (1, 2, .bipush 13, 13, 0, []), (3, 3, .if_icmp .eq 45, 0, 48, []), (6, 1, .iload_n 1, 0, 1, []), (7, 2, .bipush 32, 32, 0, []), (9, 3, .if_icmp .lt 38, 0, 47, []), (12, 1, .iload_n 1, 0, 1, []), (13, 2, .bipush 126, 126, 0, []), (15, 3, .if_icmp .gt 32, 0, 47, []), (18, 1, .aload_n 0, 0, 0, []), (19, 3, .getfield 200, 0, 0, []), (22, 2, .bipush 20, 20, 0, []), (24, 3, .if_icmp .ge 23, 0, 47, []), (27, 1, .aload_n 0, 0, 0, []), (28, 3, .getfield 29, 0, 0, []), (31, 1, .aload_n 0, 0, 0, []), (32, 3, .getfield 200, 0, 0, []), (35, 1, .iload_n 1, 0, 1, []), (36, 1, .iastore, 0, 0, []), (37, 1, .aload_n 0, 0, 0, []), (38, 1, .dup, 0, 0, []), (39, 3, .getfield 200, 0, 0, []), (42, 1, .iconst 1, 1, 0, []), (43, 1, .iadd, 0, 0, []), (44, 3, .putfield 200, 0, 0, []), (47, 1, .return_, 0, 0, []), (48, 1, .aload_n 0, 0, 0, []), (49, 3, .invokevirtual 231, 0, 0, []), (52, 1, .istore_n 2, 0, 2, []), (53, 1, .iload_n 2, 0, 2, []), (54, 3, .ifCond .ne 9, 0, 63, []), (57, 1, .aload_n 0, 0, 0, []), (58, 2, .bipush 63, 63, 0, []), (60, 3, .invokevirtual 191, 0, 0, []), (63, 1, .aload_n 0, 0, 0, []), (64, 2, .bipush 13, 13, 0, []), (66, 3, .invokevirtual 191, 0, 0, []), (69, 1, .aload_n 0, 0, 0, []), (70, 3, .getfield 23, 0, 0, []), (73, 3, .ifCond .ne 9, 0, 82, []), (76, 1, .aload_n 0, 0, 0, []), (77, 2, .bipush 62, 62, 0, []), (79, 3, .invokevirtual 191, 0, 0, []), (82, 1, .aload_n 0, 0, 0, []), (83, 1, .iconst 0, 0, 0, []), (84, 3, .putfield 200, 0, 0, []), (87, 1, .return_, 0, 0, [])]
def x_i133 : xI := (⟨"DeskMachineModel", "typed", "(I)V"⟩, prog_10_method_55_code, 3, none, 0, x_p133, xc_133, [], 5, 121, 1, 8)
-- 134: DeskMachineModel.pair(I)I
def x_p134 : List (Nat × xE) := [(16, 0, 8, 3, 0, false), (52, 0, 8, 4, 0, true)]
def xc_134 : List (Nat × xO) := [(0, 1, .iload_n 1, 0, 1, []), (1, 1, .iconst 3, 3, 0, []), (2, 3, .if_icmp .ne 10, 0, 12, []), (5, 1, .aload_n 0, 0, 0, []), (6, 3, .getfield 52, 0, 0, []), (9, 3, .goto 26, 0, 35, []), (12, 3, .sipush 256, 256, 0, []), (15, 1, .aload_n 0, 0, 0, []), (16, 3, .getfield 16, 0, 0, []), (19, 1, .iconst 2, 2, 0, []), (20, 1, .iload_n 1, 0, 1, []), (21, 1, .imul, 0, 0, []), (22, 1, .iaload, 0, 0, []), (23, 1, .imul, 0, 0, []), (24, 1, .aload_n 0, 0, 0, []), (25, 3, .getfield 16, 0, 0, []), (28, 1, .iconst 2, 2, 0, []), (29, 1, .iload_n 1, 0, 1, []), (30, 1, .imul, 0, 0, []), (31, 1, .iconst 1, 1, 0, []), (32, 1, .iadd, 0, 0, []), (33, 1, .iaload, 0, 0, []), (34, 1, .iadd, 0, 0, []), (35, 1, .ireturn, 0, 0, [])]
def x_i134 : xI := (⟨"DeskMachineModel", "pair", "(I)I"⟩, prog_10_method_7_code, 2, some .int, 1, x_p134, xc_134, [], 0, 0, 1, 8)
-- 135: DeskMachineModel.nameAt(I)V
def x_p135 : List (Nat × xE) := [(38, 0, 8, 21, 0, false), (44, 1, 122, 1, 8, false)]
def xc_135 : List (Nat × xO) := [(0, 1, .iconst 0, 0, 0, []), (1, 1, .istore_n 2, 0, 2, []), (2, 1, .iload_n 2, 0, 2, []), (3, 1, .iconst 4, 4, 0, []), (4, 3, .if_icmp .ge 22, 0, 26, []), (7, 1, .aload_n 0, 0, 0, []), (8, 3, .getfield 38, 0, 0, []), (11, 1, .iload_n 2, 0, 2, []), (12, 1, .aload_n 0, 0, 0, []), (13, 1, .iload_n 1, 0, 1, []), (14, 1, .iload_n 2, 0, 2, []), (15, 1, .iadd, 0, 0, []), (16, 3, .invokevirtual 44, 0, 0, []), (19, 1, .iastore, 0, 0, []), (20, 3, .iinc 2 1, 1, 2, []), (23, 3, .goto (-21), 0, 2, []), (26, 1, .return_, 0, 0, [])]
def x_i135 : xI := (⟨"DeskMachineModel", "nameAt", "(I)V"⟩, prog_10_method_31_code, 3, none, 0, x_p135, xc_135, [(2, [0, 1, 2])], 1, 21, 1, 8)
-- 136: DeskMachineModel.searches(I)I
def x_p136 : List (Nat × xE) := [(13, 0, 8, 2, 0, false), (19, 0, 8, 6, 0, true), (35, 0, 8, 20, 0, true), (48, 1, 127, 2, 8, true), (157, 1, 116, 2, 8, false)]
def xc_136 : List (Nat × xO) := [(0, 1, .aload_n 0, 0, 0, []), (1, 1, .iload_n 1, 0, 1, []), (2, 1, .iconst 1, 1, 0, []), (3, 3, .invokevirtual 157, 0, 0, []), (6, 1, .istore_n 2, 0, 2, []), (7, 1, .iconst 0, 0, 0, []), (8, 1, .istore_n 3, 0, 3, []), (9, 1, .iload_n 3, 0, 3, []), (10, 2, .bipush 16, 16, 0, []), (12, 3, .if_icmp .ge 35, 0, 47, []), (15, 1, .iload_n 2, 0, 2, []), (16, 1, .iconst (-1), (-1), 0, []), (17, 3, .if_icmp .eq 30, 0, 47, []), (20, 1, .aload_n 0, 0, 0, []), (21, 1, .aload_n 0, 0, 0, []), (22, 3, .getfield 19, 0, 0, []), (25, 1, .iload_n 3, 0, 3, []), (26, 1, .iadd, 0, 0, []), (27, 1, .aload_n 0, 0, 0, []), (28, 3, .getfield 13, 0, 0, []), (31, 2, .bipush 16, 16, 0, []), (33, 1, .iload_n 2, 0, 2, []), (34, 1, .imul, 0, 0, []), (35, 1, .iload_n 3, 0, 3, []), (36, 1, .iadd, 0, 0, []), (37, 1, .iaload, 0, 0, []), (38, 3, .invokevirtual 48, 0, 0, []), (41, 3, .iinc 3 1, 1, 3, []), (44, 3, .goto (-35), 0, 9, []), (47, 1, .aload_n 0, 0, 0, []), (48, 1, .iload_n 2, 0, 2, []), (49, 1, .iconst (-1), (-1), 0, []), (50, 3, .if_icmp .ne 8, 0, 58, []), (53, 2, .bipush 8, 8, 0, []), (55, 3, .goto 4, 0, 59, []), (58, 1, .iload_n 2, 0, 2, []), (59, 3, .putfield 35, 0, 0, []), (62, 1, .iload_n 2, 0, 2, []), (63, 1, .iconst (-1), (-1), 0, []), (64, 3, .if_icmp .ne 9, 0, 73, []), (67, 3, .sipush 255, 255, 0, []), (70, 3, .goto 4, 0, 74, []), (73, 1, .iload_n 2, 0, 2, []), (74, 1, .ireturn, 0, 0, [])]
def x_i136 : xI := (⟨"DeskMachineModel", "searches", "(I)I"⟩, prog_10_method_40_code, 4, some .int, 1, x_p136, xc_136, [(9, [0, 2, 3])], 2, 46, 1, 8)
-- 137: DeskMachineModel.reads(I)I
def x_p137 : List (Nat × xE) := [(13, 0, 8, 2, 0, false), (19, 0, 8, 6, 0, true), (44, 1, 122, 1, 8, false), (48, 1, 127, 2, 8, true), (161, 2, 125, 1, 0, false)]
def xc_137 : List (Nat × xO) := [(0, 1, .aload_n 0, 0, 0, []), (1, 1, .iload_n 1, 0, 1, []), (2, 2, .bipush 16, 16, 0, []), (4, 1, .iadd, 0, 0, []), (5, 3, .invokevirtual 44, 0, 0, []), (8, 1, .istore_n 2, 0, 2, []), (9, 1, .iload_n 2, 0, 2, []), (10, 2, .bipush 9, 9, 0, []), (12, 3, .if_icmp .le 7, 0, 19, []), (15, 1, .iconst 0, 0, 0, []), (16, 3, .goto 13, 0, 29, []), (19, 1, .aload_n 0, 0, 0, []), (20, 1, .iload_n 1, 0, 1, []), (21, 2, .bipush 6, 6, 0, []), (23, 1, .iadd, 0, 0, []), (24, 1, .iload_n 2, 0, 2, []), (25, 1, .iadd, 0, 0, []), (26, 3, .invokevirtual 44, 0, 0, []), (29, 1, .istore_n 3, 0, 3, []), (30, 1, .iload_n 2, 0, 2, []), (31, 2, .bipush 9, 9, 0, []), (33, 3, .if_icmp .gt 21, 0, 54, []), (36, 1, .iload_n 2, 0, 2, []), (37, 1, .aload_n 0, 0, 0, []), (38, 1, .iload_n 1, 0, 1, []), (39, 1, .iconst 5, 5, 0, []), (40, 1, .iadd, 0, 0, []), (41, 3, .invokevirtual 44, 0, 0, []), (44, 3, .if_icmp .ge 10, 0, 54, []), (47, 1, .iload_n 3, 0, 3, []), (48, 3, .invokestatic 161, 0, 0, []), (51, 3, .ifCond .ne 5, 0, 56, []), (54, 1, .iconst 1, 1, 0, []), (55, 1, .ireturn, 0, 0, []), (56, 1, .iconst 0, 0, 0, []), (57, 2, .istore 4, 0, 4, []), (59, 2, .iload 4, 0, 4, []), (61, 2, .bipush 16, 16, 0, []), (63, 3, .if_icmp .ge 32, 0, 95, []), (66, 1, .aload_n 0, 0, 0, []), (67, 1, .aload_n 0, 0, 0, []), (68, 3, .getfield 19, 0, 0, []), (71, 2, .iload 4, 0, 4, []), (73, 1, .iadd, 0, 0, []), (74, 1, .aload_n 0, 0, 0, []), (75, 3, .getfield 13, 0, 0, []), (78, 2, .bipush 16, 16, 0, []), (80, 1, .iload_n 3, 0, 3, []), (81, 1, .imul, 0, 0, []), (82, 2, .iload 4, 0, 4, []), (84, 1, .iadd, 0, 0, []), (85, 1, .iaload, 0, 0, []), (86, 3, .invokevirtual 48, 0, 0, []), (89, 3, .iinc 4 1, 1, 4, []), (92, 3, .goto (-33), 0, 59, []), (95, 1, .aload_n 0, 0, 0, []), (96, 1, .iload_n 1, 0, 1, []), (97, 2, .bipush 16, 16, 0, []), (99, 1, .iadd, 0, 0, []), (100, 1, .iload_n 2, 0, 2, []), (101, 1, .iconst 1, 1, 0, []), (102, 1, .iadd, 0, 0, []), (103, 3, .invokevirtual 48, 0, 0, []), (106, 1, .iconst 0, 0, 0, []), (107, 1, .ireturn, 0, 0, [])]
def x_i137 : xI := (⟨"DeskMachineModel", "reads", "(I)I"⟩, prog_10_method_38_code, 5, some .int, 1, x_p137, xc_137, [(59, [0, 1, 2, 3, 4])], 1, 22, 1, 8)
-- 138: DeskMachineModel.writes(I)I
def x_p138 : List (Nat × xE) := [(13, 0, 8, 2, 0, false), (19, 0, 8, 6, 0, true), (44, 1, 122, 1, 8, false), (48, 1, 127, 2, 8, true), (161, 2, 125, 1, 0, false), (164, 1, 123, 1, 8, false)]
def xc_138 : List (Nat × xO) := [(0, 1, .aload_n 0, 0, 0, []), (1, 1, .iload_n 1, 0, 1, []), (2, 2, .bipush 16, 16, 0, []), (4, 1, .iadd, 0, 0, []), (5, 3, .invokevirtual 44, 0, 0, []), (8, 1, .istore_n 2, 0, 2, []), (9, 1, .iload_n 2, 0, 2, []), (10, 2, .bipush 9, 9, 0, []), (12, 3, .if_icmp .le 5, 0, 17, []), (15, 1, .iconst 1, 1, 0, []), (16, 1, .ireturn, 0, 0, []), (17, 1, .aload_n 0, 0, 0, []), (18, 1, .iload_n 1, 0, 1, []), (19, 2, .bipush 6, 6, 0, []), (21, 1, .iadd, 0, 0, []), (22, 1, .iload_n 2, 0, 2, []), (23, 1, .iadd, 0, 0, []), (24, 3, .invokevirtual 44, 0, 0, []), (27, 1, .istore_n 3, 0, 3, []), (28, 1, .iload_n 2, 0, 2, []), (29, 1, .aload_n 0, 0, 0, []), (30, 1, .iload_n 1, 0, 1, []), (31, 1, .iconst 5, 5, 0, []), (32, 1, .iadd, 0, 0, []), (33, 3, .invokevirtual 44, 0, 0, []), (36, 3, .if_icmp .ge 10, 0, 46, []), (39, 1, .iload_n 3, 0, 3, []), (40, 3, .invokestatic 161, 0, 0, []), (43, 3, .ifCond .ne 27, 0, 70, []), (46, 1, .aload_n 0, 0, 0, []), (47, 1, .iload_n 1, 0, 1, []), (48, 3, .invokevirtual 164, 0, 0, []), (51, 1, .istore_n 3, 0, 3, []), (52, 1, .iload_n 3, 0, 3, []), (53, 1, .iconst (-1), (-1), 0, []), (54, 3, .if_icmp .ne 5, 0, 59, []), (57, 1, .iconst 2, 2, 0, []), (58, 1, .ireturn, 0, 0, []), (59, 1, .aload_n 0, 0, 0, []), (60, 1, .iload_n 1, 0, 1, []), (61, 2, .bipush 6, 6, 0, []), (63, 1, .iadd, 0, 0, []), (64, 1, .iload_n 2, 0, 2, []), (65, 1, .iadd, 0, 0, []), (66, 1, .iload_n 3, 0, 3, []), (67, 3, .invokevirtual 48, 0, 0, []), (70, 1, .iconst 0, 0, 0, []), (71, 2, .istore 4, 0, 4, []), (73, 2, .iload 4, 0, 4, []), (75, 2, .bipush 16, 16, 0, []), (77, 3, .if_icmp .ge 32, 0, 109, []), (80, 1, .aload_n 0, 0, 0, []), (81, 3, .getfield 13, 0, 0, []), (84, 2, .bipush 16, 16, 0, []), (86, 1, .iload_n 3, 0, 3, []), (87, 1, .imul, 0, 0, []), (88, 2, .iload 4, 0, 4, []), (90, 1, .iadd, 0, 0, []), (91, 1, .aload_n 0, 0, 0, []), (92, 1, .aload_n 0, 0, 0, []), (93, 3, .getfield 19, 0, 0, []), (96, 2, .iload 4, 0, 4, []), (98, 1, .iadd, 0, 0, []), (99, 3, .invokevirtual 44, 0, 0, []), (102, 1, .iastore, 0, 0, []), (103, 3, .iinc 4 1, 1, 4, []), (106, 3, .goto (-33), 0, 73, []), (109, 1, .aload_n 0, 0, 0, []), (110, 1, .iload_n 1, 0, 1, []), (111, 1, .iconst 5, 5, 0, []), (112, 1, .iadd, 0, 0, []), (113, 1, .aload_n 0, 0, 0, []), (114, 1, .iload_n 1, 0, 1, []), (115, 1, .iconst 5, 5, 0, []), (116, 1, .iadd, 0, 0, []), (117, 3, .invokevirtual 44, 0, 0, []), (120, 1, .iload_n 2, 0, 2, []), (121, 1, .iconst 1, 1, 0, []), (122, 1, .iadd, 0, 0, []), (123, 3, .if_icmp .ge 9, 0, 132, []), (126, 1, .iload_n 2, 0, 2, []), (127, 1, .iconst 1, 1, 0, []), (128, 1, .iadd, 0, 0, []), (129, 3, .goto 10, 0, 139, []), (132, 1, .aload_n 0, 0, 0, []), (133, 1, .iload_n 1, 0, 1, []), (134, 1, .iconst 5, 5, 0, []), (135, 1, .iadd, 0, 0, []), (136, 3, .invokevirtual 44, 0, 0, []), (139, 3, .invokevirtual 48, 0, 0, []), (142, 1, .aload_n 0, 0, 0, []), (143, 1, .iload_n 1, 0, 1, []), (144, 2, .bipush 16, 16, 0, []), (146, 1, .iadd, 0, 0, []), (147, 1, .iload_n 2, 0, 2, []), (148, 1, .iconst 1, 1, 0, []), (149, 1, .iadd, 0, 0, []), (150, 3, .invokevirtual 48, 0, 0, []), (153, 1, .iconst 0, 0, 0, []), (154, 1, .ireturn, 0, 0, [])]
def x_i138 : xI := (⟨"DeskMachineModel", "writes", "(I)I"⟩, prog_10_method_39_code, 5, some .int, 1, x_p138, xc_138, [(73, [0, 1, 2, 3, 4])], 3, 69, 1, 8)
-- 139: DeskMachineModel.files(II)I
def x_p139 : List (Nat × xE) := [(13, 0, 8, 2, 0, false), (35, 0, 8, 20, 0, true), (44, 1, 122, 1, 8, false), (48, 1, 127, 2, 8, true), (157, 1, 116, 2, 8, false), (167, 1, 135, 1, 8, true), (170, 1, 136, 1, 8, false), (173, 1, 117, 0, 8, false), (176, 1, 137, 1, 8, false), (179, 1, 138, 1, 8, false), (182, 1, 119, 0, 8, false)]
def xc_139 : List (Nat × xO) := [(0, 1, .aload_n 0, 0, 0, []), (1, 1, .iload_n 2, 0, 2, []), (2, 1, .iconst 1, 1, 0, []), (3, 1, .iadd, 0, 0, []), (4, 3, .invokevirtual 167, 0, 0, []), (7, 1, .iload_n 1, 0, 1, []), (8, 2, .bipush 17, 17, 0, []), (10, 3, .if_icmp .ne 9, 0, 19, []), (13, 1, .aload_n 0, 0, 0, []), (14, 1, .iconst 0, 0, 0, []), (15, 3, .invokevirtual 170, 0, 0, []), (18, 1, .ireturn, 0, 0, []), (19, 1, .iload_n 1, 0, 1, []), (20, 2, .bipush 18, 18, 0, []), (22, 3, .if_icmp .ne 14, 0, 36, []), (25, 1, .aload_n 0, 0, 0, []), (26, 1, .aload_n 0, 0, 0, []), (27, 3, .getfield 35, 0, 0, []), (30, 1, .iconst 1, 1, 0, []), (31, 1, .iadd, 0, 0, []), (32, 3, .invokevirtual 170, 0, 0, []), (35, 1, .ireturn, 0, 0, []), (36, 1, .iload_n 1, 0, 1, []), (37, 2, .bipush 19, 19, 0, []), (39, 3, .if_icmp .ne 20, 0, 59, []), (42, 1, .aload_n 0, 0, 0, []), (43, 3, .invokevirtual 173, 0, 0, []), (46, 1, .istore_n 3, 0, 3, []), (47, 1, .iload_n 3, 0, 3, []), (48, 3, .ifCond .ne 9, 0, 57, []), (51, 3, .sipush 255, 255, 0, []), (54, 3, .goto 4, 0, 58, []), (57, 1, .iconst 0, 0, 0, []), (58, 1, .ireturn, 0, 0, []), (59, 1, .iload_n 1, 0, 1, []), (60, 2, .bipush 20, 20, 0, []), (62, 3, .if_icmp .ne 9, 0, 71, []), (65, 1, .aload_n 0, 0, 0, []), (66, 1, .iload_n 2, 0, 2, []), (67, 3, .invokevirtual 176, 0, 0, []), (70, 1, .ireturn, 0, 0, []), (71, 1, .iload_n 1, 0, 1, []), (72, 2, .bipush 21, 21, 0, []), (74, 3, .if_icmp .ne 9, 0, 83, []), (77, 1, .aload_n 0, 0, 0, []), (78, 1, .iload_n 2, 0, 2, []), (79, 3, .invokevirtual 179, 0, 0, []), (82, 1, .ireturn, 0, 0, []), (83, 1, .iload_n 1, 0, 1, []), (84, 2, .bipush 22, 22, 0, []), (86, 3, .if_icmp .ne 51, 0, 137, []), (89, 1, .aload_n 0, 0, 0, []), (90, 3, .invokevirtual 182, 0, 0, []), (93, 1, .istore_n 3, 0, 3, []), (94, 1, .iconst 5, 5, 0, []), (95, 2, .istore 4, 0, 4, []), (97, 2, .iload 4, 0, 4, []), (99, 2, .bipush 16, 16, 0, []), (101, 3, .if_icmp .ge 23, 0, 124, []), (104, 1, .iload_n 3, 0, 3, []), (105, 1, .iconst (-1), (-1), 0, []), (106, 3, .if_icmp .eq 18, 0, 124, []), (109, 1, .aload_n 0, 0, 0, []), (110, 1, .iload_n 2, 0, 2, []), (111, 2, .iload 4, 0, 4, []), (113, 1, .iadd, 0, 0, []), (114, 1, .iconst 0, 0, 0, []), (115, 3, .invokevirtual 48, 0, 0, []), (118, 3, .iinc 4 1, 1, 4, []), (121, 3, .goto (-24), 0, 97, []), (124, 1, .iload_n 3, 0, 3, []), (125, 1, .iconst (-1), (-1), 0, []), (126, 3, .if_icmp .ne 9, 0, 135, []), (129, 3, .sipush 255, 255, 0, []), (132, 3, .goto 4, 0, 136, []), (135, 1, .iload_n 3, 0, 3, []), (136, 1, .ireturn, 0, 0, []), (137, 1, .aload_n 0, 0, 0, []), (138, 1, .iconst 0, 0, 0, []), (139, 1, .iload_n 1, 0, 1, []), (140, 2, .bipush 15, 15, 0, []), (142, 3, .if_icmp .ne 7, 0, 149, []), (145, 1, .iconst 1, 1, 0, []), (146, 3, .goto 4, 0, 150, []), (149, 1, .iconst 0, 0, 0, []), (150, 3, .invokevirtual 157, 0, 0, []), (153, 1, .istore_n 3, 0, 3, []), (154, 1, .iload_n 3, 0, 3, []), (155, 1, .iconst (-1), (-1), 0, []), (156, 3, .if_icmp .ne 7, 0, 163, []), (159, 3, .sipush 255, 255, 0, []), (162, 1, .ireturn, 0, 0, []), (163, 1, .iconst 1, 1, 0, []), (164, 2, .istore 4, 0, 4, []), (166, 2, .iload 4, 0, 4, []), (168, 2, .bipush 16, 16, 0, []), (170, 3, .if_icmp .ge 35, 0, 205, []), (173, 1, .iload_n 1, 0, 1, []), (174, 2, .bipush 15, 15, 0, []), (176, 3, .if_icmp .ne 29, 0, 205, []), (179, 1, .aload_n 0, 0, 0, []), (180, 1, .iload_n 2, 0, 2, []), (181, 2, .iload 4, 0, 4, []), (183, 1, .iadd, 0, 0, []), (184, 1, .aload_n 0, 0, 0, []), (185, 3, .getfield 13, 0, 0, []), (188, 2, .bipush 16, 16, 0, []), (190, 1, .iload_n 3, 0, 3, []), (191, 1, .imul, 0, 0, []), (192, 2, .iload 4, 0, 4, []), (194, 1, .iadd, 0, 0, []), (195, 1, .iaload, 0, 0, []), (196, 3, .invokevirtual 48, 0, 0, []), (199, 3, .iinc 4 1, 1, 4, []), (202, 3, .goto (-36), 0, 166, []), (205, 1, .iconst 5, 5, 0, []), (206, 2, .istore 4, 0, 4, []), (208, 2, .iload 4, 0, 4, []), (210, 2, .bipush 16, 16, 0, []), (212, 3, .if_icmp .ge 35, 0, 247, []), (215, 1, .iload_n 1, 0, 1, []), (216, 2, .bipush 16, 16, 0, []), (218, 3, .if_icmp .ne 29, 0, 247, []), (221, 1, .aload_n 0, 0, 0, []), (222, 3, .getfield 13, 0, 0, []), (225, 2, .bipush 16, 16, 0, []), (227, 1, .iload_n 3, 0, 3, []), (228, 1, .imul, 0, 0, []), (229, 2, .iload 4, 0, 4, []), (231, 1, .iadd, 0, 0, []), (232, 1, .aload_n 0, 0, 0, []), (233, 1, .iload_n 2, 0, 2, []), (234, 2, .iload 4, 0, 4, []), (236, 1, .iadd, 0, 0, []), (237, 3, .invokevirtual 44, 0, 0, []), (240, 1, .iastore, 0, 0, []), (241, 3, .iinc 4 1, 1, 4, []), (244, 3, .goto (-36), 0, 208, []), (247, 1, .iconst 1, 1, 0, []), (248, 2, .istore 4, 0, 4, []), (250, 2, .iload 4, 0, 4, []), (252, 1, .iconst 5, 5, 0, []), (253, 3, .if_icmp .ge 38, 0, 291, []), (256, 1, .iload_n 1, 0, 1, []), (257, 2, .bipush 23, 23, 0, []), (259, 3, .if_icmp .ne 32, 0, 291, []), (262, 1, .aload_n 0, 0, 0, []), (263, 3, .getfield 13, 0, 0, []), (266, 2, .bipush 16, 16, 0, []), (268, 1, .iload_n 3, 0, 3, []), (269, 1, .imul, 0, 0, []), (270, 2, .iload 4, 0, 4, []), (272, 1, .iadd, 0, 0, []), (273, 1, .aload_n 0, 0, 0, []), (274, 1, .iload_n 2, 0, 2, []), (275, 2, .bipush 16, 16, 0, []), (277, 1, .iadd, 0, 0, []), (278, 2, .iload 4, 0, 4, []), (280, 1, .iadd, 0, 0, []), (281, 3, .invokevirtual 44, 0, 0, []), (284, 1, .iastore, 0, 0, []), (285, 3, .iinc 4 1, 1, 4, []), (288, 3, .goto (-38), 0, 250, []), (291, 1, .iload_n 1, 0, 1, []), (292, 2, .bipush 23, 23, 0, []), (294, 3, .if_icmp .ne 7, 0, 301, []), (297, 1, .iconst 0, 0, 0, []), (298, 3, .goto 4, 0, 302, []), (301, 1, .iload_n 3, 0, 3, []), (302, 1, .ireturn, 0, 0, [])]
def x_i139 : xI := (⟨"DeskMachineModel", "files", "(II)I"⟩, prog_10_method_41_code, 5, some .int, 1, x_p139, xc_139, [(97, [0, 2, 3, 4]), (166, [0, 1, 2, 3, 4]), (208, [0, 1, 2, 3, 4]), (250, [0, 1, 2, 3, 4])], 4, 93, 2, 8)
-- 140: DeskMachineModel.answer(II)I
def x_p140 : List (Nat × xE) := [(16, 0, 8, 3, 0, false), (19, 0, 8, 6, 0, true), (44, 1, 122, 1, 8, false), (185, 0, 8, 13, 0, true), (188, 1, 107, 0, 8, false), (191, 1, 113, 1, 8, true), (194, 1, 139, 2, 8, false)]
def xc_140 : List (Nat × xO) := [(0, 1, .iload_n 1, 0, 1, []), (1, 1, .iconst 1, 1, 0, []), (2, 3, .if_icmp .ne 17, 0, 19, []), (5, 1, .aload_n 0, 0, 0, []), (6, 3, .getfield 185, 0, 0, []), (9, 3, .ifCond .ne 5, 0, 14, []), (12, 1, .iconst (-1), (-1), 0, []), (13, 1, .ireturn, 0, 0, []), (14, 1, .aload_n 0, 0, 0, []), (15, 3, .invokevirtual 188, 0, 0, []), (18, 1, .ireturn, 0, 0, []), (19, 1, .iload_n 1, 0, 1, []), (20, 1, .iconst 2, 2, 0, []), (21, 3, .if_icmp .ne 15, 0, 36, []), (24, 1, .aload_n 0, 0, 0, []), (25, 1, .aload_n 0, 0, 0, []), (26, 3, .getfield 16, 0, 0, []), (29, 1, .iconst 3, 3, 0, []), (30, 1, .iaload, 0, 0, []), (31, 3, .invokevirtual 191, 0, 0, []), (34, 1, .iconst 0, 0, 0, []), (35, 1, .ireturn, 0, 0, []), (36, 1, .iload_n 1, 0, 1, []), (37, 2, .bipush 9, 9, 0, []), (39, 3, .if_icmp .ne 42, 0, 81, []), (42, 1, .iconst 0, 0, 0, []), (43, 1, .istore_n 3, 0, 3, []), (44, 1, .iload_n 3, 0, 3, []), (45, 2, .bipush 64, 64, 0, []), (47, 3, .if_icmp .ge 32, 0, 79, []), (50, 1, .aload_n 0, 0, 0, []), (51, 1, .iload_n 2, 0, 2, []), (52, 1, .iload_n 3, 0, 3, []), (53, 1, .iadd, 0, 0, []), (54, 3, .invokevirtual 44, 0, 0, []), (57, 2, .bipush 36, 36, 0, []), (59, 3, .if_icmp .eq 20, 0, 79, []), (62, 1, .aload_n 0, 0, 0, []), (63, 1, .aload_n 0, 0, 0, []), (64, 1, .iload_n 2, 0, 2, []), (65, 1, .iload_n 3, 0, 3, []), (66, 1, .iadd, 0, 0, []), (67, 3, .invokevirtual 44, 0, 0, []), (70, 3, .invokevirtual 191, 0, 0, []), (73, 3, .iinc 3 1, 1, 3, []), (76, 3, .goto (-32), 0, 44, []), (79, 1, .iconst 0, 0, 0, []), (80, 1, .ireturn, 0, 0, []), (81, 1, .iload_n 1, 0, 1, []), (82, 2, .bipush 11, 11, 0, []), (84, 3, .if_icmp .ne 18, 0, 102, []), (87, 1, .aload_n 0, 0, 0, []), (88, 3, .getfield 185, 0, 0, []), (91, 3, .ifCond .le 9, 0, 100, []), (94, 3, .sipush 255, 255, 0, []), (97, 3, .goto 4, 0, 101, []), (100, 1, .iconst 0, 0, 0, []), (101, 1, .ireturn, 0, 0, []), (102, 1, .iload_n 1, 0, 1, []), (103, 2, .bipush 26, 26, 0, []), (105, 3, .if_icmp .ne 10, 0, 115, []), (108, 1, .aload_n 0, 0, 0, []), (109, 1, .iload_n 2, 0, 2, []), (110, 3, .putfield 19, 0, 0, []), (113, 1, .iconst 0, 0, 0, []), (114, 1, .ireturn, 0, 0, []), (115, 1, .iload_n 1, 0, 1, []), (116, 2, .bipush 15, 15, 0, []), (118, 3, .if_icmp .lt 18, 0, 136, []), (121, 1, .iload_n 1, 0, 1, []), (122, 2, .bipush 23, 23, 0, []), (124, 3, .if_icmp .gt 12, 0, 136, []), (127, 1, .aload_n 0, 0, 0, []), (128, 1, .iload_n 1, 0, 1, []), (129, 1, .iload_n 2, 0, 2, []), (130, 3, .invokevirtual 194, 0, 0, []), (133, 3, .goto 4, 0, 137, []), (136, 1, .iconst 0, 0, 0, []), (137, 1, .ireturn, 0, 0, [])]
def x_i140 : xI := (⟨"DeskMachineModel", "answer", "(II)I"⟩, prog_10_method_43_code, 4, some .int, 1, x_p140, xc_140, [(44, [0, 2, 3])], 5, 117, 2, 8)
-- 141: DeskMachineModel.word(I)I
def x_p141 : List (Nat × xE) := [(44, 1, 122, 1, 8, false)]
def xc_141 : List (Nat × xO) := [(0, 1, .aload_n 0, 0, 0, []), (1, 1, .iload_n 1, 0, 1, []), (2, 3, .invokevirtual 44, 0, 0, []), (5, 3, .sipush 256, 256, 0, []), (8, 1, .aload_n 0, 0, 0, []), (9, 1, .iload_n 1, 0, 1, []), (10, 1, .iconst 1, 1, 0, []), (11, 1, .iadd, 0, 0, []), (12, 3, .invokevirtual 44, 0, 0, []), (15, 1, .imul, 0, 0, []), (16, 1, .iadd, 0, 0, []), (17, 1, .ireturn, 0, 0, [])]
def x_i141 : xI := (⟨"DeskMachineModel", "word", "(I)I"⟩, prog_10_method_5_code, 2, some .int, 1, x_p141, xc_141, [], 1, 21, 1, 8)
-- 142: DeskMachineModel.pop()I
def x_p142 : List (Nat × xE) := [(52, 0, 8, 4, 0, true), (55, 4, 65535, 0, 0, false), (62, 1, 141, 1, 8, false)]
def xc_142 : List (Nat × xO) := [(0, 1, .aload_n 0, 0, 0, []), (1, 1, .aload_n 0, 0, 0, []), (2, 3, .getfield 52, 0, 0, []), (5, 3, .invokevirtual 62, 0, 0, []), (8, 1, .istore_n 1, 0, 1, []), (9, 1, .aload_n 0, 0, 0, []), (10, 1, .aload_n 0, 0, 0, []), (11, 3, .getfield 52, 0, 0, []), (14, 1, .iconst 2, 2, 0, []), (15, 1, .iadd, 0, 0, []), (16, 2, .ldc 55, 0, 0, []), (18, 1, .iand, 0, 0, []), (19, 3, .putfield 52, 0, 0, []), (22, 1, .iload_n 1, 0, 1, []), (23, 1, .ireturn, 0, 0, [])]
def x_i142 : xI := (⟨"DeskMachineModel", "pop", "()I"⟩, prog_10_method_12_code, 2, some .int, 1, x_p142, xc_142, [], 2, 42, 0, 8)
-- 143: DeskMachineModel.call()Z
def x_p143 : List (Nat × xE) := [(16, 0, 8, 3, 0, false), (23, 0, 8, 12, 0, true), (56, 1, 134, 1, 8, false), (94, 0, 8, 5, 0, true), (116, 1, 142, 0, 8, false), (197, 1, 140, 2, 8, false)]
def xc_143 : List (Nat × xO) := [(0, 1, .aload_n 0, 0, 0, []), (1, 3, .getfield 16, 0, 0, []), (4, 1, .iconst 1, 1, 0, []), (5, 1, .iaload, 0, 0, []), (6, 1, .istore_n 1, 0, 1, []), (7, 1, .iload_n 1, 0, 1, []), (8, 3, .ifCond .ne 10, 0, 18, []), (11, 1, .aload_n 0, 0, 0, []), (12, 1, .iconst 0, 0, 0, []), (13, 3, .putfield 23, 0, 0, []), (16, 1, .iconst 1, 1, 0, []), (17, 1, .ireturn, 0, 0, []), (18, 1, .aload_n 0, 0, 0, []), (19, 1, .iload_n 1, 0, 1, []), (20, 1, .aload_n 0, 0, 0, []), (21, 1, .iconst 1, 1, 0, []), (22, 3, .invokevirtual 56, 0, 0, []), (25, 3, .invokevirtual 197, 0, 0, []), (28, 1, .istore_n 2, 0, 2, []), (29, 1, .aload_n 0, 0, 0, []), (30, 1, .iload_n 2, 0, 2, []), (31, 1, .iconst (-1), (-1), 0, []), (32, 3, .if_icmp .ne 7, 0, 39, []), (35, 1, .iconst 2, 2, 0, []), (36, 3, .goto 4, 0, 40, []), (39, 1, .iconst 1, 1, 0, []), (40, 3, .putfield 23, 0, 0, []), (43, 1, .iload_n 2, 0, 2, []), (44, 1, .iconst (-1), (-1), 0, []), (45, 3, .if_icmp .ne 5, 0, 50, []), (48, 1, .iconst 0, 0, 0, []), (49, 1, .ireturn, 0, 0, []), (50, 1, .aload_n 0, 0, 0, []), (51, 3, .getfield 16, 0, 0, []), (54, 2, .bipush 7, 7, 0, []), (56, 1, .iload_n 2, 0, 2, []), (57, 1, .iastore, 0, 0, []), (58, 1, .aload_n 0, 0, 0, []), (59, 1, .aload_n 0, 0, 0, []), (60, 3, .invokevirtual 116, 0, 0, []), (63, 3, .putfield 94, 0, 0, []), (66, 1, .iconst 1, 1, 0, []), (67, 1, .ireturn, 0, 0, [])]
def x_i143 : xI := (⟨"DeskMachineModel", "call", "()Z"⟩, prog_10_method_44_code, 3, some .boolean, 2, x_p143, xc_143, [], 6, 140, 0, 8)
-- 144: DeskMachineModel.setPair(II)V
def x_p144 : List (Nat × xE) := [(16, 0, 8, 3, 0, false), (52, 0, 8, 4, 0, true), (55, 4, 65535, 0, 0, false)]
def xc_144 : List (Nat × xO) := [(0, 1, .iload_n 1, 0, 1, []), (1, 1, .iconst 3, 3, 0, []), (2, 3, .if_icmp .ne 14, 0, 16, []), (5, 1, .aload_n 0, 0, 0, []), (6, 1, .iload_n 2, 0, 2, []), (7, 2, .ldc 55, 0, 0, []), (9, 1, .iand, 0, 0, []), (10, 3, .putfield 52, 0, 0, []), (13, 3, .goto 34, 0, 47, []), (16, 1, .aload_n 0, 0, 0, []), (17, 3, .getfield 16, 0, 0, []), (20, 1, .iconst 2, 2, 0, []), (21, 1, .iload_n 1, 0, 1, []), (22, 1, .imul, 0, 0, []), (23, 1, .iload_n 2, 0, 2, []), (24, 2, .bipush 8, 8, 0, []), (26, 1, .ishr, 0, 0, []), (27, 3, .sipush 255, 255, 0, []), (30, 1, .iand, 0, 0, []), (31, 1, .iastore, 0, 0, []), (32, 1, .aload_n 0, 0, 0, []), (33, 3, .getfield 16, 0, 0, []), (36, 1, .iconst 2, 2, 0, []), (37, 1, .iload_n 1, 0, 1, []), (38, 1, .imul, 0, 0, []), (39, 1, .iconst 1, 1, 0, []), (40, 1, .iadd, 0, 0, []), (41, 1, .iload_n 2, 0, 2, []), (42, 3, .sipush 255, 255, 0, []), (45, 1, .iand, 0, 0, []), (46, 1, .iastore, 0, 0, []), (47, 1, .return_, 0, 0, [])]
def x_i144 : xI := (⟨"DeskMachineModel", "setPair", "(II)V"⟩, prog_10_method_8_code, 3, none, 0, x_p144, xc_144, [], 0, 0, 2, 8)
-- 145: DeskMachineModel.moves(II)V
def x_p145 : List (Nat × xE) := [(16, 0, 8, 3, 0, false), (44, 1, 122, 1, 8, false), (48, 1, 127, 2, 8, true), (56, 1, 134, 1, 8, false), (59, 1, 129, 2, 8, true), (62, 1, 141, 1, 8, false), (91, 1, 144, 2, 8, true), (94, 0, 8, 5, 0, true)]
def xc_145 : List (Nat × xO) := [(0, 1, .iload_n 1, 0, 1, []), (1, 1, .iconst 2, 2, 0, []), (2, 3, .if_icmp .ge 11, 0, 13, []), (5, 1, .aload_n 0, 0, 0, []), (6, 1, .iconst 0, 0, 0, []), (7, 3, .invokevirtual 56, 0, 0, []), (10, 3, .goto 17, 0, 27, []), (13, 1, .iload_n 1, 0, 1, []), (14, 1, .iconst 4, 4, 0, []), (15, 3, .if_icmp .ge 11, 0, 26, []), (18, 1, .aload_n 0, 0, 0, []), (19, 1, .iconst 1, 1, 0, []), (20, 3, .invokevirtual 56, 0, 0, []), (23, 3, .goto 4, 0, 27, []), (26, 1, .iload_n 2, 0, 2, []), (27, 1, .istore_n 3, 0, 3, []), (28, 1, .iload_n 1, 0, 1, []), (29, 1, .iconst 4, 4, 0, []), (30, 3, .if_icmp .ne 16, 0, 46, []), (33, 1, .aload_n 0, 0, 0, []), (34, 1, .iload_n 2, 0, 2, []), (35, 1, .aload_n 0, 0, 0, []), (36, 1, .iconst 2, 2, 0, []), (37, 3, .invokevirtual 56, 0, 0, []), (40, 3, .invokevirtual 59, 0, 0, []), (43, 3, .goto 58, 0, 101, []), (46, 1, .iload_n 1, 0, 1, []), (47, 1, .iconst 5, 5, 0, []), (48, 3, .if_icmp .ne 20, 0, 68, []), (51, 1, .aload_n 0, 0, 0, []), (52, 1, .iload_n 2, 0, 2, []), (53, 3, .invokevirtual 62, 0, 0, []), (56, 2, .istore 4, 0, 4, []), (58, 1, .aload_n 0, 0, 0, []), (59, 1, .iconst 2, 2, 0, []), (60, 2, .iload 4, 0, 4, []), (62, 3, .invokevirtual 91, 0, 0, []), (65, 3, .goto 36, 0, 101, []), (68, 1, .iload_n 1, 0, 1, []), (69, 1, .iconst 2, 2, 0, []), (70, 1, .irem, 0, 0, []), (71, 3, .ifCond .ne 18, 0, 89, []), (74, 1, .aload_n 0, 0, 0, []), (75, 1, .iload_n 3, 0, 3, []), (76, 1, .aload_n 0, 0, 0, []), (77, 3, .getfield 16, 0, 0, []), (80, 2, .bipush 7, 7, 0, []), (82, 1, .iaload, 0, 0, []), (83, 3, .invokevirtual 48, 0, 0, []), (86, 3, .goto 15, 0, 101, []), (89, 1, .aload_n 0, 0, 0, []), (90, 3, .getfield 16, 0, 0, []), (93, 2, .bipush 7, 7, 0, []), (95, 1, .aload_n 0, 0, 0, []), (96, 1, .iload_n 3, 0, 3, []), (97, 3, .invokevirtual 44, 0, 0, []), (100, 1, .iastore, 0, 0, []), (101, 1, .aload_n 0, 0, 0, []), (102, 1, .dup, 0, 0, []), (103, 3, .getfield 94, 0, 0, []), (106, 1, .iload_n 1, 0, 1, []), (107, 1, .iconst 3, 3, 0, []), (108, 3, .if_icmp .le 7, 0, 115, []), (111, 1, .iconst 2, 2, 0, []), (112, 3, .goto 4, 0, 116, []), (115, 1, .iconst 0, 0, 0, []), (116, 1, .iadd, 0, 0, []), (117, 3, .putfield 94, 0, 0, []), (120, 1, .return_, 0, 0, [])]
def x_i145 : xI := (⟨"DeskMachineModel", "moves", "(II)V"⟩, prog_10_method_21_code, 5, none, 0, x_p145, xc_145, [(27, [0, 1, 2]), (101, [0, 1])], 2, 44, 2, 8)
-- 146: DeskMachineModel.valueOf(I)I
def x_p146 : List (Nat × xE) := [(16, 0, 8, 3, 0, false), (44, 1, 122, 1, 8, false), (56, 1, 134, 1, 8, false)]
def xc_146 : List (Nat × xO) := [(0, 1, .iload_n 1, 0, 1, []), (1, 2, .bipush 6, 6, 0, []), (3, 3, .if_icmp .ne 15, 0, 18, []), (6, 1, .aload_n 0, 0, 0, []), (7, 1, .aload_n 0, 0, 0, []), (8, 1, .iconst 2, 2, 0, []), (9, 3, .invokevirtual 56, 0, 0, []), (12, 3, .invokevirtual 44, 0, 0, []), (15, 3, .goto 9, 0, 24, []), (18, 1, .aload_n 0, 0, 0, []), (19, 3, .getfield 16, 0, 0, []), (22, 1, .iload_n 1, 0, 1, []), (23, 1, .iaload, 0, 0, []), (24, 1, .ireturn, 0, 0, [])]
def x_i146 : xI := (⟨"DeskMachineModel", "valueOf", "(I)I"⟩, prog_10_method_9_code, 2, some .int, 1, x_p146, xc_146, [], 1, 21, 1, 8)
-- 147: DeskMachineModel.setTo(II)V
def x_p147 : List (Nat × xE) := [(16, 0, 8, 3, 0, false), (48, 1, 127, 2, 8, true), (56, 1, 134, 1, 8, false)]
def xc_147 : List (Nat × xO) := [(0, 1, .iload_n 1, 0, 1, []), (1, 2, .bipush 6, 6, 0, []), (3, 3, .if_icmp .ne 16, 0, 19, []), (6, 1, .aload_n 0, 0, 0, []), (7, 1, .aload_n 0, 0, 0, []), (8, 1, .iconst 2, 2, 0, []), (9, 3, .invokevirtual 56, 0, 0, []), (12, 1, .iload_n 2, 0, 2, []), (13, 3, .invokevirtual 48, 0, 0, []), (16, 3, .goto 14, 0, 30, []), (19, 1, .aload_n 0, 0, 0, []), (20, 3, .getfield 16, 0, 0, []), (23, 1, .iload_n 1, 0, 1, []), (24, 1, .iload_n 2, 0, 2, []), (25, 3, .sipush 255, 255, 0, []), (28, 1, .iand, 0, 0, []), (29, 1, .iastore, 0, 0, []), (30, 1, .return_, 0, 0, [])]
def x_i147 : xI := (⟨"DeskMachineModel", "setTo", "(II)V"⟩, prog_10_method_10_code, 3, none, 0, x_p147, xc_147, [], 1, 22, 2, 8)
-- 148: DeskMachineModel.tells(I)V
def x_p148 : List (Nat × xE) := [(65, 0, 8, 7, 0, true), (68, 0, 8, 8, 0, true), (74, 0, 8, 9, 0, true)]
def xc_148 : List (Nat × xO) := [(0, 1, .iconst 0, 0, 0, []), (1, 1, .istore_n 2, 0, 2, []), (2, 1, .iconst 0, 0, 0, []), (3, 1, .istore_n 3, 0, 3, []), (4, 1, .iload_n 3, 0, 3, []), (5, 2, .bipush 8, 8, 0, []), (7, 3, .if_icmp .ge 17, 0, 24, []), (10, 1, .iload_n 2, 0, 2, []), (11, 1, .iload_n 1, 0, 1, []), (12, 1, .iload_n 3, 0, 3, []), (13, 1, .ishr, 0, 0, []), (14, 1, .iconst 1, 1, 0, []), (15, 1, .iand, 0, 0, []), (16, 1, .iadd, 0, 0, []), (17, 1, .istore_n 2, 0, 2, []), (18, 3, .iinc 3 1, 1, 3, []), (21, 3, .goto (-17), 0, 4, []), (24, 1, .aload_n 0, 0, 0, []), (25, 1, .iload_n 1, 0, 1, []), (26, 2, .bipush 7, 7, 0, []), (28, 1, .ishr, 0, 0, []), (29, 1, .iconst 1, 1, 0, []), (30, 1, .iand, 0, 0, []), (31, 3, .putfield 65, 0, 0, []), (34, 1, .aload_n 0, 0, 0, []), (35, 1, .iload_n 1, 0, 1, []), (36, 3, .ifCond .ne 7, 0, 43, []), (39, 1, .iconst 1, 1, 0, []), (40, 3, .goto 4, 0, 44, []), (43, 1, .iconst 0, 0, 0, []), (44, 3, .putfield 68, 0, 0, []), (47, 1, .aload_n 0, 0, 0, []), (48, 1, .iconst 1, 1, 0, []), (49, 1, .iload_n 2, 0, 2, []), (50, 1, .iconst 2, 2, 0, []), (51, 1, .irem, 0, 0, []), (52, 1, .isub, 0, 0, []), (53, 3, .putfield 74, 0, 0, []), (56, 1, .return_, 0, 0, [])]
def x_i148 : xI := (⟨"DeskMachineModel", "tells", "(I)V"⟩, prog_10_method_15_code, 4, none, 0, x_p148, xc_148, [(4, [0, 1, 2, 3])], 0, 0, 1, 8)
-- 149: DeskMachineModel.added(II)I
def x_p149 : List (Nat × xE) := [(16, 0, 8, 3, 0, false), (71, 0, 8, 10, 0, true), (77, 0, 8, 11, 0, true)]
def xc_149 : List (Nat × xO) := [(0, 1, .aload_n 0, 0, 0, []), (1, 3, .getfield 16, 0, 0, []), (4, 2, .bipush 7, 7, 0, []), (6, 1, .iaload, 0, 0, []), (7, 1, .iload_n 1, 0, 1, []), (8, 1, .iadd, 0, 0, []), (9, 1, .iload_n 2, 0, 2, []), (10, 1, .iadd, 0, 0, []), (11, 1, .istore_n 3, 0, 3, []), (12, 1, .aload_n 0, 0, 0, []), (13, 1, .aload_n 0, 0, 0, []), (14, 3, .getfield 16, 0, 0, []), (17, 2, .bipush 7, 7, 0, []), (19, 1, .iaload, 0, 0, []), (20, 2, .bipush 16, 16, 0, []), (22, 1, .irem, 0, 0, []), (23, 1, .iload_n 1, 0, 1, []), (24, 2, .bipush 16, 16, 0, []), (26, 1, .irem, 0, 0, []), (27, 1, .iadd, 0, 0, []), (28, 1, .iload_n 2, 0, 2, []), (29, 1, .iadd, 0, 0, []), (30, 2, .bipush 15, 15, 0, []), (32, 3, .if_icmp .le 7, 0, 39, []), (35, 1, .iconst 1, 1, 0, []), (36, 3, .goto 4, 0, 40, []), (39, 1, .iconst 0, 0, 0, []), (40, 3, .putfield 71, 0, 0, []), (43, 1, .aload_n 0, 0, 0, []), (44, 1, .iload_n 3, 0, 3, []), (45, 3, .sipush 255, 255, 0, []), (48, 3, .if_icmp .le 7, 0, 55, []), (51, 1, .iconst 1, 1, 0, []), (52, 3, .goto 4, 0, 56, []), (55, 1, .iconst 0, 0, 0, []), (56, 3, .putfield 77, 0, 0, []), (59, 1, .iload_n 3, 0, 3, []), (60, 3, .sipush 255, 255, 0, []), (63, 1, .iand, 0, 0, []), (64, 1, .ireturn, 0, 0, [])]
def x_i149 : xI := (⟨"DeskMachineModel", "added", "(II)I"⟩, prog_10_method_16_code, 4, some .int, 1, x_p149, xc_149, [], 0, 0, 2, 8)
-- 150: DeskMachineModel.adjusts()V
def x_p150 : List (Nat × xE) := [(16, 0, 8, 3, 0, false), (71, 0, 8, 10, 0, true), (77, 0, 8, 11, 0, true), (80, 1, 149, 2, 8, false), (84, 1, 148, 1, 8, true)]
def xc_150 : List (Nat × xO) := [(0, 1, .aload_n 0, 0, 0, []), (1, 3, .getfield 16, 0, 0, []), (4, 2, .bipush 7, 7, 0, []), (6, 1, .iaload, 0, 0, []), (7, 1, .istore_n 1, 0, 1, []), (8, 1, .iload_n 1, 0, 1, []), (9, 2, .bipush 16, 16, 0, []), (11, 1, .irem, 0, 0, []), (12, 2, .bipush 9, 9, 0, []), (14, 3, .if_icmp .gt 11, 0, 25, []), (17, 1, .aload_n 0, 0, 0, []), (18, 3, .getfield 71, 0, 0, []), (21, 1, .iconst 1, 1, 0, []), (22, 3, .if_icmp .ne 8, 0, 30, []), (25, 2, .bipush 6, 6, 0, []), (27, 3, .goto 4, 0, 31, []), (30, 1, .iconst 0, 0, 0, []), (31, 1, .istore_n 2, 0, 2, []), (32, 1, .iload_n 1, 0, 1, []), (33, 3, .sipush 153, 153, 0, []), (36, 3, .if_icmp .gt 11, 0, 47, []), (39, 1, .aload_n 0, 0, 0, []), (40, 3, .getfield 77, 0, 0, []), (43, 1, .iconst 1, 1, 0, []), (44, 3, .if_icmp .ne 7, 0, 51, []), (47, 1, .iconst 1, 1, 0, []), (48, 3, .goto 4, 0, 52, []), (51, 1, .iconst 0, 0, 0, []), (52, 1, .istore_n 3, 0, 3, []), (53, 1, .aload_n 0, 0, 0, []), (54, 1, .iload_n 2, 0, 2, []), (55, 2, .bipush 96, 96, 0, []), (57, 1, .iload_n 3, 0, 3, []), (58, 1, .imul, 0, 0, []), (59, 1, .iadd, 0, 0, []), (60, 1, .iconst 0, 0, 0, []), (61, 3, .invokevirtual 80, 0, 0, []), (64, 2, .istore 4, 0, 4, []), (66, 1, .aload_n 0, 0, 0, []), (67, 1, .iload_n 3, 0, 3, []), (68, 3, .putfield 77, 0, 0, []), (71, 1, .aload_n 0, 0, 0, []), (72, 3, .getfield 16, 0, 0, []), (75, 2, .bipush 7, 7, 0, []), (77, 2, .iload 4, 0, 4, []), (79, 1, .iastore, 0, 0, []), (80, 1, .aload_n 0, 0, 0, []), (81, 2, .iload 4, 0, 4, []), (83, 3, .invokevirtual 84, 0, 0, []), (86, 1, .return_, 0, 0, [])]
def x_i150 : xI := (⟨"DeskMachineModel", "adjusts", "()V"⟩, prog_10_method_19_code, 5, none, 0, x_p150, xc_150, [(31, [0, 1])], 1, 23, 0, 8)
-- 151: DeskMachineModel.turns(I)V
def x_p151 : List (Nat × xE) := [(16, 0, 8, 3, 0, false), (77, 0, 8, 11, 0, true), (88, 1, 150, 0, 8, true)]
def xc_151 : List (Nat × xO) := [(0, 1, .aload_n 0, 0, 0, []), (1, 3, .getfield 16, 0, 0, []), (4, 2, .bipush 7, 7, 0, []), (6, 1, .iaload, 0, 0, []), (7, 1, .istore_n 2, 0, 2, []), (8, 1, .iload_n 2, 0, 2, []), (9, 2, .bipush 7, 7, 0, []), (11, 1, .ishr, 0, 0, []), (12, 1, .istore_n 3, 0, 3, []), (13, 1, .iload_n 2, 0, 2, []), (14, 1, .iconst 1, 1, 0, []), (15, 1, .iand, 0, 0, []), (16, 2, .istore 4, 0, 4, []), (18, 1, .iload_n 1, 0, 1, []), (19, 1, .iconst 4, 4, 0, []), (20, 3, .if_icmp .ne 8, 0, 28, []), (23, 1, .aload_n 0, 0, 0, []), (24, 3, .invokevirtual 88, 0, 0, []), (27, 1, .return_, 0, 0, []), (28, 1, .iload_n 1, 0, 1, []), (29, 1, .iconst 4, 4, 0, []), (30, 3, .if_icmp .ge 79, 0, 109, []), (33, 1, .iload_n 1, 0, 1, []), (34, 3, .ifCond .ne 7, 0, 41, []), (37, 1, .iload_n 3, 0, 3, []), (38, 3, .goto 17, 0, 55, []), (41, 1, .iload_n 1, 0, 1, []), (42, 1, .iconst 1, 1, 0, []), (43, 3, .if_icmp .ne 8, 0, 51, []), (46, 2, .iload 4, 0, 4, []), (48, 3, .goto 7, 0, 55, []), (51, 1, .aload_n 0, 0, 0, []), (52, 3, .getfield 77, 0, 0, []), (55, 2, .istore 5, 0, 5, []), (57, 1, .aload_n 0, 0, 0, []), (58, 3, .getfield 16, 0, 0, []), (61, 2, .bipush 7, 7, 0, []), (63, 1, .iload_n 1, 0, 1, []), (64, 1, .iconst 2, 2, 0, []), (65, 1, .irem, 0, 0, []), (66, 3, .ifCond .ne 16, 0, 82, []), (69, 1, .iconst 2, 2, 0, []), (70, 1, .iload_n 2, 0, 2, []), (71, 1, .imul, 0, 0, []), (72, 3, .sipush 256, 256, 0, []), (75, 1, .irem, 0, 0, []), (76, 2, .iload 5, 0, 5, []), (78, 1, .iadd, 0, 0, []), (79, 3, .goto 13, 0, 92, []), (82, 1, .iload_n 2, 0, 2, []), (83, 1, .iconst 2, 2, 0, []), (84, 1, .idiv, 0, 0, []), (85, 3, .sipush 128, 128, 0, []), (88, 2, .iload 5, 0, 5, []), (90, 1, .imul, 0, 0, []), (91, 1, .iadd, 0, 0, []), (92, 1, .iastore, 0, 0, []), (93, 1, .aload_n 0, 0, 0, []), (94, 1, .iload_n 1, 0, 1, []), (95, 1, .iconst 2, 2, 0, []), (96, 1, .irem, 0, 0, []), (97, 3, .ifCond .ne 7, 0, 104, []), (100, 1, .iload_n 3, 0, 3, []), (101, 3, .goto 5, 0, 106, []), (104, 2, .iload 4, 0, 4, []), (106, 3, .putfield 77, 0, 0, []), (109, 1, .aload_n 0, 0, 0, []), (110, 3, .getfield 16, 0, 0, []), (113, 2, .bipush 7, 7, 0, []), (115, 1, .iload_n 1, 0, 1, []), (116, 1, .iconst 5, 5, 0, []), (117, 3, .if_icmp .ne 11, 0, 128, []), (120, 3, .sipush 255, 255, 0, []), (123, 1, .iload_n 2, 0, 2, []), (124, 1, .isub, 0, 0, []), (125, 3, .goto 10, 0, 135, []), (128, 1, .aload_n 0, 0, 0, []), (129, 3, .getfield 16, 0, 0, []), (132, 2, .bipush 7, 7, 0, []), (134, 1, .iaload, 0, 0, []), (135, 1, .iastore, 0, 0, []), (136, 1, .aload_n 0, 0, 0, []), (137, 1, .iload_n 1, 0, 1, []), (138, 2, .bipush 6, 6, 0, []), (140, 3, .if_icmp .ne 7, 0, 147, []), (143, 1, .iconst 1, 1, 0, []), (144, 3, .goto 22, 0, 166, []), (147, 1, .iload_n 1, 0, 1, []), (148, 2, .bipush 7, 7, 0, []), (150, 3, .if_icmp .ne 12, 0, 162, []), (153, 1, .iconst 1, 1, 0, []), (154, 1, .aload_n 0, 0, 0, []), (155, 3, .getfield 77, 0, 0, []), (158, 1, .isub, 0, 0, []), (159, 3, .goto 7, 0, 166, []), (162, 1, .aload_n 0, 0, 0, []), (163, 3, .getfield 77, 0, 0, []), (166, 3, .putfield 77, 0, 0, []), (169, 1, .return_, 0, 0, [])]
def x_i151 : xI := (⟨"DeskMachineModel", "turns", "(I)V"⟩, prog_10_method_20_code, 6, none, 0, x_p151, xc_151, [(55, [0, 1, 2, 3, 4]), (109, [0, 1, 2])], 2, 47, 1, 8)
-- 152: DeskMachineModel.steps0(II)V
def x_p152 : List (Nat × xE) := [(44, 1, 122, 1, 8, false), (55, 4, 65535, 0, 0, false), (56, 1, 134, 1, 8, false), (62, 1, 141, 1, 8, false), (71, 0, 8, 10, 0, true), (77, 0, 8, 11, 0, true), (84, 1, 148, 1, 8, true), (91, 1, 144, 2, 8, true), (94, 0, 8, 5, 0, true), (97, 1, 145, 2, 8, true), (100, 1, 146, 1, 8, false), (103, 1, 147, 2, 8, true), (106, 1, 151, 1, 8, true)]
def xc_152 : List (Nat × xO) := [(0, 1, .aload_n 0, 0, 0, []), (1, 1, .aload_n 0, 0, 0, []), (2, 3, .getfield 94, 0, 0, []), (5, 3, .invokevirtual 44, 0, 0, []), (8, 1, .istore_n 3, 0, 3, []), (9, 1, .aload_n 0, 0, 0, []), (10, 1, .aload_n 0, 0, 0, []), (11, 3, .getfield 94, 0, 0, []), (14, 3, .invokevirtual 62, 0, 0, []), (17, 2, .istore 4, 0, 4, []), (19, 1, .iload_n 1, 0, 1, []), (20, 1, .iconst 2, 2, 0, []), (21, 1, .idiv, 0, 0, []), (22, 2, .istore 5, 0, 5, []), (24, 1, .iload_n 2, 0, 2, []), (25, 1, .iconst 1, 1, 0, []), (26, 3, .if_icmp .ne 30, 0, 56, []), (29, 1, .iload_n 1, 0, 1, []), (30, 1, .iconst 2, 2, 0, []), (31, 1, .irem, 0, 0, []), (32, 3, .ifCond .ne 24, 0, 56, []), (35, 1, .aload_n 0, 0, 0, []), (36, 2, .iload 5, 0, 5, []), (38, 2, .iload 4, 0, 4, []), (40, 3, .invokevirtual 91, 0, 0, []), (43, 1, .aload_n 0, 0, 0, []), (44, 1, .dup, 0, 0, []), (45, 3, .getfield 94, 0, 0, []), (48, 1, .iconst 2, 2, 0, []), (49, 1, .iadd, 0, 0, []), (50, 3, .putfield 94, 0, 0, []), (53, 3, .goto 216, 0, 269, []), (56, 1, .iload_n 2, 0, 2, []), (57, 1, .iconst 1, 1, 0, []), (58, 3, .if_icmp .ne 43, 0, 101, []), (61, 1, .aload_n 0, 0, 0, []), (62, 1, .iconst 2, 2, 0, []), (63, 3, .invokevirtual 56, 0, 0, []), (66, 1, .aload_n 0, 0, 0, []), (67, 2, .iload 5, 0, 5, []), (69, 3, .invokevirtual 56, 0, 0, []), (72, 1, .iadd, 0, 0, []), (73, 2, .istore 6, 0, 6, []), (75, 1, .aload_n 0, 0, 0, []), (76, 2, .iload 6, 0, 6, []), (78, 2, .ldc 55, 0, 0, []), (80, 3, .if_icmp .le 7, 0, 87, []), (83, 1, .iconst 1, 1, 0, []), (84, 3, .goto 4, 0, 88, []), (87, 1, .iconst 0, 0, 0, []), (88, 3, .putfield 77, 0, 0, []), (91, 1, .aload_n 0, 0, 0, []), (92, 1, .iconst 2, 2, 0, []), (93, 2, .iload 6, 0, 6, []), (95, 3, .invokevirtual 91, 0, 0, []), (98, 3, .goto 171, 0, 269, []), (101, 1, .iload_n 2, 0, 2, []), (102, 1, .iconst 2, 2, 0, []), (103, 3, .if_icmp .ne 13, 0, 116, []), (106, 1, .aload_n 0, 0, 0, []), (107, 1, .iload_n 1, 0, 1, []), (108, 2, .iload 4, 0, 4, []), (110, 3, .invokevirtual 97, 0, 0, []), (113, 3, .goto 156, 0, 269, []), (116, 1, .iload_n 2, 0, 2, []), (117, 1, .iconst 3, 3, 0, []), (118, 3, .if_icmp .ne 30, 0, 148, []), (121, 1, .aload_n 0, 0, 0, []), (122, 2, .iload 5, 0, 5, []), (124, 1, .aload_n 0, 0, 0, []), (125, 2, .iload 5, 0, 5, []), (127, 3, .invokevirtual 56, 0, 0, []), (130, 1, .iload_n 1, 0, 1, []), (131, 1, .iconst 2, 2, 0, []), (132, 1, .irem, 0, 0, []), (133, 3, .ifCond .ne 7, 0, 140, []), (136, 1, .iconst 1, 1, 0, []), (137, 3, .goto 4, 0, 141, []), (140, 1, .iconst (-1), (-1), 0, []), (141, 1, .iadd, 0, 0, []), (142, 3, .invokevirtual 91, 0, 0, []), (145, 3, .goto 124, 0, 269, []), (148, 1, .iload_n 2, 0, 2, []), (149, 1, .iconst 4, 4, 0, []), (150, 3, .if_icmp .eq 8, 0, 158, []), (153, 1, .iload_n 2, 0, 2, []), (154, 1, .iconst 5, 5, 0, []), (155, 3, .if_icmp .ne 78, 0, 233, []), (158, 1, .aload_n 0, 0, 0, []), (159, 1, .iload_n 1, 0, 1, []), (160, 3, .invokevirtual 100, 0, 0, []), (163, 1, .iload_n 2, 0, 2, []), (164, 1, .iconst 4, 4, 0, []), (165, 3, .if_icmp .ne 7, 0, 172, []), (168, 1, .iconst 1, 1, 0, []), (169, 3, .goto 6, 0, 175, []), (172, 3, .sipush 255, 255, 0, []), (175, 1, .iadd, 0, 0, []), (176, 3, .sipush 255, 255, 0, []), (179, 1, .iand, 0, 0, []), (180, 2, .istore 6, 0, 6, []), (182, 1, .aload_n 0, 0, 0, []), (183, 1, .iload_n 1, 0, 1, []), (184, 2, .iload 6, 0, 6, []), (186, 3, .invokevirtual 103, 0, 0, []), (189, 1, .aload_n 0, 0, 0, []), (190, 1, .iload_n 2, 0, 2, []), (191, 1, .iconst 4, 4, 0, []), (192, 3, .if_icmp .ne 14, 0, 206, []), (195, 2, .iload 6, 0, 6, []), (197, 2, .bipush 16, 16, 0, []), (199, 1, .irem, 0, 0, []), (200, 3, .ifCond .ne 20, 0, 220, []), (203, 3, .goto 13, 0, 216, []), (206, 2, .iload 6, 0, 6, []), (208, 2, .bipush 16, 16, 0, []), (210, 1, .irem, 0, 0, []), (211, 2, .bipush 15, 15, 0, []), (213, 3, .if_icmp .eq 7, 0, 220, []), (216, 1, .iconst 1, 1, 0, []), (217, 3, .goto 4, 0, 221, []), (220, 1, .iconst 0, 0, 0, []), (221, 3, .putfield 71, 0, 0, []), (224, 1, .aload_n 0, 0, 0, []), (225, 2, .iload 6, 0, 6, []), (227, 3, .invokevirtual 84, 0, 0, []), (230, 3, .goto 39, 0, 269, []), (233, 1, .iload_n 2, 0, 2, []), (234, 2, .bipush 6, 6, 0, []), (236, 3, .if_icmp .ne 22, 0, 258, []), (239, 1, .aload_n 0, 0, 0, []), (240, 1, .iload_n 1, 0, 1, []), (241, 1, .iload_n 3, 0, 3, []), (242, 3, .invokevirtual 103, 0, 0, []), (245, 1, .aload_n 0, 0, 0, []), (246, 1, .dup, 0, 0, []), (247, 3, .getfield 94, 0, 0, []), (250, 1, .iconst 1, 1, 0, []), (251, 1, .iadd, 0, 0, []), (252, 3, .putfield 94, 0, 0, []), (255, 3, .goto 14, 0, 269, []), (258, 1, .iload_n 2, 0, 2, []), (259, 2, .bipush 7, 7, 0, []), (261, 3, .if_icmp .ne 8, 0, 269, []), (264, 1, .aload_n 0, 0, 0, []), (265, 1, .iload_n 1, 0, 1, []), (266, 3, .invokevirtual 106, 0, 0, []), (269, 1, .return_, 0, 0, [])]
def x_i152 : xI := (⟨"DeskMachineModel", "steps0", "(II)V"⟩, prog_10_method_22_code, 7, none, 0, x_p152, xc_152, [(56, [0, 1, 2, 3, 4, 5]), (175, [0, 1, 2])], 3, 72, 2, 8)
-- 153: DeskMachineModel.reckons(II)V
def x_p153 : List (Nat × xE) := [(16, 0, 8, 3, 0, false), (71, 0, 8, 10, 0, true), (77, 0, 8, 11, 0, true), (80, 1, 149, 2, 8, false), (84, 1, 148, 1, 8, true)]
def xc_153 : List (Nat × xO) := [(0, 1, .aload_n 0, 0, 0, []), (1, 3, .getfield 16, 0, 0, []), (4, 2, .bipush 7, 7, 0, []), (6, 1, .iaload, 0, 0, []), (7, 1, .istore_n 3, 0, 3, []), (8, 1, .iload_n 3, 0, 3, []), (9, 2, .istore 4, 0, 4, []), (11, 1, .iload_n 1, 0, 1, []), (12, 1, .iconst 2, 2, 0, []), (13, 3, .if_icmp .ge 26, 0, 39, []), (16, 1, .aload_n 0, 0, 0, []), (17, 1, .iload_n 2, 0, 2, []), (18, 1, .iload_n 1, 0, 1, []), (19, 1, .iconst 1, 1, 0, []), (20, 3, .if_icmp .ne 10, 0, 30, []), (23, 1, .aload_n 0, 0, 0, []), (24, 3, .getfield 77, 0, 0, []), (27, 3, .goto 4, 0, 31, []), (30, 1, .iconst 0, 0, 0, []), (31, 3, .invokevirtual 80, 0, 0, []), (34, 2, .istore 4, 0, 4, []), (36, 3, .goto 105, 0, 141, []), (39, 1, .iload_n 1, 0, 1, []), (40, 1, .iconst 4, 4, 0, []), (41, 3, .if_icmp .lt 9, 0, 50, []), (44, 1, .iload_n 1, 0, 1, []), (45, 2, .bipush 7, 7, 0, []), (47, 3, .if_icmp .ne 42, 0, 89, []), (50, 1, .aload_n 0, 0, 0, []), (51, 3, .sipush 255, 255, 0, []), (54, 1, .iload_n 2, 0, 2, []), (55, 1, .isub, 0, 0, []), (56, 1, .iload_n 1, 0, 1, []), (57, 1, .iconst 3, 3, 0, []), (58, 3, .if_icmp .ne 12, 0, 70, []), (61, 1, .iconst 1, 1, 0, []), (62, 1, .aload_n 0, 0, 0, []), (63, 3, .getfield 77, 0, 0, []), (66, 1, .isub, 0, 0, []), (67, 3, .goto 4, 0, 71, []), (70, 1, .iconst 1, 1, 0, []), (71, 3, .invokevirtual 80, 0, 0, []), (74, 2, .istore 4, 0, 4, []), (76, 1, .aload_n 0, 0, 0, []), (77, 1, .iconst 1, 1, 0, []), (78, 1, .aload_n 0, 0, 0, []), (79, 3, .getfield 77, 0, 0, []), (82, 1, .isub, 0, 0, []), (83, 3, .putfield 77, 0, 0, []), (86, 3, .goto 55, 0, 141, []), (89, 1, .iload_n 1, 0, 1, []), (90, 1, .iconst 4, 4, 0, []), (91, 3, .if_icmp .ne 9, 0, 100, []), (94, 1, .iload_n 3, 0, 3, []), (95, 1, .iload_n 2, 0, 2, []), (96, 1, .iand, 0, 0, []), (97, 3, .goto 17, 0, 114, []), (100, 1, .iload_n 1, 0, 1, []), (101, 1, .iconst 5, 5, 0, []), (102, 3, .if_icmp .ne 9, 0, 111, []), (105, 1, .iload_n 3, 0, 3, []), (106, 1, .iload_n 2, 0, 2, []), (107, 1, .ixor, 0, 0, []), (108, 3, .goto 6, 0, 114, []), (111, 1, .iload_n 3, 0, 3, []), (112, 1, .iload_n 2, 0, 2, []), (113, 1, .ior, 0, 0, []), (114, 2, .istore 4, 0, 4, []), (116, 1, .aload_n 0, 0, 0, []), (117, 1, .iload_n 1, 0, 1, []), (118, 1, .iconst 4, 4, 0, []), (119, 3, .if_icmp .ne 13, 0, 132, []), (122, 1, .iload_n 3, 0, 3, []), (123, 1, .iload_n 2, 0, 2, []), (124, 1, .ior, 0, 0, []), (125, 1, .iconst 3, 3, 0, []), (126, 1, .ishr, 0, 0, []), (127, 1, .iconst 1, 1, 0, []), (128, 1, .iand, 0, 0, []), (129, 3, .goto 4, 0, 133, []), (132, 1, .iconst 0, 0, 0, []), (133, 3, .putfield 71, 0, 0, []), (136, 1, .aload_n 0, 0, 0, []), (137, 1, .iconst 0, 0, 0, []), (138, 3, .putfield 77, 0, 0, []), (141, 1, .aload_n 0, 0, 0, []), (142, 2, .iload 4, 0, 4, []), (144, 3, .invokevirtual 84, 0, 0, []), (147, 1, .aload_n 0, 0, 0, []), (148, 3, .getfield 16, 0, 0, []), (151, 2, .bipush 7, 7, 0, []), (153, 1, .iload_n 1, 0, 1, []), (154, 2, .bipush 7, 7, 0, []), (156, 3, .if_icmp .ne 7, 0, 163, []), (159, 1, .iload_n 3, 0, 3, []), (160, 3, .goto 5, 0, 165, []), (163, 2, .iload 4, 0, 4, []), (165, 1, .iastore, 0, 0, []), (166, 1, .return_, 0, 0, [])]
def x_i153 : xI := (⟨"DeskMachineModel", "reckons", "(II)V"⟩, prog_10_method_17_code, 5, none, 0, x_p153, xc_153, [(50, [0, 1, 2, 3]), (114, [0, 1, 2, 3])], 1, 23, 2, 8)
-- 154: DeskMachineModel.holds(I)Z
def x_p154 : List (Nat × xE) := [(65, 0, 8, 7, 0, true), (68, 0, 8, 8, 0, true), (74, 0, 8, 9, 0, true), (77, 0, 8, 11, 0, true)]
def xc_154 : List (Nat × xO) := [(0, 1, .iload_n 1, 0, 1, []), (1, 1, .iconst 2, 2, 0, []), (2, 3, .if_icmp .ge 10, 0, 12, []), (5, 1, .aload_n 0, 0, 0, []), (6, 3, .getfield 68, 0, 0, []), (9, 3, .goto 32, 0, 41, []), (12, 1, .iload_n 1, 0, 1, []), (13, 1, .iconst 4, 4, 0, []), (14, 3, .if_icmp .ge 10, 0, 24, []), (17, 1, .aload_n 0, 0, 0, []), (18, 3, .getfield 77, 0, 0, []), (21, 3, .goto 20, 0, 41, []), (24, 1, .iload_n 1, 0, 1, []), (25, 2, .bipush 6, 6, 0, []), (27, 3, .if_icmp .ge 10, 0, 37, []), (30, 1, .aload_n 0, 0, 0, []), (31, 3, .getfield 74, 0, 0, []), (34, 3, .goto 7, 0, 41, []), (37, 1, .aload_n 0, 0, 0, []), (38, 3, .getfield 65, 0, 0, []), (41, 1, .istore_n 2, 0, 2, []), (42, 1, .iload_n 2, 0, 2, []), (43, 1, .iload_n 1, 0, 1, []), (44, 1, .iconst 2, 2, 0, []), (45, 1, .irem, 0, 0, []), (46, 3, .if_icmp .ne 7, 0, 53, []), (49, 1, .iconst 1, 1, 0, []), (50, 3, .goto 4, 0, 54, []), (53, 1, .iconst 0, 0, 0, []), (54, 1, .ireturn, 0, 0, [])]
def x_i154 : xI := (⟨"DeskMachineModel", "holds", "(I)Z"⟩, prog_10_method_18_code, 3, some .boolean, 2, x_p154, xc_154, [], 0, 0, 1, 8)
-- 155: DeskMachineModel.flags()I
def x_p155 : List (Nat × xE) := [(65, 0, 8, 7, 0, true), (68, 0, 8, 8, 0, true), (71, 0, 8, 10, 0, true), (74, 0, 8, 9, 0, true), (77, 0, 8, 11, 0, true)]
def xc_155 : List (Nat × xO) := [(0, 3, .sipush 128, 128, 0, []), (3, 1, .aload_n 0, 0, 0, []), (4, 3, .getfield 65, 0, 0, []), (7, 1, .imul, 0, 0, []), (8, 2, .bipush 64, 64, 0, []), (10, 1, .aload_n 0, 0, 0, []), (11, 3, .getfield 68, 0, 0, []), (14, 1, .imul, 0, 0, []), (15, 1, .iadd, 0, 0, []), (16, 2, .bipush 16, 16, 0, []), (18, 1, .aload_n 0, 0, 0, []), (19, 3, .getfield 71, 0, 0, []), (22, 1, .imul, 0, 0, []), (23, 1, .iadd, 0, 0, []), (24, 1, .iconst 4, 4, 0, []), (25, 1, .aload_n 0, 0, 0, []), (26, 3, .getfield 74, 0, 0, []), (29, 1, .imul, 0, 0, []), (30, 1, .iadd, 0, 0, []), (31, 1, .iconst 2, 2, 0, []), (32, 1, .iadd, 0, 0, []), (33, 1, .aload_n 0, 0, 0, []), (34, 3, .getfield 77, 0, 0, []), (37, 1, .iadd, 0, 0, []), (38, 1, .ireturn, 0, 0, [])]
def x_i155 : xI := (⟨"DeskMachineModel", "flags", "()I"⟩, prog_10_method_13_code, 1, some .int, 1, x_p155, xc_155, [], 0, 0, 0, 8)
-- 156: DeskMachineModel.piles(III)V
def x_p156 : List (Nat × xE) := [(16, 0, 8, 3, 0, false), (52, 0, 8, 4, 0, true), (55, 4, 65535, 0, 0, false), (56, 1, 134, 1, 8, false), (91, 1, 144, 2, 8, true), (94, 0, 8, 5, 0, true), (109, 1, 155, 0, 8, false), (113, 1, 130, 1, 8, true), (116, 1, 142, 0, 8, false), (119, 1, 128, 1, 8, true)]
def xc_156 : List (Nat × xO) := [(0, 1, .iload_n 2, 0, 2, []), (1, 1, .iconst 5, 5, 0, []), (2, 3, .if_icmp .ne 48, 0, 50, []), (5, 1, .iload_n 1, 0, 1, []), (6, 1, .iconst 2, 2, 0, []), (7, 1, .irem, 0, 0, []), (8, 3, .ifCond .ne 42, 0, 50, []), (11, 1, .aload_n 0, 0, 0, []), (12, 1, .iload_n 1, 0, 1, []), (13, 2, .bipush 6, 6, 0, []), (15, 3, .if_icmp .ne 22, 0, 37, []), (18, 3, .sipush 256, 256, 0, []), (21, 1, .aload_n 0, 0, 0, []), (22, 3, .getfield 16, 0, 0, []), (25, 2, .bipush 7, 7, 0, []), (27, 1, .iaload, 0, 0, []), (28, 1, .imul, 0, 0, []), (29, 1, .aload_n 0, 0, 0, []), (30, 3, .invokevirtual 109, 0, 0, []), (33, 1, .iadd, 0, 0, []), (34, 3, .goto 10, 0, 44, []), (37, 1, .aload_n 0, 0, 0, []), (38, 1, .iload_n 1, 0, 1, []), (39, 1, .iconst 2, 2, 0, []), (40, 1, .idiv, 0, 0, []), (41, 3, .invokevirtual 56, 0, 0, []), (44, 3, .invokevirtual 113, 0, 0, []), (47, 3, .goto 131, 0, 178, []), (50, 1, .iload_n 2, 0, 2, []), (51, 1, .iconst 5, 5, 0, []), (52, 3, .if_icmp .ne 24, 0, 76, []), (55, 1, .aload_n 0, 0, 0, []), (56, 1, .aload_n 0, 0, 0, []), (57, 3, .getfield 94, 0, 0, []), (60, 1, .iconst 2, 2, 0, []), (61, 1, .iadd, 0, 0, []), (62, 2, .ldc 55, 0, 0, []), (64, 1, .iand, 0, 0, []), (65, 3, .invokevirtual 113, 0, 0, []), (68, 1, .aload_n 0, 0, 0, []), (69, 1, .iload_n 3, 0, 3, []), (70, 3, .putfield 94, 0, 0, []), (73, 3, .goto 105, 0, 178, []), (76, 1, .iload_n 1, 0, 1, []), (77, 1, .iconst 1, 1, 0, []), (78, 3, .if_icmp .eq 8, 0, 86, []), (81, 1, .iload_n 1, 0, 1, []), (82, 1, .iconst 3, 3, 0, []), (83, 3, .if_icmp .ne 14, 0, 97, []), (86, 1, .aload_n 0, 0, 0, []), (87, 1, .aload_n 0, 0, 0, []), (88, 3, .invokevirtual 116, 0, 0, []), (91, 3, .putfield 94, 0, 0, []), (94, 3, .goto 84, 0, 178, []), (97, 1, .iload_n 1, 0, 1, []), (98, 1, .iconst 5, 5, 0, []), (99, 3, .if_icmp .ne 15, 0, 114, []), (102, 1, .aload_n 0, 0, 0, []), (103, 1, .aload_n 0, 0, 0, []), (104, 1, .iconst 2, 2, 0, []), (105, 3, .invokevirtual 56, 0, 0, []), (108, 3, .putfield 94, 0, 0, []), (111, 3, .goto 67, 0, 178, []), (114, 1, .iload_n 1, 0, 1, []), (115, 2, .bipush 7, 7, 0, []), (117, 3, .if_icmp .ne 15, 0, 132, []), (120, 1, .aload_n 0, 0, 0, []), (121, 1, .aload_n 0, 0, 0, []), (122, 1, .iconst 2, 2, 0, []), (123, 3, .invokevirtual 56, 0, 0, []), (126, 3, .putfield 52, 0, 0, []), (129, 3, .goto 49, 0, 178, []), (132, 1, .aload_n 0, 0, 0, []), (133, 3, .invokevirtual 116, 0, 0, []), (136, 2, .istore 4, 0, 4, []), (138, 1, .iload_n 1, 0, 1, []), (139, 2, .bipush 6, 6, 0, []), (141, 3, .if_icmp .ne 28, 0, 169, []), (144, 1, .aload_n 0, 0, 0, []), (145, 3, .getfield 16, 0, 0, []), (148, 2, .bipush 7, 7, 0, []), (150, 2, .iload 4, 0, 4, []), (152, 2, .bipush 8, 8, 0, []), (154, 1, .ishr, 0, 0, []), (155, 1, .iastore, 0, 0, []), (156, 1, .aload_n 0, 0, 0, []), (157, 2, .iload 4, 0, 4, []), (159, 3, .sipush 255, 255, 0, []), (162, 1, .iand, 0, 0, []), (163, 3, .invokevirtual 119, 0, 0, []), (166, 3, .goto 12, 0, 178, []), (169, 1, .aload_n 0, 0, 0, []), (170, 1, .iload_n 1, 0, 1, []), (171, 1, .iconst 2, 2, 0, []), (172, 1, .idiv, 0, 0, []), (173, 2, .iload 4, 0, 4, []), (175, 3, .invokevirtual 91, 0, 0, []), (178, 1, .return_, 0, 0, [])]
def x_i156 : xI := (⟨"DeskMachineModel", "piles", "(III)V"⟩, prog_10_method_24_code, 5, none, 0, x_p156, xc_156, [(50, [0, 1, 2, 3])], 3, 65, 3, 8)
-- 157: DeskMachineModel.exchanges(I)V
def x_p157 : List (Nat × xE) := [(52, 0, 8, 4, 0, true), (56, 1, 134, 1, 8, false), (59, 1, 129, 2, 8, true), (62, 1, 141, 1, 8, false), (91, 1, 144, 2, 8, true)]
def xc_157 : List (Nat × xO) := [(0, 1, .aload_n 0, 0, 0, []), (1, 1, .iconst 2, 2, 0, []), (2, 3, .invokevirtual 56, 0, 0, []), (5, 1, .istore_n 2, 0, 2, []), (6, 1, .iload_n 1, 0, 1, []), (7, 1, .iconst 4, 4, 0, []), (8, 3, .if_icmp .ne 30, 0, 38, []), (11, 1, .aload_n 0, 0, 0, []), (12, 1, .aload_n 0, 0, 0, []), (13, 3, .getfield 52, 0, 0, []), (16, 3, .invokevirtual 62, 0, 0, []), (19, 1, .istore_n 3, 0, 3, []), (20, 1, .aload_n 0, 0, 0, []), (21, 1, .aload_n 0, 0, 0, []), (22, 3, .getfield 52, 0, 0, []), (25, 1, .iload_n 2, 0, 2, []), (26, 3, .invokevirtual 59, 0, 0, []), (29, 1, .aload_n 0, 0, 0, []), (30, 1, .iconst 2, 2, 0, []), (31, 1, .iload_n 3, 0, 3, []), (32, 3, .invokevirtual 91, 0, 0, []), (35, 3, .goto 19, 0, 54, []), (38, 1, .aload_n 0, 0, 0, []), (39, 1, .iconst 2, 2, 0, []), (40, 1, .aload_n 0, 0, 0, []), (41, 1, .iconst 1, 1, 0, []), (42, 3, .invokevirtual 56, 0, 0, []), (45, 3, .invokevirtual 91, 0, 0, []), (48, 1, .aload_n 0, 0, 0, []), (49, 1, .iconst 1, 1, 0, []), (50, 1, .iload_n 2, 0, 2, []), (51, 3, .invokevirtual 91, 0, 0, []), (54, 1, .return_, 0, 0, [])]
def x_i157 : xI := (⟨"DeskMachineModel", "exchanges", "(I)V"⟩, prog_10_method_23_code, 4, none, 0, x_p157, xc_157, [], 2, 44, 1, 8)
-- 158: DeskMachineModel.steps3(II)V
def x_p158 : List (Nat × xE) := [(44, 1, 122, 1, 8, false), (55, 4, 65535, 0, 0, false), (62, 1, 141, 1, 8, false), (94, 0, 8, 5, 0, true), (113, 1, 130, 1, 8, true), (116, 1, 142, 0, 8, false), (122, 1, 154, 1, 8, false), (126, 1, 156, 3, 8, true), (130, 1, 157, 1, 8, true), (133, 1, 153, 2, 8, true)]
def xc_158 : List (Nat × xO) := [(0, 1, .aload_n 0, 0, 0, []), (1, 1, .aload_n 0, 0, 0, []), (2, 3, .getfield 94, 0, 0, []), (5, 3, .invokevirtual 44, 0, 0, []), (8, 1, .istore_n 3, 0, 3, []), (9, 1, .aload_n 0, 0, 0, []), (10, 1, .aload_n 0, 0, 0, []), (11, 3, .getfield 94, 0, 0, []), (14, 3, .invokevirtual 62, 0, 0, []), (17, 2, .istore 4, 0, 4, []), (19, 1, .aload_n 0, 0, 0, []), (20, 1, .iload_n 1, 0, 1, []), (21, 3, .invokevirtual 122, 0, 0, []), (24, 2, .istore 5, 0, 5, []), (26, 1, .iload_n 2, 0, 2, []), (27, 3, .ifCond .ne 30, 0, 57, []), (30, 2, .iload 5, 0, 5, []), (32, 3, .ifCond .eq 10, 0, 42, []), (35, 1, .aload_n 0, 0, 0, []), (36, 3, .invokevirtual 116, 0, 0, []), (39, 3, .goto 7, 0, 46, []), (42, 1, .aload_n 0, 0, 0, []), (43, 3, .getfield 94, 0, 0, []), (46, 2, .istore 6, 0, 6, []), (48, 1, .aload_n 0, 0, 0, []), (49, 2, .iload 6, 0, 6, []), (51, 3, .putfield 94, 0, 0, []), (54, 3, .goto 200, 0, 254, []), (57, 1, .iload_n 2, 0, 2, []), (58, 1, .iconst 1, 1, 0, []), (59, 3, .if_icmp .eq 8, 0, 67, []), (62, 1, .iload_n 2, 0, 2, []), (63, 1, .iconst 5, 5, 0, []), (64, 3, .if_icmp .ne 14, 0, 78, []), (67, 1, .aload_n 0, 0, 0, []), (68, 1, .iload_n 1, 0, 1, []), (69, 1, .iload_n 2, 0, 2, []), (70, 2, .iload 4, 0, 4, []), (72, 3, .invokevirtual 126, 0, 0, []), (75, 3, .goto 179, 0, 254, []), (78, 1, .iload_n 2, 0, 2, []), (79, 1, .iconst 2, 2, 0, []), (80, 3, .if_icmp .ne 26, 0, 106, []), (83, 1, .aload_n 0, 0, 0, []), (84, 2, .iload 5, 0, 5, []), (86, 3, .ifCond .eq 8, 0, 94, []), (89, 2, .iload 4, 0, 4, []), (91, 3, .goto 9, 0, 100, []), (94, 1, .aload_n 0, 0, 0, []), (95, 3, .getfield 94, 0, 0, []), (98, 1, .iconst 2, 2, 0, []), (99, 1, .iadd, 0, 0, []), (100, 3, .putfield 94, 0, 0, []), (103, 3, .goto 151, 0, 254, []), (106, 1, .iload_n 2, 0, 2, []), (107, 1, .iconst 3, 3, 0, []), (108, 3, .if_icmp .ne 31, 0, 139, []), (111, 1, .iload_n 1, 0, 1, []), (112, 1, .iconst 4, 4, 0, []), (113, 3, .if_icmp .ge 26, 0, 139, []), (116, 1, .aload_n 0, 0, 0, []), (117, 1, .iload_n 1, 0, 1, []), (118, 1, .iconst 2, 2, 0, []), (119, 3, .if_icmp .ge 8, 0, 127, []), (122, 2, .iload 4, 0, 4, []), (124, 3, .goto 9, 0, 133, []), (127, 1, .aload_n 0, 0, 0, []), (128, 3, .getfield 94, 0, 0, []), (131, 1, .iconst 1, 1, 0, []), (132, 1, .iadd, 0, 0, []), (133, 3, .putfield 94, 0, 0, []), (136, 3, .goto 118, 0, 254, []), (139, 1, .iload_n 2, 0, 2, []), (140, 1, .iconst 3, 3, 0, []), (141, 3, .if_icmp .ne 17, 0, 158, []), (144, 1, .iload_n 1, 0, 1, []), (145, 2, .bipush 6, 6, 0, []), (147, 3, .if_icmp .ge 11, 0, 158, []), (150, 1, .aload_n 0, 0, 0, []), (151, 1, .iload_n 1, 0, 1, []), (152, 3, .invokevirtual 130, 0, 0, []), (155, 3, .goto 99, 0, 254, []), (158, 1, .iload_n 2, 0, 2, []), (159, 1, .iconst 4, 4, 0, []), (160, 3, .if_icmp .ne 44, 0, 204, []), (163, 2, .iload 5, 0, 5, []), (165, 3, .ifCond .eq 16, 0, 181, []), (168, 1, .aload_n 0, 0, 0, []), (169, 1, .aload_n 0, 0, 0, []), (170, 3, .getfield 94, 0, 0, []), (173, 1, .iconst 2, 2, 0, []), (174, 1, .iadd, 0, 0, []), (175, 2, .ldc 55, 0, 0, []), (177, 1, .iand, 0, 0, []), (178, 3, .invokevirtual 113, 0, 0, []), (181, 1, .aload_n 0, 0, 0, []), (182, 2, .iload 5, 0, 5, []), (184, 3, .ifCond .eq 8, 0, 192, []), (187, 2, .iload 4, 0, 4, []), (189, 3, .goto 9, 0, 198, []), (192, 1, .aload_n 0, 0, 0, []), (193, 3, .getfield 94, 0, 0, []), (196, 1, .iconst 2, 2, 0, []), (197, 1, .iadd, 0, 0, []), (198, 3, .putfield 94, 0, 0, []), (201, 3, .goto 53, 0, 254, []), (204, 1, .iload_n 2, 0, 2, []), (205, 2, .bipush 6, 6, 0, []), (207, 3, .if_icmp .ne 22, 0, 229, []), (210, 1, .aload_n 0, 0, 0, []), (211, 1, .iload_n 1, 0, 1, []), (212, 1, .iload_n 3, 0, 3, []), (213, 3, .invokevirtual 133, 0, 0, []), (216, 1, .aload_n 0, 0, 0, []), (217, 1, .dup, 0, 0, []), (218, 3, .getfield 94, 0, 0, []), (221, 1, .iconst 1, 1, 0, []), (222, 1, .iadd, 0, 0, []), (223, 3, .putfield 94, 0, 0, []), (226, 3, .goto 28, 0, 254, []), (229, 1, .iload_n 2, 0, 2, []), (230, 2, .bipush 7, 7, 0, []), (232, 3, .if_icmp .ne 22, 0, 254, []), (235, 1, .aload_n 0, 0, 0, []), (236, 1, .aload_n 0, 0, 0, []), (237, 3, .getfield 94, 0, 0, []), (240, 2, .ldc 55, 0, 0, []), (242, 1, .iand, 0, 0, []), (243, 3, .invokevirtual 113, 0, 0, []), (246, 1, .aload_n 0, 0, 0, []), (247, 2, .bipush 8, 8, 0, []), (249, 1, .iload_n 1, 0, 1, []), (250, 1, .imul, 0, 0, []), (251, 3, .putfield 94, 0, 0, []), (254, 1, .return_, 0, 0, [])]
def x_i158 : xI := (⟨"DeskMachineModel", "steps3", "(II)V"⟩, prog_10_method_25_code, 7, none, 0, x_p158, xc_158, [(158, [0, 1, 2, 3, 4, 5])], 4, 89, 2, 8)
-- 159: DeskMachineModel.instruction()V
def x_p159 : List (Nat × xE) := [(23, 0, 8, 12, 0, true), (44, 1, 122, 1, 8, false), (55, 4, 65535, 0, 0, false), (94, 0, 8, 5, 0, true), (100, 1, 146, 1, 8, false), (103, 1, 147, 2, 8, true), (133, 1, 153, 2, 8, true), (136, 1, 152, 2, 8, true), (139, 1, 158, 2, 8, true)]
def xc_159 : List (Nat × xO) := [(0, 1, .aload_n 0, 0, 0, []), (1, 1, .aload_n 0, 0, 0, []), (2, 3, .getfield 94, 0, 0, []), (5, 3, .invokevirtual 44, 0, 0, []), (8, 1, .istore_n 1, 0, 1, []), (9, 1, .iload_n 1, 0, 1, []), (10, 2, .bipush 64, 64, 0, []), (12, 1, .idiv, 0, 0, []), (13, 1, .istore_n 2, 0, 2, []), (14, 1, .iload_n 1, 0, 1, []), (15, 2, .bipush 8, 8, 0, []), (17, 1, .idiv, 0, 0, []), (18, 2, .bipush 8, 8, 0, []), (20, 1, .irem, 0, 0, []), (21, 1, .istore_n 3, 0, 3, []), (22, 1, .iload_n 1, 0, 1, []), (23, 2, .bipush 8, 8, 0, []), (25, 1, .irem, 0, 0, []), (26, 2, .istore 4, 0, 4, []), (28, 1, .aload_n 0, 0, 0, []), (29, 1, .dup, 0, 0, []), (30, 3, .getfield 94, 0, 0, []), (33, 1, .iconst 1, 1, 0, []), (34, 1, .iadd, 0, 0, []), (35, 3, .putfield 94, 0, 0, []), (38, 1, .iload_n 2, 0, 2, []), (39, 3, .ifCond .ne 13, 0, 52, []), (42, 1, .aload_n 0, 0, 0, []), (43, 1, .iload_n 3, 0, 3, []), (44, 2, .iload 4, 0, 4, []), (46, 3, .invokevirtual 136, 0, 0, []), (49, 3, .goto 74, 0, 123, []), (52, 1, .iload_n 2, 0, 2, []), (53, 1, .iconst 1, 1, 0, []), (54, 3, .if_icmp .ne 24, 0, 78, []), (57, 1, .iload_n 3, 0, 3, []), (58, 2, .bipush 6, 6, 0, []), (60, 3, .if_icmp .ne 18, 0, 78, []), (63, 2, .iload 4, 0, 4, []), (65, 2, .bipush 6, 6, 0, []), (67, 3, .if_icmp .ne 11, 0, 78, []), (70, 1, .aload_n 0, 0, 0, []), (71, 1, .iconst 0, 0, 0, []), (72, 3, .putfield 23, 0, 0, []), (75, 3, .goto 48, 0, 123, []), (78, 1, .iload_n 2, 0, 2, []), (79, 1, .iconst 1, 1, 0, []), (80, 3, .if_icmp .ne 17, 0, 97, []), (83, 1, .aload_n 0, 0, 0, []), (84, 1, .iload_n 3, 0, 3, []), (85, 1, .aload_n 0, 0, 0, []), (86, 2, .iload 4, 0, 4, []), (88, 3, .invokevirtual 100, 0, 0, []), (91, 3, .invokevirtual 103, 0, 0, []), (94, 3, .goto 29, 0, 123, []), (97, 1, .iload_n 2, 0, 2, []), (98, 1, .iconst 2, 2, 0, []), (99, 3, .if_icmp .ne 17, 0, 116, []), (102, 1, .aload_n 0, 0, 0, []), (103, 1, .iload_n 3, 0, 3, []), (104, 1, .aload_n 0, 0, 0, []), (105, 2, .iload 4, 0, 4, []), (107, 3, .invokevirtual 100, 0, 0, []), (110, 3, .invokevirtual 133, 0, 0, []), (113, 3, .goto 10, 0, 123, []), (116, 1, .aload_n 0, 0, 0, []), (117, 1, .iload_n 3, 0, 3, []), (118, 2, .iload 4, 0, 4, []), (120, 3, .invokevirtual 139, 0, 0, []), (123, 1, .aload_n 0, 0, 0, []), (124, 1, .aload_n 0, 0, 0, []), (125, 3, .getfield 94, 0, 0, []), (128, 2, .ldc 55, 0, 0, []), (130, 1, .iand, 0, 0, []), (131, 3, .putfield 94, 0, 0, []), (134, 1, .return_, 0, 0, [])]
def x_i159 : xI := (⟨"DeskMachineModel", "instruction", "()V"⟩, prog_10_method_26_code, 5, none, 0, x_p159, xc_159, [(78, [0, 2, 3, 4])], 5, 115, 0, 8)
-- 160: DeskMachineModel.goes()Z
def x_p160 : List (Nat × xE) := [(23, 0, 8, 12, 0, true), (94, 0, 8, 5, 0, true), (185, 0, 8, 13, 0, true), (188, 1, 107, 0, 8, false), (235, 1, 133, 1, 8, true), (238, 1, 143, 0, 8, false), (241, 1, 159, 0, 8, true)]
def xc_160 : List (Nat × xO) := [(0, 1, .aload_n 0, 0, 0, []), (1, 3, .getfield 23, 0, 0, []), (4, 3, .ifCond .ne 24, 0, 28, []), (7, 1, .aload_n 0, 0, 0, []), (8, 3, .getfield 185, 0, 0, []), (11, 3, .ifCond .ne 5, 0, 16, []), (14, 1, .iconst 0, 0, 0, []), (15, 1, .ireturn, 0, 0, []), (16, 1, .aload_n 0, 0, 0, []), (17, 3, .invokevirtual 188, 0, 0, []), (20, 1, .istore_n 1, 0, 1, []), (21, 1, .aload_n 0, 0, 0, []), (22, 1, .iload_n 1, 0, 1, []), (23, 3, .invokevirtual 235, 0, 0, []), (26, 1, .iconst 1, 1, 0, []), (27, 1, .ireturn, 0, 0, []), (28, 1, .aload_n 0, 0, 0, []), (29, 3, .getfield 94, 0, 0, []), (32, 1, .iconst 5, 5, 0, []), (33, 3, .if_icmp .ne 17, 0, 50, []), (36, 1, .aload_n 0, 0, 0, []), (37, 3, .invokevirtual 238, 0, 0, []), (40, 1, .istore_n 1, 0, 1, []), (41, 1, .iload_n 1, 0, 1, []), (42, 3, .ifCond .ne 5, 0, 47, []), (45, 1, .iconst 0, 0, 0, []), (46, 1, .ireturn, 0, 0, []), (47, 3, .goto 7, 0, 54, []), (50, 1, .aload_n 0, 0, 0, []), (51, 3, .invokevirtual 241, 0, 0, []), (54, 1, .aload_n 0, 0, 0, []), (55, 1, .aload_n 0, 0, 0, []), (56, 3, .getfield 94, 0, 0, []), (59, 3, .ifCond .ne 7, 0, 66, []), (62, 1, .iconst 0, 0, 0, []), (63, 3, .goto 7, 0, 70, []), (66, 1, .aload_n 0, 0, 0, []), (67, 3, .getfield 23, 0, 0, []), (70, 3, .putfield 23, 0, 0, []), (73, 1, .iconst 1, 1, 0, []), (74, 1, .ireturn, 0, 0, [])]
def x_i160 : xI := (⟨"DeskMachineModel", "goes", "()Z"⟩, prog_10_method_57_code, 2, some .boolean, 2, x_p160, xc_160, [], 7, 162, 0, 8)
-- 161: DeskMachineModel.run(I)I
def x_p161 : List (Nat × xE) := [(41, 0, 8, 0, 0, true), (244, 1, 160, 0, 8, false), (247, 0, 8, 19, 0, true)]
def xc_161 : List (Nat × xO) := [(0, 1, .aload_n 0, 0, 0, []), (1, 1, .iload_n 1, 0, 1, []), (2, 1, .iconst 1, 1, 0, []), (3, 3, .if_icmp .lt 10, 0, 13, []), (6, 1, .iload_n 1, 0, 1, []), (7, 3, .sipush 1000, 1000, 0, []), (10, 3, .if_icmp .le 7, 0, 17, []), (13, 1, .iconst 1, 1, 0, []), (14, 3, .goto 4, 0, 18, []), (17, 1, .iconst 0, 0, 0, []), (18, 3, .putfield 41, 0, 0, []), (21, 1, .iconst 0, 0, 0, []), (22, 1, .istore_n 2, 0, 2, []), (23, 1, .aload_n 0, 0, 0, []), (24, 3, .getfield 41, 0, 0, []), (27, 3, .ifCond .ne 7, 0, 34, []), (30, 1, .iconst 1, 1, 0, []), (31, 3, .goto 4, 0, 35, []), (34, 1, .iconst 0, 0, 0, []), (35, 1, .istore_n 3, 0, 3, []), (36, 1, .iload_n 3, 0, 3, []), (37, 3, .ifCond .eq 28, 0, 65, []), (40, 1, .iload_n 2, 0, 2, []), (41, 1, .iload_n 1, 0, 1, []), (42, 3, .if_icmp .ge 23, 0, 65, []), (45, 1, .aload_n 0, 0, 0, []), (46, 3, .invokevirtual 244, 0, 0, []), (49, 1, .istore_n 3, 0, 3, []), (50, 1, .iload_n 2, 0, 2, []), (51, 1, .iload_n 3, 0, 3, []), (52, 3, .ifCond .eq 7, 0, 59, []), (55, 1, .iconst 1, 1, 0, []), (56, 3, .goto 4, 0, 60, []), (59, 1, .iconst 0, 0, 0, []), (60, 1, .iadd, 0, 0, []), (61, 1, .istore_n 2, 0, 2, []), (62, 3, .goto (-26), 0, 36, []), (65, 1, .aload_n 0, 0, 0, []), (66, 1, .dup, 0, 0, []), (67, 3, .getfield 247, 0, 0, []), (70, 1, .iload_n 2, 0, 2, []), (71, 1, .iadd, 0, 0, []), (72, 3, .putfield 247, 0, 0, []), (75, 1, .iload_n 2, 0, 2, []), (76, 1, .ireturn, 0, 0, [])]
def x_i161 : xI := (⟨"DeskMachineModel", "run", "(I)I"⟩, prog_10_method_58_code, 4, some .int, 1, x_p161, xc_161, [(36, [0, 1, 2, 3])], 8, 183, 1, 8)
-- 162: DeskMachineModel.isByte(I)Z
def x_p162 : List (Nat × xE) := []
def xc_162 : List (Nat × xO) := [(0, 1, .iload_n 0, 0, 0, []), (1, 3, .ifCond .lt 14, 0, 15, []), (4, 1, .iload_n 0, 0, 0, []), (5, 3, .sipush 255, 255, 0, []), (8, 3, .if_icmp .gt 7, 0, 15, []), (11, 1, .iconst 1, 1, 0, []), (12, 3, .goto 4, 0, 16, []), (15, 1, .iconst 0, 0, 0, []), (16, 1, .ireturn, 0, 0, [])]
def x_i162 : xI := (⟨"DeskMachineModel", "isByte", "(I)Z"⟩, prog_10_method_59_code, 1, some .boolean, 2, x_p162, xc_162, [], 0, 0, 1, 8)
-- 163: DeskMachineModel.poke(II)Z
def x_p163 : List (Nat × xE) := [(7, 0, 8, 1, 0, false), (41, 0, 8, 0, 0, true), (250, 2, 162, 1, 0, false)]
def xc_163 : List (Nat × xO) := [(0, 1, .aload_n 0, 0, 0, []), (1, 1, .iload_n 1, 0, 1, []), (2, 3, .ifCond .lt 17, 0, 19, []), (5, 1, .iload_n 1, 0, 1, []), (6, 3, .sipush 511, 511, 0, []), (9, 3, .if_icmp .gt 10, 0, 19, []), (12, 1, .iload_n 2, 0, 2, []), (13, 3, .invokestatic 250, 0, 0, []), (16, 3, .ifCond .ne 7, 0, 23, []), (19, 1, .iconst 1, 1, 0, []), (20, 3, .goto 4, 0, 24, []), (23, 1, .iconst 0, 0, 0, []), (24, 3, .putfield 41, 0, 0, []), (27, 1, .aload_n 0, 0, 0, []), (28, 3, .getfield 41, 0, 0, []), (31, 3, .ifCond .ne 10, 0, 41, []), (34, 1, .aload_n 0, 0, 0, []), (35, 3, .getfield 7, 0, 0, []), (38, 1, .iload_n 1, 0, 1, []), (39, 1, .iload_n 2, 0, 2, []), (40, 1, .iastore, 0, 0, []), (41, 1, .aload_n 0, 0, 0, []), (42, 3, .getfield 41, 0, 0, []), (45, 3, .ifCond .ne 7, 0, 52, []), (48, 1, .iconst 1, 1, 0, []), (49, 3, .goto 4, 0, 53, []), (52, 1, .iconst 0, 0, 0, []), (53, 1, .ireturn, 0, 0, [])]
def x_i163 : xI := (⟨"DeskMachineModel", "poke", "(II)Z"⟩, prog_10_method_60_code, 3, some .boolean, 2, x_p163, xc_163, [(19, [0, 1, 2])], 1, 20, 2, 8)
-- 164: DeskMachineModel.peek(I)I
def x_p164 : List (Nat × xE) := [(7, 0, 8, 1, 0, false), (41, 0, 8, 0, 0, true)]
def xc_164 : List (Nat × xO) := [(0, 1, .aload_n 0, 0, 0, []), (1, 1, .iload_n 1, 0, 1, []), (2, 3, .ifCond .lt 10, 0, 12, []), (5, 1, .iload_n 1, 0, 1, []), (6, 3, .sipush 511, 511, 0, []), (9, 3, .if_icmp .le 7, 0, 16, []), (12, 1, .iconst 1, 1, 0, []), (13, 3, .goto 4, 0, 17, []), (16, 1, .iconst 0, 0, 0, []), (17, 3, .putfield 41, 0, 0, []), (20, 1, .aload_n 0, 0, 0, []), (21, 3, .getfield 41, 0, 0, []), (24, 3, .ifCond .ne 12, 0, 36, []), (27, 1, .aload_n 0, 0, 0, []), (28, 3, .getfield 7, 0, 0, []), (31, 1, .iload_n 1, 0, 1, []), (32, 1, .iaload, 0, 0, []), (33, 3, .goto 4, 0, 37, []), (36, 1, .iconst 0, 0, 0, []), (37, 1, .ireturn, 0, 0, [])]
def x_i164 : xI := (⟨"DeskMachineModel", "peek", "(I)I"⟩, prog_10_method_61_code, 2, some .int, 1, x_p164, xc_164, [], 0, 0, 1, 8)
-- 165: DeskMachineModel.isPlace(II)Z
def x_p165 : List (Nat × xE) := []
def xc_165 : List (Nat × xO) := [(0, 1, .iload_n 0, 0, 0, []), (1, 3, .ifCond .lt 23, 0, 24, []), (4, 1, .iload_n 0, 0, 0, []), (5, 2, .bipush 31, 31, 0, []), (7, 3, .if_icmp .gt 17, 0, 24, []), (10, 1, .iload_n 1, 0, 1, []), (11, 3, .ifCond .lt 13, 0, 24, []), (14, 1, .iload_n 1, 0, 1, []), (15, 2, .bipush 15, 15, 0, []), (17, 3, .if_icmp .gt 7, 0, 24, []), (20, 1, .iconst 1, 1, 0, []), (21, 3, .goto 4, 0, 25, []), (24, 1, .iconst 0, 0, 0, []), (25, 1, .ireturn, 0, 0, [])]
def x_i165 : xI := (⟨"DeskMachineModel", "isPlace", "(II)Z"⟩, prog_10_method_62_code, 2, some .boolean, 2, x_p165, xc_165, [], 0, 0, 2, 8)
-- 166: DeskMachineModel.disk(II)I
def x_p166 : List (Nat × xE) := [(13, 0, 8, 2, 0, false), (41, 0, 8, 0, 0, true), (253, 2, 165, 2, 0, false)]
def xc_166 : List (Nat × xO) := [(0, 1, .aload_n 0, 0, 0, []), (1, 1, .iload_n 1, 0, 1, []), (2, 1, .iload_n 2, 0, 2, []), (3, 3, .invokestatic 253, 0, 0, []), (6, 3, .ifCond .eq 7, 0, 13, []), (9, 1, .iconst 0, 0, 0, []), (10, 3, .goto 4, 0, 14, []), (13, 1, .iconst 1, 1, 0, []), (14, 3, .putfield 41, 0, 0, []), (17, 1, .aload_n 0, 0, 0, []), (18, 3, .getfield 41, 0, 0, []), (21, 3, .ifCond .ne 17, 0, 38, []), (24, 1, .aload_n 0, 0, 0, []), (25, 3, .getfield 13, 0, 0, []), (28, 2, .bipush 16, 16, 0, []), (30, 1, .iload_n 1, 0, 1, []), (31, 1, .imul, 0, 0, []), (32, 1, .iload_n 2, 0, 2, []), (33, 1, .iadd, 0, 0, []), (34, 1, .iaload, 0, 0, []), (35, 3, .goto 4, 0, 39, []), (38, 1, .iconst 0, 0, 0, []), (39, 1, .ireturn, 0, 0, [])]
def x_i166 : xI := (⟨"DeskMachineModel", "disk", "(II)I"⟩, prog_10_method_63_code, 3, some .int, 1, x_p166, xc_166, [], 1, 21, 2, 8)
-- 167: DeskMachineModel.burn(III)Z
def x_p167 : List (Nat × xE) := [(13, 0, 8, 2, 0, false), (41, 0, 8, 0, 0, true), (250, 2, 162, 1, 0, false), (253, 2, 165, 2, 0, false)]
def xc_167 : List (Nat × xO) := [(0, 1, .aload_n 0, 0, 0, []), (1, 1, .iload_n 1, 0, 1, []), (2, 1, .iload_n 2, 0, 2, []), (3, 3, .invokestatic 253, 0, 0, []), (6, 3, .ifCond .eq 14, 0, 20, []), (9, 1, .iload_n 3, 0, 3, []), (10, 3, .invokestatic 250, 0, 0, []), (13, 3, .ifCond .eq 7, 0, 20, []), (16, 1, .iconst 0, 0, 0, []), (17, 3, .goto 4, 0, 21, []), (20, 1, .iconst 1, 1, 0, []), (21, 3, .putfield 41, 0, 0, []), (24, 1, .aload_n 0, 0, 0, []), (25, 3, .getfield 41, 0, 0, []), (28, 3, .ifCond .ne 15, 0, 43, []), (31, 1, .aload_n 0, 0, 0, []), (32, 3, .getfield 13, 0, 0, []), (35, 2, .bipush 16, 16, 0, []), (37, 1, .iload_n 1, 0, 1, []), (38, 1, .imul, 0, 0, []), (39, 1, .iload_n 2, 0, 2, []), (40, 1, .iadd, 0, 0, []), (41, 1, .iload_n 3, 0, 3, []), (42, 1, .iastore, 0, 0, []), (43, 1, .aload_n 0, 0, 0, []), (44, 3, .getfield 41, 0, 0, []), (47, 3, .ifCond .ne 7, 0, 54, []), (50, 1, .iconst 1, 1, 0, []), (51, 3, .goto 4, 0, 55, []), (54, 1, .iconst 0, 0, 0, []), (55, 1, .ireturn, 0, 0, [])]
def x_i167 : xI := (⟨"DeskMachineModel", "burn", "(III)Z"⟩, prog_10_method_64_code, 4, some .boolean, 2, x_p167, xc_167, [], 1, 21, 3, 8)
-- 168: DeskMachineModel.shown(I)I
def x_p168 : List (Nat × xE) := [(32, 0, 8, 18, 0, false), (41, 0, 8, 0, 0, true), (142, 0, 8, 17, 0, true)]
def xc_168 : List (Nat × xO) := [(0, 1, .aload_n 0, 0, 0, []), (1, 1, .iconst 0, 0, 0, []), (2, 3, .putfield 41, 0, 0, []), (5, 1, .iload_n 1, 0, 1, []), (6, 3, .ifCond .lt 17, 0, 23, []), (9, 1, .iload_n 1, 0, 1, []), (10, 2, .bipush 63, 63, 0, []), (12, 3, .if_icmp .gt 11, 0, 23, []), (15, 1, .iload_n 1, 0, 1, []), (16, 1, .aload_n 0, 0, 0, []), (17, 3, .getfield 142, 0, 0, []), (20, 3, .if_icmp .lt 7, 0, 27, []), (23, 1, .iconst (-1), (-1), 0, []), (24, 3, .goto 19, 0, 43, []), (27, 1, .aload_n 0, 0, 0, []), (28, 3, .getfield 32, 0, 0, []), (31, 1, .aload_n 0, 0, 0, []), (32, 3, .getfield 142, 0, 0, []), (35, 1, .iconst 1, 1, 0, []), (36, 1, .isub, 0, 0, []), (37, 1, .iload_n 1, 0, 1, []), (38, 1, .isub, 0, 0, []), (39, 2, .bipush 64, 64, 0, []), (41, 1, .irem, 0, 0, []), (42, 1, .iaload, 0, 0, []), (43, 1, .ireturn, 0, 0, [])]
def x_i168 : xI := (⟨"DeskMachineModel", "shown", "(I)I"⟩, prog_10_method_65_code, 2, some .int, 1, x_p168, xc_168, [], 0, 0, 1, 8)
-- 169: DeskMachineModel.register(I)I
def x_p169 : List (Nat × xE) := [(16, 0, 8, 3, 0, false), (19, 0, 8, 6, 0, true), (41, 0, 8, 0, 0, true), (52, 0, 8, 4, 0, true), (94, 0, 8, 5, 0, true), (109, 1, 155, 0, 8, false)]
def xc_169 : List (Nat × xO) := [(0, 1, .aload_n 0, 0, 0, []), (1, 1, .iconst 0, 0, 0, []), (2, 3, .putfield 41, 0, 0, []), (5, 1, .iload_n 1, 0, 1, []), (6, 3, .ifCond .lt 9, 0, 15, []), (9, 1, .iload_n 1, 0, 1, []), (10, 2, .bipush 10, 10, 0, []), (12, 3, .if_icmp .le 5, 0, 17, []), (15, 1, .iconst (-1), (-1), 0, []), (16, 1, .ireturn, 0, 0, []), (17, 1, .iload_n 1, 0, 1, []), (18, 2, .bipush 6, 6, 0, []), (20, 3, .if_icmp .ne 10, 0, 30, []), (23, 1, .aload_n 0, 0, 0, []), (24, 3, .invokevirtual 109, 0, 0, []), (27, 3, .goto 48, 0, 75, []), (30, 1, .iload_n 1, 0, 1, []), (31, 2, .bipush 8, 8, 0, []), (33, 3, .if_icmp .ge 12, 0, 45, []), (36, 1, .aload_n 0, 0, 0, []), (37, 3, .getfield 16, 0, 0, []), (40, 1, .iload_n 1, 0, 1, []), (41, 1, .iaload, 0, 0, []), (42, 3, .goto 33, 0, 75, []), (45, 1, .iload_n 1, 0, 1, []), (46, 2, .bipush 8, 8, 0, []), (48, 3, .if_icmp .ne 10, 0, 58, []), (51, 1, .aload_n 0, 0, 0, []), (52, 3, .getfield 52, 0, 0, []), (55, 3, .goto 20, 0, 75, []), (58, 1, .iload_n 1, 0, 1, []), (59, 2, .bipush 9, 9, 0, []), (61, 3, .if_icmp .ne 10, 0, 71, []), (64, 1, .aload_n 0, 0, 0, []), (65, 3, .getfield 94, 0, 0, []), (68, 3, .goto 7, 0, 75, []), (71, 1, .aload_n 0, 0, 0, []), (72, 3, .getfield 19, 0, 0, []), (75, 1, .ireturn, 0, 0, [])]
def x_i169 : xI := (⟨"DeskMachineModel", "register", "(I)I"⟩, prog_10_method_66_code, 2, some .int, 1, x_p169, xc_169, [], 1, 20, 1, 8)
-- 170: DeskMachineModel.about(I)I
def x_p170 : List (Nat × xE) := [(23, 0, 8, 12, 0, true), (41, 0, 8, 0, 0, true), (142, 0, 8, 17, 0, true), (185, 0, 8, 13, 0, true), (200, 0, 8, 15, 0, true), (247, 0, 8, 19, 0, true)]
def xc_170 : List (Nat × xO) := [(0, 1, .aload_n 0, 0, 0, []), (1, 1, .iconst 0, 0, 0, []), (2, 3, .putfield 41, 0, 0, []), (5, 1, .iload_n 1, 0, 1, []), (6, 34, .tableswitch 59 0 4 #[34, 39, 44, 49, 54], 0, 65, [(0, 40), (1, 45), (2, 50), (3, 55), (4, 60)]), (40, 1, .aload_n 0, 0, 0, []), (41, 3, .getfield 23, 0, 0, []), (44, 1, .ireturn, 0, 0, []), (45, 1, .aload_n 0, 0, 0, []), (46, 3, .getfield 185, 0, 0, []), (49, 1, .ireturn, 0, 0, []), (50, 1, .aload_n 0, 0, 0, []), (51, 3, .getfield 142, 0, 0, []), (54, 1, .ireturn, 0, 0, []), (55, 1, .aload_n 0, 0, 0, []), (56, 3, .getfield 247, 0, 0, []), (59, 1, .ireturn, 0, 0, []), (60, 1, .aload_n 0, 0, 0, []), (61, 3, .getfield 200, 0, 0, []), (64, 1, .ireturn, 0, 0, []), (65, 1, .iconst (-1), (-1), 0, []), (66, 1, .ireturn, 0, 0, [])]
def x_i170 : xI := (⟨"DeskMachineModel", "about", "(I)I"⟩, prog_10_method_67_code, 2, some .int, 1, x_p170, xc_170, [], 0, 0, 1, 8)
-- 171: DeskMachineModel.thrown()I
def x_p171 : List (Nat × xE) := [(41, 0, 8, 0, 0, true)]
def xc_171 : List (Nat × xO) := [(0, 1, .aload_n 0, 0, 0, []), (1, 3, .getfield 41, 0, 0, []), (4, 1, .ireturn, 0, 0, [])]
def x_i171 : xI := (⟨"DeskMachineModel", "thrown", "()I"⟩, prog_10_method_2_code, 1, some .int, 1, x_p171, xc_171, [], 0, 0, 0, 8)
def x_tab : List xI := [x_i0, x_i1, x_i2, x_i3, x_i4, x_i5, x_i6, x_i7, x_i8, x_i9, x_i10, x_i11, x_i12, x_i13, x_i14, x_i15, x_i16, x_i17, x_i18, x_i19, x_i20, x_i21, x_i22, x_i23, x_i24, x_i25, x_i26, x_i27, x_i28, x_i29, x_i30, x_i31, x_i32, x_i33, x_i34, x_i35, x_i36, x_i37, x_i38, x_i39, x_i40, x_i41, x_i42, x_i43, x_i44, x_i45, x_i46, x_i47, x_i48, x_i49, x_i50, x_i51, x_i52, x_i53, x_i54, x_i55, x_i56, x_i57, x_i58, x_i59, x_i60, x_i61, x_i62, x_i63, x_i64, x_i65, x_i66, x_i67, x_i68, x_i69, x_i70, x_i71, x_i72, x_i73, x_i74, x_i75, x_i76, x_i77, x_i78, x_i79, x_i80, x_i81, x_i82, x_i83, x_i84, x_i85, x_i86, x_i87, x_i88, x_i89, x_i90, x_i91, x_i92, x_i93, x_i94, x_i95, x_i96, x_i97, x_i98, x_i99, x_i100, x_i101, x_i102, x_i103, x_i104, x_i105, x_i106, x_i107, x_i108, x_i109, x_i110, x_i111, x_i112, x_i113, x_i114, x_i115, x_i116, x_i117, x_i118, x_i119, x_i120, x_i121, x_i122, x_i123, x_i124, x_i125, x_i126, x_i127, x_i128, x_i129, x_i130, x_i131, x_i132, x_i133, x_i134, x_i135, x_i136, x_i137, x_i138, x_i139, x_i140, x_i141, x_i142, x_i143, x_i144, x_i145, x_i146, x_i147, x_i148, x_i149, x_i150, x_i151, x_i152, x_i153, x_i154, x_i155, x_i156, x_i157, x_i158, x_i159, x_i160, x_i161, x_i162, x_i163, x_i164, x_i165, x_i166, x_i167, x_i168, x_i169, x_i170, x_i171]
def x_tn : List xI → Nat → Option xI
  | [], _ => none
  | i :: _, 0 => some i
  | _ :: r, n + 1 => x_tn r n
def x_jF : Nat := 10
/-- a block of the method i -/
noncomputable def x_b (i : xI) (C : xC) (k0 : xK) : xK := x_blk x_sh x_ca (x_pl i.2.2.2.2.2.1) i.2.2.1 i.2.2.2.2.1 i.2.2.2.2.2.2.1 i.2.2.2.2.2.2.2.1 C k0 300
end
section
/-! The methods by their depth; words of their places; contracts of all of them -/
def x_tx (o : Nat) : Option (Int32 × Int32 × Int32 × Int32) := match o with
  | 1000 => some (76, 73, 83, 84)
  | 1001 => some (83, 72, 79, 87)
  | 1002 => some (68, 82, 79, 80)
  | 1003 => some (67, 65, 76, 76)
  | 1004 => some (83, 65, 86, 69)
  | _ => none
/-- is the first word this text of four letters? -/
def x_fw (as : List Value) (σ : xS) : Option xR := match as with
  | [.ref 14, .ref o] => (match x_tx o with
    | some t => if σ 17 0 - σ 16 0 = 4 then (if σ 16 0 < 0 ∨ 16 < σ 16 0 then none else some (if σ 15 (σ 16 0).toNatClampNeg = t.1 ∧ σ 15 ((σ 16 0).toNatClampNeg + 1) = t.2.1 ∧ σ 15 ((σ 16 0).toNatClampNeg + 2) = t.2.2.1 ∧ σ 15 ((σ 16 0).toNatClampNeg + 3) = t.2.2.2 then 1 else 0, σ)) else some (0, σ)
    | none => none)
  | _ => none
noncomputable def x_M (d : Nat) : xC := Nat.rec (motive := fun _ => xC) (fun _ _ _ => none) (fun _ ih j as σ => match Nat.beq j x_jF with
  | true => x_fw as σ
  | false => (match x_tn x_tab j with
    | none => none
    | some i => (match x_rm i.2.2.1 as with
      | true => x_run (x_b i ih) 5000 0 (lv_args 0 as) [] σ
      | false => none))) d
def x_tyn (c : Nat) : Nat → FieldType := match c with
  | 0 => tyX7
  | 1 => tyX4
  | 2 => tyX5
  | 3 => tyX1
  | 4 => tyX3
  | 5 => tyX6
  | 6 => tyX2
  | 7 => tyX0
  | _ => tyXM
/-- the words that a place of the pool needs -/
def x_el (own : String) (q : Nat) (e : xE) : List Cond := match e.1 with
  | 0 => (match x_cl[e.2.1]? with
    | some c => [.fieldLink own q c.1 (c.2.1 e.2.2.1).2.1 (c.2.1 e.2.2.1).2.2.1]
    | none => [])
  | 1 => (match x_cl[e.2.2.2.1]?, x_tn x_tab e.2.1 with
    | some c, some i => [.methodLink own q i.1, .code i.1 i.2.1 i.2.2.1 i.2.2.2.1, .instanceMethod i.1, .selects c.1 i.1 i.1, .initialized c.1]
    | _, _ => [])
  | 2 => (match x_tn x_tab e.2.1 with
    | some i => [.methodLink own q i.1, .code i.1 i.2.1 i.2.2.1 i.2.2.2.1, .static i.1, .initialized i.1.cls]
    | none => [])
  | 3 => (match e.2.2.2.2 with
    | true => [.fieldLink own q "DeskMachine$Desk" "WORDS_NEEDED" "[I"]
    | false => [])
  | 4 => [.constant own q (Int32.ofNat e.2.1)]
  | _ => []
def x_wl (i : xI) : List Cond := i.2.2.2.2.2.1.flatMap fun q => x_el i.1.cls q.1 q.2
def x_lays : List Cond := x_cl.flatMap fun c => u_ws c.1 c.2.1 c.2.2
def x_words : List Cond := x_lays ++ x_tab.flatMap x_wl
def x_ws (i : xI) : List Cond := Cond.code i.1 i.2.1 i.2.2.1 i.2.2.2.1 :: x_words
def x_rmo (i : xI) : Room := { frames := i.2.2.2.2.2.2.2.2.1, cells := 0, slots := 0, locals := i.2.2.2.2.2.2.2.2.2.1 }
def x_g (j : Nat) : xI := (x_tn x_tab j).getD x_i0
def x_txs : List (Nat × Nat) := [(67, 1000), (73, 1001), (75, 1002), (77, 1003), (79, 1004)]
def x_sk (na : Nat) (v : Bool) (fr lo : Nat) (i : xI) : Bool := Nat.beq na i.2.2.2.2.2.2.2.2.2.2.1 && (Nat.ble (i.2.2.2.2.2.2.2.2.1 + 1) fr && (Nat.ble (8 + (i.2.2.1 + 11) + i.2.2.2.2.2.2.2.2.2.1) lo && x_bq v (Nat.beq i.2.2.2.2.1 0)))
def x_dsk (i : xI) : Bool := Nat.beq i.2.2.2.2.2.2.2.2.2.2.2 7
def x_pk (dsk : Bool) (fr lo : Nat) (q : Nat) (e : xE) : Bool := match e.1 with
  | 0 => (match x_cl[e.2.1]? with
    | some c => Nat.blt e.2.2.1 c.2.2 && (x_bq e.2.2.2.2 false || (x_bq (c.2.1 e.2.2.1).2.2.2 false && decide (x_tyn e.2.1 e.2.2.1 = .int)))
    | none => false)
  | 1 => (match x_tn x_tab e.2.1 with
    | some i => Nat.blt e.2.2.2.1 9 && (Nat.beq i.2.2.2.2.2.2.2.2.2.2.2 e.2.2.2.1 && x_sk e.2.2.1 e.2.2.2.2 fr lo i)
    | none => false)
  | 2 => (match x_tn x_tab e.2.1 with
    | some i => x_sk e.2.2.1 e.2.2.2.2 fr lo i
    | none => false)
  | 3 => (match e.2.2.2.2 with
    | true => Nat.beq e.2.1 900
    | false => dsk && decide ((q, e.2.1) ∈ x_txs))
  | 4 => true
  | _ => false
def x_ck1 (i : xI) : Bool := i.2.2.2.2.2.2.1.all fun q => decide (decode i.2.1 q.1 = .ok (q.2.2.1, q.2.1)) && x_ok q.1 q.2
def x_ck2 (i : xI) : Bool := i.2.2.2.2.2.1.all fun q => x_pk (x_dsk i) i.2.2.2.2.2.2.2.2.1 i.2.2.2.2.2.2.2.2.2.1 q.1 q.2
def x_ck3 (i : xI) : Bool := plainName i.1.cls && decide ((i.2.2.2.2.1, i.2.2.2.1) ∈ ([(0, none), (1, some .int), (2, some .boolean)] : List (Nat × Option FieldType)))
def x_ck4 (i : xI) : Bool := decide (i.1.cls ≠ "java/lang/invoke/MethodHandle" ∧ i.1.cls ≠ "java/lang/invoke/VarHandle") && (decide ((parseMethodDescriptor i.1.desc).map (fun d => d.parameters.length) = some i.2.2.2.2.2.2.2.2.2.2.1) && (match x_cl[i.2.2.2.2.2.2.2.2.2.2.2]? with
  | some c => decide (i.1.cls = c.1)
  | none => true))
end
section
/-! every method's rows checked, one by one -/
set_option maxRecDepth 100000 in
theorem x_ck1_0 : x_ck1 x_i0 = true := by decide +kernel
set_option maxRecDepth 100000 in
theorem x_ck1_1 : x_ck1 x_i1 = true := by decide +kernel
set_option maxRecDepth 100000 in
theorem x_ck1_2 : x_ck1 x_i2 = true := by decide +kernel
set_option maxRecDepth 100000 in
theorem x_ck1_3 : x_ck1 x_i3 = true := by decide +kernel
set_option maxRecDepth 100000 in
theorem x_ck1_4 : x_ck1 x_i4 = true := by decide +kernel
set_option maxRecDepth 100000 in
theorem x_ck1_5 : x_ck1 x_i5 = true := by decide +kernel
set_option maxRecDepth 100000 in
theorem x_ck1_6 : x_ck1 x_i6 = true := by decide +kernel
set_option maxRecDepth 100000 in
theorem x_ck1_7 : x_ck1 x_i7 = true := by decide +kernel
set_option maxRecDepth 100000 in
theorem x_ck1_8 : x_ck1 x_i8 = true := by decide +kernel
set_option maxRecDepth 100000 in
theorem x_ck1_9 : x_ck1 x_i9 = true := by decide +kernel
set_option maxRecDepth 100000 in
theorem x_ck1_10 : x_ck1 x_i10 = true := by decide +kernel
set_option maxRecDepth 100000 in
theorem x_ck1_11 : x_ck1 x_i11 = true := by decide +kernel
set_option maxRecDepth 100000 in
theorem x_ck1_12 : x_ck1 x_i12 = true := by decide +kernel
set_option maxRecDepth 100000 in
theorem x_ck1_13 : x_ck1 x_i13 = true := by decide +kernel
set_option maxRecDepth 100000 in
theorem x_ck1_14 : x_ck1 x_i14 = true := by decide +kernel
set_option maxRecDepth 100000 in
theorem x_ck1_15 : x_ck1 x_i15 = true := by decide +kernel
set_option maxRecDepth 100000 in
theorem x_ck1_16 : x_ck1 x_i16 = true := by decide +kernel
set_option maxRecDepth 100000 in
theorem x_ck1_17 : x_ck1 x_i17 = true := by decide +kernel
set_option maxRecDepth 100000 in
theorem x_ck1_18 : x_ck1 x_i18 = true := by decide +kernel
set_option maxRecDepth 100000 in
theorem x_ck1_19 : x_ck1 x_i19 = true := by decide +kernel
set_option maxRecDepth 100000 in
theorem x_ck1_20 : x_ck1 x_i20 = true := by decide +kernel
set_option maxRecDepth 100000 in
theorem x_ck1_21 : x_ck1 x_i21 = true := by decide +kernel
set_option maxRecDepth 100000 in
theorem x_ck1_22 : x_ck1 x_i22 = true := by decide +kernel
set_option maxRecDepth 100000 in
theorem x_ck1_23 : x_ck1 x_i23 = true := by decide +kernel
set_option maxRecDepth 100000 in
theorem x_ck1_24 : x_ck1 x_i24 = true := by decide +kernel
set_option maxRecDepth 100000 in
theorem x_ck1_25 : x_ck1 x_i25 = true := by decide +kernel
set_option maxRecDepth 100000 in
theorem x_ck1_26 : x_ck1 x_i26 = true := by decide +kernel
set_option maxRecDepth 100000 in
theorem x_ck1_27 : x_ck1 x_i27 = true := by decide +kernel
set_option maxRecDepth 100000 in
theorem x_ck1_28 : x_ck1 x_i28 = true := by decide +kernel
set_option maxRecDepth 100000 in
theorem x_ck1_29 : x_ck1 x_i29 = true := by decide +kernel
set_option maxRecDepth 100000 in
theorem x_ck1_30 : x_ck1 x_i30 = true := by decide +kernel
set_option maxRecDepth 100000 in
theorem x_ck1_31 : x_ck1 x_i31 = true := by decide +kernel
set_option maxRecDepth 100000 in
theorem x_ck1_32 : x_ck1 x_i32 = true := by decide +kernel
set_option maxRecDepth 100000 in
theorem x_ck1_33 : x_ck1 x_i33 = true := by decide +kernel
set_option maxRecDepth 100000 in
theorem x_ck1_34 : x_ck1 x_i34 = true := by decide +kernel
set_option maxRecDepth 100000 in
theorem x_ck1_35 : x_ck1 x_i35 = true := by decide +kernel
set_option maxRecDepth 100000 in
theorem x_ck1_36 : x_ck1 x_i36 = true := by decide +kernel
set_option maxRecDepth 100000 in
theorem x_ck1_37 : x_ck1 x_i37 = true := by decide +kernel
set_option maxRecDepth 100000 in
theorem x_ck1_38 : x_ck1 x_i38 = true := by decide +kernel
set_option maxRecDepth 100000 in
theorem x_ck1_39 : x_ck1 x_i39 = true := by decide +kernel
set_option maxRecDepth 100000 in
theorem x_ck1_40 : x_ck1 x_i40 = true := by decide +kernel
set_option maxRecDepth 100000 in
theorem x_ck1_41 : x_ck1 x_i41 = true := by decide +kernel
set_option maxRecDepth 100000 in
theorem x_ck1_42 : x_ck1 x_i42 = true := by decide +kernel
set_option maxRecDepth 100000 in
theorem x_ck1_43 : x_ck1 x_i43 = true := by decide +kernel
set_option maxRecDepth 100000 in
theorem x_ck1_44 : x_ck1 x_i44 = true := by decide +kernel
set_option maxRecDepth 100000 in
theorem x_ck1_45 : x_ck1 x_i45 = true := by decide +kernel
set_option maxRecDepth 100000 in
theorem x_ck1_46 : x_ck1 x_i46 = true := by decide +kernel
set_option maxRecDepth 100000 in
theorem x_ck1_47 : x_ck1 x_i47 = true := by decide +kernel
set_option maxRecDepth 100000 in
theorem x_ck1_48 : x_ck1 x_i48 = true := by decide +kernel
set_option maxRecDepth 100000 in
theorem x_ck1_49 : x_ck1 x_i49 = true := by decide +kernel
set_option maxRecDepth 100000 in
theorem x_ck1_50 : x_ck1 x_i50 = true := by decide +kernel
set_option maxRecDepth 100000 in
theorem x_ck1_51 : x_ck1 x_i51 = true := by decide +kernel
set_option maxRecDepth 100000 in
theorem x_ck1_52 : x_ck1 x_i52 = true := by decide +kernel
set_option maxRecDepth 100000 in
theorem x_ck1_53 : x_ck1 x_i53 = true := by decide +kernel
set_option maxRecDepth 100000 in
theorem x_ck1_54 : x_ck1 x_i54 = true := by decide +kernel
set_option maxRecDepth 100000 in
theorem x_ck1_55 : x_ck1 x_i55 = true := by decide +kernel
set_option maxRecDepth 100000 in
theorem x_ck1_56 : x_ck1 x_i56 = true := by decide +kernel
set_option maxRecDepth 100000 in
theorem x_ck1_57 : x_ck1 x_i57 = true := by decide +kernel
set_option maxRecDepth 100000 in
theorem x_ck1_58 : x_ck1 x_i58 = true := by decide +kernel
set_option maxRecDepth 100000 in
theorem x_ck1_59 : x_ck1 x_i59 = true := by decide +kernel
set_option maxRecDepth 100000 in
theorem x_ck1_60 : x_ck1 x_i60 = true := by decide +kernel
set_option maxRecDepth 100000 in
theorem x_ck1_61 : x_ck1 x_i61 = true := by decide +kernel
set_option maxRecDepth 100000 in
theorem x_ck1_62 : x_ck1 x_i62 = true := by decide +kernel
set_option maxRecDepth 100000 in
theorem x_ck1_63 : x_ck1 x_i63 = true := by decide +kernel
set_option maxRecDepth 100000 in
theorem x_ck1_64 : x_ck1 x_i64 = true := by decide +kernel
set_option maxRecDepth 100000 in
theorem x_ck1_65 : x_ck1 x_i65 = true := by decide +kernel
set_option maxRecDepth 100000 in
theorem x_ck1_66 : x_ck1 x_i66 = true := by decide +kernel
set_option maxRecDepth 100000 in
theorem x_ck1_67 : x_ck1 x_i67 = true := by decide +kernel
set_option maxRecDepth 100000 in
theorem x_ck1_68 : x_ck1 x_i68 = true := by decide +kernel
set_option maxRecDepth 100000 in
theorem x_ck1_69 : x_ck1 x_i69 = true := by decide +kernel
set_option maxRecDepth 100000 in
theorem x_ck1_70 : x_ck1 x_i70 = true := by decide +kernel
set_option maxRecDepth 100000 in
theorem x_ck1_71 : x_ck1 x_i71 = true := by decide +kernel
set_option maxRecDepth 100000 in
theorem x_ck1_72 : x_ck1 x_i72 = true := by decide +kernel
set_option maxRecDepth 100000 in
theorem x_ck1_73 : x_ck1 x_i73 = true := by decide +kernel
set_option maxRecDepth 100000 in
theorem x_ck1_74 : x_ck1 x_i74 = true := by decide +kernel
set_option maxRecDepth 100000 in
theorem x_ck1_75 : x_ck1 x_i75 = true := by decide +kernel
set_option maxRecDepth 100000 in
theorem x_ck1_76 : x_ck1 x_i76 = true := by decide +kernel
set_option maxRecDepth 100000 in
theorem x_ck1_77 : x_ck1 x_i77 = true := by decide +kernel
set_option maxRecDepth 100000 in
theorem x_ck1_78 : x_ck1 x_i78 = true := by decide +kernel
set_option maxRecDepth 100000 in
theorem x_ck1_79 : x_ck1 x_i79 = true := by decide +kernel
set_option maxRecDepth 100000 in
theorem x_ck1_80 : x_ck1 x_i80 = true := by decide +kernel
set_option maxRecDepth 100000 in
theorem x_ck1_81 : x_ck1 x_i81 = true := by decide +kernel
set_option maxRecDepth 100000 in
theorem x_ck1_82 : x_ck1 x_i82 = true := by decide +kernel
set_option maxRecDepth 100000 in
theorem x_ck1_83 : x_ck1 x_i83 = true := by decide +kernel
set_option maxRecDepth 100000 in
theorem x_ck1_84 : x_ck1 x_i84 = true := by decide +kernel
set_option maxRecDepth 100000 in
theorem x_ck1_85 : x_ck1 x_i85 = true := by decide +kernel
set_option maxRecDepth 100000 in
theorem x_ck1_86 : x_ck1 x_i86 = true := by decide +kernel
set_option maxRecDepth 100000 in
theorem x_ck1_87 : x_ck1 x_i87 = true := by decide +kernel
set_option maxRecDepth 100000 in
theorem x_ck1_88 : x_ck1 x_i88 = true := by decide +kernel
set_option maxRecDepth 100000 in
theorem x_ck1_89 : x_ck1 x_i89 = true := by decide +kernel
set_option maxRecDepth 100000 in
theorem x_ck1_90 : x_ck1 x_i90 = true := by decide +kernel
set_option maxRecDepth 100000 in
theorem x_ck1_91 : x_ck1 x_i91 = true := by decide +kernel
set_option maxRecDepth 100000 in
theorem x_ck1_92 : x_ck1 x_i92 = true := by decide +kernel
set_option maxRecDepth 100000 in
theorem x_ck1_93 : x_ck1 x_i93 = true := by decide +kernel
set_option maxRecDepth 100000 in
theorem x_ck1_94 : x_ck1 x_i94 = true := by decide +kernel
set_option maxRecDepth 100000 in
theorem x_ck1_95 : x_ck1 x_i95 = true := by decide +kernel
set_option maxRecDepth 100000 in
theorem x_ck1_96 : x_ck1 x_i96 = true := by decide +kernel
set_option maxRecDepth 100000 in
theorem x_ck1_97 : x_ck1 x_i97 = true := by decide +kernel
set_option maxRecDepth 100000 in
theorem x_ck1_98 : x_ck1 x_i98 = true := by decide +kernel
set_option maxRecDepth 100000 in
theorem x_ck1_99 : x_ck1 x_i99 = true := by decide +kernel
set_option maxRecDepth 100000 in
theorem x_ck1_100 : x_ck1 x_i100 = true := by decide +kernel
set_option maxRecDepth 100000 in
theorem x_ck1_101 : x_ck1 x_i101 = true := by decide +kernel
set_option maxRecDepth 100000 in
theorem x_ck1_102 : x_ck1 x_i102 = true := by decide +kernel
set_option maxRecDepth 100000 in
theorem x_ck1_103 : x_ck1 x_i103 = true := by decide +kernel
set_option maxRecDepth 100000 in
theorem x_ck1_104 : x_ck1 x_i104 = true := by decide +kernel
set_option maxRecDepth 100000 in
theorem x_ck1_105 : x_ck1 x_i105 = true := by decide +kernel
set_option maxRecDepth 100000 in
theorem x_ck1_106 : x_ck1 x_i106 = true := by decide +kernel
set_option maxRecDepth 100000 in
theorem x_ck1_107 : x_ck1 x_i107 = true := by decide +kernel
set_option maxRecDepth 100000 in
theorem x_ck1_108 : x_ck1 x_i108 = true := by decide +kernel
set_option maxRecDepth 100000 in
theorem x_ck1_109 : x_ck1 x_i109 = true := by decide +kernel
set_option maxRecDepth 100000 in
theorem x_ck1_110 : x_ck1 x_i110 = true := by decide +kernel
set_option maxRecDepth 100000 in
theorem x_ck1_111 : x_ck1 x_i111 = true := by decide +kernel
set_option maxRecDepth 100000 in
theorem x_ck1_112 : x_ck1 x_i112 = true := by decide +kernel
set_option maxRecDepth 100000 in
theorem x_ck1_113 : x_ck1 x_i113 = true := by decide +kernel
set_option maxRecDepth 100000 in
theorem x_ck1_114 : x_ck1 x_i114 = true := by decide +kernel
set_option maxRecDepth 100000 in
theorem x_ck1_115 : x_ck1 x_i115 = true := by decide +kernel
set_option maxRecDepth 100000 in
theorem x_ck1_116 : x_ck1 x_i116 = true := by decide +kernel
set_option maxRecDepth 100000 in
theorem x_ck1_117 : x_ck1 x_i117 = true := by decide +kernel
set_option maxRecDepth 100000 in
theorem x_ck1_118 : x_ck1 x_i118 = true := by decide +kernel
set_option maxRecDepth 100000 in
theorem x_ck1_119 : x_ck1 x_i119 = true := by decide +kernel
set_option maxRecDepth 100000 in
theorem x_ck1_120 : x_ck1 x_i120 = true := by decide +kernel
set_option maxRecDepth 100000 in
theorem x_ck1_121 : x_ck1 x_i121 = true := by decide +kernel
set_option maxRecDepth 100000 in
theorem x_ck1_122 : x_ck1 x_i122 = true := by decide +kernel
set_option maxRecDepth 100000 in
theorem x_ck1_123 : x_ck1 x_i123 = true := by decide +kernel
set_option maxRecDepth 100000 in
theorem x_ck1_124 : x_ck1 x_i124 = true := by decide +kernel
set_option maxRecDepth 100000 in
theorem x_ck1_125 : x_ck1 x_i125 = true := by decide +kernel
set_option maxRecDepth 100000 in
theorem x_ck1_126 : x_ck1 x_i126 = true := by decide +kernel
set_option maxRecDepth 100000 in
theorem x_ck1_127 : x_ck1 x_i127 = true := by decide +kernel
set_option maxRecDepth 100000 in
theorem x_ck1_128 : x_ck1 x_i128 = true := by decide +kernel
set_option maxRecDepth 100000 in
theorem x_ck1_129 : x_ck1 x_i129 = true := by decide +kernel
set_option maxRecDepth 100000 in
theorem x_ck1_130 : x_ck1 x_i130 = true := by decide +kernel
set_option maxRecDepth 100000 in
theorem x_ck1_131 : x_ck1 x_i131 = true := by decide +kernel
set_option maxRecDepth 100000 in
theorem x_ck1_132 : x_ck1 x_i132 = true := by decide +kernel
set_option maxRecDepth 100000 in
theorem x_ck1_133 : x_ck1 x_i133 = true := by decide +kernel
set_option maxRecDepth 100000 in
theorem x_ck1_134 : x_ck1 x_i134 = true := by decide +kernel
set_option maxRecDepth 100000 in
theorem x_ck1_135 : x_ck1 x_i135 = true := by decide +kernel
set_option maxRecDepth 100000 in
theorem x_ck1_136 : x_ck1 x_i136 = true := by decide +kernel
set_option maxRecDepth 100000 in
theorem x_ck1_137 : x_ck1 x_i137 = true := by decide +kernel
set_option maxRecDepth 100000 in
theorem x_ck1_138 : x_ck1 x_i138 = true := by decide +kernel
set_option maxRecDepth 100000 in
theorem x_ck1_139 : x_ck1 x_i139 = true := by decide +kernel
set_option maxRecDepth 100000 in
theorem x_ck1_140 : x_ck1 x_i140 = true := by decide +kernel
set_option maxRecDepth 100000 in
theorem x_ck1_141 : x_ck1 x_i141 = true := by decide +kernel
set_option maxRecDepth 100000 in
theorem x_ck1_142 : x_ck1 x_i142 = true := by decide +kernel
set_option maxRecDepth 100000 in
theorem x_ck1_143 : x_ck1 x_i143 = true := by decide +kernel
set_option maxRecDepth 100000 in
theorem x_ck1_144 : x_ck1 x_i144 = true := by decide +kernel
set_option maxRecDepth 100000 in
theorem x_ck1_145 : x_ck1 x_i145 = true := by decide +kernel
set_option maxRecDepth 100000 in
theorem x_ck1_146 : x_ck1 x_i146 = true := by decide +kernel
set_option maxRecDepth 100000 in
theorem x_ck1_147 : x_ck1 x_i147 = true := by decide +kernel
set_option maxRecDepth 100000 in
theorem x_ck1_148 : x_ck1 x_i148 = true := by decide +kernel
set_option maxRecDepth 100000 in
theorem x_ck1_149 : x_ck1 x_i149 = true := by decide +kernel
set_option maxRecDepth 100000 in
theorem x_ck1_150 : x_ck1 x_i150 = true := by decide +kernel
set_option maxRecDepth 100000 in
theorem x_ck1_151 : x_ck1 x_i151 = true := by decide +kernel
set_option maxRecDepth 100000 in
theorem x_ck1_152 : x_ck1 x_i152 = true := by decide +kernel
set_option maxRecDepth 100000 in
theorem x_ck1_153 : x_ck1 x_i153 = true := by decide +kernel
set_option maxRecDepth 100000 in
theorem x_ck1_154 : x_ck1 x_i154 = true := by decide +kernel
set_option maxRecDepth 100000 in
theorem x_ck1_155 : x_ck1 x_i155 = true := by decide +kernel
set_option maxRecDepth 100000 in
theorem x_ck1_156 : x_ck1 x_i156 = true := by decide +kernel
set_option maxRecDepth 100000 in
theorem x_ck1_157 : x_ck1 x_i157 = true := by decide +kernel
set_option maxRecDepth 100000 in
theorem x_ck1_158 : x_ck1 x_i158 = true := by decide +kernel
set_option maxRecDepth 100000 in
theorem x_ck1_159 : x_ck1 x_i159 = true := by decide +kernel
set_option maxRecDepth 100000 in
theorem x_ck1_160 : x_ck1 x_i160 = true := by decide +kernel
set_option maxRecDepth 100000 in
theorem x_ck1_161 : x_ck1 x_i161 = true := by decide +kernel
set_option maxRecDepth 100000 in
theorem x_ck1_162 : x_ck1 x_i162 = true := by decide +kernel
set_option maxRecDepth 100000 in
theorem x_ck1_163 : x_ck1 x_i163 = true := by decide +kernel
set_option maxRecDepth 100000 in
theorem x_ck1_164 : x_ck1 x_i164 = true := by decide +kernel
set_option maxRecDepth 100000 in
theorem x_ck1_165 : x_ck1 x_i165 = true := by decide +kernel
set_option maxRecDepth 100000 in
theorem x_ck1_166 : x_ck1 x_i166 = true := by decide +kernel
set_option maxRecDepth 100000 in
theorem x_ck1_167 : x_ck1 x_i167 = true := by decide +kernel
set_option maxRecDepth 100000 in
theorem x_ck1_168 : x_ck1 x_i168 = true := by decide +kernel
set_option maxRecDepth 100000 in
theorem x_ck1_169 : x_ck1 x_i169 = true := by decide +kernel
set_option maxRecDepth 100000 in
theorem x_ck1_170 : x_ck1 x_i170 = true := by decide +kernel
set_option maxRecDepth 100000 in
theorem x_ck1_171 : x_ck1 x_i171 = true := by decide +kernel
set_option maxRecDepth 100000 in
theorem x_ck1_all : ∀ i ∈ x_tab, x_ck1 i = true := List.forall_mem_cons.mpr ⟨x_ck1_0, List.forall_mem_cons.mpr ⟨x_ck1_1, List.forall_mem_cons.mpr ⟨x_ck1_2, List.forall_mem_cons.mpr ⟨x_ck1_3, List.forall_mem_cons.mpr ⟨x_ck1_4, List.forall_mem_cons.mpr ⟨x_ck1_5, List.forall_mem_cons.mpr ⟨x_ck1_6, List.forall_mem_cons.mpr ⟨x_ck1_7, List.forall_mem_cons.mpr ⟨x_ck1_8, List.forall_mem_cons.mpr ⟨x_ck1_9, List.forall_mem_cons.mpr ⟨x_ck1_10, List.forall_mem_cons.mpr ⟨x_ck1_11, List.forall_mem_cons.mpr ⟨x_ck1_12, List.forall_mem_cons.mpr ⟨x_ck1_13, List.forall_mem_cons.mpr ⟨x_ck1_14, List.forall_mem_cons.mpr ⟨x_ck1_15, List.forall_mem_cons.mpr ⟨x_ck1_16, List.forall_mem_cons.mpr ⟨x_ck1_17, List.forall_mem_cons.mpr ⟨x_ck1_18, List.forall_mem_cons.mpr ⟨x_ck1_19, List.forall_mem_cons.mpr ⟨x_ck1_20, List.forall_mem_cons.mpr ⟨x_ck1_21, List.forall_mem_cons.mpr ⟨x_ck1_22, List.forall_mem_cons.mpr ⟨x_ck1_23, List.forall_mem_cons.mpr ⟨x_ck1_24, List.forall_mem_cons.mpr ⟨x_ck1_25, List.forall_mem_cons.mpr ⟨x_ck1_26, List.forall_mem_cons.mpr ⟨x_ck1_27, List.forall_mem_cons.mpr ⟨x_ck1_28, List.forall_mem_cons.mpr ⟨x_ck1_29, List.forall_mem_cons.mpr ⟨x_ck1_30, List.forall_mem_cons.mpr ⟨x_ck1_31, List.forall_mem_cons.mpr ⟨x_ck1_32, List.forall_mem_cons.mpr ⟨x_ck1_33, List.forall_mem_cons.mpr ⟨x_ck1_34, List.forall_mem_cons.mpr ⟨x_ck1_35, List.forall_mem_cons.mpr ⟨x_ck1_36, List.forall_mem_cons.mpr ⟨x_ck1_37, List.forall_mem_cons.mpr ⟨x_ck1_38, List.forall_mem_cons.mpr ⟨x_ck1_39, List.forall_mem_cons.mpr ⟨x_ck1_40, List.forall_mem_cons.mpr ⟨x_ck1_41, List.forall_mem_cons.mpr ⟨x_ck1_42, List.forall_mem_cons.mpr ⟨x_ck1_43, List.forall_mem_cons.mpr ⟨x_ck1_44, List.forall_mem_cons.mpr ⟨x_ck1_45, List.forall_mem_cons.mpr ⟨x_ck1_46, List.forall_mem_cons.mpr ⟨x_ck1_47, List.forall_mem_cons.mpr ⟨x_ck1_48, List.forall_mem_cons.mpr ⟨x_ck1_49, List.forall_mem_cons.mpr ⟨x_ck1_50, List.forall_mem_cons.mpr ⟨x_ck1_51, List.forall_mem_cons.mpr ⟨x_ck1_52, List.forall_mem_cons.mpr ⟨x_ck1_53, List.forall_mem_cons.mpr ⟨x_ck1_54, List.forall_mem_cons.mpr ⟨x_ck1_55, List.forall_mem_cons.mpr ⟨x_ck1_56, List.forall_mem_cons.mpr ⟨x_ck1_57, List.forall_mem_cons.mpr ⟨x_ck1_58, List.forall_mem_cons.mpr ⟨x_ck1_59, List.forall_mem_cons.mpr ⟨x_ck1_60, List.forall_mem_cons.mpr ⟨x_ck1_61, List.forall_mem_cons.mpr ⟨x_ck1_62, List.forall_mem_cons.mpr ⟨x_ck1_63, List.forall_mem_cons.mpr ⟨x_ck1_64, List.forall_mem_cons.mpr ⟨x_ck1_65, List.forall_mem_cons.mpr ⟨x_ck1_66, List.forall_mem_cons.mpr ⟨x_ck1_67, List.forall_mem_cons.mpr ⟨x_ck1_68, List.forall_mem_cons.mpr ⟨x_ck1_69, List.forall_mem_cons.mpr ⟨x_ck1_70, List.forall_mem_cons.mpr ⟨x_ck1_71, List.forall_mem_cons.mpr ⟨x_ck1_72, List.forall_mem_cons.mpr ⟨x_ck1_73, List.forall_mem_cons.mpr ⟨x_ck1_74, List.forall_mem_cons.mpr ⟨x_ck1_75, List.forall_mem_cons.mpr ⟨x_ck1_76, List.forall_mem_cons.mpr ⟨x_ck1_77, List.forall_mem_cons.mpr ⟨x_ck1_78, List.forall_mem_cons.mpr ⟨x_ck1_79, List.forall_mem_cons.mpr ⟨x_ck1_80, List.forall_mem_cons.mpr ⟨x_ck1_81, List.forall_mem_cons.mpr ⟨x_ck1_82, List.forall_mem_cons.mpr ⟨x_ck1_83, List.forall_mem_cons.mpr ⟨x_ck1_84, List.forall_mem_cons.mpr ⟨x_ck1_85, List.forall_mem_cons.mpr ⟨x_ck1_86, List.forall_mem_cons.mpr ⟨x_ck1_87, List.forall_mem_cons.mpr ⟨x_ck1_88, List.forall_mem_cons.mpr ⟨x_ck1_89, List.forall_mem_cons.mpr ⟨x_ck1_90, List.forall_mem_cons.mpr ⟨x_ck1_91, List.forall_mem_cons.mpr ⟨x_ck1_92, List.forall_mem_cons.mpr ⟨x_ck1_93, List.forall_mem_cons.mpr ⟨x_ck1_94, List.forall_mem_cons.mpr ⟨x_ck1_95, List.forall_mem_cons.mpr ⟨x_ck1_96, List.forall_mem_cons.mpr ⟨x_ck1_97, List.forall_mem_cons.mpr ⟨x_ck1_98, List.forall_mem_cons.mpr ⟨x_ck1_99, List.forall_mem_cons.mpr ⟨x_ck1_100, List.forall_mem_cons.mpr ⟨x_ck1_101, List.forall_mem_cons.mpr ⟨x_ck1_102, List.forall_mem_cons.mpr ⟨x_ck1_103, List.forall_mem_cons.mpr ⟨x_ck1_104, List.forall_mem_cons.mpr ⟨x_ck1_105, List.forall_mem_cons.mpr ⟨x_ck1_106, List.forall_mem_cons.mpr ⟨x_ck1_107, List.forall_mem_cons.mpr ⟨x_ck1_108, List.forall_mem_cons.mpr ⟨x_ck1_109, List.forall_mem_cons.mpr ⟨x_ck1_110, List.forall_mem_cons.mpr ⟨x_ck1_111, List.forall_mem_cons.mpr ⟨x_ck1_112, List.forall_mem_cons.mpr ⟨x_ck1_113, List.forall_mem_cons.mpr ⟨x_ck1_114, List.forall_mem_cons.mpr ⟨x_ck1_115, List.forall_mem_cons.mpr ⟨x_ck1_116, List.forall_mem_cons.mpr ⟨x_ck1_117, List.forall_mem_cons.mpr ⟨x_ck1_118, List.forall_mem_cons.mpr ⟨x_ck1_119, List.forall_mem_cons.mpr ⟨x_ck1_120, List.forall_mem_cons.mpr ⟨x_ck1_121, List.forall_mem_cons.mpr ⟨x_ck1_122, List.forall_mem_cons.mpr ⟨x_ck1_123, List.forall_mem_cons.mpr ⟨x_ck1_124, List.forall_mem_cons.mpr ⟨x_ck1_125, List.forall_mem_cons.mpr ⟨x_ck1_126, List.forall_mem_cons.mpr ⟨x_ck1_127, List.forall_mem_cons.mpr ⟨x_ck1_128, List.forall_mem_cons.mpr ⟨x_ck1_129, List.forall_mem_cons.mpr ⟨x_ck1_130, List.forall_mem_cons.mpr ⟨x_ck1_131, List.forall_mem_cons.mpr ⟨x_ck1_132, List.forall_mem_cons.mpr ⟨x_ck1_133, List.forall_mem_cons.mpr ⟨x_ck1_134, List.forall_mem_cons.mpr ⟨x_ck1_135, List.forall_mem_cons.mpr ⟨x_ck1_136, List.forall_mem_cons.mpr ⟨x_ck1_137, List.forall_mem_cons.mpr ⟨x_ck1_138, List.forall_mem_cons.mpr ⟨x_ck1_139, List.forall_mem_cons.mpr ⟨x_ck1_140, List.forall_mem_cons.mpr ⟨x_ck1_141, List.forall_mem_cons.mpr ⟨x_ck1_142, List.forall_mem_cons.mpr ⟨x_ck1_143, List.forall_mem_cons.mpr ⟨x_ck1_144, List.forall_mem_cons.mpr ⟨x_ck1_145, List.forall_mem_cons.mpr ⟨x_ck1_146, List.forall_mem_cons.mpr ⟨x_ck1_147, List.forall_mem_cons.mpr ⟨x_ck1_148, List.forall_mem_cons.mpr ⟨x_ck1_149, List.forall_mem_cons.mpr ⟨x_ck1_150, List.forall_mem_cons.mpr ⟨x_ck1_151, List.forall_mem_cons.mpr ⟨x_ck1_152, List.forall_mem_cons.mpr ⟨x_ck1_153, List.forall_mem_cons.mpr ⟨x_ck1_154, List.forall_mem_cons.mpr ⟨x_ck1_155, List.forall_mem_cons.mpr ⟨x_ck1_156, List.forall_mem_cons.mpr ⟨x_ck1_157, List.forall_mem_cons.mpr ⟨x_ck1_158, List.forall_mem_cons.mpr ⟨x_ck1_159, List.forall_mem_cons.mpr ⟨x_ck1_160, List.forall_mem_cons.mpr ⟨x_ck1_161, List.forall_mem_cons.mpr ⟨x_ck1_162, List.forall_mem_cons.mpr ⟨x_ck1_163, List.forall_mem_cons.mpr ⟨x_ck1_164, List.forall_mem_cons.mpr ⟨x_ck1_165, List.forall_mem_cons.mpr ⟨x_ck1_166, List.forall_mem_cons.mpr ⟨x_ck1_167, List.forall_mem_cons.mpr ⟨x_ck1_168, List.forall_mem_cons.mpr ⟨x_ck1_169, List.forall_mem_cons.mpr ⟨x_ck1_170, List.forall_mem_cons.mpr ⟨x_ck1_171, fun _ h => absurd h List.not_mem_nil⟩⟩⟩⟩⟩⟩⟩⟩⟩⟩⟩⟩⟩⟩⟩⟩⟩⟩⟩⟩⟩⟩⟩⟩⟩⟩⟩⟩⟩⟩⟩⟩⟩⟩⟩⟩⟩⟩⟩⟩⟩⟩⟩⟩⟩⟩⟩⟩⟩⟩⟩⟩⟩⟩⟩⟩⟩⟩⟩⟩⟩⟩⟩⟩⟩⟩⟩⟩⟩⟩⟩⟩⟩⟩⟩⟩⟩⟩⟩⟩⟩⟩⟩⟩⟩⟩⟩⟩⟩⟩⟩⟩⟩⟩⟩⟩⟩⟩⟩⟩⟩⟩⟩⟩⟩⟩⟩⟩⟩⟩⟩⟩⟩⟩⟩⟩⟩⟩⟩⟩⟩⟩⟩⟩⟩⟩⟩⟩⟩⟩⟩⟩⟩⟩⟩⟩⟩⟩⟩⟩⟩⟩⟩⟩⟩⟩⟩⟩⟩⟩⟩⟩⟩⟩⟩⟩⟩⟩⟩⟩⟩⟩⟩⟩⟩⟩⟩⟩⟩⟩⟩⟩
end
section
/-! every method's rows checked, one by one -/
set_option maxRecDepth 100000 in
theorem x_ck2_0 : x_ck2 x_i0 = true := by decide +kernel
set_option maxRecDepth 100000 in
theorem x_ck2_1 : x_ck2 x_i1 = true := by decide +kernel
set_option maxRecDepth 100000 in
theorem x_ck2_2 : x_ck2 x_i2 = true := by decide +kernel
set_option maxRecDepth 100000 in
theorem x_ck2_3 : x_ck2 x_i3 = true := by decide +kernel
set_option maxRecDepth 100000 in
theorem x_ck2_4 : x_ck2 x_i4 = true := by decide +kernel
set_option maxRecDepth 100000 in
theorem x_ck2_5 : x_ck2 x_i5 = true := by decide +kernel
set_option maxRecDepth 100000 in
theorem x_ck2_6 : x_ck2 x_i6 = true := by decide +kernel
set_option maxRecDepth 100000 in
theorem x_ck2_7 : x_ck2 x_i7 = true := by decide +kernel
set_option maxRecDepth 100000 in
theorem x_ck2_8 : x_ck2 x_i8 = true := by decide +kernel
set_option maxRecDepth 100000 in
theorem x_ck2_9 : x_ck2 x_i9 = true := by decide +kernel
set_option maxRecDepth 100000 in
theorem x_ck2_10 : x_ck2 x_i10 = true := by decide +kernel
set_option maxRecDepth 100000 in
theorem x_ck2_11 : x_ck2 x_i11 = true := by decide +kernel
set_option maxRecDepth 100000 in
theorem x_ck2_12 : x_ck2 x_i12 = true := by decide +kernel
set_option maxRecDepth 100000 in
theorem x_ck2_13 : x_ck2 x_i13 = true := by decide +kernel
set_option maxRecDepth 100000 in
theorem x_ck2_14 : x_ck2 x_i14 = true := by decide +kernel
set_option maxRecDepth 100000 in
theorem x_ck2_15 : x_ck2 x_i15 = true := by decide +kernel
set_option maxRecDepth 100000 in
theorem x_ck2_16 : x_ck2 x_i16 = true := by decide +kernel
set_option maxRecDepth 100000 in
theorem x_ck2_17 : x_ck2 x_i17 = true := by decide +kernel
set_option maxRecDepth 100000 in
theorem x_ck2_18 : x_ck2 x_i18 = true := by decide +kernel
set_option maxRecDepth 100000 in
theorem x_ck2_19 : x_ck2 x_i19 = true := by decide +kernel
set_option maxRecDepth 100000 in
theorem x_ck2_20 : x_ck2 x_i20 = true := by decide +kernel
set_option maxRecDepth 100000 in
theorem x_ck2_21 : x_ck2 x_i21 = true := by decide +kernel
set_option maxRecDepth 100000 in
theorem x_ck2_22 : x_ck2 x_i22 = true := by decide +kernel
set_option maxRecDepth 100000 in
theorem x_ck2_23 : x_ck2 x_i23 = true := by decide +kernel
set_option maxRecDepth 100000 in
theorem x_ck2_24 : x_ck2 x_i24 = true := by decide +kernel
set_option maxRecDepth 100000 in
theorem x_ck2_25 : x_ck2 x_i25 = true := by decide +kernel
set_option maxRecDepth 100000 in
theorem x_ck2_26 : x_ck2 x_i26 = true := by decide +kernel
set_option maxRecDepth 100000 in
theorem x_ck2_27 : x_ck2 x_i27 = true := by decide +kernel
set_option maxRecDepth 100000 in
theorem x_ck2_28 : x_ck2 x_i28 = true := by decide +kernel
set_option maxRecDepth 100000 in
theorem x_ck2_29 : x_ck2 x_i29 = true := by decide +kernel
set_option maxRecDepth 100000 in
theorem x_ck2_30 : x_ck2 x_i30 = true := by decide +kernel
set_option maxRecDepth 100000 in
theorem x_ck2_31 : x_ck2 x_i31 = true := by decide +kernel
set_option maxRecDepth 100000 in
theorem x_ck2_32 : x_ck2 x_i32 = true := by decide +kernel
set_option maxRecDepth 100000 in
theorem x_ck2_33 : x_ck2 x_i33 = true := by decide +kernel
set_option maxRecDepth 100000 in
theorem x_ck2_34 : x_ck2 x_i34 = true := by decide +kernel
set_option maxRecDepth 100000 in
theorem x_ck2_35 : x_ck2 x_i35 = true := by decide +kernel
set_option maxRecDepth 100000 in
theorem x_ck2_36 : x_ck2 x_i36 = true := by decide +kernel
set_option maxRecDepth 100000 in
theorem x_ck2_37 : x_ck2 x_i37 = true := by decide +kernel
set_option maxRecDepth 100000 in
theorem x_ck2_38 : x_ck2 x_i38 = true := by decide +kernel
set_option maxRecDepth 100000 in
theorem x_ck2_39 : x_ck2 x_i39 = true := by decide +kernel
set_option maxRecDepth 100000 in
theorem x_ck2_40 : x_ck2 x_i40 = true := by decide +kernel
set_option maxRecDepth 100000 in
theorem x_ck2_41 : x_ck2 x_i41 = true := by decide +kernel
set_option maxRecDepth 100000 in
theorem x_ck2_42 : x_ck2 x_i42 = true := by decide +kernel
set_option maxRecDepth 100000 in
theorem x_ck2_43 : x_ck2 x_i43 = true := by decide +kernel
set_option maxRecDepth 100000 in
theorem x_ck2_44 : x_ck2 x_i44 = true := by decide +kernel
set_option maxRecDepth 100000 in
theorem x_ck2_45 : x_ck2 x_i45 = true := by decide +kernel
set_option maxRecDepth 100000 in
theorem x_ck2_46 : x_ck2 x_i46 = true := by decide +kernel
set_option maxRecDepth 100000 in
theorem x_ck2_47 : x_ck2 x_i47 = true := by decide +kernel
set_option maxRecDepth 100000 in
theorem x_ck2_48 : x_ck2 x_i48 = true := by decide +kernel
set_option maxRecDepth 100000 in
theorem x_ck2_49 : x_ck2 x_i49 = true := by decide +kernel
set_option maxRecDepth 100000 in
theorem x_ck2_50 : x_ck2 x_i50 = true := by decide +kernel
set_option maxRecDepth 100000 in
theorem x_ck2_51 : x_ck2 x_i51 = true := by decide +kernel
set_option maxRecDepth 100000 in
theorem x_ck2_52 : x_ck2 x_i52 = true := by decide +kernel
set_option maxRecDepth 100000 in
theorem x_ck2_53 : x_ck2 x_i53 = true := by decide +kernel
set_option maxRecDepth 100000 in
theorem x_ck2_54 : x_ck2 x_i54 = true := by decide +kernel
set_option maxRecDepth 100000 in
theorem x_ck2_55 : x_ck2 x_i55 = true := by decide +kernel
set_option maxRecDepth 100000 in
theorem x_ck2_56 : x_ck2 x_i56 = true := by decide +kernel
set_option maxRecDepth 100000 in
theorem x_ck2_57 : x_ck2 x_i57 = true := by decide +kernel
set_option maxRecDepth 100000 in
theorem x_ck2_58 : x_ck2 x_i58 = true := by decide +kernel
set_option maxRecDepth 100000 in
theorem x_ck2_59 : x_ck2 x_i59 = true := by decide +kernel
set_option maxRecDepth 100000 in
theorem x_ck2_60 : x_ck2 x_i60 = true := by decide +kernel
set_option maxRecDepth 100000 in
theorem x_ck2_61 : x_ck2 x_i61 = true := by decide +kernel
set_option maxRecDepth 100000 in
theorem x_ck2_62 : x_ck2 x_i62 = true := by decide +kernel
set_option maxRecDepth 100000 in
theorem x_ck2_63 : x_ck2 x_i63 = true := by decide +kernel
set_option maxRecDepth 100000 in
theorem x_ck2_64 : x_ck2 x_i64 = true := by decide +kernel
set_option maxRecDepth 100000 in
theorem x_ck2_65 : x_ck2 x_i65 = true := by decide +kernel
set_option maxRecDepth 100000 in
theorem x_ck2_66 : x_ck2 x_i66 = true := by decide +kernel
set_option maxRecDepth 100000 in
theorem x_ck2_67 : x_ck2 x_i67 = true := by decide +kernel
set_option maxRecDepth 100000 in
theorem x_ck2_68 : x_ck2 x_i68 = true := by decide +kernel
set_option maxRecDepth 100000 in
theorem x_ck2_69 : x_ck2 x_i69 = true := by decide +kernel
set_option maxRecDepth 100000 in
theorem x_ck2_70 : x_ck2 x_i70 = true := by decide +kernel
set_option maxRecDepth 100000 in
theorem x_ck2_71 : x_ck2 x_i71 = true := by decide +kernel
set_option maxRecDepth 100000 in
theorem x_ck2_72 : x_ck2 x_i72 = true := by decide +kernel
set_option maxRecDepth 100000 in
theorem x_ck2_73 : x_ck2 x_i73 = true := by decide +kernel
set_option maxRecDepth 100000 in
theorem x_ck2_74 : x_ck2 x_i74 = true := by decide +kernel
set_option maxRecDepth 100000 in
theorem x_ck2_75 : x_ck2 x_i75 = true := by decide +kernel
set_option maxRecDepth 100000 in
theorem x_ck2_76 : x_ck2 x_i76 = true := by decide +kernel
set_option maxRecDepth 100000 in
theorem x_ck2_77 : x_ck2 x_i77 = true := by decide +kernel
set_option maxRecDepth 100000 in
theorem x_ck2_78 : x_ck2 x_i78 = true := by decide +kernel
set_option maxRecDepth 100000 in
theorem x_ck2_79 : x_ck2 x_i79 = true := by decide +kernel
set_option maxRecDepth 100000 in
theorem x_ck2_80 : x_ck2 x_i80 = true := by decide +kernel
set_option maxRecDepth 100000 in
theorem x_ck2_81 : x_ck2 x_i81 = true := by decide +kernel
set_option maxRecDepth 100000 in
theorem x_ck2_82 : x_ck2 x_i82 = true := by decide +kernel
set_option maxRecDepth 100000 in
theorem x_ck2_83 : x_ck2 x_i83 = true := by decide +kernel
set_option maxRecDepth 100000 in
theorem x_ck2_84 : x_ck2 x_i84 = true := by decide +kernel
set_option maxRecDepth 100000 in
theorem x_ck2_85 : x_ck2 x_i85 = true := by decide +kernel
set_option maxRecDepth 100000 in
theorem x_ck2_86 : x_ck2 x_i86 = true := by decide +kernel
set_option maxRecDepth 100000 in
theorem x_ck2_87 : x_ck2 x_i87 = true := by decide +kernel
set_option maxRecDepth 100000 in
theorem x_ck2_88 : x_ck2 x_i88 = true := by decide +kernel
set_option maxRecDepth 100000 in
theorem x_ck2_89 : x_ck2 x_i89 = true := by decide +kernel
set_option maxRecDepth 100000 in
theorem x_ck2_90 : x_ck2 x_i90 = true := by decide +kernel
set_option maxRecDepth 100000 in
theorem x_ck2_91 : x_ck2 x_i91 = true := by decide +kernel
set_option maxRecDepth 100000 in
theorem x_ck2_92 : x_ck2 x_i92 = true := by decide +kernel
set_option maxRecDepth 100000 in
theorem x_ck2_93 : x_ck2 x_i93 = true := by decide +kernel
set_option maxRecDepth 100000 in
theorem x_ck2_94 : x_ck2 x_i94 = true := by decide +kernel
set_option maxRecDepth 100000 in
theorem x_ck2_95 : x_ck2 x_i95 = true := by decide +kernel
set_option maxRecDepth 100000 in
theorem x_ck2_96 : x_ck2 x_i96 = true := by decide +kernel
set_option maxRecDepth 100000 in
theorem x_ck2_97 : x_ck2 x_i97 = true := by decide +kernel
set_option maxRecDepth 100000 in
theorem x_ck2_98 : x_ck2 x_i98 = true := by decide +kernel
set_option maxRecDepth 100000 in
theorem x_ck2_99 : x_ck2 x_i99 = true := by decide +kernel
set_option maxRecDepth 100000 in
theorem x_ck2_100 : x_ck2 x_i100 = true := by decide +kernel
set_option maxRecDepth 100000 in
theorem x_ck2_101 : x_ck2 x_i101 = true := by decide +kernel
set_option maxRecDepth 100000 in
theorem x_ck2_102 : x_ck2 x_i102 = true := by decide +kernel
set_option maxRecDepth 100000 in
theorem x_ck2_103 : x_ck2 x_i103 = true := by decide +kernel
set_option maxRecDepth 100000 in
theorem x_ck2_104 : x_ck2 x_i104 = true := by decide +kernel
set_option maxRecDepth 100000 in
theorem x_ck2_105 : x_ck2 x_i105 = true := by decide +kernel
set_option maxRecDepth 100000 in
theorem x_ck2_106 : x_ck2 x_i106 = true := by decide +kernel
set_option maxRecDepth 100000 in
theorem x_ck2_107 : x_ck2 x_i107 = true := by decide +kernel
set_option maxRecDepth 100000 in
theorem x_ck2_108 : x_ck2 x_i108 = true := by decide +kernel
set_option maxRecDepth 100000 in
theorem x_ck2_109 : x_ck2 x_i109 = true := by decide +kernel
set_option maxRecDepth 100000 in
theorem x_ck2_110 : x_ck2 x_i110 = true := by decide +kernel
set_option maxRecDepth 100000 in
theorem x_ck2_111 : x_ck2 x_i111 = true := by decide +kernel
set_option maxRecDepth 100000 in
theorem x_ck2_112 : x_ck2 x_i112 = true := by decide +kernel
set_option maxRecDepth 100000 in
theorem x_ck2_113 : x_ck2 x_i113 = true := by decide +kernel
set_option maxRecDepth 100000 in
theorem x_ck2_114 : x_ck2 x_i114 = true := by decide +kernel
set_option maxRecDepth 100000 in
theorem x_ck2_115 : x_ck2 x_i115 = true := by decide +kernel
set_option maxRecDepth 100000 in
theorem x_ck2_116 : x_ck2 x_i116 = true := by decide +kernel
set_option maxRecDepth 100000 in
theorem x_ck2_117 : x_ck2 x_i117 = true := by decide +kernel
set_option maxRecDepth 100000 in
theorem x_ck2_118 : x_ck2 x_i118 = true := by decide +kernel
set_option maxRecDepth 100000 in
theorem x_ck2_119 : x_ck2 x_i119 = true := by decide +kernel
set_option maxRecDepth 100000 in
theorem x_ck2_120 : x_ck2 x_i120 = true := by decide +kernel
set_option maxRecDepth 100000 in
theorem x_ck2_121 : x_ck2 x_i121 = true := by decide +kernel
set_option maxRecDepth 100000 in
theorem x_ck2_122 : x_ck2 x_i122 = true := by decide +kernel
set_option maxRecDepth 100000 in
theorem x_ck2_123 : x_ck2 x_i123 = true := by decide +kernel
set_option maxRecDepth 100000 in
theorem x_ck2_124 : x_ck2 x_i124 = true := by decide +kernel
set_option maxRecDepth 100000 in
theorem x_ck2_125 : x_ck2 x_i125 = true := by decide +kernel
set_option maxRecDepth 100000 in
theorem x_ck2_126 : x_ck2 x_i126 = true := by decide +kernel
set_option maxRecDepth 100000 in
theorem x_ck2_127 : x_ck2 x_i127 = true := by decide +kernel
set_option maxRecDepth 100000 in
theorem x_ck2_128 : x_ck2 x_i128 = true := by decide +kernel
set_option maxRecDepth 100000 in
theorem x_ck2_129 : x_ck2 x_i129 = true := by decide +kernel
set_option maxRecDepth 100000 in
theorem x_ck2_130 : x_ck2 x_i130 = true := by decide +kernel
set_option maxRecDepth 100000 in
theorem x_ck2_131 : x_ck2 x_i131 = true := by decide +kernel
set_option maxRecDepth 100000 in
theorem x_ck2_132 : x_ck2 x_i132 = true := by decide +kernel
set_option maxRecDepth 100000 in
theorem x_ck2_133 : x_ck2 x_i133 = true := by decide +kernel
set_option maxRecDepth 100000 in
theorem x_ck2_134 : x_ck2 x_i134 = true := by decide +kernel
set_option maxRecDepth 100000 in
theorem x_ck2_135 : x_ck2 x_i135 = true := by decide +kernel
set_option maxRecDepth 100000 in
theorem x_ck2_136 : x_ck2 x_i136 = true := by decide +kernel
set_option maxRecDepth 100000 in
theorem x_ck2_137 : x_ck2 x_i137 = true := by decide +kernel
set_option maxRecDepth 100000 in
theorem x_ck2_138 : x_ck2 x_i138 = true := by decide +kernel
set_option maxRecDepth 100000 in
theorem x_ck2_139 : x_ck2 x_i139 = true := by decide +kernel
set_option maxRecDepth 100000 in
theorem x_ck2_140 : x_ck2 x_i140 = true := by decide +kernel
set_option maxRecDepth 100000 in
theorem x_ck2_141 : x_ck2 x_i141 = true := by decide +kernel
set_option maxRecDepth 100000 in
theorem x_ck2_142 : x_ck2 x_i142 = true := by decide +kernel
set_option maxRecDepth 100000 in
theorem x_ck2_143 : x_ck2 x_i143 = true := by decide +kernel
set_option maxRecDepth 100000 in
theorem x_ck2_144 : x_ck2 x_i144 = true := by decide +kernel
set_option maxRecDepth 100000 in
theorem x_ck2_145 : x_ck2 x_i145 = true := by decide +kernel
set_option maxRecDepth 100000 in
theorem x_ck2_146 : x_ck2 x_i146 = true := by decide +kernel
set_option maxRecDepth 100000 in
theorem x_ck2_147 : x_ck2 x_i147 = true := by decide +kernel
set_option maxRecDepth 100000 in
theorem x_ck2_148 : x_ck2 x_i148 = true := by decide +kernel
set_option maxRecDepth 100000 in
theorem x_ck2_149 : x_ck2 x_i149 = true := by decide +kernel
set_option maxRecDepth 100000 in
theorem x_ck2_150 : x_ck2 x_i150 = true := by decide +kernel
set_option maxRecDepth 100000 in
theorem x_ck2_151 : x_ck2 x_i151 = true := by decide +kernel
set_option maxRecDepth 100000 in
theorem x_ck2_152 : x_ck2 x_i152 = true := by decide +kernel
set_option maxRecDepth 100000 in
theorem x_ck2_153 : x_ck2 x_i153 = true := by decide +kernel
set_option maxRecDepth 100000 in
theorem x_ck2_154 : x_ck2 x_i154 = true := by decide +kernel
set_option maxRecDepth 100000 in
theorem x_ck2_155 : x_ck2 x_i155 = true := by decide +kernel
set_option maxRecDepth 100000 in
theorem x_ck2_156 : x_ck2 x_i156 = true := by decide +kernel
set_option maxRecDepth 100000 in
theorem x_ck2_157 : x_ck2 x_i157 = true := by decide +kernel
set_option maxRecDepth 100000 in
theorem x_ck2_158 : x_ck2 x_i158 = true := by decide +kernel
set_option maxRecDepth 100000 in
theorem x_ck2_159 : x_ck2 x_i159 = true := by decide +kernel
set_option maxRecDepth 100000 in
theorem x_ck2_160 : x_ck2 x_i160 = true := by decide +kernel
set_option maxRecDepth 100000 in
theorem x_ck2_161 : x_ck2 x_i161 = true := by decide +kernel
set_option maxRecDepth 100000 in
theorem x_ck2_162 : x_ck2 x_i162 = true := by decide +kernel
set_option maxRecDepth 100000 in
theorem x_ck2_163 : x_ck2 x_i163 = true := by decide +kernel
set_option maxRecDepth 100000 in
theorem x_ck2_164 : x_ck2 x_i164 = true := by decide +kernel
set_option maxRecDepth 100000 in
theorem x_ck2_165 : x_ck2 x_i165 = true := by decide +kernel
set_option maxRecDepth 100000 in
theorem x_ck2_166 : x_ck2 x_i166 = true := by decide +kernel
set_option maxRecDepth 100000 in
theorem x_ck2_167 : x_ck2 x_i167 = true := by decide +kernel
set_option maxRecDepth 100000 in
theorem x_ck2_168 : x_ck2 x_i168 = true := by decide +kernel
set_option maxRecDepth 100000 in
theorem x_ck2_169 : x_ck2 x_i169 = true := by decide +kernel
set_option maxRecDepth 100000 in
theorem x_ck2_170 : x_ck2 x_i170 = true := by decide +kernel
set_option maxRecDepth 100000 in
theorem x_ck2_171 : x_ck2 x_i171 = true := by decide +kernel
set_option maxRecDepth 100000 in
theorem x_ck2_all : ∀ i ∈ x_tab, x_ck2 i = true := List.forall_mem_cons.mpr ⟨x_ck2_0, List.forall_mem_cons.mpr ⟨x_ck2_1, List.forall_mem_cons.mpr ⟨x_ck2_2, List.forall_mem_cons.mpr ⟨x_ck2_3, List.forall_mem_cons.mpr ⟨x_ck2_4, List.forall_mem_cons.mpr ⟨x_ck2_5, List.forall_mem_cons.mpr ⟨x_ck2_6, List.forall_mem_cons.mpr ⟨x_ck2_7, List.forall_mem_cons.mpr ⟨x_ck2_8, List.forall_mem_cons.mpr ⟨x_ck2_9, List.forall_mem_cons.mpr ⟨x_ck2_10, List.forall_mem_cons.mpr ⟨x_ck2_11, List.forall_mem_cons.mpr ⟨x_ck2_12, List.forall_mem_cons.mpr ⟨x_ck2_13, List.forall_mem_cons.mpr ⟨x_ck2_14, List.forall_mem_cons.mpr ⟨x_ck2_15, List.forall_mem_cons.mpr ⟨x_ck2_16, List.forall_mem_cons.mpr ⟨x_ck2_17, List.forall_mem_cons.mpr ⟨x_ck2_18, List.forall_mem_cons.mpr ⟨x_ck2_19, List.forall_mem_cons.mpr ⟨x_ck2_20, List.forall_mem_cons.mpr ⟨x_ck2_21, List.forall_mem_cons.mpr ⟨x_ck2_22, List.forall_mem_cons.mpr ⟨x_ck2_23, List.forall_mem_cons.mpr ⟨x_ck2_24, List.forall_mem_cons.mpr ⟨x_ck2_25, List.forall_mem_cons.mpr ⟨x_ck2_26, List.forall_mem_cons.mpr ⟨x_ck2_27, List.forall_mem_cons.mpr ⟨x_ck2_28, List.forall_mem_cons.mpr ⟨x_ck2_29, List.forall_mem_cons.mpr ⟨x_ck2_30, List.forall_mem_cons.mpr ⟨x_ck2_31, List.forall_mem_cons.mpr ⟨x_ck2_32, List.forall_mem_cons.mpr ⟨x_ck2_33, List.forall_mem_cons.mpr ⟨x_ck2_34, List.forall_mem_cons.mpr ⟨x_ck2_35, List.forall_mem_cons.mpr ⟨x_ck2_36, List.forall_mem_cons.mpr ⟨x_ck2_37, List.forall_mem_cons.mpr ⟨x_ck2_38, List.forall_mem_cons.mpr ⟨x_ck2_39, List.forall_mem_cons.mpr ⟨x_ck2_40, List.forall_mem_cons.mpr ⟨x_ck2_41, List.forall_mem_cons.mpr ⟨x_ck2_42, List.forall_mem_cons.mpr ⟨x_ck2_43, List.forall_mem_cons.mpr ⟨x_ck2_44, List.forall_mem_cons.mpr ⟨x_ck2_45, List.forall_mem_cons.mpr ⟨x_ck2_46, List.forall_mem_cons.mpr ⟨x_ck2_47, List.forall_mem_cons.mpr ⟨x_ck2_48, List.forall_mem_cons.mpr ⟨x_ck2_49, List.forall_mem_cons.mpr ⟨x_ck2_50, List.forall_mem_cons.mpr ⟨x_ck2_51, List.forall_mem_cons.mpr ⟨x_ck2_52, List.forall_mem_cons.mpr ⟨x_ck2_53, List.forall_mem_cons.mpr ⟨x_ck2_54, List.forall_mem_cons.mpr ⟨x_ck2_55, List.forall_mem_cons.mpr ⟨x_ck2_56, List.forall_mem_cons.mpr ⟨x_ck2_57, List.forall_mem_cons.mpr ⟨x_ck2_58, List.forall_mem_cons.mpr ⟨x_ck2_59, List.forall_mem_cons.mpr ⟨x_ck2_60, List.forall_mem_cons.mpr ⟨x_ck2_61, List.forall_mem_cons.mpr ⟨x_ck2_62, List.forall_mem_cons.mpr ⟨x_ck2_63, List.forall_mem_cons.mpr ⟨x_ck2_64, List.forall_mem_cons.mpr ⟨x_ck2_65, List.forall_mem_cons.mpr ⟨x_ck2_66, List.forall_mem_cons.mpr ⟨x_ck2_67, List.forall_mem_cons.mpr ⟨x_ck2_68, List.forall_mem_cons.mpr ⟨x_ck2_69, List.forall_mem_cons.mpr ⟨x_ck2_70, List.forall_mem_cons.mpr ⟨x_ck2_71, List.forall_mem_cons.mpr ⟨x_ck2_72, List.forall_mem_cons.mpr ⟨x_ck2_73, List.forall_mem_cons.mpr ⟨x_ck2_74, List.forall_mem_cons.mpr ⟨x_ck2_75, List.forall_mem_cons.mpr ⟨x_ck2_76, List.forall_mem_cons.mpr ⟨x_ck2_77, List.forall_mem_cons.mpr ⟨x_ck2_78, List.forall_mem_cons.mpr ⟨x_ck2_79, List.forall_mem_cons.mpr ⟨x_ck2_80, List.forall_mem_cons.mpr ⟨x_ck2_81, List.forall_mem_cons.mpr ⟨x_ck2_82, List.forall_mem_cons.mpr ⟨x_ck2_83, List.forall_mem_cons.mpr ⟨x_ck2_84, List.forall_mem_cons.mpr ⟨x_ck2_85, List.forall_mem_cons.mpr ⟨x_ck2_86, List.forall_mem_cons.mpr ⟨x_ck2_87, List.forall_mem_cons.mpr ⟨x_ck2_88, List.forall_mem_cons.mpr ⟨x_ck2_89, List.forall_mem_cons.mpr ⟨x_ck2_90, List.forall_mem_cons.mpr ⟨x_ck2_91, List.forall_mem_cons.mpr ⟨x_ck2_92, List.forall_mem_cons.mpr ⟨x_ck2_93, List.forall_mem_cons.mpr ⟨x_ck2_94, List.forall_mem_cons.mpr ⟨x_ck2_95, List.forall_mem_cons.mpr ⟨x_ck2_96, List.forall_mem_cons.mpr ⟨x_ck2_97, List.forall_mem_cons.mpr ⟨x_ck2_98, List.forall_mem_cons.mpr ⟨x_ck2_99, List.forall_mem_cons.mpr ⟨x_ck2_100, List.forall_mem_cons.mpr ⟨x_ck2_101, List.forall_mem_cons.mpr ⟨x_ck2_102, List.forall_mem_cons.mpr ⟨x_ck2_103, List.forall_mem_cons.mpr ⟨x_ck2_104, List.forall_mem_cons.mpr ⟨x_ck2_105, List.forall_mem_cons.mpr ⟨x_ck2_106, List.forall_mem_cons.mpr ⟨x_ck2_107, List.forall_mem_cons.mpr ⟨x_ck2_108, List.forall_mem_cons.mpr ⟨x_ck2_109, List.forall_mem_cons.mpr ⟨x_ck2_110, List.forall_mem_cons.mpr ⟨x_ck2_111, List.forall_mem_cons.mpr ⟨x_ck2_112, List.forall_mem_cons.mpr ⟨x_ck2_113, List.forall_mem_cons.mpr ⟨x_ck2_114, List.forall_mem_cons.mpr ⟨x_ck2_115, List.forall_mem_cons.mpr ⟨x_ck2_116, List.forall_mem_cons.mpr ⟨x_ck2_117, List.forall_mem_cons.mpr ⟨x_ck2_118, List.forall_mem_cons.mpr ⟨x_ck2_119, List.forall_mem_cons.mpr ⟨x_ck2_120, List.forall_mem_cons.mpr ⟨x_ck2_121, List.forall_mem_cons.mpr ⟨x_ck2_122, List.forall_mem_cons.mpr ⟨x_ck2_123, List.forall_mem_cons.mpr ⟨x_ck2_124, List.forall_mem_cons.mpr ⟨x_ck2_125, List.forall_mem_cons.mpr ⟨x_ck2_126, List.forall_mem_cons.mpr ⟨x_ck2_127, List.forall_mem_cons.mpr ⟨x_ck2_128, List.forall_mem_cons.mpr ⟨x_ck2_129, List.forall_mem_cons.mpr ⟨x_ck2_130, List.forall_mem_cons.mpr ⟨x_ck2_131, List.forall_mem_cons.mpr ⟨x_ck2_132, List.forall_mem_cons.mpr ⟨x_ck2_133, List.forall_mem_cons.mpr ⟨x_ck2_134, List.forall_mem_cons.mpr ⟨x_ck2_135, List.forall_mem_cons.mpr ⟨x_ck2_136, List.forall_mem_cons.mpr ⟨x_ck2_137, List.forall_mem_cons.mpr ⟨x_ck2_138, List.forall_mem_cons.mpr ⟨x_ck2_139, List.forall_mem_cons.mpr ⟨x_ck2_140, List.forall_mem_cons.mpr ⟨x_ck2_141, List.forall_mem_cons.mpr ⟨x_ck2_142, List.forall_mem_cons.mpr ⟨x_ck2_143, List.forall_mem_cons.mpr ⟨x_ck2_144, List.forall_mem_cons.mpr ⟨x_ck2_145, List.forall_mem_cons.mpr ⟨x_ck2_146, List.forall_mem_cons.mpr ⟨x_ck2_147, List.forall_mem_cons.mpr ⟨x_ck2_148, List.forall_mem_cons.mpr ⟨x_ck2_149, List.forall_mem_cons.mpr ⟨x_ck2_150, List.forall_mem_cons.mpr ⟨x_ck2_151, List.forall_mem_cons.mpr ⟨x_ck2_152, List.forall_mem_cons.mpr ⟨x_ck2_153, List.forall_mem_cons.mpr ⟨x_ck2_154, List.forall_mem_cons.mpr ⟨x_ck2_155, List.forall_mem_cons.mpr ⟨x_ck2_156, List.forall_mem_cons.mpr ⟨x_ck2_157, List.forall_mem_cons.mpr ⟨x_ck2_158, List.forall_mem_cons.mpr ⟨x_ck2_159, List.forall_mem_cons.mpr ⟨x_ck2_160, List.forall_mem_cons.mpr ⟨x_ck2_161, List.forall_mem_cons.mpr ⟨x_ck2_162, List.forall_mem_cons.mpr ⟨x_ck2_163, List.forall_mem_cons.mpr ⟨x_ck2_164, List.forall_mem_cons.mpr ⟨x_ck2_165, List.forall_mem_cons.mpr ⟨x_ck2_166, List.forall_mem_cons.mpr ⟨x_ck2_167, List.forall_mem_cons.mpr ⟨x_ck2_168, List.forall_mem_cons.mpr ⟨x_ck2_169, List.forall_mem_cons.mpr ⟨x_ck2_170, List.forall_mem_cons.mpr ⟨x_ck2_171, fun _ h => absurd h List.not_mem_nil⟩⟩⟩⟩⟩⟩⟩⟩⟩⟩⟩⟩⟩⟩⟩⟩⟩⟩⟩⟩⟩⟩⟩⟩⟩⟩⟩⟩⟩⟩⟩⟩⟩⟩⟩⟩⟩⟩⟩⟩⟩⟩⟩⟩⟩⟩⟩⟩⟩⟩⟩⟩⟩⟩⟩⟩⟩⟩⟩⟩⟩⟩⟩⟩⟩⟩⟩⟩⟩⟩⟩⟩⟩⟩⟩⟩⟩⟩⟩⟩⟩⟩⟩⟩⟩⟩⟩⟩⟩⟩⟩⟩⟩⟩⟩⟩⟩⟩⟩⟩⟩⟩⟩⟩⟩⟩⟩⟩⟩⟩⟩⟩⟩⟩⟩⟩⟩⟩⟩⟩⟩⟩⟩⟩⟩⟩⟩⟩⟩⟩⟩⟩⟩⟩⟩⟩⟩⟩⟩⟩⟩⟩⟩⟩⟩⟩⟩⟩⟩⟩⟩⟩⟩⟩⟩⟩⟩⟩⟩⟩⟩⟩⟩⟩⟩⟩⟩⟩⟩⟩⟩⟩
set_option maxRecDepth 100000 in
theorem x_ck4_0 : x_ck4 x_i0 = true := by decide +kernel
set_option maxRecDepth 100000 in
theorem x_ck4_1 : x_ck4 x_i1 = true := by decide +kernel
set_option maxRecDepth 100000 in
theorem x_ck4_2 : x_ck4 x_i2 = true := by decide +kernel
set_option maxRecDepth 100000 in
theorem x_ck4_3 : x_ck4 x_i3 = true := by decide +kernel
set_option maxRecDepth 100000 in
theorem x_ck4_4 : x_ck4 x_i4 = true := by decide +kernel
set_option maxRecDepth 100000 in
theorem x_ck4_5 : x_ck4 x_i5 = true := by decide +kernel
set_option maxRecDepth 100000 in
theorem x_ck4_6 : x_ck4 x_i6 = true := by decide +kernel
set_option maxRecDepth 100000 in
theorem x_ck4_7 : x_ck4 x_i7 = true := by decide +kernel
set_option maxRecDepth 100000 in
theorem x_ck4_8 : x_ck4 x_i8 = true := by decide +kernel
set_option maxRecDepth 100000 in
theorem x_ck4_9 : x_ck4 x_i9 = true := by decide +kernel
set_option maxRecDepth 100000 in
theorem x_ck4_10 : x_ck4 x_i10 = true := by decide +kernel
set_option maxRecDepth 100000 in
theorem x_ck4_11 : x_ck4 x_i11 = true := by decide +kernel
set_option maxRecDepth 100000 in
theorem x_ck4_12 : x_ck4 x_i12 = true := by decide +kernel
set_option maxRecDepth 100000 in
theorem x_ck4_13 : x_ck4 x_i13 = true := by decide +kernel
set_option maxRecDepth 100000 in
theorem x_ck4_14 : x_ck4 x_i14 = true := by decide +kernel
set_option maxRecDepth 100000 in
theorem x_ck4_15 : x_ck4 x_i15 = true := by decide +kernel
set_option maxRecDepth 100000 in
theorem x_ck4_16 : x_ck4 x_i16 = true := by decide +kernel
set_option maxRecDepth 100000 in
theorem x_ck4_17 : x_ck4 x_i17 = true := by decide +kernel
set_option maxRecDepth 100000 in
theorem x_ck4_18 : x_ck4 x_i18 = true := by decide +kernel
set_option maxRecDepth 100000 in
theorem x_ck4_19 : x_ck4 x_i19 = true := by decide +kernel
set_option maxRecDepth 100000 in
theorem x_ck4_20 : x_ck4 x_i20 = true := by decide +kernel
set_option maxRecDepth 100000 in
theorem x_ck4_21 : x_ck4 x_i21 = true := by decide +kernel
set_option maxRecDepth 100000 in
theorem x_ck4_22 : x_ck4 x_i22 = true := by decide +kernel
set_option maxRecDepth 100000 in
theorem x_ck4_23 : x_ck4 x_i23 = true := by decide +kernel
set_option maxRecDepth 100000 in
theorem x_ck4_24 : x_ck4 x_i24 = true := by decide +kernel
set_option maxRecDepth 100000 in
theorem x_ck4_25 : x_ck4 x_i25 = true := by decide +kernel
set_option maxRecDepth 100000 in
theorem x_ck4_26 : x_ck4 x_i26 = true := by decide +kernel
set_option maxRecDepth 100000 in
theorem x_ck4_27 : x_ck4 x_i27 = true := by decide +kernel
set_option maxRecDepth 100000 in
theorem x_ck4_28 : x_ck4 x_i28 = true := by decide +kernel
set_option maxRecDepth 100000 in
theorem x_ck4_29 : x_ck4 x_i29 = true := by decide +kernel
set_option maxRecDepth 100000 in
theorem x_ck4_30 : x_ck4 x_i30 = true := by decide +kernel
set_option maxRecDepth 100000 in
theorem x_ck4_31 : x_ck4 x_i31 = true := by decide +kernel
set_option maxRecDepth 100000 in
theorem x_ck4_32 : x_ck4 x_i32 = true := by decide +kernel
set_option maxRecDepth 100000 in
theorem x_ck4_33 : x_ck4 x_i33 = true := by decide +kernel
set_option maxRecDepth 100000 in
theorem x_ck4_34 : x_ck4 x_i34 = true := by decide +kernel
set_option maxRecDepth 100000 in
theorem x_ck4_35 : x_ck4 x_i35 = true := by decide +kernel
set_option maxRecDepth 100000 in
theorem x_ck4_36 : x_ck4 x_i36 = true := by decide +kernel
set_option maxRecDepth 100000 in
theorem x_ck4_37 : x_ck4 x_i37 = true := by decide +kernel
set_option maxRecDepth 100000 in
theorem x_ck4_38 : x_ck4 x_i38 = true := by decide +kernel
set_option maxRecDepth 100000 in
theorem x_ck4_39 : x_ck4 x_i39 = true := by decide +kernel
set_option maxRecDepth 100000 in
theorem x_ck4_40 : x_ck4 x_i40 = true := by decide +kernel
set_option maxRecDepth 100000 in
theorem x_ck4_41 : x_ck4 x_i41 = true := by decide +kernel
set_option maxRecDepth 100000 in
theorem x_ck4_42 : x_ck4 x_i42 = true := by decide +kernel
set_option maxRecDepth 100000 in
theorem x_ck4_43 : x_ck4 x_i43 = true := by decide +kernel
set_option maxRecDepth 100000 in
theorem x_ck4_44 : x_ck4 x_i44 = true := by decide +kernel
set_option maxRecDepth 100000 in
theorem x_ck4_45 : x_ck4 x_i45 = true := by decide +kernel
set_option maxRecDepth 100000 in
theorem x_ck4_46 : x_ck4 x_i46 = true := by decide +kernel
set_option maxRecDepth 100000 in
theorem x_ck4_47 : x_ck4 x_i47 = true := by decide +kernel
set_option maxRecDepth 100000 in
theorem x_ck4_48 : x_ck4 x_i48 = true := by decide +kernel
set_option maxRecDepth 100000 in
theorem x_ck4_49 : x_ck4 x_i49 = true := by decide +kernel
set_option maxRecDepth 100000 in
theorem x_ck4_50 : x_ck4 x_i50 = true := by decide +kernel
set_option maxRecDepth 100000 in
theorem x_ck4_51 : x_ck4 x_i51 = true := by decide +kernel
set_option maxRecDepth 100000 in
theorem x_ck4_52 : x_ck4 x_i52 = true := by decide +kernel
set_option maxRecDepth 100000 in
theorem x_ck4_53 : x_ck4 x_i53 = true := by decide +kernel
set_option maxRecDepth 100000 in
theorem x_ck4_54 : x_ck4 x_i54 = true := by decide +kernel
set_option maxRecDepth 100000 in
theorem x_ck4_55 : x_ck4 x_i55 = true := by decide +kernel
set_option maxRecDepth 100000 in
theorem x_ck4_56 : x_ck4 x_i56 = true := by decide +kernel
set_option maxRecDepth 100000 in
theorem x_ck4_57 : x_ck4 x_i57 = true := by decide +kernel
set_option maxRecDepth 100000 in
theorem x_ck4_58 : x_ck4 x_i58 = true := by decide +kernel
set_option maxRecDepth 100000 in
theorem x_ck4_59 : x_ck4 x_i59 = true := by decide +kernel
set_option maxRecDepth 100000 in
theorem x_ck4_60 : x_ck4 x_i60 = true := by decide +kernel
set_option maxRecDepth 100000 in
theorem x_ck4_61 : x_ck4 x_i61 = true := by decide +kernel
set_option maxRecDepth 100000 in
theorem x_ck4_62 : x_ck4 x_i62 = true := by decide +kernel
set_option maxRecDepth 100000 in
theorem x_ck4_63 : x_ck4 x_i63 = true := by decide +kernel
set_option maxRecDepth 100000 in
theorem x_ck4_64 : x_ck4 x_i64 = true := by decide +kernel
set_option maxRecDepth 100000 in
theorem x_ck4_65 : x_ck4 x_i65 = true := by decide +kernel
set_option maxRecDepth 100000 in
theorem x_ck4_66 : x_ck4 x_i66 = true := by decide +kernel
set_option maxRecDepth 100000 in
theorem x_ck4_67 : x_ck4 x_i67 = true := by decide +kernel
set_option maxRecDepth 100000 in
theorem x_ck4_68 : x_ck4 x_i68 = true := by decide +kernel
set_option maxRecDepth 100000 in
theorem x_ck4_69 : x_ck4 x_i69 = true := by decide +kernel
set_option maxRecDepth 100000 in
theorem x_ck4_70 : x_ck4 x_i70 = true := by decide +kernel
set_option maxRecDepth 100000 in
theorem x_ck4_71 : x_ck4 x_i71 = true := by decide +kernel
set_option maxRecDepth 100000 in
theorem x_ck4_72 : x_ck4 x_i72 = true := by decide +kernel
set_option maxRecDepth 100000 in
theorem x_ck4_73 : x_ck4 x_i73 = true := by decide +kernel
set_option maxRecDepth 100000 in
theorem x_ck4_74 : x_ck4 x_i74 = true := by decide +kernel
set_option maxRecDepth 100000 in
theorem x_ck4_75 : x_ck4 x_i75 = true := by decide +kernel
set_option maxRecDepth 100000 in
theorem x_ck4_76 : x_ck4 x_i76 = true := by decide +kernel
set_option maxRecDepth 100000 in
theorem x_ck4_77 : x_ck4 x_i77 = true := by decide +kernel
set_option maxRecDepth 100000 in
theorem x_ck4_78 : x_ck4 x_i78 = true := by decide +kernel
set_option maxRecDepth 100000 in
theorem x_ck4_79 : x_ck4 x_i79 = true := by decide +kernel
set_option maxRecDepth 100000 in
theorem x_ck4_80 : x_ck4 x_i80 = true := by decide +kernel
set_option maxRecDepth 100000 in
theorem x_ck4_81 : x_ck4 x_i81 = true := by decide +kernel
set_option maxRecDepth 100000 in
theorem x_ck4_82 : x_ck4 x_i82 = true := by decide +kernel
set_option maxRecDepth 100000 in
theorem x_ck4_83 : x_ck4 x_i83 = true := by decide +kernel
set_option maxRecDepth 100000 in
theorem x_ck4_84 : x_ck4 x_i84 = true := by decide +kernel
set_option maxRecDepth 100000 in
theorem x_ck4_85 : x_ck4 x_i85 = true := by decide +kernel
set_option maxRecDepth 100000 in
theorem x_ck4_86 : x_ck4 x_i86 = true := by decide +kernel
set_option maxRecDepth 100000 in
theorem x_ck4_87 : x_ck4 x_i87 = true := by decide +kernel
set_option maxRecDepth 100000 in
theorem x_ck4_88 : x_ck4 x_i88 = true := by decide +kernel
set_option maxRecDepth 100000 in
theorem x_ck4_89 : x_ck4 x_i89 = true := by decide +kernel
set_option maxRecDepth 100000 in
theorem x_ck4_90 : x_ck4 x_i90 = true := by decide +kernel
set_option maxRecDepth 100000 in
theorem x_ck4_91 : x_ck4 x_i91 = true := by decide +kernel
set_option maxRecDepth 100000 in
theorem x_ck4_92 : x_ck4 x_i92 = true := by decide +kernel
set_option maxRecDepth 100000 in
theorem x_ck4_93 : x_ck4 x_i93 = true := by decide +kernel
set_option maxRecDepth 100000 in
theorem x_ck4_94 : x_ck4 x_i94 = true := by decide +kernel
set_option maxRecDepth 100000 in
theorem x_ck4_95 : x_ck4 x_i95 = true := by decide +kernel
set_option maxRecDepth 100000 in
theorem x_ck4_96 : x_ck4 x_i96 = true := by decide +kernel
set_option maxRecDepth 100000 in
theorem x_ck4_97 : x_ck4 x_i97 = true := by decide +kernel
set_option maxRecDepth 100000 in
theorem x_ck4_98 : x_ck4 x_i98 = true := by decide +kernel
set_option maxRecDepth 100000 in
theorem x_ck4_99 : x_ck4 x_i99 = true := by decide +kernel
set_option maxRecDepth 100000 in
theorem x_ck4_100 : x_ck4 x_i100 = true := by decide +kernel
set_option maxRecDepth 100000 in
theorem x_ck4_101 : x_ck4 x_i101 = true := by decide +kernel
set_option maxRecDepth 100000 in
theorem x_ck4_102 : x_ck4 x_i102 = true := by decide +kernel
set_option maxRecDepth 100000 in
theorem x_ck4_103 : x_ck4 x_i103 = true := by decide +kernel
set_option maxRecDepth 100000 in
theorem x_ck4_104 : x_ck4 x_i104 = true := by decide +kernel
set_option maxRecDepth 100000 in
theorem x_ck4_105 : x_ck4 x_i105 = true := by decide +kernel
set_option maxRecDepth 100000 in
theorem x_ck4_106 : x_ck4 x_i106 = true := by decide +kernel
set_option maxRecDepth 100000 in
theorem x_ck4_107 : x_ck4 x_i107 = true := by decide +kernel
set_option maxRecDepth 100000 in
theorem x_ck4_108 : x_ck4 x_i108 = true := by decide +kernel
set_option maxRecDepth 100000 in
theorem x_ck4_109 : x_ck4 x_i109 = true := by decide +kernel
set_option maxRecDepth 100000 in
theorem x_ck4_110 : x_ck4 x_i110 = true := by decide +kernel
set_option maxRecDepth 100000 in
theorem x_ck4_111 : x_ck4 x_i111 = true := by decide +kernel
set_option maxRecDepth 100000 in
theorem x_ck4_112 : x_ck4 x_i112 = true := by decide +kernel
set_option maxRecDepth 100000 in
theorem x_ck4_113 : x_ck4 x_i113 = true := by decide +kernel
set_option maxRecDepth 100000 in
theorem x_ck4_114 : x_ck4 x_i114 = true := by decide +kernel
set_option maxRecDepth 100000 in
theorem x_ck4_115 : x_ck4 x_i115 = true := by decide +kernel
set_option maxRecDepth 100000 in
theorem x_ck4_116 : x_ck4 x_i116 = true := by decide +kernel
set_option maxRecDepth 100000 in
theorem x_ck4_117 : x_ck4 x_i117 = true := by decide +kernel
set_option maxRecDepth 100000 in
theorem x_ck4_118 : x_ck4 x_i118 = true := by decide +kernel
set_option maxRecDepth 100000 in
theorem x_ck4_119 : x_ck4 x_i119 = true := by decide +kernel
set_option maxRecDepth 100000 in
theorem x_ck4_120 : x_ck4 x_i120 = true := by decide +kernel
set_option maxRecDepth 100000 in
theorem x_ck4_121 : x_ck4 x_i121 = true := by decide +kernel
set_option maxRecDepth 100000 in
theorem x_ck4_122 : x_ck4 x_i122 = true := by decide +kernel
set_option maxRecDepth 100000 in
theorem x_ck4_123 : x_ck4 x_i123 = true := by decide +kernel
set_option maxRecDepth 100000 in
theorem x_ck4_124 : x_ck4 x_i124 = true := by decide +kernel
set_option maxRecDepth 100000 in
theorem x_ck4_125 : x_ck4 x_i125 = true := by decide +kernel
set_option maxRecDepth 100000 in
theorem x_ck4_126 : x_ck4 x_i126 = true := by decide +kernel
set_option maxRecDepth 100000 in
theorem x_ck4_127 : x_ck4 x_i127 = true := by decide +kernel
set_option maxRecDepth 100000 in
theorem x_ck4_128 : x_ck4 x_i128 = true := by decide +kernel
set_option maxRecDepth 100000 in
theorem x_ck4_129 : x_ck4 x_i129 = true := by decide +kernel
set_option maxRecDepth 100000 in
theorem x_ck4_130 : x_ck4 x_i130 = true := by decide +kernel
set_option maxRecDepth 100000 in
theorem x_ck4_131 : x_ck4 x_i131 = true := by decide +kernel
set_option maxRecDepth 100000 in
theorem x_ck4_132 : x_ck4 x_i132 = true := by decide +kernel
set_option maxRecDepth 100000 in
theorem x_ck4_133 : x_ck4 x_i133 = true := by decide +kernel
set_option maxRecDepth 100000 in
theorem x_ck4_134 : x_ck4 x_i134 = true := by decide +kernel
set_option maxRecDepth 100000 in
theorem x_ck4_135 : x_ck4 x_i135 = true := by decide +kernel
set_option maxRecDepth 100000 in
theorem x_ck4_136 : x_ck4 x_i136 = true := by decide +kernel
set_option maxRecDepth 100000 in
theorem x_ck4_137 : x_ck4 x_i137 = true := by decide +kernel
set_option maxRecDepth 100000 in
theorem x_ck4_138 : x_ck4 x_i138 = true := by decide +kernel
set_option maxRecDepth 100000 in
theorem x_ck4_139 : x_ck4 x_i139 = true := by decide +kernel
set_option maxRecDepth 100000 in
theorem x_ck4_140 : x_ck4 x_i140 = true := by decide +kernel
set_option maxRecDepth 100000 in
theorem x_ck4_141 : x_ck4 x_i141 = true := by decide +kernel
set_option maxRecDepth 100000 in
theorem x_ck4_142 : x_ck4 x_i142 = true := by decide +kernel
set_option maxRecDepth 100000 in
theorem x_ck4_143 : x_ck4 x_i143 = true := by decide +kernel
set_option maxRecDepth 100000 in
theorem x_ck4_144 : x_ck4 x_i144 = true := by decide +kernel
set_option maxRecDepth 100000 in
theorem x_ck4_145 : x_ck4 x_i145 = true := by decide +kernel
set_option maxRecDepth 100000 in
theorem x_ck4_146 : x_ck4 x_i146 = true := by decide +kernel
set_option maxRecDepth 100000 in
theorem x_ck4_147 : x_ck4 x_i147 = true := by decide +kernel
set_option maxRecDepth 100000 in
theorem x_ck4_148 : x_ck4 x_i148 = true := by decide +kernel
set_option maxRecDepth 100000 in
theorem x_ck4_149 : x_ck4 x_i149 = true := by decide +kernel
set_option maxRecDepth 100000 in
theorem x_ck4_150 : x_ck4 x_i150 = true := by decide +kernel
set_option maxRecDepth 100000 in
theorem x_ck4_151 : x_ck4 x_i151 = true := by decide +kernel
set_option maxRecDepth 100000 in
theorem x_ck4_152 : x_ck4 x_i152 = true := by decide +kernel
set_option maxRecDepth 100000 in
theorem x_ck4_153 : x_ck4 x_i153 = true := by decide +kernel
set_option maxRecDepth 100000 in
theorem x_ck4_154 : x_ck4 x_i154 = true := by decide +kernel
set_option maxRecDepth 100000 in
theorem x_ck4_155 : x_ck4 x_i155 = true := by decide +kernel
set_option maxRecDepth 100000 in
theorem x_ck4_156 : x_ck4 x_i156 = true := by decide +kernel
set_option maxRecDepth 100000 in
theorem x_ck4_157 : x_ck4 x_i157 = true := by decide +kernel
set_option maxRecDepth 100000 in
theorem x_ck4_158 : x_ck4 x_i158 = true := by decide +kernel
set_option maxRecDepth 100000 in
theorem x_ck4_159 : x_ck4 x_i159 = true := by decide +kernel
set_option maxRecDepth 100000 in
theorem x_ck4_160 : x_ck4 x_i160 = true := by decide +kernel
set_option maxRecDepth 100000 in
theorem x_ck4_161 : x_ck4 x_i161 = true := by decide +kernel
set_option maxRecDepth 100000 in
theorem x_ck4_162 : x_ck4 x_i162 = true := by decide +kernel
set_option maxRecDepth 100000 in
theorem x_ck4_163 : x_ck4 x_i163 = true := by decide +kernel
set_option maxRecDepth 100000 in
theorem x_ck4_164 : x_ck4 x_i164 = true := by decide +kernel
set_option maxRecDepth 100000 in
theorem x_ck4_165 : x_ck4 x_i165 = true := by decide +kernel
set_option maxRecDepth 100000 in
theorem x_ck4_166 : x_ck4 x_i166 = true := by decide +kernel
set_option maxRecDepth 100000 in
theorem x_ck4_167 : x_ck4 x_i167 = true := by decide +kernel
set_option maxRecDepth 100000 in
theorem x_ck4_168 : x_ck4 x_i168 = true := by decide +kernel
set_option maxRecDepth 100000 in
theorem x_ck4_169 : x_ck4 x_i169 = true := by decide +kernel
set_option maxRecDepth 100000 in
theorem x_ck4_170 : x_ck4 x_i170 = true := by decide +kernel
set_option maxRecDepth 100000 in
theorem x_ck4_171 : x_ck4 x_i171 = true := by decide +kernel
set_option maxRecDepth 100000 in
theorem x_ck4_all : ∀ i ∈ x_tab, x_ck4 i = true := List.forall_mem_cons.mpr ⟨x_ck4_0, List.forall_mem_cons.mpr ⟨x_ck4_1, List.forall_mem_cons.mpr ⟨x_ck4_2, List.forall_mem_cons.mpr ⟨x_ck4_3, List.forall_mem_cons.mpr ⟨x_ck4_4, List.forall_mem_cons.mpr ⟨x_ck4_5, List.forall_mem_cons.mpr ⟨x_ck4_6, List.forall_mem_cons.mpr ⟨x_ck4_7, List.forall_mem_cons.mpr ⟨x_ck4_8, List.forall_mem_cons.mpr ⟨x_ck4_9, List.forall_mem_cons.mpr ⟨x_ck4_10, List.forall_mem_cons.mpr ⟨x_ck4_11, List.forall_mem_cons.mpr ⟨x_ck4_12, List.forall_mem_cons.mpr ⟨x_ck4_13, List.forall_mem_cons.mpr ⟨x_ck4_14, List.forall_mem_cons.mpr ⟨x_ck4_15, List.forall_mem_cons.mpr ⟨x_ck4_16, List.forall_mem_cons.mpr ⟨x_ck4_17, List.forall_mem_cons.mpr ⟨x_ck4_18, List.forall_mem_cons.mpr ⟨x_ck4_19, List.forall_mem_cons.mpr ⟨x_ck4_20, List.forall_mem_cons.mpr ⟨x_ck4_21, List.forall_mem_cons.mpr ⟨x_ck4_22, List.forall_mem_cons.mpr ⟨x_ck4_23, List.forall_mem_cons.mpr ⟨x_ck4_24, List.forall_mem_cons.mpr ⟨x_ck4_25, List.forall_mem_cons.mpr ⟨x_ck4_26, List.forall_mem_cons.mpr ⟨x_ck4_27, List.forall_mem_cons.mpr ⟨x_ck4_28, List.forall_mem_cons.mpr ⟨x_ck4_29, List.forall_mem_cons.mpr ⟨x_ck4_30, List.forall_mem_cons.mpr ⟨x_ck4_31, List.forall_mem_cons.mpr ⟨x_ck4_32, List.forall_mem_cons.mpr ⟨x_ck4_33, List.forall_mem_cons.mpr ⟨x_ck4_34, List.forall_mem_cons.mpr ⟨x_ck4_35, List.forall_mem_cons.mpr ⟨x_ck4_36, List.forall_mem_cons.mpr ⟨x_ck4_37, List.forall_mem_cons.mpr ⟨x_ck4_38, List.forall_mem_cons.mpr ⟨x_ck4_39, List.forall_mem_cons.mpr ⟨x_ck4_40, List.forall_mem_cons.mpr ⟨x_ck4_41, List.forall_mem_cons.mpr ⟨x_ck4_42, List.forall_mem_cons.mpr ⟨x_ck4_43, List.forall_mem_cons.mpr ⟨x_ck4_44, List.forall_mem_cons.mpr ⟨x_ck4_45, List.forall_mem_cons.mpr ⟨x_ck4_46, List.forall_mem_cons.mpr ⟨x_ck4_47, List.forall_mem_cons.mpr ⟨x_ck4_48, List.forall_mem_cons.mpr ⟨x_ck4_49, List.forall_mem_cons.mpr ⟨x_ck4_50, List.forall_mem_cons.mpr ⟨x_ck4_51, List.forall_mem_cons.mpr ⟨x_ck4_52, List.forall_mem_cons.mpr ⟨x_ck4_53, List.forall_mem_cons.mpr ⟨x_ck4_54, List.forall_mem_cons.mpr ⟨x_ck4_55, List.forall_mem_cons.mpr ⟨x_ck4_56, List.forall_mem_cons.mpr ⟨x_ck4_57, List.forall_mem_cons.mpr ⟨x_ck4_58, List.forall_mem_cons.mpr ⟨x_ck4_59, List.forall_mem_cons.mpr ⟨x_ck4_60, List.forall_mem_cons.mpr ⟨x_ck4_61, List.forall_mem_cons.mpr ⟨x_ck4_62, List.forall_mem_cons.mpr ⟨x_ck4_63, List.forall_mem_cons.mpr ⟨x_ck4_64, List.forall_mem_cons.mpr ⟨x_ck4_65, List.forall_mem_cons.mpr ⟨x_ck4_66, List.forall_mem_cons.mpr ⟨x_ck4_67, List.forall_mem_cons.mpr ⟨x_ck4_68, List.forall_mem_cons.mpr ⟨x_ck4_69, List.forall_mem_cons.mpr ⟨x_ck4_70, List.forall_mem_cons.mpr ⟨x_ck4_71, List.forall_mem_cons.mpr ⟨x_ck4_72, List.forall_mem_cons.mpr ⟨x_ck4_73, List.forall_mem_cons.mpr ⟨x_ck4_74, List.forall_mem_cons.mpr ⟨x_ck4_75, List.forall_mem_cons.mpr ⟨x_ck4_76, List.forall_mem_cons.mpr ⟨x_ck4_77, List.forall_mem_cons.mpr ⟨x_ck4_78, List.forall_mem_cons.mpr ⟨x_ck4_79, List.forall_mem_cons.mpr ⟨x_ck4_80, List.forall_mem_cons.mpr ⟨x_ck4_81, List.forall_mem_cons.mpr ⟨x_ck4_82, List.forall_mem_cons.mpr ⟨x_ck4_83, List.forall_mem_cons.mpr ⟨x_ck4_84, List.forall_mem_cons.mpr ⟨x_ck4_85, List.forall_mem_cons.mpr ⟨x_ck4_86, List.forall_mem_cons.mpr ⟨x_ck4_87, List.forall_mem_cons.mpr ⟨x_ck4_88, List.forall_mem_cons.mpr ⟨x_ck4_89, List.forall_mem_cons.mpr ⟨x_ck4_90, List.forall_mem_cons.mpr ⟨x_ck4_91, List.forall_mem_cons.mpr ⟨x_ck4_92, List.forall_mem_cons.mpr ⟨x_ck4_93, List.forall_mem_cons.mpr ⟨x_ck4_94, List.forall_mem_cons.mpr ⟨x_ck4_95, List.forall_mem_cons.mpr ⟨x_ck4_96, List.forall_mem_cons.mpr ⟨x_ck4_97, List.forall_mem_cons.mpr ⟨x_ck4_98, List.forall_mem_cons.mpr ⟨x_ck4_99, List.forall_mem_cons.mpr ⟨x_ck4_100, List.forall_mem_cons.mpr ⟨x_ck4_101, List.forall_mem_cons.mpr ⟨x_ck4_102, List.forall_mem_cons.mpr ⟨x_ck4_103, List.forall_mem_cons.mpr ⟨x_ck4_104, List.forall_mem_cons.mpr ⟨x_ck4_105, List.forall_mem_cons.mpr ⟨x_ck4_106, List.forall_mem_cons.mpr ⟨x_ck4_107, List.forall_mem_cons.mpr ⟨x_ck4_108, List.forall_mem_cons.mpr ⟨x_ck4_109, List.forall_mem_cons.mpr ⟨x_ck4_110, List.forall_mem_cons.mpr ⟨x_ck4_111, List.forall_mem_cons.mpr ⟨x_ck4_112, List.forall_mem_cons.mpr ⟨x_ck4_113, List.forall_mem_cons.mpr ⟨x_ck4_114, List.forall_mem_cons.mpr ⟨x_ck4_115, List.forall_mem_cons.mpr ⟨x_ck4_116, List.forall_mem_cons.mpr ⟨x_ck4_117, List.forall_mem_cons.mpr ⟨x_ck4_118, List.forall_mem_cons.mpr ⟨x_ck4_119, List.forall_mem_cons.mpr ⟨x_ck4_120, List.forall_mem_cons.mpr ⟨x_ck4_121, List.forall_mem_cons.mpr ⟨x_ck4_122, List.forall_mem_cons.mpr ⟨x_ck4_123, List.forall_mem_cons.mpr ⟨x_ck4_124, List.forall_mem_cons.mpr ⟨x_ck4_125, List.forall_mem_cons.mpr ⟨x_ck4_126, List.forall_mem_cons.mpr ⟨x_ck4_127, List.forall_mem_cons.mpr ⟨x_ck4_128, List.forall_mem_cons.mpr ⟨x_ck4_129, List.forall_mem_cons.mpr ⟨x_ck4_130, List.forall_mem_cons.mpr ⟨x_ck4_131, List.forall_mem_cons.mpr ⟨x_ck4_132, List.forall_mem_cons.mpr ⟨x_ck4_133, List.forall_mem_cons.mpr ⟨x_ck4_134, List.forall_mem_cons.mpr ⟨x_ck4_135, List.forall_mem_cons.mpr ⟨x_ck4_136, List.forall_mem_cons.mpr ⟨x_ck4_137, List.forall_mem_cons.mpr ⟨x_ck4_138, List.forall_mem_cons.mpr ⟨x_ck4_139, List.forall_mem_cons.mpr ⟨x_ck4_140, List.forall_mem_cons.mpr ⟨x_ck4_141, List.forall_mem_cons.mpr ⟨x_ck4_142, List.forall_mem_cons.mpr ⟨x_ck4_143, List.forall_mem_cons.mpr ⟨x_ck4_144, List.forall_mem_cons.mpr ⟨x_ck4_145, List.forall_mem_cons.mpr ⟨x_ck4_146, List.forall_mem_cons.mpr ⟨x_ck4_147, List.forall_mem_cons.mpr ⟨x_ck4_148, List.forall_mem_cons.mpr ⟨x_ck4_149, List.forall_mem_cons.mpr ⟨x_ck4_150, List.forall_mem_cons.mpr ⟨x_ck4_151, List.forall_mem_cons.mpr ⟨x_ck4_152, List.forall_mem_cons.mpr ⟨x_ck4_153, List.forall_mem_cons.mpr ⟨x_ck4_154, List.forall_mem_cons.mpr ⟨x_ck4_155, List.forall_mem_cons.mpr ⟨x_ck4_156, List.forall_mem_cons.mpr ⟨x_ck4_157, List.forall_mem_cons.mpr ⟨x_ck4_158, List.forall_mem_cons.mpr ⟨x_ck4_159, List.forall_mem_cons.mpr ⟨x_ck4_160, List.forall_mem_cons.mpr ⟨x_ck4_161, List.forall_mem_cons.mpr ⟨x_ck4_162, List.forall_mem_cons.mpr ⟨x_ck4_163, List.forall_mem_cons.mpr ⟨x_ck4_164, List.forall_mem_cons.mpr ⟨x_ck4_165, List.forall_mem_cons.mpr ⟨x_ck4_166, List.forall_mem_cons.mpr ⟨x_ck4_167, List.forall_mem_cons.mpr ⟨x_ck4_168, List.forall_mem_cons.mpr ⟨x_ck4_169, List.forall_mem_cons.mpr ⟨x_ck4_170, List.forall_mem_cons.mpr ⟨x_ck4_171, fun _ h => absurd h List.not_mem_nil⟩⟩⟩⟩⟩⟩⟩⟩⟩⟩⟩⟩⟩⟩⟩⟩⟩⟩⟩⟩⟩⟩⟩⟩⟩⟩⟩⟩⟩⟩⟩⟩⟩⟩⟩⟩⟩⟩⟩⟩⟩⟩⟩⟩⟩⟩⟩⟩⟩⟩⟩⟩⟩⟩⟩⟩⟩⟩⟩⟩⟩⟩⟩⟩⟩⟩⟩⟩⟩⟩⟩⟩⟩⟩⟩⟩⟩⟩⟩⟩⟩⟩⟩⟩⟩⟩⟩⟩⟩⟩⟩⟩⟩⟩⟩⟩⟩⟩⟩⟩⟩⟩⟩⟩⟩⟩⟩⟩⟩⟩⟩⟩⟩⟩⟩⟩⟩⟩⟩⟩⟩⟩⟩⟩⟩⟩⟩⟩⟩⟩⟩⟩⟩⟩⟩⟩⟩⟩⟩⟩⟩⟩⟩⟩⟩⟩⟩⟩⟩⟩⟩⟩⟩⟩⟩⟩⟩⟩⟩⟩⟩⟩⟩⟩⟩⟩⟩⟩⟩⟩⟩⟩
set_option maxRecDepth 100000 in
theorem x_ck3_all : ∀ i ∈ x_tab, x_ck3 i = true := List.all_eq_true.mp (by decide +kernel)
end
section
/-! What the words say of every place of the methods' pools; the contract of every method, at every depth -/
theorem x_tn_mem : ∀ {l : List xI} {n : Nat} {i : xI}, x_tn l n = some i → i ∈ l
  | [], n, i, h => by cases h
  | a :: l, 0, i, h => by cases h; exact List.mem_cons_self
  | a :: l, n + 1, i, h => List.mem_cons_of_mem _ (x_tn_mem (l := l) (n := n) h)
theorem x_pl_mem : ∀ {P : List (Nat × xE)} {q : Nat} {e : xE}, x_pl P q = some e → (q, e) ∈ P
  | [], q, e, h => by cases h
  | a :: P, q, e, h => by
    unfold x_pl at h
    split at h
    · rename_i hq
      cases h
      have e1 : a.1 = q := Nat.eq_of_beq_eq_true hq
      exact List.mem_cons.mpr (Or.inl (by rw [← e1]))
    · exact List.mem_cons_of_mem _ (x_pl_mem h)
theorem x_cl_own : ∀ c ∈ x_cl, ∀ f, f < c.2.2 → (c.2.1 f).1 = c.1 :=
  List.forall_mem_cons.mpr ⟨by decide +kernel, List.forall_mem_cons.mpr ⟨by decide +kernel, List.forall_mem_cons.mpr ⟨by decide +kernel, List.forall_mem_cons.mpr ⟨by decide +kernel, List.forall_mem_cons.mpr ⟨by decide +kernel, List.forall_mem_cons.mpr ⟨by decide +kernel, List.forall_mem_cons.mpr ⟨by decide +kernel, List.forall_mem_cons.mpr ⟨by decide +kernel, List.forall_mem_cons.mpr ⟨by decide +kernel, fun _ h => absurd h List.not_mem_nil⟩⟩⟩⟩⟩⟩⟩⟩⟩
theorem x_cl_nm : ∀ c ∈ x_cl, ∀ a, a < c.2.2 → ∀ b, b < c.2.2 → a ≠ b → (c.2.1 a).2.1 ≠ (c.2.1 b).2.1 :=
  List.forall_mem_cons.mpr ⟨nmX7, List.forall_mem_cons.mpr ⟨nmX4, List.forall_mem_cons.mpr ⟨nmX5, List.forall_mem_cons.mpr ⟨nmX1, List.forall_mem_cons.mpr ⟨nmX3, List.forall_mem_cons.mpr ⟨nmX6, List.forall_mem_cons.mpr ⟨nmX2, List.forall_mem_cons.mpr ⟨nmX0, List.forall_mem_cons.mpr ⟨nmXM, fun _ h => absurd h List.not_mem_nil⟩⟩⟩⟩⟩⟩⟩⟩⟩
theorem x_cl_ty : ∀ (ci : Nat) (c : vw_C), x_cl[ci]? = some c → ∀ k, k < c.2.2 → parseFieldDescriptor (c.2.1 k).2.2.1 = some (x_tyn ci k)
  | 0, c, h => by cases h; exact tyX7_ok
  | 1, c, h => by cases h; exact tyX4_ok
  | 2, c, h => by cases h; exact tyX5_ok
  | 3, c, h => by cases h; exact tyX1_ok
  | 4, c, h => by cases h; exact tyX3_ok
  | 5, c, h => by cases h; exact tyX6_ok
  | 6, c, h => by cases h; exact tyX2_ok
  | 7, c, h => by cases h; exact tyX0_ok
  | 8, c, h => by cases h; exact tyXM_ok
  | n + 9, c, h => by simp [x_cl] at h
/-- the constants: the table of needed words, the five texts, and what else is asked of them -/
def x_NW (A : Nat → Prop) (ad : Nat → Nat) (X : State → Prop) (U : State) : Prop :=
  va_Z "DeskMachine$Desk" "WORDS_NEEDED" "[I" (.ref (ad 900)) A U U.heap ∧ va_T .int (ad 900) 7 (fun j => .int (([1, 2, 2, 3, 3, 1, 0] : List Int32).getD j 0)) A U U.heap ∧ (∀ z ∈ x_txs, ∃ tx : String, vk_R "DeskMachine$Desk" z.1 tx (ad z.2) U) ∧ X U
theorem x_NW_mv {A : Nat → Prop} {ad : Nat → Nat} {X : State → Prop} (hX : x_Mv A X) : x_Mv A (x_NW A ad X) := by
  intro s U ⟨h1, h2, h3, h4⟩ hW hq
  exact ⟨(va_Z.moved hW.alike h1).kept hq, (va_T.moved hW.alike h2).kept hq, fun z hz => by
    obtain ⟨tx, h⟩ := h3 z hz
    exact ⟨tx, vk_R.warm hW h⟩, hX s U h4 hW hq⟩
theorem x_in_ws {i j : xI} (hj : j ∈ x_tab) {q : Nat} {e : xE} (he : (q, e) ∈ j.2.2.2.2.2.1) {w : Cond} (hw : w ∈ x_el j.1.cls q e) : w ∈ x_ws i :=
  List.mem_cons_of_mem _ (List.mem_append_right _ (List.mem_flatMap.mpr ⟨j, hj, List.mem_flatMap.mpr ⟨(q, e), he, hw⟩⟩))
theorem x_in_lay {i : xI} {c : vw_C} (hc : c ∈ x_cl) {w : Cond} (hw : w ∈ u_ws c.1 c.2.1 c.2.2) : w ∈ x_ws i :=
  List.mem_cons_of_mem _ (List.mem_append_left _ (List.mem_flatMap.mpr ⟨c, hc, hw⟩))
theorem x_good {i j : xI} (hg : ∀ w ∈ x_words, goodWord w = true) (hc : Cond.code j.1 j.2.1 j.2.2.1 j.2.2.2.1 ∈ x_words) : GoodIn (x_ws i) (x_ws j) := by
  intro w hw
  rcases List.mem_cons.mp hw with rfl | hw
  · exact ⟨List.mem_cons_of_mem _ hc, good_of_word (hg _ hc)⟩
  · exact ⟨List.mem_cons_of_mem _ hw, good_of_word (hg _ hw)⟩
theorem x_PO_of {A : Nat → Prop} {ad : Nat → Nat} {X : State → Prop} {i : xI} (hi : i ∈ x_tab) (hg : ∀ w ∈ x_words, goodWord w = true) {s : State} {args : Array Value} (hts : ∀ w ∈ x_ws i, w.before args s = true) (hN : x_NW A ad X s) :
    x_PO x_cl A ad x_ca (x_pl i.2.2.2.2.2.1) (x_ws i) i.1.cls (fun j => (x_g j).1) (fun j => (x_g j).2.1) (fun j => (x_g j).2.2.1) (fun j => (x_g j).2.2.2.1) (fun j => x_ws (x_g j)) (fun j => Nat.beq (x_g j).2.2.2.2.1 0) (fun j => x_rmo (x_g j)) (x_rmo i) s args := by
  have hck : ∀ (q : Nat) (e : xE), (q, e) ∈ i.2.2.2.2.2.1 → x_pk (x_dsk i) i.2.2.2.2.2.2.2.2.1 i.2.2.2.2.2.2.2.2.2.1 q e = true := fun q e h => List.all_eq_true.mp (x_ck2_all i hi) (q, e) h
  have hsite : ∀ (q na : Nat) (v : Bool) (i' : xI), i' ∈ x_tab → x_sk na v i.2.2.2.2.2.2.2.2.1 i.2.2.2.2.2.2.2.2.2.1 i' = true → Cond.methodLink i.1.cls q i'.1 ∈ x_ws i → Cond.code i'.1 i'.2.1 i'.2.2.1 i'.2.2.2.1 ∈ x_words → Cond.initialized i'.1.cls ∈ x_ws i →
      v = Nat.beq i'.2.2.2.2.1 0 ∧ CallB (x_rmo i) s args i.1.cls q i'.1 i'.2.1 i'.2.2.1 i'.2.2.2.1 (x_ws i') (x_rmo i') 0 0 na := by
    intro q na v i' hi' hsk h1 h2 h3
    unfold x_sk at hsk
    simp only [Bool.and_eq_true] at hsk
    obtain ⟨k1, k2, k3, k4⟩ := hsk
    have h4 := x_ck4_all i' hi'
    unfold x_ck4 at h4
    simp only [Bool.and_eq_true, decide_eq_true_eq] at h4
    obtain ⟨⟨m1, m2⟩, m3, -⟩ := h4
    have hna : na = i'.2.2.2.2.2.2.2.2.2.2.1 := Nat.eq_of_beq_eq_true k1
    exact ⟨x_bq_eq k4, callB_of na hts (x_good hg h2) rfl rfl rfl (hts _ h3) (hts _ h1) ⟨m1, m2, by rw [hna]; exact m3⟩ ⟨Nat.le_of_ble_eq_true k2, Nat.le_of_ble_eq_true k3⟩⟩
  refine ⟨?_, ?_, ?_, ?_, ?_, ?_⟩
  · intro q ci f n b hp
    have hm := x_pl_mem hp
    have h1 := hck _ _ hm
    unfold x_pk at h1
    dsimp only at h1
    cases hc : x_cl[ci]? with
    | none => rw [hc] at h1; cases h1
    | some c =>
      rw [hc] at h1
      simp only [Bool.and_eq_true, Bool.or_eq_true, decide_eq_true_eq] at h1
      obtain ⟨h2, h3⟩ := h1
      have hf : f < c.2.2 := by simpa [Nat.blt_eq] using h2
      have hmc : c ∈ x_cl := List.mem_of_getElem? hc
      refine ⟨c.1, c.2.1, c.2.2, hc, hf, fun w hw => x_in_lay hmc hw, x_cl_own c hmc f hf, Or.inl (hts _ (x_in_ws hi hm ?_)), fun hb => ?_⟩
      · unfold x_el
        dsimp only
        rw [hc]
        exact List.mem_cons_self
      · subst hb
        rcases h3 with h3 | ⟨h3, h4⟩
        · cases h3
        · exact ⟨x_bq_eq h3, by rw [x_cl_ty ci c hc f hf, h4], ⟨x_tyn ci, x_cl_ty ci c hc⟩, x_cl_nm c hmc⟩
  · intro q o n1 n2 b hp
    have hm := x_pl_mem hp
    have h1 := hck _ _ hm
    unfold x_pk at h1
    dsimp only at h1
    cases b with
    | true =>
      have ho : o = 900 := Nat.eq_of_beq_eq_true h1
      subst ho
      refine ⟨"DeskMachine$Desk", "WORDS_NEEDED", "[I", hN.1, hts _ (x_in_ws hi hm ?_)⟩
      unfold x_el
      exact List.mem_cons_self
    | false =>
      have h1 : (x_dsk i && decide ((q, o) ∈ x_txs)) = true := h1
      rw [Bool.and_eq_true, decide_eq_true_eq] at h1
      obtain ⟨h2, h3⟩ := h1
      have h7 : i.2.2.2.2.2.2.2.2.2.2.2 = 7 := Nat.eq_of_beq_eq_true h2
      have h4 := x_ck4_all i hi
      unfold x_ck4 at h4
      rw [h7] at h4
      have h8 : x_cl[7]? = some (RX0, TX0, 9) := rfl
      rw [h8] at h4
      simp only [Bool.and_eq_true, decide_eq_true_eq] at h4
      obtain ⟨tx, ht⟩ := hN.2.2.1 (q, o) h3
      refine ⟨tx, ?_⟩
      rw [h4.2.2]
      exact ht
  · intro q o n1 n2 b hp
    have hm := x_pl_mem hp
    exact hts _ (x_in_ws hi hm List.mem_cons_self)
  · intro o q hq
    unfold x_ca at hq
    split at hq
    · rename_i ho
      cases hq
      have ho : o = 900 := Nat.eq_of_beq_eq_true ho
      subst ho
      exact hN.2.1
    · cases hq
  · intro q j na ci v hp
    have hm := x_pl_mem hp
    have h1 := hck _ _ hm
    unfold x_pk at h1
    dsimp only at h1
    cases hj : x_tn x_tab j with
    | none => rw [hj] at h1; cases h1
    | some i' =>
      rw [hj] at h1
      simp only [Bool.and_eq_true] at h1
      obtain ⟨h2, h3, h4⟩ := h1
      have hci : ci < 9 := by simpa [Nat.blt_eq] using h2
      have hi' : i' ∈ x_tab := x_tn_mem hj
      have h7 : i'.2.2.2.2.2.2.2.2.2.2.2 = ci := Nat.eq_of_beq_eq_true h3
      have hg' : x_g j = i' := by unfold x_g; rw [hj]; rfl
      cases hc : x_cl[ci]? with
      | none =>
        have : x_cl.length ≤ ci := by simpa using hc
        have h9 : x_cl.length = 9 := rfl
        omega
      | some c =>
        have hcls : i'.1.cls = c.1 := by
          have h5 := x_ck4_all i' hi'
          unfold x_ck4 at h5
          rw [h7, hc] at h5
          simp only [Bool.and_eq_true, decide_eq_true_eq] at h5
          exact h5.2.2
        have hel : x_el i.1.cls q (1, j, na, ci, v) = [.methodLink i.1.cls q i'.1, .code i'.1 i'.2.1 i'.2.2.1 i'.2.2.2.1, .instanceMethod i'.1, .selects c.1 i'.1 i'.1, .initialized c.1] := by
          simp only [x_el, hc, hj]
        have hin : ∀ w ∈ x_el i.1.cls q (1, j, na, ci, v), w ∈ x_words := fun w hw => List.mem_append_right _ (List.mem_flatMap.mpr ⟨i, hi, List.mem_flatMap.mpr ⟨(q, (1, j, na, ci, v)), hm, hw⟩⟩)
        rw [hel] at hin
        obtain ⟨hv, hB⟩ := hsite q na v i' hi' h4 (List.mem_cons_of_mem _ (hin _ (by simp))) (hin _ (by simp)) (List.mem_cons_of_mem _ (by rw [hcls]; exact hin _ (by simp)))
        dsimp only
        rw [hg']
        exact ⟨hv, c.1, c.2.1, c.2.2, rfl, Or.inl ⟨hB, hts _ (List.mem_cons_of_mem _ (hin _ (by simp))), hts _ (List.mem_cons_of_mem _ (hin _ (by simp)))⟩⟩
  · intro q j na ci v hp
    have hm := x_pl_mem hp
    have h1 := hck _ _ hm
    unfold x_pk at h1
    dsimp only at h1
    cases hj : x_tn x_tab j with
    | none => rw [hj] at h1; cases h1
    | some i' =>
      rw [hj] at h1
      have hi' : i' ∈ x_tab := x_tn_mem hj
      have hg' : x_g j = i' := by unfold x_g; rw [hj]; rfl
      have hel : x_el i.1.cls q (2, j, na, ci, v) = [.methodLink i.1.cls q i'.1, .code i'.1 i'.2.1 i'.2.2.1 i'.2.2.2.1, .static i'.1, .initialized i'.1.cls] := by
        simp only [x_el, hj]
      have hin : ∀ w ∈ x_el i.1.cls q (2, j, na, ci, v), w ∈ x_words := fun w hw => List.mem_append_right _ (List.mem_flatMap.mpr ⟨i, hi, List.mem_flatMap.mpr ⟨(q, (2, j, na, ci, v)), hm, hw⟩⟩)
      rw [hel] at hin
      obtain ⟨hv, hB⟩ := hsite q na v i' hi' h1 (List.mem_cons_of_mem _ (hin _ (by simp))) (hin _ (by simp)) (List.mem_cons_of_mem _ (hin _ (by simp)))
      dsimp only
      rw [hg']
      exact ⟨hv, Or.inl ⟨hB, hts _ (List.mem_cons_of_mem _ (hin _ (by simp)))⟩⟩
/-- the contract of every method, at every depth; what firstWordIs does is a premise yet -/
theorem x_M_ok_open {l : Launch} {D : va_G} {tys : List (ClassId × FieldType)} {A : Nat → Prop} {ad : Nat → Nat} {cI cZ : ClassId} {X : State → Prop} (hX : x_Mv A X) (hg : ∀ w ∈ x_words, goodWord w = true) (hD : ∀ σ : xS, va_D A (x_w ad cI cZ x_sh σ)) {t1 t2 : Nat} (ht1 : tys[t1]? = some (cI, .int)) (ht2 : tys[t2]? = some (cZ, .boolean))
    (hF : ∀ (as : List Value) (σ : xS) (r : xR), x_fw as σ = some r → Met l (x_g x_jF).1 (x_ws (x_g x_jF)) (x_rmo (x_g x_jF)) (x_Pc D x_cl tys ad cI cZ x_sh (x_NW A ad X) as σ) (x_Qc D x_cl A ad cI cZ x_sh false r) 0 0 A) :
    ∀ (d j : Nat) (as : List Value) (σ : xS) (r : xR), x_M d j as σ = some r → Met l (x_g j).1 (x_ws (x_g j)) (x_rmo (x_g j)) (x_Pc D x_cl tys ad cI cZ x_sh (x_NW A ad X) as σ) (x_Qc D x_cl A ad cI cZ x_sh (Nat.beq (x_g j).2.2.2.2.1 0) r) 0 0 A := by
  intro d
  induction d with
  | zero => intro j as σ r h; cases h
  | succ d ih =>
    intro j as σ r h
    change (match Nat.beq j x_jF with
      | true => x_fw as σ
      | false => (match x_tn x_tab j with
        | none => none
        | some i => (match x_rm i.2.2.1 as with
          | true => x_run (x_b i (x_M d)) 5000 0 (lv_args 0 as) [] σ
          | false => none))) = some r at h
    split at h
    · rename_i hj
      have hj : j = x_jF := Nat.eq_of_beq_eq_true hj
      subst hj
      exact hF as σ r h
    · split at h
      · cases h
      · rename_i i hj
        have hi : i ∈ x_tab := x_tn_mem hj
        have hg' : x_g j = i := by unfold x_g; rw [hj]; rfl
        rw [hg']
        split at h
        · rename_i hrm
          have h3 := x_ck3_all i hi
          unfold x_ck3 at h3
          rw [Bool.and_eq_true, decide_eq_true_eq] at h3
          have hrt : x_rt i.2.2.2.2.1 i.2.2.2.1 := by
            have h4 := h3.2
            simp only [List.mem_cons, Prod.mk.injEq, List.not_mem_nil, or_false] at h4
            exact h4
          have hcode : ∀ q ∈ i.2.2.2.2.2.2.1, decode i.2.1 q.1 = .ok (q.2.2.1, q.2.1) ∧ x_ok q.1 q.2 = true := fun q hq => by
            have h5 := List.all_eq_true.mp (x_ck1_all i hi) q hq
            rw [Bool.and_eq_true, decide_eq_true_eq] at h5
            exact h5
          have hb : ∀ n : Nat, (n == 0) = Nat.beq n 0 := fun n => by cases n <;> rfl
          have hm := x_met (ws := x_ws i) (ws' := x_words) (rm := x_rmo i) h3.1 rfl hrt hcode (x_NW_mv hX) hD ht1 ht2 (fun s args hts hN => x_PO_of hi hg hts hN) ih hrm h
          rw [hb] at hm
          exact hm
        · cases h
end
section
-- DeskMachine.isByte(I)Z ()
set_option maxRecDepth 100000 in
set_option maxHeartbeats 4000000 in
theorem e0_0 (C : xC) (k : xK) (v0 : Int32) (σ : xS) : x_b x_i0 C k 0 [(0, .int v0)] [] σ = (if v0 < 0 then some ((0 : Int32), σ) else (if (255 : Int32) < v0 then some ((0 : Int32), σ) else some ((1 : Int32), σ))) := rfl
-- DeskMachine$KeyQueue.isFull()Z (8,)
set_option maxRecDepth 100000 in
set_option maxHeartbeats 4000000 in
theorem e1_0 (C : xC) (k : xK) (σ : xS) : x_b x_i1 C k 0 [(0, .ref 8)] [] σ = (if (σ 8 2) = (40 : Int32) then some ((1 : Int32), σ) else some ((0 : Int32), σ)) := rfl
-- DeskMachine$KeyQueue.add(I)V (8,)
set_option maxRecDepth 100000 in
set_option maxHeartbeats 4000000 in
theorem e2_0 (C : xC) (k : xK) (v1 : Int32) (σ : xS) : x_b x_i2 C k 0 [(0, .ref 8), (1, .int v1)] [] σ = (if (((σ 8 1) + (σ 8 2)) - ((σ 8 1) + (σ 8 2)) / (40 : Int32) * (40 : Int32)) < 0 ∨ 40 ≤ (((σ 8 1) + (σ 8 2)) - ((σ 8 1) + (σ 8 2)) / (40 : Int32) * (40 : Int32)).toNatClampNeg then none else some (0, (x_up (x_up σ 9 ((((σ 8 1) + (σ 8 2)) - ((σ 8 1) + (σ 8 2)) / (40 : Int32) * (40 : Int32)).toNatClampNeg) v1) 8 2 (((x_up σ 9 ((((σ 8 1) + (σ 8 2)) - ((σ 8 1) + (σ 8 2)) / (40 : Int32) * (40 : Int32)).toNatClampNeg) v1) 8 2) + (1 : Int32))))) := rfl
-- DeskMachine$KeyQueue.size()I (8,)
set_option maxRecDepth 100000 in
set_option maxHeartbeats 4000000 in
theorem e3_0 (C : xC) (k : xK) (σ : xS) : x_b x_i3 C k 0 [(0, .ref 8)] [] σ = some ((σ 8 2), σ) := rfl
-- DeskMachine.key(I)I (0,)
set_option maxRecDepth 100000 in
set_option maxHeartbeats 4000000 in
theorem e4_0 (C : xC) (k : xK) (v1 : Int32) (σ : xS) : x_b x_i4 C k 0 [(0, .ref 0), (1, .int v1)] [] σ = ((C 0 [.int v1] σ).bind fun r1 => (if r1.1 = 0 then none else ((C 1 [.ref 8] r1.2).bind fun r2 => (if r2.1 = 0 then ((C 2 [.ref 8, .int v1] r2.2).bind fun r3 => ((C 3 [.ref 8] r3.2).bind fun r4 => some (r4.1, r4.2))) else none)))) := rfl
-- DeskMachine$KeyQueue.isEmpty()Z (8,)
set_option maxRecDepth 100000 in
set_option maxHeartbeats 4000000 in
theorem e5_0 (C : xC) (k : xK) (σ : xS) : x_b x_i5 C k 0 [(0, .ref 8)] [] σ = (if (σ 8 2) = 0 then some ((1 : Int32), σ) else some ((0 : Int32), σ)) := rfl
-- DeskMachine$KeyQueue.take()I (8,)
set_option maxRecDepth 100000 in
set_option maxHeartbeats 4000000 in
theorem e6_0 (C : xC) (k : xK) (σ : xS) : x_b x_i6 C k 0 [(0, .ref 8)] [] σ = (if (σ 8 1) < 0 ∨ 40 ≤ (σ 8 1).toNatClampNeg then none else some ((σ 9 (σ 8 1).toNatClampNeg), (x_up (x_up σ 8 1 (((σ 8 1) + (1 : Int32)) - ((σ 8 1) + (1 : Int32)) / (40 : Int32) * (40 : Int32))) 8 2 (((x_up σ 8 1 (((σ 8 1) + (1 : Int32)) - ((σ 8 1) + (1 : Int32)) / (40 : Int32) * (40 : Int32))) 8 2) - (1 : Int32))))) := rfl
-- DeskMachine$Desk.add(I)V (14,)
set_option maxRecDepth 100000 in
set_option maxHeartbeats 4000000 in
theorem e7_0 (C : xC) (k : xK) (v1 : Int32) (σ : xS) : x_b x_i7 C k 0 [(0, .ref 14), (1, .int v1)] [] σ = (if v1 < (32 : Int32) then some (0, σ) else (if (126 : Int32) < v1 then some (0, σ) else (if (20 : Int32) ≤ (σ 14 7) then some (0, σ) else (if (σ 14 7) < 0 ∨ 20 ≤ (σ 14 7).toNatClampNeg then none else some (0, (x_up (x_up σ 15 ((σ 14 7).toNatClampNeg) v1) 14 7 (((x_up σ 15 ((σ 14 7).toNatClampNeg) v1) 14 7) + (1 : Int32)))))))) := rfl
-- DeskMachine$Desk.skip(IZ)I (14,)
set_option maxRecDepth 100000 in
set_option maxHeartbeats 4000000 in
theorem e8_0 (C : xC) (k : xK) (v1 v2 : Int32) (σ : xS) : x_b x_i8 C k 0 [(0, .ref 14), (1, .int v1), (2, .int v2)] [] σ = k 2 [(0, .ref 14), (2, .int v2), (3, .int v1)] [] σ := rfl
set_option maxRecDepth 100000 in
set_option maxHeartbeats 4000000 in
theorem e8_2 (C : xC) (k : xK) (v2 v3 : Int32) (σ : xS) : x_b x_i8 C k 2 [(0, .ref 14), (2, .int v2), (3, .int v3)] [] σ = (if (σ 14 7) ≤ v3 then some (v3, σ) else (if v3 < 0 ∨ 20 ≤ v3.toNatClampNeg then none else (if (σ 15 v3.toNatClampNeg) = (32 : Int32) then (if (1 : Int32) = v2 then k 2 [(0, .ref 14), (2, .int v2), (3, .int (v3 + (1 : Int32)))] [] σ else some (v3, σ)) else (if (0 : Int32) = v2 then k 2 [(0, .ref 14), (2, .int v2), (3, .int (v3 + (1 : Int32)))] [] σ else some (v3, σ))))) := rfl
-- DeskMachine$Desk.findWords()V (14,)
set_option maxRecDepth 100000 in
set_option maxHeartbeats 4000000 in
theorem e9_0 (C : xC) (k : xK) (σ : xS) : x_b x_i9 C k 0 [(0, .ref 14)] [] σ = k 9 [(0, .ref 14), (1, .int (0 : Int32)), (2, .int (0 : Int32))] [] (x_up σ 14 8 (0 : Int32)) := rfl
set_option maxRecDepth 100000 in
set_option maxHeartbeats 4000000 in
theorem e9_9 (C : xC) (k : xK) (v1 v2 : Int32) (σ : xS) : x_b x_i9 C k 9 [(0, .ref 14), (1, .int v1), (2, .int v2)] [] σ = (if (3 : Int32) ≤ v2 then some (0, σ) else ((C 8 [.ref 14, .int v1, .int (1 : Int32)] σ).bind fun r1 => ((C 8 [.ref 14, .int r1.1, .int (0 : Int32)] r1.2).bind fun r2 => (if r2.1 ≤ r1.1 then k 9 [(0, .ref 14), (1, .int r2.1), (2, .int (v2 + (1 : Int32)))] [] r2.2 else (if v2 < 0 ∨ 3 ≤ v2.toNatClampNeg then none else (if v2 < 0 ∨ 3 ≤ v2.toNatClampNeg then none else k 9 [(0, .ref 14), (1, .int r2.1), (2, .int (v2 + (1 : Int32)))] [] (x_up (x_up (x_up r2.2 16 (v2.toNatClampNeg) r1.1) 17 (v2.toNatClampNeg) r2.1) 14 8 (((x_up (x_up r2.2 16 (v2.toNatClampNeg) r1.1) 17 (v2.toNatClampNeg) r2.1) 14 8) + (1 : Int32))))))))) := rfl
-- DeskMachine$Desk.commandOfLine()I (14,)
set_option maxRecDepth 100000 in
set_option maxHeartbeats 4000000 in
theorem e11_0 (C : xC) (k : xK) (σ : xS) : x_b x_i11 C k 0 [(0, .ref 14)] [] σ = (if (σ 14 8) = 0 then some ((6 : Int32), σ) else ((C 10 [.ref 14, .ref 1000] σ).bind fun r1 => (if r1.1 = 0 then ((C 10 [.ref 14, .ref 1001] r1.2).bind fun r2 => (if r2.1 = 0 then ((C 10 [.ref 14, .ref 1002] r2.2).bind fun r3 => (if r3.1 = 0 then ((C 10 [.ref 14, .ref 1003] r3.2).bind fun r4 => (if r4.1 = 0 then ((C 10 [.ref 14, .ref 1004] r4.2).bind fun r5 => (if r5.1 = 0 then some ((5 : Int32), r5.2) else some ((4 : Int32), r5.2))) else some ((3 : Int32), r4.2))) else some ((2 : Int32), r3.2))) else some ((1 : Int32), r2.2))) else some ((0 : Int32), r1.2)))) := rfl
-- DeskMachine$Disk.isFree(I)Z (5,)
set_option maxRecDepth 100000 in
set_option maxHeartbeats 4000000 in
theorem e12_0 (C : xC) (k : xK) (v1 : Int32) (σ : xS) : x_b x_i12 C k 0 [(0, .ref 5), (1, .int v1)] [] σ = (if ((v1 &&& (7 : Int32)) * (16 : Int32)) < 0 ∨ 512 ≤ ((v1 &&& (7 : Int32)) * (16 : Int32)).toNatClampNeg then none else (if (σ 6 ((v1 &&& (7 : Int32)) * (16 : Int32)).toNatClampNeg) = (229 : Int32) then some ((1 : Int32), σ) else some ((0 : Int32), σ))) := rfl
-- DeskMachine$Disk.get(II)I (5,)
set_option maxRecDepth 100000 in
set_option maxHeartbeats 4000000 in
theorem e13_0 (C : xC) (k : xK) (v1 v2 : Int32) (σ : xS) : x_b x_i13 C k 0 [(0, .ref 5), (1, .int v1), (2, .int v2)] [] σ = (if (((v1 &&& (31 : Int32)) * (16 : Int32)) + (v2 &&& (15 : Int32))) < 0 ∨ 512 ≤ (((v1 &&& (31 : Int32)) * (16 : Int32)) + (v2 &&& (15 : Int32))).toNatClampNeg then none else some ((σ 6 (((v1 &&& (31 : Int32)) * (16 : Int32)) + (v2 &&& (15 : Int32))).toNatClampNeg), σ)) := rfl
-- DeskMachine$Screen.show(I)V (10,)
set_option maxRecDepth 100000 in
set_option maxHeartbeats 4000000 in
theorem e14_0 (C : xC) (k : xK) (v1 : Int32) (σ : xS) : x_b x_i14 C k 0 [(0, .ref 10), (1, .int v1)] [] σ = (if ((σ 10 1) &&& (63 : Int32)) < 0 ∨ 64 ≤ ((σ 10 1) &&& (63 : Int32)).toNatClampNeg then none else some (0, (x_up (x_up σ 11 (((σ 10 1) &&& (63 : Int32)).toNatClampNeg) v1) 10 1 (((x_up σ 11 (((σ 10 1) &&& (63 : Int32)).toNatClampNeg) v1) 10 1) + (1 : Int32))))) := rfl
-- DeskMachine$Desk.listFiles()V (14,)
set_option maxRecDepth 100000 in
set_option maxHeartbeats 4000000 in
theorem e15_0 (C : xC) (k : xK) (σ : xS) : x_b x_i15 C k 0 [(0, .ref 14)] [] σ = k 2 [(0, .ref 14), (1, .int (0 : Int32))] [] σ := rfl
set_option maxRecDepth 100000 in
set_option maxHeartbeats 4000000 in
theorem e15_2 (C : xC) (k : xK) (v1 : Int32) (σ : xS) : x_b x_i15 C k 2 [(0, .ref 14), (1, .int v1)] [] σ = (if (8 : Int32) ≤ v1 then some (0, σ) else ((C 12 [.ref 5, .int v1] σ).bind fun r1 => (if r1.1 = 0 then k 21 [(0, .ref 14), (1, .int v1), (2, .int (0 : Int32))] [] r1.2 else k 2 [(0, .ref 14), (1, .int (v1 + (1 : Int32)))] [] r1.2))) := rfl
set_option maxRecDepth 100000 in
set_option maxHeartbeats 4000000 in
theorem e15_21 (C : xC) (k : xK) (v1 v2 : Int32) (σ : xS) : x_b x_i15 C k 21 [(0, .ref 14), (1, .int v1), (2, .int v2)] [] σ = (if (4 : Int32) ≤ v2 then ((C 14 [.ref 10, .int (32 : Int32)] σ).bind fun r1 => k 2 [(0, .ref 14), (1, .int (v1 + (1 : Int32)))] [] r1.2) else ((C 13 [.ref 5, .int v1, .int ((1 : Int32) + v2)] σ).bind fun r2 => ((C 14 [.ref 10, .int r2.1] r2.2).bind fun r3 => k 21 [(0, .ref 14), (1, .int v1), (2, .int (v2 + (1 : Int32)))] [] r3.2))) := rfl
-- DeskMachine$Desk.takeName(I)V (14,)
set_option maxRecDepth 100000 in
set_option maxHeartbeats 4000000 in
theorem e16_0 (C : xC) (k : xK) (v1 : Int32) (σ : xS) : x_b x_i16 C k 0 [(0, .ref 14), (1, .int v1)] [] σ = k 2 [(0, .ref 14), (1, .int v1), (2, .int (0 : Int32))] [] σ := rfl
set_option maxRecDepth 100000 in
set_option maxHeartbeats 4000000 in
theorem e16_2 (C : xC) (k : xK) (v1 v2 : Int32) (σ : xS) : x_b x_i16 C k 2 [(0, .ref 14), (1, .int v1), (2, .int v2)] [] σ = (if (4 : Int32) ≤ v2 then some (0, σ) else (if v1 < 0 ∨ 3 ≤ v1.toNatClampNeg then none else (if v1 < 0 ∨ 3 ≤ v1.toNatClampNeg then none else (if (σ 17 v1.toNatClampNeg) ≤ ((σ 16 v1.toNatClampNeg) + v2) then (if v2 < 0 ∨ 4 ≤ v2.toNatClampNeg then none else k 2 [(0, .ref 14), (1, .int v1), (2, .int (v2 + (1 : Int32)))] [] (x_up σ 18 (v2.toNatClampNeg) (32 : Int32))) else (if ((σ 16 v1.toNatClampNeg) + v2) < 0 ∨ 20 ≤ ((σ 16 v1.toNatClampNeg) + v2).toNatClampNeg then none else (if v2 < 0 ∨ 4 ≤ v2.toNatClampNeg then none else k 2 [(0, .ref 14), (1, .int v1), (2, .int (v2 + (1 : Int32)))] [] (x_up σ 18 (v2.toNatClampNeg) (σ 15 ((σ 16 v1.toNatClampNeg) + v2).toNatClampNeg)))))))) := rfl
-- DeskMachine$Disk.matches(I[IZ)Z (5, 13)
set_option maxRecDepth 100000 in
set_option maxHeartbeats 4000000 in
theorem e17_13_0 (C : xC) (k : xK) (v1 v3 : Int32) (σ : xS) : x_b x_i17 C k 0 [(0, .ref 5), (1, .int v1), (2, .ref 13), (3, .int v3)] [] σ = (if ((v1 &&& (7 : Int32)) * (16 : Int32)) < 0 ∨ 512 ≤ ((v1 &&& (7 : Int32)) * (16 : Int32)).toNatClampNeg then none else (if (σ 6 ((v1 &&& (7 : Int32)) * (16 : Int32)).toNatClampNeg) = (229 : Int32) then some ((0 : Int32), σ) else k 27 [(0, .ref 5), (2, .ref 13), (3, .int v3), (4, .int ((v1 &&& (7 : Int32)) * (16 : Int32))), (5, .int (0 : Int32))] [] σ)) := rfl
set_option maxRecDepth 100000 in
set_option maxHeartbeats 4000000 in
theorem e17_13_27 (C : xC) (k : xK) (v3 v4 v5 : Int32) (σ : xS) : x_b x_i17 C k 27 [(0, .ref 5), (2, .ref 13), (3, .int v3), (4, .int v4), (5, .int v5)] [] σ = (if (4 : Int32) ≤ v5 then some ((1 : Int32), σ) else (if v5 < 0 ∨ 4 ≤ v5.toNatClampNeg then none else (if ((v4 + (1 : Int32)) + v5) < 0 ∨ 512 ≤ ((v4 + (1 : Int32)) + v5).toNatClampNeg then none else (if (σ 13 v5.toNatClampNeg) = (σ 6 ((v4 + (1 : Int32)) + v5).toNatClampNeg) then k 27 [(0, .ref 5), (2, .ref 13), (3, .int v3), (4, .int v4), (5, .int (v5 + (1 : Int32)))] [] σ else (if v3 = 0 then some ((0 : Int32), σ) else (if v5 < 0 ∨ 4 ≤ v5.toNatClampNeg then none else (if (σ 13 v5.toNatClampNeg) = (63 : Int32) then k 27 [(0, .ref 5), (2, .ref 13), (3, .int v3), (4, .int v4), (5, .int (v5 + (1 : Int32)))] [] σ else some ((0 : Int32), σ)))))))) := rfl
-- DeskMachine$Disk.matches(I[IZ)Z (5, 18)
set_option maxRecDepth 100000 in
set_option maxHeartbeats 4000000 in
theorem e17_18_0 (C : xC) (k : xK) (v1 v3 : Int32) (σ : xS) : x_b x_i17 C k 0 [(0, .ref 5), (1, .int v1), (2, .ref 18), (3, .int v3)] [] σ = (if ((v1 &&& (7 : Int32)) * (16 : Int32)) < 0 ∨ 512 ≤ ((v1 &&& (7 : Int32)) * (16 : Int32)).toNatClampNeg then none else (if (σ 6 ((v1 &&& (7 : Int32)) * (16 : Int32)).toNatClampNeg) = (229 : Int32) then some ((0 : Int32), σ) else k 27 [(0, .ref 5), (2, .ref 18), (3, .int v3), (4, .int ((v1 &&& (7 : Int32)) * (16 : Int32))), (5, .int (0 : Int32))] [] σ)) := rfl
set_option maxRecDepth 100000 in
set_option maxHeartbeats 4000000 in
theorem e17_18_27 (C : xC) (k : xK) (v3 v4 v5 : Int32) (σ : xS) : x_b x_i17 C k 27 [(0, .ref 5), (2, .ref 18), (3, .int v3), (4, .int v4), (5, .int v5)] [] σ = (if (4 : Int32) ≤ v5 then some ((1 : Int32), σ) else (if v5 < 0 ∨ 4 ≤ v5.toNatClampNeg then none else (if ((v4 + (1 : Int32)) + v5) < 0 ∨ 512 ≤ ((v4 + (1 : Int32)) + v5).toNatClampNeg then none else (if (σ 18 v5.toNatClampNeg) = (σ 6 ((v4 + (1 : Int32)) + v5).toNatClampNeg) then k 27 [(0, .ref 5), (2, .ref 18), (3, .int v3), (4, .int v4), (5, .int (v5 + (1 : Int32)))] [] σ else (if v3 = 0 then some ((0 : Int32), σ) else (if v5 < 0 ∨ 4 ≤ v5.toNatClampNeg then none else (if (σ 18 v5.toNatClampNeg) = (63 : Int32) then k 27 [(0, .ref 5), (2, .ref 18), (3, .int v3), (4, .int v4), (5, .int (v5 + (1 : Int32)))] [] σ else some ((0 : Int32), σ)))))))) := rfl
-- DeskMachine$Disk.findExact([I)I (5, 13)
set_option maxRecDepth 100000 in
set_option maxHeartbeats 4000000 in
theorem e18_13_0 (C : xC) (k : xK) (σ : xS) : x_b x_i18 C k 0 [(0, .ref 5), (1, .ref 13)] [] σ = k 2 [(0, .ref 5), (1, .ref 13), (2, .int (0 : Int32))] [] σ := rfl
set_option maxRecDepth 100000 in
set_option maxHeartbeats 4000000 in
theorem e18_13_2 (C : xC) (k : xK) (v2 : Int32) (σ : xS) : x_b x_i18 C k 2 [(0, .ref 5), (1, .ref 13), (2, .int v2)] [] σ = (if (8 : Int32) ≤ v2 then some ((-1 : Int32), σ) else ((C 17 [.ref 5, .int v2, .ref 13, .int (0 : Int32)] σ).bind fun r1 => (if r1.1 = 0 then k 2 [(0, .ref 5), (1, .ref 13), (2, .int (v2 + (1 : Int32)))] [] r1.2 else some (v2, r1.2)))) := rfl
-- DeskMachine$Disk.findExact([I)I (5, 18)
set_option maxRecDepth 100000 in
set_option maxHeartbeats 4000000 in
theorem e18_18_0 (C : xC) (k : xK) (σ : xS) : x_b x_i18 C k 0 [(0, .ref 5), (1, .ref 18)] [] σ = k 2 [(0, .ref 5), (1, .ref 18), (2, .int (0 : Int32))] [] σ := rfl
set_option maxRecDepth 100000 in
set_option maxHeartbeats 4000000 in
theorem e18_18_2 (C : xC) (k : xK) (v2 : Int32) (σ : xS) : x_b x_i18 C k 2 [(0, .ref 5), (1, .ref 18), (2, .int v2)] [] σ = (if (8 : Int32) ≤ v2 then some ((-1 : Int32), σ) else ((C 17 [.ref 5, .int v2, .ref 18, .int (0 : Int32)] σ).bind fun r1 => (if r1.1 = 0 then k 2 [(0, .ref 5), (1, .ref 18), (2, .int (v2 + (1 : Int32)))] [] r1.2 else some (v2, r1.2)))) := rfl
-- DeskMachine$Desk.findFile(I)I (14,)
set_option maxRecDepth 100000 in
set_option maxHeartbeats 4000000 in
theorem e19_0 (C : xC) (k : xK) (v1 : Int32) (σ : xS) : x_b x_i19 C k 0 [(0, .ref 14), (1, .int v1)] [] σ = ((C 16 [.ref 14, .int v1] σ).bind fun r1 => ((C 18 [.ref 5, .ref 18] r1.2).bind fun r2 => some (r2.1, r2.2))) := rfl
-- DeskMachine$Disk.recordsOf(I)I (5,)
set_option maxRecDepth 100000 in
set_option maxHeartbeats 4000000 in
theorem e20_0 (C : xC) (k : xK) (v1 : Int32) (σ : xS) : x_b x_i20 C k 0 [(0, .ref 5), (1, .int v1)] [] σ = (if (((v1 &&& (7 : Int32)) * (16 : Int32)) + (5 : Int32)) < 0 ∨ 512 ≤ (((v1 &&& (7 : Int32)) * (16 : Int32)) + (5 : Int32)).toNatClampNeg then none else (if (10 : Int32) ≤ (σ 6 (((v1 &&& (7 : Int32)) * (16 : Int32)) + (5 : Int32)).toNatClampNeg) then some ((10 : Int32), σ) else some ((σ 6 (((v1 &&& (7 : Int32)) * (16 : Int32)) + (5 : Int32)).toNatClampNeg), σ))) := rfl
-- DeskMachine$Disk.isForRecords(I)Z ()
set_option maxRecDepth 100000 in
set_option maxHeartbeats 4000000 in
theorem e21_0 (C : xC) (k : xK) (v0 : Int32) (σ : xS) : x_b x_i21 C k 0 [(0, .int v0)] [] σ = (if v0 < (8 : Int32) then some ((0 : Int32), σ) else (if (32 : Int32) ≤ v0 then some ((0 : Int32), σ) else some ((1 : Int32), σ))) := rfl
-- DeskMachine$Desk.showBlock(I)Z (14,)
set_option maxRecDepth 100000 in
set_option maxHeartbeats 4000000 in
theorem e22_0 (C : xC) (k : xK) (v1 : Int32) (σ : xS) : x_b x_i22 C k 0 [(0, .ref 14), (1, .int v1)] [] σ = k 2 [(0, .ref 14), (1, .int v1), (2, .int (0 : Int32))] [] σ := rfl
set_option maxRecDepth 100000 in
set_option maxHeartbeats 4000000 in
theorem e22_2 (C : xC) (k : xK) (v1 v2 : Int32) (σ : xS) : x_b x_i22 C k 2 [(0, .ref 14), (1, .int v1), (2, .int v2)] [] σ = (if (16 : Int32) ≤ v2 then some ((1 : Int32), σ) else ((C 13 [.ref 5, .int v1, .int v2] σ).bind fun r1 => (if r1.1 = (26 : Int32) then some ((0 : Int32), r1.2) else ((C 14 [.ref 10, .int r1.1] r1.2).bind fun r2 => k 2 [(0, .ref 14), (1, .int v1), (2, .int (v2 + (1 : Int32)))] [] r2.2)))) := rfl
-- DeskMachine$Desk.showFile()Z (14,)
set_option maxRecDepth 100000 in
set_option maxHeartbeats 4000000 in
theorem e23_0 (C : xC) (k : xK) (σ : xS) : x_b x_i23 C k 0 [(0, .ref 14)] [] σ = ((C 19 [.ref 14, .int (1 : Int32)] σ).bind fun r1 => (if r1.1 = (-1 : Int32) then some ((0 : Int32), r1.2) else ((C 20 [.ref 5, .int r1.1] r1.2).bind fun r2 => k 24 [(0, .ref 14), (1, .int r1.1), (2, .int r2.1), (3, .int (0 : Int32))] [] r2.2))) := rfl
set_option maxRecDepth 100000 in
set_option maxHeartbeats 4000000 in
theorem e23_24 (C : xC) (k : xK) (v1 v2 v3 : Int32) (σ : xS) : x_b x_i23 C k 24 [(0, .ref 14), (1, .int v1), (2, .int v2), (3, .int v3)] [] σ = (if v2 ≤ v3 then some ((1 : Int32), σ) else ((C 13 [.ref 5, .int v1, .int ((6 : Int32) + v3)] σ).bind fun r1 => ((C 21 [.int r1.1] r1.2).bind fun r2 => (if r2.1 = 0 then k 24 [(0, .ref 14), (1, .int v1), (2, .int v2), (3, .int (v3 + (1 : Int32)))] [] r2.2 else ((C 22 [.ref 14, .int r1.1] r2.2).bind fun r3 => (if r3.1 = 0 then some ((1 : Int32), r3.2) else k 24 [(0, .ref 14), (1, .int v1), (2, .int v2), (3, .int (v3 + (1 : Int32)))] [] r3.2)))))) := rfl
-- DeskMachine$Disk.put(III)V (5,)
set_option maxRecDepth 100000 in
set_option maxHeartbeats 4000000 in
theorem e24_0 (C : xC) (k : xK) (v1 v2 v3 : Int32) (σ : xS) : x_b x_i24 C k 0 [(0, .ref 5), (1, .int v1), (2, .int v2), (3, .int v3)] [] σ = (if (((v1 &&& (31 : Int32)) * (16 : Int32)) + (v2 &&& (15 : Int32))) < 0 ∨ 512 ≤ (((v1 &&& (31 : Int32)) * (16 : Int32)) + (v2 &&& (15 : Int32))).toNatClampNeg then none else some (0, (x_up σ 6 ((((v1 &&& (31 : Int32)) * (16 : Int32)) + (v2 &&& (15 : Int32))).toNatClampNeg) v3))) := rfl
-- DeskMachine$Disk.free(I)V (5,)
set_option maxRecDepth 100000 in
set_option maxHeartbeats 4000000 in
theorem e25_0 (C : xC) (k : xK) (v1 : Int32) (σ : xS) : x_b x_i25 C k 0 [(0, .ref 5), (1, .int v1)] [] σ = ((C 24 [.ref 5, .int v1, .int (0 : Int32), .int (229 : Int32)] σ).bind fun r1 => some (0, r1.2)) := rfl
-- DeskMachine$Disk.eraseAny([I)Z (5, 13)
set_option maxRecDepth 100000 in
set_option maxHeartbeats 4000000 in
theorem e26_13_0 (C : xC) (k : xK) (σ : xS) : x_b x_i26 C k 0 [(0, .ref 5), (1, .ref 13)] [] σ = k 4 [(0, .ref 5), (1, .ref 13), (2, .int (0 : Int32)), (3, .int (0 : Int32))] [] σ := rfl
set_option maxRecDepth 100000 in
set_option maxHeartbeats 4000000 in
theorem e26_13_4 (C : xC) (k : xK) (v2 v3 : Int32) (σ : xS) : x_b x_i26 C k 4 [(0, .ref 5), (1, .ref 13), (2, .int v2), (3, .int v3)] [] σ = (if (8 : Int32) ≤ v3 then (if v2 = 0 ∨ v2 = 1 then some (v2, σ) else none) else ((C 17 [.ref 5, .int v3, .ref 13, .int (1 : Int32)] σ).bind fun r1 => (if r1.1 = 0 then k 4 [(0, .ref 5), (1, .ref 13), (2, .int v2), (3, .int (v3 + (1 : Int32)))] [] r1.2 else ((C 25 [.ref 5, .int v3] r1.2).bind fun r2 => k 4 [(0, .ref 5), (1, .ref 13), (2, .int (1 : Int32)), (3, .int (v3 + (1 : Int32)))] [] r2.2)))) := rfl
-- DeskMachine$Disk.eraseAny([I)Z (5, 18)
set_option maxRecDepth 100000 in
set_option maxHeartbeats 4000000 in
theorem e26_18_0 (C : xC) (k : xK) (σ : xS) : x_b x_i26 C k 0 [(0, .ref 5), (1, .ref 18)] [] σ = k 4 [(0, .ref 5), (1, .ref 18), (2, .int (0 : Int32)), (3, .int (0 : Int32))] [] σ := rfl
set_option maxRecDepth 100000 in
set_option maxHeartbeats 4000000 in
theorem e26_18_4 (C : xC) (k : xK) (v2 v3 : Int32) (σ : xS) : x_b x_i26 C k 4 [(0, .ref 5), (1, .ref 18), (2, .int v2), (3, .int v3)] [] σ = (if (8 : Int32) ≤ v3 then (if v2 = 0 ∨ v2 = 1 then some (v2, σ) else none) else ((C 17 [.ref 5, .int v3, .ref 18, .int (1 : Int32)] σ).bind fun r1 => (if r1.1 = 0 then k 4 [(0, .ref 5), (1, .ref 18), (2, .int v2), (3, .int (v3 + (1 : Int32)))] [] r1.2 else ((C 25 [.ref 5, .int v3] r1.2).bind fun r2 => k 4 [(0, .ref 5), (1, .ref 18), (2, .int (1 : Int32)), (3, .int (v3 + (1 : Int32)))] [] r2.2)))) := rfl
-- DeskMachine$Disk.rename(I[I)V (5, 13)
set_option maxRecDepth 100000 in
set_option maxHeartbeats 4000000 in
theorem e27_13_0 (C : xC) (k : xK) (v1 : Int32) (σ : xS) : x_b x_i27 C k 0 [(0, .ref 5), (1, .int v1), (2, .ref 13)] [] σ = k 2 [(0, .ref 5), (1, .int v1), (2, .ref 13), (3, .int (0 : Int32))] [] σ := rfl
set_option maxRecDepth 100000 in
set_option maxHeartbeats 4000000 in
theorem e27_13_2 (C : xC) (k : xK) (v1 v3 : Int32) (σ : xS) : x_b x_i27 C k 2 [(0, .ref 5), (1, .int v1), (2, .ref 13), (3, .int v3)] [] σ = (if (4 : Int32) ≤ v3 then some (0, σ) else (if v3 < 0 ∨ 4 ≤ v3.toNatClampNeg then none else ((C 24 [.ref 5, .int v1, .int ((1 : Int32) + v3), .int (σ 13 v3.toNatClampNeg)] σ).bind fun r1 => k 2 [(0, .ref 5), (1, .int v1), (2, .ref 13), (3, .int (v3 + (1 : Int32)))] [] r1.2))) := rfl
-- DeskMachine$Disk.rename(I[I)V (5, 18)
set_option maxRecDepth 100000 in
set_option maxHeartbeats 4000000 in
theorem e27_18_0 (C : xC) (k : xK) (v1 : Int32) (σ : xS) : x_b x_i27 C k 0 [(0, .ref 5), (1, .int v1), (2, .ref 18)] [] σ = k 2 [(0, .ref 5), (1, .int v1), (2, .ref 18), (3, .int (0 : Int32))] [] σ := rfl
set_option maxRecDepth 100000 in
set_option maxHeartbeats 4000000 in
theorem e27_18_2 (C : xC) (k : xK) (v1 v3 : Int32) (σ : xS) : x_b x_i27 C k 2 [(0, .ref 5), (1, .int v1), (2, .ref 18), (3, .int v3)] [] σ = (if (4 : Int32) ≤ v3 then some (0, σ) else (if v3 < 0 ∨ 4 ≤ v3.toNatClampNeg then none else ((C 24 [.ref 5, .int v1, .int ((1 : Int32) + v3), .int (σ 18 v3.toNatClampNeg)] σ).bind fun r1 => k 2 [(0, .ref 5), (1, .int v1), (2, .ref 18), (3, .int (v3 + (1 : Int32)))] [] r1.2))) := rfl
-- DeskMachine$Desk.renameFile()Z (14,)
set_option maxRecDepth 100000 in
set_option maxHeartbeats 4000000 in
theorem e28_0 (C : xC) (k : xK) (σ : xS) : x_b x_i28 C k 0 [(0, .ref 14)] [] σ = ((C 19 [.ref 14, .int (1 : Int32)] σ).bind fun r1 => (if r1.1 = (-1 : Int32) then some ((0 : Int32), r1.2) else ((C 16 [.ref 14, .int (2 : Int32)] r1.2).bind fun r2 => ((C 27 [.ref 5, .int r1.1, .ref 18] r2.2).bind fun r3 => some ((1 : Int32), r3.2))))) := rfl
-- DeskMachine$Disk.make([I)I (5, 13)
set_option maxRecDepth 100000 in
set_option maxHeartbeats 4000000 in
theorem e29_13_0 (C : xC) (k : xK) (σ : xS) : x_b x_i29 C k 0 [(0, .ref 5), (1, .ref 13)] [] σ = k 2 [(0, .ref 5), (1, .ref 13), (2, .int (0 : Int32))] [] σ := rfl
set_option maxRecDepth 100000 in
set_option maxHeartbeats 4000000 in
theorem e29_13_2 (C : xC) (k : xK) (v2 : Int32) (σ : xS) : x_b x_i29 C k 2 [(0, .ref 5), (1, .ref 13), (2, .int v2)] [] σ = (if (8 : Int32) ≤ v2 then some ((-1 : Int32), σ) else ((C 12 [.ref 5, .int v2] σ).bind fun r1 => (if r1.1 = 0 then k 2 [(0, .ref 5), (1, .ref 13), (2, .int (v2 + (1 : Int32)))] [] r1.2 else k 18 [(0, .ref 5), (1, .ref 13), (2, .int v2), (3, .int (0 : Int32))] [] r1.2))) := rfl
set_option maxRecDepth 100000 in
set_option maxHeartbeats 4000000 in
theorem e29_13_18 (C : xC) (k : xK) (v2 v3 : Int32) (σ : xS) : x_b x_i29 C k 18 [(0, .ref 5), (1, .ref 13), (2, .int v2), (3, .int v3)] [] σ = (if (16 : Int32) ≤ v3 then ((C 27 [.ref 5, .int v2, .ref 13] σ).bind fun r1 => some (v2, r1.2)) else ((C 24 [.ref 5, .int v2, .int v3, .int (0 : Int32)] σ).bind fun r2 => k 18 [(0, .ref 5), (1, .ref 13), (2, .int v2), (3, .int (v3 + (1 : Int32)))] [] r2.2)) := rfl
-- DeskMachine$Disk.make([I)I (5, 18)
set_option maxRecDepth 100000 in
set_option maxHeartbeats 4000000 in
theorem e29_18_0 (C : xC) (k : xK) (σ : xS) : x_b x_i29 C k 0 [(0, .ref 5), (1, .ref 18)] [] σ = k 2 [(0, .ref 5), (1, .ref 18), (2, .int (0 : Int32))] [] σ := rfl
set_option maxRecDepth 100000 in
set_option maxHeartbeats 4000000 in
theorem e29_18_2 (C : xC) (k : xK) (v2 : Int32) (σ : xS) : x_b x_i29 C k 2 [(0, .ref 5), (1, .ref 18), (2, .int v2)] [] σ = (if (8 : Int32) ≤ v2 then some ((-1 : Int32), σ) else ((C 12 [.ref 5, .int v2] σ).bind fun r1 => (if r1.1 = 0 then k 2 [(0, .ref 5), (1, .ref 18), (2, .int (v2 + (1 : Int32)))] [] r1.2 else k 18 [(0, .ref 5), (1, .ref 18), (2, .int v2), (3, .int (0 : Int32))] [] r1.2))) := rfl
set_option maxRecDepth 100000 in
set_option maxHeartbeats 4000000 in
theorem e29_18_18 (C : xC) (k : xK) (v2 v3 : Int32) (σ : xS) : x_b x_i29 C k 18 [(0, .ref 5), (1, .ref 18), (2, .int v2), (3, .int v3)] [] σ = (if (16 : Int32) ≤ v3 then ((C 27 [.ref 5, .int v2, .ref 18] σ).bind fun r1 => some (v2, r1.2)) else ((C 24 [.ref 5, .int v2, .int v3, .int (0 : Int32)] σ).bind fun r2 => k 18 [(0, .ref 5), (1, .ref 18), (2, .int v2), (3, .int (v3 + (1 : Int32)))] [] r2.2)) := rfl
-- DeskMachine$Disk.mark(I)V (5,)
set_option maxRecDepth 100000 in
set_option maxHeartbeats 4000000 in
theorem e30_0 (C : xC) (k : xK) (v1 : Int32) (σ : xS) : x_b x_i30 C k 0 [(0, .ref 5), (1, .int v1)] [] σ = (if (v1 &&& (255 : Int32)) < 0 ∨ 256 ≤ (v1 &&& (255 : Int32)).toNatClampNeg then none else some (0, (x_up σ 7 ((v1 &&& (255 : Int32)).toNatClampNeg) (vp_nar .boolean (1 : Int32))))) := rfl
-- DeskMachine$Disk.markUsed()V (5,)
set_option maxRecDepth 100000 in
set_option maxHeartbeats 4000000 in
theorem e31_0 (C : xC) (k : xK) (σ : xS) : x_b x_i31 C k 0 [(0, .ref 5)] [] σ = k 3 [(0, .ref 5), (1, .int (8 : Int32))] [] σ := rfl
set_option maxRecDepth 100000 in
set_option maxHeartbeats 4000000 in
theorem e31_3 (C : xC) (k : xK) (v1 : Int32) (σ : xS) : x_b x_i31 C k 3 [(0, .ref 5), (1, .int v1)] [] σ = (if (32 : Int32) ≤ v1 then k 24 [(0, .ref 5), (1, .int (0 : Int32))] [] σ else (if v1 < 0 ∨ 256 ≤ v1.toNatClampNeg then none else k 3 [(0, .ref 5), (1, .int (v1 + (1 : Int32)))] [] (x_up σ 7 (v1.toNatClampNeg) (vp_nar .boolean (0 : Int32))))) := rfl
set_option maxRecDepth 100000 in
set_option maxHeartbeats 4000000 in
theorem e31_24 (C : xC) (k : xK) (v1 : Int32) (σ : xS) : x_b x_i31 C k 24 [(0, .ref 5), (1, .int v1)] [] σ = (if (8 : Int32) ≤ v1 then some (0, σ) else ((C 12 [.ref 5, .int v1] σ).bind fun r1 => (if r1.1 = 0 then ((C 20 [.ref 5, .int v1] r1.2).bind fun r2 => k 50 [(0, .ref 5), (1, .int v1), (2, .int r2.1), (3, .int (0 : Int32))] [] r2.2) else k 50 [(0, .ref 5), (1, .int v1), (2, .int (0 : Int32)), (3, .int (0 : Int32))] [] r1.2))) := rfl
set_option maxRecDepth 100000 in
set_option maxHeartbeats 4000000 in
theorem e31_50 (C : xC) (k : xK) (v1 v2 v3 : Int32) (σ : xS) : x_b x_i31 C k 50 [(0, .ref 5), (1, .int v1), (2, .int v2), (3, .int v3)] [] σ = (if v2 ≤ v3 then k 24 [(0, .ref 5), (1, .int (v1 + (1 : Int32)))] [] σ else ((C 13 [.ref 5, .int v1, .int ((6 : Int32) + v3)] σ).bind fun r1 => ((C 30 [.ref 5, .int r1.1] r1.2).bind fun r2 => k 50 [(0, .ref 5), (1, .int v1), (2, .int v2), (3, .int (v3 + (1 : Int32)))] [] r2.2))) := rfl
-- DeskMachine$Disk.leastUnmarked()I (5,)
set_option maxRecDepth 100000 in
set_option maxHeartbeats 4000000 in
theorem e32_0 (C : xC) (k : xK) (σ : xS) : x_b x_i32 C k 0 [(0, .ref 5)] [] σ = k 3 [(0, .ref 5), (1, .int (8 : Int32))] [] σ := rfl
set_option maxRecDepth 100000 in
set_option maxHeartbeats 4000000 in
theorem e32_3 (C : xC) (k : xK) (v1 : Int32) (σ : xS) : x_b x_i32 C k 3 [(0, .ref 5), (1, .int v1)] [] σ = (if (32 : Int32) ≤ v1 then some ((-1 : Int32), σ) else (if v1 < 0 ∨ 256 ≤ v1.toNatClampNeg then none else (if (σ 7 v1.toNatClampNeg) = 0 then some (v1, σ) else k 3 [(0, .ref 5), (1, .int (v1 + (1 : Int32)))] [] σ))) := rfl
-- DeskMachine$Memory.get(I)I (1,)
set_option maxRecDepth 100000 in
set_option maxHeartbeats 4000000 in
theorem e33_0 (C : xC) (k : xK) (v1 : Int32) (σ : xS) : x_b x_i33 C k 0 [(0, .ref 1), (1, .int v1)] [] σ = (if (v1 &&& (511 : Int32)) < 0 ∨ 512 ≤ (v1 &&& (511 : Int32)).toNatClampNeg then none else some ((σ 2 (v1 &&& (511 : Int32)).toNatClampNeg), σ)) := rfl
-- DeskMachine$Disk.write(ILDeskMachine$Memory;I)V (5, 1)
set_option maxRecDepth 100000 in
set_option maxHeartbeats 4000000 in
theorem e34_0 (C : xC) (k : xK) (v1 v3 : Int32) (σ : xS) : x_b x_i34 C k 0 [(0, .ref 5), (1, .int v1), (2, .ref 1), (3, .int v3)] [] σ = k 3 [(0, .ref 5), (1, .int v1), (2, .ref 1), (3, .int v3), (4, .int (0 : Int32))] [] σ := rfl
set_option maxRecDepth 100000 in
set_option maxHeartbeats 4000000 in
theorem e34_3 (C : xC) (k : xK) (v1 v3 v4 : Int32) (σ : xS) : x_b x_i34 C k 3 [(0, .ref 5), (1, .int v1), (2, .ref 1), (3, .int v3), (4, .int v4)] [] σ = (if (16 : Int32) ≤ v4 then some (0, σ) else ((C 33 [.ref 1, .int (v3 + v4)] σ).bind fun r1 => ((C 24 [.ref 5, .int v1, .int v4, .int r1.1] r1.2).bind fun r2 => k 3 [(0, .ref 5), (1, .int v1), (2, .ref 1), (3, .int v3), (4, .int (v4 + (1 : Int32)))] [] r2.2))) := rfl
-- DeskMachine$Desk.saveRecords(II)Z (14,)
set_option maxRecDepth 100000 in
set_option maxHeartbeats 4000000 in
theorem e35_0 (C : xC) (k : xK) (v1 v2 : Int32) (σ : xS) : x_b x_i35 C k 0 [(0, .ref 14), (1, .int v1), (2, .int v2)] [] σ = k 2 [(0, .ref 14), (1, .int v1), (2, .int v2), (3, .int (0 : Int32))] [] σ := rfl
set_option maxRecDepth 100000 in
set_option maxHeartbeats 4000000 in
theorem e35_2 (C : xC) (k : xK) (v1 v2 v3 : Int32) (σ : xS) : x_b x_i35 C k 2 [(0, .ref 14), (1, .int v1), (2, .int v2), (3, .int v3)] [] σ = (if v2 ≤ v3 then some ((1 : Int32), σ) else ((C 31 [.ref 5] σ).bind fun r1 => ((C 32 [.ref 5] r1.2).bind fun r2 => (if r2.1 = (-1 : Int32) then some ((0 : Int32), r2.2) else ((C 34 [.ref 5, .int r2.1, .ref 1, .int ((256 : Int32) + ((16 : Int32) * v3))] r2.2).bind fun r3 => ((C 24 [.ref 5, .int v1, .int ((6 : Int32) + v3), .int r2.1] r3.2).bind fun r4 => ((C 24 [.ref 5, .int v1, .int (5 : Int32), .int (v3 + (1 : Int32))] r4.2).bind fun r5 => k 2 [(0, .ref 14), (1, .int v1), (2, .int v2), (3, .int (v3 + (1 : Int32)))] [] r5.2))))))) := rfl
-- DeskMachine$Desk.saveFile()Z (14,)
set_option maxRecDepth 100000 in
set_option maxHeartbeats 4000000 in
theorem e36_0 (C : xC) (k : xK) (σ : xS) : x_b x_i36 C k 0 [(0, .ref 14)] [] σ = (if (σ 16 1) < 0 ∨ 20 ≤ (σ 16 1).toNatClampNeg then none else (if ((σ 17 1) - (σ 16 1)) = (1 : Int32) then (if ((σ 15 (σ 16 1).toNatClampNeg) - (48 : Int32)) < 0 then some ((0 : Int32), σ) else (if ((σ 15 (σ 16 1).toNatClampNeg) - (48 : Int32)) ≤ (9 : Int32) then ((C 19 [.ref 14, .int (2 : Int32)] σ).bind fun r1 => (if r1.1 = (-1 : Int32) then ((C 29 [.ref 5, .ref 18] r1.2).bind fun r2 => (if r2.1 = (-1 : Int32) then some ((0 : Int32), r2.2) else ((C 35 [.ref 14, .int r2.1, .int ((σ 15 (σ 16 1).toNatClampNeg) - (48 : Int32))] r2.2).bind fun r3 => (if r3.1 = 0 then some ((0 : Int32), r3.2) else some ((1 : Int32), r3.2))))) else ((C 25 [.ref 5, .int r1.1] r1.2).bind fun r4 => ((C 29 [.ref 5, .ref 18] r4.2).bind fun r5 => (if r5.1 = (-1 : Int32) then some ((0 : Int32), r5.2) else ((C 35 [.ref 14, .int r5.1, .int ((σ 15 (σ 16 1).toNatClampNeg) - (48 : Int32))] r5.2).bind fun r6 => (if r6.1 = 0 then some ((0 : Int32), r6.2) else some ((1 : Int32), r6.2)))))))) else some ((0 : Int32), σ))) else some ((0 : Int32), σ))) := rfl
-- DeskMachine$Memory.put(II)V (1,)
set_option maxRecDepth 100000 in
set_option maxHeartbeats 4000000 in
theorem e37_0 (C : xC) (k : xK) (v1 v2 : Int32) (σ : xS) : x_b x_i37 C k 0 [(0, .ref 1), (1, .int v1), (2, .int v2)] [] σ = (if (v1 &&& (511 : Int32)) < 0 ∨ 512 ≤ (v1 &&& (511 : Int32)).toNatClampNeg then none else some (0, (x_up σ 2 ((v1 &&& (511 : Int32)).toNatClampNeg) (v2 &&& (255 : Int32))))) := rfl
-- DeskMachine$Disk.read(ILDeskMachine$Memory;I)V (5, 1)
set_option maxRecDepth 100000 in
set_option maxHeartbeats 4000000 in
theorem e38_0 (C : xC) (k : xK) (v1 v3 : Int32) (σ : xS) : x_b x_i38 C k 0 [(0, .ref 5), (1, .int v1), (2, .ref 1), (3, .int v3)] [] σ = k 3 [(0, .ref 5), (1, .int v1), (2, .ref 1), (3, .int v3), (4, .int (0 : Int32))] [] σ := rfl
set_option maxRecDepth 100000 in
set_option maxHeartbeats 4000000 in
theorem e38_3 (C : xC) (k : xK) (v1 v3 v4 : Int32) (σ : xS) : x_b x_i38 C k 3 [(0, .ref 5), (1, .int v1), (2, .ref 1), (3, .int v3), (4, .int v4)] [] σ = (if (16 : Int32) ≤ v4 then some (0, σ) else ((C 13 [.ref 5, .int v1, .int v4] σ).bind fun r1 => ((C 37 [.ref 1, .int (v3 + v4), .int r1.1] r1.2).bind fun r2 => k 3 [(0, .ref 5), (1, .int v1), (2, .ref 1), (3, .int v3), (4, .int (v4 + (1 : Int32)))] [] r2.2))) := rfl
-- DeskMachine$Desk.loadFile()Z (14,)
set_option maxRecDepth 100000 in
set_option maxHeartbeats 4000000 in
theorem e39_0 (C : xC) (k : xK) (σ : xS) : x_b x_i39 C k 0 [(0, .ref 14)] [] σ = ((C 19 [.ref 14, .int (0 : Int32)] σ).bind fun r1 => (if r1.1 = (-1 : Int32) then some ((0 : Int32), r1.2) else ((C 20 [.ref 5, .int r1.1] r1.2).bind fun r2 => k 24 [(0, .ref 14), (1, .int r1.1), (2, .int r2.1), (3, .int (0 : Int32))] [] r2.2))) := rfl
set_option maxRecDepth 100000 in
set_option maxHeartbeats 4000000 in
theorem e39_24 (C : xC) (k : xK) (v1 v2 v3 : Int32) (σ : xS) : x_b x_i39 C k 24 [(0, .ref 14), (1, .int v1), (2, .int v2), (3, .int v3)] [] σ = (if v2 ≤ v3 then some ((1 : Int32), σ) else ((C 13 [.ref 5, .int v1, .int ((6 : Int32) + v3)] σ).bind fun r1 => ((C 21 [.int r1.1] r1.2).bind fun r2 => (if r2.1 = 0 then k 24 [(0, .ref 14), (1, .int v1), (2, .int v2), (3, .int (v3 + (1 : Int32)))] [] r2.2 else ((C 38 [.ref 5, .int r1.1, .ref 1, .int ((256 : Int32) + ((16 : Int32) * v3))] r2.2).bind fun r3 => k 24 [(0, .ref 14), (1, .int v1), (2, .int v2), (3, .int (v3 + (1 : Int32)))] [] r3.2))))) := rfl
-- DeskMachine$Desk.obey(I)Z (14,)
set_option maxRecDepth 100000 in
set_option maxHeartbeats 4000000 in
theorem e40_0 (C : xC) (k : xK) (v1 : Int32) (σ : xS) : x_b x_i40 C k 0 [(0, .ref 14), (1, .int v1)] [] σ = (if v1 = (0 : Int32) then ((C 15 [.ref 14] σ).bind fun r7 => some ((1 : Int32), r7.2)) else (if v1 = (1 : Int32) then ((C 23 [.ref 14] σ).bind fun r6 => (if r6.1 = 0 ∨ r6.1 = 1 then some (r6.1, r6.2) else none)) else (if v1 = (2 : Int32) then ((C 16 [.ref 14, .int (1 : Int32)] σ).bind fun r4 => ((C 26 [.ref 5, .ref 18] r4.2).bind fun r5 => some ((1 : Int32), r5.2))) else (if v1 = (3 : Int32) then ((C 28 [.ref 14] σ).bind fun r3 => (if r3.1 = 0 ∨ r3.1 = 1 then some (r3.1, r3.2) else none)) else (if v1 = (4 : Int32) then ((C 36 [.ref 14] σ).bind fun r2 => (if r2.1 = 0 ∨ r2.1 = 1 then some (r2.1, r2.2) else none)) else (if v1 = (5 : Int32) then ((C 39 [.ref 14] σ).bind fun r1 => (if r1.1 = 0 ∨ r1.1 = 1 then some (r1.1, r1.2) else none)) else some ((1 : Int32), σ))))))) := rfl
-- DeskMachine$Desk.endLine()Z (14,)
set_option maxRecDepth 100000 in
set_option maxHeartbeats 4000000 in
theorem e41_0 (C : xC) (k : xK) (σ : xS) : x_b x_i41 C k 0 [(0, .ref 14)] [] σ = ((C 9 [.ref 14] σ).bind fun r1 => ((C 11 [.ref 14] (x_up r1.2 14 7 (0 : Int32))).bind fun r2 => (if r2.1 < 0 ∨ 7 ≤ r2.1.toNatClampNeg then none else (if (r2.2 14 8) < (([1, 2, 2, 3, 3, 1, 0] : List Int32).getD r2.1.toNatClampNeg 0) then (if (0 : Int32) = 0 then ((C 14 [.ref 10, .int (63 : Int32)] r2.2).bind fun r3 => k 53 [(0, .ref 14), (1, .int r2.1), (2, .int (0 : Int32))] [] r3.2) else k 53 [(0, .ref 14), (1, .int r2.1), (2, .int (0 : Int32))] [] r2.2) else ((C 40 [.ref 14, .int r2.1] r2.2).bind fun r4 => (if r4.1 = 0 then (if (0 : Int32) = 0 then ((C 14 [.ref 10, .int (63 : Int32)] r4.2).bind fun r5 => k 53 [(0, .ref 14), (1, .int r2.1), (2, .int (0 : Int32))] [] r5.2) else k 53 [(0, .ref 14), (1, .int r2.1), (2, .int (0 : Int32))] [] r4.2) else (if (1 : Int32) = 0 then ((C 14 [.ref 10, .int (63 : Int32)] r4.2).bind fun r6 => k 53 [(0, .ref 14), (1, .int r2.1), (2, .int (1 : Int32))] [] r6.2) else k 53 [(0, .ref 14), (1, .int r2.1), (2, .int (1 : Int32))] [] r4.2))))))) := rfl
set_option maxRecDepth 100000 in
set_option maxHeartbeats 4000000 in
theorem e41_53 (C : xC) (k : xK) (v1 v2 : Int32) (σ : xS) : x_b x_i41 C k 53 [(0, .ref 14), (1, .int v1), (2, .int v2)] [] σ = ((C 14 [.ref 10, .int (13 : Int32)] σ).bind fun r1 => (if v2 = 0 then (if (0 : Int32) = 0 then ((C 14 [.ref 10, .int (62 : Int32)] r1.2).bind fun r2 => some ((0 : Int32), r2.2)) else some ((0 : Int32), r1.2)) else (if v1 = (5 : Int32) then (if (1 : Int32) = 0 then ((C 14 [.ref 10, .int (62 : Int32)] r1.2).bind fun r4 => some ((1 : Int32), r4.2)) else some ((1 : Int32), r1.2)) else (if (0 : Int32) = 0 then ((C 14 [.ref 10, .int (62 : Int32)] r1.2).bind fun r3 => some ((0 : Int32), r3.2)) else some ((0 : Int32), r1.2))))) := rfl
-- DeskMachine$Processor.setFlags(I)V (3,)
set_option maxRecDepth 100000 in
set_option maxHeartbeats 4000000 in
theorem e42_0 (C : xC) (k : xK) (v1 : Int32) (σ : xS) : x_b x_i42 C k 0 [(0, .ref 3), (1, .int v1)] [] σ = some (0, (x_up (x_up (x_up (x_up (x_up σ 3 4 ((v1 >>> ((7 : Int32) &&& 31)) &&& (1 : Int32))) 3 5 ((v1 >>> ((6 : Int32) &&& 31)) &&& (1 : Int32))) 3 6 ((v1 >>> ((4 : Int32) &&& 31)) &&& (1 : Int32))) 3 7 ((v1 >>> ((2 : Int32) &&& 31)) &&& (1 : Int32))) 3 8 (v1 &&& (1 : Int32)))) := rfl
-- DeskMachine$Memory.putWord(II)V (1,)
set_option maxRecDepth 100000 in
set_option maxHeartbeats 4000000 in
theorem e43_0 (C : xC) (k : xK) (v1 v2 : Int32) (σ : xS) : x_b x_i43 C k 0 [(0, .ref 1), (1, .int v1), (2, .int v2)] [] σ = (if (v1 &&& (511 : Int32)) < 0 ∨ 512 ≤ (v1 &&& (511 : Int32)).toNatClampNeg then none else (if ((v1 + (1 : Int32)) &&& (511 : Int32)) < 0 ∨ 512 ≤ ((v1 + (1 : Int32)) &&& (511 : Int32)).toNatClampNeg then none else some (0, (x_up (x_up σ 2 ((v1 &&& (511 : Int32)).toNatClampNeg) (v2 &&& (255 : Int32))) 2 (((v1 + (1 : Int32)) &&& (511 : Int32)).toNatClampNeg) ((v2 >>> ((8 : Int32) &&& 31)) &&& (255 : Int32)))))) := rfl
-- DeskMachine$Processor.push(I)V (3,)
set_option maxRecDepth 100000 in
set_option maxHeartbeats 4000000 in
theorem e44_0 (C : xC) (k : xK) (v1 : Int32) (σ : xS) : x_b x_i44 C k 0 [(0, .ref 3), (1, .int v1)] [] σ = ((C 43 [.ref 1, .int ((x_up σ 3 2 (((σ 3 2) - (2 : Int32)) &&& (Int32.ofNat 65535))) 3 2), .int v1] (x_up σ 3 2 (((σ 3 2) - (2 : Int32)) &&& (Int32.ofNat 65535)))).bind fun r1 => some (0, r1.2)) := rfl
-- DeskMachine$Processor.start()V (3,)
set_option maxRecDepth 100000 in
set_option maxHeartbeats 4000000 in
theorem e45_0 (C : xC) (k : xK) (σ : xS) : x_b x_i45 C k 0 [(0, .ref 3)] [] σ = k 2 [(0, .ref 3), (1, .int (0 : Int32))] [] σ := rfl
set_option maxRecDepth 100000 in
set_option maxHeartbeats 4000000 in
theorem e45_2 (C : xC) (k : xK) (v1 : Int32) (σ : xS) : x_b x_i45 C k 2 [(0, .ref 3), (1, .int v1)] [] σ = (if (8 : Int32) ≤ v1 then ((C 42 [.ref 3, .int (0 : Int32)] σ).bind fun r1 => ((C 44 [.ref 3, .int (0 : Int32)] (x_up r1.2 3 2 (496 : Int32))).bind fun r2 => some (0, (x_up r2.2 3 3 (256 : Int32))))) else (if v1 < 0 ∨ 8 ≤ v1.toNatClampNeg then none else k 2 [(0, .ref 3), (1, .int (v1 + (1 : Int32)))] [] (x_up σ 4 (v1.toNatClampNeg) (0 : Int32)))) := rfl
-- DeskMachine.stepAtDesk()Z (0,)
set_option maxRecDepth 100000 in
set_option maxHeartbeats 4000000 in
theorem e46_0 (C : xC) (k : xK) (σ : xS) : x_b x_i46 C k 0 [(0, .ref 0)] [] σ = ((C 5 [.ref 8] σ).bind fun r1 => (if r1.1 = 0 then ((C 6 [.ref 8] r1.2).bind fun r2 => (if r2.1 = (13 : Int32) then ((C 41 [.ref 14] r2.2).bind fun r3 => (if r3.1 = 0 then some ((1 : Int32), r3.2) else ((C 45 [.ref 3] r3.2).bind fun r4 => some ((1 : Int32), (x_up (x_up r4.2 12 3 (128 : Int32)) 0 7 (1 : Int32)))))) else ((C 7 [.ref 14, .int r2.1] r2.2).bind fun r5 => some ((1 : Int32), r5.2)))) else some ((0 : Int32), r1.2))) := rfl
-- DeskMachine$Processor.nextByte()I (3,)
set_option maxRecDepth 100000 in
set_option maxHeartbeats 4000000 in
theorem e47_0 (C : xC) (k : xK) (σ : xS) : x_b x_i47 C k 0 [(0, .ref 3)] [] σ = ((C 33 [.ref 1, .int (σ 3 3)] σ).bind fun r1 => some (r1.1, (x_up r1.2 3 3 (((r1.2 3 3) + (1 : Int32)) &&& (Int32.ofNat 65535))))) := rfl
-- DeskMachine$Processor.nextWord()I (3,)
set_option maxRecDepth 100000 in
set_option maxHeartbeats 4000000 in
theorem e48_0 (C : xC) (k : xK) (σ : xS) : x_b x_i48 C k 0 [(0, .ref 3)] [] σ = ((C 47 [.ref 3] σ).bind fun r1 => ((C 47 [.ref 3] r1.2).bind fun r2 => some ((r1.1 ||| (r2.1 <<< ((8 : Int32) &&& 31))), r2.2))) := rfl
-- DeskMachine$Processor.setPair(II)V (3,)
set_option maxRecDepth 100000 in
set_option maxHeartbeats 4000000 in
theorem e49_0 (C : xC) (k : xK) (v1 v2 : Int32) (σ : xS) : x_b x_i49 C k 0 [(0, .ref 3), (1, .int v1), (2, .int v2)] [] σ = (if v1 = (3 : Int32) then some (0, (x_up σ 3 2 (v2 &&& (Int32.ofNat 65535)))) else (if ((2 : Int32) * v1) < 0 ∨ 8 ≤ ((2 : Int32) * v1).toNatClampNeg then none else (if (((2 : Int32) * v1) + (1 : Int32)) < 0 ∨ 8 ≤ (((2 : Int32) * v1) + (1 : Int32)).toNatClampNeg then none else some (0, (x_up (x_up σ 4 (((2 : Int32) * v1).toNatClampNeg) ((v2 >>> ((8 : Int32) &&& 31)) &&& (255 : Int32))) 4 ((((2 : Int32) * v1) + (1 : Int32)).toNatClampNeg) (v2 &&& (255 : Int32))))))) := rfl
-- DeskMachine$Processor.pair(I)I (3,)
set_option maxRecDepth 100000 in
set_option maxHeartbeats 4000000 in
theorem e50_0 (C : xC) (k : xK) (v1 : Int32) (σ : xS) : x_b x_i50 C k 0 [(0, .ref 3), (1, .int v1)] [] σ = (if v1 = (3 : Int32) then some ((σ 3 2), σ) else (if ((2 : Int32) * v1) < 0 ∨ 8 ≤ ((2 : Int32) * v1).toNatClampNeg then none else (if (((2 : Int32) * v1) + (1 : Int32)) < 0 ∨ 8 ≤ (((2 : Int32) * v1) + (1 : Int32)).toNatClampNeg then none else some ((((σ 4 ((2 : Int32) * v1).toNatClampNeg) <<< ((8 : Int32) &&& 31)) ||| (σ 4 (((2 : Int32) * v1) + (1 : Int32)).toNatClampNeg)), σ)))) := rfl
-- DeskMachine$Processor.addToHL(I)V (3,)
set_option maxRecDepth 100000 in
set_option maxHeartbeats 4000000 in
theorem e51_0 (C : xC) (k : xK) (v1 : Int32) (σ : xS) : x_b x_i51 C k 0 [(0, .ref 3), (1, .int v1)] [] σ = ((C 50 [.ref 3, .int (2 : Int32)] σ).bind fun r1 => ((C 49 [.ref 3, .int (2 : Int32), .int (r1.1 + v1)] r1.2).bind fun r2 => some (0, (x_up r2.2 3 8 ((r1.1 + v1) >>> ((16 : Int32) &&& 31)))))) := rfl
-- DeskMachine$Memory.word(I)I (1,)
set_option maxRecDepth 100000 in
set_option maxHeartbeats 4000000 in
theorem e52_0 (C : xC) (k : xK) (v1 : Int32) (σ : xS) : x_b x_i52 C k 0 [(0, .ref 1), (1, .int v1)] [] σ = (if (v1 &&& (511 : Int32)) < 0 ∨ 512 ≤ (v1 &&& (511 : Int32)).toNatClampNeg then none else (if ((v1 + (1 : Int32)) &&& (511 : Int32)) < 0 ∨ 512 ≤ ((v1 + (1 : Int32)) &&& (511 : Int32)).toNatClampNeg then none else some (((σ 2 (v1 &&& (511 : Int32)).toNatClampNeg) ||| ((σ 2 ((v1 + (1 : Int32)) &&& (511 : Int32)).toNatClampNeg) <<< ((8 : Int32) &&& 31))), σ))) := rfl
-- DeskMachine$Processor.moveByAddress(I)V (3,)
set_option maxRecDepth 100000 in
set_option maxHeartbeats 4000000 in
theorem e53_0 (C : xC) (k : xK) (v1 : Int32) (σ : xS) : x_b x_i53 C k 0 [(0, .ref 3), (1, .int v1)] [] σ = (if v1 = (0 : Int32) then ((C 50 [.ref 3, .int (v1 >>> ((1 : Int32) &&& 31))] σ).bind fun r17 => ((C 37 [.ref 1, .int r17.1, .int (r17.2 4 7)] r17.2).bind fun r18 => some (0, r18.2))) else (if v1 = (1 : Int32) then ((C 50 [.ref 3, .int (v1 >>> ((1 : Int32) &&& 31))] σ).bind fun r15 => ((C 33 [.ref 1, .int r15.1] r15.2).bind fun r16 => some (0, (x_up r16.2 4 7 r16.1)))) else (if v1 = (2 : Int32) then ((C 50 [.ref 3, .int (v1 >>> ((1 : Int32) &&& 31))] σ).bind fun r13 => ((C 37 [.ref 1, .int r13.1, .int (r13.2 4 7)] r13.2).bind fun r14 => some (0, r14.2))) else (if v1 = (3 : Int32) then ((C 50 [.ref 3, .int (v1 >>> ((1 : Int32) &&& 31))] σ).bind fun r11 => ((C 33 [.ref 1, .int r11.1] r11.2).bind fun r12 => some (0, (x_up r12.2 4 7 r12.1)))) else (if v1 = (4 : Int32) then ((C 48 [.ref 3] σ).bind fun r8 => ((C 50 [.ref 3, .int (2 : Int32)] r8.2).bind fun r9 => ((C 43 [.ref 1, .int r8.1, .int r9.1] r9.2).bind fun r10 => some (0, r10.2)))) else (if v1 = (5 : Int32) then ((C 48 [.ref 3] σ).bind fun r5 => ((C 52 [.ref 1, .int r5.1] r5.2).bind fun r6 => ((C 49 [.ref 3, .int (2 : Int32), .int r6.1] r6.2).bind fun r7 => some (0, r7.2)))) else (if v1 = (6 : Int32) then ((C 48 [.ref 3] σ).bind fun r3 => ((C 37 [.ref 1, .int r3.1, .int (r3.2 4 7)] r3.2).bind fun r4 => some (0, r4.2))) else ((C 48 [.ref 3] σ).bind fun r1 => ((C 33 [.ref 1, .int r1.1] r1.2).bind fun r2 => some (0, (x_up r2.2 4 7 r2.1))))))))))) := rfl
-- DeskMachine$Processor.get(I)I (3,)
set_option maxRecDepth 100000 in
set_option maxHeartbeats 4000000 in
theorem e54_0 (C : xC) (k : xK) (v1 : Int32) (σ : xS) : x_b x_i54 C k 0 [(0, .ref 3), (1, .int v1)] [] σ = (if v1 = (6 : Int32) then ((C 50 [.ref 3, .int (2 : Int32)] σ).bind fun r1 => ((C 33 [.ref 1, .int r1.1] r1.2).bind fun r2 => some (r2.1, r2.2))) else (if v1 < 0 ∨ 8 ≤ v1.toNatClampNeg then none else some ((σ 4 v1.toNatClampNeg), σ))) := rfl
-- DeskMachine$Processor.put(II)V (3,)
set_option maxRecDepth 100000 in
set_option maxHeartbeats 4000000 in
theorem e55_0 (C : xC) (k : xK) (v1 v2 : Int32) (σ : xS) : x_b x_i55 C k 0 [(0, .ref 3), (1, .int v1), (2, .int v2)] [] σ = (if v1 = (6 : Int32) then ((C 50 [.ref 3, .int (2 : Int32)] σ).bind fun r1 => ((C 37 [.ref 1, .int r1.1, .int v2] r1.2).bind fun r2 => some (0, r2.2))) else (if v1 < 0 ∨ 8 ≤ v1.toNatClampNeg then none else some (0, (x_up σ 4 (v1.toNatClampNeg) v2)))) := rfl
-- java/lang/Integer.bitCount(I)I ()
set_option maxRecDepth 100000 in
set_option maxHeartbeats 4000000 in
theorem e56_0 (C : xC) (k : xK) (v0 : Int32) (σ : xS) : x_b x_i56 C k 0 [(0, .int v0)] [] σ = some (((((((((v0 - (((v0).toUInt32 >>> (((1 : Int32)).toUInt32 &&& Int32.toUInt32 31)).toInt32 &&& (Int32.ofNat 1431655765))) &&& (Int32.ofNat 858993459)) + ((((v0 - (((v0).toUInt32 >>> (((1 : Int32)).toUInt32 &&& Int32.toUInt32 31)).toInt32 &&& (Int32.ofNat 1431655765)))).toUInt32 >>> (((2 : Int32)).toUInt32 &&& Int32.toUInt32 31)).toInt32 &&& (Int32.ofNat 858993459))) + (((((v0 - (((v0).toUInt32 >>> (((1 : Int32)).toUInt32 &&& Int32.toUInt32 31)).toInt32 &&& (Int32.ofNat 1431655765))) &&& (Int32.ofNat 858993459)) + ((((v0 - (((v0).toUInt32 >>> (((1 : Int32)).toUInt32 &&& Int32.toUInt32 31)).toInt32 &&& (Int32.ofNat 1431655765)))).toUInt32 >>> (((2 : Int32)).toUInt32 &&& Int32.toUInt32 31)).toInt32 &&& (Int32.ofNat 858993459)))).toUInt32 >>> (((4 : Int32)).toUInt32 &&& Int32.toUInt32 31)).toInt32) &&& (Int32.ofNat 252645135)) + (((((((v0 - (((v0).toUInt32 >>> (((1 : Int32)).toUInt32 &&& Int32.toUInt32 31)).toInt32 &&& (Int32.ofNat 1431655765))) &&& (Int32.ofNat 858993459)) + ((((v0 - (((v0).toUInt32 >>> (((1 : Int32)).toUInt32 &&& Int32.toUInt32 31)).toInt32 &&& (Int32.ofNat 1431655765)))).toUInt32 >>> (((2 : Int32)).toUInt32 &&& Int32.toUInt32 31)).toInt32 &&& (Int32.ofNat 858993459))) + (((((v0 - (((v0).toUInt32 >>> (((1 : Int32)).toUInt32 &&& Int32.toUInt32 31)).toInt32 &&& (Int32.ofNat 1431655765))) &&& (Int32.ofNat 858993459)) + ((((v0 - (((v0).toUInt32 >>> (((1 : Int32)).toUInt32 &&& Int32.toUInt32 31)).toInt32 &&& (Int32.ofNat 1431655765)))).toUInt32 >>> (((2 : Int32)).toUInt32 &&& Int32.toUInt32 31)).toInt32 &&& (Int32.ofNat 858993459)))).toUInt32 >>> (((4 : Int32)).toUInt32 &&& Int32.toUInt32 31)).toInt32) &&& (Int32.ofNat 252645135))).toUInt32 >>> (((8 : Int32)).toUInt32 &&& Int32.toUInt32 31)).toInt32) + ((((((((v0 - (((v0).toUInt32 >>> (((1 : Int32)).toUInt32 &&& Int32.toUInt32 31)).toInt32 &&& (Int32.ofNat 1431655765))) &&& (Int32.ofNat 858993459)) + ((((v0 - (((v0).toUInt32 >>> (((1 : Int32)).toUInt32 &&& Int32.toUInt32 31)).toInt32 &&& (Int32.ofNat 1431655765)))).toUInt32 >>> (((2 : Int32)).toUInt32 &&& Int32.toUInt32 31)).toInt32 &&& (Int32.ofNat 858993459))) + (((((v0 - (((v0).toUInt32 >>> (((1 : Int32)).toUInt32 &&& Int32.toUInt32 31)).toInt32 &&& (Int32.ofNat 1431655765))) &&& (Int32.ofNat 858993459)) + ((((v0 - (((v0).toUInt32 >>> (((1 : Int32)).toUInt32 &&& Int32.toUInt32 31)).toInt32 &&& (Int32.ofNat 1431655765)))).toUInt32 >>> (((2 : Int32)).toUInt32 &&& Int32.toUInt32 31)).toInt32 &&& (Int32.ofNat 858993459)))).toUInt32 >>> (((4 : Int32)).toUInt32 &&& Int32.toUInt32 31)).toInt32) &&& (Int32.ofNat 252645135)) + (((((((v0 - (((v0).toUInt32 >>> (((1 : Int32)).toUInt32 &&& Int32.toUInt32 31)).toInt32 &&& (Int32.ofNat 1431655765))) &&& (Int32.ofNat 858993459)) + ((((v0 - (((v0).toUInt32 >>> (((1 : Int32)).toUInt32 &&& Int32.toUInt32 31)).toInt32 &&& (Int32.ofNat 1431655765)))).toUInt32 >>> (((2 : Int32)).toUInt32 &&& Int32.toUInt32 31)).toInt32 &&& (Int32.ofNat 858993459))) + (((((v0 - (((v0).toUInt32 >>> (((1 : Int32)).toUInt32 &&& Int32.toUInt32 31)).toInt32 &&& (Int32.ofNat 1431655765))) &&& (Int32.ofNat 858993459)) + ((((v0 - (((v0).toUInt32 >>> (((1 : Int32)).toUInt32 &&& Int32.toUInt32 31)).toInt32 &&& (Int32.ofNat 1431655765)))).toUInt32 >>> (((2 : Int32)).toUInt32 &&& Int32.toUInt32 31)).toInt32 &&& (Int32.ofNat 858993459)))).toUInt32 >>> (((4 : Int32)).toUInt32 &&& Int32.toUInt32 31)).toInt32) &&& (Int32.ofNat 252645135))).toUInt32 >>> (((8 : Int32)).toUInt32 &&& Int32.toUInt32 31)).toInt32)).toUInt32 >>> (((16 : Int32)).toUInt32 &&& Int32.toUInt32 31)).toInt32) &&& (63 : Int32)), σ) := rfl
-- DeskMachine$Processor.judge(I)V (3,)
set_option maxRecDepth 100000 in
set_option maxHeartbeats 4000000 in
theorem e57_0 (C : xC) (k : xK) (v1 : Int32) (σ : xS) : x_b x_i57 C k 0 [(0, .ref 3), (1, .int v1)] [] σ = (if v1 = 0 then ((C 56 [.int v1] (x_up (x_up σ 3 4 (v1 >>> ((7 : Int32) &&& 31))) 3 5 (1 : Int32))).bind fun r2 => some (0, (x_up r2.2 3 7 ((1 : Int32) - (r2.1 &&& (1 : Int32)))))) else ((C 56 [.int v1] (x_up (x_up σ 3 4 (v1 >>> ((7 : Int32) &&& 31))) 3 5 (0 : Int32))).bind fun r1 => some (0, (x_up r1.2 3 7 ((1 : Int32) - (r1.1 &&& (1 : Int32))))))) := rfl
-- DeskMachine$Processor.grow(I)V (3,)
set_option maxRecDepth 100000 in
set_option maxHeartbeats 4000000 in
theorem e58_0 (C : xC) (k : xK) (v1 : Int32) (σ : xS) : x_b x_i58 C k 0 [(0, .ref 3), (1, .int v1)] [] σ = ((C 54 [.ref 3, .int v1] σ).bind fun r1 => ((C 55 [.ref 3, .int v1, .int ((r1.1 + (1 : Int32)) &&& (255 : Int32))] r1.2).bind fun r2 => ((C 57 [.ref 3, .int ((r1.1 + (1 : Int32)) &&& (255 : Int32))] r2.2).bind fun r3 => (if (((r1.1 + (1 : Int32)) &&& (255 : Int32)) &&& (15 : Int32)) = 0 then some (0, (x_up r3.2 3 6 (1 : Int32))) else some (0, (x_up r3.2 3 6 (0 : Int32))))))) := rfl
-- DeskMachine$Processor.fall(I)V (3,)
set_option maxRecDepth 100000 in
set_option maxHeartbeats 4000000 in
theorem e59_0 (C : xC) (k : xK) (v1 : Int32) (σ : xS) : x_b x_i59 C k 0 [(0, .ref 3), (1, .int v1)] [] σ = ((C 54 [.ref 3, .int v1] σ).bind fun r1 => ((C 55 [.ref 3, .int v1, .int ((r1.1 - (1 : Int32)) &&& (255 : Int32))] r1.2).bind fun r2 => ((C 57 [.ref 3, .int ((r1.1 - (1 : Int32)) &&& (255 : Int32))] r2.2).bind fun r3 => (if (((r1.1 - (1 : Int32)) &&& (255 : Int32)) &&& (15 : Int32)) = (15 : Int32) then some (0, (x_up r3.2 3 6 (0 : Int32))) else some (0, (x_up r3.2 3 6 (1 : Int32))))))) := rfl
-- DeskMachine$Processor.turnLeft(I)V (3,)
set_option maxRecDepth 100000 in
set_option maxHeartbeats 4000000 in
theorem e60_0 (C : xC) (k : xK) (v1 : Int32) (σ : xS) : x_b x_i60 C k 0 [(0, .ref 3), (1, .int v1)] [] σ = some (0, (x_up (x_up σ 4 7 ((((σ 4 7) <<< ((1 : Int32) &&& 31)) &&& (255 : Int32)) ||| v1)) 3 8 ((σ 4 7) >>> ((7 : Int32) &&& 31)))) := rfl
-- DeskMachine$Processor.turnRight(I)V (3,)
set_option maxRecDepth 100000 in
set_option maxHeartbeats 4000000 in
theorem e61_0 (C : xC) (k : xK) (v1 : Int32) (σ : xS) : x_b x_i61 C k 0 [(0, .ref 3), (1, .int v1)] [] σ = some (0, (x_up (x_up σ 4 7 (((σ 4 7) >>> ((1 : Int32) &&& 31)) ||| (v1 <<< ((7 : Int32) &&& 31)))) 3 8 ((σ 4 7) &&& (1 : Int32)))) := rfl
-- DeskMachine$Processor.adjust()V (3,)
set_option maxRecDepth 100000 in
set_option maxHeartbeats 4000000 in
theorem e62_0 (C : xC) (k : xK) (σ : xS) : x_b x_i62 C k 0 [(0, .ref 3)] [] σ = (if (9 : Int32) < ((σ 4 7) &&& (15 : Int32)) then k 31 [(0, .ref 3), (1, .int (σ 4 7))] [.int (6 : Int32)] σ else (if (σ 3 6) = (1 : Int32) then k 31 [(0, .ref 3), (1, .int (σ 4 7))] [.int (6 : Int32)] σ else k 31 [(0, .ref 3), (1, .int (σ 4 7))] [.int (0 : Int32)] σ)) := rfl
set_option maxRecDepth 100000 in
set_option maxHeartbeats 4000000 in
theorem e62_31 (C : xC) (k : xK) (v1 s0 : Int32) (σ : xS) : x_b x_i62 C k 31 [(0, .ref 3), (1, .int v1)] [.int s0] σ = (if (153 : Int32) < v1 then ((C 57 [.ref 3, .int ((x_up (x_up (x_up σ 3 6 (((v1 &&& (15 : Int32)) + s0) >>> ((4 : Int32) &&& 31))) 3 8 (1 : Int32)) 4 7 ((v1 + (s0 + (96 : Int32))) &&& (255 : Int32))) 4 7)] (x_up (x_up (x_up σ 3 6 (((v1 &&& (15 : Int32)) + s0) >>> ((4 : Int32) &&& 31))) 3 8 (1 : Int32)) 4 7 ((v1 + (s0 + (96 : Int32))) &&& (255 : Int32)))).bind fun r1 => some (0, r1.2)) else (if ((x_up σ 3 6 (((v1 &&& (15 : Int32)) + s0) >>> ((4 : Int32) &&& 31))) 3 8) = (1 : Int32) then ((C 57 [.ref 3, .int ((x_up (x_up (x_up σ 3 6 (((v1 &&& (15 : Int32)) + s0) >>> ((4 : Int32) &&& 31))) 3 8 (1 : Int32)) 4 7 ((v1 + (s0 + (96 : Int32))) &&& (255 : Int32))) 4 7)] (x_up (x_up (x_up σ 3 6 (((v1 &&& (15 : Int32)) + s0) >>> ((4 : Int32) &&& 31))) 3 8 (1 : Int32)) 4 7 ((v1 + (s0 + (96 : Int32))) &&& (255 : Int32)))).bind fun r3 => some (0, r3.2)) else ((C 57 [.ref 3, .int ((x_up (x_up σ 3 6 (((v1 &&& (15 : Int32)) + s0) >>> ((4 : Int32) &&& 31))) 4 7 ((v1 + s0) &&& (255 : Int32))) 4 7)] (x_up (x_up σ 3 6 (((v1 &&& (15 : Int32)) + s0) >>> ((4 : Int32) &&& 31))) 4 7 ((v1 + s0) &&& (255 : Int32)))).bind fun r2 => some (0, r2.2)))) := rfl
-- DeskMachine$Processor.changeA(I)V (3,)
set_option maxRecDepth 100000 in
set_option maxHeartbeats 4000000 in
theorem e63_0 (C : xC) (k : xK) (v1 : Int32) (σ : xS) : x_b x_i63 C k 0 [(0, .ref 3), (1, .int v1)] [] σ = (if v1 = (0 : Int32) then ((C 60 [.ref 3, .int ((σ 4 7) >>> ((7 : Int32) &&& 31))] σ).bind fun r5 => some (0, r5.2)) else (if v1 = (1 : Int32) then ((C 61 [.ref 3, .int ((σ 4 7) &&& (1 : Int32))] σ).bind fun r4 => some (0, r4.2)) else (if v1 = (2 : Int32) then ((C 60 [.ref 3, .int (σ 3 8)] σ).bind fun r3 => some (0, r3.2)) else (if v1 = (3 : Int32) then ((C 61 [.ref 3, .int (σ 3 8)] σ).bind fun r2 => some (0, r2.2)) else (if v1 = (4 : Int32) then ((C 62 [.ref 3] σ).bind fun r1 => some (0, r1.2)) else (if v1 = (5 : Int32) then some (0, (x_up σ 4 7 ((255 : Int32) - (σ 4 7)))) else (if v1 = (6 : Int32) then some (0, (x_up σ 3 8 (1 : Int32))) else some (0, (x_up σ 3 8 ((1 : Int32) - (σ 3 8))))))))))) := rfl
-- DeskMachine$Processor.moveOrCount(II)V (3,)
set_option maxRecDepth 100000 in
set_option maxHeartbeats 4000000 in
theorem e64_0 (C : xC) (k : xK) (v1 v2 : Int32) (σ : xS) : x_b x_i64 C k 0 [(0, .ref 3), (1, .int v1), (2, .int v2)] [] σ = (if v2 = (0 : Int32) then some (0, σ) else (if v2 = (1 : Int32) then (if (v1 &&& (1 : Int32)) = 0 then ((C 48 [.ref 3] σ).bind fun r12 => ((C 49 [.ref 3, .int (v1 >>> ((1 : Int32) &&& 31)), .int r12.1] r12.2).bind fun r13 => some (0, r13.2))) else ((C 50 [.ref 3, .int (v1 >>> ((1 : Int32) &&& 31))] σ).bind fun r10 => ((C 51 [.ref 3, .int r10.1] r10.2).bind fun r11 => some (0, r11.2)))) else (if v2 = (2 : Int32) then ((C 53 [.ref 3, .int v1] σ).bind fun r9 => some (0, r9.2)) else (if v2 = (3 : Int32) then ((C 50 [.ref 3, .int (v1 >>> ((1 : Int32) &&& 31))] σ).bind fun r6 => (if (v1 &&& (1 : Int32)) = 0 then ((C 49 [.ref 3, .int (v1 >>> ((1 : Int32) &&& 31)), .int (r6.1 + (1 : Int32))] r6.2).bind fun r8 => some (0, r8.2)) else ((C 49 [.ref 3, .int (v1 >>> ((1 : Int32) &&& 31)), .int (r6.1 + (-1 : Int32))] r6.2).bind fun r7 => some (0, r7.2)))) else (if v2 = (4 : Int32) then ((C 58 [.ref 3, .int v1] σ).bind fun r5 => some (0, r5.2)) else (if v2 = (5 : Int32) then ((C 59 [.ref 3, .int v1] σ).bind fun r4 => some (0, r4.2)) else (if v2 = (6 : Int32) then ((C 47 [.ref 3] σ).bind fun r2 => ((C 55 [.ref 3, .int v1, .int r2.1] r2.2).bind fun r3 => some (0, r3.2))) else ((C 63 [.ref 3, .int v1] σ).bind fun r1 => some (0, r1.2))))))))) := rfl
-- DeskMachine$Processor.plus(II)I (3,)
set_option maxRecDepth 100000 in
set_option maxHeartbeats 4000000 in
theorem e65_0 (C : xC) (k : xK) (v1 v2 : Int32) (σ : xS) : x_b x_i65 C k 0 [(0, .ref 3), (1, .int v1), (2, .int v2)] [] σ = ((C 57 [.ref 3, .int ((((σ 4 7) + v1) + v2) &&& (255 : Int32))] (x_up (x_up σ 3 6 (((((σ 4 7) &&& (15 : Int32)) + (v1 &&& (15 : Int32))) + v2) >>> ((4 : Int32) &&& 31))) 3 8 ((((σ 4 7) + v1) + v2) >>> ((8 : Int32) &&& 31)))).bind fun r1 => some (((((σ 4 7) + v1) + v2) &&& (255 : Int32)), r1.2)) := rfl
-- DeskMachine$Processor.minus(II)I (3,)
set_option maxRecDepth 100000 in
set_option maxHeartbeats 4000000 in
theorem e66_0 (C : xC) (k : xK) (v1 v2 : Int32) (σ : xS) : x_b x_i66 C k 0 [(0, .ref 3), (1, .int v1), (2, .int v2)] [] σ = ((C 65 [.ref 3, .int ((255 : Int32) - v1), .int ((1 : Int32) - v2)] σ).bind fun r1 => some (r1.1, (x_up r1.2 3 8 ((1 : Int32) - (r1.2 3 8))))) := rfl
-- DeskMachine$Processor.setBits(I)V (3,)
set_option maxRecDepth 100000 in
set_option maxHeartbeats 4000000 in
theorem e67_0 (C : xC) (k : xK) (v1 : Int32) (σ : xS) : x_b x_i67 C k 0 [(0, .ref 3), (1, .int v1)] [] σ = ((C 57 [.ref 3, .int v1] (x_up (x_up σ 4 7 v1) 3 8 (0 : Int32))).bind fun r1 => some (0, r1.2)) := rfl
-- DeskMachine$Processor.combine(II)V (3,)
set_option maxRecDepth 100000 in
set_option maxHeartbeats 4000000 in
theorem e68_0 (C : xC) (k : xK) (v1 v2 : Int32) (σ : xS) : x_b x_i68 C k 0 [(0, .ref 3), (1, .int v1), (2, .int v2)] [] σ = (if v1 = (0 : Int32) then ((C 65 [.ref 3, .int v2, .int (0 : Int32)] σ).bind fun r8 => some (0, (x_up r8.2 4 7 r8.1))) else (if v1 = (1 : Int32) then ((C 65 [.ref 3, .int v2, .int (σ 3 8)] σ).bind fun r7 => some (0, (x_up r7.2 4 7 r7.1))) else (if v1 = (2 : Int32) then ((C 66 [.ref 3, .int v2, .int (0 : Int32)] σ).bind fun r6 => some (0, (x_up r6.2 4 7 r6.1))) else (if v1 = (3 : Int32) then ((C 66 [.ref 3, .int v2, .int (σ 3 8)] σ).bind fun r5 => some (0, (x_up r5.2 4 7 r5.1))) else (if v1 = (4 : Int32) then ((C 67 [.ref 3, .int (((x_up σ 3 6 ((((σ 4 7) ||| v2) >>> ((3 : Int32) &&& 31)) &&& (1 : Int32))) 4 7) &&& v2)] (x_up σ 3 6 ((((σ 4 7) ||| v2) >>> ((3 : Int32) &&& 31)) &&& (1 : Int32)))).bind fun r4 => some (0, r4.2)) else (if v1 = (5 : Int32) then ((C 67 [.ref 3, .int (((x_up σ 3 6 (0 : Int32)) 4 7) ^^^ v2)] (x_up σ 3 6 (0 : Int32))).bind fun r3 => some (0, r3.2)) else (if v1 = (6 : Int32) then ((C 67 [.ref 3, .int (((x_up σ 3 6 (0 : Int32)) 4 7) ||| v2)] (x_up σ 3 6 (0 : Int32))).bind fun r2 => some (0, r2.2)) else ((C 66 [.ref 3, .int v2, .int (0 : Int32)] σ).bind fun r1 => some (0, r1.2))))))))) := rfl
-- DeskMachine$Processor.holds(I)Z (3,)
set_option maxRecDepth 100000 in
set_option maxHeartbeats 4000000 in
theorem e69_0 (C : xC) (k : xK) (v1 : Int32) (σ : xS) : x_b x_i69 C k 0 [(0, .ref 3), (1, .int v1)] [] σ = (if (v1 >>> ((1 : Int32) &&& 31)) = (0 : Int32) then (if (σ 3 5) = (v1 &&& (1 : Int32)) then some ((1 : Int32), σ) else some ((0 : Int32), σ)) else (if (v1 >>> ((1 : Int32) &&& 31)) = (1 : Int32) then (if (σ 3 8) = (v1 &&& (1 : Int32)) then some ((1 : Int32), σ) else some ((0 : Int32), σ)) else (if (v1 >>> ((1 : Int32) &&& 31)) = (2 : Int32) then (if (σ 3 7) = (v1 &&& (1 : Int32)) then some ((1 : Int32), σ) else some ((0 : Int32), σ)) else (if (σ 3 4) = (v1 &&& (1 : Int32)) then some ((1 : Int32), σ) else some ((0 : Int32), σ))))) := rfl
-- DeskMachine$Processor.pop()I (3,)
set_option maxRecDepth 100000 in
set_option maxHeartbeats 4000000 in
theorem e70_0 (C : xC) (k : xK) (σ : xS) : x_b x_i70 C k 0 [(0, .ref 3)] [] σ = ((C 52 [.ref 1, .int (σ 3 2)] σ).bind fun r1 => some (r1.1, (x_up r1.2 3 2 (((r1.2 3 2) + (2 : Int32)) &&& (Int32.ofNat 65535))))) := rfl
-- DeskMachine$Processor.popOrReturn(I)V (3,)
set_option maxRecDepth 100000 in
set_option maxHeartbeats 4000000 in
theorem e71_0 (C : xC) (k : xK) (v1 : Int32) (σ : xS) : x_b x_i71 C k 0 [(0, .ref 3), (1, .int v1)] [] σ = (if v1 = (1 : Int32) then ((C 70 [.ref 3] σ).bind fun r12 => some (0, (x_up r12.2 3 3 r12.1))) else (if v1 = (2 : Int32) then ((C 70 [.ref 3] σ).bind fun r10 => ((C 49 [.ref 3, .int (v1 >>> ((1 : Int32) &&& 31)), .int r10.1] r10.2).bind fun r11 => some (0, r11.2))) else (if v1 = (3 : Int32) then ((C 70 [.ref 3] σ).bind fun r9 => some (0, (x_up r9.2 3 3 r9.1))) else (if v1 = (4 : Int32) then ((C 70 [.ref 3] σ).bind fun r7 => ((C 49 [.ref 3, .int (v1 >>> ((1 : Int32) &&& 31)), .int r7.1] r7.2).bind fun r8 => some (0, r8.2))) else (if v1 = (5 : Int32) then ((C 50 [.ref 3, .int (2 : Int32)] σ).bind fun r6 => some (0, (x_up r6.2 3 3 r6.1))) else (if v1 = (6 : Int32) then ((C 70 [.ref 3] σ).bind fun r4 => ((C 42 [.ref 3, .int r4.1] (x_up r4.2 4 7 (r4.1 >>> ((8 : Int32) &&& 31)))).bind fun r5 => some (0, r5.2))) else (if v1 = (7 : Int32) then ((C 50 [.ref 3, .int (2 : Int32)] σ).bind fun r3 => some (0, (x_up r3.2 3 2 r3.1))) else ((C 70 [.ref 3] σ).bind fun r1 => ((C 49 [.ref 3, .int (v1 >>> ((1 : Int32) &&& 31)), .int r1.1] r1.2).bind fun r2 => some (0, r2.2)))))))))) := rfl
-- DeskMachine$Processor.goTo(IZ)V (3,)
set_option maxRecDepth 100000 in
set_option maxHeartbeats 4000000 in
theorem e72_0 (C : xC) (k : xK) (v1 v2 : Int32) (σ : xS) : x_b x_i72 C k 0 [(0, .ref 3), (1, .int v1), (2, .int v2)] [] σ = (if v2 = 0 then some (0, σ) else some (0, (x_up σ 3 3 v1))) := rfl
-- DeskMachine$Processor.goOrExchange(I)V (3,)
set_option maxRecDepth 100000 in
set_option maxHeartbeats 4000000 in
theorem e73_0 (C : xC) (k : xK) (v1 : Int32) (σ : xS) : x_b x_i73 C k 0 [(0, .ref 3), (1, .int v1)] [] σ = (if v1 = (0 : Int32) then ((C 48 [.ref 3] σ).bind fun r13 => ((C 72 [.ref 3, .int r13.1, .int (1 : Int32)] r13.2).bind fun r14 => some (0, r14.2))) else (if v1 = (1 : Int32) then ((C 48 [.ref 3] σ).bind fun r11 => ((C 72 [.ref 3, .int r11.1, .int (1 : Int32)] r11.2).bind fun r12 => some (0, r12.2))) else (if v1 = (2 : Int32) then ((C 47 [.ref 3] σ).bind fun r10 => some (0, r10.2)) else (if v1 = (3 : Int32) then ((C 47 [.ref 3] σ).bind fun r9 => some (0, r9.2)) else (if v1 = (4 : Int32) then ((C 52 [.ref 1, .int (σ 3 2)] σ).bind fun r5 => ((C 50 [.ref 3, .int (2 : Int32)] r5.2).bind fun r6 => ((C 43 [.ref 1, .int (r5.2 3 2), .int r6.1] r6.2).bind fun r7 => ((C 49 [.ref 3, .int (2 : Int32), .int r5.1] r7.2).bind fun r8 => some (0, r8.2))))) else (if v1 = (5 : Int32) then ((C 50 [.ref 3, .int (1 : Int32)] σ).bind fun r1 => ((C 50 [.ref 3, .int (2 : Int32)] r1.2).bind fun r2 => ((C 49 [.ref 3, .int (1 : Int32), .int r2.1] r2.2).bind fun r3 => ((C 49 [.ref 3, .int (2 : Int32), .int r1.1] r3.2).bind fun r4 => some (0, r4.2))))) else some (0, σ))))))) := rfl
-- DeskMachine$Processor.callTo(IZ)V (3,)
set_option maxRecDepth 100000 in
set_option maxHeartbeats 4000000 in
theorem e74_0 (C : xC) (k : xK) (v1 v2 : Int32) (σ : xS) : x_b x_i74 C k 0 [(0, .ref 3), (1, .int v1), (2, .int v2)] [] σ = (if v2 = 0 then some (0, σ) else ((C 44 [.ref 3, .int (σ 3 3)] σ).bind fun r1 => some (0, (x_up r1.2 3 3 v1)))) := rfl
-- DeskMachine$Processor.flags()I (3,)
set_option maxRecDepth 100000 in
set_option maxHeartbeats 4000000 in
theorem e75_0 (C : xC) (k : xK) (σ : xS) : x_b x_i75 C k 0 [(0, .ref 3)] [] σ = some ((((((((σ 3 4) <<< ((7 : Int32) &&& 31)) ||| ((σ 3 5) <<< ((6 : Int32) &&& 31))) ||| ((σ 3 6) <<< ((4 : Int32) &&& 31))) ||| ((σ 3 7) <<< ((2 : Int32) &&& 31))) ||| (2 : Int32)) ||| (σ 3 8)), σ) := rfl
-- DeskMachine$Processor.pushOrCall(I)V (3,)
set_option maxRecDepth 100000 in
set_option maxHeartbeats 4000000 in
theorem e76_0 (C : xC) (k : xK) (v1 : Int32) (σ : xS) : x_b x_i76 C k 0 [(0, .ref 3), (1, .int v1)] [] σ = (if (v1 &&& (1 : Int32)) = (1 : Int32) then ((C 48 [.ref 3] σ).bind fun r5 => ((C 74 [.ref 3, .int r5.1, .int (1 : Int32)] r5.2).bind fun r6 => some (0, r6.2))) else (if v1 = (6 : Int32) then ((C 75 [.ref 3] σ).bind fun r3 => ((C 44 [.ref 3, .int (((σ 4 7) <<< ((8 : Int32) &&& 31)) ||| r3.1)] r3.2).bind fun r4 => some (0, r4.2))) else ((C 50 [.ref 3, .int (v1 >>> ((1 : Int32) &&& 31))] σ).bind fun r1 => ((C 44 [.ref 3, .int r1.1] r1.2).bind fun r2 => some (0, r2.2))))) := rfl
-- DeskMachine$Processor.branchOrStack(II)V (3,)
set_option maxRecDepth 100000 in
set_option maxHeartbeats 4000000 in
theorem e77_0 (C : xC) (k : xK) (v1 v2 : Int32) (σ : xS) : x_b x_i77 C k 0 [(0, .ref 3), (1, .int v1), (2, .int v2)] [] σ = (if v2 = (0 : Int32) then ((C 69 [.ref 3, .int v1] σ).bind fun r11 => (if r11.1 = 0 then some (0, r11.2) else ((C 70 [.ref 3] r11.2).bind fun r12 => some (0, (x_up r12.2 3 3 r12.1))))) else (if v2 = (1 : Int32) then ((C 71 [.ref 3, .int v1] σ).bind fun r10 => some (0, r10.2)) else (if v2 = (2 : Int32) then ((C 48 [.ref 3] σ).bind fun r7 => ((C 69 [.ref 3, .int v1] r7.2).bind fun r8 => ((C 72 [.ref 3, .int r7.1, .int r8.1] r8.2).bind fun r9 => some (0, r9.2)))) else (if v2 = (3 : Int32) then ((C 73 [.ref 3, .int v1] σ).bind fun r6 => some (0, r6.2)) else (if v2 = (4 : Int32) then ((C 48 [.ref 3] σ).bind fun r3 => ((C 69 [.ref 3, .int v1] r3.2).bind fun r4 => ((C 74 [.ref 3, .int r3.1, .int r4.1] r4.2).bind fun r5 => some (0, r5.2)))) else (if v2 = (5 : Int32) then ((C 76 [.ref 3, .int v1] σ).bind fun r2 => some (0, r2.2)) else ((C 74 [.ref 3, .int ((8 : Int32) * v1), .int (1 : Int32)] σ).bind fun r1 => some (0, r1.2)))))))) := rfl
-- DeskMachine$Processor.step()Z (3,)
set_option maxRecDepth 100000 in
set_option maxHeartbeats 4000000 in
theorem e78_0 (C : xC) (k : xK) (σ : xS) : x_b x_i78 C k 0 [(0, .ref 3)] [] σ = ((C 47 [.ref 3] σ).bind fun r1 => (if r1.1 = (118 : Int32) then some ((0 : Int32), r1.2) else (if (r1.1 >>> ((6 : Int32) &&& 31)) = (0 : Int32) then ((C 64 [.ref 3, .int ((r1.1 >>> ((3 : Int32) &&& 31)) &&& (7 : Int32)), .int (r1.1 &&& (7 : Int32))] r1.2).bind fun r9 => some ((1 : Int32), r9.2)) else (if (r1.1 >>> ((6 : Int32) &&& 31)) = (1 : Int32) then ((C 54 [.ref 3, .int (r1.1 &&& (7 : Int32))] r1.2).bind fun r7 => ((C 55 [.ref 3, .int ((r1.1 >>> ((3 : Int32) &&& 31)) &&& (7 : Int32)), .int r7.1] r7.2).bind fun r8 => some ((1 : Int32), r8.2))) else (if (r1.1 >>> ((6 : Int32) &&& 31)) = (2 : Int32) then ((C 54 [.ref 3, .int (r1.1 &&& (7 : Int32))] r1.2).bind fun r5 => ((C 68 [.ref 3, .int ((r1.1 >>> ((3 : Int32) &&& 31)) &&& (7 : Int32)), .int r5.1] r5.2).bind fun r6 => some ((1 : Int32), r6.2))) else (if (r1.1 &&& (7 : Int32)) = (6 : Int32) then ((C 47 [.ref 3] r1.2).bind fun r3 => ((C 68 [.ref 3, .int ((r1.1 >>> ((3 : Int32) &&& 31)) &&& (7 : Int32)), .int r3.1] r3.2).bind fun r4 => some ((1 : Int32), r4.2))) else ((C 77 [.ref 3, .int ((r1.1 >>> ((3 : Int32) &&& 31)) &&& (7 : Int32)), .int (r1.1 &&& (7 : Int32))] r1.2).bind fun r2 => some ((1 : Int32), r2.2)))))))) := rfl
-- DeskMachine$FileCalls.takeName(I)V (12,)
set_option maxRecDepth 100000 in
set_option maxHeartbeats 4000000 in
theorem e79_0 (C : xC) (k : xK) (v1 : Int32) (σ : xS) : x_b x_i79 C k 0 [(0, .ref 12), (1, .int v1)] [] σ = k 2 [(0, .ref 12), (1, .int v1), (2, .int (0 : Int32))] [] σ := rfl
set_option maxRecDepth 100000 in
set_option maxHeartbeats 4000000 in
theorem e79_2 (C : xC) (k : xK) (v1 v2 : Int32) (σ : xS) : x_b x_i79 C k 2 [(0, .ref 12), (1, .int v1), (2, .int v2)] [] σ = (if (4 : Int32) ≤ v2 then some (0, σ) else ((C 33 [.ref 1, .int (v1 + v2)] σ).bind fun r1 => (if v2 < 0 ∨ 4 ≤ v2.toNatClampNeg then none else k 2 [(0, .ref 12), (1, .int v1), (2, .int (v2 + (1 : Int32)))] [] (x_up r1.2 13 (v2.toNatClampNeg) r1.1)))) := rfl
-- DeskMachine$Disk.findFitting([II)I (5, 13)
set_option maxRecDepth 100000 in
set_option maxHeartbeats 4000000 in
theorem e80_0 (C : xC) (k : xK) (v2 : Int32) (σ : xS) : x_b x_i80 C k 0 [(0, .ref 5), (1, .ref 13), (2, .int v2)] [] σ = k 2 [(0, .ref 5), (1, .ref 13), (3, .int v2)] [] σ := rfl
set_option maxRecDepth 100000 in
set_option maxHeartbeats 4000000 in
theorem e80_2 (C : xC) (k : xK) (v3 : Int32) (σ : xS) : x_b x_i80 C k 2 [(0, .ref 5), (1, .ref 13), (3, .int v3)] [] σ = (if (8 : Int32) ≤ v3 then some ((-1 : Int32), σ) else ((C 17 [.ref 5, .int v3, .ref 13, .int (1 : Int32)] σ).bind fun r1 => (if r1.1 = 0 then k 2 [(0, .ref 5), (1, .ref 13), (3, .int (v3 + (1 : Int32)))] [] r1.2 else some (v3, r1.2)))) := rfl
-- DeskMachine$FileCalls.open(I)I (12,)
set_option maxRecDepth 100000 in
set_option maxHeartbeats 4000000 in
theorem e81_0 (C : xC) (k : xK) (v1 : Int32) (σ : xS) : x_b x_i81 C k 0 [(0, .ref 12), (1, .int v1)] [] σ = ((C 80 [.ref 5, .ref 13, .int (0 : Int32)] σ).bind fun r1 => (if r1.1 = (-1 : Int32) then some ((255 : Int32), r1.2) else k 24 [(0, .ref 12), (1, .int v1), (2, .int r1.1), (3, .int (1 : Int32))] [] r1.2)) := rfl
set_option maxRecDepth 100000 in
set_option maxHeartbeats 4000000 in
theorem e81_24 (C : xC) (k : xK) (v1 v2 v3 : Int32) (σ : xS) : x_b x_i81 C k 24 [(0, .ref 12), (1, .int v1), (2, .int v2), (3, .int v3)] [] σ = (if (16 : Int32) ≤ v3 then some (v2, σ) else ((C 13 [.ref 5, .int v2, .int v3] σ).bind fun r1 => ((C 37 [.ref 1, .int (v1 + v3), .int r1.1] r1.2).bind fun r2 => k 24 [(0, .ref 12), (1, .int v1), (2, .int v2), (3, .int (v3 + (1 : Int32)))] [] r2.2))) := rfl
-- DeskMachine$FileCalls.close(I)I (12,)
set_option maxRecDepth 100000 in
set_option maxHeartbeats 4000000 in
theorem e82_0 (C : xC) (k : xK) (v1 : Int32) (σ : xS) : x_b x_i82 C k 0 [(0, .ref 12), (1, .int v1)] [] σ = ((C 18 [.ref 5, .ref 13] σ).bind fun r1 => (if r1.1 = (-1 : Int32) then some ((255 : Int32), r1.2) else k 23 [(0, .ref 12), (1, .int v1), (2, .int r1.1), (3, .int (5 : Int32))] [] r1.2)) := rfl
set_option maxRecDepth 100000 in
set_option maxHeartbeats 4000000 in
theorem e82_23 (C : xC) (k : xK) (v1 v2 v3 : Int32) (σ : xS) : x_b x_i82 C k 23 [(0, .ref 12), (1, .int v1), (2, .int v2), (3, .int v3)] [] σ = (if (16 : Int32) ≤ v3 then some (v2, σ) else ((C 33 [.ref 1, .int (v1 + v3)] σ).bind fun r1 => ((C 24 [.ref 5, .int v2, .int v3, .int r1.1] r1.2).bind fun r2 => k 23 [(0, .ref 12), (1, .int v1), (2, .int v2), (3, .int (v3 + (1 : Int32)))] [] r2.2))) := rfl
-- DeskMachine$FileCalls.search(I)I (12,)
set_option maxRecDepth 100000 in
set_option maxHeartbeats 4000000 in
theorem e83_0 (C : xC) (k : xK) (v1 : Int32) (σ : xS) : x_b x_i83 C k 0 [(0, .ref 12), (1, .int v1)] [] σ = ((C 80 [.ref 5, .ref 13, .int v1] σ).bind fun r1 => (if r1.1 = (-1 : Int32) then some ((255 : Int32), (x_up r1.2 12 4 (8 : Int32))) else ((C 38 [.ref 5, .int r1.1, .ref 1, .int ((x_up r1.2 12 4 (r1.1 + (1 : Int32))) 12 3)] (x_up r1.2 12 4 (r1.1 + (1 : Int32)))).bind fun r2 => some (r1.1, r2.2)))) := rfl
-- DeskMachine$FileCalls.hasRecord(II)Z (12,)
set_option maxRecDepth 100000 in
set_option maxHeartbeats 4000000 in
theorem e84_0 (C : xC) (k : xK) (v1 v2 : Int32) (σ : xS) : x_b x_i84 C k 0 [(0, .ref 12), (1, .int v1), (2, .int v2)] [] σ = ((C 33 [.ref 1, .int (v1 + (5 : Int32))] σ).bind fun r1 => (if r1.1 ≤ v2 then some ((0 : Int32), r1.2) else ((C 33 [.ref 1, .int ((v1 + (6 : Int32)) + v2)] r1.2).bind fun r2 => ((C 21 [.int r2.1] r2.2).bind fun r3 => (if r3.1 = 0 then some ((0 : Int32), r3.2) else some ((1 : Int32), r3.2)))))) := rfl
-- DeskMachine$FileCalls.read(I)I (12,)
set_option maxRecDepth 100000 in
set_option maxHeartbeats 4000000 in
theorem e85_0 (C : xC) (k : xK) (v1 : Int32) (σ : xS) : x_b x_i85 C k 0 [(0, .ref 12), (1, .int v1)] [] σ = ((C 33 [.ref 1, .int (v1 + (16 : Int32))] σ).bind fun r1 => (if (10 : Int32) ≤ r1.1 then some ((1 : Int32), r1.2) else ((C 84 [.ref 12, .int v1, .int r1.1] r1.2).bind fun r2 => (if r2.1 = 0 then some ((1 : Int32), r2.2) else ((C 33 [.ref 1, .int ((v1 + (6 : Int32)) + r1.1)] r2.2).bind fun r3 => ((C 38 [.ref 5, .int r3.1, .ref 1, .int (r3.2 12 3)] r3.2).bind fun r4 => ((C 37 [.ref 1, .int (v1 + (16 : Int32)), .int (r1.1 + (1 : Int32))] r4.2).bind fun r5 => some ((0 : Int32), r5.2)))))))) := rfl
-- DeskMachine$FileCalls.unusedBlock(I)I (12,)
set_option maxRecDepth 100000 in
set_option maxHeartbeats 4000000 in
theorem e86_0 (C : xC) (k : xK) (v1 : Int32) (σ : xS) : x_b x_i86 C k 0 [(0, .ref 12), (1, .int v1)] [] σ = ((C 31 [.ref 5] σ).bind fun r1 => ((C 33 [.ref 1, .int (v1 + (5 : Int32))] r1.2).bind fun r2 => k 20 [(0, .ref 12), (1, .int v1), (2, .int r2.1), (3, .int (0 : Int32))] [] r2.2)) := rfl
set_option maxRecDepth 100000 in
set_option maxHeartbeats 4000000 in
theorem e86_20 (C : xC) (k : xK) (v1 v2 v3 : Int32) (σ : xS) : x_b x_i86 C k 20 [(0, .ref 12), (1, .int v1), (2, .int v2), (3, .int v3)] [] σ = (if v2 ≤ v3 then ((C 32 [.ref 5] σ).bind fun r1 => some (r1.1, r1.2)) else (if (10 : Int32) ≤ v3 then ((C 32 [.ref 5] σ).bind fun r2 => some (r2.1, r2.2)) else ((C 33 [.ref 1, .int ((v1 + (6 : Int32)) + v3)] σ).bind fun r3 => ((C 30 [.ref 5, .int r3.1] r3.2).bind fun r4 => k 20 [(0, .ref 12), (1, .int v1), (2, .int v2), (3, .int (v3 + (1 : Int32)))] [] r4.2)))) := rfl
-- DeskMachine$FileCalls.write(I)I (12,)
set_option maxRecDepth 100000 in
set_option maxHeartbeats 4000000 in
theorem e87_0 (C : xC) (k : xK) (v1 : Int32) (σ : xS) : x_b x_i87 C k 0 [(0, .ref 12), (1, .int v1)] [] σ = ((C 33 [.ref 1, .int (v1 + (16 : Int32))] σ).bind fun r1 => (if r1.1 < (10 : Int32) then ((C 84 [.ref 12, .int v1, .int r1.1] r1.2).bind fun r2 => (if r2.1 = 0 then ((C 86 [.ref 12, .int v1] r2.2).bind fun r3 => (if r3.1 = (-1 : Int32) then some ((2 : Int32), r3.2) else ((C 37 [.ref 1, .int ((v1 + (6 : Int32)) + r1.1), .int r3.1] r3.2).bind fun r4 => k 56 [(0, .ref 12), (1, .int v1), (2, .int r1.1)] [] r4.2))) else k 56 [(0, .ref 12), (1, .int v1), (2, .int r1.1)] [] r2.2)) else some ((1 : Int32), r1.2))) := rfl
set_option maxRecDepth 100000 in
set_option maxHeartbeats 4000000 in
theorem e87_56 (C : xC) (k : xK) (v1 v2 : Int32) (σ : xS) : x_b x_i87 C k 56 [(0, .ref 12), (1, .int v1), (2, .int v2)] [] σ = ((C 33 [.ref 1, .int ((v1 + (6 : Int32)) + v2)] σ).bind fun r1 => ((C 34 [.ref 5, .int r1.1, .ref 1, .int (r1.2 12 3)] r1.2).bind fun r2 => ((C 33 [.ref 1, .int (v1 + (5 : Int32))] r2.2).bind fun r3 => (if (v2 + (1 : Int32)) ≤ r3.1 then ((C 37 [.ref 1, .int (v1 + (16 : Int32)), .int (v2 + (1 : Int32))] r3.2).bind fun r4 => some ((0 : Int32), r4.2)) else ((C 37 [.ref 1, .int (v1 + (5 : Int32)), .int (v2 + (1 : Int32))] r3.2).bind fun r5 => ((C 37 [.ref 1, .int (v1 + (16 : Int32)), .int (v2 + (1 : Int32))] r5.2).bind fun r6 => some ((0 : Int32), r6.2))))))) := rfl
-- DeskMachine$FileCalls.make(I)I (12,)
set_option maxRecDepth 100000 in
set_option maxHeartbeats 4000000 in
theorem e88_0 (C : xC) (k : xK) (v1 : Int32) (σ : xS) : x_b x_i88 C k 0 [(0, .ref 12), (1, .int v1)] [] σ = ((C 29 [.ref 5, .ref 13] σ).bind fun r1 => (if r1.1 = (-1 : Int32) then some ((255 : Int32), r1.2) else k 23 [(0, .ref 12), (1, .int v1), (2, .int r1.1), (3, .int (5 : Int32))] [] r1.2)) := rfl
set_option maxRecDepth 100000 in
set_option maxHeartbeats 4000000 in
theorem e88_23 (C : xC) (k : xK) (v1 v2 v3 : Int32) (σ : xS) : x_b x_i88 C k 23 [(0, .ref 12), (1, .int v1), (2, .int v2), (3, .int v3)] [] σ = (if (16 : Int32) ≤ v3 then some (v2, σ) else ((C 37 [.ref 1, .int (v1 + v3), .int (0 : Int32)] σ).bind fun r1 => k 23 [(0, .ref 12), (1, .int v1), (2, .int v2), (3, .int (v3 + (1 : Int32)))] [] r1.2)) := rfl
-- DeskMachine$FileCalls.rename(I)I (12,)
set_option maxRecDepth 100000 in
set_option maxHeartbeats 4000000 in
theorem e89_0 (C : xC) (k : xK) (v1 : Int32) (σ : xS) : x_b x_i89 C k 0 [(0, .ref 12), (1, .int v1)] [] σ = ((C 18 [.ref 5, .ref 13] σ).bind fun r1 => (if r1.1 = (-1 : Int32) then some ((255 : Int32), r1.2) else ((C 79 [.ref 12, .int (v1 + (17 : Int32))] r1.2).bind fun r2 => ((C 27 [.ref 5, .int r1.1, .ref 13] r2.2).bind fun r3 => some ((0 : Int32), r3.2))))) := rfl
-- DeskMachine$FileCalls.answer(II)I (12,)
set_option maxRecDepth 100000 in
set_option maxHeartbeats 4000000 in
theorem e90_0 (C : xC) (k : xK) (v1 v2 : Int32) (σ : xS) : x_b x_i90 C k 0 [(0, .ref 12), (1, .int v1), (2, .int v2)] [] σ = ((C 79 [.ref 12, .int (v2 + (1 : Int32))] σ).bind fun r1 => (if v1 = (15 : Int32) then ((C 81 [.ref 12, .int v2] r1.2).bind fun r10 => some (r10.1, r10.2)) else (if v1 = (16 : Int32) then ((C 82 [.ref 12, .int v2] r1.2).bind fun r9 => some (r9.1, r9.2)) else (if v1 = (17 : Int32) then ((C 83 [.ref 12, .int (0 : Int32)] r1.2).bind fun r8 => some (r8.1, r8.2)) else (if v1 = (18 : Int32) then ((C 83 [.ref 12, .int (r1.2 12 4)] r1.2).bind fun r7 => some (r7.1, r7.2)) else (if v1 = (19 : Int32) then ((C 26 [.ref 5, .ref 13] r1.2).bind fun r6 => (if r6.1 = 0 then some ((255 : Int32), r6.2) else some ((0 : Int32), r6.2))) else (if v1 = (20 : Int32) then ((C 85 [.ref 12, .int v2] r1.2).bind fun r5 => some (r5.1, r5.2)) else (if v1 = (21 : Int32) then ((C 87 [.ref 12, .int v2] r1.2).bind fun r4 => some (r4.1, r4.2)) else (if v1 = (22 : Int32) then ((C 88 [.ref 12, .int v2] r1.2).bind fun r3 => some (r3.1, r3.2)) else (if v1 = (23 : Int32) then ((C 89 [.ref 12, .int v2] r1.2).bind fun r2 => some (r2.1, r2.2)) else some ((0 : Int32), r1.2))))))))))) := rfl
-- DeskMachine.showText(I)V (0,)
set_option maxRecDepth 100000 in
set_option maxHeartbeats 4000000 in
theorem e91_0 (C : xC) (k : xK) (v1 : Int32) (σ : xS) : x_b x_i91 C k 0 [(0, .ref 0), (1, .int v1)] [] σ = k 2 [(0, .ref 0), (1, .int v1), (2, .int (0 : Int32))] [] σ := rfl
set_option maxRecDepth 100000 in
set_option maxHeartbeats 4000000 in
theorem e91_2 (C : xC) (k : xK) (v1 v2 : Int32) (σ : xS) : x_b x_i91 C k 2 [(0, .ref 0), (1, .int v1), (2, .int v2)] [] σ = (if (64 : Int32) ≤ v2 then some (0, σ) else ((C 33 [.ref 1, .int (v1 + v2)] σ).bind fun r1 => (if r1.1 = (36 : Int32) then some (0, r1.2) else ((C 14 [.ref 10, .int r1.1] r1.2).bind fun r2 => k 2 [(0, .ref 0), (1, .int v1), (2, .int (v2 + (1 : Int32)))] [] r2.2)))) := rfl
-- DeskMachine.answerCall(II)I (0,)
set_option maxRecDepth 100000 in
set_option maxHeartbeats 4000000 in
theorem e92_0 (C : xC) (k : xK) (v1 v2 : Int32) (σ : xS) : x_b x_i92 C k 0 [(0, .ref 0), (1, .int v1), (2, .int v2)] [] σ = (if v1 = (1 : Int32) then ((C 6 [.ref 8] σ).bind fun r4 => some (r4.1, r4.2)) else (if v1 = (2 : Int32) then ((C 14 [.ref 10, .int (v2 &&& (255 : Int32))] σ).bind fun r3 => some ((0 : Int32), r3.2)) else (if v1 = (9 : Int32) then ((C 91 [.ref 0, .int v2] σ).bind fun r2 => some ((0 : Int32), r2.2)) else (if v1 = (11 : Int32) then ((C 5 [.ref 8] σ).bind fun r1 => (if r1.1 = 0 then some ((255 : Int32), r1.2) else some ((0 : Int32), r1.2))) else (if v1 = (26 : Int32) then some ((0 : Int32), (x_up σ 12 3 v2)) else some ((0 : Int32), σ)))))) := rfl
-- DeskMachine.callSystem()V (0,)
set_option maxRecDepth 100000 in
set_option maxHeartbeats 4000000 in
theorem e93_0 (C : xC) (k : xK) (σ : xS) : x_b x_i93 C k 0 [(0, .ref 0)] [] σ = (if (σ 4 1) = 0 then some (0, (x_up σ 0 7 (0 : Int32))) else ((C 50 [.ref 3, .int (1 : Int32)] (x_up σ 0 7 (1 : Int32))).bind fun r1 => (if (σ 4 1) < (15 : Int32) then (if (0 : Int32) = 0 then ((C 92 [.ref 0, .int (σ 4 1), .int r1.1] r1.2).bind fun r2 => ((C 70 [.ref 3] (x_up r2.2 4 7 r2.1)).bind fun r3 => some (0, (x_up r3.2 3 3 r3.1)))) else ((C 90 [.ref 12, .int (σ 4 1), .int r1.1] r1.2).bind fun r4 => ((C 70 [.ref 3] (x_up r4.2 4 7 r4.1)).bind fun r5 => some (0, (x_up r5.2 3 3 r5.1))))) else (if (23 : Int32) < (σ 4 1) then (if (0 : Int32) = 0 then ((C 92 [.ref 0, .int (σ 4 1), .int r1.1] r1.2).bind fun r6 => ((C 70 [.ref 3] (x_up r6.2 4 7 r6.1)).bind fun r7 => some (0, (x_up r7.2 3 3 r7.1)))) else ((C 90 [.ref 12, .int (σ 4 1), .int r1.1] r1.2).bind fun r8 => ((C 70 [.ref 3] (x_up r8.2 4 7 r8.1)).bind fun r9 => some (0, (x_up r9.2 3 3 r9.1))))) else (if (1 : Int32) = 0 then ((C 92 [.ref 0, .int (σ 4 1), .int r1.1] r1.2).bind fun r10 => ((C 70 [.ref 3] (x_up r10.2 4 7 r10.1)).bind fun r11 => some (0, (x_up r11.2 3 3 r11.1)))) else ((C 90 [.ref 12, .int (σ 4 1), .int r1.1] r1.2).bind fun r12 => ((C 70 [.ref 3] (x_up r12.2 4 7 r12.1)).bind fun r13 => some (0, (x_up r13.2 3 3 r13.1))))))))) := rfl
-- DeskMachine.stepOfProgram()Z (0,)
set_option maxRecDepth 100000 in
set_option maxHeartbeats 4000000 in
theorem e94_0 (C : xC) (k : xK) (σ : xS) : x_b x_i94 C k 0 [(0, .ref 0)] [] σ = (if (σ 3 3) = (5 : Int32) then (if (σ 4 1) = (1 : Int32) then ((C 5 [.ref 8] σ).bind fun r2 => (if r2.1 = 0 then ((C 93 [.ref 0] r2.2).bind fun r3 => (if (r3.2 3 3) = 0 then some ((1 : Int32), (x_up r3.2 0 7 (0 : Int32))) else some ((1 : Int32), r3.2))) else some ((0 : Int32), (x_up r2.2 0 7 (2 : Int32))))) else ((C 93 [.ref 0] σ).bind fun r1 => (if (r1.2 3 3) = 0 then some ((1 : Int32), (x_up r1.2 0 7 (0 : Int32))) else some ((1 : Int32), r1.2)))) else ((C 78 [.ref 3] σ).bind fun r4 => (if r4.1 = 0 then (if ((x_up r4.2 0 7 (0 : Int32)) 3 3) = 0 then some ((1 : Int32), (x_up (x_up r4.2 0 7 (0 : Int32)) 0 7 (0 : Int32))) else some ((1 : Int32), (x_up r4.2 0 7 (0 : Int32)))) else (if ((x_up r4.2 0 7 (1 : Int32)) 3 3) = 0 then some ((1 : Int32), (x_up (x_up r4.2 0 7 (1 : Int32)) 0 7 (0 : Int32))) else some ((1 : Int32), (x_up r4.2 0 7 (1 : Int32))))))) := rfl
-- DeskMachine.run(I)I (0,)
set_option maxRecDepth 100000 in
set_option maxHeartbeats 4000000 in
theorem e95_0 (C : xC) (k : xK) (v1 : Int32) (σ : xS) : x_b x_i95 C k 0 [(0, .ref 0), (1, .int v1)] [] σ = (if v1 < (1 : Int32) then none else (if v1 ≤ (1000 : Int32) then k 22 [(0, .ref 0), (1, .int v1), (2, .int (0 : Int32))] [] σ else none)) := rfl
set_option maxRecDepth 100000 in
set_option maxHeartbeats 4000000 in
theorem e95_22 (C : xC) (k : xK) (v1 v2 : Int32) (σ : xS) : x_b x_i95 C k 22 [(0, .ref 0), (1, .int v1), (2, .int v2)] [] σ = (if v1 ≤ v2 then some (v1, σ) else (if (σ 0 7) = 0 then ((C 46 [.ref 0] σ).bind fun r2 => (if r2.1 = 0 then some (v2, r2.2) else k 22 [(0, .ref 0), (1, .int v1), (2, .int (v2 + (1 : Int32)))] [] (x_up r2.2 0 8 ((r2.2 0 8) + (1 : Int32))))) else ((C 94 [.ref 0] σ).bind fun r1 => (if r1.1 = 0 then some (v2, r1.2) else k 22 [(0, .ref 0), (1, .int v1), (2, .int (v2 + (1 : Int32)))] [] (x_up r1.2 0 8 ((r1.2 0 8) + (1 : Int32))))))) := rfl
-- DeskMachine.isAddress(I)Z ()
set_option maxRecDepth 100000 in
set_option maxHeartbeats 4000000 in
theorem e96_0 (C : xC) (k : xK) (v0 : Int32) (σ : xS) : x_b x_i96 C k 0 [(0, .int v0)] [] σ = (if v0 < 0 then some ((0 : Int32), σ) else (if (512 : Int32) ≤ v0 then some ((0 : Int32), σ) else some ((1 : Int32), σ))) := rfl
-- DeskMachine.poke(II)Z (0,)
set_option maxRecDepth 100000 in
set_option maxHeartbeats 4000000 in
theorem e97_0 (C : xC) (k : xK) (v1 v2 : Int32) (σ : xS) : x_b x_i97 C k 0 [(0, .ref 0), (1, .int v1), (2, .int v2)] [] σ = ((C 96 [.int v1] σ).bind fun r1 => (if r1.1 = 0 then none else ((C 0 [.int v2] r1.2).bind fun r2 => (if r2.1 = 0 then none else ((C 37 [.ref 1, .int v1, .int v2] r2.2).bind fun r3 => some ((1 : Int32), r3.2)))))) := rfl
-- DeskMachine.peek(I)I (0,)
set_option maxRecDepth 100000 in
set_option maxHeartbeats 4000000 in
theorem e98_0 (C : xC) (k : xK) (v1 : Int32) (σ : xS) : x_b x_i98 C k 0 [(0, .ref 0), (1, .int v1)] [] σ = ((C 96 [.int v1] σ).bind fun r1 => (if r1.1 = 0 then none else ((C 33 [.ref 1, .int v1] r1.2).bind fun r2 => some (r2.1, r2.2)))) := rfl
-- DeskMachine.isPlaceOnDisk(II)Z ()
set_option maxRecDepth 100000 in
set_option maxHeartbeats 4000000 in
theorem e99_0 (C : xC) (k : xK) (v0 v1 : Int32) (σ : xS) : x_b x_i99 C k 0 [(0, .int v0), (1, .int v1)] [] σ = (if v0 < 0 then some ((0 : Int32), σ) else (if (32 : Int32) ≤ v0 then some ((0 : Int32), σ) else (if v1 < 0 then some ((0 : Int32), σ) else (if (16 : Int32) ≤ v1 then some ((0 : Int32), σ) else some ((1 : Int32), σ))))) := rfl
-- DeskMachine.disk(II)I (0,)
set_option maxRecDepth 100000 in
set_option maxHeartbeats 4000000 in
theorem e100_0 (C : xC) (k : xK) (v1 v2 : Int32) (σ : xS) : x_b x_i100 C k 0 [(0, .ref 0), (1, .int v1), (2, .int v2)] [] σ = ((C 99 [.int v1, .int v2] σ).bind fun r1 => (if r1.1 = 0 then none else ((C 13 [.ref 5, .int v1, .int v2] r1.2).bind fun r2 => some (r2.1, r2.2)))) := rfl
-- DeskMachine.burn(III)Z (0,)
set_option maxRecDepth 100000 in
set_option maxHeartbeats 4000000 in
theorem e101_0 (C : xC) (k : xK) (v1 v2 v3 : Int32) (σ : xS) : x_b x_i101 C k 0 [(0, .ref 0), (1, .int v1), (2, .int v2), (3, .int v3)] [] σ = ((C 99 [.int v1, .int v2] σ).bind fun r1 => (if r1.1 = 0 then none else ((C 0 [.int v3] r1.2).bind fun r2 => (if r2.1 = 0 then none else ((C 24 [.ref 5, .int v1, .int v2, .int v3] r2.2).bind fun r3 => some ((1 : Int32), r3.2)))))) := rfl
-- DeskMachine$Screen.last(I)I (10,)
set_option maxRecDepth 100000 in
set_option maxHeartbeats 4000000 in
theorem e102_0 (C : xC) (k : xK) (v1 : Int32) (σ : xS) : x_b x_i102 C k 0 [(0, .ref 10), (1, .int v1)] [] σ = (if v1 < 0 then some ((-1 : Int32), σ) else (if (64 : Int32) ≤ v1 then some ((-1 : Int32), σ) else (if v1 < (σ 10 1) then (if ((((σ 10 1) - (1 : Int32)) - v1) &&& (63 : Int32)) < 0 ∨ 64 ≤ ((((σ 10 1) - (1 : Int32)) - v1) &&& (63 : Int32)).toNatClampNeg then none else some ((σ 11 ((((σ 10 1) - (1 : Int32)) - v1) &&& (63 : Int32)).toNatClampNeg), σ)) else some ((-1 : Int32), σ)))) := rfl
-- DeskMachine.shown(I)I (0,)
set_option maxRecDepth 100000 in
set_option maxHeartbeats 4000000 in
theorem e103_0 (C : xC) (k : xK) (v1 : Int32) (σ : xS) : x_b x_i103 C k 0 [(0, .ref 0), (1, .int v1)] [] σ = ((C 102 [.ref 10, .int v1] σ).bind fun r1 => some (r1.1, r1.2)) := rfl
-- DeskMachine.register(I)I (0,)
set_option maxRecDepth 100000 in
set_option maxHeartbeats 4000000 in
theorem e104_0 (C : xC) (k : xK) (v1 : Int32) (σ : xS) : x_b x_i104 C k 0 [(0, .ref 0), (1, .int v1)] [] σ = (if v1 = (6 : Int32) then ((C 75 [.ref 3] σ).bind fun r1 => some (r1.1, r1.2)) else (if v1 = (7 : Int32) then (if v1 < 0 then some ((-1 : Int32), σ) else (if (8 : Int32) ≤ v1 then some ((-1 : Int32), σ) else (if v1 < 0 ∨ 8 ≤ v1.toNatClampNeg then none else some ((σ 4 v1.toNatClampNeg), σ)))) else (if v1 = (8 : Int32) then some ((σ 3 2), σ) else (if v1 = (9 : Int32) then some ((σ 3 3), σ) else (if v1 = (10 : Int32) then some ((σ 12 3), σ) else (if v1 < 0 then some ((-1 : Int32), σ) else (if (8 : Int32) ≤ v1 then some ((-1 : Int32), σ) else (if v1 < 0 ∨ 8 ≤ v1.toNatClampNeg then none else some ((σ 4 v1.toNatClampNeg), σ))))))))) := rfl
-- DeskMachine.about(I)I (0,)
set_option maxRecDepth 100000 in
set_option maxHeartbeats 4000000 in
theorem e105_0 (C : xC) (k : xK) (v1 : Int32) (σ : xS) : x_b x_i105 C k 0 [(0, .ref 0), (1, .int v1)] [] σ = (if v1 = (0 : Int32) then some ((σ 0 7), σ) else (if v1 = (1 : Int32) then ((C 3 [.ref 8] σ).bind fun r1 => some (r1.1, r1.2)) else (if v1 = (2 : Int32) then some ((σ 10 1), σ) else (if v1 = (3 : Int32) then some ((σ 0 8), σ) else (if v1 = (4 : Int32) then some ((σ 14 7), σ) else some ((-1 : Int32), σ)))))) := rfl
-- DeskMachineModel.key(I)I (19,)
set_option maxRecDepth 100000 in
set_option maxHeartbeats 4000000 in
theorem e106_0 (C : xC) (k : xK) (v1 : Int32) (σ : xS) : x_b x_i106 C k 0 [(0, .ref 19), (1, .int v1)] [] σ = (if v1 < 0 then k 30 [(0, .ref 19), (1, .int v1)] [.int (1 : Int32), .ref 19] σ else (if v1 ≤ (255 : Int32) then (if (σ 19 13) = (40 : Int32) then k 30 [(0, .ref 19), (1, .int v1)] [.int (2 : Int32), .ref 19] σ else k 30 [(0, .ref 19), (1, .int v1)] [.int (0 : Int32), .ref 19] σ) else k 30 [(0, .ref 19), (1, .int v1)] [.int (1 : Int32), .ref 19] σ)) := rfl
set_option maxRecDepth 100000 in
set_option maxHeartbeats 4000000 in
theorem e106_30 (C : xC) (k : xK) (v1 s0 : Int32) (σ : xS) : x_b x_i106 C k 30 [(0, .ref 19), (1, .int v1)] [.int s0, .ref 19] σ = (if ((x_up σ 19 0 s0) 19 0) = 0 then (if ((x_up σ 19 0 s0) 19 13) < 0 ∨ 40 ≤ ((x_up σ 19 0 s0) 19 13).toNatClampNeg then none else some (((x_up (x_up (x_up σ 19 0 s0) 23 (((x_up σ 19 0 s0) 19 13).toNatClampNeg) v1) 19 13 (((x_up (x_up σ 19 0 s0) 23 (((x_up σ 19 0 s0) 19 13).toNatClampNeg) v1) 19 13) + (1 : Int32))) 19 13), (x_up (x_up (x_up σ 19 0 s0) 23 (((x_up σ 19 0 s0) 19 13).toNatClampNeg) v1) 19 13 (((x_up (x_up σ 19 0 s0) 23 (((x_up σ 19 0 s0) 19 13).toNatClampNeg) v1) 19 13) + (1 : Int32))))) else some (((x_up σ 19 0 s0) 19 13), (x_up σ 19 0 s0))) := rfl
-- DeskMachineModel.takeKey()I (19,)
set_option maxRecDepth 100000 in
set_option maxHeartbeats 4000000 in
theorem e107_0 (C : xC) (k : xK) (σ : xS) : x_b x_i107 C k 0 [(0, .ref 19)] [] σ = k 19 [(0, .ref 19), (1, .int (σ 23 0)), (2, .int (0 : Int32))] [] (x_up σ 19 13 ((σ 19 13) - (1 : Int32))) := rfl
set_option maxRecDepth 100000 in
set_option maxHeartbeats 4000000 in
theorem e107_19 (C : xC) (k : xK) (v1 v2 : Int32) (σ : xS) : x_b x_i107 C k 19 [(0, .ref 19), (1, .int v1), (2, .int v2)] [] σ = (if (σ 19 13) ≤ v2 then some (v1, σ) else (if (v2 + (1 : Int32)) < 0 ∨ 40 ≤ (v2 + (1 : Int32)).toNatClampNeg then none else (if v2 < 0 ∨ 40 ≤ v2.toNatClampNeg then none else k 19 [(0, .ref 19), (1, .int v1), (2, .int (v2 + (1 : Int32)))] [] (x_up σ 23 (v2.toNatClampNeg) (σ 23 (v2 + (1 : Int32)).toNatClampNeg))))) := rfl
-- DeskMachineModel.begins(I)I (19,)
set_option maxRecDepth 100000 in
set_option maxHeartbeats 4000000 in
theorem e108_0 (C : xC) (k : xK) (v1 : Int32) (σ : xS) : x_b x_i108 C k 0 [(0, .ref 19), (1, .int v1)] [] σ = k 4 [(0, .ref 19), (1, .int v1), (2, .int (0 : Int32)), (3, .int (0 : Int32))] [] σ := rfl
set_option maxRecDepth 100000 in
set_option maxHeartbeats 4000000 in
theorem e108_4 (C : xC) (k : xK) (v1 v2 v3 : Int32) (σ : xS) : x_b x_i108 C k 4 [(0, .ref 19), (1, .int v1), (2, .int v2), (3, .int v3)] [] σ = (if v1 < v3 then some (v2, σ) else k 9 [(0, .ref 19), (1, .int v1), (2, .int v2), (3, .int v3)] [] σ) := rfl
set_option maxRecDepth 100000 in
set_option maxHeartbeats 4000000 in
theorem e108_9 (C : xC) (k : xK) (v1 v2 v3 : Int32) (σ : xS) : x_b x_i108 C k 9 [(0, .ref 19), (1, .int v1), (2, .int v2), (3, .int v3)] [] σ = (if v3 ≤ 0 then k 38 [(0, .ref 19), (1, .int v1), (2, .int v2), (3, .int v3)] [] σ else (if (σ 19 15) ≤ v2 then k 38 [(0, .ref 19), (1, .int v1), (2, .int v2), (3, .int v3)] [] σ else (if v2 < 0 ∨ 20 ≤ v2.toNatClampNeg then none else (if (σ 24 v2.toNatClampNeg) = (32 : Int32) then k 38 [(0, .ref 19), (1, .int v1), (2, .int v2), (3, .int v3)] [] σ else k 9 [(0, .ref 19), (1, .int v1), (2, .int (v2 + (1 : Int32))), (3, .int v3)] [] σ)))) := rfl
set_option maxRecDepth 100000 in
set_option maxHeartbeats 4000000 in
theorem e108_38 (C : xC) (k : xK) (v1 v2 v3 : Int32) (σ : xS) : x_b x_i108 C k 38 [(0, .ref 19), (1, .int v1), (2, .int v2), (3, .int v3)] [] σ = (if (σ 19 15) ≤ v2 then k 4 [(0, .ref 19), (1, .int v1), (2, .int v2), (3, .int (v3 + (1 : Int32)))] [] σ else (if v2 < 0 ∨ 20 ≤ v2.toNatClampNeg then none else (if (σ 24 v2.toNatClampNeg) = (32 : Int32) then k 38 [(0, .ref 19), (1, .int v1), (2, .int (v2 + (1 : Int32))), (3, .int v3)] [] σ else k 4 [(0, .ref 19), (1, .int v1), (2, .int v2), (3, .int (v3 + (1 : Int32)))] [] σ))) := rfl
-- DeskMachineModel.there(I)Z (19,)
set_option maxRecDepth 100000 in
set_option maxHeartbeats 4000000 in
theorem e109_0 (C : xC) (k : xK) (v1 : Int32) (σ : xS) : x_b x_i109 C k 0 [(0, .ref 19), (1, .int v1)] [] σ = ((C 108 [.ref 19, .int v1] σ).bind fun r1 => (if (r1.2 19 15) ≤ r1.1 then some ((0 : Int32), r1.2) else some ((1 : Int32), r1.2))) := rfl
-- DeskMachineModel.character(II)I (19,)
set_option maxRecDepth 100000 in
set_option maxHeartbeats 4000000 in
theorem e110_0 (C : xC) (k : xK) (v1 v2 : Int32) (σ : xS) : x_b x_i110 C k 0 [(0, .ref 19), (1, .int v1), (2, .int v2)] [] σ = ((C 108 [.ref 19, .int v1] σ).bind fun r1 => k 9 [(0, .ref 19), (2, .int v2), (3, .int r1.1), (4, .int (0 : Int32))] [] r1.2) := rfl
set_option maxRecDepth 100000 in
set_option maxHeartbeats 4000000 in
theorem e110_9 (C : xC) (k : xK) (v2 v3 v4 : Int32) (σ : xS) : x_b x_i110 C k 9 [(0, .ref 19), (2, .int v2), (3, .int v3), (4, .int v4)] [] σ = (if v2 ≤ v4 then (if (σ 19 15) ≤ v3 then some ((32 : Int32), σ) else (if v3 < 0 ∨ 20 ≤ v3.toNatClampNeg then none else some ((σ 24 v3.toNatClampNeg), σ))) else (if (σ 19 15) ≤ v3 then (if (σ 19 15) ≤ v3 then some ((32 : Int32), σ) else (if v3 < 0 ∨ 20 ≤ v3.toNatClampNeg then none else some ((σ 24 v3.toNatClampNeg), σ))) else (if v3 < 0 ∨ 20 ≤ v3.toNatClampNeg then none else (if (σ 24 v3.toNatClampNeg) = (32 : Int32) then (if (σ 19 15) ≤ v3 then some ((32 : Int32), σ) else (if v3 < 0 ∨ 20 ≤ v3.toNatClampNeg then none else some ((σ 24 v3.toNatClampNeg), σ))) else k 9 [(0, .ref 19), (2, .int v2), (3, .int (v3 + (1 : Int32))), (4, .int (v4 + (1 : Int32)))] [] σ)))) := rfl
-- DeskMachineModel.isWord(IIII)Z (19,)
set_option maxRecDepth 100000 in
set_option maxHeartbeats 4000000 in
theorem e111_0 (C : xC) (k : xK) (v1 v2 v3 v4 : Int32) (σ : xS) : x_b x_i111 C k 0 [(0, .ref 19), (1, .int v1), (2, .int v2), (3, .int v3), (4, .int v4)] [] σ = ((C 110 [.ref 19, .int (0 : Int32), .int (0 : Int32)] σ).bind fun r1 => (if r1.1 = v1 then ((C 110 [.ref 19, .int (0 : Int32), .int (1 : Int32)] r1.2).bind fun r2 => (if r2.1 = v2 then ((C 110 [.ref 19, .int (0 : Int32), .int (2 : Int32)] r2.2).bind fun r3 => (if r3.1 = v3 then ((C 110 [.ref 19, .int (0 : Int32), .int (3 : Int32)] r3.2).bind fun r4 => (if r4.1 = v4 then ((C 110 [.ref 19, .int (0 : Int32), .int (4 : Int32)] r4.2).bind fun r5 => (if r5.1 = (32 : Int32) then some ((1 : Int32), r5.2) else some ((0 : Int32), r5.2))) else some ((0 : Int32), r4.2))) else some ((0 : Int32), r3.2))) else some ((0 : Int32), r2.2))) else some ((0 : Int32), r1.2))) := rfl
-- DeskMachineModel.isFree(I)Z (19,)
set_option maxRecDepth 100000 in
set_option maxHeartbeats 4000000 in
theorem e112_0 (C : xC) (k : xK) (v1 : Int32) (σ : xS) : x_b x_i112 C k 0 [(0, .ref 19), (1, .int v1)] [] σ = (if ((16 : Int32) * v1) < 0 ∨ 512 ≤ ((16 : Int32) * v1).toNatClampNeg then none else (if (σ 21 ((16 : Int32) * v1).toNatClampNeg) = (229 : Int32) then some ((1 : Int32), σ) else some ((0 : Int32), σ))) := rfl
-- DeskMachineModel.show(I)V (19,)
set_option maxRecDepth 100000 in
set_option maxHeartbeats 4000000 in
theorem e113_0 (C : xC) (k : xK) (v1 : Int32) (σ : xS) : x_b x_i113 C k 0 [(0, .ref 19), (1, .int v1)] [] σ = (if ((σ 19 17) - (σ 19 17) / (64 : Int32) * (64 : Int32)) < 0 ∨ 64 ≤ ((σ 19 17) - (σ 19 17) / (64 : Int32) * (64 : Int32)).toNatClampNeg then none else some (0, (x_up (x_up σ 25 (((σ 19 17) - (σ 19 17) / (64 : Int32) * (64 : Int32)).toNatClampNeg) v1) 19 17 (((x_up σ 25 (((σ 19 17) - (σ 19 17) / (64 : Int32) * (64 : Int32)).toNatClampNeg) v1) 19 17) + (1 : Int32))))) := rfl
-- DeskMachineModel.lists()V (19,)
set_option maxRecDepth 100000 in
set_option maxHeartbeats 4000000 in
theorem e114_0 (C : xC) (k : xK) (σ : xS) : x_b x_i114 C k 0 [(0, .ref 19)] [] σ = k 2 [(0, .ref 19), (1, .int (0 : Int32))] [] σ := rfl
set_option maxRecDepth 100000 in
set_option maxHeartbeats 4000000 in
theorem e114_2 (C : xC) (k : xK) (v1 : Int32) (σ : xS) : x_b x_i114 C k 2 [(0, .ref 19), (1, .int v1)] [] σ = (if (8 : Int32) ≤ v1 then some (0, σ) else k 10 [(0, .ref 19), (1, .int v1), (2, .int (1 : Int32))] [] σ) := rfl
set_option maxRecDepth 100000 in
set_option maxHeartbeats 4000000 in
theorem e114_10 (C : xC) (k : xK) (v1 v2 : Int32) (σ : xS) : x_b x_i114 C k 10 [(0, .ref 19), (1, .int v1), (2, .int v2)] [] σ = (if (6 : Int32) ≤ v2 then k 2 [(0, .ref 19), (1, .int (v1 + (1 : Int32)))] [] σ else ((C 112 [.ref 19, .int v1] σ).bind fun r1 => (if r1.1 = 0 then (if (5 : Int32) ≤ v2 then ((C 113 [.ref 19, .int (32 : Int32)] r1.2).bind fun r2 => k 10 [(0, .ref 19), (1, .int v1), (2, .int (v2 + (1 : Int32)))] [] r2.2) else (if (((16 : Int32) * v1) + v2) < 0 ∨ 512 ≤ (((16 : Int32) * v1) + v2).toNatClampNeg then none else ((C 113 [.ref 19, .int (r1.2 21 (((16 : Int32) * v1) + v2).toNatClampNeg)] r1.2).bind fun r3 => k 10 [(0, .ref 19), (1, .int v1), (2, .int (v2 + (1 : Int32)))] [] r3.2))) else k 2 [(0, .ref 19), (1, .int (v1 + (1 : Int32)))] [] r1.2))) := rfl
-- DeskMachineModel.nameOf(I)V (19,)
set_option maxRecDepth 100000 in
set_option maxHeartbeats 4000000 in
theorem e115_0 (C : xC) (k : xK) (v1 : Int32) (σ : xS) : x_b x_i115 C k 0 [(0, .ref 19), (1, .int v1)] [] σ = k 2 [(0, .ref 19), (1, .int v1), (2, .int (0 : Int32))] [] σ := rfl
set_option maxRecDepth 100000 in
set_option maxHeartbeats 4000000 in
theorem e115_2 (C : xC) (k : xK) (v1 v2 : Int32) (σ : xS) : x_b x_i115 C k 2 [(0, .ref 19), (1, .int v1), (2, .int v2)] [] σ = (if (4 : Int32) ≤ v2 then some (0, σ) else ((C 110 [.ref 19, .int v1, .int v2] σ).bind fun r1 => (if v2 < 0 ∨ 4 ≤ v2.toNatClampNeg then none else k 2 [(0, .ref 19), (1, .int v1), (2, .int (v2 + (1 : Int32)))] [] (x_up r1.2 26 (v2.toNatClampNeg) r1.1)))) := rfl
-- DeskMachineModel.find(IZ)I (19,)
set_option maxRecDepth 100000 in
set_option maxHeartbeats 4000000 in
theorem e116_0 (C : xC) (k : xK) (v1 v2 : Int32) (σ : xS) : x_b x_i116 C k 0 [(0, .ref 19), (1, .int v1), (2, .int v2)] [] σ = k 2 [(0, .ref 19), (2, .int v2), (3, .int v1)] [] σ := rfl
set_option maxRecDepth 100000 in
set_option maxHeartbeats 4000000 in
theorem e116_2 (C : xC) (k : xK) (v2 v3 : Int32) (σ : xS) : x_b x_i116 C k 2 [(0, .ref 19), (2, .int v2), (3, .int v3)] [] σ = (if (8 : Int32) ≤ v3 then some ((-1 : Int32), σ) else ((C 112 [.ref 19, .int v3] σ).bind fun r1 => (if r1.1 = 0 then k 26 [(0, .ref 19), (2, .int v2), (3, .int v3), (4, .int (1 : Int32)), (5, .int (0 : Int32))] [] r1.2 else k 26 [(0, .ref 19), (2, .int v2), (3, .int v3), (4, .int (0 : Int32)), (5, .int (0 : Int32))] [] r1.2))) := rfl
set_option maxRecDepth 100000 in
set_option maxHeartbeats 4000000 in
theorem e116_26 (C : xC) (k : xK) (v2 v3 v4 v5 : Int32) (σ : xS) : x_b x_i116 C k 26 [(0, .ref 19), (2, .int v2), (3, .int v3), (4, .int v4), (5, .int v5)] [] σ = (if (4 : Int32) ≤ v5 then (if v4 = 0 then k 2 [(0, .ref 19), (2, .int v2), (3, .int (v3 + (1 : Int32)))] [] σ else some (v3, σ)) else (if v4 = 0 then k 26 [(0, .ref 19), (2, .int v2), (3, .int v3), (4, .int (0 : Int32)), (5, .int (v5 + (1 : Int32)))] [] σ else (if ((((16 : Int32) * v3) + (1 : Int32)) + v5) < 0 ∨ 512 ≤ ((((16 : Int32) * v3) + (1 : Int32)) + v5).toNatClampNeg then none else (if v5 < 0 ∨ 4 ≤ v5.toNatClampNeg then none else (if (σ 21 ((((16 : Int32) * v3) + (1 : Int32)) + v5).toNatClampNeg) = (σ 26 v5.toNatClampNeg) then k 26 [(0, .ref 19), (2, .int v2), (3, .int v3), (4, .int (1 : Int32)), (5, .int (v5 + (1 : Int32)))] [] σ else (if v2 = 0 then k 26 [(0, .ref 19), (2, .int v2), (3, .int v3), (4, .int (0 : Int32)), (5, .int (v5 + (1 : Int32)))] [] σ else (if v5 < 0 ∨ 4 ≤ v5.toNatClampNeg then none else (if (σ 26 v5.toNatClampNeg) = (63 : Int32) then k 26 [(0, .ref 19), (2, .int v2), (3, .int v3), (4, .int (1 : Int32)), (5, .int (v5 + (1 : Int32)))] [] σ else k 26 [(0, .ref 19), (2, .int v2), (3, .int v3), (4, .int (0 : Int32)), (5, .int (v5 + (1 : Int32)))] [] σ)))))))) := rfl
-- DeskMachineModel.erases()I (19,)
set_option maxRecDepth 100000 in
set_option maxHeartbeats 4000000 in
theorem e117_0 (C : xC) (k : xK) (σ : xS) : x_b x_i117 C k 0 [(0, .ref 19)] [] σ = ((C 116 [.ref 19, .int (0 : Int32), .int (1 : Int32)] σ).bind fun r1 => k 9 [(0, .ref 19), (1, .int (0 : Int32)), (2, .int r1.1)] [] r1.2) := rfl
set_option maxRecDepth 100000 in
set_option maxHeartbeats 4000000 in
theorem e117_9 (C : xC) (k : xK) (v1 v2 : Int32) (σ : xS) : x_b x_i117 C k 9 [(0, .ref 19), (1, .int v1), (2, .int v2)] [] σ = (if v2 = (-1 : Int32) then some (v1, σ) else (if ((16 : Int32) * v2) < 0 ∨ 512 ≤ ((16 : Int32) * v2).toNatClampNeg then none else ((C 116 [.ref 19, .int v2, .int (1 : Int32)] (x_up σ 21 (((16 : Int32) * v2).toNatClampNeg) (229 : Int32))).bind fun r1 => k 9 [(0, .ref 19), (1, .int (v1 + (1 : Int32))), (2, .int r1.1)] [] r1.2))) := rfl
-- DeskMachineModel.firstFree()I (19,)
set_option maxRecDepth 100000 in
set_option maxHeartbeats 4000000 in
theorem e118_0 (C : xC) (k : xK) (σ : xS) : x_b x_i118 C k 0 [(0, .ref 19)] [] σ = k 2 [(0, .ref 19), (1, .int (0 : Int32))] [] σ := rfl
set_option maxRecDepth 100000 in
set_option maxHeartbeats 4000000 in
theorem e118_2 (C : xC) (k : xK) (v1 : Int32) (σ : xS) : x_b x_i118 C k 2 [(0, .ref 19), (1, .int v1)] [] σ = (if (8 : Int32) ≤ v1 then some ((-1 : Int32), σ) else ((C 112 [.ref 19, .int v1] σ).bind fun r1 => (if r1.1 = 0 then k 2 [(0, .ref 19), (1, .int (v1 + (1 : Int32)))] [] r1.2 else some (v1, r1.2)))) := rfl
-- DeskMachineModel.makes()I (19,)
set_option maxRecDepth 100000 in
set_option maxHeartbeats 4000000 in
theorem e119_0 (C : xC) (k : xK) (σ : xS) : x_b x_i119 C k 0 [(0, .ref 19)] [] σ = ((C 118 [.ref 19] σ).bind fun r1 => k 7 [(0, .ref 19), (1, .int r1.1), (2, .int (0 : Int32))] [] r1.2) := rfl
set_option maxRecDepth 100000 in
set_option maxHeartbeats 4000000 in
theorem e119_7 (C : xC) (k : xK) (v1 v2 : Int32) (σ : xS) : x_b x_i119 C k 7 [(0, .ref 19), (1, .int v1), (2, .int v2)] [] σ = (if (16 : Int32) ≤ v2 then some (v1, σ) else (if v1 = (-1 : Int32) then some (v1, σ) else (if v2 ≤ 0 then (if (((16 : Int32) * v1) + v2) < 0 ∨ 512 ≤ (((16 : Int32) * v1) + v2).toNatClampNeg then none else k 7 [(0, .ref 19), (1, .int v1), (2, .int (v2 + (1 : Int32)))] [] (x_up σ 21 ((((16 : Int32) * v1) + v2).toNatClampNeg) (0 : Int32))) else (if (5 : Int32) ≤ v2 then (if (((16 : Int32) * v1) + v2) < 0 ∨ 512 ≤ (((16 : Int32) * v1) + v2).toNatClampNeg then none else k 7 [(0, .ref 19), (1, .int v1), (2, .int (v2 + (1 : Int32)))] [] (x_up σ 21 ((((16 : Int32) * v1) + v2).toNatClampNeg) (0 : Int32))) else (if (v2 - (1 : Int32)) < 0 ∨ 4 ≤ (v2 - (1 : Int32)).toNatClampNeg then none else (if (((16 : Int32) * v1) + v2) < 0 ∨ 512 ≤ (((16 : Int32) * v1) + v2).toNatClampNeg then none else k 7 [(0, .ref 19), (1, .int v1), (2, .int (v2 + (1 : Int32)))] [] (x_up σ 21 ((((16 : Int32) * v1) + v2).toNatClampNeg) (σ 26 (v2 - (1 : Int32)).toNatClampNeg)))))))) := rfl
-- DeskMachineModel.least(II)I ()
set_option maxRecDepth 100000 in
set_option maxHeartbeats 4000000 in
theorem e120_0 (C : xC) (k : xK) (v0 v1 : Int32) (σ : xS) : x_b x_i120 C k 0 [(0, .int v0), (1, .int v1)] [] σ = (if v1 ≤ v0 then some (v1, σ) else some (v0, σ)) := rfl
-- DeskMachineModel.used(I)Z (19,)
set_option maxRecDepth 100000 in
set_option maxHeartbeats 4000000 in
theorem e121_0 (C : xC) (k : xK) (v1 : Int32) (σ : xS) : x_b x_i121 C k 0 [(0, .ref 19), (1, .int v1)] [] σ = k 4 [(0, .ref 19), (1, .int v1), (2, .int (0 : Int32)), (3, .int (0 : Int32))] [] σ := rfl
set_option maxRecDepth 100000 in
set_option maxHeartbeats 4000000 in
theorem e121_4 (C : xC) (k : xK) (v1 v2 v3 : Int32) (σ : xS) : x_b x_i121 C k 4 [(0, .ref 19), (1, .int v1), (2, .int v2), (3, .int v3)] [] σ = (if (8 : Int32) ≤ v3 then (if v2 = 0 ∨ v2 = 1 then some (v2, σ) else none) else k 13 [(0, .ref 19), (1, .int v1), (2, .int v2), (3, .int v3), (4, .int (0 : Int32))] [] σ) := rfl
set_option maxRecDepth 100000 in
set_option maxHeartbeats 4000000 in
theorem e121_13 (C : xC) (k : xK) (v1 v2 v3 v4 : Int32) (σ : xS) : x_b x_i121 C k 13 [(0, .ref 19), (1, .int v1), (2, .int v2), (3, .int v3), (4, .int v4)] [] σ = (if (((16 : Int32) * v3) + (5 : Int32)) < 0 ∨ 512 ≤ (((16 : Int32) * v3) + (5 : Int32)).toNatClampNeg then none else ((C 120 [.int (σ 21 (((16 : Int32) * v3) + (5 : Int32)).toNatClampNeg), .int (10 : Int32)] σ).bind fun r1 => (if r1.1 ≤ v4 then k 4 [(0, .ref 19), (1, .int v1), (2, .int v2), (3, .int (v3 + (1 : Int32)))] [] r1.2 else (if v2 = 0 then ((C 112 [.ref 19, .int v3] r1.2).bind fun r2 => (if r2.1 = 0 then (if ((((16 : Int32) * v3) + (6 : Int32)) + v4) < 0 ∨ 512 ≤ ((((16 : Int32) * v3) + (6 : Int32)) + v4).toNatClampNeg then none else (if (r2.2 21 ((((16 : Int32) * v3) + (6 : Int32)) + v4).toNatClampNeg) = v1 then k 13 [(0, .ref 19), (1, .int v1), (2, .int (1 : Int32)), (3, .int v3), (4, .int (v4 + (1 : Int32)))] [] r2.2 else k 13 [(0, .ref 19), (1, .int v1), (2, .int (0 : Int32)), (3, .int v3), (4, .int (v4 + (1 : Int32)))] [] r2.2)) else k 13 [(0, .ref 19), (1, .int v1), (2, .int (0 : Int32)), (3, .int v3), (4, .int (v4 + (1 : Int32)))] [] r2.2)) else k 13 [(0, .ref 19), (1, .int v1), (2, .int (1 : Int32)), (3, .int v3), (4, .int (v4 + (1 : Int32)))] [] r1.2)))) := rfl
-- DeskMachineModel.get(I)I (19,)
set_option maxRecDepth 100000 in
set_option maxHeartbeats 4000000 in
theorem e122_0 (C : xC) (k : xK) (v1 : Int32) (σ : xS) : x_b x_i122 C k 0 [(0, .ref 19), (1, .int v1)] [] σ = (if (v1 &&& (511 : Int32)) < 0 ∨ 512 ≤ (v1 &&& (511 : Int32)).toNatClampNeg then none else some ((σ 20 (v1 &&& (511 : Int32)).toNatClampNeg), σ)) := rfl
-- DeskMachineModel.freeBlock(I)I (19,)
set_option maxRecDepth 100000 in
set_option maxHeartbeats 4000000 in
theorem e123_0 (C : xC) (k : xK) (v1 : Int32) (σ : xS) : x_b x_i123 C k 0 [(0, .ref 19), (1, .int v1)] [] σ = k 3 [(0, .ref 19), (1, .int v1), (2, .int (8 : Int32))] [] σ := rfl
set_option maxRecDepth 100000 in
set_option maxHeartbeats 4000000 in
theorem e123_3 (C : xC) (k : xK) (v1 v2 : Int32) (σ : xS) : x_b x_i123 C k 3 [(0, .ref 19), (1, .int v1), (2, .int v2)] [] σ = (if (32 : Int32) ≤ v2 then some ((-1 : Int32), σ) else ((C 121 [.ref 19, .int v2] σ).bind fun r1 => k 18 [(0, .ref 19), (1, .int v1), (2, .int v2), (3, .int r1.1), (4, .int (0 : Int32))] [] r1.2)) := rfl
set_option maxRecDepth 100000 in
set_option maxHeartbeats 4000000 in
theorem e123_18 (C : xC) (k : xK) (v1 v2 v3 v4 : Int32) (σ : xS) : x_b x_i123 C k 18 [(0, .ref 19), (1, .int v1), (2, .int v2), (3, .int v3), (4, .int v4)] [] σ = (if v1 = (-1 : Int32) then (if v3 = 0 then some (v2, σ) else k 3 [(0, .ref 19), (1, .int v1), (2, .int (v2 + (1 : Int32)))] [] σ) else ((C 122 [.ref 19, .int (v1 + (5 : Int32))] σ).bind fun r1 => ((C 120 [.int r1.1, .int (10 : Int32)] r1.2).bind fun r2 => (if r2.1 ≤ v4 then (if v3 = 0 then some (v2, r2.2) else k 3 [(0, .ref 19), (1, .int v1), (2, .int (v2 + (1 : Int32)))] [] r2.2) else (if v3 = 0 then ((C 122 [.ref 19, .int ((v1 + (6 : Int32)) + v4)] r2.2).bind fun r3 => (if r3.1 = v2 then k 18 [(0, .ref 19), (1, .int v1), (2, .int v2), (3, .int (1 : Int32)), (4, .int (v4 + (1 : Int32)))] [] r3.2 else k 18 [(0, .ref 19), (1, .int v1), (2, .int v2), (3, .int (0 : Int32)), (4, .int (v4 + (1 : Int32)))] [] r3.2)) else k 18 [(0, .ref 19), (1, .int v1), (2, .int v2), (3, .int (1 : Int32)), (4, .int (v4 + (1 : Int32)))] [] r2.2))))) := rfl
-- DeskMachineModel.saves(I)Z (19,)
set_option maxRecDepth 100000 in
set_option maxHeartbeats 4000000 in
theorem e124_0 (C : xC) (k : xK) (v1 : Int32) (σ : xS) : x_b x_i124 C k 0 [(0, .ref 19), (1, .int v1)] [] σ = ((C 116 [.ref 19, .int (0 : Int32), .int (0 : Int32)] σ).bind fun r1 => (if r1.1 = (-1 : Int32) then ((C 119 [.ref 19] r1.2).bind fun r2 => (if r2.1 = (-1 : Int32) then some ((0 : Int32), r2.2) else k 39 [(0, .ref 19), (1, .int v1), (3, .int r2.1), (4, .int (0 : Int32))] [] r2.2)) else (if ((16 : Int32) * r1.1) < 0 ∨ 512 ≤ ((16 : Int32) * r1.1).toNatClampNeg then none else ((C 119 [.ref 19] (x_up r1.2 21 (((16 : Int32) * r1.1).toNatClampNeg) (229 : Int32))).bind fun r3 => (if r3.1 = (-1 : Int32) then some ((0 : Int32), r3.2) else k 39 [(0, .ref 19), (1, .int v1), (3, .int r3.1), (4, .int (0 : Int32))] [] r3.2))))) := rfl
set_option maxRecDepth 100000 in
set_option maxHeartbeats 4000000 in
theorem e124_39 (C : xC) (k : xK) (v1 v3 v4 : Int32) (σ : xS) : x_b x_i124 C k 39 [(0, .ref 19), (1, .int v1), (3, .int v3), (4, .int v4)] [] σ = (if v1 ≤ v4 then some ((1 : Int32), σ) else ((C 123 [.ref 19, .int (-1 : Int32)] σ).bind fun r1 => (if r1.1 = (-1 : Int32) then some ((0 : Int32), r1.2) else (if ((((16 : Int32) * v3) + (6 : Int32)) + v4) < 0 ∨ 512 ≤ ((((16 : Int32) * v3) + (6 : Int32)) + v4).toNatClampNeg then none else (if (((16 : Int32) * v3) + (5 : Int32)) < 0 ∨ 512 ≤ (((16 : Int32) * v3) + (5 : Int32)).toNatClampNeg then none else k 95 [(0, .ref 19), (1, .int v1), (3, .int v3), (4, .int v4), (5, .int r1.1), (6, .int (0 : Int32))] [] (x_up (x_up r1.2 21 (((((16 : Int32) * v3) + (6 : Int32)) + v4).toNatClampNeg) r1.1) 21 ((((16 : Int32) * v3) + (5 : Int32)).toNatClampNeg) (v4 + (1 : Int32)))))))) := rfl
set_option maxRecDepth 100000 in
set_option maxHeartbeats 4000000 in
theorem e124_95 (C : xC) (k : xK) (v1 v3 v4 v5 v6 : Int32) (σ : xS) : x_b x_i124 C k 95 [(0, .ref 19), (1, .int v1), (3, .int v3), (4, .int v4), (5, .int v5), (6, .int v6)] [] σ = (if (16 : Int32) ≤ v6 then k 39 [(0, .ref 19), (1, .int v1), (3, .int v3), (4, .int (v4 + (1 : Int32)))] [] σ else ((C 122 [.ref 19, .int (((256 : Int32) + ((16 : Int32) * v4)) + v6)] σ).bind fun r1 => (if (((16 : Int32) * v5) + v6) < 0 ∨ 512 ≤ (((16 : Int32) * v5) + v6).toNatClampNeg then none else k 95 [(0, .ref 19), (1, .int v1), (3, .int v3), (4, .int v4), (5, .int v5), (6, .int (v6 + (1 : Int32)))] [] (x_up r1.2 21 ((((16 : Int32) * v5) + v6).toNatClampNeg) r1.1)))) := rfl
-- DeskMachineModel.isData(I)Z ()
set_option maxRecDepth 100000 in
set_option maxHeartbeats 4000000 in
theorem e125_0 (C : xC) (k : xK) (v0 : Int32) (σ : xS) : x_b x_i125 C k 0 [(0, .int v0)] [] σ = (if v0 < (8 : Int32) then some ((0 : Int32), σ) else (if (31 : Int32) < v0 then some ((0 : Int32), σ) else some ((1 : Int32), σ))) := rfl
-- DeskMachineModel.types(I)V (19,)
set_option maxRecDepth 100000 in
set_option maxHeartbeats 4000000 in
theorem e126_0 (C : xC) (k : xK) (v1 : Int32) (σ : xS) : x_b x_i126 C k 0 [(0, .ref 19), (1, .int v1)] [] σ = k 4 [(0, .ref 19), (1, .int v1), (2, .int (1 : Int32)), (3, .int (0 : Int32))] [] σ := rfl
set_option maxRecDepth 100000 in
set_option maxHeartbeats 4000000 in
theorem e126_4 (C : xC) (k : xK) (v1 v2 v3 : Int32) (σ : xS) : x_b x_i126 C k 4 [(0, .ref 19), (1, .int v1), (2, .int v2), (3, .int v3)] [] σ = (if (((16 : Int32) * v1) + (5 : Int32)) < 0 ∨ 512 ≤ (((16 : Int32) * v1) + (5 : Int32)).toNatClampNeg then none else ((C 120 [.int (σ 21 (((16 : Int32) * v1) + (5 : Int32)).toNatClampNeg), .int (10 : Int32)] σ).bind fun r1 => (if r1.1 ≤ v3 then some (0, r1.2) else (if ((((16 : Int32) * v1) + (6 : Int32)) + v3) < 0 ∨ 512 ≤ ((((16 : Int32) * v1) + (6 : Int32)) + v3).toNatClampNeg then none else k 43 [(0, .ref 19), (1, .int v1), (2, .int v2), (3, .int v3), (4, .int (r1.2 21 ((((16 : Int32) * v1) + (6 : Int32)) + v3).toNatClampNeg)), (5, .int (0 : Int32))] [] r1.2)))) := rfl
set_option maxRecDepth 100000 in
set_option maxHeartbeats 4000000 in
theorem e126_43 (C : xC) (k : xK) (v1 v2 v3 v4 v5 : Int32) (σ : xS) : x_b x_i126 C k 43 [(0, .ref 19), (1, .int v1), (2, .int v2), (3, .int v3), (4, .int v4), (5, .int v5)] [] σ = (if (16 : Int32) ≤ v5 then k 4 [(0, .ref 19), (1, .int v1), (2, .int v2), (3, .int (v3 + (1 : Int32)))] [] σ else (if v2 = 0 then k 4 [(0, .ref 19), (1, .int v1), (2, .int v2), (3, .int (v3 + (1 : Int32)))] [] σ else ((C 125 [.int v4] σ).bind fun r1 => (if r1.1 = 0 then k 4 [(0, .ref 19), (1, .int v1), (2, .int v2), (3, .int (v3 + (1 : Int32)))] [] r1.2 else (if (((16 : Int32) * v4) + v5) < 0 ∨ 512 ≤ (((16 : Int32) * v4) + v5).toNatClampNeg then none else (if (r1.2 21 (((16 : Int32) * v4) + v5).toNatClampNeg) = (26 : Int32) then (if (0 : Int32) = 0 then k 43 [(0, .ref 19), (1, .int v1), (2, .int (0 : Int32)), (3, .int v3), (4, .int v4), (5, .int (v5 + (1 : Int32)))] [] r1.2 else (if (((16 : Int32) * v4) + v5) < 0 ∨ 512 ≤ (((16 : Int32) * v4) + v5).toNatClampNeg then none else ((C 113 [.ref 19, .int (r1.2 21 (((16 : Int32) * v4) + v5).toNatClampNeg)] r1.2).bind fun r2 => k 43 [(0, .ref 19), (1, .int v1), (2, .int (0 : Int32)), (3, .int v3), (4, .int v4), (5, .int (v5 + (1 : Int32)))] [] r2.2))) else (if (1 : Int32) = 0 then k 43 [(0, .ref 19), (1, .int v1), (2, .int (1 : Int32)), (3, .int v3), (4, .int v4), (5, .int (v5 + (1 : Int32)))] [] r1.2 else (if (((16 : Int32) * v4) + v5) < 0 ∨ 512 ≤ (((16 : Int32) * v4) + v5).toNatClampNeg then none else ((C 113 [.ref 19, .int (r1.2 21 (((16 : Int32) * v4) + v5).toNatClampNeg)] r1.2).bind fun r3 => k 43 [(0, .ref 19), (1, .int v1), (2, .int (1 : Int32)), (3, .int v3), (4, .int v4), (5, .int (v5 + (1 : Int32)))] [] r3.2))))))))) := rfl
-- DeskMachineModel.put(II)V (19,)
set_option maxRecDepth 100000 in
set_option maxHeartbeats 4000000 in
theorem e127_0 (C : xC) (k : xK) (v1 v2 : Int32) (σ : xS) : x_b x_i127 C k 0 [(0, .ref 19), (1, .int v1), (2, .int v2)] [] σ = (if (v1 &&& (511 : Int32)) < 0 ∨ 512 ≤ (v1 &&& (511 : Int32)).toNatClampNeg then none else some (0, (x_up σ 20 ((v1 &&& (511 : Int32)).toNatClampNeg) (v2 &&& (255 : Int32))))) := rfl
-- DeskMachineModel.setFlags(I)V (19,)
set_option maxRecDepth 100000 in
set_option maxHeartbeats 4000000 in
theorem e128_0 (C : xC) (k : xK) (v1 : Int32) (σ : xS) : x_b x_i128 C k 0 [(0, .ref 19), (1, .int v1)] [] σ = some (0, (x_up (x_up (x_up (x_up (x_up σ 19 7 ((v1 >>> ((7 : Int32) &&& 31)) &&& (1 : Int32))) 19 8 ((v1 >>> ((6 : Int32) &&& 31)) &&& (1 : Int32))) 19 10 ((v1 >>> ((4 : Int32) &&& 31)) &&& (1 : Int32))) 19 9 ((v1 >>> ((2 : Int32) &&& 31)) &&& (1 : Int32))) 19 11 (v1 &&& (1 : Int32)))) := rfl
-- DeskMachineModel.putWord(II)V (19,)
set_option maxRecDepth 100000 in
set_option maxHeartbeats 4000000 in
theorem e129_0 (C : xC) (k : xK) (v1 v2 : Int32) (σ : xS) : x_b x_i129 C k 0 [(0, .ref 19), (1, .int v1), (2, .int v2)] [] σ = ((C 127 [.ref 19, .int v1, .int v2] σ).bind fun r1 => ((C 127 [.ref 19, .int (v1 + (1 : Int32)), .int (v2 >>> ((8 : Int32) &&& 31))] r1.2).bind fun r2 => some (0, r2.2))) := rfl
-- DeskMachineModel.push(I)V (19,)
set_option maxRecDepth 100000 in
set_option maxHeartbeats 4000000 in
theorem e130_0 (C : xC) (k : xK) (v1 : Int32) (σ : xS) : x_b x_i130 C k 0 [(0, .ref 19), (1, .int v1)] [] σ = ((C 129 [.ref 19, .int ((x_up σ 19 4 (((σ 19 4) - (2 : Int32)) &&& (Int32.ofNat 65535))) 19 4), .int v1] (x_up σ 19 4 (((σ 19 4) - (2 : Int32)) &&& (Int32.ofNat 65535)))).bind fun r1 => some (0, r1.2)) := rfl
-- DeskMachineModel.loads(I)V (19,)
set_option maxRecDepth 100000 in
set_option maxHeartbeats 4000000 in
theorem e131_0 (C : xC) (k : xK) (v1 : Int32) (σ : xS) : x_b x_i131 C k 0 [(0, .ref 19), (1, .int v1)] [] σ = k 2 [(0, .ref 19), (1, .int v1), (2, .int (0 : Int32))] [] σ := rfl
set_option maxRecDepth 100000 in
set_option maxHeartbeats 4000000 in
theorem e131_2 (C : xC) (k : xK) (v1 v2 : Int32) (σ : xS) : x_b x_i131 C k 2 [(0, .ref 19), (1, .int v1), (2, .int v2)] [] σ = (if (((16 : Int32) * v1) + (5 : Int32)) < 0 ∨ 512 ≤ (((16 : Int32) * v1) + (5 : Int32)).toNatClampNeg then none else ((C 120 [.int (σ 21 (((16 : Int32) * v1) + (5 : Int32)).toNatClampNeg), .int (10 : Int32)] σ).bind fun r1 => (if r1.1 ≤ v2 then k 95 [(0, .ref 19), (2, .int (0 : Int32))] [] r1.2 else (if ((((16 : Int32) * v1) + (6 : Int32)) + v2) < 0 ∨ 512 ≤ ((((16 : Int32) * v1) + (6 : Int32)) + v2).toNatClampNeg then none else k 40 [(0, .ref 19), (1, .int v1), (2, .int v2), (3, .int (r1.2 21 ((((16 : Int32) * v1) + (6 : Int32)) + v2).toNatClampNeg)), (4, .int (0 : Int32))] [] r1.2)))) := rfl
set_option maxRecDepth 100000 in
set_option maxHeartbeats 4000000 in
theorem e131_95 (C : xC) (k : xK) (v2 : Int32) (σ : xS) : x_b x_i131 C k 95 [(0, .ref 19), (2, .int v2)] [] σ = (if (8 : Int32) ≤ v2 then ((C 128 [.ref 19, .int (0 : Int32)] σ).bind fun r1 => ((C 130 [.ref 19, .int (0 : Int32)] (x_up r1.2 19 4 (496 : Int32))).bind fun r2 => some (0, (x_up (x_up (x_up r2.2 19 5 (256 : Int32)) 19 6 (128 : Int32)) 19 12 (1 : Int32))))) else (if v2 < 0 ∨ 8 ≤ v2.toNatClampNeg then none else k 95 [(0, .ref 19), (2, .int (v2 + (1 : Int32)))] [] (x_up σ 22 (v2.toNatClampNeg) (0 : Int32)))) := rfl
set_option maxRecDepth 100000 in
set_option maxHeartbeats 4000000 in
theorem e131_40 (C : xC) (k : xK) (v1 v2 v3 v4 : Int32) (σ : xS) : x_b x_i131 C k 40 [(0, .ref 19), (1, .int v1), (2, .int v2), (3, .int v3), (4, .int v4)] [] σ = (if (16 : Int32) ≤ v4 then k 2 [(0, .ref 19), (1, .int v1), (2, .int (v2 + (1 : Int32)))] [] σ else ((C 125 [.int v3] σ).bind fun r1 => (if r1.1 = 0 then k 2 [(0, .ref 19), (1, .int v1), (2, .int (v2 + (1 : Int32)))] [] r1.2 else (if (((16 : Int32) * v3) + v4) < 0 ∨ 512 ≤ (((16 : Int32) * v3) + v4).toNatClampNeg then none else ((C 127 [.ref 19, .int (((256 : Int32) + ((16 : Int32) * v2)) + v4), .int (r1.2 21 (((16 : Int32) * v3) + v4).toNatClampNeg)] r1.2).bind fun r2 => k 40 [(0, .ref 19), (1, .int v1), (2, .int v2), (3, .int v3), (4, .int (v4 + (1 : Int32)))] [] r2.2))))) := rfl
-- DeskMachineModel.command()Z (19,)
set_option maxRecDepth 100000 in
set_option maxHeartbeats 4000000 in
theorem e132_0 (C : xC) (k : xK) (σ : xS) : x_b x_i132 C k 0 [(0, .ref 19)] [] σ = ((C 109 [.ref 19, .int (0 : Int32)] σ).bind fun r1 => (if r1.1 = 0 then some ((1 : Int32), r1.2) else ((C 111 [.ref 19, .int (76 : Int32), .int (73 : Int32), .int (83 : Int32), .int (84 : Int32)] r1.2).bind fun r2 => (if r2.1 = 0 then ((C 111 [.ref 19, .int (83 : Int32), .int (72 : Int32), .int (79 : Int32), .int (87 : Int32)] r2.2).bind fun r3 => ((C 111 [.ref 19, .int (68 : Int32), .int (82 : Int32), .int (79 : Int32), .int (80 : Int32)] r3.2).bind fun r4 => ((C 111 [.ref 19, .int (67 : Int32), .int (65 : Int32), .int (76 : Int32), .int (76 : Int32)] r4.2).bind fun r5 => ((C 111 [.ref 19, .int (83 : Int32), .int (65 : Int32), .int (86 : Int32), .int (69 : Int32)] r5.2).bind fun r6 => (if r3.1 = 0 then (if r4.1 = 0 then (if r5.1 = 0 then (if r6.1 = 0 then k 119 [(0, .ref 19), (1, .int r3.1), (2, .int r4.1), (3, .int r5.1), (4, .int r6.1)] [] r6.2 else ((C 109 [.ref 19, .int (2 : Int32)] r6.2).bind fun r11 => (if r11.1 = 0 then some ((0 : Int32), r11.2) else k 119 [(0, .ref 19), (1, .int r3.1), (2, .int r4.1), (3, .int r5.1), (4, .int r6.1)] [] r11.2))) else ((C 109 [.ref 19, .int (2 : Int32)] r6.2).bind fun r10 => (if r10.1 = 0 then some ((0 : Int32), r10.2) else k 119 [(0, .ref 19), (1, .int r3.1), (2, .int r4.1), (3, .int r5.1), (4, .int r6.1)] [] r10.2))) else ((C 109 [.ref 19, .int (1 : Int32)] r6.2).bind fun r12 => (if r12.1 = 0 then some ((0 : Int32), r12.2) else (if r5.1 = 0 then (if r6.1 = 0 then k 119 [(0, .ref 19), (1, .int r3.1), (2, .int r4.1), (3, .int r5.1), (4, .int r6.1)] [] r12.2 else ((C 109 [.ref 19, .int (2 : Int32)] r12.2).bind fun r14 => (if r14.1 = 0 then some ((0 : Int32), r14.2) else k 119 [(0, .ref 19), (1, .int r3.1), (2, .int r4.1), (3, .int r5.1), (4, .int r6.1)] [] r14.2))) else ((C 109 [.ref 19, .int (2 : Int32)] r12.2).bind fun r13 => (if r13.1 = 0 then some ((0 : Int32), r13.2) else k 119 [(0, .ref 19), (1, .int r3.1), (2, .int r4.1), (3, .int r5.1), (4, .int r6.1)] [] r13.2)))))) else ((C 109 [.ref 19, .int (1 : Int32)] r6.2).bind fun r7 => (if r7.1 = 0 then some ((0 : Int32), r7.2) else (if r5.1 = 0 then (if r6.1 = 0 then k 119 [(0, .ref 19), (1, .int r3.1), (2, .int r4.1), (3, .int r5.1), (4, .int r6.1)] [] r7.2 else ((C 109 [.ref 19, .int (2 : Int32)] r7.2).bind fun r9 => (if r9.1 = 0 then some ((0 : Int32), r9.2) else k 119 [(0, .ref 19), (1, .int r3.1), (2, .int r4.1), (3, .int r5.1), (4, .int r6.1)] [] r9.2))) else ((C 109 [.ref 19, .int (2 : Int32)] r7.2).bind fun r8 => (if r8.1 = 0 then some ((0 : Int32), r8.2) else k 119 [(0, .ref 19), (1, .int r3.1), (2, .int r4.1), (3, .int r5.1), (4, .int r6.1)] [] r8.2)))))))))) else ((C 114 [.ref 19] r2.2).bind fun r15 => some ((1 : Int32), r15.2)))))) := rfl
set_option maxRecDepth 100000 in
set_option maxHeartbeats 4000000 in
theorem e132_119 (C : xC) (k : xK) (v1 v2 v3 v4 : Int32) (σ : xS) : x_b x_i132 C k 119 [(0, .ref 19), (1, .int v1), (2, .int v2), (3, .int v3), (4, .int v4)] [] σ = (if v2 = 0 then (if v4 = 0 then (if v1 = 0 then (if v3 = 0 then ((C 115 [.ref 19, .int (0 : Int32)] σ).bind fun r6 => ((C 116 [.ref 19, .int (0 : Int32), .int (0 : Int32)] r6.2).bind fun r7 => (if r7.1 = (-1 : Int32) then some ((0 : Int32), r7.2) else (if v1 = 0 then (if v3 = 0 then ((C 131 [.ref 19, .int r7.1] r7.2).bind fun r8 => some ((1 : Int32), r8.2)) else ((C 115 [.ref 19, .int (2 : Int32)] r7.2).bind fun r9 => k 274 [(0, .ref 19), (5, .int r7.1), (6, .int (0 : Int32))] [] r9.2)) else ((C 126 [.ref 19, .int r7.1] r7.2).bind fun r10 => some ((1 : Int32), r10.2)))))) else ((C 115 [.ref 19, .int (1 : Int32)] σ).bind fun r11 => ((C 116 [.ref 19, .int (0 : Int32), .int (0 : Int32)] r11.2).bind fun r12 => (if r12.1 = (-1 : Int32) then some ((0 : Int32), r12.2) else (if v1 = 0 then (if v3 = 0 then ((C 131 [.ref 19, .int r12.1] r12.2).bind fun r13 => some ((1 : Int32), r13.2)) else ((C 115 [.ref 19, .int (2 : Int32)] r12.2).bind fun r14 => k 274 [(0, .ref 19), (5, .int r12.1), (6, .int (0 : Int32))] [] r14.2)) else ((C 126 [.ref 19, .int r12.1] r12.2).bind fun r15 => some ((1 : Int32), r15.2))))))) else ((C 115 [.ref 19, .int (1 : Int32)] σ).bind fun r1 => ((C 116 [.ref 19, .int (0 : Int32), .int (0 : Int32)] r1.2).bind fun r2 => (if r2.1 = (-1 : Int32) then some ((0 : Int32), r2.2) else (if v1 = 0 then (if v3 = 0 then ((C 131 [.ref 19, .int r2.1] r2.2).bind fun r3 => some ((1 : Int32), r3.2)) else ((C 115 [.ref 19, .int (2 : Int32)] r2.2).bind fun r4 => k 274 [(0, .ref 19), (5, .int r2.1), (6, .int (0 : Int32))] [] r4.2)) else ((C 126 [.ref 19, .int r2.1] r2.2).bind fun r5 => some ((1 : Int32), r5.2))))))) else ((C 110 [.ref 19, .int (1 : Int32), .int (0 : Int32)] σ).bind fun r16 => ((C 115 [.ref 19, .int (2 : Int32)] r16.2).bind fun r17 => (if (r16.1 - (48 : Int32)) < 0 then (if (0 : Int32) = 0 then some ((0 : Int32), r17.2) else ((C 124 [.ref 19, .int (r16.1 - (48 : Int32))] r17.2).bind fun r18 => (if r18.1 = 0 then some ((0 : Int32), r18.2) else some ((1 : Int32), r18.2)))) else (if (9 : Int32) < (r16.1 - (48 : Int32)) then (if (0 : Int32) = 0 then some ((0 : Int32), r17.2) else ((C 124 [.ref 19, .int (r16.1 - (48 : Int32))] r17.2).bind fun r19 => (if r19.1 = 0 then some ((0 : Int32), r19.2) else some ((1 : Int32), r19.2)))) else ((C 110 [.ref 19, .int (1 : Int32), .int (1 : Int32)] r17.2).bind fun r20 => (if r20.1 = (32 : Int32) then (if (1 : Int32) = 0 then some ((0 : Int32), r20.2) else ((C 124 [.ref 19, .int (r16.1 - (48 : Int32))] r20.2).bind fun r22 => (if r22.1 = 0 then some ((0 : Int32), r22.2) else some ((1 : Int32), r22.2)))) else (if (0 : Int32) = 0 then some ((0 : Int32), r20.2) else ((C 124 [.ref 19, .int (r16.1 - (48 : Int32))] r20.2).bind fun r21 => (if r21.1 = 0 then some ((0 : Int32), r21.2) else some ((1 : Int32), r21.2))))))))))) else ((C 115 [.ref 19, .int (1 : Int32)] σ).bind fun r23 => ((C 117 [.ref 19] r23.2).bind fun r24 => (if r24.1 < 0 then some ((0 : Int32), r24.2) else some ((1 : Int32), r24.2))))) := rfl
set_option maxRecDepth 100000 in
set_option maxHeartbeats 4000000 in
theorem e132_274 (C : xC) (k : xK) (v5 v6 : Int32) (σ : xS) : x_b x_i132 C k 274 [(0, .ref 19), (5, .int v5), (6, .int v6)] [] σ = (if (4 : Int32) ≤ v6 then some ((1 : Int32), σ) else (if v6 < 0 ∨ 4 ≤ v6.toNatClampNeg then none else (if ((((16 : Int32) * v5) + (1 : Int32)) + v6) < 0 ∨ 512 ≤ ((((16 : Int32) * v5) + (1 : Int32)) + v6).toNatClampNeg then none else k 274 [(0, .ref 19), (5, .int v5), (6, .int (v6 + (1 : Int32)))] [] (x_up σ 21 (((((16 : Int32) * v5) + (1 : Int32)) + v6).toNatClampNeg) (σ 26 v6.toNatClampNeg))))) := rfl
-- DeskMachineModel.typed(I)V (19,)
set_option maxRecDepth 100000 in
set_option maxHeartbeats 4000000 in
theorem e133_0 (C : xC) (k : xK) (v1 : Int32) (σ : xS) : x_b x_i133 C k 0 [(0, .ref 19), (1, .int v1)] [] σ = (if v1 = (13 : Int32) then ((C 132 [.ref 19] σ).bind fun r1 => (if r1.1 = 0 then ((C 113 [.ref 19, .int (63 : Int32)] r1.2).bind fun r4 => ((C 113 [.ref 19, .int (13 : Int32)] r4.2).bind fun r5 => (if (r5.2 19 12) = 0 then ((C 113 [.ref 19, .int (62 : Int32)] r5.2).bind fun r6 => some (0, (x_up r6.2 19 15 (0 : Int32)))) else some (0, (x_up r5.2 19 15 (0 : Int32)))))) else ((C 113 [.ref 19, .int (13 : Int32)] r1.2).bind fun r2 => (if (r2.2 19 12) = 0 then ((C 113 [.ref 19, .int (62 : Int32)] r2.2).bind fun r3 => some (0, (x_up r3.2 19 15 (0 : Int32)))) else some (0, (x_up r2.2 19 15 (0 : Int32))))))) else (if v1 < (32 : Int32) then some (0, σ) else (if (126 : Int32) < v1 then some (0, σ) else (if (20 : Int32) ≤ (σ 19 15) then some (0, σ) else (if (σ 19 15) < 0 ∨ 20 ≤ (σ 19 15).toNatClampNeg then none else some (0, (x_up (x_up σ 24 ((σ 19 15).toNatClampNeg) v1) 19 15 (((x_up σ 24 ((σ 19 15).toNatClampNeg) v1) 19 15) + (1 : Int32))))))))) := rfl
-- DeskMachineModel.pair(I)I (19,)
set_option maxRecDepth 100000 in
set_option maxHeartbeats 4000000 in
theorem e134_0 (C : xC) (k : xK) (v1 : Int32) (σ : xS) : x_b x_i134 C k 0 [(0, .ref 19), (1, .int v1)] [] σ = (if v1 = (3 : Int32) then some ((σ 19 4), σ) else (if ((2 : Int32) * v1) < 0 ∨ 8 ≤ ((2 : Int32) * v1).toNatClampNeg then none else (if (((2 : Int32) * v1) + (1 : Int32)) < 0 ∨ 8 ≤ (((2 : Int32) * v1) + (1 : Int32)).toNatClampNeg then none else some ((((256 : Int32) * (σ 22 ((2 : Int32) * v1).toNatClampNeg)) + (σ 22 (((2 : Int32) * v1) + (1 : Int32)).toNatClampNeg)), σ)))) := rfl
-- DeskMachineModel.nameAt(I)V (19,)
set_option maxRecDepth 100000 in
set_option maxHeartbeats 4000000 in
theorem e135_0 (C : xC) (k : xK) (v1 : Int32) (σ : xS) : x_b x_i135 C k 0 [(0, .ref 19), (1, .int v1)] [] σ = k 2 [(0, .ref 19), (1, .int v1), (2, .int (0 : Int32))] [] σ := rfl
set_option maxRecDepth 100000 in
set_option maxHeartbeats 4000000 in
theorem e135_2 (C : xC) (k : xK) (v1 v2 : Int32) (σ : xS) : x_b x_i135 C k 2 [(0, .ref 19), (1, .int v1), (2, .int v2)] [] σ = (if (4 : Int32) ≤ v2 then some (0, σ) else ((C 122 [.ref 19, .int (v1 + v2)] σ).bind fun r1 => (if v2 < 0 ∨ 4 ≤ v2.toNatClampNeg then none else k 2 [(0, .ref 19), (1, .int v1), (2, .int (v2 + (1 : Int32)))] [] (x_up r1.2 26 (v2.toNatClampNeg) r1.1)))) := rfl
-- DeskMachineModel.searches(I)I (19,)
set_option maxRecDepth 100000 in
set_option maxHeartbeats 4000000 in
theorem e136_0 (C : xC) (k : xK) (v1 : Int32) (σ : xS) : x_b x_i136 C k 0 [(0, .ref 19), (1, .int v1)] [] σ = ((C 116 [.ref 19, .int v1, .int (1 : Int32)] σ).bind fun r1 => k 9 [(0, .ref 19), (2, .int r1.1), (3, .int (0 : Int32))] [] r1.2) := rfl
set_option maxRecDepth 100000 in
set_option maxHeartbeats 4000000 in
theorem e136_9 (C : xC) (k : xK) (v2 v3 : Int32) (σ : xS) : x_b x_i136 C k 9 [(0, .ref 19), (2, .int v2), (3, .int v3)] [] σ = (if (16 : Int32) ≤ v3 then (if v2 = (-1 : Int32) then (if v2 = (-1 : Int32) then some ((255 : Int32), (x_up σ 19 20 (8 : Int32))) else some (v2, (x_up σ 19 20 (8 : Int32)))) else (if v2 = (-1 : Int32) then some ((255 : Int32), (x_up σ 19 20 v2)) else some (v2, (x_up σ 19 20 v2)))) else (if v2 = (-1 : Int32) then (if v2 = (-1 : Int32) then (if v2 = (-1 : Int32) then some ((255 : Int32), (x_up σ 19 20 (8 : Int32))) else some (v2, (x_up σ 19 20 (8 : Int32)))) else (if v2 = (-1 : Int32) then some ((255 : Int32), (x_up σ 19 20 v2)) else some (v2, (x_up σ 19 20 v2)))) else (if (((16 : Int32) * v2) + v3) < 0 ∨ 512 ≤ (((16 : Int32) * v2) + v3).toNatClampNeg then none else ((C 127 [.ref 19, .int ((σ 19 6) + v3), .int (σ 21 (((16 : Int32) * v2) + v3).toNatClampNeg)] σ).bind fun r1 => k 9 [(0, .ref 19), (2, .int v2), (3, .int (v3 + (1 : Int32)))] [] r1.2)))) := rfl
-- DeskMachineModel.reads(I)I (19,)
set_option maxRecDepth 100000 in
set_option maxHeartbeats 4000000 in
theorem e137_0 (C : xC) (k : xK) (v1 : Int32) (σ : xS) : x_b x_i137 C k 0 [(0, .ref 19), (1, .int v1)] [] σ = ((C 122 [.ref 19, .int (v1 + (16 : Int32))] σ).bind fun r1 => (if r1.1 ≤ (9 : Int32) then ((C 122 [.ref 19, .int ((v1 + (6 : Int32)) + r1.1)] r1.2).bind fun r2 => (if (9 : Int32) < r1.1 then some ((1 : Int32), r2.2) else ((C 122 [.ref 19, .int (v1 + (5 : Int32))] r2.2).bind fun r3 => (if r3.1 ≤ r1.1 then some ((1 : Int32), r3.2) else ((C 125 [.int r2.1] r3.2).bind fun r4 => (if r4.1 = 0 then some ((1 : Int32), r4.2) else k 59 [(0, .ref 19), (1, .int v1), (2, .int r1.1), (3, .int r2.1), (4, .int (0 : Int32))] [] r4.2)))))) else (if (9 : Int32) < r1.1 then some ((1 : Int32), r1.2) else ((C 122 [.ref 19, .int (v1 + (5 : Int32))] r1.2).bind fun r5 => (if r5.1 ≤ r1.1 then some ((1 : Int32), r5.2) else ((C 125 [.int (0 : Int32)] r5.2).bind fun r6 => (if r6.1 = 0 then some ((1 : Int32), r6.2) else k 59 [(0, .ref 19), (1, .int v1), (2, .int r1.1), (3, .int (0 : Int32)), (4, .int (0 : Int32))] [] r6.2))))))) := rfl
set_option maxRecDepth 100000 in
set_option maxHeartbeats 4000000 in
theorem e137_59 (C : xC) (k : xK) (v1 v2 v3 v4 : Int32) (σ : xS) : x_b x_i137 C k 59 [(0, .ref 19), (1, .int v1), (2, .int v2), (3, .int v3), (4, .int v4)] [] σ = (if (16 : Int32) ≤ v4 then ((C 127 [.ref 19, .int (v1 + (16 : Int32)), .int (v2 + (1 : Int32))] σ).bind fun r1 => some ((0 : Int32), r1.2)) else (if (((16 : Int32) * v3) + v4) < 0 ∨ 512 ≤ (((16 : Int32) * v3) + v4).toNatClampNeg then none else ((C 127 [.ref 19, .int ((σ 19 6) + v4), .int (σ 21 (((16 : Int32) * v3) + v4).toNatClampNeg)] σ).bind fun r2 => k 59 [(0, .ref 19), (1, .int v1), (2, .int v2), (3, .int v3), (4, .int (v4 + (1 : Int32)))] [] r2.2))) := rfl
-- DeskMachineModel.writes(I)I (19,)
set_option maxRecDepth 100000 in
set_option maxHeartbeats 4000000 in
theorem e138_0 (C : xC) (k : xK) (v1 : Int32) (σ : xS) : x_b x_i138 C k 0 [(0, .ref 19), (1, .int v1)] [] σ = ((C 122 [.ref 19, .int (v1 + (16 : Int32))] σ).bind fun r1 => (if r1.1 ≤ (9 : Int32) then ((C 122 [.ref 19, .int ((v1 + (6 : Int32)) + r1.1)] r1.2).bind fun r2 => ((C 122 [.ref 19, .int (v1 + (5 : Int32))] r2.2).bind fun r3 => (if r3.1 ≤ r1.1 then ((C 123 [.ref 19, .int v1] r3.2).bind fun r4 => (if r4.1 = (-1 : Int32) then some ((2 : Int32), r4.2) else ((C 127 [.ref 19, .int ((v1 + (6 : Int32)) + r1.1), .int r4.1] r4.2).bind fun r5 => k 73 [(0, .ref 19), (1, .int v1), (2, .int r1.1), (3, .int r4.1), (4, .int (0 : Int32))] [] r5.2))) else ((C 125 [.int r2.1] r3.2).bind fun r6 => (if r6.1 = 0 then ((C 123 [.ref 19, .int v1] r6.2).bind fun r7 => (if r7.1 = (-1 : Int32) then some ((2 : Int32), r7.2) else ((C 127 [.ref 19, .int ((v1 + (6 : Int32)) + r1.1), .int r7.1] r7.2).bind fun r8 => k 73 [(0, .ref 19), (1, .int v1), (2, .int r1.1), (3, .int r7.1), (4, .int (0 : Int32))] [] r8.2))) else k 73 [(0, .ref 19), (1, .int v1), (2, .int r1.1), (3, .int r2.1), (4, .int (0 : Int32))] [] r6.2))))) else some ((1 : Int32), r1.2))) := rfl
set_option maxRecDepth 100000 in
set_option maxHeartbeats 4000000 in
theorem e138_73 (C : xC) (k : xK) (v1 v2 v3 v4 : Int32) (σ : xS) : x_b x_i138 C k 73 [(0, .ref 19), (1, .int v1), (2, .int v2), (3, .int v3), (4, .int v4)] [] σ = (if (16 : Int32) ≤ v4 then ((C 122 [.ref 19, .int (v1 + (5 : Int32))] σ).bind fun r1 => (if (v2 + (1 : Int32)) ≤ r1.1 then ((C 122 [.ref 19, .int (v1 + (5 : Int32))] r1.2).bind fun r2 => ((C 127 [.ref 19, .int (v1 + (5 : Int32)), .int r2.1] r2.2).bind fun r3 => ((C 127 [.ref 19, .int (v1 + (16 : Int32)), .int (v2 + (1 : Int32))] r3.2).bind fun r4 => some ((0 : Int32), r4.2)))) else ((C 127 [.ref 19, .int (v1 + (5 : Int32)), .int (v2 + (1 : Int32))] r1.2).bind fun r5 => ((C 127 [.ref 19, .int (v1 + (16 : Int32)), .int (v2 + (1 : Int32))] r5.2).bind fun r6 => some ((0 : Int32), r6.2))))) else ((C 122 [.ref 19, .int ((σ 19 6) + v4)] σ).bind fun r7 => (if (((16 : Int32) * v3) + v4) < 0 ∨ 512 ≤ (((16 : Int32) * v3) + v4).toNatClampNeg then none else k 73 [(0, .ref 19), (1, .int v1), (2, .int v2), (3, .int v3), (4, .int (v4 + (1 : Int32)))] [] (x_up r7.2 21 ((((16 : Int32) * v3) + v4).toNatClampNeg) r7.1)))) := rfl
-- DeskMachineModel.files(II)I (19,)
set_option maxRecDepth 100000 in
set_option maxHeartbeats 4000000 in
theorem e139_0 (C : xC) (k : xK) (v1 v2 : Int32) (σ : xS) : x_b x_i139 C k 0 [(0, .ref 19), (1, .int v1), (2, .int v2)] [] σ = ((C 135 [.ref 19, .int (v2 + (1 : Int32))] σ).bind fun r1 => (if v1 = (17 : Int32) then ((C 136 [.ref 19, .int (0 : Int32)] r1.2).bind fun r9 => some (r9.1, r9.2)) else (if v1 = (18 : Int32) then ((C 136 [.ref 19, .int ((r1.2 19 20) + (1 : Int32))] r1.2).bind fun r8 => some (r8.1, r8.2)) else (if v1 = (19 : Int32) then ((C 117 [.ref 19] r1.2).bind fun r7 => (if r7.1 = 0 then some ((255 : Int32), r7.2) else some ((0 : Int32), r7.2))) else (if v1 = (20 : Int32) then ((C 137 [.ref 19, .int v2] r1.2).bind fun r6 => some (r6.1, r6.2)) else (if v1 = (21 : Int32) then ((C 138 [.ref 19, .int v2] r1.2).bind fun r5 => some (r5.1, r5.2)) else (if v1 = (22 : Int32) then ((C 119 [.ref 19] r1.2).bind fun r4 => k 97 [(0, .ref 19), (2, .int v2), (3, .int r4.1), (4, .int (5 : Int32))] [] r4.2) else (if v1 = (15 : Int32) then ((C 116 [.ref 19, .int (0 : Int32), .int (1 : Int32)] r1.2).bind fun r3 => (if r3.1 = (-1 : Int32) then some ((255 : Int32), r3.2) else k 166 [(0, .ref 19), (1, .int v1), (2, .int v2), (3, .int r3.1), (4, .int (1 : Int32))] [] r3.2)) else ((C 116 [.ref 19, .int (0 : Int32), .int (0 : Int32)] r1.2).bind fun r2 => (if r2.1 = (-1 : Int32) then some ((255 : Int32), r2.2) else k 166 [(0, .ref 19), (1, .int v1), (2, .int v2), (3, .int r2.1), (4, .int (1 : Int32))] [] r2.2)))))))))) := rfl
set_option maxRecDepth 100000 in
set_option maxHeartbeats 4000000 in
theorem e139_166 (C : xC) (k : xK) (v1 v2 v3 v4 : Int32) (σ : xS) : x_b x_i139 C k 166 [(0, .ref 19), (1, .int v1), (2, .int v2), (3, .int v3), (4, .int v4)] [] σ = (if (16 : Int32) ≤ v4 then k 208 [(0, .ref 19), (1, .int v1), (2, .int v2), (3, .int v3), (4, .int (5 : Int32))] [] σ else (if v1 = (15 : Int32) then (if (((16 : Int32) * v3) + v4) < 0 ∨ 512 ≤ (((16 : Int32) * v3) + v4).toNatClampNeg then none else ((C 127 [.ref 19, .int (v2 + v4), .int (σ 21 (((16 : Int32) * v3) + v4).toNatClampNeg)] σ).bind fun r1 => k 166 [(0, .ref 19), (1, .int v1), (2, .int v2), (3, .int v3), (4, .int (v4 + (1 : Int32)))] [] r1.2)) else k 208 [(0, .ref 19), (1, .int v1), (2, .int v2), (3, .int v3), (4, .int (5 : Int32))] [] σ)) := rfl
set_option maxRecDepth 100000 in
set_option maxHeartbeats 4000000 in
theorem e139_97 (C : xC) (k : xK) (v2 v3 v4 : Int32) (σ : xS) : x_b x_i139 C k 97 [(0, .ref 19), (2, .int v2), (3, .int v3), (4, .int v4)] [] σ = (if (16 : Int32) ≤ v4 then (if v3 = (-1 : Int32) then some ((255 : Int32), σ) else some (v3, σ)) else (if v3 = (-1 : Int32) then (if v3 = (-1 : Int32) then some ((255 : Int32), σ) else some (v3, σ)) else ((C 127 [.ref 19, .int (v2 + v4), .int (0 : Int32)] σ).bind fun r1 => k 97 [(0, .ref 19), (2, .int v2), (3, .int v3), (4, .int (v4 + (1 : Int32)))] [] r1.2))) := rfl
set_option maxRecDepth 100000 in
set_option maxHeartbeats 4000000 in
theorem e139_208 (C : xC) (k : xK) (v1 v2 v3 v4 : Int32) (σ : xS) : x_b x_i139 C k 208 [(0, .ref 19), (1, .int v1), (2, .int v2), (3, .int v3), (4, .int v4)] [] σ = (if (16 : Int32) ≤ v4 then k 250 [(0, .ref 19), (1, .int v1), (2, .int v2), (3, .int v3), (4, .int (1 : Int32))] [] σ else (if v1 = (16 : Int32) then ((C 122 [.ref 19, .int (v2 + v4)] σ).bind fun r1 => (if (((16 : Int32) * v3) + v4) < 0 ∨ 512 ≤ (((16 : Int32) * v3) + v4).toNatClampNeg then none else k 208 [(0, .ref 19), (1, .int v1), (2, .int v2), (3, .int v3), (4, .int (v4 + (1 : Int32)))] [] (x_up r1.2 21 ((((16 : Int32) * v3) + v4).toNatClampNeg) r1.1))) else k 250 [(0, .ref 19), (1, .int v1), (2, .int v2), (3, .int v3), (4, .int (1 : Int32))] [] σ)) := rfl
set_option maxRecDepth 100000 in
set_option maxHeartbeats 4000000 in
theorem e139_250 (C : xC) (k : xK) (v1 v2 v3 v4 : Int32) (σ : xS) : x_b x_i139 C k 250 [(0, .ref 19), (1, .int v1), (2, .int v2), (3, .int v3), (4, .int v4)] [] σ = (if (5 : Int32) ≤ v4 then (if v1 = (23 : Int32) then some ((0 : Int32), σ) else some (v3, σ)) else (if v1 = (23 : Int32) then ((C 122 [.ref 19, .int ((v2 + (16 : Int32)) + v4)] σ).bind fun r1 => (if (((16 : Int32) * v3) + v4) < 0 ∨ 512 ≤ (((16 : Int32) * v3) + v4).toNatClampNeg then none else k 250 [(0, .ref 19), (1, .int v1), (2, .int v2), (3, .int v3), (4, .int (v4 + (1 : Int32)))] [] (x_up r1.2 21 ((((16 : Int32) * v3) + v4).toNatClampNeg) r1.1))) else (if v1 = (23 : Int32) then some ((0 : Int32), σ) else some (v3, σ)))) := rfl
-- DeskMachineModel.answer(II)I (19,)
set_option maxRecDepth 100000 in
set_option maxHeartbeats 4000000 in
theorem e140_0 (C : xC) (k : xK) (v1 v2 : Int32) (σ : xS) : x_b x_i140 C k 0 [(0, .ref 19), (1, .int v1), (2, .int v2)] [] σ = (if v1 = (1 : Int32) then (if (σ 19 13) = 0 then some ((-1 : Int32), σ) else ((C 107 [.ref 19] σ).bind fun r3 => some (r3.1, r3.2))) else (if v1 = (2 : Int32) then ((C 113 [.ref 19, .int (σ 22 3)] σ).bind fun r2 => some ((0 : Int32), r2.2)) else (if v1 = (9 : Int32) then k 44 [(0, .ref 19), (2, .int v2), (3, .int (0 : Int32))] [] σ else (if v1 = (11 : Int32) then (if (σ 19 13) ≤ 0 then some ((0 : Int32), σ) else some ((255 : Int32), σ)) else (if v1 = (26 : Int32) then some ((0 : Int32), (x_up σ 19 6 v2)) else (if v1 < (15 : Int32) then some ((0 : Int32), σ) else (if (23 : Int32) < v1 then some ((0 : Int32), σ) else ((C 139 [.ref 19, .int v1, .int v2] σ).bind fun r1 => some (r1.1, r1.2))))))))) := rfl
set_option maxRecDepth 100000 in
set_option maxHeartbeats 4000000 in
theorem e140_44 (C : xC) (k : xK) (v2 v3 : Int32) (σ : xS) : x_b x_i140 C k 44 [(0, .ref 19), (2, .int v2), (3, .int v3)] [] σ = (if (64 : Int32) ≤ v3 then some ((0 : Int32), σ) else ((C 122 [.ref 19, .int (v2 + v3)] σ).bind fun r1 => (if r1.1 = (36 : Int32) then some ((0 : Int32), r1.2) else ((C 122 [.ref 19, .int (v2 + v3)] r1.2).bind fun r2 => ((C 113 [.ref 19, .int r2.1] r2.2).bind fun r3 => k 44 [(0, .ref 19), (2, .int v2), (3, .int (v3 + (1 : Int32)))] [] r3.2))))) := rfl
-- DeskMachineModel.word(I)I (19,)
set_option maxRecDepth 100000 in
set_option maxHeartbeats 4000000 in
theorem e141_0 (C : xC) (k : xK) (v1 : Int32) (σ : xS) : x_b x_i141 C k 0 [(0, .ref 19), (1, .int v1)] [] σ = ((C 122 [.ref 19, .int v1] σ).bind fun r1 => ((C 122 [.ref 19, .int (v1 + (1 : Int32))] r1.2).bind fun r2 => some ((r1.1 + ((256 : Int32) * r2.1)), r2.2))) := rfl
-- DeskMachineModel.pop()I (19,)
set_option maxRecDepth 100000 in
set_option maxHeartbeats 4000000 in
theorem e142_0 (C : xC) (k : xK) (σ : xS) : x_b x_i142 C k 0 [(0, .ref 19)] [] σ = ((C 141 [.ref 19, .int (σ 19 4)] σ).bind fun r1 => some (r1.1, (x_up r1.2 19 4 (((r1.2 19 4) + (2 : Int32)) &&& (Int32.ofNat 65535))))) := rfl
-- DeskMachineModel.call()Z (19,)
set_option maxRecDepth 100000 in
set_option maxHeartbeats 4000000 in
theorem e143_0 (C : xC) (k : xK) (σ : xS) : x_b x_i143 C k 0 [(0, .ref 19)] [] σ = (if (σ 22 1) = 0 then some ((1 : Int32), (x_up σ 19 12 (0 : Int32))) else ((C 134 [.ref 19, .int (1 : Int32)] σ).bind fun r1 => ((C 140 [.ref 19, .int (σ 22 1), .int r1.1] r1.2).bind fun r2 => (if r2.1 = (-1 : Int32) then (if r2.1 = (-1 : Int32) then some ((0 : Int32), (x_up r2.2 19 12 (2 : Int32))) else ((C 142 [.ref 19] (x_up (x_up r2.2 19 12 (2 : Int32)) 22 7 r2.1)).bind fun r4 => some ((1 : Int32), (x_up r4.2 19 5 r4.1)))) else (if r2.1 = (-1 : Int32) then some ((0 : Int32), (x_up r2.2 19 12 (1 : Int32))) else ((C 142 [.ref 19] (x_up (x_up r2.2 19 12 (1 : Int32)) 22 7 r2.1)).bind fun r3 => some ((1 : Int32), (x_up r3.2 19 5 r3.1)))))))) := rfl
-- DeskMachineModel.setPair(II)V (19,)
set_option maxRecDepth 100000 in
set_option maxHeartbeats 4000000 in
theorem e144_0 (C : xC) (k : xK) (v1 v2 : Int32) (σ : xS) : x_b x_i144 C k 0 [(0, .ref 19), (1, .int v1), (2, .int v2)] [] σ = (if v1 = (3 : Int32) then some (0, (x_up σ 19 4 (v2 &&& (Int32.ofNat 65535)))) else (if ((2 : Int32) * v1) < 0 ∨ 8 ≤ ((2 : Int32) * v1).toNatClampNeg then none else (if (((2 : Int32) * v1) + (1 : Int32)) < 0 ∨ 8 ≤ (((2 : Int32) * v1) + (1 : Int32)).toNatClampNeg then none else some (0, (x_up (x_up σ 22 (((2 : Int32) * v1).toNatClampNeg) ((v2 >>> ((8 : Int32) &&& 31)) &&& (255 : Int32))) 22 ((((2 : Int32) * v1) + (1 : Int32)).toNatClampNeg) (v2 &&& (255 : Int32))))))) := rfl
-- DeskMachineModel.moves(II)V (19,)
set_option maxRecDepth 100000 in
set_option maxHeartbeats 4000000 in
theorem e145_0 (C : xC) (k : xK) (v1 v2 : Int32) (σ : xS) : x_b x_i145 C k 0 [(0, .ref 19), (1, .int v1), (2, .int v2)] [] σ = (if (2 : Int32) ≤ v1 then (if (4 : Int32) ≤ v1 then k 27 [(0, .ref 19), (1, .int v1), (2, .int v2)] [.int v2] σ else ((C 134 [.ref 19, .int (1 : Int32)] σ).bind fun r1 => k 27 [(0, .ref 19), (1, .int v1), (2, .int v2)] [.int r1.1] r1.2)) else ((C 134 [.ref 19, .int (0 : Int32)] σ).bind fun r2 => k 27 [(0, .ref 19), (1, .int v1), (2, .int v2)] [.int r2.1] r2.2)) := rfl
set_option maxRecDepth 100000 in
set_option maxHeartbeats 4000000 in
theorem e145_27 (C : xC) (k : xK) (v1 v2 s0 : Int32) (σ : xS) : x_b x_i145 C k 27 [(0, .ref 19), (1, .int v1), (2, .int v2)] [.int s0] σ = (if v1 = (4 : Int32) then ((C 134 [.ref 19, .int (2 : Int32)] σ).bind fun r5 => ((C 129 [.ref 19, .int v2, .int r5.1] r5.2).bind fun r6 => k 101 [(0, .ref 19), (1, .int v1)] [] r6.2)) else (if v1 = (5 : Int32) then ((C 141 [.ref 19, .int v2] σ).bind fun r3 => ((C 144 [.ref 19, .int (2 : Int32), .int r3.1] r3.2).bind fun r4 => k 101 [(0, .ref 19), (1, .int v1)] [] r4.2)) else (if (v1 - v1 / (2 : Int32) * (2 : Int32)) = 0 then ((C 127 [.ref 19, .int s0, .int (σ 22 7)] σ).bind fun r2 => k 101 [(0, .ref 19), (1, .int v1)] [] r2.2) else ((C 122 [.ref 19, .int s0] σ).bind fun r1 => k 101 [(0, .ref 19), (1, .int v1)] [] (x_up r1.2 22 7 r1.1))))) := rfl
set_option maxRecDepth 100000 in
set_option maxHeartbeats 4000000 in
theorem e145_101 (C : xC) (k : xK) (v1 : Int32) (σ : xS) : x_b x_i145 C k 101 [(0, .ref 19), (1, .int v1)] [] σ = (if v1 ≤ (3 : Int32) then some (0, (x_up σ 19 5 ((σ 19 5) + (0 : Int32)))) else some (0, (x_up σ 19 5 ((σ 19 5) + (2 : Int32))))) := rfl
-- DeskMachineModel.valueOf(I)I (19,)
set_option maxRecDepth 100000 in
set_option maxHeartbeats 4000000 in
theorem e146_0 (C : xC) (k : xK) (v1 : Int32) (σ : xS) : x_b x_i146 C k 0 [(0, .ref 19), (1, .int v1)] [] σ = (if v1 = (6 : Int32) then ((C 134 [.ref 19, .int (2 : Int32)] σ).bind fun r1 => ((C 122 [.ref 19, .int r1.1] r1.2).bind fun r2 => some (r2.1, r2.2))) else (if v1 < 0 ∨ 8 ≤ v1.toNatClampNeg then none else some ((σ 22 v1.toNatClampNeg), σ))) := rfl
-- DeskMachineModel.setTo(II)V (19,)
set_option maxRecDepth 100000 in
set_option maxHeartbeats 4000000 in
theorem e147_0 (C : xC) (k : xK) (v1 v2 : Int32) (σ : xS) : x_b x_i147 C k 0 [(0, .ref 19), (1, .int v1), (2, .int v2)] [] σ = (if v1 = (6 : Int32) then ((C 134 [.ref 19, .int (2 : Int32)] σ).bind fun r1 => ((C 127 [.ref 19, .int r1.1, .int v2] r1.2).bind fun r2 => some (0, r2.2))) else (if v1 < 0 ∨ 8 ≤ v1.toNatClampNeg then none else some (0, (x_up σ 22 (v1.toNatClampNeg) (v2 &&& (255 : Int32)))))) := rfl
-- DeskMachineModel.tells(I)V (19,)
set_option maxRecDepth 100000 in
set_option maxHeartbeats 4000000 in
theorem e148_0 (C : xC) (k : xK) (v1 : Int32) (σ : xS) : x_b x_i148 C k 0 [(0, .ref 19), (1, .int v1)] [] σ = k 4 [(0, .ref 19), (1, .int v1), (2, .int (0 : Int32)), (3, .int (0 : Int32))] [] σ := rfl
set_option maxRecDepth 100000 in
set_option maxHeartbeats 4000000 in
theorem e148_4 (C : xC) (k : xK) (v1 v2 v3 : Int32) (σ : xS) : x_b x_i148 C k 4 [(0, .ref 19), (1, .int v1), (2, .int v2), (3, .int v3)] [] σ = (if (8 : Int32) ≤ v3 then (if v1 = 0 then some (0, (x_up (x_up (x_up σ 19 7 ((v1 >>> ((7 : Int32) &&& 31)) &&& (1 : Int32))) 19 8 (1 : Int32)) 19 9 ((1 : Int32) - (v2 - v2 / (2 : Int32) * (2 : Int32))))) else some (0, (x_up (x_up (x_up σ 19 7 ((v1 >>> ((7 : Int32) &&& 31)) &&& (1 : Int32))) 19 8 (0 : Int32)) 19 9 ((1 : Int32) - (v2 - v2 / (2 : Int32) * (2 : Int32)))))) else k 4 [(0, .ref 19), (1, .int v1), (2, .int (v2 + ((v1 >>> (v3 &&& 31)) &&& (1 : Int32)))), (3, .int (v3 + (1 : Int32)))] [] σ) := rfl
-- DeskMachineModel.added(II)I (19,)
set_option maxRecDepth 100000 in
set_option maxHeartbeats 4000000 in
theorem e149_0 (C : xC) (k : xK) (v1 v2 : Int32) (σ : xS) : x_b x_i149 C k 0 [(0, .ref 19), (1, .int v1), (2, .int v2)] [] σ = (if ((((σ 22 7) - (σ 22 7) / (16 : Int32) * (16 : Int32)) + (v1 - v1 / (16 : Int32) * (16 : Int32))) + v2) ≤ (15 : Int32) then (if (((σ 22 7) + v1) + v2) ≤ (255 : Int32) then some (((((σ 22 7) + v1) + v2) &&& (255 : Int32)), (x_up (x_up σ 19 10 (0 : Int32)) 19 11 (0 : Int32))) else some (((((σ 22 7) + v1) + v2) &&& (255 : Int32)), (x_up (x_up σ 19 10 (0 : Int32)) 19 11 (1 : Int32)))) else (if (((σ 22 7) + v1) + v2) ≤ (255 : Int32) then some (((((σ 22 7) + v1) + v2) &&& (255 : Int32)), (x_up (x_up σ 19 10 (1 : Int32)) 19 11 (0 : Int32))) else some (((((σ 22 7) + v1) + v2) &&& (255 : Int32)), (x_up (x_up σ 19 10 (1 : Int32)) 19 11 (1 : Int32))))) := rfl
-- DeskMachineModel.adjusts()V (19,)
set_option maxRecDepth 100000 in
set_option maxHeartbeats 4000000 in
theorem e150_0 (C : xC) (k : xK) (σ : xS) : x_b x_i150 C k 0 [(0, .ref 19)] [] σ = (if (9 : Int32) < ((σ 22 7) - (σ 22 7) / (16 : Int32) * (16 : Int32)) then k 31 [(0, .ref 19), (1, .int (σ 22 7))] [.int (6 : Int32)] σ else (if (σ 19 10) = (1 : Int32) then k 31 [(0, .ref 19), (1, .int (σ 22 7))] [.int (6 : Int32)] σ else k 31 [(0, .ref 19), (1, .int (σ 22 7))] [.int (0 : Int32)] σ)) := rfl
set_option maxRecDepth 100000 in
set_option maxHeartbeats 4000000 in
theorem e150_31 (C : xC) (k : xK) (v1 s0 : Int32) (σ : xS) : x_b x_i150 C k 31 [(0, .ref 19), (1, .int v1)] [.int s0] σ = (if (153 : Int32) < v1 then ((C 149 [.ref 19, .int (s0 + ((96 : Int32) * (1 : Int32))), .int (0 : Int32)] σ).bind fun r1 => ((C 148 [.ref 19, .int r1.1] (x_up (x_up r1.2 19 11 (1 : Int32)) 22 7 r1.1)).bind fun r2 => some (0, r2.2))) else (if (σ 19 11) = (1 : Int32) then ((C 149 [.ref 19, .int (s0 + ((96 : Int32) * (1 : Int32))), .int (0 : Int32)] σ).bind fun r5 => ((C 148 [.ref 19, .int r5.1] (x_up (x_up r5.2 19 11 (1 : Int32)) 22 7 r5.1)).bind fun r6 => some (0, r6.2))) else ((C 149 [.ref 19, .int (s0 + ((96 : Int32) * (0 : Int32))), .int (0 : Int32)] σ).bind fun r3 => ((C 148 [.ref 19, .int r3.1] (x_up (x_up r3.2 19 11 (0 : Int32)) 22 7 r3.1)).bind fun r4 => some (0, r4.2))))) := rfl
-- DeskMachineModel.turns(I)V (19,)
set_option maxRecDepth 100000 in
set_option maxHeartbeats 4000000 in
theorem e151_0 (C : xC) (k : xK) (v1 : Int32) (σ : xS) : x_b x_i151 C k 0 [(0, .ref 19), (1, .int v1)] [] σ = (if v1 = (4 : Int32) then ((C 150 [.ref 19] σ).bind fun r1 => some (0, r1.2)) else (if (4 : Int32) ≤ v1 then k 109 [(0, .ref 19), (1, .int v1), (2, .int (σ 22 7))] [] σ else (if v1 = 0 then k 55 [(0, .ref 19), (1, .int v1), (2, .int (σ 22 7)), (3, .int ((σ 22 7) >>> ((7 : Int32) &&& 31))), (4, .int ((σ 22 7) &&& (1 : Int32)))] [.int ((σ 22 7) >>> ((7 : Int32) &&& 31))] σ else (if v1 = (1 : Int32) then k 55 [(0, .ref 19), (1, .int v1), (2, .int (σ 22 7)), (3, .int ((σ 22 7) >>> ((7 : Int32) &&& 31))), (4, .int ((σ 22 7) &&& (1 : Int32)))] [.int ((σ 22 7) &&& (1 : Int32))] σ else k 55 [(0, .ref 19), (1, .int v1), (2, .int (σ 22 7)), (3, .int ((σ 22 7) >>> ((7 : Int32) &&& 31))), (4, .int ((σ 22 7) &&& (1 : Int32)))] [.int (σ 19 11)] σ)))) := rfl
set_option maxRecDepth 100000 in
set_option maxHeartbeats 4000000 in
theorem e151_109 (C : xC) (k : xK) (v1 v2 : Int32) (σ : xS) : x_b x_i151 C k 109 [(0, .ref 19), (1, .int v1), (2, .int v2)] [] σ = (if v1 = (5 : Int32) then (if v1 = (6 : Int32) then some (0, (x_up (x_up σ 22 7 ((255 : Int32) - v2)) 19 11 (1 : Int32))) else (if v1 = (7 : Int32) then some (0, (x_up (x_up σ 22 7 ((255 : Int32) - v2)) 19 11 ((1 : Int32) - ((x_up σ 22 7 ((255 : Int32) - v2)) 19 11)))) else some (0, (x_up (x_up σ 22 7 ((255 : Int32) - v2)) 19 11 ((x_up σ 22 7 ((255 : Int32) - v2)) 19 11))))) else (if v1 = (6 : Int32) then some (0, (x_up (x_up σ 22 7 (σ 22 7)) 19 11 (1 : Int32))) else (if v1 = (7 : Int32) then some (0, (x_up (x_up σ 22 7 (σ 22 7)) 19 11 ((1 : Int32) - ((x_up σ 22 7 (σ 22 7)) 19 11)))) else some (0, (x_up (x_up σ 22 7 (σ 22 7)) 19 11 ((x_up σ 22 7 (σ 22 7)) 19 11)))))) := rfl
set_option maxRecDepth 100000 in
set_option maxHeartbeats 4000000 in
theorem e151_55 (C : xC) (k : xK) (v1 v2 v3 v4 s0 : Int32) (σ : xS) : x_b x_i151 C k 55 [(0, .ref 19), (1, .int v1), (2, .int v2), (3, .int v3), (4, .int v4)] [.int s0] σ = (if (v1 - v1 / (2 : Int32) * (2 : Int32)) = 0 then (if (v1 - v1 / (2 : Int32) * (2 : Int32)) = 0 then k 109 [(0, .ref 19), (1, .int v1), (2, .int v2)] [] (x_up (x_up σ 22 7 ((((2 : Int32) * v2) - ((2 : Int32) * v2) / (256 : Int32) * (256 : Int32)) + s0)) 19 11 v3) else k 109 [(0, .ref 19), (1, .int v1), (2, .int v2)] [] (x_up (x_up σ 22 7 ((((2 : Int32) * v2) - ((2 : Int32) * v2) / (256 : Int32) * (256 : Int32)) + s0)) 19 11 v4)) else (if (v1 - v1 / (2 : Int32) * (2 : Int32)) = 0 then k 109 [(0, .ref 19), (1, .int v1), (2, .int v2)] [] (x_up (x_up σ 22 7 ((v2 / (2 : Int32)) + ((128 : Int32) * s0))) 19 11 v3) else k 109 [(0, .ref 19), (1, .int v1), (2, .int v2)] [] (x_up (x_up σ 22 7 ((v2 / (2 : Int32)) + ((128 : Int32) * s0))) 19 11 v4))) := rfl
-- DeskMachineModel.steps0(II)V (19,)
set_option maxRecDepth 100000 in
set_option maxHeartbeats 4000000 in
theorem e152_0 (C : xC) (k : xK) (v1 v2 : Int32) (σ : xS) : x_b x_i152 C k 0 [(0, .ref 19), (1, .int v1), (2, .int v2)] [] σ = ((C 122 [.ref 19, .int (σ 19 5)] σ).bind fun r1 => ((C 141 [.ref 19, .int (r1.2 19 5)] r1.2).bind fun r2 => (if v2 = (1 : Int32) then (if (v1 - v1 / (2 : Int32) * (2 : Int32)) = 0 then ((C 144 [.ref 19, .int (v1 / (2 : Int32)), .int r2.1] r2.2).bind fun r3 => some (0, (x_up r3.2 19 5 ((r3.2 19 5) + (2 : Int32))))) else k 56 [(0, .ref 19), (1, .int v1), (2, .int v2), (3, .int r1.1), (4, .int r2.1), (5, .int (v1 / (2 : Int32)))] [] r2.2) else k 56 [(0, .ref 19), (1, .int v1), (2, .int v2), (3, .int r1.1), (4, .int r2.1), (5, .int (v1 / (2 : Int32)))] [] r2.2))) := rfl
set_option maxRecDepth 100000 in
set_option maxHeartbeats 4000000 in
theorem e152_56 (C : xC) (k : xK) (v1 v2 v3 v4 v5 : Int32) (σ : xS) : x_b x_i152 C k 56 [(0, .ref 19), (1, .int v1), (2, .int v2), (3, .int v3), (4, .int v4), (5, .int v5)] [] σ = (if v2 = (1 : Int32) then ((C 134 [.ref 19, .int (2 : Int32)] σ).bind fun r9 => ((C 134 [.ref 19, .int v5] r9.2).bind fun r10 => (if (r9.1 + r10.1) ≤ (Int32.ofNat 65535) then ((C 144 [.ref 19, .int (2 : Int32), .int (r9.1 + r10.1)] (x_up r10.2 19 11 (0 : Int32))).bind fun r11 => some (0, r11.2)) else ((C 144 [.ref 19, .int (2 : Int32), .int (r9.1 + r10.1)] (x_up r10.2 19 11 (1 : Int32))).bind fun r12 => some (0, r12.2))))) else (if v2 = (2 : Int32) then ((C 145 [.ref 19, .int v1, .int v4] σ).bind fun r8 => some (0, r8.2)) else (if v2 = (3 : Int32) then ((C 134 [.ref 19, .int v5] σ).bind fun r5 => (if (v1 - v1 / (2 : Int32) * (2 : Int32)) = 0 then ((C 144 [.ref 19, .int v5, .int (r5.1 + (1 : Int32))] r5.2).bind fun r7 => some (0, r7.2)) else ((C 144 [.ref 19, .int v5, .int (r5.1 + (-1 : Int32))] r5.2).bind fun r6 => some (0, r6.2)))) else (if v2 = (4 : Int32) then ((C 146 [.ref 19, .int v1] σ).bind fun r1 => (if v2 = (4 : Int32) then k 175 [(0, .ref 19), (1, .int v1), (2, .int v2)] [.int (1 : Int32), .int r1.1] r1.2 else k 175 [(0, .ref 19), (1, .int v1), (2, .int v2)] [.int (255 : Int32), .int r1.1] r1.2)) else (if v2 = (5 : Int32) then ((C 146 [.ref 19, .int v1] σ).bind fun r4 => (if v2 = (4 : Int32) then k 175 [(0, .ref 19), (1, .int v1), (2, .int v2)] [.int (1 : Int32), .int r4.1] r4.2 else k 175 [(0, .ref 19), (1, .int v1), (2, .int v2)] [.int (255 : Int32), .int r4.1] r4.2)) else (if v2 = (6 : Int32) then ((C 147 [.ref 19, .int v1, .int v3] σ).bind fun r3 => some (0, (x_up r3.2 19 5 ((r3.2 19 5) + (1 : Int32))))) else (if v2 = (7 : Int32) then ((C 151 [.ref 19, .int v1] σ).bind fun r2 => some (0, r2.2)) else some (0, σ)))))))) := rfl
set_option maxRecDepth 100000 in
set_option maxHeartbeats 4000000 in
theorem e152_175 (C : xC) (k : xK) (v1 v2 s0 s1 : Int32) (σ : xS) : x_b x_i152 C k 175 [(0, .ref 19), (1, .int v1), (2, .int v2)] [.int s0, .int s1] σ = ((C 147 [.ref 19, .int v1, .int ((s1 + s0) &&& (255 : Int32))] σ).bind fun r1 => (if v2 = (4 : Int32) then (if (((s1 + s0) &&& (255 : Int32)) - ((s1 + s0) &&& (255 : Int32)) / (16 : Int32) * (16 : Int32)) = 0 then ((C 148 [.ref 19, .int ((s1 + s0) &&& (255 : Int32))] (x_up r1.2 19 10 (1 : Int32))).bind fun r5 => some (0, r5.2)) else ((C 148 [.ref 19, .int ((s1 + s0) &&& (255 : Int32))] (x_up r1.2 19 10 (0 : Int32))).bind fun r4 => some (0, r4.2))) else (if (((s1 + s0) &&& (255 : Int32)) - ((s1 + s0) &&& (255 : Int32)) / (16 : Int32) * (16 : Int32)) = (15 : Int32) then ((C 148 [.ref 19, .int ((s1 + s0) &&& (255 : Int32))] (x_up r1.2 19 10 (0 : Int32))).bind fun r2 => some (0, r2.2)) else ((C 148 [.ref 19, .int ((s1 + s0) &&& (255 : Int32))] (x_up r1.2 19 10 (1 : Int32))).bind fun r3 => some (0, r3.2))))) := rfl
-- DeskMachineModel.reckons(II)V (19,)
set_option maxRecDepth 100000 in
set_option maxHeartbeats 4000000 in
theorem e153_0 (C : xC) (k : xK) (v1 v2 : Int32) (σ : xS) : x_b x_i153 C k 0 [(0, .ref 19), (1, .int v1), (2, .int v2)] [] σ = (if (2 : Int32) ≤ v1 then (if v1 < (4 : Int32) then k 50 [(0, .ref 19), (1, .int v1), (2, .int v2), (3, .int (σ 22 7))] [] σ else (if v1 = (7 : Int32) then k 50 [(0, .ref 19), (1, .int v1), (2, .int v2), (3, .int (σ 22 7))] [] σ else (if v1 = (4 : Int32) then k 114 [(0, .ref 19), (1, .int v1), (2, .int v2), (3, .int (σ 22 7))] [.int ((σ 22 7) &&& v2)] σ else (if v1 = (5 : Int32) then k 114 [(0, .ref 19), (1, .int v1), (2, .int v2), (3, .int (σ 22 7))] [.int ((σ 22 7) ^^^ v2)] σ else k 114 [(0, .ref 19), (1, .int v1), (2, .int v2), (3, .int (σ 22 7))] [.int ((σ 22 7) ||| v2)] σ)))) else (if v1 = (1 : Int32) then ((C 149 [.ref 19, .int v2, .int (σ 19 11)] σ).bind fun r3 => ((C 148 [.ref 19, .int r3.1] r3.2).bind fun r4 => (if v1 = (7 : Int32) then some (0, (x_up r4.2 22 7 (σ 22 7))) else some (0, (x_up r4.2 22 7 r3.1))))) else ((C 149 [.ref 19, .int v2, .int (0 : Int32)] σ).bind fun r1 => ((C 148 [.ref 19, .int r1.1] r1.2).bind fun r2 => (if v1 = (7 : Int32) then some (0, (x_up r2.2 22 7 (σ 22 7))) else some (0, (x_up r2.2 22 7 r1.1))))))) := rfl
set_option maxRecDepth 100000 in
set_option maxHeartbeats 4000000 in
theorem e153_50 (C : xC) (k : xK) (v1 v2 v3 : Int32) (σ : xS) : x_b x_i153 C k 50 [(0, .ref 19), (1, .int v1), (2, .int v2), (3, .int v3)] [] σ = (if v1 = (3 : Int32) then ((C 149 [.ref 19, .int ((255 : Int32) - v2), .int ((1 : Int32) - (σ 19 11))] σ).bind fun r3 => ((C 148 [.ref 19, .int r3.1] (x_up r3.2 19 11 ((1 : Int32) - (r3.2 19 11)))).bind fun r4 => (if v1 = (7 : Int32) then some (0, (x_up r4.2 22 7 v3)) else some (0, (x_up r4.2 22 7 r3.1))))) else ((C 149 [.ref 19, .int ((255 : Int32) - v2), .int (1 : Int32)] σ).bind fun r1 => ((C 148 [.ref 19, .int r1.1] (x_up r1.2 19 11 ((1 : Int32) - (r1.2 19 11)))).bind fun r2 => (if v1 = (7 : Int32) then some (0, (x_up r2.2 22 7 v3)) else some (0, (x_up r2.2 22 7 r1.1)))))) := rfl
set_option maxRecDepth 100000 in
set_option maxHeartbeats 4000000 in
theorem e153_114 (C : xC) (k : xK) (v1 v2 v3 s0 : Int32) (σ : xS) : x_b x_i153 C k 114 [(0, .ref 19), (1, .int v1), (2, .int v2), (3, .int v3)] [.int s0] σ = (if v1 = (4 : Int32) then ((C 148 [.ref 19, .int s0] (x_up (x_up σ 19 10 (((v3 ||| v2) >>> ((3 : Int32) &&& 31)) &&& (1 : Int32))) 19 11 (0 : Int32))).bind fun r2 => (if v1 = (7 : Int32) then some (0, (x_up r2.2 22 7 v3)) else some (0, (x_up r2.2 22 7 s0)))) else ((C 148 [.ref 19, .int s0] (x_up (x_up σ 19 10 (0 : Int32)) 19 11 (0 : Int32))).bind fun r1 => (if v1 = (7 : Int32) then some (0, (x_up r1.2 22 7 v3)) else some (0, (x_up r1.2 22 7 s0))))) := rfl
-- DeskMachineModel.holds(I)Z (19,)
set_option maxRecDepth 100000 in
set_option maxHeartbeats 4000000 in
theorem e154_0 (C : xC) (k : xK) (v1 : Int32) (σ : xS) : x_b x_i154 C k 0 [(0, .ref 19), (1, .int v1)] [] σ = (if (2 : Int32) ≤ v1 then (if (4 : Int32) ≤ v1 then (if (6 : Int32) ≤ v1 then (if (σ 19 7) = (v1 - v1 / (2 : Int32) * (2 : Int32)) then some ((1 : Int32), σ) else some ((0 : Int32), σ)) else (if (σ 19 9) = (v1 - v1 / (2 : Int32) * (2 : Int32)) then some ((1 : Int32), σ) else some ((0 : Int32), σ))) else (if (σ 19 11) = (v1 - v1 / (2 : Int32) * (2 : Int32)) then some ((1 : Int32), σ) else some ((0 : Int32), σ))) else (if (σ 19 8) = (v1 - v1 / (2 : Int32) * (2 : Int32)) then some ((1 : Int32), σ) else some ((0 : Int32), σ))) := rfl
-- DeskMachineModel.flags()I (19,)
set_option maxRecDepth 100000 in
set_option maxHeartbeats 4000000 in
theorem e155_0 (C : xC) (k : xK) (σ : xS) : x_b x_i155 C k 0 [(0, .ref 19)] [] σ = some ((((((((128 : Int32) * (σ 19 7)) + ((64 : Int32) * (σ 19 8))) + ((16 : Int32) * (σ 19 10))) + ((4 : Int32) * (σ 19 9))) + (2 : Int32)) + (σ 19 11)), σ) := rfl
-- DeskMachineModel.piles(III)V (19,)
set_option maxRecDepth 100000 in
set_option maxHeartbeats 4000000 in
theorem e156_0 (C : xC) (k : xK) (v1 v2 v3 : Int32) (σ : xS) : x_b x_i156 C k 0 [(0, .ref 19), (1, .int v1), (2, .int v2), (3, .int v3)] [] σ = (if v2 = (5 : Int32) then (if (v1 - v1 / (2 : Int32) * (2 : Int32)) = 0 then (if v1 = (6 : Int32) then ((C 155 [.ref 19] σ).bind fun r3 => ((C 130 [.ref 19, .int (((256 : Int32) * (σ 22 7)) + r3.1)] r3.2).bind fun r4 => some (0, r4.2))) else ((C 134 [.ref 19, .int (v1 / (2 : Int32))] σ).bind fun r1 => ((C 130 [.ref 19, .int r1.1] r1.2).bind fun r2 => some (0, r2.2)))) else k 50 [(0, .ref 19), (1, .int v1), (2, .int v2), (3, .int v3)] [] σ) else k 50 [(0, .ref 19), (1, .int v1), (2, .int v2), (3, .int v3)] [] σ) := rfl
set_option maxRecDepth 100000 in
set_option maxHeartbeats 4000000 in
theorem e156_50 (C : xC) (k : xK) (v1 v2 v3 : Int32) (σ : xS) : x_b x_i156 C k 50 [(0, .ref 19), (1, .int v1), (2, .int v2), (3, .int v3)] [] σ = (if v2 = (5 : Int32) then ((C 130 [.ref 19, .int (((σ 19 5) + (2 : Int32)) &&& (Int32.ofNat 65535))] σ).bind fun r8 => some (0, (x_up r8.2 19 5 v3))) else (if v1 = (1 : Int32) then ((C 142 [.ref 19] σ).bind fun r1 => some (0, (x_up r1.2 19 5 r1.1))) else (if v1 = (3 : Int32) then ((C 142 [.ref 19] σ).bind fun r7 => some (0, (x_up r7.2 19 5 r7.1))) else (if v1 = (5 : Int32) then ((C 134 [.ref 19, .int (2 : Int32)] σ).bind fun r6 => some (0, (x_up r6.2 19 5 r6.1))) else (if v1 = (7 : Int32) then ((C 134 [.ref 19, .int (2 : Int32)] σ).bind fun r5 => some (0, (x_up r5.2 19 4 r5.1))) else ((C 142 [.ref 19] σ).bind fun r2 => (if v1 = (6 : Int32) then ((C 128 [.ref 19, .int (r2.1 &&& (255 : Int32))] (x_up r2.2 22 7 (r2.1 >>> ((8 : Int32) &&& 31)))).bind fun r4 => some (0, r4.2)) else ((C 144 [.ref 19, .int (v1 / (2 : Int32)), .int r2.1] r2.2).bind fun r3 => some (0, r3.2))))))))) := rfl
-- DeskMachineModel.exchanges(I)V (19,)
set_option maxRecDepth 100000 in
set_option maxHeartbeats 4000000 in
theorem e157_0 (C : xC) (k : xK) (v1 : Int32) (σ : xS) : x_b x_i157 C k 0 [(0, .ref 19), (1, .int v1)] [] σ = ((C 134 [.ref 19, .int (2 : Int32)] σ).bind fun r1 => (if v1 = (4 : Int32) then ((C 141 [.ref 19, .int (r1.2 19 4)] r1.2).bind fun r5 => ((C 129 [.ref 19, .int (r5.2 19 4), .int r1.1] r5.2).bind fun r6 => ((C 144 [.ref 19, .int (2 : Int32), .int r5.1] r6.2).bind fun r7 => some (0, r7.2)))) else ((C 134 [.ref 19, .int (1 : Int32)] r1.2).bind fun r2 => ((C 144 [.ref 19, .int (2 : Int32), .int r2.1] r2.2).bind fun r3 => ((C 144 [.ref 19, .int (1 : Int32), .int r1.1] r3.2).bind fun r4 => some (0, r4.2)))))) := rfl
-- DeskMachineModel.steps3(II)V (19,)
set_option maxRecDepth 100000 in
set_option maxHeartbeats 4000000 in
theorem e158_0 (C : xC) (k : xK) (v1 v2 : Int32) (σ : xS) : x_b x_i158 C k 0 [(0, .ref 19), (1, .int v1), (2, .int v2)] [] σ = ((C 122 [.ref 19, .int (σ 19 5)] σ).bind fun r1 => ((C 141 [.ref 19, .int (r1.2 19 5)] r1.2).bind fun r2 => ((C 154 [.ref 19, .int v1] r2.2).bind fun r3 => (if v2 = 0 then (if r3.1 = 0 then some (0, (x_up r3.2 19 5 (r3.2 19 5))) else ((C 142 [.ref 19] r3.2).bind fun r8 => some (0, (x_up r8.2 19 5 r8.1)))) else (if v2 = (1 : Int32) then ((C 156 [.ref 19, .int v1, .int v2, .int r2.1] r3.2).bind fun r4 => some (0, r4.2)) else (if v2 = (5 : Int32) then ((C 156 [.ref 19, .int v1, .int v2, .int r2.1] r3.2).bind fun r7 => some (0, r7.2)) else (if v2 = (2 : Int32) then (if r3.1 = 0 then some (0, (x_up r3.2 19 5 ((r3.2 19 5) + (2 : Int32)))) else some (0, (x_up r3.2 19 5 r2.1))) else (if v2 = (3 : Int32) then (if (4 : Int32) ≤ v1 then (if v2 = (3 : Int32) then (if (6 : Int32) ≤ v1 then k 158 [(0, .ref 19), (1, .int v1), (2, .int v2), (3, .int r1.1), (4, .int r2.1), (5, .int r3.1)] [] r3.2 else ((C 157 [.ref 19, .int v1] r3.2).bind fun r6 => some (0, r6.2))) else k 158 [(0, .ref 19), (1, .int v1), (2, .int v2), (3, .int r1.1), (4, .int r2.1), (5, .int r3.1)] [] r3.2) else (if (2 : Int32) ≤ v1 then some (0, (x_up r3.2 19 5 ((r3.2 19 5) + (1 : Int32)))) else some (0, (x_up r3.2 19 5 r2.1)))) else (if v2 = (3 : Int32) then (if (6 : Int32) ≤ v1 then k 158 [(0, .ref 19), (1, .int v1), (2, .int v2), (3, .int r1.1), (4, .int r2.1), (5, .int r3.1)] [] r3.2 else ((C 157 [.ref 19, .int v1] r3.2).bind fun r5 => some (0, r5.2))) else k 158 [(0, .ref 19), (1, .int v1), (2, .int v2), (3, .int r1.1), (4, .int r2.1), (5, .int r3.1)] [] r3.2))))))))) := rfl
set_option maxRecDepth 100000 in
set_option maxHeartbeats 4000000 in
theorem e158_158 (C : xC) (k : xK) (v1 v2 v3 v4 v5 : Int32) (σ : xS) : x_b x_i158 C k 158 [(0, .ref 19), (1, .int v1), (2, .int v2), (3, .int v3), (4, .int v4), (5, .int v5)] [] σ = (if v2 = (4 : Int32) then (if v5 = 0 then (if v5 = 0 then some (0, (x_up σ 19 5 ((σ 19 5) + (2 : Int32)))) else some (0, (x_up σ 19 5 v4))) else ((C 130 [.ref 19, .int (((σ 19 5) + (2 : Int32)) &&& (Int32.ofNat 65535))] σ).bind fun r3 => (if v5 = 0 then some (0, (x_up r3.2 19 5 ((r3.2 19 5) + (2 : Int32)))) else some (0, (x_up r3.2 19 5 v4))))) else (if v2 = (6 : Int32) then ((C 153 [.ref 19, .int v1, .int v3] σ).bind fun r2 => some (0, (x_up r2.2 19 5 ((r2.2 19 5) + (1 : Int32))))) else (if v2 = (7 : Int32) then ((C 130 [.ref 19, .int ((σ 19 5) &&& (Int32.ofNat 65535))] σ).bind fun r1 => some (0, (x_up r1.2 19 5 ((8 : Int32) * v1)))) else some (0, σ)))) := rfl
-- DeskMachineModel.instruction()V (19,)
set_option maxRecDepth 100000 in
set_option maxHeartbeats 4000000 in
theorem e159_0 (C : xC) (k : xK) (σ : xS) : x_b x_i159 C k 0 [(0, .ref 19)] [] σ = ((C 122 [.ref 19, .int (σ 19 5)] σ).bind fun r1 => (if (r1.1 / (64 : Int32)) = 0 then ((C 152 [.ref 19, .int ((r1.1 / (8 : Int32)) - (r1.1 / (8 : Int32)) / (8 : Int32) * (8 : Int32)), .int (r1.1 - r1.1 / (8 : Int32) * (8 : Int32))] (x_up r1.2 19 5 ((r1.2 19 5) + (1 : Int32)))).bind fun r2 => some (0, (x_up r2.2 19 5 ((r2.2 19 5) &&& (Int32.ofNat 65535))))) else (if (r1.1 / (64 : Int32)) = (1 : Int32) then (if ((r1.1 / (8 : Int32)) - (r1.1 / (8 : Int32)) / (8 : Int32) * (8 : Int32)) = (6 : Int32) then (if (r1.1 - r1.1 / (8 : Int32) * (8 : Int32)) = (6 : Int32) then some (0, (x_up (x_up (x_up r1.2 19 5 ((r1.2 19 5) + (1 : Int32))) 19 12 (0 : Int32)) 19 5 (((x_up (x_up r1.2 19 5 ((r1.2 19 5) + (1 : Int32))) 19 12 (0 : Int32)) 19 5) &&& (Int32.ofNat 65535)))) else k 78 [(0, .ref 19), (2, .int (r1.1 / (64 : Int32))), (3, .int ((r1.1 / (8 : Int32)) - (r1.1 / (8 : Int32)) / (8 : Int32) * (8 : Int32))), (4, .int (r1.1 - r1.1 / (8 : Int32) * (8 : Int32)))] [] (x_up r1.2 19 5 ((r1.2 19 5) + (1 : Int32)))) else k 78 [(0, .ref 19), (2, .int (r1.1 / (64 : Int32))), (3, .int ((r1.1 / (8 : Int32)) - (r1.1 / (8 : Int32)) / (8 : Int32) * (8 : Int32))), (4, .int (r1.1 - r1.1 / (8 : Int32) * (8 : Int32)))] [] (x_up r1.2 19 5 ((r1.2 19 5) + (1 : Int32)))) else k 78 [(0, .ref 19), (2, .int (r1.1 / (64 : Int32))), (3, .int ((r1.1 / (8 : Int32)) - (r1.1 / (8 : Int32)) / (8 : Int32) * (8 : Int32))), (4, .int (r1.1 - r1.1 / (8 : Int32) * (8 : Int32)))] [] (x_up r1.2 19 5 ((r1.2 19 5) + (1 : Int32)))))) := rfl
set_option maxRecDepth 100000 in
set_option maxHeartbeats 4000000 in
theorem e159_78 (C : xC) (k : xK) (v2 v3 v4 : Int32) (σ : xS) : x_b x_i159 C k 78 [(0, .ref 19), (2, .int v2), (3, .int v3), (4, .int v4)] [] σ = (if v2 = (1 : Int32) then ((C 146 [.ref 19, .int v4] σ).bind fun r4 => ((C 147 [.ref 19, .int v3, .int r4.1] r4.2).bind fun r5 => some (0, (x_up r5.2 19 5 ((r5.2 19 5) &&& (Int32.ofNat 65535)))))) else (if v2 = (2 : Int32) then ((C 146 [.ref 19, .int v4] σ).bind fun r2 => ((C 153 [.ref 19, .int v3, .int r2.1] r2.2).bind fun r3 => some (0, (x_up r3.2 19 5 ((r3.2 19 5) &&& (Int32.ofNat 65535)))))) else ((C 158 [.ref 19, .int v3, .int v4] σ).bind fun r1 => some (0, (x_up r1.2 19 5 ((r1.2 19 5) &&& (Int32.ofNat 65535))))))) := rfl
-- DeskMachineModel.goes()Z (19,)
set_option maxRecDepth 100000 in
set_option maxHeartbeats 4000000 in
theorem e160_0 (C : xC) (k : xK) (σ : xS) : x_b x_i160 C k 0 [(0, .ref 19)] [] σ = (if (σ 19 12) = 0 then (if (σ 19 13) = 0 then some ((0 : Int32), σ) else ((C 107 [.ref 19] σ).bind fun r3 => ((C 133 [.ref 19, .int r3.1] r3.2).bind fun r4 => some ((1 : Int32), r4.2)))) else (if (σ 19 5) = (5 : Int32) then ((C 143 [.ref 19] σ).bind fun r2 => (if r2.1 = 0 then some ((0 : Int32), r2.2) else (if (r2.2 19 5) = 0 then some ((1 : Int32), (x_up r2.2 19 12 (0 : Int32))) else some ((1 : Int32), (x_up r2.2 19 12 (r2.2 19 12)))))) else ((C 159 [.ref 19] σ).bind fun r1 => (if (r1.2 19 5) = 0 then some ((1 : Int32), (x_up r1.2 19 12 (0 : Int32))) else some ((1 : Int32), (x_up r1.2 19 12 (r1.2 19 12))))))) := rfl
-- DeskMachineModel.run(I)I (19,)
set_option maxRecDepth 100000 in
set_option maxHeartbeats 4000000 in
theorem e161_0 (C : xC) (k : xK) (v1 : Int32) (σ : xS) : x_b x_i161 C k 0 [(0, .ref 19), (1, .int v1)] [] σ = (if v1 < (1 : Int32) then (if ((x_up σ 19 0 (1 : Int32)) 19 0) = 0 then k 36 [(0, .ref 19), (1, .int v1), (2, .int (0 : Int32)), (3, .int (1 : Int32))] [] (x_up σ 19 0 (1 : Int32)) else k 36 [(0, .ref 19), (1, .int v1), (2, .int (0 : Int32)), (3, .int (0 : Int32))] [] (x_up σ 19 0 (1 : Int32))) else (if v1 ≤ (1000 : Int32) then (if ((x_up σ 19 0 (0 : Int32)) 19 0) = 0 then k 36 [(0, .ref 19), (1, .int v1), (2, .int (0 : Int32)), (3, .int (1 : Int32))] [] (x_up σ 19 0 (0 : Int32)) else k 36 [(0, .ref 19), (1, .int v1), (2, .int (0 : Int32)), (3, .int (0 : Int32))] [] (x_up σ 19 0 (0 : Int32))) else (if ((x_up σ 19 0 (1 : Int32)) 19 0) = 0 then k 36 [(0, .ref 19), (1, .int v1), (2, .int (0 : Int32)), (3, .int (1 : Int32))] [] (x_up σ 19 0 (1 : Int32)) else k 36 [(0, .ref 19), (1, .int v1), (2, .int (0 : Int32)), (3, .int (0 : Int32))] [] (x_up σ 19 0 (1 : Int32))))) := rfl
set_option maxRecDepth 100000 in
set_option maxHeartbeats 4000000 in
theorem e161_36 (C : xC) (k : xK) (v1 v2 v3 : Int32) (σ : xS) : x_b x_i161 C k 36 [(0, .ref 19), (1, .int v1), (2, .int v2), (3, .int v3)] [] σ = (if v3 = 0 then some (v2, (x_up σ 19 19 ((σ 19 19) + v2))) else (if v1 ≤ v2 then some (v2, (x_up σ 19 19 ((σ 19 19) + v2))) else ((C 160 [.ref 19] σ).bind fun r1 => (if r1.1 = 0 then k 36 [(0, .ref 19), (1, .int v1), (2, .int (v2 + (0 : Int32))), (3, .int r1.1)] [] r1.2 else k 36 [(0, .ref 19), (1, .int v1), (2, .int (v2 + (1 : Int32))), (3, .int r1.1)] [] r1.2)))) := rfl
-- DeskMachineModel.isByte(I)Z ()
set_option maxRecDepth 100000 in
set_option maxHeartbeats 4000000 in
theorem e162_0 (C : xC) (k : xK) (v0 : Int32) (σ : xS) : x_b x_i162 C k 0 [(0, .int v0)] [] σ = (if v0 < 0 then some ((0 : Int32), σ) else (if (255 : Int32) < v0 then some ((0 : Int32), σ) else some ((1 : Int32), σ))) := rfl
-- DeskMachineModel.poke(II)Z (19,)
set_option maxRecDepth 100000 in
set_option maxHeartbeats 4000000 in
theorem e163_0 (C : xC) (k : xK) (v1 v2 : Int32) (σ : xS) : x_b x_i163 C k 0 [(0, .ref 19), (1, .int v1), (2, .int v2)] [] σ = (if v1 < 0 then k 19 [(0, .ref 19), (1, .int v1), (2, .int v2)] [.ref 19] σ else (if (511 : Int32) < v1 then k 19 [(0, .ref 19), (1, .int v1), (2, .int v2)] [.ref 19] σ else ((C 162 [.int v2] σ).bind fun r1 => (if r1.1 = 0 then k 19 [(0, .ref 19), (1, .int v1), (2, .int v2)] [.ref 19] r1.2 else (if ((x_up r1.2 19 0 (0 : Int32)) 19 0) = 0 then (if v1 < 0 ∨ 512 ≤ v1.toNatClampNeg then none else (if ((x_up (x_up r1.2 19 0 (0 : Int32)) 20 (v1.toNatClampNeg) v2) 19 0) = 0 then some ((1 : Int32), (x_up (x_up r1.2 19 0 (0 : Int32)) 20 (v1.toNatClampNeg) v2)) else some ((0 : Int32), (x_up (x_up r1.2 19 0 (0 : Int32)) 20 (v1.toNatClampNeg) v2)))) else (if ((x_up r1.2 19 0 (0 : Int32)) 19 0) = 0 then some ((1 : Int32), (x_up r1.2 19 0 (0 : Int32))) else some ((0 : Int32), (x_up r1.2 19 0 (0 : Int32))))))))) := rfl
set_option maxRecDepth 100000 in
set_option maxHeartbeats 4000000 in
theorem e163_19 (C : xC) (k : xK) (v1 v2 : Int32) (σ : xS) : x_b x_i163 C k 19 [(0, .ref 19), (1, .int v1), (2, .int v2)] [.ref 19] σ = (if ((x_up σ 19 0 (1 : Int32)) 19 0) = 0 then (if v1 < 0 ∨ 512 ≤ v1.toNatClampNeg then none else (if ((x_up (x_up σ 19 0 (1 : Int32)) 20 (v1.toNatClampNeg) v2) 19 0) = 0 then some ((1 : Int32), (x_up (x_up σ 19 0 (1 : Int32)) 20 (v1.toNatClampNeg) v2)) else some ((0 : Int32), (x_up (x_up σ 19 0 (1 : Int32)) 20 (v1.toNatClampNeg) v2)))) else (if ((x_up σ 19 0 (1 : Int32)) 19 0) = 0 then some ((1 : Int32), (x_up σ 19 0 (1 : Int32))) else some ((0 : Int32), (x_up σ 19 0 (1 : Int32))))) := rfl
-- DeskMachineModel.peek(I)I (19,)
set_option maxRecDepth 100000 in
set_option maxHeartbeats 4000000 in
theorem e164_0 (C : xC) (k : xK) (v1 : Int32) (σ : xS) : x_b x_i164 C k 0 [(0, .ref 19), (1, .int v1)] [] σ = (if v1 < 0 then (if ((x_up σ 19 0 (1 : Int32)) 19 0) = 0 then (if v1 < 0 ∨ 512 ≤ v1.toNatClampNeg then none else some (((x_up σ 19 0 (1 : Int32)) 20 v1.toNatClampNeg), (x_up σ 19 0 (1 : Int32)))) else some ((0 : Int32), (x_up σ 19 0 (1 : Int32)))) else (if v1 ≤ (511 : Int32) then (if ((x_up σ 19 0 (0 : Int32)) 19 0) = 0 then (if v1 < 0 ∨ 512 ≤ v1.toNatClampNeg then none else some (((x_up σ 19 0 (0 : Int32)) 20 v1.toNatClampNeg), (x_up σ 19 0 (0 : Int32)))) else some ((0 : Int32), (x_up σ 19 0 (0 : Int32)))) else (if ((x_up σ 19 0 (1 : Int32)) 19 0) = 0 then (if v1 < 0 ∨ 512 ≤ v1.toNatClampNeg then none else some (((x_up σ 19 0 (1 : Int32)) 20 v1.toNatClampNeg), (x_up σ 19 0 (1 : Int32)))) else some ((0 : Int32), (x_up σ 19 0 (1 : Int32)))))) := rfl
-- DeskMachineModel.isPlace(II)Z ()
set_option maxRecDepth 100000 in
set_option maxHeartbeats 4000000 in
theorem e165_0 (C : xC) (k : xK) (v0 v1 : Int32) (σ : xS) : x_b x_i165 C k 0 [(0, .int v0), (1, .int v1)] [] σ = (if v0 < 0 then some ((0 : Int32), σ) else (if (31 : Int32) < v0 then some ((0 : Int32), σ) else (if v1 < 0 then some ((0 : Int32), σ) else (if (15 : Int32) < v1 then some ((0 : Int32), σ) else some ((1 : Int32), σ))))) := rfl
-- DeskMachineModel.disk(II)I (19,)
set_option maxRecDepth 100000 in
set_option maxHeartbeats 4000000 in
theorem e166_0 (C : xC) (k : xK) (v1 v2 : Int32) (σ : xS) : x_b x_i166 C k 0 [(0, .ref 19), (1, .int v1), (2, .int v2)] [] σ = ((C 165 [.int v1, .int v2] σ).bind fun r1 => (if r1.1 = 0 then (if ((x_up r1.2 19 0 (1 : Int32)) 19 0) = 0 then (if (((16 : Int32) * v1) + v2) < 0 ∨ 512 ≤ (((16 : Int32) * v1) + v2).toNatClampNeg then none else some (((x_up r1.2 19 0 (1 : Int32)) 21 (((16 : Int32) * v1) + v2).toNatClampNeg), (x_up r1.2 19 0 (1 : Int32)))) else some ((0 : Int32), (x_up r1.2 19 0 (1 : Int32)))) else (if ((x_up r1.2 19 0 (0 : Int32)) 19 0) = 0 then (if (((16 : Int32) * v1) + v2) < 0 ∨ 512 ≤ (((16 : Int32) * v1) + v2).toNatClampNeg then none else some (((x_up r1.2 19 0 (0 : Int32)) 21 (((16 : Int32) * v1) + v2).toNatClampNeg), (x_up r1.2 19 0 (0 : Int32)))) else some ((0 : Int32), (x_up r1.2 19 0 (0 : Int32)))))) := rfl
-- DeskMachineModel.burn(III)Z (19,)
set_option maxRecDepth 100000 in
set_option maxHeartbeats 4000000 in
theorem e167_0 (C : xC) (k : xK) (v1 v2 v3 : Int32) (σ : xS) : x_b x_i167 C k 0 [(0, .ref 19), (1, .int v1), (2, .int v2), (3, .int v3)] [] σ = ((C 165 [.int v1, .int v2] σ).bind fun r1 => (if r1.1 = 0 then (if ((x_up r1.2 19 0 (1 : Int32)) 19 0) = 0 then (if (((16 : Int32) * v1) + v2) < 0 ∨ 512 ≤ (((16 : Int32) * v1) + v2).toNatClampNeg then none else (if ((x_up (x_up r1.2 19 0 (1 : Int32)) 21 ((((16 : Int32) * v1) + v2).toNatClampNeg) v3) 19 0) = 0 then some ((1 : Int32), (x_up (x_up r1.2 19 0 (1 : Int32)) 21 ((((16 : Int32) * v1) + v2).toNatClampNeg) v3)) else some ((0 : Int32), (x_up (x_up r1.2 19 0 (1 : Int32)) 21 ((((16 : Int32) * v1) + v2).toNatClampNeg) v3)))) else (if ((x_up r1.2 19 0 (1 : Int32)) 19 0) = 0 then some ((1 : Int32), (x_up r1.2 19 0 (1 : Int32))) else some ((0 : Int32), (x_up r1.2 19 0 (1 : Int32))))) else ((C 162 [.int v3] r1.2).bind fun r2 => (if r2.1 = 0 then (if ((x_up r2.2 19 0 (1 : Int32)) 19 0) = 0 then (if (((16 : Int32) * v1) + v2) < 0 ∨ 512 ≤ (((16 : Int32) * v1) + v2).toNatClampNeg then none else (if ((x_up (x_up r2.2 19 0 (1 : Int32)) 21 ((((16 : Int32) * v1) + v2).toNatClampNeg) v3) 19 0) = 0 then some ((1 : Int32), (x_up (x_up r2.2 19 0 (1 : Int32)) 21 ((((16 : Int32) * v1) + v2).toNatClampNeg) v3)) else some ((0 : Int32), (x_up (x_up r2.2 19 0 (1 : Int32)) 21 ((((16 : Int32) * v1) + v2).toNatClampNeg) v3)))) else (if ((x_up r2.2 19 0 (1 : Int32)) 19 0) = 0 then some ((1 : Int32), (x_up r2.2 19 0 (1 : Int32))) else some ((0 : Int32), (x_up r2.2 19 0 (1 : Int32))))) else (if ((x_up r2.2 19 0 (0 : Int32)) 19 0) = 0 then (if (((16 : Int32) * v1) + v2) < 0 ∨ 512 ≤ (((16 : Int32) * v1) + v2).toNatClampNeg then none else (if ((x_up (x_up r2.2 19 0 (0 : Int32)) 21 ((((16 : Int32) * v1) + v2).toNatClampNeg) v3) 19 0) = 0 then some ((1 : Int32), (x_up (x_up r2.2 19 0 (0 : Int32)) 21 ((((16 : Int32) * v1) + v2).toNatClampNeg) v3)) else some ((0 : Int32), (x_up (x_up r2.2 19 0 (0 : Int32)) 21 ((((16 : Int32) * v1) + v2).toNatClampNeg) v3)))) else (if ((x_up r2.2 19 0 (0 : Int32)) 19 0) = 0 then some ((1 : Int32), (x_up r2.2 19 0 (0 : Int32))) else some ((0 : Int32), (x_up r2.2 19 0 (0 : Int32))))))))) := rfl
-- DeskMachineModel.shown(I)I (19,)
set_option maxRecDepth 100000 in
set_option maxHeartbeats 4000000 in
theorem e168_0 (C : xC) (k : xK) (v1 : Int32) (σ : xS) : x_b x_i168 C k 0 [(0, .ref 19), (1, .int v1)] [] σ = (if v1 < 0 then some ((-1 : Int32), (x_up σ 19 0 (0 : Int32))) else (if (63 : Int32) < v1 then some ((-1 : Int32), (x_up σ 19 0 (0 : Int32))) else (if v1 < ((x_up σ 19 0 (0 : Int32)) 19 17) then (if (((((x_up σ 19 0 (0 : Int32)) 19 17) - (1 : Int32)) - v1) - ((((x_up σ 19 0 (0 : Int32)) 19 17) - (1 : Int32)) - v1) / (64 : Int32) * (64 : Int32)) < 0 ∨ 64 ≤ (((((x_up σ 19 0 (0 : Int32)) 19 17) - (1 : Int32)) - v1) - ((((x_up σ 19 0 (0 : Int32)) 19 17) - (1 : Int32)) - v1) / (64 : Int32) * (64 : Int32)).toNatClampNeg then none else some (((x_up σ 19 0 (0 : Int32)) 25 (((((x_up σ 19 0 (0 : Int32)) 19 17) - (1 : Int32)) - v1) - ((((x_up σ 19 0 (0 : Int32)) 19 17) - (1 : Int32)) - v1) / (64 : Int32) * (64 : Int32)).toNatClampNeg), (x_up σ 19 0 (0 : Int32)))) else some ((-1 : Int32), (x_up σ 19 0 (0 : Int32)))))) := rfl
-- DeskMachineModel.register(I)I (19,)
set_option maxRecDepth 100000 in
set_option maxHeartbeats 4000000 in
theorem e169_0 (C : xC) (k : xK) (v1 : Int32) (σ : xS) : x_b x_i169 C k 0 [(0, .ref 19), (1, .int v1)] [] σ = (if v1 < 0 then some ((-1 : Int32), (x_up σ 19 0 (0 : Int32))) else (if v1 ≤ (10 : Int32) then (if v1 = (6 : Int32) then ((C 155 [.ref 19] (x_up σ 19 0 (0 : Int32))).bind fun r1 => some (r1.1, r1.2)) else (if (8 : Int32) ≤ v1 then (if v1 = (8 : Int32) then some (((x_up σ 19 0 (0 : Int32)) 19 4), (x_up σ 19 0 (0 : Int32))) else (if v1 = (9 : Int32) then some (((x_up σ 19 0 (0 : Int32)) 19 5), (x_up σ 19 0 (0 : Int32))) else some (((x_up σ 19 0 (0 : Int32)) 19 6), (x_up σ 19 0 (0 : Int32))))) else (if v1 < 0 ∨ 8 ≤ v1.toNatClampNeg then none else some (((x_up σ 19 0 (0 : Int32)) 22 v1.toNatClampNeg), (x_up σ 19 0 (0 : Int32)))))) else some ((-1 : Int32), (x_up σ 19 0 (0 : Int32))))) := rfl
-- DeskMachineModel.about(I)I (19,)
set_option maxRecDepth 100000 in
set_option maxHeartbeats 4000000 in
theorem e170_0 (C : xC) (k : xK) (v1 : Int32) (σ : xS) : x_b x_i170 C k 0 [(0, .ref 19), (1, .int v1)] [] σ = (if v1 = (0 : Int32) then some (((x_up σ 19 0 (0 : Int32)) 19 12), (x_up σ 19 0 (0 : Int32))) else (if v1 = (1 : Int32) then some (((x_up σ 19 0 (0 : Int32)) 19 13), (x_up σ 19 0 (0 : Int32))) else (if v1 = (2 : Int32) then some (((x_up σ 19 0 (0 : Int32)) 19 17), (x_up σ 19 0 (0 : Int32))) else (if v1 = (3 : Int32) then some (((x_up σ 19 0 (0 : Int32)) 19 19), (x_up σ 19 0 (0 : Int32))) else (if v1 = (4 : Int32) then some (((x_up σ 19 0 (0 : Int32)) 19 15), (x_up σ 19 0 (0 : Int32))) else some ((-1 : Int32), (x_up σ 19 0 (0 : Int32)))))))) := rfl
-- DeskMachineModel.thrown()I (19,)
set_option maxRecDepth 100000 in
set_option maxHeartbeats 4000000 in
theorem e171_0 (C : xC) (k : xK) (σ : xS) : x_b x_i171 C k 0 [(0, .ref 19)] [] σ = some ((σ 19 0), σ) := rfl
end
section
/-! every method by its depth, every cut by what is left of the run: the equations again, with the methods themselves -/
noncomputable abbrev xr (i : xI) (d n : Nat) : xK := x_run (x_b i (x_M d)) n
theorem x_M_at {d j : Nat} {as : List Value} {σ : xS} {i : xI} (hj : Nat.beq j x_jF = false) (hi : x_tn x_tab j = some i) (hr : x_rm i.2.2.1 as = true) : x_M (d + 1) j as σ = x_b i (x_M d) (xr i d 4999) 0 (lv_args 0 as) [] σ := by
  change (match Nat.beq j x_jF with
    | true => x_fw as σ
    | false => (match x_tn x_tab j with
      | none => none
      | some i => (match x_rm i.2.2.1 as with
        | true => x_run (x_b i (x_M d)) 5000 0 (lv_args 0 as) [] σ
        | false => none))) = _
  rw [hj, hi]
  dsimp only
  rw [hr]
  exact congrFun (congrFun (congrFun (congrFun (x_run_succ (x_b i (x_M d)) 4999) 0) (lv_args 0 as)) []) σ
theorem xr_at (i : xI) (d n pc : Nat) (L : xL) (S : List Value) (σ : xS) : xr i d (n + 1) pc L S σ = x_b i (x_M d) (xr i d n) pc L S σ := congrFun (congrFun (congrFun (congrFun (x_run_succ (x_b i (x_M d)) n) pc) L) S) σ
-- DeskMachine.isByte(I)Z ()
theorem m0 (d : Nat) (v0 : Int32) (σ : xS) : x_M (d + 1) 0 [.int v0] σ = (if v0 < 0 then some ((0 : Int32), σ) else (if (255 : Int32) < v0 then some ((0 : Int32), σ) else some ((1 : Int32), σ))) := (x_M_at rfl rfl rfl).trans (e0_0 (x_M d) (xr x_i0 d 4999) v0 σ)
-- DeskMachine$KeyQueue.isFull()Z (8,)
theorem m1 (d : Nat) (σ : xS) : x_M (d + 1) 1 [.ref 8] σ = (if (σ 8 2) = (40 : Int32) then some ((1 : Int32), σ) else some ((0 : Int32), σ)) := (x_M_at rfl rfl rfl).trans (e1_0 (x_M d) (xr x_i1 d 4999) σ)
-- DeskMachine$KeyQueue.add(I)V (8,)
theorem m2 (d : Nat) (v1 : Int32) (σ : xS) : x_M (d + 1) 2 [.ref 8, .int v1] σ = (if (((σ 8 1) + (σ 8 2)) - ((σ 8 1) + (σ 8 2)) / (40 : Int32) * (40 : Int32)) < 0 ∨ 40 ≤ (((σ 8 1) + (σ 8 2)) - ((σ 8 1) + (σ 8 2)) / (40 : Int32) * (40 : Int32)).toNatClampNeg then none else some (0, (x_up (x_up σ 9 ((((σ 8 1) + (σ 8 2)) - ((σ 8 1) + (σ 8 2)) / (40 : Int32) * (40 : Int32)).toNatClampNeg) v1) 8 2 (((x_up σ 9 ((((σ 8 1) + (σ 8 2)) - ((σ 8 1) + (σ 8 2)) / (40 : Int32) * (40 : Int32)).toNatClampNeg) v1) 8 2) + (1 : Int32))))) := (x_M_at rfl rfl rfl).trans (e2_0 (x_M d) (xr x_i2 d 4999) v1 σ)
-- DeskMachine$KeyQueue.size()I (8,)
theorem m3 (d : Nat) (σ : xS) : x_M (d + 1) 3 [.ref 8] σ = some ((σ 8 2), σ) := (x_M_at rfl rfl rfl).trans (e3_0 (x_M d) (xr x_i3 d 4999) σ)
-- DeskMachine.key(I)I (0,)
theorem m4 (d : Nat) (v1 : Int32) (σ : xS) : x_M (d + 1) 4 [.ref 0, .int v1] σ = ((x_M d 0 [.int v1] σ).bind fun r1 => (if r1.1 = 0 then none else ((x_M d 1 [.ref 8] r1.2).bind fun r2 => (if r2.1 = 0 then ((x_M d 2 [.ref 8, .int v1] r2.2).bind fun r3 => ((x_M d 3 [.ref 8] r3.2).bind fun r4 => some (r4.1, r4.2))) else none)))) := (x_M_at rfl rfl rfl).trans (e4_0 (x_M d) (xr x_i4 d 4999) v1 σ)
-- DeskMachine$KeyQueue.isEmpty()Z (8,)
theorem m5 (d : Nat) (σ : xS) : x_M (d + 1) 5 [.ref 8] σ = (if (σ 8 2) = 0 then some ((1 : Int32), σ) else some ((0 : Int32), σ)) := (x_M_at rfl rfl rfl).trans (e5_0 (x_M d) (xr x_i5 d 4999) σ)
-- DeskMachine$KeyQueue.take()I (8,)
theorem m6 (d : Nat) (σ : xS) : x_M (d + 1) 6 [.ref 8] σ = (if (σ 8 1) < 0 ∨ 40 ≤ (σ 8 1).toNatClampNeg then none else some ((σ 9 (σ 8 1).toNatClampNeg), (x_up (x_up σ 8 1 (((σ 8 1) + (1 : Int32)) - ((σ 8 1) + (1 : Int32)) / (40 : Int32) * (40 : Int32))) 8 2 (((x_up σ 8 1 (((σ 8 1) + (1 : Int32)) - ((σ 8 1) + (1 : Int32)) / (40 : Int32) * (40 : Int32))) 8 2) - (1 : Int32))))) := (x_M_at rfl rfl rfl).trans (e6_0 (x_M d) (xr x_i6 d 4999) σ)
-- DeskMachine$Desk.add(I)V (14,)
theorem m7 (d : Nat) (v1 : Int32) (σ : xS) : x_M (d + 1) 7 [.ref 14, .int v1] σ = (if v1 < (32 : Int32) then some (0, σ) else (if (126 : Int32) < v1 then some (0, σ) else (if (20 : Int32) ≤ (σ 14 7) then some (0, σ) else (if (σ 14 7) < 0 ∨ 20 ≤ (σ 14 7).toNatClampNeg then none else some (0, (x_up (x_up σ 15 ((σ 14 7).toNatClampNeg) v1) 14 7 (((x_up σ 15 ((σ 14 7).toNatClampNeg) v1) 14 7) + (1 : Int32)))))))) := (x_M_at rfl rfl rfl).trans (e7_0 (x_M d) (xr x_i7 d 4999) v1 σ)
-- DeskMachine$Desk.skip(IZ)I (14,)
theorem m8 (d : Nat) (v1 v2 : Int32) (σ : xS) : x_M (d + 1) 8 [.ref 14, .int v1, .int v2] σ = xr x_i8 d 4999 2 [(0, .ref 14), (2, .int v2), (3, .int v1)] [] σ := (x_M_at rfl rfl rfl).trans (e8_0 (x_M d) (xr x_i8 d 4999) v1 v2 σ)
theorem c8_2 (d n : Nat) (v2 v3 : Int32) (σ : xS) : xr x_i8 d (n + 1) 2 [(0, .ref 14), (2, .int v2), (3, .int v3)] [] σ = (if (σ 14 7) ≤ v3 then some (v3, σ) else (if v3 < 0 ∨ 20 ≤ v3.toNatClampNeg then none else (if (σ 15 v3.toNatClampNeg) = (32 : Int32) then (if (1 : Int32) = v2 then xr x_i8 d n 2 [(0, .ref 14), (2, .int v2), (3, .int (v3 + (1 : Int32)))] [] σ else some (v3, σ)) else (if (0 : Int32) = v2 then xr x_i8 d n 2 [(0, .ref 14), (2, .int v2), (3, .int (v3 + (1 : Int32)))] [] σ else some (v3, σ))))) := (xr_at _ _ _ _ _ _ _).trans (e8_2 (x_M d) (xr x_i8 d n) v2 v3 σ)
-- DeskMachine$Desk.findWords()V (14,)
theorem m9 (d : Nat) (σ : xS) : x_M (d + 1) 9 [.ref 14] σ = xr x_i9 d 4999 9 [(0, .ref 14), (1, .int (0 : Int32)), (2, .int (0 : Int32))] [] (x_up σ 14 8 (0 : Int32)) := (x_M_at rfl rfl rfl).trans (e9_0 (x_M d) (xr x_i9 d 4999) σ)
theorem c9_9 (d n : Nat) (v1 v2 : Int32) (σ : xS) : xr x_i9 d (n + 1) 9 [(0, .ref 14), (1, .int v1), (2, .int v2)] [] σ = (if (3 : Int32) ≤ v2 then some (0, σ) else ((x_M d 8 [.ref 14, .int v1, .int (1 : Int32)] σ).bind fun r1 => ((x_M d 8 [.ref 14, .int r1.1, .int (0 : Int32)] r1.2).bind fun r2 => (if r2.1 ≤ r1.1 then xr x_i9 d n 9 [(0, .ref 14), (1, .int r2.1), (2, .int (v2 + (1 : Int32)))] [] r2.2 else (if v2 < 0 ∨ 3 ≤ v2.toNatClampNeg then none else (if v2 < 0 ∨ 3 ≤ v2.toNatClampNeg then none else xr x_i9 d n 9 [(0, .ref 14), (1, .int r2.1), (2, .int (v2 + (1 : Int32)))] [] (x_up (x_up (x_up r2.2 16 (v2.toNatClampNeg) r1.1) 17 (v2.toNatClampNeg) r2.1) 14 8 (((x_up (x_up r2.2 16 (v2.toNatClampNeg) r1.1) 17 (v2.toNatClampNeg) r2.1) 14 8) + (1 : Int32))))))))) := (xr_at _ _ _ _ _ _ _).trans (e9_9 (x_M d) (xr x_i9 d n) v1 v2 σ)
-- DeskMachine$Desk.commandOfLine()I (14,)
theorem m11 (d : Nat) (σ : xS) : x_M (d + 1) 11 [.ref 14] σ = (if (σ 14 8) = 0 then some ((6 : Int32), σ) else ((x_M d 10 [.ref 14, .ref 1000] σ).bind fun r1 => (if r1.1 = 0 then ((x_M d 10 [.ref 14, .ref 1001] r1.2).bind fun r2 => (if r2.1 = 0 then ((x_M d 10 [.ref 14, .ref 1002] r2.2).bind fun r3 => (if r3.1 = 0 then ((x_M d 10 [.ref 14, .ref 1003] r3.2).bind fun r4 => (if r4.1 = 0 then ((x_M d 10 [.ref 14, .ref 1004] r4.2).bind fun r5 => (if r5.1 = 0 then some ((5 : Int32), r5.2) else some ((4 : Int32), r5.2))) else some ((3 : Int32), r4.2))) else some ((2 : Int32), r3.2))) else some ((1 : Int32), r2.2))) else some ((0 : Int32), r1.2)))) := (x_M_at rfl rfl rfl).trans (e11_0 (x_M d) (xr x_i11 d 4999) σ)
-- DeskMachine$Disk.isFree(I)Z (5,)
theorem m12 (d : Nat) (v1 : Int32) (σ : xS) : x_M (d + 1) 12 [.ref 5, .int v1] σ = (if ((v1 &&& (7 : Int32)) * (16 : Int32)) < 0 ∨ 512 ≤ ((v1 &&& (7 : Int32)) * (16 : Int32)).toNatClampNeg then none else (if (σ 6 ((v1 &&& (7 : Int32)) * (16 : Int32)).toNatClampNeg) = (229 : Int32) then some ((1 : Int32), σ) else some ((0 : Int32), σ))) := (x_M_at rfl rfl rfl).trans (e12_0 (x_M d) (xr x_i12 d 4999) v1 σ)
-- DeskMachine$Disk.get(II)I (5,)
theorem m13 (d : Nat) (v1 v2 : Int32) (σ : xS) : x_M (d + 1) 13 [.ref 5, .int v1, .int v2] σ = (if (((v1 &&& (31 : Int32)) * (16 : Int32)) + (v2 &&& (15 : Int32))) < 0 ∨ 512 ≤ (((v1 &&& (31 : Int32)) * (16 : Int32)) + (v2 &&& (15 : Int32))).toNatClampNeg then none else some ((σ 6 (((v1 &&& (31 : Int32)) * (16 : Int32)) + (v2 &&& (15 : Int32))).toNatClampNeg), σ)) := (x_M_at rfl rfl rfl).trans (e13_0 (x_M d) (xr x_i13 d 4999) v1 v2 σ)
-- DeskMachine$Screen.show(I)V (10,)
theorem m14 (d : Nat) (v1 : Int32) (σ : xS) : x_M (d + 1) 14 [.ref 10, .int v1] σ = (if ((σ 10 1) &&& (63 : Int32)) < 0 ∨ 64 ≤ ((σ 10 1) &&& (63 : Int32)).toNatClampNeg then none else some (0, (x_up (x_up σ 11 (((σ 10 1) &&& (63 : Int32)).toNatClampNeg) v1) 10 1 (((x_up σ 11 (((σ 10 1) &&& (63 : Int32)).toNatClampNeg) v1) 10 1) + (1 : Int32))))) := (x_M_at rfl rfl rfl).trans (e14_0 (x_M d) (xr x_i14 d 4999) v1 σ)
-- DeskMachine$Desk.listFiles()V (14,)
theorem m15 (d : Nat) (σ : xS) : x_M (d + 1) 15 [.ref 14] σ = xr x_i15 d 4999 2 [(0, .ref 14), (1, .int (0 : Int32))] [] σ := (x_M_at rfl rfl rfl).trans (e15_0 (x_M d) (xr x_i15 d 4999) σ)
theorem c15_2 (d n : Nat) (v1 : Int32) (σ : xS) : xr x_i15 d (n + 1) 2 [(0, .ref 14), (1, .int v1)] [] σ = (if (8 : Int32) ≤ v1 then some (0, σ) else ((x_M d 12 [.ref 5, .int v1] σ).bind fun r1 => (if r1.1 = 0 then xr x_i15 d n 21 [(0, .ref 14), (1, .int v1), (2, .int (0 : Int32))] [] r1.2 else xr x_i15 d n 2 [(0, .ref 14), (1, .int (v1 + (1 : Int32)))] [] r1.2))) := (xr_at _ _ _ _ _ _ _).trans (e15_2 (x_M d) (xr x_i15 d n) v1 σ)
theorem c15_21 (d n : Nat) (v1 v2 : Int32) (σ : xS) : xr x_i15 d (n + 1) 21 [(0, .ref 14), (1, .int v1), (2, .int v2)] [] σ = (if (4 : Int32) ≤ v2 then ((x_M d 14 [.ref 10, .int (32 : Int32)] σ).bind fun r1 => xr x_i15 d n 2 [(0, .ref 14), (1, .int (v1 + (1 : Int32)))] [] r1.2) else ((x_M d 13 [.ref 5, .int v1, .int ((1 : Int32) + v2)] σ).bind fun r2 => ((x_M d 14 [.ref 10, .int r2.1] r2.2).bind fun r3 => xr x_i15 d n 21 [(0, .ref 14), (1, .int v1), (2, .int (v2 + (1 : Int32)))] [] r3.2))) := (xr_at _ _ _ _ _ _ _).trans (e15_21 (x_M d) (xr x_i15 d n) v1 v2 σ)
-- DeskMachine$Desk.takeName(I)V (14,)
theorem m16 (d : Nat) (v1 : Int32) (σ : xS) : x_M (d + 1) 16 [.ref 14, .int v1] σ = xr x_i16 d 4999 2 [(0, .ref 14), (1, .int v1), (2, .int (0 : Int32))] [] σ := (x_M_at rfl rfl rfl).trans (e16_0 (x_M d) (xr x_i16 d 4999) v1 σ)
theorem c16_2 (d n : Nat) (v1 v2 : Int32) (σ : xS) : xr x_i16 d (n + 1) 2 [(0, .ref 14), (1, .int v1), (2, .int v2)] [] σ = (if (4 : Int32) ≤ v2 then some (0, σ) else (if v1 < 0 ∨ 3 ≤ v1.toNatClampNeg then none else (if v1 < 0 ∨ 3 ≤ v1.toNatClampNeg then none else (if (σ 17 v1.toNatClampNeg) ≤ ((σ 16 v1.toNatClampNeg) + v2) then (if v2 < 0 ∨ 4 ≤ v2.toNatClampNeg then none else xr x_i16 d n 2 [(0, .ref 14), (1, .int v1), (2, .int (v2 + (1 : Int32)))] [] (x_up σ 18 (v2.toNatClampNeg) (32 : Int32))) else (if ((σ 16 v1.toNatClampNeg) + v2) < 0 ∨ 20 ≤ ((σ 16 v1.toNatClampNeg) + v2).toNatClampNeg then none else (if v2 < 0 ∨ 4 ≤ v2.toNatClampNeg then none else xr x_i16 d n 2 [(0, .ref 14), (1, .int v1), (2, .int (v2 + (1 : Int32)))] [] (x_up σ 18 (v2.toNatClampNeg) (σ 15 ((σ 16 v1.toNatClampNeg) + v2).toNatClampNeg)))))))) := (xr_at _ _ _ _ _ _ _).trans (e16_2 (x_M d) (xr x_i16 d n) v1 v2 σ)
-- DeskMachine$Disk.matches(I[IZ)Z (5, 13)
theorem m17_13 (d : Nat) (v1 v3 : Int32) (σ : xS) : x_M (d + 1) 17 [.ref 5, .int v1, .ref 13, .int v3] σ = (if ((v1 &&& (7 : Int32)) * (16 : Int32)) < 0 ∨ 512 ≤ ((v1 &&& (7 : Int32)) * (16 : Int32)).toNatClampNeg then none else (if (σ 6 ((v1 &&& (7 : Int32)) * (16 : Int32)).toNatClampNeg) = (229 : Int32) then some ((0 : Int32), σ) else xr x_i17 d 4999 27 [(0, .ref 5), (2, .ref 13), (3, .int v3), (4, .int ((v1 &&& (7 : Int32)) * (16 : Int32))), (5, .int (0 : Int32))] [] σ)) := (x_M_at rfl rfl rfl).trans (e17_13_0 (x_M d) (xr x_i17 d 4999) v1 v3 σ)
theorem c17_13_27 (d n : Nat) (v3 v4 v5 : Int32) (σ : xS) : xr x_i17 d (n + 1) 27 [(0, .ref 5), (2, .ref 13), (3, .int v3), (4, .int v4), (5, .int v5)] [] σ = (if (4 : Int32) ≤ v5 then some ((1 : Int32), σ) else (if v5 < 0 ∨ 4 ≤ v5.toNatClampNeg then none else (if ((v4 + (1 : Int32)) + v5) < 0 ∨ 512 ≤ ((v4 + (1 : Int32)) + v5).toNatClampNeg then none else (if (σ 13 v5.toNatClampNeg) = (σ 6 ((v4 + (1 : Int32)) + v5).toNatClampNeg) then xr x_i17 d n 27 [(0, .ref 5), (2, .ref 13), (3, .int v3), (4, .int v4), (5, .int (v5 + (1 : Int32)))] [] σ else (if v3 = 0 then some ((0 : Int32), σ) else (if v5 < 0 ∨ 4 ≤ v5.toNatClampNeg then none else (if (σ 13 v5.toNatClampNeg) = (63 : Int32) then xr x_i17 d n 27 [(0, .ref 5), (2, .ref 13), (3, .int v3), (4, .int v4), (5, .int (v5 + (1 : Int32)))] [] σ else some ((0 : Int32), σ)))))))) := (xr_at _ _ _ _ _ _ _).trans (e17_13_27 (x_M d) (xr x_i17 d n) v3 v4 v5 σ)
-- DeskMachine$Disk.matches(I[IZ)Z (5, 18)
theorem m17_18 (d : Nat) (v1 v3 : Int32) (σ : xS) : x_M (d + 1) 17 [.ref 5, .int v1, .ref 18, .int v3] σ = (if ((v1 &&& (7 : Int32)) * (16 : Int32)) < 0 ∨ 512 ≤ ((v1 &&& (7 : Int32)) * (16 : Int32)).toNatClampNeg then none else (if (σ 6 ((v1 &&& (7 : Int32)) * (16 : Int32)).toNatClampNeg) = (229 : Int32) then some ((0 : Int32), σ) else xr x_i17 d 4999 27 [(0, .ref 5), (2, .ref 18), (3, .int v3), (4, .int ((v1 &&& (7 : Int32)) * (16 : Int32))), (5, .int (0 : Int32))] [] σ)) := (x_M_at rfl rfl rfl).trans (e17_18_0 (x_M d) (xr x_i17 d 4999) v1 v3 σ)
theorem c17_18_27 (d n : Nat) (v3 v4 v5 : Int32) (σ : xS) : xr x_i17 d (n + 1) 27 [(0, .ref 5), (2, .ref 18), (3, .int v3), (4, .int v4), (5, .int v5)] [] σ = (if (4 : Int32) ≤ v5 then some ((1 : Int32), σ) else (if v5 < 0 ∨ 4 ≤ v5.toNatClampNeg then none else (if ((v4 + (1 : Int32)) + v5) < 0 ∨ 512 ≤ ((v4 + (1 : Int32)) + v5).toNatClampNeg then none else (if (σ 18 v5.toNatClampNeg) = (σ 6 ((v4 + (1 : Int32)) + v5).toNatClampNeg) then xr x_i17 d n 27 [(0, .ref 5), (2, .ref 18), (3, .int v3), (4, .int v4), (5, .int (v5 + (1 : Int32)))] [] σ else (if v3 = 0 then some ((0 : Int32), σ) else (if v5 < 0 ∨ 4 ≤ v5.toNatClampNeg then none else (if (σ 18 v5.toNatClampNeg) = (63 : Int32) then xr x_i17 d n 27 [(0, .ref 5), (2, .ref 18), (3, .int v3), (4, .int v4), (5, .int (v5 + (1 : Int32)))] [] σ else some ((0 : Int32), σ)))))))) := (xr_at _ _ _ _ _ _ _).trans (e17_18_27 (x_M d) (xr x_i17 d n) v3 v4 v5 σ)
-- DeskMachine$Disk.findExact([I)I (5, 13)
theorem m18_13 (d : Nat) (σ : xS) : x_M (d + 1) 18 [.ref 5, .ref 13] σ = xr x_i18 d 4999 2 [(0, .ref 5), (1, .ref 13), (2, .int (0 : Int32))] [] σ := (x_M_at rfl rfl rfl).trans (e18_13_0 (x_M d) (xr x_i18 d 4999) σ)
theorem c18_13_2 (d n : Nat) (v2 : Int32) (σ : xS) : xr x_i18 d (n + 1) 2 [(0, .ref 5), (1, .ref 13), (2, .int v2)] [] σ = (if (8 : Int32) ≤ v2 then some ((-1 : Int32), σ) else ((x_M d 17 [.ref 5, .int v2, .ref 13, .int (0 : Int32)] σ).bind fun r1 => (if r1.1 = 0 then xr x_i18 d n 2 [(0, .ref 5), (1, .ref 13), (2, .int (v2 + (1 : Int32)))] [] r1.2 else some (v2, r1.2)))) := (xr_at _ _ _ _ _ _ _).trans (e18_13_2 (x_M d) (xr x_i18 d n) v2 σ)
-- DeskMachine$Disk.findExact([I)I (5, 18)
theorem m18_18 (d : Nat) (σ : xS) : x_M (d + 1) 18 [.ref 5, .ref 18] σ = xr x_i18 d 4999 2 [(0, .ref 5), (1, .ref 18), (2, .int (0 : Int32))] [] σ := (x_M_at rfl rfl rfl).trans (e18_18_0 (x_M d) (xr x_i18 d 4999) σ)
theorem c18_18_2 (d n : Nat) (v2 : Int32) (σ : xS) : xr x_i18 d (n + 1) 2 [(0, .ref 5), (1, .ref 18), (2, .int v2)] [] σ = (if (8 : Int32) ≤ v2 then some ((-1 : Int32), σ) else ((x_M d 17 [.ref 5, .int v2, .ref 18, .int (0 : Int32)] σ).bind fun r1 => (if r1.1 = 0 then xr x_i18 d n 2 [(0, .ref 5), (1, .ref 18), (2, .int (v2 + (1 : Int32)))] [] r1.2 else some (v2, r1.2)))) := (xr_at _ _ _ _ _ _ _).trans (e18_18_2 (x_M d) (xr x_i18 d n) v2 σ)
-- DeskMachine$Desk.findFile(I)I (14,)
theorem m19 (d : Nat) (v1 : Int32) (σ : xS) : x_M (d + 1) 19 [.ref 14, .int v1] σ = ((x_M d 16 [.ref 14, .int v1] σ).bind fun r1 => ((x_M d 18 [.ref 5, .ref 18] r1.2).bind fun r2 => some (r2.1, r2.2))) := (x_M_at rfl rfl rfl).trans (e19_0 (x_M d) (xr x_i19 d 4999) v1 σ)
-- DeskMachine$Disk.recordsOf(I)I (5,)
theorem m20 (d : Nat) (v1 : Int32) (σ : xS) : x_M (d + 1) 20 [.ref 5, .int v1] σ = (if (((v1 &&& (7 : Int32)) * (16 : Int32)) + (5 : Int32)) < 0 ∨ 512 ≤ (((v1 &&& (7 : Int32)) * (16 : Int32)) + (5 : Int32)).toNatClampNeg then none else (if (10 : Int32) ≤ (σ 6 (((v1 &&& (7 : Int32)) * (16 : Int32)) + (5 : Int32)).toNatClampNeg) then some ((10 : Int32), σ) else some ((σ 6 (((v1 &&& (7 : Int32)) * (16 : Int32)) + (5 : Int32)).toNatClampNeg), σ))) := (x_M_at rfl rfl rfl).trans (e20_0 (x_M d) (xr x_i20 d 4999) v1 σ)
-- DeskMachine$Disk.isForRecords(I)Z ()
theorem m21 (d : Nat) (v0 : Int32) (σ : xS) : x_M (d + 1) 21 [.int v0] σ = (if v0 < (8 : Int32) then some ((0 : Int32), σ) else (if (32 : Int32) ≤ v0 then some ((0 : Int32), σ) else some ((1 : Int32), σ))) := (x_M_at rfl rfl rfl).trans (e21_0 (x_M d) (xr x_i21 d 4999) v0 σ)
-- DeskMachine$Desk.showBlock(I)Z (14,)
theorem m22 (d : Nat) (v1 : Int32) (σ : xS) : x_M (d + 1) 22 [.ref 14, .int v1] σ = xr x_i22 d 4999 2 [(0, .ref 14), (1, .int v1), (2, .int (0 : Int32))] [] σ := (x_M_at rfl rfl rfl).trans (e22_0 (x_M d) (xr x_i22 d 4999) v1 σ)
theorem c22_2 (d n : Nat) (v1 v2 : Int32) (σ : xS) : xr x_i22 d (n + 1) 2 [(0, .ref 14), (1, .int v1), (2, .int v2)] [] σ = (if (16 : Int32) ≤ v2 then some ((1 : Int32), σ) else ((x_M d 13 [.ref 5, .int v1, .int v2] σ).bind fun r1 => (if r1.1 = (26 : Int32) then some ((0 : Int32), r1.2) else ((x_M d 14 [.ref 10, .int r1.1] r1.2).bind fun r2 => xr x_i22 d n 2 [(0, .ref 14), (1, .int v1), (2, .int (v2 + (1 : Int32)))] [] r2.2)))) := (xr_at _ _ _ _ _ _ _).trans (e22_2 (x_M d) (xr x_i22 d n) v1 v2 σ)
-- DeskMachine$Desk.showFile()Z (14,)
theorem m23 (d : Nat) (σ : xS) : x_M (d + 1) 23 [.ref 14] σ = ((x_M d 19 [.ref 14, .int (1 : Int32)] σ).bind fun r1 => (if r1.1 = (-1 : Int32) then some ((0 : Int32), r1.2) else ((x_M d 20 [.ref 5, .int r1.1] r1.2).bind fun r2 => xr x_i23 d 4999 24 [(0, .ref 14), (1, .int r1.1), (2, .int r2.1), (3, .int (0 : Int32))] [] r2.2))) := (x_M_at rfl rfl rfl).trans (e23_0 (x_M d) (xr x_i23 d 4999) σ)
theorem c23_24 (d n : Nat) (v1 v2 v3 : Int32) (σ : xS) : xr x_i23 d (n + 1) 24 [(0, .ref 14), (1, .int v1), (2, .int v2), (3, .int v3)] [] σ = (if v2 ≤ v3 then some ((1 : Int32), σ) else ((x_M d 13 [.ref 5, .int v1, .int ((6 : Int32) + v3)] σ).bind fun r1 => ((x_M d 21 [.int r1.1] r1.2).bind fun r2 => (if r2.1 = 0 then xr x_i23 d n 24 [(0, .ref 14), (1, .int v1), (2, .int v2), (3, .int (v3 + (1 : Int32)))] [] r2.2 else ((x_M d 22 [.ref 14, .int r1.1] r2.2).bind fun r3 => (if r3.1 = 0 then some ((1 : Int32), r3.2) else xr x_i23 d n 24 [(0, .ref 14), (1, .int v1), (2, .int v2), (3, .int (v3 + (1 : Int32)))] [] r3.2)))))) := (xr_at _ _ _ _ _ _ _).trans (e23_24 (x_M d) (xr x_i23 d n) v1 v2 v3 σ)
-- DeskMachine$Disk.put(III)V (5,)
theorem m24 (d : Nat) (v1 v2 v3 : Int32) (σ : xS) : x_M (d + 1) 24 [.ref 5, .int v1, .int v2, .int v3] σ = (if (((v1 &&& (31 : Int32)) * (16 : Int32)) + (v2 &&& (15 : Int32))) < 0 ∨ 512 ≤ (((v1 &&& (31 : Int32)) * (16 : Int32)) + (v2 &&& (15 : Int32))).toNatClampNeg then none else some (0, (x_up σ 6 ((((v1 &&& (31 : Int32)) * (16 : Int32)) + (v2 &&& (15 : Int32))).toNatClampNeg) v3))) := (x_M_at rfl rfl rfl).trans (e24_0 (x_M d) (xr x_i24 d 4999) v1 v2 v3 σ)
-- DeskMachine$Disk.free(I)V (5,)
theorem m25 (d : Nat) (v1 : Int32) (σ : xS) : x_M (d + 1) 25 [.ref 5, .int v1] σ = ((x_M d 24 [.ref 5, .int v1, .int (0 : Int32), .int (229 : Int32)] σ).bind fun r1 => some (0, r1.2)) := (x_M_at rfl rfl rfl).trans (e25_0 (x_M d) (xr x_i25 d 4999) v1 σ)
-- DeskMachine$Disk.eraseAny([I)Z (5, 13)
theorem m26_13 (d : Nat) (σ : xS) : x_M (d + 1) 26 [.ref 5, .ref 13] σ = xr x_i26 d 4999 4 [(0, .ref 5), (1, .ref 13), (2, .int (0 : Int32)), (3, .int (0 : Int32))] [] σ := (x_M_at rfl rfl rfl).trans (e26_13_0 (x_M d) (xr x_i26 d 4999) σ)
theorem c26_13_4 (d n : Nat) (v2 v3 : Int32) (σ : xS) : xr x_i26 d (n + 1) 4 [(0, .ref 5), (1, .ref 13), (2, .int v2), (3, .int v3)] [] σ = (if (8 : Int32) ≤ v3 then (if v2 = 0 ∨ v2 = 1 then some (v2, σ) else none) else ((x_M d 17 [.ref 5, .int v3, .ref 13, .int (1 : Int32)] σ).bind fun r1 => (if r1.1 = 0 then xr x_i26 d n 4 [(0, .ref 5), (1, .ref 13), (2, .int v2), (3, .int (v3 + (1 : Int32)))] [] r1.2 else ((x_M d 25 [.ref 5, .int v3] r1.2).bind fun r2 => xr x_i26 d n 4 [(0, .ref 5), (1, .ref 13), (2, .int (1 : Int32)), (3, .int (v3 + (1 : Int32)))] [] r2.2)))) := (xr_at _ _ _ _ _ _ _).trans (e26_13_4 (x_M d) (xr x_i26 d n) v2 v3 σ)
-- DeskMachine$Disk.eraseAny([I)Z (5, 18)
theorem m26_18 (d : Nat) (σ : xS) : x_M (d + 1) 26 [.ref 5, .ref 18] σ = xr x_i26 d 4999 4 [(0, .ref 5), (1, .ref 18), (2, .int (0 : Int32)), (3, .int (0 : Int32))] [] σ := (x_M_at rfl rfl rfl).trans (e26_18_0 (x_M d) (xr x_i26 d 4999) σ)
theorem c26_18_4 (d n : Nat) (v2 v3 : Int32) (σ : xS) : xr x_i26 d (n + 1) 4 [(0, .ref 5), (1, .ref 18), (2, .int v2), (3, .int v3)] [] σ = (if (8 : Int32) ≤ v3 then (if v2 = 0 ∨ v2 = 1 then some (v2, σ) else none) else ((x_M d 17 [.ref 5, .int v3, .ref 18, .int (1 : Int32)] σ).bind fun r1 => (if r1.1 = 0 then xr x_i26 d n 4 [(0, .ref 5), (1, .ref 18), (2, .int v2), (3, .int (v3 + (1 : Int32)))] [] r1.2 else ((x_M d 25 [.ref 5, .int v3] r1.2).bind fun r2 => xr x_i26 d n 4 [(0, .ref 5), (1, .ref 18), (2, .int (1 : Int32)), (3, .int (v3 + (1 : Int32)))] [] r2.2)))) := (xr_at _ _ _ _ _ _ _).trans (e26_18_4 (x_M d) (xr x_i26 d n) v2 v3 σ)
-- DeskMachine$Disk.rename(I[I)V (5, 13)
theorem m27_13 (d : Nat) (v1 : Int32) (σ : xS) : x_M (d + 1) 27 [.ref 5, .int v1, .ref 13] σ = xr x_i27 d 4999 2 [(0, .ref 5), (1, .int v1), (2, .ref 13), (3, .int (0 : Int32))] [] σ := (x_M_at rfl rfl rfl).trans (e27_13_0 (x_M d) (xr x_i27 d 4999) v1 σ)
theorem c27_13_2 (d n : Nat) (v1 v3 : Int32) (σ : xS) : xr x_i27 d (n + 1) 2 [(0, .ref 5), (1, .int v1), (2, .ref 13), (3, .int v3)] [] σ = (if (4 : Int32) ≤ v3 then some (0, σ) else (if v3 < 0 ∨ 4 ≤ v3.toNatClampNeg then none else ((x_M d 24 [.ref 5, .int v1, .int ((1 : Int32) + v3), .int (σ 13 v3.toNatClampNeg)] σ).bind fun r1 => xr x_i27 d n 2 [(0, .ref 5), (1, .int v1), (2, .ref 13), (3, .int (v3 + (1 : Int32)))] [] r1.2))) := (xr_at _ _ _ _ _ _ _).trans (e27_13_2 (x_M d) (xr x_i27 d n) v1 v3 σ)
-- DeskMachine$Disk.rename(I[I)V (5, 18)
theorem m27_18 (d : Nat) (v1 : Int32) (σ : xS) : x_M (d + 1) 27 [.ref 5, .int v1, .ref 18] σ = xr x_i27 d 4999 2 [(0, .ref 5), (1, .int v1), (2, .ref 18), (3, .int (0 : Int32))] [] σ := (x_M_at rfl rfl rfl).trans (e27_18_0 (x_M d) (xr x_i27 d 4999) v1 σ)
theorem c27_18_2 (d n : Nat) (v1 v3 : Int32) (σ : xS) : xr x_i27 d (n + 1) 2 [(0, .ref 5), (1, .int v1), (2, .ref 18), (3, .int v3)] [] σ = (if (4 : Int32) ≤ v3 then some (0, σ) else (if v3 < 0 ∨ 4 ≤ v3.toNatClampNeg then none else ((x_M d 24 [.ref 5, .int v1, .int ((1 : Int32) + v3), .int (σ 18 v3.toNatClampNeg)] σ).bind fun r1 => xr x_i27 d n 2 [(0, .ref 5), (1, .int v1), (2, .ref 18), (3, .int (v3 + (1 : Int32)))] [] r1.2))) := (xr_at _ _ _ _ _ _ _).trans (e27_18_2 (x_M d) (xr x_i27 d n) v1 v3 σ)
-- DeskMachine$Desk.renameFile()Z (14,)
theorem m28 (d : Nat) (σ : xS) : x_M (d + 1) 28 [.ref 14] σ = ((x_M d 19 [.ref 14, .int (1 : Int32)] σ).bind fun r1 => (if r1.1 = (-1 : Int32) then some ((0 : Int32), r1.2) else ((x_M d 16 [.ref 14, .int (2 : Int32)] r1.2).bind fun r2 => ((x_M d 27 [.ref 5, .int r1.1, .ref 18] r2.2).bind fun r3 => some ((1 : Int32), r3.2))))) := (x_M_at rfl rfl rfl).trans (e28_0 (x_M d) (xr x_i28 d 4999) σ)
-- DeskMachine$Disk.make([I)I (5, 13)
theorem m29_13 (d : Nat) (σ : xS) : x_M (d + 1) 29 [.ref 5, .ref 13] σ = xr x_i29 d 4999 2 [(0, .ref 5), (1, .ref 13), (2, .int (0 : Int32))] [] σ := (x_M_at rfl rfl rfl).trans (e29_13_0 (x_M d) (xr x_i29 d 4999) σ)
theorem c29_13_2 (d n : Nat) (v2 : Int32) (σ : xS) : xr x_i29 d (n + 1) 2 [(0, .ref 5), (1, .ref 13), (2, .int v2)] [] σ = (if (8 : Int32) ≤ v2 then some ((-1 : Int32), σ) else ((x_M d 12 [.ref 5, .int v2] σ).bind fun r1 => (if r1.1 = 0 then xr x_i29 d n 2 [(0, .ref 5), (1, .ref 13), (2, .int (v2 + (1 : Int32)))] [] r1.2 else xr x_i29 d n 18 [(0, .ref 5), (1, .ref 13), (2, .int v2), (3, .int (0 : Int32))] [] r1.2))) := (xr_at _ _ _ _ _ _ _).trans (e29_13_2 (x_M d) (xr x_i29 d n) v2 σ)
theorem c29_13_18 (d n : Nat) (v2 v3 : Int32) (σ : xS) : xr x_i29 d (n + 1) 18 [(0, .ref 5), (1, .ref 13), (2, .int v2), (3, .int v3)] [] σ = (if (16 : Int32) ≤ v3 then ((x_M d 27 [.ref 5, .int v2, .ref 13] σ).bind fun r1 => some (v2, r1.2)) else ((x_M d 24 [.ref 5, .int v2, .int v3, .int (0 : Int32)] σ).bind fun r2 => xr x_i29 d n 18 [(0, .ref 5), (1, .ref 13), (2, .int v2), (3, .int (v3 + (1 : Int32)))] [] r2.2)) := (xr_at _ _ _ _ _ _ _).trans (e29_13_18 (x_M d) (xr x_i29 d n) v2 v3 σ)
-- DeskMachine$Disk.make([I)I (5, 18)
theorem m29_18 (d : Nat) (σ : xS) : x_M (d + 1) 29 [.ref 5, .ref 18] σ = xr x_i29 d 4999 2 [(0, .ref 5), (1, .ref 18), (2, .int (0 : Int32))] [] σ := (x_M_at rfl rfl rfl).trans (e29_18_0 (x_M d) (xr x_i29 d 4999) σ)
theorem c29_18_2 (d n : Nat) (v2 : Int32) (σ : xS) : xr x_i29 d (n + 1) 2 [(0, .ref 5), (1, .ref 18), (2, .int v2)] [] σ = (if (8 : Int32) ≤ v2 then some ((-1 : Int32), σ) else ((x_M d 12 [.ref 5, .int v2] σ).bind fun r1 => (if r1.1 = 0 then xr x_i29 d n 2 [(0, .ref 5), (1, .ref 18), (2, .int (v2 + (1 : Int32)))] [] r1.2 else xr x_i29 d n 18 [(0, .ref 5), (1, .ref 18), (2, .int v2), (3, .int (0 : Int32))] [] r1.2))) := (xr_at _ _ _ _ _ _ _).trans (e29_18_2 (x_M d) (xr x_i29 d n) v2 σ)
theorem c29_18_18 (d n : Nat) (v2 v3 : Int32) (σ : xS) : xr x_i29 d (n + 1) 18 [(0, .ref 5), (1, .ref 18), (2, .int v2), (3, .int v3)] [] σ = (if (16 : Int32) ≤ v3 then ((x_M d 27 [.ref 5, .int v2, .ref 18] σ).bind fun r1 => some (v2, r1.2)) else ((x_M d 24 [.ref 5, .int v2, .int v3, .int (0 : Int32)] σ).bind fun r2 => xr x_i29 d n 18 [(0, .ref 5), (1, .ref 18), (2, .int v2), (3, .int (v3 + (1 : Int32)))] [] r2.2)) := (xr_at _ _ _ _ _ _ _).trans (e29_18_18 (x_M d) (xr x_i29 d n) v2 v3 σ)
-- DeskMachine$Disk.mark(I)V (5,)
theorem m30 (d : Nat) (v1 : Int32) (σ : xS) : x_M (d + 1) 30 [.ref 5, .int v1] σ = (if (v1 &&& (255 : Int32)) < 0 ∨ 256 ≤ (v1 &&& (255 : Int32)).toNatClampNeg then none else some (0, (x_up σ 7 ((v1 &&& (255 : Int32)).toNatClampNeg) (vp_nar .boolean (1 : Int32))))) := (x_M_at rfl rfl rfl).trans (e30_0 (x_M d) (xr x_i30 d 4999) v1 σ)
-- DeskMachine$Disk.markUsed()V (5,)
theorem m31 (d : Nat) (σ : xS) : x_M (d + 1) 31 [.ref 5] σ = xr x_i31 d 4999 3 [(0, .ref 5), (1, .int (8 : Int32))] [] σ := (x_M_at rfl rfl rfl).trans (e31_0 (x_M d) (xr x_i31 d 4999) σ)
theorem c31_3 (d n : Nat) (v1 : Int32) (σ : xS) : xr x_i31 d (n + 1) 3 [(0, .ref 5), (1, .int v1)] [] σ = (if (32 : Int32) ≤ v1 then xr x_i31 d n 24 [(0, .ref 5), (1, .int (0 : Int32))] [] σ else (if v1 < 0 ∨ 256 ≤ v1.toNatClampNeg then none else xr x_i31 d n 3 [(0, .ref 5), (1, .int (v1 + (1 : Int32)))] [] (x_up σ 7 (v1.toNatClampNeg) (vp_nar .boolean (0 : Int32))))) := (xr_at _ _ _ _ _ _ _).trans (e31_3 (x_M d) (xr x_i31 d n) v1 σ)
theorem c31_24 (d n : Nat) (v1 : Int32) (σ : xS) : xr x_i31 d (n + 1) 24 [(0, .ref 5), (1, .int v1)] [] σ = (if (8 : Int32) ≤ v1 then some (0, σ) else ((x_M d 12 [.ref 5, .int v1] σ).bind fun r1 => (if r1.1 = 0 then ((x_M d 20 [.ref 5, .int v1] r1.2).bind fun r2 => xr x_i31 d n 50 [(0, .ref 5), (1, .int v1), (2, .int r2.1), (3, .int (0 : Int32))] [] r2.2) else xr x_i31 d n 50 [(0, .ref 5), (1, .int v1), (2, .int (0 : Int32)), (3, .int (0 : Int32))] [] r1.2))) := (xr_at _ _ _ _ _ _ _).trans (e31_24 (x_M d) (xr x_i31 d n) v1 σ)
theorem c31_50 (d n : Nat) (v1 v2 v3 : Int32) (σ : xS) : xr x_i31 d (n + 1) 50 [(0, .ref 5), (1, .int v1), (2, .int v2), (3, .int v3)] [] σ = (if v2 ≤ v3 then xr x_i31 d n 24 [(0, .ref 5), (1, .int (v1 + (1 : Int32)))] [] σ else ((x_M d 13 [.ref 5, .int v1, .int ((6 : Int32) + v3)] σ).bind fun r1 => ((x_M d 30 [.ref 5, .int r1.1] r1.2).bind fun r2 => xr x_i31 d n 50 [(0, .ref 5), (1, .int v1), (2, .int v2), (3, .int (v3 + (1 : Int32)))] [] r2.2))) := (xr_at _ _ _ _ _ _ _).trans (e31_50 (x_M d) (xr x_i31 d n) v1 v2 v3 σ)
-- DeskMachine$Disk.leastUnmarked()I (5,)
theorem m32 (d : Nat) (σ : xS) : x_M (d + 1) 32 [.ref 5] σ = xr x_i32 d 4999 3 [(0, .ref 5), (1, .int (8 : Int32))] [] σ := (x_M_at rfl rfl rfl).trans (e32_0 (x_M d) (xr x_i32 d 4999) σ)
theorem c32_3 (d n : Nat) (v1 : Int32) (σ : xS) : xr x_i32 d (n + 1) 3 [(0, .ref 5), (1, .int v1)] [] σ = (if (32 : Int32) ≤ v1 then some ((-1 : Int32), σ) else (if v1 < 0 ∨ 256 ≤ v1.toNatClampNeg then none else (if (σ 7 v1.toNatClampNeg) = 0 then some (v1, σ) else xr x_i32 d n 3 [(0, .ref 5), (1, .int (v1 + (1 : Int32)))] [] σ))) := (xr_at _ _ _ _ _ _ _).trans (e32_3 (x_M d) (xr x_i32 d n) v1 σ)
-- DeskMachine$Memory.get(I)I (1,)
theorem m33 (d : Nat) (v1 : Int32) (σ : xS) : x_M (d + 1) 33 [.ref 1, .int v1] σ = (if (v1 &&& (511 : Int32)) < 0 ∨ 512 ≤ (v1 &&& (511 : Int32)).toNatClampNeg then none else some ((σ 2 (v1 &&& (511 : Int32)).toNatClampNeg), σ)) := (x_M_at rfl rfl rfl).trans (e33_0 (x_M d) (xr x_i33 d 4999) v1 σ)
-- DeskMachine$Disk.write(ILDeskMachine$Memory;I)V (5, 1)
theorem m34 (d : Nat) (v1 v3 : Int32) (σ : xS) : x_M (d + 1) 34 [.ref 5, .int v1, .ref 1, .int v3] σ = xr x_i34 d 4999 3 [(0, .ref 5), (1, .int v1), (2, .ref 1), (3, .int v3), (4, .int (0 : Int32))] [] σ := (x_M_at rfl rfl rfl).trans (e34_0 (x_M d) (xr x_i34 d 4999) v1 v3 σ)
theorem c34_3 (d n : Nat) (v1 v3 v4 : Int32) (σ : xS) : xr x_i34 d (n + 1) 3 [(0, .ref 5), (1, .int v1), (2, .ref 1), (3, .int v3), (4, .int v4)] [] σ = (if (16 : Int32) ≤ v4 then some (0, σ) else ((x_M d 33 [.ref 1, .int (v3 + v4)] σ).bind fun r1 => ((x_M d 24 [.ref 5, .int v1, .int v4, .int r1.1] r1.2).bind fun r2 => xr x_i34 d n 3 [(0, .ref 5), (1, .int v1), (2, .ref 1), (3, .int v3), (4, .int (v4 + (1 : Int32)))] [] r2.2))) := (xr_at _ _ _ _ _ _ _).trans (e34_3 (x_M d) (xr x_i34 d n) v1 v3 v4 σ)
-- DeskMachine$Desk.saveRecords(II)Z (14,)
theorem m35 (d : Nat) (v1 v2 : Int32) (σ : xS) : x_M (d + 1) 35 [.ref 14, .int v1, .int v2] σ = xr x_i35 d 4999 2 [(0, .ref 14), (1, .int v1), (2, .int v2), (3, .int (0 : Int32))] [] σ := (x_M_at rfl rfl rfl).trans (e35_0 (x_M d) (xr x_i35 d 4999) v1 v2 σ)
theorem c35_2 (d n : Nat) (v1 v2 v3 : Int32) (σ : xS) : xr x_i35 d (n + 1) 2 [(0, .ref 14), (1, .int v1), (2, .int v2), (3, .int v3)] [] σ = (if v2 ≤ v3 then some ((1 : Int32), σ) else ((x_M d 31 [.ref 5] σ).bind fun r1 => ((x_M d 32 [.ref 5] r1.2).bind fun r2 => (if r2.1 = (-1 : Int32) then some ((0 : Int32), r2.2) else ((x_M d 34 [.ref 5, .int r2.1, .ref 1, .int ((256 : Int32) + ((16 : Int32) * v3))] r2.2).bind fun r3 => ((x_M d 24 [.ref 5, .int v1, .int ((6 : Int32) + v3), .int r2.1] r3.2).bind fun r4 => ((x_M d 24 [.ref 5, .int v1, .int (5 : Int32), .int (v3 + (1 : Int32))] r4.2).bind fun r5 => xr x_i35 d n 2 [(0, .ref 14), (1, .int v1), (2, .int v2), (3, .int (v3 + (1 : Int32)))] [] r5.2))))))) := (xr_at _ _ _ _ _ _ _).trans (e35_2 (x_M d) (xr x_i35 d n) v1 v2 v3 σ)
-- DeskMachine$Desk.saveFile()Z (14,)
theorem m36 (d : Nat) (σ : xS) : x_M (d + 1) 36 [.ref 14] σ = (if (σ 16 1) < 0 ∨ 20 ≤ (σ 16 1).toNatClampNeg then none else (if ((σ 17 1) - (σ 16 1)) = (1 : Int32) then (if ((σ 15 (σ 16 1).toNatClampNeg) - (48 : Int32)) < 0 then some ((0 : Int32), σ) else (if ((σ 15 (σ 16 1).toNatClampNeg) - (48 : Int32)) ≤ (9 : Int32) then ((x_M d 19 [.ref 14, .int (2 : Int32)] σ).bind fun r1 => (if r1.1 = (-1 : Int32) then ((x_M d 29 [.ref 5, .ref 18] r1.2).bind fun r2 => (if r2.1 = (-1 : Int32) then some ((0 : Int32), r2.2) else ((x_M d 35 [.ref 14, .int r2.1, .int ((σ 15 (σ 16 1).toNatClampNeg) - (48 : Int32))] r2.2).bind fun r3 => (if r3.1 = 0 then some ((0 : Int32), r3.2) else some ((1 : Int32), r3.2))))) else ((x_M d 25 [.ref 5, .int r1.1] r1.2).bind fun r4 => ((x_M d 29 [.ref 5, .ref 18] r4.2).bind fun r5 => (if r5.1 = (-1 : Int32) then some ((0 : Int32), r5.2) else ((x_M d 35 [.ref 14, .int r5.1, .int ((σ 15 (σ 16 1).toNatClampNeg) - (48 : Int32))] r5.2).bind fun r6 => (if r6.1 = 0 then some ((0 : Int32), r6.2) else some ((1 : Int32), r6.2)))))))) else some ((0 : Int32), σ))) else some ((0 : Int32), σ))) := (x_M_at rfl rfl rfl).trans (e36_0 (x_M d) (xr x_i36 d 4999) σ)
-- DeskMachine$Memory.put(II)V (1,)
theorem m37 (d : Nat) (v1 v2 : Int32) (σ : xS) : x_M (d + 1) 37 [.ref 1, .int v1, .int v2] σ = (if (v1 &&& (511 : Int32)) < 0 ∨ 512 ≤ (v1 &&& (511 : Int32)).toNatClampNeg then none else some (0, (x_up σ 2 ((v1 &&& (511 : Int32)).toNatClampNeg) (v2 &&& (255 : Int32))))) := (x_M_at rfl rfl rfl).trans (e37_0 (x_M d) (xr x_i37 d 4999) v1 v2 σ)
-- DeskMachine$Disk.read(ILDeskMachine$Memory;I)V (5, 1)
theorem m38 (d : Nat) (v1 v3 : Int32) (σ : xS) : x_M (d + 1) 38 [.ref 5, .int v1, .ref 1, .int v3] σ = xr x_i38 d 4999 3 [(0, .ref 5), (1, .int v1), (2, .ref 1), (3, .int v3), (4, .int (0 : Int32))] [] σ := (x_M_at rfl rfl rfl).trans (e38_0 (x_M d) (xr x_i38 d 4999) v1 v3 σ)
theorem c38_3 (d n : Nat) (v1 v3 v4 : Int32) (σ : xS) : xr x_i38 d (n + 1) 3 [(0, .ref 5), (1, .int v1), (2, .ref 1), (3, .int v3), (4, .int v4)] [] σ = (if (16 : Int32) ≤ v4 then some (0, σ) else ((x_M d 13 [.ref 5, .int v1, .int v4] σ).bind fun r1 => ((x_M d 37 [.ref 1, .int (v3 + v4), .int r1.1] r1.2).bind fun r2 => xr x_i38 d n 3 [(0, .ref 5), (1, .int v1), (2, .ref 1), (3, .int v3), (4, .int (v4 + (1 : Int32)))] [] r2.2))) := (xr_at _ _ _ _ _ _ _).trans (e38_3 (x_M d) (xr x_i38 d n) v1 v3 v4 σ)
-- DeskMachine$Desk.loadFile()Z (14,)
theorem m39 (d : Nat) (σ : xS) : x_M (d + 1) 39 [.ref 14] σ = ((x_M d 19 [.ref 14, .int (0 : Int32)] σ).bind fun r1 => (if r1.1 = (-1 : Int32) then some ((0 : Int32), r1.2) else ((x_M d 20 [.ref 5, .int r1.1] r1.2).bind fun r2 => xr x_i39 d 4999 24 [(0, .ref 14), (1, .int r1.1), (2, .int r2.1), (3, .int (0 : Int32))] [] r2.2))) := (x_M_at rfl rfl rfl).trans (e39_0 (x_M d) (xr x_i39 d 4999) σ)
theorem c39_24 (d n : Nat) (v1 v2 v3 : Int32) (σ : xS) : xr x_i39 d (n + 1) 24 [(0, .ref 14), (1, .int v1), (2, .int v2), (3, .int v3)] [] σ = (if v2 ≤ v3 then some ((1 : Int32), σ) else ((x_M d 13 [.ref 5, .int v1, .int ((6 : Int32) + v3)] σ).bind fun r1 => ((x_M d 21 [.int r1.1] r1.2).bind fun r2 => (if r2.1 = 0 then xr x_i39 d n 24 [(0, .ref 14), (1, .int v1), (2, .int v2), (3, .int (v3 + (1 : Int32)))] [] r2.2 else ((x_M d 38 [.ref 5, .int r1.1, .ref 1, .int ((256 : Int32) + ((16 : Int32) * v3))] r2.2).bind fun r3 => xr x_i39 d n 24 [(0, .ref 14), (1, .int v1), (2, .int v2), (3, .int (v3 + (1 : Int32)))] [] r3.2))))) := (xr_at _ _ _ _ _ _ _).trans (e39_24 (x_M d) (xr x_i39 d n) v1 v2 v3 σ)
-- DeskMachine$Desk.obey(I)Z (14,)
theorem m40 (d : Nat) (v1 : Int32) (σ : xS) : x_M (d + 1) 40 [.ref 14, .int v1] σ = (if v1 = (0 : Int32) then ((x_M d 15 [.ref 14] σ).bind fun r7 => some ((1 : Int32), r7.2)) else (if v1 = (1 : Int32) then ((x_M d 23 [.ref 14] σ).bind fun r6 => (if r6.1 = 0 ∨ r6.1 = 1 then some (r6.1, r6.2) else none)) else (if v1 = (2 : Int32) then ((x_M d 16 [.ref 14, .int (1 : Int32)] σ).bind fun r4 => ((x_M d 26 [.ref 5, .ref 18] r4.2).bind fun r5 => some ((1 : Int32), r5.2))) else (if v1 = (3 : Int32) then ((x_M d 28 [.ref 14] σ).bind fun r3 => (if r3.1 = 0 ∨ r3.1 = 1 then some (r3.1, r3.2) else none)) else (if v1 = (4 : Int32) then ((x_M d 36 [.ref 14] σ).bind fun r2 => (if r2.1 = 0 ∨ r2.1 = 1 then some (r2.1, r2.2) else none)) else (if v1 = (5 : Int32) then ((x_M d 39 [.ref 14] σ).bind fun r1 => (if r1.1 = 0 ∨ r1.1 = 1 then some (r1.1, r1.2) else none)) else some ((1 : Int32), σ))))))) := (x_M_at rfl rfl rfl).trans (e40_0 (x_M d) (xr x_i40 d 4999) v1 σ)
-- DeskMachine$Desk.endLine()Z (14,)
theorem m41 (d : Nat) (σ : xS) : x_M (d + 1) 41 [.ref 14] σ = ((x_M d 9 [.ref 14] σ).bind fun r1 => ((x_M d 11 [.ref 14] (x_up r1.2 14 7 (0 : Int32))).bind fun r2 => (if r2.1 < 0 ∨ 7 ≤ r2.1.toNatClampNeg then none else (if (r2.2 14 8) < (([1, 2, 2, 3, 3, 1, 0] : List Int32).getD r2.1.toNatClampNeg 0) then (if (0 : Int32) = 0 then ((x_M d 14 [.ref 10, .int (63 : Int32)] r2.2).bind fun r3 => xr x_i41 d 4999 53 [(0, .ref 14), (1, .int r2.1), (2, .int (0 : Int32))] [] r3.2) else xr x_i41 d 4999 53 [(0, .ref 14), (1, .int r2.1), (2, .int (0 : Int32))] [] r2.2) else ((x_M d 40 [.ref 14, .int r2.1] r2.2).bind fun r4 => (if r4.1 = 0 then (if (0 : Int32) = 0 then ((x_M d 14 [.ref 10, .int (63 : Int32)] r4.2).bind fun r5 => xr x_i41 d 4999 53 [(0, .ref 14), (1, .int r2.1), (2, .int (0 : Int32))] [] r5.2) else xr x_i41 d 4999 53 [(0, .ref 14), (1, .int r2.1), (2, .int (0 : Int32))] [] r4.2) else (if (1 : Int32) = 0 then ((x_M d 14 [.ref 10, .int (63 : Int32)] r4.2).bind fun r6 => xr x_i41 d 4999 53 [(0, .ref 14), (1, .int r2.1), (2, .int (1 : Int32))] [] r6.2) else xr x_i41 d 4999 53 [(0, .ref 14), (1, .int r2.1), (2, .int (1 : Int32))] [] r4.2))))))) := (x_M_at rfl rfl rfl).trans (e41_0 (x_M d) (xr x_i41 d 4999) σ)
theorem c41_53 (d n : Nat) (v1 v2 : Int32) (σ : xS) : xr x_i41 d (n + 1) 53 [(0, .ref 14), (1, .int v1), (2, .int v2)] [] σ = ((x_M d 14 [.ref 10, .int (13 : Int32)] σ).bind fun r1 => (if v2 = 0 then (if (0 : Int32) = 0 then ((x_M d 14 [.ref 10, .int (62 : Int32)] r1.2).bind fun r2 => some ((0 : Int32), r2.2)) else some ((0 : Int32), r1.2)) else (if v1 = (5 : Int32) then (if (1 : Int32) = 0 then ((x_M d 14 [.ref 10, .int (62 : Int32)] r1.2).bind fun r4 => some ((1 : Int32), r4.2)) else some ((1 : Int32), r1.2)) else (if (0 : Int32) = 0 then ((x_M d 14 [.ref 10, .int (62 : Int32)] r1.2).bind fun r3 => some ((0 : Int32), r3.2)) else some ((0 : Int32), r1.2))))) := (xr_at _ _ _ _ _ _ _).trans (e41_53 (x_M d) (xr x_i41 d n) v1 v2 σ)
-- DeskMachine$Processor.setFlags(I)V (3,)
theorem m42 (d : Nat) (v1 : Int32) (σ : xS) : x_M (d + 1) 42 [.ref 3, .int v1] σ = some (0, (x_up (x_up (x_up (x_up (x_up σ 3 4 ((v1 >>> ((7 : Int32) &&& 31)) &&& (1 : Int32))) 3 5 ((v1 >>> ((6 : Int32) &&& 31)) &&& (1 : Int32))) 3 6 ((v1 >>> ((4 : Int32) &&& 31)) &&& (1 : Int32))) 3 7 ((v1 >>> ((2 : Int32) &&& 31)) &&& (1 : Int32))) 3 8 (v1 &&& (1 : Int32)))) := (x_M_at rfl rfl rfl).trans (e42_0 (x_M d) (xr x_i42 d 4999) v1 σ)
-- DeskMachine$Memory.putWord(II)V (1,)
theorem m43 (d : Nat) (v1 v2 : Int32) (σ : xS) : x_M (d + 1) 43 [.ref 1, .int v1, .int v2] σ = (if (v1 &&& (511 : Int32)) < 0 ∨ 512 ≤ (v1 &&& (511 : Int32)).toNatClampNeg then none else (if ((v1 + (1 : Int32)) &&& (511 : Int32)) < 0 ∨ 512 ≤ ((v1 + (1 : Int32)) &&& (511 : Int32)).toNatClampNeg then none else some (0, (x_up (x_up σ 2 ((v1 &&& (511 : Int32)).toNatClampNeg) (v2 &&& (255 : Int32))) 2 (((v1 + (1 : Int32)) &&& (511 : Int32)).toNatClampNeg) ((v2 >>> ((8 : Int32) &&& 31)) &&& (255 : Int32)))))) := (x_M_at rfl rfl rfl).trans (e43_0 (x_M d) (xr x_i43 d 4999) v1 v2 σ)
-- DeskMachine$Processor.push(I)V (3,)
theorem m44 (d : Nat) (v1 : Int32) (σ : xS) : x_M (d + 1) 44 [.ref 3, .int v1] σ = ((x_M d 43 [.ref 1, .int ((x_up σ 3 2 (((σ 3 2) - (2 : Int32)) &&& (Int32.ofNat 65535))) 3 2), .int v1] (x_up σ 3 2 (((σ 3 2) - (2 : Int32)) &&& (Int32.ofNat 65535)))).bind fun r1 => some (0, r1.2)) := (x_M_at rfl rfl rfl).trans (e44_0 (x_M d) (xr x_i44 d 4999) v1 σ)
-- DeskMachine$Processor.start()V (3,)
theorem m45 (d : Nat) (σ : xS) : x_M (d + 1) 45 [.ref 3] σ = xr x_i45 d 4999 2 [(0, .ref 3), (1, .int (0 : Int32))] [] σ := (x_M_at rfl rfl rfl).trans (e45_0 (x_M d) (xr x_i45 d 4999) σ)
theorem c45_2 (d n : Nat) (v1 : Int32) (σ : xS) : xr x_i45 d (n + 1) 2 [(0, .ref 3), (1, .int v1)] [] σ = (if (8 : Int32) ≤ v1 then ((x_M d 42 [.ref 3, .int (0 : Int32)] σ).bind fun r1 => ((x_M d 44 [.ref 3, .int (0 : Int32)] (x_up r1.2 3 2 (496 : Int32))).bind fun r2 => some (0, (x_up r2.2 3 3 (256 : Int32))))) else (if v1 < 0 ∨ 8 ≤ v1.toNatClampNeg then none else xr x_i45 d n 2 [(0, .ref 3), (1, .int (v1 + (1 : Int32)))] [] (x_up σ 4 (v1.toNatClampNeg) (0 : Int32)))) := (xr_at _ _ _ _ _ _ _).trans (e45_2 (x_M d) (xr x_i45 d n) v1 σ)
-- DeskMachine.stepAtDesk()Z (0,)
theorem m46 (d : Nat) (σ : xS) : x_M (d + 1) 46 [.ref 0] σ = ((x_M d 5 [.ref 8] σ).bind fun r1 => (if r1.1 = 0 then ((x_M d 6 [.ref 8] r1.2).bind fun r2 => (if r2.1 = (13 : Int32) then ((x_M d 41 [.ref 14] r2.2).bind fun r3 => (if r3.1 = 0 then some ((1 : Int32), r3.2) else ((x_M d 45 [.ref 3] r3.2).bind fun r4 => some ((1 : Int32), (x_up (x_up r4.2 12 3 (128 : Int32)) 0 7 (1 : Int32)))))) else ((x_M d 7 [.ref 14, .int r2.1] r2.2).bind fun r5 => some ((1 : Int32), r5.2)))) else some ((0 : Int32), r1.2))) := (x_M_at rfl rfl rfl).trans (e46_0 (x_M d) (xr x_i46 d 4999) σ)
-- DeskMachine$Processor.nextByte()I (3,)
theorem m47 (d : Nat) (σ : xS) : x_M (d + 1) 47 [.ref 3] σ = ((x_M d 33 [.ref 1, .int (σ 3 3)] σ).bind fun r1 => some (r1.1, (x_up r1.2 3 3 (((r1.2 3 3) + (1 : Int32)) &&& (Int32.ofNat 65535))))) := (x_M_at rfl rfl rfl).trans (e47_0 (x_M d) (xr x_i47 d 4999) σ)
-- DeskMachine$Processor.nextWord()I (3,)
theorem m48 (d : Nat) (σ : xS) : x_M (d + 1) 48 [.ref 3] σ = ((x_M d 47 [.ref 3] σ).bind fun r1 => ((x_M d 47 [.ref 3] r1.2).bind fun r2 => some ((r1.1 ||| (r2.1 <<< ((8 : Int32) &&& 31))), r2.2))) := (x_M_at rfl rfl rfl).trans (e48_0 (x_M d) (xr x_i48 d 4999) σ)
-- DeskMachine$Processor.setPair(II)V (3,)
theorem m49 (d : Nat) (v1 v2 : Int32) (σ : xS) : x_M (d + 1) 49 [.ref 3, .int v1, .int v2] σ = (if v1 = (3 : Int32) then some (0, (x_up σ 3 2 (v2 &&& (Int32.ofNat 65535)))) else (if ((2 : Int32) * v1) < 0 ∨ 8 ≤ ((2 : Int32) * v1).toNatClampNeg then none else (if (((2 : Int32) * v1) + (1 : Int32)) < 0 ∨ 8 ≤ (((2 : Int32) * v1) + (1 : Int32)).toNatClampNeg then none else some (0, (x_up (x_up σ 4 (((2 : Int32) * v1).toNatClampNeg) ((v2 >>> ((8 : Int32) &&& 31)) &&& (255 : Int32))) 4 ((((2 : Int32) * v1) + (1 : Int32)).toNatClampNeg) (v2 &&& (255 : Int32))))))) := (x_M_at rfl rfl rfl).trans (e49_0 (x_M d) (xr x_i49 d 4999) v1 v2 σ)
-- DeskMachine$Processor.pair(I)I (3,)
theorem m50 (d : Nat) (v1 : Int32) (σ : xS) : x_M (d + 1) 50 [.ref 3, .int v1] σ = (if v1 = (3 : Int32) then some ((σ 3 2), σ) else (if ((2 : Int32) * v1) < 0 ∨ 8 ≤ ((2 : Int32) * v1).toNatClampNeg then none else (if (((2 : Int32) * v1) + (1 : Int32)) < 0 ∨ 8 ≤ (((2 : Int32) * v1) + (1 : Int32)).toNatClampNeg then none else some ((((σ 4 ((2 : Int32) * v1).toNatClampNeg) <<< ((8 : Int32) &&& 31)) ||| (σ 4 (((2 : Int32) * v1) + (1 : Int32)).toNatClampNeg)), σ)))) := (x_M_at rfl rfl rfl).trans (e50_0 (x_M d) (xr x_i50 d 4999) v1 σ)
-- DeskMachine$Processor.addToHL(I)V (3,)
theorem m51 (d : Nat) (v1 : Int32) (σ : xS) : x_M (d + 1) 51 [.ref 3, .int v1] σ = ((x_M d 50 [.ref 3, .int (2 : Int32)] σ).bind fun r1 => ((x_M d 49 [.ref 3, .int (2 : Int32), .int (r1.1 + v1)] r1.2).bind fun r2 => some (0, (x_up r2.2 3 8 ((r1.1 + v1) >>> ((16 : Int32) &&& 31)))))) := (x_M_at rfl rfl rfl).trans (e51_0 (x_M d) (xr x_i51 d 4999) v1 σ)
-- DeskMachine$Memory.word(I)I (1,)
theorem m52 (d : Nat) (v1 : Int32) (σ : xS) : x_M (d + 1) 52 [.ref 1, .int v1] σ = (if (v1 &&& (511 : Int32)) < 0 ∨ 512 ≤ (v1 &&& (511 : Int32)).toNatClampNeg then none else (if ((v1 + (1 : Int32)) &&& (511 : Int32)) < 0 ∨ 512 ≤ ((v1 + (1 : Int32)) &&& (511 : Int32)).toNatClampNeg then none else some (((σ 2 (v1 &&& (511 : Int32)).toNatClampNeg) ||| ((σ 2 ((v1 + (1 : Int32)) &&& (511 : Int32)).toNatClampNeg) <<< ((8 : Int32) &&& 31))), σ))) := (x_M_at rfl rfl rfl).trans (e52_0 (x_M d) (xr x_i52 d 4999) v1 σ)
-- DeskMachine$Processor.moveByAddress(I)V (3,)
theorem m53 (d : Nat) (v1 : Int32) (σ : xS) : x_M (d + 1) 53 [.ref 3, .int v1] σ = (if v1 = (0 : Int32) then ((x_M d 50 [.ref 3, .int (v1 >>> ((1 : Int32) &&& 31))] σ).bind fun r17 => ((x_M d 37 [.ref 1, .int r17.1, .int (r17.2 4 7)] r17.2).bind fun r18 => some (0, r18.2))) else (if v1 = (1 : Int32) then ((x_M d 50 [.ref 3, .int (v1 >>> ((1 : Int32) &&& 31))] σ).bind fun r15 => ((x_M d 33 [.ref 1, .int r15.1] r15.2).bind fun r16 => some (0, (x_up r16.2 4 7 r16.1)))) else (if v1 = (2 : Int32) then ((x_M d 50 [.ref 3, .int (v1 >>> ((1 : Int32) &&& 31))] σ).bind fun r13 => ((x_M d 37 [.ref 1, .int r13.1, .int (r13.2 4 7)] r13.2).bind fun r14 => some (0, r14.2))) else (if v1 = (3 : Int32) then ((x_M d 50 [.ref 3, .int (v1 >>> ((1 : Int32) &&& 31))] σ).bind fun r11 => ((x_M d 33 [.ref 1, .int r11.1] r11.2).bind fun r12 => some (0, (x_up r12.2 4 7 r12.1)))) else (if v1 = (4 : Int32) then ((x_M d 48 [.ref 3] σ).bind fun r8 => ((x_M d 50 [.ref 3, .int (2 : Int32)] r8.2).bind fun r9 => ((x_M d 43 [.ref 1, .int r8.1, .int r9.1] r9.2).bind fun r10 => some (0, r10.2)))) else (if v1 = (5 : Int32) then ((x_M d 48 [.ref 3] σ).bind fun r5 => ((x_M d 52 [.ref 1, .int r5.1] r5.2).bind fun r6 => ((x_M d 49 [.ref 3, .int (2 : Int32), .int r6.1] r6.2).bind fun r7 => some (0, r7.2)))) else (if v1 = (6 : Int32) then ((x_M d 48 [.ref 3] σ).bind fun r3 => ((x_M d 37 [.ref 1, .int r3.1, .int (r3.2 4 7)] r3.2).bind fun r4 => some (0, r4.2))) else ((x_M d 48 [.ref 3] σ).bind fun r1 => ((x_M d 33 [.ref 1, .int r1.1] r1.2).bind fun r2 => some (0, (x_up r2.2 4 7 r2.1))))))))))) := (x_M_at rfl rfl rfl).trans (e53_0 (x_M d) (xr x_i53 d 4999) v1 σ)
-- DeskMachine$Processor.get(I)I (3,)
theorem m54 (d : Nat) (v1 : Int32) (σ : xS) : x_M (d + 1) 54 [.ref 3, .int v1] σ = (if v1 = (6 : Int32) then ((x_M d 50 [.ref 3, .int (2 : Int32)] σ).bind fun r1 => ((x_M d 33 [.ref 1, .int r1.1] r1.2).bind fun r2 => some (r2.1, r2.2))) else (if v1 < 0 ∨ 8 ≤ v1.toNatClampNeg then none else some ((σ 4 v1.toNatClampNeg), σ))) := (x_M_at rfl rfl rfl).trans (e54_0 (x_M d) (xr x_i54 d 4999) v1 σ)
-- DeskMachine$Processor.put(II)V (3,)
theorem m55 (d : Nat) (v1 v2 : Int32) (σ : xS) : x_M (d + 1) 55 [.ref 3, .int v1, .int v2] σ = (if v1 = (6 : Int32) then ((x_M d 50 [.ref 3, .int (2 : Int32)] σ).bind fun r1 => ((x_M d 37 [.ref 1, .int r1.1, .int v2] r1.2).bind fun r2 => some (0, r2.2))) else (if v1 < 0 ∨ 8 ≤ v1.toNatClampNeg then none else some (0, (x_up σ 4 (v1.toNatClampNeg) v2)))) := (x_M_at rfl rfl rfl).trans (e55_0 (x_M d) (xr x_i55 d 4999) v1 v2 σ)
-- java/lang/Integer.bitCount(I)I ()
theorem m56 (d : Nat) (v0 : Int32) (σ : xS) : x_M (d + 1) 56 [.int v0] σ = some (((((((((v0 - (((v0).toUInt32 >>> (((1 : Int32)).toUInt32 &&& Int32.toUInt32 31)).toInt32 &&& (Int32.ofNat 1431655765))) &&& (Int32.ofNat 858993459)) + ((((v0 - (((v0).toUInt32 >>> (((1 : Int32)).toUInt32 &&& Int32.toUInt32 31)).toInt32 &&& (Int32.ofNat 1431655765)))).toUInt32 >>> (((2 : Int32)).toUInt32 &&& Int32.toUInt32 31)).toInt32 &&& (Int32.ofNat 858993459))) + (((((v0 - (((v0).toUInt32 >>> (((1 : Int32)).toUInt32 &&& Int32.toUInt32 31)).toInt32 &&& (Int32.ofNat 1431655765))) &&& (Int32.ofNat 858993459)) + ((((v0 - (((v0).toUInt32 >>> (((1 : Int32)).toUInt32 &&& Int32.toUInt32 31)).toInt32 &&& (Int32.ofNat 1431655765)))).toUInt32 >>> (((2 : Int32)).toUInt32 &&& Int32.toUInt32 31)).toInt32 &&& (Int32.ofNat 858993459)))).toUInt32 >>> (((4 : Int32)).toUInt32 &&& Int32.toUInt32 31)).toInt32) &&& (Int32.ofNat 252645135)) + (((((((v0 - (((v0).toUInt32 >>> (((1 : Int32)).toUInt32 &&& Int32.toUInt32 31)).toInt32 &&& (Int32.ofNat 1431655765))) &&& (Int32.ofNat 858993459)) + ((((v0 - (((v0).toUInt32 >>> (((1 : Int32)).toUInt32 &&& Int32.toUInt32 31)).toInt32 &&& (Int32.ofNat 1431655765)))).toUInt32 >>> (((2 : Int32)).toUInt32 &&& Int32.toUInt32 31)).toInt32 &&& (Int32.ofNat 858993459))) + (((((v0 - (((v0).toUInt32 >>> (((1 : Int32)).toUInt32 &&& Int32.toUInt32 31)).toInt32 &&& (Int32.ofNat 1431655765))) &&& (Int32.ofNat 858993459)) + ((((v0 - (((v0).toUInt32 >>> (((1 : Int32)).toUInt32 &&& Int32.toUInt32 31)).toInt32 &&& (Int32.ofNat 1431655765)))).toUInt32 >>> (((2 : Int32)).toUInt32 &&& Int32.toUInt32 31)).toInt32 &&& (Int32.ofNat 858993459)))).toUInt32 >>> (((4 : Int32)).toUInt32 &&& Int32.toUInt32 31)).toInt32) &&& (Int32.ofNat 252645135))).toUInt32 >>> (((8 : Int32)).toUInt32 &&& Int32.toUInt32 31)).toInt32) + ((((((((v0 - (((v0).toUInt32 >>> (((1 : Int32)).toUInt32 &&& Int32.toUInt32 31)).toInt32 &&& (Int32.ofNat 1431655765))) &&& (Int32.ofNat 858993459)) + ((((v0 - (((v0).toUInt32 >>> (((1 : Int32)).toUInt32 &&& Int32.toUInt32 31)).toInt32 &&& (Int32.ofNat 1431655765)))).toUInt32 >>> (((2 : Int32)).toUInt32 &&& Int32.toUInt32 31)).toInt32 &&& (Int32.ofNat 858993459))) + (((((v0 - (((v0).toUInt32 >>> (((1 : Int32)).toUInt32 &&& Int32.toUInt32 31)).toInt32 &&& (Int32.ofNat 1431655765))) &&& (Int32.ofNat 858993459)) + ((((v0 - (((v0).toUInt32 >>> (((1 : Int32)).toUInt32 &&& Int32.toUInt32 31)).toInt32 &&& (Int32.ofNat 1431655765)))).toUInt32 >>> (((2 : Int32)).toUInt32 &&& Int32.toUInt32 31)).toInt32 &&& (Int32.ofNat 858993459)))).toUInt32 >>> (((4 : Int32)).toUInt32 &&& Int32.toUInt32 31)).toInt32) &&& (Int32.ofNat 252645135)) + (((((((v0 - (((v0).toUInt32 >>> (((1 : Int32)).toUInt32 &&& Int32.toUInt32 31)).toInt32 &&& (Int32.ofNat 1431655765))) &&& (Int32.ofNat 858993459)) + ((((v0 - (((v0).toUInt32 >>> (((1 : Int32)).toUInt32 &&& Int32.toUInt32 31)).toInt32 &&& (Int32.ofNat 1431655765)))).toUInt32 >>> (((2 : Int32)).toUInt32 &&& Int32.toUInt32 31)).toInt32 &&& (Int32.ofNat 858993459))) + (((((v0 - (((v0).toUInt32 >>> (((1 : Int32)).toUInt32 &&& Int32.toUInt32 31)).toInt32 &&& (Int32.ofNat 1431655765))) &&& (Int32.ofNat 858993459)) + ((((v0 - (((v0).toUInt32 >>> (((1 : Int32)).toUInt32 &&& Int32.toUInt32 31)).toInt32 &&& (Int32.ofNat 1431655765)))).toUInt32 >>> (((2 : Int32)).toUInt32 &&& Int32.toUInt32 31)).toInt32 &&& (Int32.ofNat 858993459)))).toUInt32 >>> (((4 : Int32)).toUInt32 &&& Int32.toUInt32 31)).toInt32) &&& (Int32.ofNat 252645135))).toUInt32 >>> (((8 : Int32)).toUInt32 &&& Int32.toUInt32 31)).toInt32)).toUInt32 >>> (((16 : Int32)).toUInt32 &&& Int32.toUInt32 31)).toInt32) &&& (63 : Int32)), σ) := (x_M_at rfl rfl rfl).trans (e56_0 (x_M d) (xr x_i56 d 4999) v0 σ)
-- DeskMachine$Processor.judge(I)V (3,)
theorem m57 (d : Nat) (v1 : Int32) (σ : xS) : x_M (d + 1) 57 [.ref 3, .int v1] σ = (if v1 = 0 then ((x_M d 56 [.int v1] (x_up (x_up σ 3 4 (v1 >>> ((7 : Int32) &&& 31))) 3 5 (1 : Int32))).bind fun r2 => some (0, (x_up r2.2 3 7 ((1 : Int32) - (r2.1 &&& (1 : Int32)))))) else ((x_M d 56 [.int v1] (x_up (x_up σ 3 4 (v1 >>> ((7 : Int32) &&& 31))) 3 5 (0 : Int32))).bind fun r1 => some (0, (x_up r1.2 3 7 ((1 : Int32) - (r1.1 &&& (1 : Int32))))))) := (x_M_at rfl rfl rfl).trans (e57_0 (x_M d) (xr x_i57 d 4999) v1 σ)
-- DeskMachine$Processor.grow(I)V (3,)
theorem m58 (d : Nat) (v1 : Int32) (σ : xS) : x_M (d + 1) 58 [.ref 3, .int v1] σ = ((x_M d 54 [.ref 3, .int v1] σ).bind fun r1 => ((x_M d 55 [.ref 3, .int v1, .int ((r1.1 + (1 : Int32)) &&& (255 : Int32))] r1.2).bind fun r2 => ((x_M d 57 [.ref 3, .int ((r1.1 + (1 : Int32)) &&& (255 : Int32))] r2.2).bind fun r3 => (if (((r1.1 + (1 : Int32)) &&& (255 : Int32)) &&& (15 : Int32)) = 0 then some (0, (x_up r3.2 3 6 (1 : Int32))) else some (0, (x_up r3.2 3 6 (0 : Int32))))))) := (x_M_at rfl rfl rfl).trans (e58_0 (x_M d) (xr x_i58 d 4999) v1 σ)
-- DeskMachine$Processor.fall(I)V (3,)
theorem m59 (d : Nat) (v1 : Int32) (σ : xS) : x_M (d + 1) 59 [.ref 3, .int v1] σ = ((x_M d 54 [.ref 3, .int v1] σ).bind fun r1 => ((x_M d 55 [.ref 3, .int v1, .int ((r1.1 - (1 : Int32)) &&& (255 : Int32))] r1.2).bind fun r2 => ((x_M d 57 [.ref 3, .int ((r1.1 - (1 : Int32)) &&& (255 : Int32))] r2.2).bind fun r3 => (if (((r1.1 - (1 : Int32)) &&& (255 : Int32)) &&& (15 : Int32)) = (15 : Int32) then some (0, (x_up r3.2 3 6 (0 : Int32))) else some (0, (x_up r3.2 3 6 (1 : Int32))))))) := (x_M_at rfl rfl rfl).trans (e59_0 (x_M d) (xr x_i59 d 4999) v1 σ)
-- DeskMachine$Processor.turnLeft(I)V (3,)
theorem m60 (d : Nat) (v1 : Int32) (σ : xS) : x_M (d + 1) 60 [.ref 3, .int v1] σ = some (0, (x_up (x_up σ 4 7 ((((σ 4 7) <<< ((1 : Int32) &&& 31)) &&& (255 : Int32)) ||| v1)) 3 8 ((σ 4 7) >>> ((7 : Int32) &&& 31)))) := (x_M_at rfl rfl rfl).trans (e60_0 (x_M d) (xr x_i60 d 4999) v1 σ)
-- DeskMachine$Processor.turnRight(I)V (3,)
theorem m61 (d : Nat) (v1 : Int32) (σ : xS) : x_M (d + 1) 61 [.ref 3, .int v1] σ = some (0, (x_up (x_up σ 4 7 (((σ 4 7) >>> ((1 : Int32) &&& 31)) ||| (v1 <<< ((7 : Int32) &&& 31)))) 3 8 ((σ 4 7) &&& (1 : Int32)))) := (x_M_at rfl rfl rfl).trans (e61_0 (x_M d) (xr x_i61 d 4999) v1 σ)
-- DeskMachine$Processor.adjust()V (3,)
theorem m62 (d : Nat) (σ : xS) : x_M (d + 1) 62 [.ref 3] σ = (if (9 : Int32) < ((σ 4 7) &&& (15 : Int32)) then xr x_i62 d 4999 31 [(0, .ref 3), (1, .int (σ 4 7))] [.int (6 : Int32)] σ else (if (σ 3 6) = (1 : Int32) then xr x_i62 d 4999 31 [(0, .ref 3), (1, .int (σ 4 7))] [.int (6 : Int32)] σ else xr x_i62 d 4999 31 [(0, .ref 3), (1, .int (σ 4 7))] [.int (0 : Int32)] σ)) := (x_M_at rfl rfl rfl).trans (e62_0 (x_M d) (xr x_i62 d 4999) σ)
theorem c62_31 (d n : Nat) (v1 s0 : Int32) (σ : xS) : xr x_i62 d (n + 1) 31 [(0, .ref 3), (1, .int v1)] [.int s0] σ = (if (153 : Int32) < v1 then ((x_M d 57 [.ref 3, .int ((x_up (x_up (x_up σ 3 6 (((v1 &&& (15 : Int32)) + s0) >>> ((4 : Int32) &&& 31))) 3 8 (1 : Int32)) 4 7 ((v1 + (s0 + (96 : Int32))) &&& (255 : Int32))) 4 7)] (x_up (x_up (x_up σ 3 6 (((v1 &&& (15 : Int32)) + s0) >>> ((4 : Int32) &&& 31))) 3 8 (1 : Int32)) 4 7 ((v1 + (s0 + (96 : Int32))) &&& (255 : Int32)))).bind fun r1 => some (0, r1.2)) else (if ((x_up σ 3 6 (((v1 &&& (15 : Int32)) + s0) >>> ((4 : Int32) &&& 31))) 3 8) = (1 : Int32) then ((x_M d 57 [.ref 3, .int ((x_up (x_up (x_up σ 3 6 (((v1 &&& (15 : Int32)) + s0) >>> ((4 : Int32) &&& 31))) 3 8 (1 : Int32)) 4 7 ((v1 + (s0 + (96 : Int32))) &&& (255 : Int32))) 4 7)] (x_up (x_up (x_up σ 3 6 (((v1 &&& (15 : Int32)) + s0) >>> ((4 : Int32) &&& 31))) 3 8 (1 : Int32)) 4 7 ((v1 + (s0 + (96 : Int32))) &&& (255 : Int32)))).bind fun r3 => some (0, r3.2)) else ((x_M d 57 [.ref 3, .int ((x_up (x_up σ 3 6 (((v1 &&& (15 : Int32)) + s0) >>> ((4 : Int32) &&& 31))) 4 7 ((v1 + s0) &&& (255 : Int32))) 4 7)] (x_up (x_up σ 3 6 (((v1 &&& (15 : Int32)) + s0) >>> ((4 : Int32) &&& 31))) 4 7 ((v1 + s0) &&& (255 : Int32)))).bind fun r2 => some (0, r2.2)))) := (xr_at _ _ _ _ _ _ _).trans (e62_31 (x_M d) (xr x_i62 d n) v1 s0 σ)
-- DeskMachine$Processor.changeA(I)V (3,)
theorem m63 (d : Nat) (v1 : Int32) (σ : xS) : x_M (d + 1) 63 [.ref 3, .int v1] σ = (if v1 = (0 : Int32) then ((x_M d 60 [.ref 3, .int ((σ 4 7) >>> ((7 : Int32) &&& 31))] σ).bind fun r5 => some (0, r5.2)) else (if v1 = (1 : Int32) then ((x_M d 61 [.ref 3, .int ((σ 4 7) &&& (1 : Int32))] σ).bind fun r4 => some (0, r4.2)) else (if v1 = (2 : Int32) then ((x_M d 60 [.ref 3, .int (σ 3 8)] σ).bind fun r3 => some (0, r3.2)) else (if v1 = (3 : Int32) then ((x_M d 61 [.ref 3, .int (σ 3 8)] σ).bind fun r2 => some (0, r2.2)) else (if v1 = (4 : Int32) then ((x_M d 62 [.ref 3] σ).bind fun r1 => some (0, r1.2)) else (if v1 = (5 : Int32) then some (0, (x_up σ 4 7 ((255 : Int32) - (σ 4 7)))) else (if v1 = (6 : Int32) then some (0, (x_up σ 3 8 (1 : Int32))) else some (0, (x_up σ 3 8 ((1 : Int32) - (σ 3 8))))))))))) := (x_M_at rfl rfl rfl).trans (e63_0 (x_M d) (xr x_i63 d 4999) v1 σ)
-- DeskMachine$Processor.moveOrCount(II)V (3,)
theorem m64 (d : Nat) (v1 v2 : Int32) (σ : xS) : x_M (d + 1) 64 [.ref 3, .int v1, .int v2] σ = (if v2 = (0 : Int32) then some (0, σ) else (if v2 = (1 : Int32) then (if (v1 &&& (1 : Int32)) = 0 then ((x_M d 48 [.ref 3] σ).bind fun r12 => ((x_M d 49 [.ref 3, .int (v1 >>> ((1 : Int32) &&& 31)), .int r12.1] r12.2).bind fun r13 => some (0, r13.2))) else ((x_M d 50 [.ref 3, .int (v1 >>> ((1 : Int32) &&& 31))] σ).bind fun r10 => ((x_M d 51 [.ref 3, .int r10.1] r10.2).bind fun r11 => some (0, r11.2)))) else (if v2 = (2 : Int32) then ((x_M d 53 [.ref 3, .int v1] σ).bind fun r9 => some (0, r9.2)) else (if v2 = (3 : Int32) then ((x_M d 50 [.ref 3, .int (v1 >>> ((1 : Int32) &&& 31))] σ).bind fun r6 => (if (v1 &&& (1 : Int32)) = 0 then ((x_M d 49 [.ref 3, .int (v1 >>> ((1 : Int32) &&& 31)), .int (r6.1 + (1 : Int32))] r6.2).bind fun r8 => some (0, r8.2)) else ((x_M d 49 [.ref 3, .int (v1 >>> ((1 : Int32) &&& 31)), .int (r6.1 + (-1 : Int32))] r6.2).bind fun r7 => some (0, r7.2)))) else (if v2 = (4 : Int32) then ((x_M d 58 [.ref 3, .int v1] σ).bind fun r5 => some (0, r5.2)) else (if v2 = (5 : Int32) then ((x_M d 59 [.ref 3, .int v1] σ).bind fun r4 => some (0, r4.2)) else (if v2 = (6 : Int32) then ((x_M d 47 [.ref 3] σ).bind fun r2 => ((x_M d 55 [.ref 3, .int v1, .int r2.1] r2.2).bind fun r3 => some (0, r3.2))) else ((x_M d 63 [.ref 3, .int v1] σ).bind fun r1 => some (0, r1.2))))))))) := (x_M_at rfl rfl rfl).trans (e64_0 (x_M d) (xr x_i64 d 4999) v1 v2 σ)
-- DeskMachine$Processor.plus(II)I (3,)
theorem m65 (d : Nat) (v1 v2 : Int32) (σ : xS) : x_M (d + 1) 65 [.ref 3, .int v1, .int v2] σ = ((x_M d 57 [.ref 3, .int ((((σ 4 7) + v1) + v2) &&& (255 : Int32))] (x_up (x_up σ 3 6 (((((σ 4 7) &&& (15 : Int32)) + (v1 &&& (15 : Int32))) + v2) >>> ((4 : Int32) &&& 31))) 3 8 ((((σ 4 7) + v1) + v2) >>> ((8 : Int32) &&& 31)))).bind fun r1 => some (((((σ 4 7) + v1) + v2) &&& (255 : Int32)), r1.2)) := (x_M_at rfl rfl rfl).trans (e65_0 (x_M d) (xr x_i65 d 4999) v1 v2 σ)
-- DeskMachine$Processor.minus(II)I (3,)
theorem m66 (d : Nat) (v1 v2 : Int32) (σ : xS) : x_M (d + 1) 66 [.ref 3, .int v1, .int v2] σ = ((x_M d 65 [.ref 3, .int ((255 : Int32) - v1), .int ((1 : Int32) - v2)] σ).bind fun r1 => some (r1.1, (x_up r1.2 3 8 ((1 : Int32) - (r1.2 3 8))))) := (x_M_at rfl rfl rfl).trans (e66_0 (x_M d) (xr x_i66 d 4999) v1 v2 σ)
-- DeskMachine$Processor.setBits(I)V (3,)
theorem m67 (d : Nat) (v1 : Int32) (σ : xS) : x_M (d + 1) 67 [.ref 3, .int v1] σ = ((x_M d 57 [.ref 3, .int v1] (x_up (x_up σ 4 7 v1) 3 8 (0 : Int32))).bind fun r1 => some (0, r1.2)) := (x_M_at rfl rfl rfl).trans (e67_0 (x_M d) (xr x_i67 d 4999) v1 σ)
-- DeskMachine$Processor.combine(II)V (3,)
theorem m68 (d : Nat) (v1 v2 : Int32) (σ : xS) : x_M (d + 1) 68 [.ref 3, .int v1, .int v2] σ = (if v1 = (0 : Int32) then ((x_M d 65 [.ref 3, .int v2, .int (0 : Int32)] σ).bind fun r8 => some (0, (x_up r8.2 4 7 r8.1))) else (if v1 = (1 : Int32) then ((x_M d 65 [.ref 3, .int v2, .int (σ 3 8)] σ).bind fun r7 => some (0, (x_up r7.2 4 7 r7.1))) else (if v1 = (2 : Int32) then ((x_M d 66 [.ref 3, .int v2, .int (0 : Int32)] σ).bind fun r6 => some (0, (x_up r6.2 4 7 r6.1))) else (if v1 = (3 : Int32) then ((x_M d 66 [.ref 3, .int v2, .int (σ 3 8)] σ).bind fun r5 => some (0, (x_up r5.2 4 7 r5.1))) else (if v1 = (4 : Int32) then ((x_M d 67 [.ref 3, .int (((x_up σ 3 6 ((((σ 4 7) ||| v2) >>> ((3 : Int32) &&& 31)) &&& (1 : Int32))) 4 7) &&& v2)] (x_up σ 3 6 ((((σ 4 7) ||| v2) >>> ((3 : Int32) &&& 31)) &&& (1 : Int32)))).bind fun r4 => some (0, r4.2)) else (if v1 = (5 : Int32) then ((x_M d 67 [.ref 3, .int (((x_up σ 3 6 (0 : Int32)) 4 7) ^^^ v2)] (x_up σ 3 6 (0 : Int32))).bind fun r3 => some (0, r3.2)) else (if v1 = (6 : Int32) then ((x_M d 67 [.ref 3, .int (((x_up σ 3 6 (0 : Int32)) 4 7) ||| v2)] (x_up σ 3 6 (0 : Int32))).bind fun r2 => some (0, r2.2)) else ((x_M d 66 [.ref 3, .int v2, .int (0 : Int32)] σ).bind fun r1 => some (0, r1.2))))))))) := (x_M_at rfl rfl rfl).trans (e68_0 (x_M d) (xr x_i68 d 4999) v1 v2 σ)
-- DeskMachine$Processor.holds(I)Z (3,)
theorem m69 (d : Nat) (v1 : Int32) (σ : xS) : x_M (d + 1) 69 [.ref 3, .int v1] σ = (if (v1 >>> ((1 : Int32) &&& 31)) = (0 : Int32) then (if (σ 3 5) = (v1 &&& (1 : Int32)) then some ((1 : Int32), σ) else some ((0 : Int32), σ)) else (if (v1 >>> ((1 : Int32) &&& 31)) = (1 : Int32) then (if (σ 3 8) = (v1 &&& (1 : Int32)) then some ((1 : Int32), σ) else some ((0 : Int32), σ)) else (if (v1 >>> ((1 : Int32) &&& 31)) = (2 : Int32) then (if (σ 3 7) = (v1 &&& (1 : Int32)) then some ((1 : Int32), σ) else some ((0 : Int32), σ)) else (if (σ 3 4) = (v1 &&& (1 : Int32)) then some ((1 : Int32), σ) else some ((0 : Int32), σ))))) := (x_M_at rfl rfl rfl).trans (e69_0 (x_M d) (xr x_i69 d 4999) v1 σ)
-- DeskMachine$Processor.pop()I (3,)
theorem m70 (d : Nat) (σ : xS) : x_M (d + 1) 70 [.ref 3] σ = ((x_M d 52 [.ref 1, .int (σ 3 2)] σ).bind fun r1 => some (r1.1, (x_up r1.2 3 2 (((r1.2 3 2) + (2 : Int32)) &&& (Int32.ofNat 65535))))) := (x_M_at rfl rfl rfl).trans (e70_0 (x_M d) (xr x_i70 d 4999) σ)
-- DeskMachine$Processor.popOrReturn(I)V (3,)
theorem m71 (d : Nat) (v1 : Int32) (σ : xS) : x_M (d + 1) 71 [.ref 3, .int v1] σ = (if v1 = (1 : Int32) then ((x_M d 70 [.ref 3] σ).bind fun r12 => some (0, (x_up r12.2 3 3 r12.1))) else (if v1 = (2 : Int32) then ((x_M d 70 [.ref 3] σ).bind fun r10 => ((x_M d 49 [.ref 3, .int (v1 >>> ((1 : Int32) &&& 31)), .int r10.1] r10.2).bind fun r11 => some (0, r11.2))) else (if v1 = (3 : Int32) then ((x_M d 70 [.ref 3] σ).bind fun r9 => some (0, (x_up r9.2 3 3 r9.1))) else (if v1 = (4 : Int32) then ((x_M d 70 [.ref 3] σ).bind fun r7 => ((x_M d 49 [.ref 3, .int (v1 >>> ((1 : Int32) &&& 31)), .int r7.1] r7.2).bind fun r8 => some (0, r8.2))) else (if v1 = (5 : Int32) then ((x_M d 50 [.ref 3, .int (2 : Int32)] σ).bind fun r6 => some (0, (x_up r6.2 3 3 r6.1))) else (if v1 = (6 : Int32) then ((x_M d 70 [.ref 3] σ).bind fun r4 => ((x_M d 42 [.ref 3, .int r4.1] (x_up r4.2 4 7 (r4.1 >>> ((8 : Int32) &&& 31)))).bind fun r5 => some (0, r5.2))) else (if v1 = (7 : Int32) then ((x_M d 50 [.ref 3, .int (2 : Int32)] σ).bind fun r3 => some (0, (x_up r3.2 3 2 r3.1))) else ((x_M d 70 [.ref 3] σ).bind fun r1 => ((x_M d 49 [.ref 3, .int (v1 >>> ((1 : Int32) &&& 31)), .int r1.1] r1.2).bind fun r2 => some (0, r2.2)))))))))) := (x_M_at rfl rfl rfl).trans (e71_0 (x_M d) (xr x_i71 d 4999) v1 σ)
-- DeskMachine$Processor.goTo(IZ)V (3,)
theorem m72 (d : Nat) (v1 v2 : Int32) (σ : xS) : x_M (d + 1) 72 [.ref 3, .int v1, .int v2] σ = (if v2 = 0 then some (0, σ) else some (0, (x_up σ 3 3 v1))) := (x_M_at rfl rfl rfl).trans (e72_0 (x_M d) (xr x_i72 d 4999) v1 v2 σ)
-- DeskMachine$Processor.goOrExchange(I)V (3,)
theorem m73 (d : Nat) (v1 : Int32) (σ : xS) : x_M (d + 1) 73 [.ref 3, .int v1] σ = (if v1 = (0 : Int32) then ((x_M d 48 [.ref 3] σ).bind fun r13 => ((x_M d 72 [.ref 3, .int r13.1, .int (1 : Int32)] r13.2).bind fun r14 => some (0, r14.2))) else (if v1 = (1 : Int32) then ((x_M d 48 [.ref 3] σ).bind fun r11 => ((x_M d 72 [.ref 3, .int r11.1, .int (1 : Int32)] r11.2).bind fun r12 => some (0, r12.2))) else (if v1 = (2 : Int32) then ((x_M d 47 [.ref 3] σ).bind fun r10 => some (0, r10.2)) else (if v1 = (3 : Int32) then ((x_M d 47 [.ref 3] σ).bind fun r9 => some (0, r9.2)) else (if v1 = (4 : Int32) then ((x_M d 52 [.ref 1, .int (σ 3 2)] σ).bind fun r5 => ((x_M d 50 [.ref 3, .int (2 : Int32)] r5.2).bind fun r6 => ((x_M d 43 [.ref 1, .int (r5.2 3 2), .int r6.1] r6.2).bind fun r7 => ((x_M d 49 [.ref 3, .int (2 : Int32), .int r5.1] r7.2).bind fun r8 => some (0, r8.2))))) else (if v1 = (5 : Int32) then ((x_M d 50 [.ref 3, .int (1 : Int32)] σ).bind fun r1 => ((x_M d 50 [.ref 3, .int (2 : Int32)] r1.2).bind fun r2 => ((x_M d 49 [.ref 3, .int (1 : Int32), .int r2.1] r2.2).bind fun r3 => ((x_M d 49 [.ref 3, .int (2 : Int32), .int r1.1] r3.2).bind fun r4 => some (0, r4.2))))) else some (0, σ))))))) := (x_M_at rfl rfl rfl).trans (e73_0 (x_M d) (xr x_i73 d 4999) v1 σ)
-- DeskMachine$Processor.callTo(IZ)V (3,)
theorem m74 (d : Nat) (v1 v2 : Int32) (σ : xS) : x_M (d + 1) 74 [.ref 3, .int v1, .int v2] σ = (if v2 = 0 then some (0, σ) else ((x_M d 44 [.ref 3, .int (σ 3 3)] σ).bind fun r1 => some (0, (x_up r1.2 3 3 v1)))) := (x_M_at rfl rfl rfl).trans (e74_0 (x_M d) (xr x_i74 d 4999) v1 v2 σ)
-- DeskMachine$Processor.flags()I (3,)
theorem m75 (d : Nat) (σ : xS) : x_M (d + 1) 75 [.ref 3] σ = some ((((((((σ 3 4) <<< ((7 : Int32) &&& 31)) ||| ((σ 3 5) <<< ((6 : Int32) &&& 31))) ||| ((σ 3 6) <<< ((4 : Int32) &&& 31))) ||| ((σ 3 7) <<< ((2 : Int32) &&& 31))) ||| (2 : Int32)) ||| (σ 3 8)), σ) := (x_M_at rfl rfl rfl).trans (e75_0 (x_M d) (xr x_i75 d 4999) σ)
-- DeskMachine$Processor.pushOrCall(I)V (3,)
theorem m76 (d : Nat) (v1 : Int32) (σ : xS) : x_M (d + 1) 76 [.ref 3, .int v1] σ = (if (v1 &&& (1 : Int32)) = (1 : Int32) then ((x_M d 48 [.ref 3] σ).bind fun r5 => ((x_M d 74 [.ref 3, .int r5.1, .int (1 : Int32)] r5.2).bind fun r6 => some (0, r6.2))) else (if v1 = (6 : Int32) then ((x_M d 75 [.ref 3] σ).bind fun r3 => ((x_M d 44 [.ref 3, .int (((σ 4 7) <<< ((8 : Int32) &&& 31)) ||| r3.1)] r3.2).bind fun r4 => some (0, r4.2))) else ((x_M d 50 [.ref 3, .int (v1 >>> ((1 : Int32) &&& 31))] σ).bind fun r1 => ((x_M d 44 [.ref 3, .int r1.1] r1.2).bind fun r2 => some (0, r2.2))))) := (x_M_at rfl rfl rfl).trans (e76_0 (x_M d) (xr x_i76 d 4999) v1 σ)
-- DeskMachine$Processor.branchOrStack(II)V (3,)
theorem m77 (d : Nat) (v1 v2 : Int32) (σ : xS) : x_M (d + 1) 77 [.ref 3, .int v1, .int v2] σ = (if v2 = (0 : Int32) then ((x_M d 69 [.ref 3, .int v1] σ).bind fun r11 => (if r11.1 = 0 then some (0, r11.2) else ((x_M d 70 [.ref 3] r11.2).bind fun r12 => some (0, (x_up r12.2 3 3 r12.1))))) else (if v2 = (1 : Int32) then ((x_M d 71 [.ref 3, .int v1] σ).bind fun r10 => some (0, r10.2)) else (if v2 = (2 : Int32) then ((x_M d 48 [.ref 3] σ).bind fun r7 => ((x_M d 69 [.ref 3, .int v1] r7.2).bind fun r8 => ((x_M d 72 [.ref 3, .int r7.1, .int r8.1] r8.2).bind fun r9 => some (0, r9.2)))) else (if v2 = (3 : Int32) then ((x_M d 73 [.ref 3, .int v1] σ).bind fun r6 => some (0, r6.2)) else (if v2 = (4 : Int32) then ((x_M d 48 [.ref 3] σ).bind fun r3 => ((x_M d 69 [.ref 3, .int v1] r3.2).bind fun r4 => ((x_M d 74 [.ref 3, .int r3.1, .int r4.1] r4.2).bind fun r5 => some (0, r5.2)))) else (if v2 = (5 : Int32) then ((x_M d 76 [.ref 3, .int v1] σ).bind fun r2 => some (0, r2.2)) else ((x_M d 74 [.ref 3, .int ((8 : Int32) * v1), .int (1 : Int32)] σ).bind fun r1 => some (0, r1.2)))))))) := (x_M_at rfl rfl rfl).trans (e77_0 (x_M d) (xr x_i77 d 4999) v1 v2 σ)
-- DeskMachine$Processor.step()Z (3,)
theorem m78 (d : Nat) (σ : xS) : x_M (d + 1) 78 [.ref 3] σ = ((x_M d 47 [.ref 3] σ).bind fun r1 => (if r1.1 = (118 : Int32) then some ((0 : Int32), r1.2) else (if (r1.1 >>> ((6 : Int32) &&& 31)) = (0 : Int32) then ((x_M d 64 [.ref 3, .int ((r1.1 >>> ((3 : Int32) &&& 31)) &&& (7 : Int32)), .int (r1.1 &&& (7 : Int32))] r1.2).bind fun r9 => some ((1 : Int32), r9.2)) else (if (r1.1 >>> ((6 : Int32) &&& 31)) = (1 : Int32) then ((x_M d 54 [.ref 3, .int (r1.1 &&& (7 : Int32))] r1.2).bind fun r7 => ((x_M d 55 [.ref 3, .int ((r1.1 >>> ((3 : Int32) &&& 31)) &&& (7 : Int32)), .int r7.1] r7.2).bind fun r8 => some ((1 : Int32), r8.2))) else (if (r1.1 >>> ((6 : Int32) &&& 31)) = (2 : Int32) then ((x_M d 54 [.ref 3, .int (r1.1 &&& (7 : Int32))] r1.2).bind fun r5 => ((x_M d 68 [.ref 3, .int ((r1.1 >>> ((3 : Int32) &&& 31)) &&& (7 : Int32)), .int r5.1] r5.2).bind fun r6 => some ((1 : Int32), r6.2))) else (if (r1.1 &&& (7 : Int32)) = (6 : Int32) then ((x_M d 47 [.ref 3] r1.2).bind fun r3 => ((x_M d 68 [.ref 3, .int ((r1.1 >>> ((3 : Int32) &&& 31)) &&& (7 : Int32)), .int r3.1] r3.2).bind fun r4 => some ((1 : Int32), r4.2))) else ((x_M d 77 [.ref 3, .int ((r1.1 >>> ((3 : Int32) &&& 31)) &&& (7 : Int32)), .int (r1.1 &&& (7 : Int32))] r1.2).bind fun r2 => some ((1 : Int32), r2.2)))))))) := (x_M_at rfl rfl rfl).trans (e78_0 (x_M d) (xr x_i78 d 4999) σ)
-- DeskMachine$FileCalls.takeName(I)V (12,)
theorem m79 (d : Nat) (v1 : Int32) (σ : xS) : x_M (d + 1) 79 [.ref 12, .int v1] σ = xr x_i79 d 4999 2 [(0, .ref 12), (1, .int v1), (2, .int (0 : Int32))] [] σ := (x_M_at rfl rfl rfl).trans (e79_0 (x_M d) (xr x_i79 d 4999) v1 σ)
theorem c79_2 (d n : Nat) (v1 v2 : Int32) (σ : xS) : xr x_i79 d (n + 1) 2 [(0, .ref 12), (1, .int v1), (2, .int v2)] [] σ = (if (4 : Int32) ≤ v2 then some (0, σ) else ((x_M d 33 [.ref 1, .int (v1 + v2)] σ).bind fun r1 => (if v2 < 0 ∨ 4 ≤ v2.toNatClampNeg then none else xr x_i79 d n 2 [(0, .ref 12), (1, .int v1), (2, .int (v2 + (1 : Int32)))] [] (x_up r1.2 13 (v2.toNatClampNeg) r1.1)))) := (xr_at _ _ _ _ _ _ _).trans (e79_2 (x_M d) (xr x_i79 d n) v1 v2 σ)
-- DeskMachine$Disk.findFitting([II)I (5, 13)
theorem m80 (d : Nat) (v2 : Int32) (σ : xS) : x_M (d + 1) 80 [.ref 5, .ref 13, .int v2] σ = xr x_i80 d 4999 2 [(0, .ref 5), (1, .ref 13), (3, .int v2)] [] σ := (x_M_at rfl rfl rfl).trans (e80_0 (x_M d) (xr x_i80 d 4999) v2 σ)
theorem c80_2 (d n : Nat) (v3 : Int32) (σ : xS) : xr x_i80 d (n + 1) 2 [(0, .ref 5), (1, .ref 13), (3, .int v3)] [] σ = (if (8 : Int32) ≤ v3 then some ((-1 : Int32), σ) else ((x_M d 17 [.ref 5, .int v3, .ref 13, .int (1 : Int32)] σ).bind fun r1 => (if r1.1 = 0 then xr x_i80 d n 2 [(0, .ref 5), (1, .ref 13), (3, .int (v3 + (1 : Int32)))] [] r1.2 else some (v3, r1.2)))) := (xr_at _ _ _ _ _ _ _).trans (e80_2 (x_M d) (xr x_i80 d n) v3 σ)
-- DeskMachine$FileCalls.open(I)I (12,)
theorem m81 (d : Nat) (v1 : Int32) (σ : xS) : x_M (d + 1) 81 [.ref 12, .int v1] σ = ((x_M d 80 [.ref 5, .ref 13, .int (0 : Int32)] σ).bind fun r1 => (if r1.1 = (-1 : Int32) then some ((255 : Int32), r1.2) else xr x_i81 d 4999 24 [(0, .ref 12), (1, .int v1), (2, .int r1.1), (3, .int (1 : Int32))] [] r1.2)) := (x_M_at rfl rfl rfl).trans (e81_0 (x_M d) (xr x_i81 d 4999) v1 σ)
theorem c81_24 (d n : Nat) (v1 v2 v3 : Int32) (σ : xS) : xr x_i81 d (n + 1) 24 [(0, .ref 12), (1, .int v1), (2, .int v2), (3, .int v3)] [] σ = (if (16 : Int32) ≤ v3 then some (v2, σ) else ((x_M d 13 [.ref 5, .int v2, .int v3] σ).bind fun r1 => ((x_M d 37 [.ref 1, .int (v1 + v3), .int r1.1] r1.2).bind fun r2 => xr x_i81 d n 24 [(0, .ref 12), (1, .int v1), (2, .int v2), (3, .int (v3 + (1 : Int32)))] [] r2.2))) := (xr_at _ _ _ _ _ _ _).trans (e81_24 (x_M d) (xr x_i81 d n) v1 v2 v3 σ)
-- DeskMachine$FileCalls.close(I)I (12,)
theorem m82 (d : Nat) (v1 : Int32) (σ : xS) : x_M (d + 1) 82 [.ref 12, .int v1] σ = ((x_M d 18 [.ref 5, .ref 13] σ).bind fun r1 => (if r1.1 = (-1 : Int32) then some ((255 : Int32), r1.2) else xr x_i82 d 4999 23 [(0, .ref 12), (1, .int v1), (2, .int r1.1), (3, .int (5 : Int32))] [] r1.2)) := (x_M_at rfl rfl rfl).trans (e82_0 (x_M d) (xr x_i82 d 4999) v1 σ)
theorem c82_23 (d n : Nat) (v1 v2 v3 : Int32) (σ : xS) : xr x_i82 d (n + 1) 23 [(0, .ref 12), (1, .int v1), (2, .int v2), (3, .int v3)] [] σ = (if (16 : Int32) ≤ v3 then some (v2, σ) else ((x_M d 33 [.ref 1, .int (v1 + v3)] σ).bind fun r1 => ((x_M d 24 [.ref 5, .int v2, .int v3, .int r1.1] r1.2).bind fun r2 => xr x_i82 d n 23 [(0, .ref 12), (1, .int v1), (2, .int v2), (3, .int (v3 + (1 : Int32)))] [] r2.2))) := (xr_at _ _ _ _ _ _ _).trans (e82_23 (x_M d) (xr x_i82 d n) v1 v2 v3 σ)
-- DeskMachine$FileCalls.search(I)I (12,)
theorem m83 (d : Nat) (v1 : Int32) (σ : xS) : x_M (d + 1) 83 [.ref 12, .int v1] σ = ((x_M d 80 [.ref 5, .ref 13, .int v1] σ).bind fun r1 => (if r1.1 = (-1 : Int32) then some ((255 : Int32), (x_up r1.2 12 4 (8 : Int32))) else ((x_M d 38 [.ref 5, .int r1.1, .ref 1, .int ((x_up r1.2 12 4 (r1.1 + (1 : Int32))) 12 3)] (x_up r1.2 12 4 (r1.1 + (1 : Int32)))).bind fun r2 => some (r1.1, r2.2)))) := (x_M_at rfl rfl rfl).trans (e83_0 (x_M d) (xr x_i83 d 4999) v1 σ)
-- DeskMachine$FileCalls.hasRecord(II)Z (12,)
theorem m84 (d : Nat) (v1 v2 : Int32) (σ : xS) : x_M (d + 1) 84 [.ref 12, .int v1, .int v2] σ = ((x_M d 33 [.ref 1, .int (v1 + (5 : Int32))] σ).bind fun r1 => (if r1.1 ≤ v2 then some ((0 : Int32), r1.2) else ((x_M d 33 [.ref 1, .int ((v1 + (6 : Int32)) + v2)] r1.2).bind fun r2 => ((x_M d 21 [.int r2.1] r2.2).bind fun r3 => (if r3.1 = 0 then some ((0 : Int32), r3.2) else some ((1 : Int32), r3.2)))))) := (x_M_at rfl rfl rfl).trans (e84_0 (x_M d) (xr x_i84 d 4999) v1 v2 σ)
-- DeskMachine$FileCalls.read(I)I (12,)
theorem m85 (d : Nat) (v1 : Int32) (σ : xS) : x_M (d + 1) 85 [.ref 12, .int v1] σ = ((x_M d 33 [.ref 1, .int (v1 + (16 : Int32))] σ).bind fun r1 => (if (10 : Int32) ≤ r1.1 then some ((1 : Int32), r1.2) else ((x_M d 84 [.ref 12, .int v1, .int r1.1] r1.2).bind fun r2 => (if r2.1 = 0 then some ((1 : Int32), r2.2) else ((x_M d 33 [.ref 1, .int ((v1 + (6 : Int32)) + r1.1)] r2.2).bind fun r3 => ((x_M d 38 [.ref 5, .int r3.1, .ref 1, .int (r3.2 12 3)] r3.2).bind fun r4 => ((x_M d 37 [.ref 1, .int (v1 + (16 : Int32)), .int (r1.1 + (1 : Int32))] r4.2).bind fun r5 => some ((0 : Int32), r5.2)))))))) := (x_M_at rfl rfl rfl).trans (e85_0 (x_M d) (xr x_i85 d 4999) v1 σ)
-- DeskMachine$FileCalls.unusedBlock(I)I (12,)
theorem m86 (d : Nat) (v1 : Int32) (σ : xS) : x_M (d + 1) 86 [.ref 12, .int v1] σ = ((x_M d 31 [.ref 5] σ).bind fun r1 => ((x_M d 33 [.ref 1, .int (v1 + (5 : Int32))] r1.2).bind fun r2 => xr x_i86 d 4999 20 [(0, .ref 12), (1, .int v1), (2, .int r2.1), (3, .int (0 : Int32))] [] r2.2)) := (x_M_at rfl rfl rfl).trans (e86_0 (x_M d) (xr x_i86 d 4999) v1 σ)
theorem c86_20 (d n : Nat) (v1 v2 v3 : Int32) (σ : xS) : xr x_i86 d (n + 1) 20 [(0, .ref 12), (1, .int v1), (2, .int v2), (3, .int v3)] [] σ = (if v2 ≤ v3 then ((x_M d 32 [.ref 5] σ).bind fun r1 => some (r1.1, r1.2)) else (if (10 : Int32) ≤ v3 then ((x_M d 32 [.ref 5] σ).bind fun r2 => some (r2.1, r2.2)) else ((x_M d 33 [.ref 1, .int ((v1 + (6 : Int32)) + v3)] σ).bind fun r3 => ((x_M d 30 [.ref 5, .int r3.1] r3.2).bind fun r4 => xr x_i86 d n 20 [(0, .ref 12), (1, .int v1), (2, .int v2), (3, .int (v3 + (1 : Int32)))] [] r4.2)))) := (xr_at _ _ _ _ _ _ _).trans (e86_20 (x_M d) (xr x_i86 d n) v1 v2 v3 σ)
-- DeskMachine$FileCalls.write(I)I (12,)
theorem m87 (d : Nat) (v1 : Int32) (σ : xS) : x_M (d + 1) 87 [.ref 12, .int v1] σ = ((x_M d 33 [.ref 1, .int (v1 + (16 : Int32))] σ).bind fun r1 => (if r1.1 < (10 : Int32) then ((x_M d 84 [.ref 12, .int v1, .int r1.1] r1.2).bind fun r2 => (if r2.1 = 0 then ((x_M d 86 [.ref 12, .int v1] r2.2).bind fun r3 => (if r3.1 = (-1 : Int32) then some ((2 : Int32), r3.2) else ((x_M d 37 [.ref 1, .int ((v1 + (6 : Int32)) + r1.1), .int r3.1] r3.2).bind fun r4 => xr x_i87 d 4999 56 [(0, .ref 12), (1, .int v1), (2, .int r1.1)] [] r4.2))) else xr x_i87 d 4999 56 [(0, .ref 12), (1, .int v1), (2, .int r1.1)] [] r2.2)) else some ((1 : Int32), r1.2))) := (x_M_at rfl rfl rfl).trans (e87_0 (x_M d) (xr x_i87 d 4999) v1 σ)
theorem c87_56 (d n : Nat) (v1 v2 : Int32) (σ : xS) : xr x_i87 d (n + 1) 56 [(0, .ref 12), (1, .int v1), (2, .int v2)] [] σ = ((x_M d 33 [.ref 1, .int ((v1 + (6 : Int32)) + v2)] σ).bind fun r1 => ((x_M d 34 [.ref 5, .int r1.1, .ref 1, .int (r1.2 12 3)] r1.2).bind fun r2 => ((x_M d 33 [.ref 1, .int (v1 + (5 : Int32))] r2.2).bind fun r3 => (if (v2 + (1 : Int32)) ≤ r3.1 then ((x_M d 37 [.ref 1, .int (v1 + (16 : Int32)), .int (v2 + (1 : Int32))] r3.2).bind fun r4 => some ((0 : Int32), r4.2)) else ((x_M d 37 [.ref 1, .int (v1 + (5 : Int32)), .int (v2 + (1 : Int32))] r3.2).bind fun r5 => ((x_M d 37 [.ref 1, .int (v1 + (16 : Int32)), .int (v2 + (1 : Int32))] r5.2).bind fun r6 => some ((0 : Int32), r6.2))))))) := (xr_at _ _ _ _ _ _ _).trans (e87_56 (x_M d) (xr x_i87 d n) v1 v2 σ)
-- DeskMachine$FileCalls.make(I)I (12,)
theorem m88 (d : Nat) (v1 : Int32) (σ : xS) : x_M (d + 1) 88 [.ref 12, .int v1] σ = ((x_M d 29 [.ref 5, .ref 13] σ).bind fun r1 => (if r1.1 = (-1 : Int32) then some ((255 : Int32), r1.2) else xr x_i88 d 4999 23 [(0, .ref 12), (1, .int v1), (2, .int r1.1), (3, .int (5 : Int32))] [] r1.2)) := (x_M_at rfl rfl rfl).trans (e88_0 (x_M d) (xr x_i88 d 4999) v1 σ)
theorem c88_23 (d n : Nat) (v1 v2 v3 : Int32) (σ : xS) : xr x_i88 d (n + 1) 23 [(0, .ref 12), (1, .int v1), (2, .int v2), (3, .int v3)] [] σ = (if (16 : Int32) ≤ v3 then some (v2, σ) else ((x_M d 37 [.ref 1, .int (v1 + v3), .int (0 : Int32)] σ).bind fun r1 => xr x_i88 d n 23 [(0, .ref 12), (1, .int v1), (2, .int v2), (3, .int (v3 + (1 : Int32)))] [] r1.2)) := (xr_at _ _ _ _ _ _ _).trans (e88_23 (x_M d) (xr x_i88 d n) v1 v2 v3 σ)
-- DeskMachine$FileCalls.rename(I)I (12,)
theorem m89 (d : Nat) (v1 : Int32) (σ : xS) : x_M (d + 1) 89 [.ref 12, .int v1] σ = ((x_M d 18 [.ref 5, .ref 13] σ).bind fun r1 => (if r1.1 = (-1 : Int32) then some ((255 : Int32), r1.2) else ((x_M d 79 [.ref 12, .int (v1 + (17 : Int32))] r1.2).bind fun r2 => ((x_M d 27 [.ref 5, .int r1.1, .ref 13] r2.2).bind fun r3 => some ((0 : Int32), r3.2))))) := (x_M_at rfl rfl rfl).trans (e89_0 (x_M d) (xr x_i89 d 4999) v1 σ)
-- DeskMachine$FileCalls.answer(II)I (12,)
theorem m90 (d : Nat) (v1 v2 : Int32) (σ : xS) : x_M (d + 1) 90 [.ref 12, .int v1, .int v2] σ = ((x_M d 79 [.ref 12, .int (v2 + (1 : Int32))] σ).bind fun r1 => (if v1 = (15 : Int32) then ((x_M d 81 [.ref 12, .int v2] r1.2).bind fun r10 => some (r10.1, r10.2)) else (if v1 = (16 : Int32) then ((x_M d 82 [.ref 12, .int v2] r1.2).bind fun r9 => some (r9.1, r9.2)) else (if v1 = (17 : Int32) then ((x_M d 83 [.ref 12, .int (0 : Int32)] r1.2).bind fun r8 => some (r8.1, r8.2)) else (if v1 = (18 : Int32) then ((x_M d 83 [.ref 12, .int (r1.2 12 4)] r1.2).bind fun r7 => some (r7.1, r7.2)) else (if v1 = (19 : Int32) then ((x_M d 26 [.ref 5, .ref 13] r1.2).bind fun r6 => (if r6.1 = 0 then some ((255 : Int32), r6.2) else some ((0 : Int32), r6.2))) else (if v1 = (20 : Int32) then ((x_M d 85 [.ref 12, .int v2] r1.2).bind fun r5 => some (r5.1, r5.2)) else (if v1 = (21 : Int32) then ((x_M d 87 [.ref 12, .int v2] r1.2).bind fun r4 => some (r4.1, r4.2)) else (if v1 = (22 : Int32) then ((x_M d 88 [.ref 12, .int v2] r1.2).bind fun r3 => some (r3.1, r3.2)) else (if v1 = (23 : Int32) then ((x_M d 89 [.ref 12, .int v2] r1.2).bind fun r2 => some (r2.1, r2.2)) else some ((0 : Int32), r1.2))))))))))) := (x_M_at rfl rfl rfl).trans (e90_0 (x_M d) (xr x_i90 d 4999) v1 v2 σ)
-- DeskMachine.showText(I)V (0,)
theorem m91 (d : Nat) (v1 : Int32) (σ : xS) : x_M (d + 1) 91 [.ref 0, .int v1] σ = xr x_i91 d 4999 2 [(0, .ref 0), (1, .int v1), (2, .int (0 : Int32))] [] σ := (x_M_at rfl rfl rfl).trans (e91_0 (x_M d) (xr x_i91 d 4999) v1 σ)
theorem c91_2 (d n : Nat) (v1 v2 : Int32) (σ : xS) : xr x_i91 d (n + 1) 2 [(0, .ref 0), (1, .int v1), (2, .int v2)] [] σ = (if (64 : Int32) ≤ v2 then some (0, σ) else ((x_M d 33 [.ref 1, .int (v1 + v2)] σ).bind fun r1 => (if r1.1 = (36 : Int32) then some (0, r1.2) else ((x_M d 14 [.ref 10, .int r1.1] r1.2).bind fun r2 => xr x_i91 d n 2 [(0, .ref 0), (1, .int v1), (2, .int (v2 + (1 : Int32)))] [] r2.2)))) := (xr_at _ _ _ _ _ _ _).trans (e91_2 (x_M d) (xr x_i91 d n) v1 v2 σ)
-- DeskMachine.answerCall(II)I (0,)
theorem m92 (d : Nat) (v1 v2 : Int32) (σ : xS) : x_M (d + 1) 92 [.ref 0, .int v1, .int v2] σ = (if v1 = (1 : Int32) then ((x_M d 6 [.ref 8] σ).bind fun r4 => some (r4.1, r4.2)) else (if v1 = (2 : Int32) then ((x_M d 14 [.ref 10, .int (v2 &&& (255 : Int32))] σ).bind fun r3 => some ((0 : Int32), r3.2)) else (if v1 = (9 : Int32) then ((x_M d 91 [.ref 0, .int v2] σ).bind fun r2 => some ((0 : Int32), r2.2)) else (if v1 = (11 : Int32) then ((x_M d 5 [.ref 8] σ).bind fun r1 => (if r1.1 = 0 then some ((255 : Int32), r1.2) else some ((0 : Int32), r1.2))) else (if v1 = (26 : Int32) then some ((0 : Int32), (x_up σ 12 3 v2)) else some ((0 : Int32), σ)))))) := (x_M_at rfl rfl rfl).trans (e92_0 (x_M d) (xr x_i92 d 4999) v1 v2 σ)
-- DeskMachine.callSystem()V (0,)
theorem m93 (d : Nat) (σ : xS) : x_M (d + 1) 93 [.ref 0] σ = (if (σ 4 1) = 0 then some (0, (x_up σ 0 7 (0 : Int32))) else ((x_M d 50 [.ref 3, .int (1 : Int32)] (x_up σ 0 7 (1 : Int32))).bind fun r1 => (if (σ 4 1) < (15 : Int32) then (if (0 : Int32) = 0 then ((x_M d 92 [.ref 0, .int (σ 4 1), .int r1.1] r1.2).bind fun r2 => ((x_M d 70 [.ref 3] (x_up r2.2 4 7 r2.1)).bind fun r3 => some (0, (x_up r3.2 3 3 r3.1)))) else ((x_M d 90 [.ref 12, .int (σ 4 1), .int r1.1] r1.2).bind fun r4 => ((x_M d 70 [.ref 3] (x_up r4.2 4 7 r4.1)).bind fun r5 => some (0, (x_up r5.2 3 3 r5.1))))) else (if (23 : Int32) < (σ 4 1) then (if (0 : Int32) = 0 then ((x_M d 92 [.ref 0, .int (σ 4 1), .int r1.1] r1.2).bind fun r6 => ((x_M d 70 [.ref 3] (x_up r6.2 4 7 r6.1)).bind fun r7 => some (0, (x_up r7.2 3 3 r7.1)))) else ((x_M d 90 [.ref 12, .int (σ 4 1), .int r1.1] r1.2).bind fun r8 => ((x_M d 70 [.ref 3] (x_up r8.2 4 7 r8.1)).bind fun r9 => some (0, (x_up r9.2 3 3 r9.1))))) else (if (1 : Int32) = 0 then ((x_M d 92 [.ref 0, .int (σ 4 1), .int r1.1] r1.2).bind fun r10 => ((x_M d 70 [.ref 3] (x_up r10.2 4 7 r10.1)).bind fun r11 => some (0, (x_up r11.2 3 3 r11.1)))) else ((x_M d 90 [.ref 12, .int (σ 4 1), .int r1.1] r1.2).bind fun r12 => ((x_M d 70 [.ref 3] (x_up r12.2 4 7 r12.1)).bind fun r13 => some (0, (x_up r13.2 3 3 r13.1))))))))) := (x_M_at rfl rfl rfl).trans (e93_0 (x_M d) (xr x_i93 d 4999) σ)
-- DeskMachine.stepOfProgram()Z (0,)
theorem m94 (d : Nat) (σ : xS) : x_M (d + 1) 94 [.ref 0] σ = (if (σ 3 3) = (5 : Int32) then (if (σ 4 1) = (1 : Int32) then ((x_M d 5 [.ref 8] σ).bind fun r2 => (if r2.1 = 0 then ((x_M d 93 [.ref 0] r2.2).bind fun r3 => (if (r3.2 3 3) = 0 then some ((1 : Int32), (x_up r3.2 0 7 (0 : Int32))) else some ((1 : Int32), r3.2))) else some ((0 : Int32), (x_up r2.2 0 7 (2 : Int32))))) else ((x_M d 93 [.ref 0] σ).bind fun r1 => (if (r1.2 3 3) = 0 then some ((1 : Int32), (x_up r1.2 0 7 (0 : Int32))) else some ((1 : Int32), r1.2)))) else ((x_M d 78 [.ref 3] σ).bind fun r4 => (if r4.1 = 0 then (if ((x_up r4.2 0 7 (0 : Int32)) 3 3) = 0 then some ((1 : Int32), (x_up (x_up r4.2 0 7 (0 : Int32)) 0 7 (0 : Int32))) else some ((1 : Int32), (x_up r4.2 0 7 (0 : Int32)))) else (if ((x_up r4.2 0 7 (1 : Int32)) 3 3) = 0 then some ((1 : Int32), (x_up (x_up r4.2 0 7 (1 : Int32)) 0 7 (0 : Int32))) else some ((1 : Int32), (x_up r4.2 0 7 (1 : Int32))))))) := (x_M_at rfl rfl rfl).trans (e94_0 (x_M d) (xr x_i94 d 4999) σ)
-- DeskMachine.run(I)I (0,)
theorem m95 (d : Nat) (v1 : Int32) (σ : xS) : x_M (d + 1) 95 [.ref 0, .int v1] σ = (if v1 < (1 : Int32) then none else (if v1 ≤ (1000 : Int32) then xr x_i95 d 4999 22 [(0, .ref 0), (1, .int v1), (2, .int (0 : Int32))] [] σ else none)) := (x_M_at rfl rfl rfl).trans (e95_0 (x_M d) (xr x_i95 d 4999) v1 σ)
theorem c95_22 (d n : Nat) (v1 v2 : Int32) (σ : xS) : xr x_i95 d (n + 1) 22 [(0, .ref 0), (1, .int v1), (2, .int v2)] [] σ = (if v1 ≤ v2 then some (v1, σ) else (if (σ 0 7) = 0 then ((x_M d 46 [.ref 0] σ).bind fun r2 => (if r2.1 = 0 then some (v2, r2.2) else xr x_i95 d n 22 [(0, .ref 0), (1, .int v1), (2, .int (v2 + (1 : Int32)))] [] (x_up r2.2 0 8 ((r2.2 0 8) + (1 : Int32))))) else ((x_M d 94 [.ref 0] σ).bind fun r1 => (if r1.1 = 0 then some (v2, r1.2) else xr x_i95 d n 22 [(0, .ref 0), (1, .int v1), (2, .int (v2 + (1 : Int32)))] [] (x_up r1.2 0 8 ((r1.2 0 8) + (1 : Int32))))))) := (xr_at _ _ _ _ _ _ _).trans (e95_22 (x_M d) (xr x_i95 d n) v1 v2 σ)
-- DeskMachine.isAddress(I)Z ()
theorem m96 (d : Nat) (v0 : Int32) (σ : xS) : x_M (d + 1) 96 [.int v0] σ = (if v0 < 0 then some ((0 : Int32), σ) else (if (512 : Int32) ≤ v0 then some ((0 : Int32), σ) else some ((1 : Int32), σ))) := (x_M_at rfl rfl rfl).trans (e96_0 (x_M d) (xr x_i96 d 4999) v0 σ)
-- DeskMachine.poke(II)Z (0,)
theorem m97 (d : Nat) (v1 v2 : Int32) (σ : xS) : x_M (d + 1) 97 [.ref 0, .int v1, .int v2] σ = ((x_M d 96 [.int v1] σ).bind fun r1 => (if r1.1 = 0 then none else ((x_M d 0 [.int v2] r1.2).bind fun r2 => (if r2.1 = 0 then none else ((x_M d 37 [.ref 1, .int v1, .int v2] r2.2).bind fun r3 => some ((1 : Int32), r3.2)))))) := (x_M_at rfl rfl rfl).trans (e97_0 (x_M d) (xr x_i97 d 4999) v1 v2 σ)
-- DeskMachine.peek(I)I (0,)
theorem m98 (d : Nat) (v1 : Int32) (σ : xS) : x_M (d + 1) 98 [.ref 0, .int v1] σ = ((x_M d 96 [.int v1] σ).bind fun r1 => (if r1.1 = 0 then none else ((x_M d 33 [.ref 1, .int v1] r1.2).bind fun r2 => some (r2.1, r2.2)))) := (x_M_at rfl rfl rfl).trans (e98_0 (x_M d) (xr x_i98 d 4999) v1 σ)
-- DeskMachine.isPlaceOnDisk(II)Z ()
theorem m99 (d : Nat) (v0 v1 : Int32) (σ : xS) : x_M (d + 1) 99 [.int v0, .int v1] σ = (if v0 < 0 then some ((0 : Int32), σ) else (if (32 : Int32) ≤ v0 then some ((0 : Int32), σ) else (if v1 < 0 then some ((0 : Int32), σ) else (if (16 : Int32) ≤ v1 then some ((0 : Int32), σ) else some ((1 : Int32), σ))))) := (x_M_at rfl rfl rfl).trans (e99_0 (x_M d) (xr x_i99 d 4999) v0 v1 σ)
-- DeskMachine.disk(II)I (0,)
theorem m100 (d : Nat) (v1 v2 : Int32) (σ : xS) : x_M (d + 1) 100 [.ref 0, .int v1, .int v2] σ = ((x_M d 99 [.int v1, .int v2] σ).bind fun r1 => (if r1.1 = 0 then none else ((x_M d 13 [.ref 5, .int v1, .int v2] r1.2).bind fun r2 => some (r2.1, r2.2)))) := (x_M_at rfl rfl rfl).trans (e100_0 (x_M d) (xr x_i100 d 4999) v1 v2 σ)
-- DeskMachine.burn(III)Z (0,)
theorem m101 (d : Nat) (v1 v2 v3 : Int32) (σ : xS) : x_M (d + 1) 101 [.ref 0, .int v1, .int v2, .int v3] σ = ((x_M d 99 [.int v1, .int v2] σ).bind fun r1 => (if r1.1 = 0 then none else ((x_M d 0 [.int v3] r1.2).bind fun r2 => (if r2.1 = 0 then none else ((x_M d 24 [.ref 5, .int v1, .int v2, .int v3] r2.2).bind fun r3 => some ((1 : Int32), r3.2)))))) := (x_M_at rfl rfl rfl).trans (e101_0 (x_M d) (xr x_i101 d 4999) v1 v2 v3 σ)
-- DeskMachine$Screen.last(I)I (10,)
theorem m102 (d : Nat) (v1 : Int32) (σ : xS) : x_M (d + 1) 102 [.ref 10, .int v1] σ = (if v1 < 0 then some ((-1 : Int32), σ) else (if (64 : Int32) ≤ v1 then some ((-1 : Int32), σ) else (if v1 < (σ 10 1) then (if ((((σ 10 1) - (1 : Int32)) - v1) &&& (63 : Int32)) < 0 ∨ 64 ≤ ((((σ 10 1) - (1 : Int32)) - v1) &&& (63 : Int32)).toNatClampNeg then none else some ((σ 11 ((((σ 10 1) - (1 : Int32)) - v1) &&& (63 : Int32)).toNatClampNeg), σ)) else some ((-1 : Int32), σ)))) := (x_M_at rfl rfl rfl).trans (e102_0 (x_M d) (xr x_i102 d 4999) v1 σ)
-- DeskMachine.shown(I)I (0,)
theorem m103 (d : Nat) (v1 : Int32) (σ : xS) : x_M (d + 1) 103 [.ref 0, .int v1] σ = ((x_M d 102 [.ref 10, .int v1] σ).bind fun r1 => some (r1.1, r1.2)) := (x_M_at rfl rfl rfl).trans (e103_0 (x_M d) (xr x_i103 d 4999) v1 σ)
-- DeskMachine.register(I)I (0,)
theorem m104 (d : Nat) (v1 : Int32) (σ : xS) : x_M (d + 1) 104 [.ref 0, .int v1] σ = (if v1 = (6 : Int32) then ((x_M d 75 [.ref 3] σ).bind fun r1 => some (r1.1, r1.2)) else (if v1 = (7 : Int32) then (if v1 < 0 then some ((-1 : Int32), σ) else (if (8 : Int32) ≤ v1 then some ((-1 : Int32), σ) else (if v1 < 0 ∨ 8 ≤ v1.toNatClampNeg then none else some ((σ 4 v1.toNatClampNeg), σ)))) else (if v1 = (8 : Int32) then some ((σ 3 2), σ) else (if v1 = (9 : Int32) then some ((σ 3 3), σ) else (if v1 = (10 : Int32) then some ((σ 12 3), σ) else (if v1 < 0 then some ((-1 : Int32), σ) else (if (8 : Int32) ≤ v1 then some ((-1 : Int32), σ) else (if v1 < 0 ∨ 8 ≤ v1.toNatClampNeg then none else some ((σ 4 v1.toNatClampNeg), σ))))))))) := (x_M_at rfl rfl rfl).trans (e104_0 (x_M d) (xr x_i104 d 4999) v1 σ)
-- DeskMachine.about(I)I (0,)
theorem m105 (d : Nat) (v1 : Int32) (σ : xS) : x_M (d + 1) 105 [.ref 0, .int v1] σ = (if v1 = (0 : Int32) then some ((σ 0 7), σ) else (if v1 = (1 : Int32) then ((x_M d 3 [.ref 8] σ).bind fun r1 => some (r1.1, r1.2)) else (if v1 = (2 : Int32) then some ((σ 10 1), σ) else (if v1 = (3 : Int32) then some ((σ 0 8), σ) else (if v1 = (4 : Int32) then some ((σ 14 7), σ) else some ((-1 : Int32), σ)))))) := (x_M_at rfl rfl rfl).trans (e105_0 (x_M d) (xr x_i105 d 4999) v1 σ)
-- DeskMachineModel.key(I)I (19,)
theorem m106 (d : Nat) (v1 : Int32) (σ : xS) : x_M (d + 1) 106 [.ref 19, .int v1] σ = (if v1 < 0 then xr x_i106 d 4999 30 [(0, .ref 19), (1, .int v1)] [.int (1 : Int32), .ref 19] σ else (if v1 ≤ (255 : Int32) then (if (σ 19 13) = (40 : Int32) then xr x_i106 d 4999 30 [(0, .ref 19), (1, .int v1)] [.int (2 : Int32), .ref 19] σ else xr x_i106 d 4999 30 [(0, .ref 19), (1, .int v1)] [.int (0 : Int32), .ref 19] σ) else xr x_i106 d 4999 30 [(0, .ref 19), (1, .int v1)] [.int (1 : Int32), .ref 19] σ)) := (x_M_at rfl rfl rfl).trans (e106_0 (x_M d) (xr x_i106 d 4999) v1 σ)
theorem c106_30 (d n : Nat) (v1 s0 : Int32) (σ : xS) : xr x_i106 d (n + 1) 30 [(0, .ref 19), (1, .int v1)] [.int s0, .ref 19] σ = (if ((x_up σ 19 0 s0) 19 0) = 0 then (if ((x_up σ 19 0 s0) 19 13) < 0 ∨ 40 ≤ ((x_up σ 19 0 s0) 19 13).toNatClampNeg then none else some (((x_up (x_up (x_up σ 19 0 s0) 23 (((x_up σ 19 0 s0) 19 13).toNatClampNeg) v1) 19 13 (((x_up (x_up σ 19 0 s0) 23 (((x_up σ 19 0 s0) 19 13).toNatClampNeg) v1) 19 13) + (1 : Int32))) 19 13), (x_up (x_up (x_up σ 19 0 s0) 23 (((x_up σ 19 0 s0) 19 13).toNatClampNeg) v1) 19 13 (((x_up (x_up σ 19 0 s0) 23 (((x_up σ 19 0 s0) 19 13).toNatClampNeg) v1) 19 13) + (1 : Int32))))) else some (((x_up σ 19 0 s0) 19 13), (x_up σ 19 0 s0))) := (xr_at _ _ _ _ _ _ _).trans (e106_30 (x_M d) (xr x_i106 d n) v1 s0 σ)
-- DeskMachineModel.takeKey()I (19,)
theorem m107 (d : Nat) (σ : xS) : x_M (d + 1) 107 [.ref 19] σ = xr x_i107 d 4999 19 [(0, .ref 19), (1, .int (σ 23 0)), (2, .int (0 : Int32))] [] (x_up σ 19 13 ((σ 19 13) - (1 : Int32))) := (x_M_at rfl rfl rfl).trans (e107_0 (x_M d) (xr x_i107 d 4999) σ)
theorem c107_19 (d n : Nat) (v1 v2 : Int32) (σ : xS) : xr x_i107 d (n + 1) 19 [(0, .ref 19), (1, .int v1), (2, .int v2)] [] σ = (if (σ 19 13) ≤ v2 then some (v1, σ) else (if (v2 + (1 : Int32)) < 0 ∨ 40 ≤ (v2 + (1 : Int32)).toNatClampNeg then none else (if v2 < 0 ∨ 40 ≤ v2.toNatClampNeg then none else xr x_i107 d n 19 [(0, .ref 19), (1, .int v1), (2, .int (v2 + (1 : Int32)))] [] (x_up σ 23 (v2.toNatClampNeg) (σ 23 (v2 + (1 : Int32)).toNatClampNeg))))) := (xr_at _ _ _ _ _ _ _).trans (e107_19 (x_M d) (xr x_i107 d n) v1 v2 σ)
-- DeskMachineModel.begins(I)I (19,)
theorem m108 (d : Nat) (v1 : Int32) (σ : xS) : x_M (d + 1) 108 [.ref 19, .int v1] σ = xr x_i108 d 4999 4 [(0, .ref 19), (1, .int v1), (2, .int (0 : Int32)), (3, .int (0 : Int32))] [] σ := (x_M_at rfl rfl rfl).trans (e108_0 (x_M d) (xr x_i108 d 4999) v1 σ)
theorem c108_4 (d n : Nat) (v1 v2 v3 : Int32) (σ : xS) : xr x_i108 d (n + 1) 4 [(0, .ref 19), (1, .int v1), (2, .int v2), (3, .int v3)] [] σ = (if v1 < v3 then some (v2, σ) else xr x_i108 d n 9 [(0, .ref 19), (1, .int v1), (2, .int v2), (3, .int v3)] [] σ) := (xr_at _ _ _ _ _ _ _).trans (e108_4 (x_M d) (xr x_i108 d n) v1 v2 v3 σ)
theorem c108_9 (d n : Nat) (v1 v2 v3 : Int32) (σ : xS) : xr x_i108 d (n + 1) 9 [(0, .ref 19), (1, .int v1), (2, .int v2), (3, .int v3)] [] σ = (if v3 ≤ 0 then xr x_i108 d n 38 [(0, .ref 19), (1, .int v1), (2, .int v2), (3, .int v3)] [] σ else (if (σ 19 15) ≤ v2 then xr x_i108 d n 38 [(0, .ref 19), (1, .int v1), (2, .int v2), (3, .int v3)] [] σ else (if v2 < 0 ∨ 20 ≤ v2.toNatClampNeg then none else (if (σ 24 v2.toNatClampNeg) = (32 : Int32) then xr x_i108 d n 38 [(0, .ref 19), (1, .int v1), (2, .int v2), (3, .int v3)] [] σ else xr x_i108 d n 9 [(0, .ref 19), (1, .int v1), (2, .int (v2 + (1 : Int32))), (3, .int v3)] [] σ)))) := (xr_at _ _ _ _ _ _ _).trans (e108_9 (x_M d) (xr x_i108 d n) v1 v2 v3 σ)
theorem c108_38 (d n : Nat) (v1 v2 v3 : Int32) (σ : xS) : xr x_i108 d (n + 1) 38 [(0, .ref 19), (1, .int v1), (2, .int v2), (3, .int v3)] [] σ = (if (σ 19 15) ≤ v2 then xr x_i108 d n 4 [(0, .ref 19), (1, .int v1), (2, .int v2), (3, .int (v3 + (1 : Int32)))] [] σ else (if v2 < 0 ∨ 20 ≤ v2.toNatClampNeg then none else (if (σ 24 v2.toNatClampNeg) = (32 : Int32) then xr x_i108 d n 38 [(0, .ref 19), (1, .int v1), (2, .int (v2 + (1 : Int32))), (3, .int v3)] [] σ else xr x_i108 d n 4 [(0, .ref 19), (1, .int v1), (2, .int v2), (3, .int (v3 + (1 : Int32)))] [] σ))) := (xr_at _ _ _ _ _ _ _).trans (e108_38 (x_M d) (xr x_i108 d n) v1 v2 v3 σ)
-- DeskMachineModel.there(I)Z (19,)
theorem m109 (d : Nat) (v1 : Int32) (σ : xS) : x_M (d + 1) 109 [.ref 19, .int v1] σ = ((x_M d 108 [.ref 19, .int v1] σ).bind fun r1 => (if (r1.2 19 15) ≤ r1.1 then some ((0 : Int32), r1.2) else some ((1 : Int32), r1.2))) := (x_M_at rfl rfl rfl).trans (e109_0 (x_M d) (xr x_i109 d 4999) v1 σ)
-- DeskMachineModel.character(II)I (19,)
theorem m110 (d : Nat) (v1 v2 : Int32) (σ : xS) : x_M (d + 1) 110 [.ref 19, .int v1, .int v2] σ = ((x_M d 108 [.ref 19, .int v1] σ).bind fun r1 => xr x_i110 d 4999 9 [(0, .ref 19), (2, .int v2), (3, .int r1.1), (4, .int (0 : Int32))] [] r1.2) := (x_M_at rfl rfl rfl).trans (e110_0 (x_M d) (xr x_i110 d 4999) v1 v2 σ)
theorem c110_9 (d n : Nat) (v2 v3 v4 : Int32) (σ : xS) : xr x_i110 d (n + 1) 9 [(0, .ref 19), (2, .int v2), (3, .int v3), (4, .int v4)] [] σ = (if v2 ≤ v4 then (if (σ 19 15) ≤ v3 then some ((32 : Int32), σ) else (if v3 < 0 ∨ 20 ≤ v3.toNatClampNeg then none else some ((σ 24 v3.toNatClampNeg), σ))) else (if (σ 19 15) ≤ v3 then (if (σ 19 15) ≤ v3 then some ((32 : Int32), σ) else (if v3 < 0 ∨ 20 ≤ v3.toNatClampNeg then none else some ((σ 24 v3.toNatClampNeg), σ))) else (if v3 < 0 ∨ 20 ≤ v3.toNatClampNeg then none else (if (σ 24 v3.toNatClampNeg) = (32 : Int32) then (if (σ 19 15) ≤ v3 then some ((32 : Int32), σ) else (if v3 < 0 ∨ 20 ≤ v3.toNatClampNeg then none else some ((σ 24 v3.toNatClampNeg), σ))) else xr x_i110 d n 9 [(0, .ref 19), (2, .int v2), (3, .int (v3 + (1 : Int32))), (4, .int (v4 + (1 : Int32)))] [] σ)))) := (xr_at _ _ _ _ _ _ _).trans (e110_9 (x_M d) (xr x_i110 d n) v2 v3 v4 σ)
-- DeskMachineModel.isWord(IIII)Z (19,)
theorem m111 (d : Nat) (v1 v2 v3 v4 : Int32) (σ : xS) : x_M (d + 1) 111 [.ref 19, .int v1, .int v2, .int v3, .int v4] σ = ((x_M d 110 [.ref 19, .int (0 : Int32), .int (0 : Int32)] σ).bind fun r1 => (if r1.1 = v1 then ((x_M d 110 [.ref 19, .int (0 : Int32), .int (1 : Int32)] r1.2).bind fun r2 => (if r2.1 = v2 then ((x_M d 110 [.ref 19, .int (0 : Int32), .int (2 : Int32)] r2.2).bind fun r3 => (if r3.1 = v3 then ((x_M d 110 [.ref 19, .int (0 : Int32), .int (3 : Int32)] r3.2).bind fun r4 => (if r4.1 = v4 then ((x_M d 110 [.ref 19, .int (0 : Int32), .int (4 : Int32)] r4.2).bind fun r5 => (if r5.1 = (32 : Int32) then some ((1 : Int32), r5.2) else some ((0 : Int32), r5.2))) else some ((0 : Int32), r4.2))) else some ((0 : Int32), r3.2))) else some ((0 : Int32), r2.2))) else some ((0 : Int32), r1.2))) := (x_M_at rfl rfl rfl).trans (e111_0 (x_M d) (xr x_i111 d 4999) v1 v2 v3 v4 σ)
-- DeskMachineModel.isFree(I)Z (19,)
theorem m112 (d : Nat) (v1 : Int32) (σ : xS) : x_M (d + 1) 112 [.ref 19, .int v1] σ = (if ((16 : Int32) * v1) < 0 ∨ 512 ≤ ((16 : Int32) * v1).toNatClampNeg then none else (if (σ 21 ((16 : Int32) * v1).toNatClampNeg) = (229 : Int32) then some ((1 : Int32), σ) else some ((0 : Int32), σ))) := (x_M_at rfl rfl rfl).trans (e112_0 (x_M d) (xr x_i112 d 4999) v1 σ)
-- DeskMachineModel.show(I)V (19,)
theorem m113 (d : Nat) (v1 : Int32) (σ : xS) : x_M (d + 1) 113 [.ref 19, .int v1] σ = (if ((σ 19 17) - (σ 19 17) / (64 : Int32) * (64 : Int32)) < 0 ∨ 64 ≤ ((σ 19 17) - (σ 19 17) / (64 : Int32) * (64 : Int32)).toNatClampNeg then none else some (0, (x_up (x_up σ 25 (((σ 19 17) - (σ 19 17) / (64 : Int32) * (64 : Int32)).toNatClampNeg) v1) 19 17 (((x_up σ 25 (((σ 19 17) - (σ 19 17) / (64 : Int32) * (64 : Int32)).toNatClampNeg) v1) 19 17) + (1 : Int32))))) := (x_M_at rfl rfl rfl).trans (e113_0 (x_M d) (xr x_i113 d 4999) v1 σ)
-- DeskMachineModel.lists()V (19,)
theorem m114 (d : Nat) (σ : xS) : x_M (d + 1) 114 [.ref 19] σ = xr x_i114 d 4999 2 [(0, .ref 19), (1, .int (0 : Int32))] [] σ := (x_M_at rfl rfl rfl).trans (e114_0 (x_M d) (xr x_i114 d 4999) σ)
theorem c114_2 (d n : Nat) (v1 : Int32) (σ : xS) : xr x_i114 d (n + 1) 2 [(0, .ref 19), (1, .int v1)] [] σ = (if (8 : Int32) ≤ v1 then some (0, σ) else xr x_i114 d n 10 [(0, .ref 19), (1, .int v1), (2, .int (1 : Int32))] [] σ) := (xr_at _ _ _ _ _ _ _).trans (e114_2 (x_M d) (xr x_i114 d n) v1 σ)
theorem c114_10 (d n : Nat) (v1 v2 : Int32) (σ : xS) : xr x_i114 d (n + 1) 10 [(0, .ref 19), (1, .int v1), (2, .int v2)] [] σ = (if (6 : Int32) ≤ v2 then xr x_i114 d n 2 [(0, .ref 19), (1, .int (v1 + (1 : Int32)))] [] σ else ((x_M d 112 [.ref 19, .int v1] σ).bind fun r1 => (if r1.1 = 0 then (if (5 : Int32) ≤ v2 then ((x_M d 113 [.ref 19, .int (32 : Int32)] r1.2).bind fun r2 => xr x_i114 d n 10 [(0, .ref 19), (1, .int v1), (2, .int (v2 + (1 : Int32)))] [] r2.2) else (if (((16 : Int32) * v1) + v2) < 0 ∨ 512 ≤ (((16 : Int32) * v1) + v2).toNatClampNeg then none else ((x_M d 113 [.ref 19, .int (r1.2 21 (((16 : Int32) * v1) + v2).toNatClampNeg)] r1.2).bind fun r3 => xr x_i114 d n 10 [(0, .ref 19), (1, .int v1), (2, .int (v2 + (1 : Int32)))] [] r3.2))) else xr x_i114 d n 2 [(0, .ref 19), (1, .int (v1 + (1 : Int32)))] [] r1.2))) := (xr_at _ _ _ _ _ _ _).trans (e114_10 (x_M d) (xr x_i114 d n) v1 v2 σ)
-- DeskMachineModel.nameOf(I)V (19,)
theorem m115 (d : Nat) (v1 : Int32) (σ : xS) : x_M (d + 1) 115 [.ref 19, .int v1] σ = xr x_i115 d 4999 2 [(0, .ref 19), (1, .int v1), (2, .int (0 : Int32))] [] σ := (x_M_at rfl rfl rfl).trans (e115_0 (x_M d) (xr x_i115 d 4999) v1 σ)
theorem c115_2 (d n : Nat) (v1 v2 : Int32) (σ : xS) : xr x_i115 d (n + 1) 2 [(0, .ref 19), (1, .int v1), (2, .int v2)] [] σ = (if (4 : Int32) ≤ v2 then some (0, σ) else ((x_M d 110 [.ref 19, .int v1, .int v2] σ).bind fun r1 => (if v2 < 0 ∨ 4 ≤ v2.toNatClampNeg then none else xr x_i115 d n 2 [(0, .ref 19), (1, .int v1), (2, .int (v2 + (1 : Int32)))] [] (x_up r1.2 26 (v2.toNatClampNeg) r1.1)))) := (xr_at _ _ _ _ _ _ _).trans (e115_2 (x_M d) (xr x_i115 d n) v1 v2 σ)
-- DeskMachineModel.find(IZ)I (19,)
theorem m116 (d : Nat) (v1 v2 : Int32) (σ : xS) : x_M (d + 1) 116 [.ref 19, .int v1, .int v2] σ = xr x_i116 d 4999 2 [(0, .ref 19), (2, .int v2), (3, .int v1)] [] σ := (x_M_at rfl rfl rfl).trans (e116_0 (x_M d) (xr x_i116 d 4999) v1 v2 σ)
theorem c116_2 (d n : Nat) (v2 v3 : Int32) (σ : xS) : xr x_i116 d (n + 1) 2 [(0, .ref 19), (2, .int v2), (3, .int v3)] [] σ = (if (8 : Int32) ≤ v3 then some ((-1 : Int32), σ) else ((x_M d 112 [.ref 19, .int v3] σ).bind fun r1 => (if r1.1 = 0 then xr x_i116 d n 26 [(0, .ref 19), (2, .int v2), (3, .int v3), (4, .int (1 : Int32)), (5, .int (0 : Int32))] [] r1.2 else xr x_i116 d n 26 [(0, .ref 19), (2, .int v2), (3, .int v3), (4, .int (0 : Int32)), (5, .int (0 : Int32))] [] r1.2))) := (xr_at _ _ _ _ _ _ _).trans (e116_2 (x_M d) (xr x_i116 d n) v2 v3 σ)
theorem c116_26 (d n : Nat) (v2 v3 v4 v5 : Int32) (σ : xS) : xr x_i116 d (n + 1) 26 [(0, .ref 19), (2, .int v2), (3, .int v3), (4, .int v4), (5, .int v5)] [] σ = (if (4 : Int32) ≤ v5 then (if v4 = 0 then xr x_i116 d n 2 [(0, .ref 19), (2, .int v2), (3, .int (v3 + (1 : Int32)))] [] σ else some (v3, σ)) else (if v4 = 0 then xr x_i116 d n 26 [(0, .ref 19), (2, .int v2), (3, .int v3), (4, .int (0 : Int32)), (5, .int (v5 + (1 : Int32)))] [] σ else (if ((((16 : Int32) * v3) + (1 : Int32)) + v5) < 0 ∨ 512 ≤ ((((16 : Int32) * v3) + (1 : Int32)) + v5).toNatClampNeg then none else (if v5 < 0 ∨ 4 ≤ v5.toNatClampNeg then none else (if (σ 21 ((((16 : Int32) * v3) + (1 : Int32)) + v5).toNatClampNeg) = (σ 26 v5.toNatClampNeg) then xr x_i116 d n 26 [(0, .ref 19), (2, .int v2), (3, .int v3), (4, .int (1 : Int32)), (5, .int (v5 + (1 : Int32)))] [] σ else (if v2 = 0 then xr x_i116 d n 26 [(0, .ref 19), (2, .int v2), (3, .int v3), (4, .int (0 : Int32)), (5, .int (v5 + (1 : Int32)))] [] σ else (if v5 < 0 ∨ 4 ≤ v5.toNatClampNeg then none else (if (σ 26 v5.toNatClampNeg) = (63 : Int32) then xr x_i116 d n 26 [(0, .ref 19), (2, .int v2), (3, .int v3), (4, .int (1 : Int32)), (5, .int (v5 + (1 : Int32)))] [] σ else xr x_i116 d n 26 [(0, .ref 19), (2, .int v2), (3, .int v3), (4, .int (0 : Int32)), (5, .int (v5 + (1 : Int32)))] [] σ)))))))) := (xr_at _ _ _ _ _ _ _).trans (e116_26 (x_M d) (xr x_i116 d n) v2 v3 v4 v5 σ)
-- DeskMachineModel.erases()I (19,)
theorem m117 (d : Nat) (σ : xS) : x_M (d + 1) 117 [.ref 19] σ = ((x_M d 116 [.ref 19, .int (0 : Int32), .int (1 : Int32)] σ).bind fun r1 => xr x_i117 d 4999 9 [(0, .ref 19), (1, .int (0 : Int32)), (2, .int r1.1)] [] r1.2) := (x_M_at rfl rfl rfl).trans (e117_0 (x_M d) (xr x_i117 d 4999) σ)
theorem c117_9 (d n : Nat) (v1 v2 : Int32) (σ : xS) : xr x_i117 d (n + 1) 9 [(0, .ref 19), (1, .int v1), (2, .int v2)] [] σ = (if v2 = (-1 : Int32) then some (v1, σ) else (if ((16 : Int32) * v2) < 0 ∨ 512 ≤ ((16 : Int32) * v2).toNatClampNeg then none else ((x_M d 116 [.ref 19, .int v2, .int (1 : Int32)] (x_up σ 21 (((16 : Int32) * v2).toNatClampNeg) (229 : Int32))).bind fun r1 => xr x_i117 d n 9 [(0, .ref 19), (1, .int (v1 + (1 : Int32))), (2, .int r1.1)] [] r1.2))) := (xr_at _ _ _ _ _ _ _).trans (e117_9 (x_M d) (xr x_i117 d n) v1 v2 σ)
-- DeskMachineModel.firstFree()I (19,)
theorem m118 (d : Nat) (σ : xS) : x_M (d + 1) 118 [.ref 19] σ = xr x_i118 d 4999 2 [(0, .ref 19), (1, .int (0 : Int32))] [] σ := (x_M_at rfl rfl rfl).trans (e118_0 (x_M d) (xr x_i118 d 4999) σ)
theorem c118_2 (d n : Nat) (v1 : Int32) (σ : xS) : xr x_i118 d (n + 1) 2 [(0, .ref 19), (1, .int v1)] [] σ = (if (8 : Int32) ≤ v1 then some ((-1 : Int32), σ) else ((x_M d 112 [.ref 19, .int v1] σ).bind fun r1 => (if r1.1 = 0 then xr x_i118 d n 2 [(0, .ref 19), (1, .int (v1 + (1 : Int32)))] [] r1.2 else some (v1, r1.2)))) := (xr_at _ _ _ _ _ _ _).trans (e118_2 (x_M d) (xr x_i118 d n) v1 σ)
-- DeskMachineModel.makes()I (19,)
theorem m119 (d : Nat) (σ : xS) : x_M (d + 1) 119 [.ref 19] σ = ((x_M d 118 [.ref 19] σ).bind fun r1 => xr x_i119 d 4999 7 [(0, .ref 19), (1, .int r1.1), (2, .int (0 : Int32))] [] r1.2) := (x_M_at rfl rfl rfl).trans (e119_0 (x_M d) (xr x_i119 d 4999) σ)
theorem c119_7 (d n : Nat) (v1 v2 : Int32) (σ : xS) : xr x_i119 d (n + 1) 7 [(0, .ref 19), (1, .int v1), (2, .int v2)] [] σ = (if (16 : Int32) ≤ v2 then some (v1, σ) else (if v1 = (-1 : Int32) then some (v1, σ) else (if v2 ≤ 0 then (if (((16 : Int32) * v1) + v2) < 0 ∨ 512 ≤ (((16 : Int32) * v1) + v2).toNatClampNeg then none else xr x_i119 d n 7 [(0, .ref 19), (1, .int v1), (2, .int (v2 + (1 : Int32)))] [] (x_up σ 21 ((((16 : Int32) * v1) + v2).toNatClampNeg) (0 : Int32))) else (if (5 : Int32) ≤ v2 then (if (((16 : Int32) * v1) + v2) < 0 ∨ 512 ≤ (((16 : Int32) * v1) + v2).toNatClampNeg then none else xr x_i119 d n 7 [(0, .ref 19), (1, .int v1), (2, .int (v2 + (1 : Int32)))] [] (x_up σ 21 ((((16 : Int32) * v1) + v2).toNatClampNeg) (0 : Int32))) else (if (v2 - (1 : Int32)) < 0 ∨ 4 ≤ (v2 - (1 : Int32)).toNatClampNeg then none else (if (((16 : Int32) * v1) + v2) < 0 ∨ 512 ≤ (((16 : Int32) * v1) + v2).toNatClampNeg then none else xr x_i119 d n 7 [(0, .ref 19), (1, .int v1), (2, .int (v2 + (1 : Int32)))] [] (x_up σ 21 ((((16 : Int32) * v1) + v2).toNatClampNeg) (σ 26 (v2 - (1 : Int32)).toNatClampNeg)))))))) := (xr_at _ _ _ _ _ _ _).trans (e119_7 (x_M d) (xr x_i119 d n) v1 v2 σ)
-- DeskMachineModel.least(II)I ()
theorem m120 (d : Nat) (v0 v1 : Int32) (σ : xS) : x_M (d + 1) 120 [.int v0, .int v1] σ = (if v1 ≤ v0 then some (v1, σ) else some (v0, σ)) := (x_M_at rfl rfl rfl).trans (e120_0 (x_M d) (xr x_i120 d 4999) v0 v1 σ)
-- DeskMachineModel.used(I)Z (19,)
theorem m121 (d : Nat) (v1 : Int32) (σ : xS) : x_M (d + 1) 121 [.ref 19, .int v1] σ = xr x_i121 d 4999 4 [(0, .ref 19), (1, .int v1), (2, .int (0 : Int32)), (3, .int (0 : Int32))] [] σ := (x_M_at rfl rfl rfl).trans (e121_0 (x_M d) (xr x_i121 d 4999) v1 σ)
theorem c121_4 (d n : Nat) (v1 v2 v3 : Int32) (σ : xS) : xr x_i121 d (n + 1) 4 [(0, .ref 19), (1, .int v1), (2, .int v2), (3, .int v3)] [] σ = (if (8 : Int32) ≤ v3 then (if v2 = 0 ∨ v2 = 1 then some (v2, σ) else none) else xr x_i121 d n 13 [(0, .ref 19), (1, .int v1), (2, .int v2), (3, .int v3), (4, .int (0 : Int32))] [] σ) := (xr_at _ _ _ _ _ _ _).trans (e121_4 (x_M d) (xr x_i121 d n) v1 v2 v3 σ)
theorem c121_13 (d n : Nat) (v1 v2 v3 v4 : Int32) (σ : xS) : xr x_i121 d (n + 1) 13 [(0, .ref 19), (1, .int v1), (2, .int v2), (3, .int v3), (4, .int v4)] [] σ = (if (((16 : Int32) * v3) + (5 : Int32)) < 0 ∨ 512 ≤ (((16 : Int32) * v3) + (5 : Int32)).toNatClampNeg then none else ((x_M d 120 [.int (σ 21 (((16 : Int32) * v3) + (5 : Int32)).toNatClampNeg), .int (10 : Int32)] σ).bind fun r1 => (if r1.1 ≤ v4 then xr x_i121 d n 4 [(0, .ref 19), (1, .int v1), (2, .int v2), (3, .int (v3 + (1 : Int32)))] [] r1.2 else (if v2 = 0 then ((x_M d 112 [.ref 19, .int v3] r1.2).bind fun r2 => (if r2.1 = 0 then (if ((((16 : Int32) * v3) + (6 : Int32)) + v4) < 0 ∨ 512 ≤ ((((16 : Int32) * v3) + (6 : Int32)) + v4).toNatClampNeg then none else (if (r2.2 21 ((((16 : Int32) * v3) + (6 : Int32)) + v4).toNatClampNeg) = v1 then xr x_i121 d n 13 [(0, .ref 19), (1, .int v1), (2, .int (1 : Int32)), (3, .int v3), (4, .int (v4 + (1 : Int32)))] [] r2.2 else xr x_i121 d n 13 [(0, .ref 19), (1, .int v1), (2, .int (0 : Int32)), (3, .int v3), (4, .int (v4 + (1 : Int32)))] [] r2.2)) else xr x_i121 d n 13 [(0, .ref 19), (1, .int v1), (2, .int (0 : Int32)), (3, .int v3), (4, .int (v4 + (1 : Int32)))] [] r2.2)) else xr x_i121 d n 13 [(0, .ref 19), (1, .int v1), (2, .int (1 : Int32)), (3, .int v3), (4, .int (v4 + (1 : Int32)))] [] r1.2)))) := (xr_at _ _ _ _ _ _ _).trans (e121_13 (x_M d) (xr x_i121 d n) v1 v2 v3 v4 σ)
-- DeskMachineModel.get(I)I (19,)
theorem m122 (d : Nat) (v1 : Int32) (σ : xS) : x_M (d + 1) 122 [.ref 19, .int v1] σ = (if (v1 &&& (511 : Int32)) < 0 ∨ 512 ≤ (v1 &&& (511 : Int32)).toNatClampNeg then none else some ((σ 20 (v1 &&& (511 : Int32)).toNatClampNeg), σ)) := (x_M_at rfl rfl rfl).trans (e122_0 (x_M d) (xr x_i122 d 4999) v1 σ)
-- DeskMachineModel.freeBlock(I)I (19,)
theorem m123 (d : Nat) (v1 : Int32) (σ : xS) : x_M (d + 1) 123 [.ref 19, .int v1] σ = xr x_i123 d 4999 3 [(0, .ref 19), (1, .int v1), (2, .int (8 : Int32))] [] σ := (x_M_at rfl rfl rfl).trans (e123_0 (x_M d) (xr x_i123 d 4999) v1 σ)
theorem c123_3 (d n : Nat) (v1 v2 : Int32) (σ : xS) : xr x_i123 d (n + 1) 3 [(0, .ref 19), (1, .int v1), (2, .int v2)] [] σ = (if (32 : Int32) ≤ v2 then some ((-1 : Int32), σ) else ((x_M d 121 [.ref 19, .int v2] σ).bind fun r1 => xr x_i123 d n 18 [(0, .ref 19), (1, .int v1), (2, .int v2), (3, .int r1.1), (4, .int (0 : Int32))] [] r1.2)) := (xr_at _ _ _ _ _ _ _).trans (e123_3 (x_M d) (xr x_i123 d n) v1 v2 σ)
theorem c123_18 (d n : Nat) (v1 v2 v3 v4 : Int32) (σ : xS) : xr x_i123 d (n + 1) 18 [(0, .ref 19), (1, .int v1), (2, .int v2), (3, .int v3), (4, .int v4)] [] σ = (if v1 = (-1 : Int32) then (if v3 = 0 then some (v2, σ) else xr x_i123 d n 3 [(0, .ref 19), (1, .int v1), (2, .int (v2 + (1 : Int32)))] [] σ) else ((x_M d 122 [.ref 19, .int (v1 + (5 : Int32))] σ).bind fun r1 => ((x_M d 120 [.int r1.1, .int (10 : Int32)] r1.2).bind fun r2 => (if r2.1 ≤ v4 then (if v3 = 0 then some (v2, r2.2) else xr x_i123 d n 3 [(0, .ref 19), (1, .int v1), (2, .int (v2 + (1 : Int32)))] [] r2.2) else (if v3 = 0 then ((x_M d 122 [.ref 19, .int ((v1 + (6 : Int32)) + v4)] r2.2).bind fun r3 => (if r3.1 = v2 then xr x_i123 d n 18 [(0, .ref 19), (1, .int v1), (2, .int v2), (3, .int (1 : Int32)), (4, .int (v4 + (1 : Int32)))] [] r3.2 else xr x_i123 d n 18 [(0, .ref 19), (1, .int v1), (2, .int v2), (3, .int (0 : Int32)), (4, .int (v4 + (1 : Int32)))] [] r3.2)) else xr x_i123 d n 18 [(0, .ref 19), (1, .int v1), (2, .int v2), (3, .int (1 : Int32)), (4, .int (v4 + (1 : Int32)))] [] r2.2))))) := (xr_at _ _ _ _ _ _ _).trans (e123_18 (x_M d) (xr x_i123 d n) v1 v2 v3 v4 σ)
-- DeskMachineModel.saves(I)Z (19,)
theorem m124 (d : Nat) (v1 : Int32) (σ : xS) : x_M (d + 1) 124 [.ref 19, .int v1] σ = ((x_M d 116 [.ref 19, .int (0 : Int32), .int (0 : Int32)] σ).bind fun r1 => (if r1.1 = (-1 : Int32) then ((x_M d 119 [.ref 19] r1.2).bind fun r2 => (if r2.1 = (-1 : Int32) then some ((0 : Int32), r2.2) else xr x_i124 d 4999 39 [(0, .ref 19), (1, .int v1), (3, .int r2.1), (4, .int (0 : Int32))] [] r2.2)) else (if ((16 : Int32) * r1.1) < 0 ∨ 512 ≤ ((16 : Int32) * r1.1).toNatClampNeg then none else ((x_M d 119 [.ref 19] (x_up r1.2 21 (((16 : Int32) * r1.1).toNatClampNeg) (229 : Int32))).bind fun r3 => (if r3.1 = (-1 : Int32) then some ((0 : Int32), r3.2) else xr x_i124 d 4999 39 [(0, .ref 19), (1, .int v1), (3, .int r3.1), (4, .int (0 : Int32))] [] r3.2))))) := (x_M_at rfl rfl rfl).trans (e124_0 (x_M d) (xr x_i124 d 4999) v1 σ)
theorem c124_39 (d n : Nat) (v1 v3 v4 : Int32) (σ : xS) : xr x_i124 d (n + 1) 39 [(0, .ref 19), (1, .int v1), (3, .int v3), (4, .int v4)] [] σ = (if v1 ≤ v4 then some ((1 : Int32), σ) else ((x_M d 123 [.ref 19, .int (-1 : Int32)] σ).bind fun r1 => (if r1.1 = (-1 : Int32) then some ((0 : Int32), r1.2) else (if ((((16 : Int32) * v3) + (6 : Int32)) + v4) < 0 ∨ 512 ≤ ((((16 : Int32) * v3) + (6 : Int32)) + v4).toNatClampNeg then none else (if (((16 : Int32) * v3) + (5 : Int32)) < 0 ∨ 512 ≤ (((16 : Int32) * v3) + (5 : Int32)).toNatClampNeg then none else xr x_i124 d n 95 [(0, .ref 19), (1, .int v1), (3, .int v3), (4, .int v4), (5, .int r1.1), (6, .int (0 : Int32))] [] (x_up (x_up r1.2 21 (((((16 : Int32) * v3) + (6 : Int32)) + v4).toNatClampNeg) r1.1) 21 ((((16 : Int32) * v3) + (5 : Int32)).toNatClampNeg) (v4 + (1 : Int32)))))))) := (xr_at _ _ _ _ _ _ _).trans (e124_39 (x_M d) (xr x_i124 d n) v1 v3 v4 σ)
theorem c124_95 (d n : Nat) (v1 v3 v4 v5 v6 : Int32) (σ : xS) : xr x_i124 d (n + 1) 95 [(0, .ref 19), (1, .int v1), (3, .int v3), (4, .int v4), (5, .int v5), (6, .int v6)] [] σ = (if (16 : Int32) ≤ v6 then xr x_i124 d n 39 [(0, .ref 19), (1, .int v1), (3, .int v3), (4, .int (v4 + (1 : Int32)))] [] σ else ((x_M d 122 [.ref 19, .int (((256 : Int32) + ((16 : Int32) * v4)) + v6)] σ).bind fun r1 => (if (((16 : Int32) * v5) + v6) < 0 ∨ 512 ≤ (((16 : Int32) * v5) + v6).toNatClampNeg then none else xr x_i124 d n 95 [(0, .ref 19), (1, .int v1), (3, .int v3), (4, .int v4), (5, .int v5), (6, .int (v6 + (1 : Int32)))] [] (x_up r1.2 21 ((((16 : Int32) * v5) + v6).toNatClampNeg) r1.1)))) := (xr_at _ _ _ _ _ _ _).trans (e124_95 (x_M d) (xr x_i124 d n) v1 v3 v4 v5 v6 σ)
-- DeskMachineModel.isData(I)Z ()
theorem m125 (d : Nat) (v0 : Int32) (σ : xS) : x_M (d + 1) 125 [.int v0] σ = (if v0 < (8 : Int32) then some ((0 : Int32), σ) else (if (31 : Int32) < v0 then some ((0 : Int32), σ) else some ((1 : Int32), σ))) := (x_M_at rfl rfl rfl).trans (e125_0 (x_M d) (xr x_i125 d 4999) v0 σ)
-- DeskMachineModel.types(I)V (19,)
theorem m126 (d : Nat) (v1 : Int32) (σ : xS) : x_M (d + 1) 126 [.ref 19, .int v1] σ = xr x_i126 d 4999 4 [(0, .ref 19), (1, .int v1), (2, .int (1 : Int32)), (3, .int (0 : Int32))] [] σ := (x_M_at rfl rfl rfl).trans (e126_0 (x_M d) (xr x_i126 d 4999) v1 σ)
theorem c126_4 (d n : Nat) (v1 v2 v3 : Int32) (σ : xS) : xr x_i126 d (n + 1) 4 [(0, .ref 19), (1, .int v1), (2, .int v2), (3, .int v3)] [] σ = (if (((16 : Int32) * v1) + (5 : Int32)) < 0 ∨ 512 ≤ (((16 : Int32) * v1) + (5 : Int32)).toNatClampNeg then none else ((x_M d 120 [.int (σ 21 (((16 : Int32) * v1) + (5 : Int32)).toNatClampNeg), .int (10 : Int32)] σ).bind fun r1 => (if r1.1 ≤ v3 then some (0, r1.2) else (if ((((16 : Int32) * v1) + (6 : Int32)) + v3) < 0 ∨ 512 ≤ ((((16 : Int32) * v1) + (6 : Int32)) + v3).toNatClampNeg then none else xr x_i126 d n 43 [(0, .ref 19), (1, .int v1), (2, .int v2), (3, .int v3), (4, .int (r1.2 21 ((((16 : Int32) * v1) + (6 : Int32)) + v3).toNatClampNeg)), (5, .int (0 : Int32))] [] r1.2)))) := (xr_at _ _ _ _ _ _ _).trans (e126_4 (x_M d) (xr x_i126 d n) v1 v2 v3 σ)
theorem c126_43 (d n : Nat) (v1 v2 v3 v4 v5 : Int32) (σ : xS) : xr x_i126 d (n + 1) 43 [(0, .ref 19), (1, .int v1), (2, .int v2), (3, .int v3), (4, .int v4), (5, .int v5)] [] σ = (if (16 : Int32) ≤ v5 then xr x_i126 d n 4 [(0, .ref 19), (1, .int v1), (2, .int v2), (3, .int (v3 + (1 : Int32)))] [] σ else (if v2 = 0 then xr x_i126 d n 4 [(0, .ref 19), (1, .int v1), (2, .int v2), (3, .int (v3 + (1 : Int32)))] [] σ else ((x_M d 125 [.int v4] σ).bind fun r1 => (if r1.1 = 0 then xr x_i126 d n 4 [(0, .ref 19), (1, .int v1), (2, .int v2), (3, .int (v3 + (1 : Int32)))] [] r1.2 else (if (((16 : Int32) * v4) + v5) < 0 ∨ 512 ≤ (((16 : Int32) * v4) + v5).toNatClampNeg then none else (if (r1.2 21 (((16 : Int32) * v4) + v5).toNatClampNeg) = (26 : Int32) then (if (0 : Int32) = 0 then xr x_i126 d n 43 [(0, .ref 19), (1, .int v1), (2, .int (0 : Int32)), (3, .int v3), (4, .int v4), (5, .int (v5 + (1 : Int32)))] [] r1.2 else (if (((16 : Int32) * v4) + v5) < 0 ∨ 512 ≤ (((16 : Int32) * v4) + v5).toNatClampNeg then none else ((x_M d 113 [.ref 19, .int (r1.2 21 (((16 : Int32) * v4) + v5).toNatClampNeg)] r1.2).bind fun r2 => xr x_i126 d n 43 [(0, .ref 19), (1, .int v1), (2, .int (0 : Int32)), (3, .int v3), (4, .int v4), (5, .int (v5 + (1 : Int32)))] [] r2.2))) else (if (1 : Int32) = 0 then xr x_i126 d n 43 [(0, .ref 19), (1, .int v1), (2, .int (1 : Int32)), (3, .int v3), (4, .int v4), (5, .int (v5 + (1 : Int32)))] [] r1.2 else (if (((16 : Int32) * v4) + v5) < 0 ∨ 512 ≤ (((16 : Int32) * v4) + v5).toNatClampNeg then none else ((x_M d 113 [.ref 19, .int (r1.2 21 (((16 : Int32) * v4) + v5).toNatClampNeg)] r1.2).bind fun r3 => xr x_i126 d n 43 [(0, .ref 19), (1, .int v1), (2, .int (1 : Int32)), (3, .int v3), (4, .int v4), (5, .int (v5 + (1 : Int32)))] [] r3.2))))))))) := (xr_at _ _ _ _ _ _ _).trans (e126_43 (x_M d) (xr x_i126 d n) v1 v2 v3 v4 v5 σ)
-- DeskMachineModel.put(II)V (19,)
theorem m127 (d : Nat) (v1 v2 : Int32) (σ : xS) : x_M (d + 1) 127 [.ref 19, .int v1, .int v2] σ = (if (v1 &&& (511 : Int32)) < 0 ∨ 512 ≤ (v1 &&& (511 : Int32)).toNatClampNeg then none else some (0, (x_up σ 20 ((v1 &&& (511 : Int32)).toNatClampNeg) (v2 &&& (255 : Int32))))) := (x_M_at rfl rfl rfl).trans (e127_0 (x_M d) (xr x_i127 d 4999) v1 v2 σ)
-- DeskMachineModel.setFlags(I)V (19,)
theorem m128 (d : Nat) (v1 : Int32) (σ : xS) : x_M (d + 1) 128 [.ref 19, .int v1] σ = some (0, (x_up (x_up (x_up (x_up (x_up σ 19 7 ((v1 >>> ((7 : Int32) &&& 31)) &&& (1 : Int32))) 19 8 ((v1 >>> ((6 : Int32) &&& 31)) &&& (1 : Int32))) 19 10 ((v1 >>> ((4 : Int32) &&& 31)) &&& (1 : Int32))) 19 9 ((v1 >>> ((2 : Int32) &&& 31)) &&& (1 : Int32))) 19 11 (v1 &&& (1 : Int32)))) := (x_M_at rfl rfl rfl).trans (e128_0 (x_M d) (xr x_i128 d 4999) v1 σ)
-- DeskMachineModel.putWord(II)V (19,)
theorem m129 (d : Nat) (v1 v2 : Int32) (σ : xS) : x_M (d + 1) 129 [.ref 19, .int v1, .int v2] σ = ((x_M d 127 [.ref 19, .int v1, .int v2] σ).bind fun r1 => ((x_M d 127 [.ref 19, .int (v1 + (1 : Int32)), .int (v2 >>> ((8 : Int32) &&& 31))] r1.2).bind fun r2 => some (0, r2.2))) := (x_M_at rfl rfl rfl).trans (e129_0 (x_M d) (xr x_i129 d 4999) v1 v2 σ)
-- DeskMachineModel.push(I)V (19,)
theorem m130 (d : Nat) (v1 : Int32) (σ : xS) : x_M (d + 1) 130 [.ref 19, .int v1] σ = ((x_M d 129 [.ref 19, .int ((x_up σ 19 4 (((σ 19 4) - (2 : Int32)) &&& (Int32.ofNat 65535))) 19 4), .int v1] (x_up σ 19 4 (((σ 19 4) - (2 : Int32)) &&& (Int32.ofNat 65535)))).bind fun r1 => some (0, r1.2)) := (x_M_at rfl rfl rfl).trans (e130_0 (x_M d) (xr x_i130 d 4999) v1 σ)
-- DeskMachineModel.loads(I)V (19,)
theorem m131 (d : Nat) (v1 : Int32) (σ : xS) : x_M (d + 1) 131 [.ref 19, .int v1] σ = xr x_i131 d 4999 2 [(0, .ref 19), (1, .int v1), (2, .int (0 : Int32))] [] σ := (x_M_at rfl rfl rfl).trans (e131_0 (x_M d) (xr x_i131 d 4999) v1 σ)
theorem c131_2 (d n : Nat) (v1 v2 : Int32) (σ : xS) : xr x_i131 d (n + 1) 2 [(0, .ref 19), (1, .int v1), (2, .int v2)] [] σ = (if (((16 : Int32) * v1) + (5 : Int32)) < 0 ∨ 512 ≤ (((16 : Int32) * v1) + (5 : Int32)).toNatClampNeg then none else ((x_M d 120 [.int (σ 21 (((16 : Int32) * v1) + (5 : Int32)).toNatClampNeg), .int (10 : Int32)] σ).bind fun r1 => (if r1.1 ≤ v2 then xr x_i131 d n 95 [(0, .ref 19), (2, .int (0 : Int32))] [] r1.2 else (if ((((16 : Int32) * v1) + (6 : Int32)) + v2) < 0 ∨ 512 ≤ ((((16 : Int32) * v1) + (6 : Int32)) + v2).toNatClampNeg then none else xr x_i131 d n 40 [(0, .ref 19), (1, .int v1), (2, .int v2), (3, .int (r1.2 21 ((((16 : Int32) * v1) + (6 : Int32)) + v2).toNatClampNeg)), (4, .int (0 : Int32))] [] r1.2)))) := (xr_at _ _ _ _ _ _ _).trans (e131_2 (x_M d) (xr x_i131 d n) v1 v2 σ)
theorem c131_95 (d n : Nat) (v2 : Int32) (σ : xS) : xr x_i131 d (n + 1) 95 [(0, .ref 19), (2, .int v2)] [] σ = (if (8 : Int32) ≤ v2 then ((x_M d 128 [.ref 19, .int (0 : Int32)] σ).bind fun r1 => ((x_M d 130 [.ref 19, .int (0 : Int32)] (x_up r1.2 19 4 (496 : Int32))).bind fun r2 => some (0, (x_up (x_up (x_up r2.2 19 5 (256 : Int32)) 19 6 (128 : Int32)) 19 12 (1 : Int32))))) else (if v2 < 0 ∨ 8 ≤ v2.toNatClampNeg then none else xr x_i131 d n 95 [(0, .ref 19), (2, .int (v2 + (1 : Int32)))] [] (x_up σ 22 (v2.toNatClampNeg) (0 : Int32)))) := (xr_at _ _ _ _ _ _ _).trans (e131_95 (x_M d) (xr x_i131 d n) v2 σ)
theorem c131_40 (d n : Nat) (v1 v2 v3 v4 : Int32) (σ : xS) : xr x_i131 d (n + 1) 40 [(0, .ref 19), (1, .int v1), (2, .int v2), (3, .int v3), (4, .int v4)] [] σ = (if (16 : Int32) ≤ v4 then xr x_i131 d n 2 [(0, .ref 19), (1, .int v1), (2, .int (v2 + (1 : Int32)))] [] σ else ((x_M d 125 [.int v3] σ).bind fun r1 => (if r1.1 = 0 then xr x_i131 d n 2 [(0, .ref 19), (1, .int v1), (2, .int (v2 + (1 : Int32)))] [] r1.2 else (if (((16 : Int32) * v3) + v4) < 0 ∨ 512 ≤ (((16 : Int32) * v3) + v4).toNatClampNeg then none else ((x_M d 127 [.ref 19, .int (((256 : Int32) + ((16 : Int32) * v2)) + v4), .int (r1.2 21 (((16 : Int32) * v3) + v4).toNatClampNeg)] r1.2).bind fun r2 => xr x_i131 d n 40 [(0, .ref 19), (1, .int v1), (2, .int v2), (3, .int v3), (4, .int (v4 + (1 : Int32)))] [] r2.2))))) := (xr_at _ _ _ _ _ _ _).trans (e131_40 (x_M d) (xr x_i131 d n) v1 v2 v3 v4 σ)
-- DeskMachineModel.command()Z (19,)
theorem m132 (d : Nat) (σ : xS) : x_M (d + 1) 132 [.ref 19] σ = ((x_M d 109 [.ref 19, .int (0 : Int32)] σ).bind fun r1 => (if r1.1 = 0 then some ((1 : Int32), r1.2) else ((x_M d 111 [.ref 19, .int (76 : Int32), .int (73 : Int32), .int (83 : Int32), .int (84 : Int32)] r1.2).bind fun r2 => (if r2.1 = 0 then ((x_M d 111 [.ref 19, .int (83 : Int32), .int (72 : Int32), .int (79 : Int32), .int (87 : Int32)] r2.2).bind fun r3 => ((x_M d 111 [.ref 19, .int (68 : Int32), .int (82 : Int32), .int (79 : Int32), .int (80 : Int32)] r3.2).bind fun r4 => ((x_M d 111 [.ref 19, .int (67 : Int32), .int (65 : Int32), .int (76 : Int32), .int (76 : Int32)] r4.2).bind fun r5 => ((x_M d 111 [.ref 19, .int (83 : Int32), .int (65 : Int32), .int (86 : Int32), .int (69 : Int32)] r5.2).bind fun r6 => (if r3.1 = 0 then (if r4.1 = 0 then (if r5.1 = 0 then (if r6.1 = 0 then xr x_i132 d 4999 119 [(0, .ref 19), (1, .int r3.1), (2, .int r4.1), (3, .int r5.1), (4, .int r6.1)] [] r6.2 else ((x_M d 109 [.ref 19, .int (2 : Int32)] r6.2).bind fun r11 => (if r11.1 = 0 then some ((0 : Int32), r11.2) else xr x_i132 d 4999 119 [(0, .ref 19), (1, .int r3.1), (2, .int r4.1), (3, .int r5.1), (4, .int r6.1)] [] r11.2))) else ((x_M d 109 [.ref 19, .int (2 : Int32)] r6.2).bind fun r10 => (if r10.1 = 0 then some ((0 : Int32), r10.2) else xr x_i132 d 4999 119 [(0, .ref 19), (1, .int r3.1), (2, .int r4.1), (3, .int r5.1), (4, .int r6.1)] [] r10.2))) else ((x_M d 109 [.ref 19, .int (1 : Int32)] r6.2).bind fun r12 => (if r12.1 = 0 then some ((0 : Int32), r12.2) else (if r5.1 = 0 then (if r6.1 = 0 then xr x_i132 d 4999 119 [(0, .ref 19), (1, .int r3.1), (2, .int r4.1), (3, .int r5.1), (4, .int r6.1)] [] r12.2 else ((x_M d 109 [.ref 19, .int (2 : Int32)] r12.2).bind fun r14 => (if r14.1 = 0 then some ((0 : Int32), r14.2) else xr x_i132 d 4999 119 [(0, .ref 19), (1, .int r3.1), (2, .int r4.1), (3, .int r5.1), (4, .int r6.1)] [] r14.2))) else ((x_M d 109 [.ref 19, .int (2 : Int32)] r12.2).bind fun r13 => (if r13.1 = 0 then some ((0 : Int32), r13.2) else xr x_i132 d 4999 119 [(0, .ref 19), (1, .int r3.1), (2, .int r4.1), (3, .int r5.1), (4, .int r6.1)] [] r13.2)))))) else ((x_M d 109 [.ref 19, .int (1 : Int32)] r6.2).bind fun r7 => (if r7.1 = 0 then some ((0 : Int32), r7.2) else (if r5.1 = 0 then (if r6.1 = 0 then xr x_i132 d 4999 119 [(0, .ref 19), (1, .int r3.1), (2, .int r4.1), (3, .int r5.1), (4, .int r6.1)] [] r7.2 else ((x_M d 109 [.ref 19, .int (2 : Int32)] r7.2).bind fun r9 => (if r9.1 = 0 then some ((0 : Int32), r9.2) else xr x_i132 d 4999 119 [(0, .ref 19), (1, .int r3.1), (2, .int r4.1), (3, .int r5.1), (4, .int r6.1)] [] r9.2))) else ((x_M d 109 [.ref 19, .int (2 : Int32)] r7.2).bind fun r8 => (if r8.1 = 0 then some ((0 : Int32), r8.2) else xr x_i132 d 4999 119 [(0, .ref 19), (1, .int r3.1), (2, .int r4.1), (3, .int r5.1), (4, .int r6.1)] [] r8.2)))))))))) else ((x_M d 114 [.ref 19] r2.2).bind fun r15 => some ((1 : Int32), r15.2)))))) := (x_M_at rfl rfl rfl).trans (e132_0 (x_M d) (xr x_i132 d 4999) σ)
theorem c132_119 (d n : Nat) (v1 v2 v3 v4 : Int32) (σ : xS) : xr x_i132 d (n + 1) 119 [(0, .ref 19), (1, .int v1), (2, .int v2), (3, .int v3), (4, .int v4)] [] σ = (if v2 = 0 then (if v4 = 0 then (if v1 = 0 then (if v3 = 0 then ((x_M d 115 [.ref 19, .int (0 : Int32)] σ).bind fun r6 => ((x_M d 116 [.ref 19, .int (0 : Int32), .int (0 : Int32)] r6.2).bind fun r7 => (if r7.1 = (-1 : Int32) then some ((0 : Int32), r7.2) else (if v1 = 0 then (if v3 = 0 then ((x_M d 131 [.ref 19, .int r7.1] r7.2).bind fun r8 => some ((1 : Int32), r8.2)) else ((x_M d 115 [.ref 19, .int (2 : Int32)] r7.2).bind fun r9 => xr x_i132 d n 274 [(0, .ref 19), (5, .int r7.1), (6, .int (0 : Int32))] [] r9.2)) else ((x_M d 126 [.ref 19, .int r7.1] r7.2).bind fun r10 => some ((1 : Int32), r10.2)))))) else ((x_M d 115 [.ref 19, .int (1 : Int32)] σ).bind fun r11 => ((x_M d 116 [.ref 19, .int (0 : Int32), .int (0 : Int32)] r11.2).bind fun r12 => (if r12.1 = (-1 : Int32) then some ((0 : Int32), r12.2) else (if v1 = 0 then (if v3 = 0 then ((x_M d 131 [.ref 19, .int r12.1] r12.2).bind fun r13 => some ((1 : Int32), r13.2)) else ((x_M d 115 [.ref 19, .int (2 : Int32)] r12.2).bind fun r14 => xr x_i132 d n 274 [(0, .ref 19), (5, .int r12.1), (6, .int (0 : Int32))] [] r14.2)) else ((x_M d 126 [.ref 19, .int r12.1] r12.2).bind fun r15 => some ((1 : Int32), r15.2))))))) else ((x_M d 115 [.ref 19, .int (1 : Int32)] σ).bind fun r1 => ((x_M d 116 [.ref 19, .int (0 : Int32), .int (0 : Int32)] r1.2).bind fun r2 => (if r2.1 = (-1 : Int32) then some ((0 : Int32), r2.2) else (if v1 = 0 then (if v3 = 0 then ((x_M d 131 [.ref 19, .int r2.1] r2.2).bind fun r3 => some ((1 : Int32), r3.2)) else ((x_M d 115 [.ref 19, .int (2 : Int32)] r2.2).bind fun r4 => xr x_i132 d n 274 [(0, .ref 19), (5, .int r2.1), (6, .int (0 : Int32))] [] r4.2)) else ((x_M d 126 [.ref 19, .int r2.1] r2.2).bind fun r5 => some ((1 : Int32), r5.2))))))) else ((x_M d 110 [.ref 19, .int (1 : Int32), .int (0 : Int32)] σ).bind fun r16 => ((x_M d 115 [.ref 19, .int (2 : Int32)] r16.2).bind fun r17 => (if (r16.1 - (48 : Int32)) < 0 then (if (0 : Int32) = 0 then some ((0 : Int32), r17.2) else ((x_M d 124 [.ref 19, .int (r16.1 - (48 : Int32))] r17.2).bind fun r18 => (if r18.1 = 0 then some ((0 : Int32), r18.2) else some ((1 : Int32), r18.2)))) else (if (9 : Int32) < (r16.1 - (48 : Int32)) then (if (0 : Int32) = 0 then some ((0 : Int32), r17.2) else ((x_M d 124 [.ref 19, .int (r16.1 - (48 : Int32))] r17.2).bind fun r19 => (if r19.1 = 0 then some ((0 : Int32), r19.2) else some ((1 : Int32), r19.2)))) else ((x_M d 110 [.ref 19, .int (1 : Int32), .int (1 : Int32)] r17.2).bind fun r20 => (if r20.1 = (32 : Int32) then (if (1 : Int32) = 0 then some ((0 : Int32), r20.2) else ((x_M d 124 [.ref 19, .int (r16.1 - (48 : Int32))] r20.2).bind fun r22 => (if r22.1 = 0 then some ((0 : Int32), r22.2) else some ((1 : Int32), r22.2)))) else (if (0 : Int32) = 0 then some ((0 : Int32), r20.2) else ((x_M d 124 [.ref 19, .int (r16.1 - (48 : Int32))] r20.2).bind fun r21 => (if r21.1 = 0 then some ((0 : Int32), r21.2) else some ((1 : Int32), r21.2))))))))))) else ((x_M d 115 [.ref 19, .int (1 : Int32)] σ).bind fun r23 => ((x_M d 117 [.ref 19] r23.2).bind fun r24 => (if r24.1 < 0 then some ((0 : Int32), r24.2) else some ((1 : Int32), r24.2))))) := (xr_at _ _ _ _ _ _ _).trans (e132_119 (x_M d) (xr x_i132 d n) v1 v2 v3 v4 σ)
theorem c132_274 (d n : Nat) (v5 v6 : Int32) (σ : xS) : xr x_i132 d (n + 1) 274 [(0, .ref 19), (5, .int v5), (6, .int v6)] [] σ = (if (4 : Int32) ≤ v6 then some ((1 : Int32), σ) else (if v6 < 0 ∨ 4 ≤ v6.toNatClampNeg then none else (if ((((16 : Int32) * v5) + (1 : Int32)) + v6) < 0 ∨ 512 ≤ ((((16 : Int32) * v5) + (1 : Int32)) + v6).toNatClampNeg then none else xr x_i132 d n 274 [(0, .ref 19), (5, .int v5), (6, .int (v6 + (1 : Int32)))] [] (x_up σ 21 (((((16 : Int32) * v5) + (1 : Int32)) + v6).toNatClampNeg) (σ 26 v6.toNatClampNeg))))) := (xr_at _ _ _ _ _ _ _).trans (e132_274 (x_M d) (xr x_i132 d n) v5 v6 σ)
-- DeskMachineModel.typed(I)V (19,)
theorem m133 (d : Nat) (v1 : Int32) (σ : xS) : x_M (d + 1) 133 [.ref 19, .int v1] σ = (if v1 = (13 : Int32) then ((x_M d 132 [.ref 19] σ).bind fun r1 => (if r1.1 = 0 then ((x_M d 113 [.ref 19, .int (63 : Int32)] r1.2).bind fun r4 => ((x_M d 113 [.ref 19, .int (13 : Int32)] r4.2).bind fun r5 => (if (r5.2 19 12) = 0 then ((x_M d 113 [.ref 19, .int (62 : Int32)] r5.2).bind fun r6 => some (0, (x_up r6.2 19 15 (0 : Int32)))) else some (0, (x_up r5.2 19 15 (0 : Int32)))))) else ((x_M d 113 [.ref 19, .int (13 : Int32)] r1.2).bind fun r2 => (if (r2.2 19 12) = 0 then ((x_M d 113 [.ref 19, .int (62 : Int32)] r2.2).bind fun r3 => some (0, (x_up r3.2 19 15 (0 : Int32)))) else some (0, (x_up r2.2 19 15 (0 : Int32))))))) else (if v1 < (32 : Int32) then some (0, σ) else (if (126 : Int32) < v1 then some (0, σ) else (if (20 : Int32) ≤ (σ 19 15) then some (0, σ) else (if (σ 19 15) < 0 ∨ 20 ≤ (σ 19 15).toNatClampNeg then none else some (0, (x_up (x_up σ 24 ((σ 19 15).toNatClampNeg) v1) 19 15 (((x_up σ 24 ((σ 19 15).toNatClampNeg) v1) 19 15) + (1 : Int32))))))))) := (x_M_at rfl rfl rfl).trans (e133_0 (x_M d) (xr x_i133 d 4999) v1 σ)
-- DeskMachineModel.pair(I)I (19,)
theorem m134 (d : Nat) (v1 : Int32) (σ : xS) : x_M (d + 1) 134 [.ref 19, .int v1] σ = (if v1 = (3 : Int32) then some ((σ 19 4), σ) else (if ((2 : Int32) * v1) < 0 ∨ 8 ≤ ((2 : Int32) * v1).toNatClampNeg then none else (if (((2 : Int32) * v1) + (1 : Int32)) < 0 ∨ 8 ≤ (((2 : Int32) * v1) + (1 : Int32)).toNatClampNeg then none else some ((((256 : Int32) * (σ 22 ((2 : Int32) * v1).toNatClampNeg)) + (σ 22 (((2 : Int32) * v1) + (1 : Int32)).toNatClampNeg)), σ)))) := (x_M_at rfl rfl rfl).trans (e134_0 (x_M d) (xr x_i134 d 4999) v1 σ)
-- DeskMachineModel.nameAt(I)V (19,)
theorem m135 (d : Nat) (v1 : Int32) (σ : xS) : x_M (d + 1) 135 [.ref 19, .int v1] σ = xr x_i135 d 4999 2 [(0, .ref 19), (1, .int v1), (2, .int (0 : Int32))] [] σ := (x_M_at rfl rfl rfl).trans (e135_0 (x_M d) (xr x_i135 d 4999) v1 σ)
theorem c135_2 (d n : Nat) (v1 v2 : Int32) (σ : xS) : xr x_i135 d (n + 1) 2 [(0, .ref 19), (1, .int v1), (2, .int v2)] [] σ = (if (4 : Int32) ≤ v2 then some (0, σ) else ((x_M d 122 [.ref 19, .int (v1 + v2)] σ).bind fun r1 => (if v2 < 0 ∨ 4 ≤ v2.toNatClampNeg then none else xr x_i135 d n 2 [(0, .ref 19), (1, .int v1), (2, .int (v2 + (1 : Int32)))] [] (x_up r1.2 26 (v2.toNatClampNeg) r1.1)))) := (xr_at _ _ _ _ _ _ _).trans (e135_2 (x_M d) (xr x_i135 d n) v1 v2 σ)
-- DeskMachineModel.searches(I)I (19,)
theorem m136 (d : Nat) (v1 : Int32) (σ : xS) : x_M (d + 1) 136 [.ref 19, .int v1] σ = ((x_M d 116 [.ref 19, .int v1, .int (1 : Int32)] σ).bind fun r1 => xr x_i136 d 4999 9 [(0, .ref 19), (2, .int r1.1), (3, .int (0 : Int32))] [] r1.2) := (x_M_at rfl rfl rfl).trans (e136_0 (x_M d) (xr x_i136 d 4999) v1 σ)
theorem c136_9 (d n : Nat) (v2 v3 : Int32) (σ : xS) : xr x_i136 d (n + 1) 9 [(0, .ref 19), (2, .int v2), (3, .int v3)] [] σ = (if (16 : Int32) ≤ v3 then (if v2 = (-1 : Int32) then (if v2 = (-1 : Int32) then some ((255 : Int32), (x_up σ 19 20 (8 : Int32))) else some (v2, (x_up σ 19 20 (8 : Int32)))) else (if v2 = (-1 : Int32) then some ((255 : Int32), (x_up σ 19 20 v2)) else some (v2, (x_up σ 19 20 v2)))) else (if v2 = (-1 : Int32) then (if v2 = (-1 : Int32) then (if v2 = (-1 : Int32) then some ((255 : Int32), (x_up σ 19 20 (8 : Int32))) else some (v2, (x_up σ 19 20 (8 : Int32)))) else (if v2 = (-1 : Int32) then some ((255 : Int32), (x_up σ 19 20 v2)) else some (v2, (x_up σ 19 20 v2)))) else (if (((16 : Int32) * v2) + v3) < 0 ∨ 512 ≤ (((16 : Int32) * v2) + v3).toNatClampNeg then none else ((x_M d 127 [.ref 19, .int ((σ 19 6) + v3), .int (σ 21 (((16 : Int32) * v2) + v3).toNatClampNeg)] σ).bind fun r1 => xr x_i136 d n 9 [(0, .ref 19), (2, .int v2), (3, .int (v3 + (1 : Int32)))] [] r1.2)))) := (xr_at _ _ _ _ _ _ _).trans (e136_9 (x_M d) (xr x_i136 d n) v2 v3 σ)
-- DeskMachineModel.reads(I)I (19,)
theorem m137 (d : Nat) (v1 : Int32) (σ : xS) : x_M (d + 1) 137 [.ref 19, .int v1] σ = ((x_M d 122 [.ref 19, .int (v1 + (16 : Int32))] σ).bind fun r1 => (if r1.1 ≤ (9 : Int32) then ((x_M d 122 [.ref 19, .int ((v1 + (6 : Int32)) + r1.1)] r1.2).bind fun r2 => (if (9 : Int32) < r1.1 then some ((1 : Int32), r2.2) else ((x_M d 122 [.ref 19, .int (v1 + (5 : Int32))] r2.2).bind fun r3 => (if r3.1 ≤ r1.1 then some ((1 : Int32), r3.2) else ((x_M d 125 [.int r2.1] r3.2).bind fun r4 => (if r4.1 = 0 then some ((1 : Int32), r4.2) else xr x_i137 d 4999 59 [(0, .ref 19), (1, .int v1), (2, .int r1.1), (3, .int r2.1), (4, .int (0 : Int32))] [] r4.2)))))) else (if (9 : Int32) < r1.1 then some ((1 : Int32), r1.2) else ((x_M d 122 [.ref 19, .int (v1 + (5 : Int32))] r1.2).bind fun r5 => (if r5.1 ≤ r1.1 then some ((1 : Int32), r5.2) else ((x_M d 125 [.int (0 : Int32)] r5.2).bind fun r6 => (if r6.1 = 0 then some ((1 : Int32), r6.2) else xr x_i137 d 4999 59 [(0, .ref 19), (1, .int v1), (2, .int r1.1), (3, .int (0 : Int32)), (4, .int (0 : Int32))] [] r6.2))))))) := (x_M_at rfl rfl rfl).trans (e137_0 (x_M d) (xr x_i137 d 4999) v1 σ)
theorem c137_59 (d n : Nat) (v1 v2 v3 v4 : Int32) (σ : xS) : xr x_i137 d (n + 1) 59 [(0, .ref 19), (1, .int v1), (2, .int v2), (3, .int v3), (4, .int v4)] [] σ = (if (16 : Int32) ≤ v4 then ((x_M d 127 [.ref 19, .int (v1 + (16 : Int32)), .int (v2 + (1 : Int32))] σ).bind fun r1 => some ((0 : Int32), r1.2)) else (if (((16 : Int32) * v3) + v4) < 0 ∨ 512 ≤ (((16 : Int32) * v3) + v4).toNatClampNeg then none else ((x_M d 127 [.ref 19, .int ((σ 19 6) + v4), .int (σ 21 (((16 : Int32) * v3) + v4).toNatClampNeg)] σ).bind fun r2 => xr x_i137 d n 59 [(0, .ref 19), (1, .int v1), (2, .int v2), (3, .int v3), (4, .int (v4 + (1 : Int32)))] [] r2.2))) := (xr_at _ _ _ _ _ _ _).trans (e137_59 (x_M d) (xr x_i137 d n) v1 v2 v3 v4 σ)
-- DeskMachineModel.writes(I)I (19,)
theorem m138 (d : Nat) (v1 : Int32) (σ : xS) : x_M (d + 1) 138 [.ref 19, .int v1] σ = ((x_M d 122 [.ref 19, .int (v1 + (16 : Int32))] σ).bind fun r1 => (if r1.1 ≤ (9 : Int32) then ((x_M d 122 [.ref 19, .int ((v1 + (6 : Int32)) + r1.1)] r1.2).bind fun r2 => ((x_M d 122 [.ref 19, .int (v1 + (5 : Int32))] r2.2).bind fun r3 => (if r3.1 ≤ r1.1 then ((x_M d 123 [.ref 19, .int v1] r3.2).bind fun r4 => (if r4.1 = (-1 : Int32) then some ((2 : Int32), r4.2) else ((x_M d 127 [.ref 19, .int ((v1 + (6 : Int32)) + r1.1), .int r4.1] r4.2).bind fun r5 => xr x_i138 d 4999 73 [(0, .ref 19), (1, .int v1), (2, .int r1.1), (3, .int r4.1), (4, .int (0 : Int32))] [] r5.2))) else ((x_M d 125 [.int r2.1] r3.2).bind fun r6 => (if r6.1 = 0 then ((x_M d 123 [.ref 19, .int v1] r6.2).bind fun r7 => (if r7.1 = (-1 : Int32) then some ((2 : Int32), r7.2) else ((x_M d 127 [.ref 19, .int ((v1 + (6 : Int32)) + r1.1), .int r7.1] r7.2).bind fun r8 => xr x_i138 d 4999 73 [(0, .ref 19), (1, .int v1), (2, .int r1.1), (3, .int r7.1), (4, .int (0 : Int32))] [] r8.2))) else xr x_i138 d 4999 73 [(0, .ref 19), (1, .int v1), (2, .int r1.1), (3, .int r2.1), (4, .int (0 : Int32))] [] r6.2))))) else some ((1 : Int32), r1.2))) := (x_M_at rfl rfl rfl).trans (e138_0 (x_M d) (xr x_i138 d 4999) v1 σ)
theorem c138_73 (d n : Nat) (v1 v2 v3 v4 : Int32) (σ : xS) : xr x_i138 d (n + 1) 73 [(0, .ref 19), (1, .int v1), (2, .int v2), (3, .int v3), (4, .int v4)] [] σ = (if (16 : Int32) ≤ v4 then ((x_M d 122 [.ref 19, .int (v1 + (5 : Int32))] σ).bind fun r1 => (if (v2 + (1 : Int32)) ≤ r1.1 then ((x_M d 122 [.ref 19, .int (v1 + (5 : Int32))] r1.2).bind fun r2 => ((x_M d 127 [.ref 19, .int (v1 + (5 : Int32)), .int r2.1] r2.2).bind fun r3 => ((x_M d 127 [.ref 19, .int (v1 + (16 : Int32)), .int (v2 + (1 : Int32))] r3.2).bind fun r4 => some ((0 : Int32), r4.2)))) else ((x_M d 127 [.ref 19, .int (v1 + (5 : Int32)), .int (v2 + (1 : Int32))] r1.2).bind fun r5 => ((x_M d 127 [.ref 19, .int (v1 + (16 : Int32)), .int (v2 + (1 : Int32))] r5.2).bind fun r6 => some ((0 : Int32), r6.2))))) else ((x_M d 122 [.ref 19, .int ((σ 19 6) + v4)] σ).bind fun r7 => (if (((16 : Int32) * v3) + v4) < 0 ∨ 512 ≤ (((16 : Int32) * v3) + v4).toNatClampNeg then none else xr x_i138 d n 73 [(0, .ref 19), (1, .int v1), (2, .int v2), (3, .int v3), (4, .int (v4 + (1 : Int32)))] [] (x_up r7.2 21 ((((16 : Int32) * v3) + v4).toNatClampNeg) r7.1)))) := (xr_at _ _ _ _ _ _ _).trans (e138_73 (x_M d) (xr x_i138 d n) v1 v2 v3 v4 σ)
-- DeskMachineModel.files(II)I (19,)
theorem m139 (d : Nat) (v1 v2 : Int32) (σ : xS) : x_M (d + 1) 139 [.ref 19, .int v1, .int v2] σ = ((x_M d 135 [.ref 19, .int (v2 + (1 : Int32))] σ).bind fun r1 => (if v1 = (17 : Int32) then ((x_M d 136 [.ref 19, .int (0 : Int32)] r1.2).bind fun r9 => some (r9.1, r9.2)) else (if v1 = (18 : Int32) then ((x_M d 136 [.ref 19, .int ((r1.2 19 20) + (1 : Int32))] r1.2).bind fun r8 => some (r8.1, r8.2)) else (if v1 = (19 : Int32) then ((x_M d 117 [.ref 19] r1.2).bind fun r7 => (if r7.1 = 0 then some ((255 : Int32), r7.2) else some ((0 : Int32), r7.2))) else (if v1 = (20 : Int32) then ((x_M d 137 [.ref 19, .int v2] r1.2).bind fun r6 => some (r6.1, r6.2)) else (if v1 = (21 : Int32) then ((x_M d 138 [.ref 19, .int v2] r1.2).bind fun r5 => some (r5.1, r5.2)) else (if v1 = (22 : Int32) then ((x_M d 119 [.ref 19] r1.2).bind fun r4 => xr x_i139 d 4999 97 [(0, .ref 19), (2, .int v2), (3, .int r4.1), (4, .int (5 : Int32))] [] r4.2) else (if v1 = (15 : Int32) then ((x_M d 116 [.ref 19, .int (0 : Int32), .int (1 : Int32)] r1.2).bind fun r3 => (if r3.1 = (-1 : Int32) then some ((255 : Int32), r3.2) else xr x_i139 d 4999 166 [(0, .ref 19), (1, .int v1), (2, .int v2), (3, .int r3.1), (4, .int (1 : Int32))] [] r3.2)) else ((x_M d 116 [.ref 19, .int (0 : Int32), .int (0 : Int32)] r1.2).bind fun r2 => (if r2.1 = (-1 : Int32) then some ((255 : Int32), r2.2) else xr x_i139 d 4999 166 [(0, .ref 19), (1, .int v1), (2, .int v2), (3, .int r2.1), (4, .int (1 : Int32))] [] r2.2)))))))))) := (x_M_at rfl rfl rfl).trans (e139_0 (x_M d) (xr x_i139 d 4999) v1 v2 σ)
theorem c139_166 (d n : Nat) (v1 v2 v3 v4 : Int32) (σ : xS) : xr x_i139 d (n + 1) 166 [(0, .ref 19), (1, .int v1), (2, .int v2), (3, .int v3), (4, .int v4)] [] σ = (if (16 : Int32) ≤ v4 then xr x_i139 d n 208 [(0, .ref 19), (1, .int v1), (2, .int v2), (3, .int v3), (4, .int (5 : Int32))] [] σ else (if v1 = (15 : Int32) then (if (((16 : Int32) * v3) + v4) < 0 ∨ 512 ≤ (((16 : Int32) * v3) + v4).toNatClampNeg then none else ((x_M d 127 [.ref 19, .int (v2 + v4), .int (σ 21 (((16 : Int32) * v3) + v4).toNatClampNeg)] σ).bind fun r1 => xr x_i139 d n 166 [(0, .ref 19), (1, .int v1), (2, .int v2), (3, .int v3), (4, .int (v4 + (1 : Int32)))] [] r1.2)) else xr x_i139 d n 208 [(0, .ref 19), (1, .int v1), (2, .int v2), (3, .int v3), (4, .int (5 : Int32))] [] σ)) := (xr_at _ _ _ _ _ _ _).trans (e139_166 (x_M d) (xr x_i139 d n) v1 v2 v3 v4 σ)
theorem c139_97 (d n : Nat) (v2 v3 v4 : Int32) (σ : xS) : xr x_i139 d (n + 1) 97 [(0, .ref 19), (2, .int v2), (3, .int v3), (4, .int v4)] [] σ = (if (16 : Int32) ≤ v4 then (if v3 = (-1 : Int32) then some ((255 : Int32), σ) else some (v3, σ)) else (if v3 = (-1 : Int32) then (if v3 = (-1 : Int32) then some ((255 : Int32), σ) else some (v3, σ)) else ((x_M d 127 [.ref 19, .int (v2 + v4), .int (0 : Int32)] σ).bind fun r1 => xr x_i139 d n 97 [(0, .ref 19), (2, .int v2), (3, .int v3), (4, .int (v4 + (1 : Int32)))] [] r1.2))) := (xr_at _ _ _ _ _ _ _).trans (e139_97 (x_M d) (xr x_i139 d n) v2 v3 v4 σ)
theorem c139_208 (d n : Nat) (v1 v2 v3 v4 : Int32) (σ : xS) : xr x_i139 d (n + 1) 208 [(0, .ref 19), (1, .int v1), (2, .int v2), (3, .int v3), (4, .int v4)] [] σ = (if (16 : Int32) ≤ v4 then xr x_i139 d n 250 [(0, .ref 19), (1, .int v1), (2, .int v2), (3, .int v3), (4, .int (1 : Int32))] [] σ else (if v1 = (16 : Int32) then ((x_M d 122 [.ref 19, .int (v2 + v4)] σ).bind fun r1 => (if (((16 : Int32) * v3) + v4) < 0 ∨ 512 ≤ (((16 : Int32) * v3) + v4).toNatClampNeg then none else xr x_i139 d n 208 [(0, .ref 19), (1, .int v1), (2, .int v2), (3, .int v3), (4, .int (v4 + (1 : Int32)))] [] (x_up r1.2 21 ((((16 : Int32) * v3) + v4).toNatClampNeg) r1.1))) else xr x_i139 d n 250 [(0, .ref 19), (1, .int v1), (2, .int v2), (3, .int v3), (4, .int (1 : Int32))] [] σ)) := (xr_at _ _ _ _ _ _ _).trans (e139_208 (x_M d) (xr x_i139 d n) v1 v2 v3 v4 σ)
theorem c139_250 (d n : Nat) (v1 v2 v3 v4 : Int32) (σ : xS) : xr x_i139 d (n + 1) 250 [(0, .ref 19), (1, .int v1), (2, .int v2), (3, .int v3), (4, .int v4)] [] σ = (if (5 : Int32) ≤ v4 then (if v1 = (23 : Int32) then some ((0 : Int32), σ) else some (v3, σ)) else (if v1 = (23 : Int32) then ((x_M d 122 [.ref 19, .int ((v2 + (16 : Int32)) + v4)] σ).bind fun r1 => (if (((16 : Int32) * v3) + v4) < 0 ∨ 512 ≤ (((16 : Int32) * v3) + v4).toNatClampNeg then none else xr x_i139 d n 250 [(0, .ref 19), (1, .int v1), (2, .int v2), (3, .int v3), (4, .int (v4 + (1 : Int32)))] [] (x_up r1.2 21 ((((16 : Int32) * v3) + v4).toNatClampNeg) r1.1))) else (if v1 = (23 : Int32) then some ((0 : Int32), σ) else some (v3, σ)))) := (xr_at _ _ _ _ _ _ _).trans (e139_250 (x_M d) (xr x_i139 d n) v1 v2 v3 v4 σ)
-- DeskMachineModel.answer(II)I (19,)
theorem m140 (d : Nat) (v1 v2 : Int32) (σ : xS) : x_M (d + 1) 140 [.ref 19, .int v1, .int v2] σ = (if v1 = (1 : Int32) then (if (σ 19 13) = 0 then some ((-1 : Int32), σ) else ((x_M d 107 [.ref 19] σ).bind fun r3 => some (r3.1, r3.2))) else (if v1 = (2 : Int32) then ((x_M d 113 [.ref 19, .int (σ 22 3)] σ).bind fun r2 => some ((0 : Int32), r2.2)) else (if v1 = (9 : Int32) then xr x_i140 d 4999 44 [(0, .ref 19), (2, .int v2), (3, .int (0 : Int32))] [] σ else (if v1 = (11 : Int32) then (if (σ 19 13) ≤ 0 then some ((0 : Int32), σ) else some ((255 : Int32), σ)) else (if v1 = (26 : Int32) then some ((0 : Int32), (x_up σ 19 6 v2)) else (if v1 < (15 : Int32) then some ((0 : Int32), σ) else (if (23 : Int32) < v1 then some ((0 : Int32), σ) else ((x_M d 139 [.ref 19, .int v1, .int v2] σ).bind fun r1 => some (r1.1, r1.2))))))))) := (x_M_at rfl rfl rfl).trans (e140_0 (x_M d) (xr x_i140 d 4999) v1 v2 σ)
theorem c140_44 (d n : Nat) (v2 v3 : Int32) (σ : xS) : xr x_i140 d (n + 1) 44 [(0, .ref 19), (2, .int v2), (3, .int v3)] [] σ = (if (64 : Int32) ≤ v3 then some ((0 : Int32), σ) else ((x_M d 122 [.ref 19, .int (v2 + v3)] σ).bind fun r1 => (if r1.1 = (36 : Int32) then some ((0 : Int32), r1.2) else ((x_M d 122 [.ref 19, .int (v2 + v3)] r1.2).bind fun r2 => ((x_M d 113 [.ref 19, .int r2.1] r2.2).bind fun r3 => xr x_i140 d n 44 [(0, .ref 19), (2, .int v2), (3, .int (v3 + (1 : Int32)))] [] r3.2))))) := (xr_at _ _ _ _ _ _ _).trans (e140_44 (x_M d) (xr x_i140 d n) v2 v3 σ)
-- DeskMachineModel.word(I)I (19,)
theorem m141 (d : Nat) (v1 : Int32) (σ : xS) : x_M (d + 1) 141 [.ref 19, .int v1] σ = ((x_M d 122 [.ref 19, .int v1] σ).bind fun r1 => ((x_M d 122 [.ref 19, .int (v1 + (1 : Int32))] r1.2).bind fun r2 => some ((r1.1 + ((256 : Int32) * r2.1)), r2.2))) := (x_M_at rfl rfl rfl).trans (e141_0 (x_M d) (xr x_i141 d 4999) v1 σ)
-- DeskMachineModel.pop()I (19,)
theorem m142 (d : Nat) (σ : xS) : x_M (d + 1) 142 [.ref 19] σ = ((x_M d 141 [.ref 19, .int (σ 19 4)] σ).bind fun r1 => some (r1.1, (x_up r1.2 19 4 (((r1.2 19 4) + (2 : Int32)) &&& (Int32.ofNat 65535))))) := (x_M_at rfl rfl rfl).trans (e142_0 (x_M d) (xr x_i142 d 4999) σ)
-- DeskMachineModel.call()Z (19,)
theorem m143 (d : Nat) (σ : xS) : x_M (d + 1) 143 [.ref 19] σ = (if (σ 22 1) = 0 then some ((1 : Int32), (x_up σ 19 12 (0 : Int32))) else ((x_M d 134 [.ref 19, .int (1 : Int32)] σ).bind fun r1 => ((x_M d 140 [.ref 19, .int (σ 22 1), .int r1.1] r1.2).bind fun r2 => (if r2.1 = (-1 : Int32) then (if r2.1 = (-1 : Int32) then some ((0 : Int32), (x_up r2.2 19 12 (2 : Int32))) else ((x_M d 142 [.ref 19] (x_up (x_up r2.2 19 12 (2 : Int32)) 22 7 r2.1)).bind fun r4 => some ((1 : Int32), (x_up r4.2 19 5 r4.1)))) else (if r2.1 = (-1 : Int32) then some ((0 : Int32), (x_up r2.2 19 12 (1 : Int32))) else ((x_M d 142 [.ref 19] (x_up (x_up r2.2 19 12 (1 : Int32)) 22 7 r2.1)).bind fun r3 => some ((1 : Int32), (x_up r3.2 19 5 r3.1)))))))) := (x_M_at rfl rfl rfl).trans (e143_0 (x_M d) (xr x_i143 d 4999) σ)
-- DeskMachineModel.setPair(II)V (19,)
theorem m144 (d : Nat) (v1 v2 : Int32) (σ : xS) : x_M (d + 1) 144 [.ref 19, .int v1, .int v2] σ = (if v1 = (3 : Int32) then some (0, (x_up σ 19 4 (v2 &&& (Int32.ofNat 65535)))) else (if ((2 : Int32) * v1) < 0 ∨ 8 ≤ ((2 : Int32) * v1).toNatClampNeg then none else (if (((2 : Int32) * v1) + (1 : Int32)) < 0 ∨ 8 ≤ (((2 : Int32) * v1) + (1 : Int32)).toNatClampNeg then none else some (0, (x_up (x_up σ 22 (((2 : Int32) * v1).toNatClampNeg) ((v2 >>> ((8 : Int32) &&& 31)) &&& (255 : Int32))) 22 ((((2 : Int32) * v1) + (1 : Int32)).toNatClampNeg) (v2 &&& (255 : Int32))))))) := (x_M_at rfl rfl rfl).trans (e144_0 (x_M d) (xr x_i144 d 4999) v1 v2 σ)
-- DeskMachineModel.moves(II)V (19,)
theorem m145 (d : Nat) (v1 v2 : Int32) (σ : xS) : x_M (d + 1) 145 [.ref 19, .int v1, .int v2] σ = (if (2 : Int32) ≤ v1 then (if (4 : Int32) ≤ v1 then xr x_i145 d 4999 27 [(0, .ref 19), (1, .int v1), (2, .int v2)] [.int v2] σ else ((x_M d 134 [.ref 19, .int (1 : Int32)] σ).bind fun r1 => xr x_i145 d 4999 27 [(0, .ref 19), (1, .int v1), (2, .int v2)] [.int r1.1] r1.2)) else ((x_M d 134 [.ref 19, .int (0 : Int32)] σ).bind fun r2 => xr x_i145 d 4999 27 [(0, .ref 19), (1, .int v1), (2, .int v2)] [.int r2.1] r2.2)) := (x_M_at rfl rfl rfl).trans (e145_0 (x_M d) (xr x_i145 d 4999) v1 v2 σ)
theorem c145_27 (d n : Nat) (v1 v2 s0 : Int32) (σ : xS) : xr x_i145 d (n + 1) 27 [(0, .ref 19), (1, .int v1), (2, .int v2)] [.int s0] σ = (if v1 = (4 : Int32) then ((x_M d 134 [.ref 19, .int (2 : Int32)] σ).bind fun r5 => ((x_M d 129 [.ref 19, .int v2, .int r5.1] r5.2).bind fun r6 => xr x_i145 d n 101 [(0, .ref 19), (1, .int v1)] [] r6.2)) else (if v1 = (5 : Int32) then ((x_M d 141 [.ref 19, .int v2] σ).bind fun r3 => ((x_M d 144 [.ref 19, .int (2 : Int32), .int r3.1] r3.2).bind fun r4 => xr x_i145 d n 101 [(0, .ref 19), (1, .int v1)] [] r4.2)) else (if (v1 - v1 / (2 : Int32) * (2 : Int32)) = 0 then ((x_M d 127 [.ref 19, .int s0, .int (σ 22 7)] σ).bind fun r2 => xr x_i145 d n 101 [(0, .ref 19), (1, .int v1)] [] r2.2) else ((x_M d 122 [.ref 19, .int s0] σ).bind fun r1 => xr x_i145 d n 101 [(0, .ref 19), (1, .int v1)] [] (x_up r1.2 22 7 r1.1))))) := (xr_at _ _ _ _ _ _ _).trans (e145_27 (x_M d) (xr x_i145 d n) v1 v2 s0 σ)
theorem c145_101 (d n : Nat) (v1 : Int32) (σ : xS) : xr x_i145 d (n + 1) 101 [(0, .ref 19), (1, .int v1)] [] σ = (if v1 ≤ (3 : Int32) then some (0, (x_up σ 19 5 ((σ 19 5) + (0 : Int32)))) else some (0, (x_up σ 19 5 ((σ 19 5) + (2 : Int32))))) := (xr_at _ _ _ _ _ _ _).trans (e145_101 (x_M d) (xr x_i145 d n) v1 σ)
-- DeskMachineModel.valueOf(I)I (19,)
theorem m146 (d : Nat) (v1 : Int32) (σ : xS) : x_M (d + 1) 146 [.ref 19, .int v1] σ = (if v1 = (6 : Int32) then ((x_M d 134 [.ref 19, .int (2 : Int32)] σ).bind fun r1 => ((x_M d 122 [.ref 19, .int r1.1] r1.2).bind fun r2 => some (r2.1, r2.2))) else (if v1 < 0 ∨ 8 ≤ v1.toNatClampNeg then none else some ((σ 22 v1.toNatClampNeg), σ))) := (x_M_at rfl rfl rfl).trans (e146_0 (x_M d) (xr x_i146 d 4999) v1 σ)
-- DeskMachineModel.setTo(II)V (19,)
theorem m147 (d : Nat) (v1 v2 : Int32) (σ : xS) : x_M (d + 1) 147 [.ref 19, .int v1, .int v2] σ = (if v1 = (6 : Int32) then ((x_M d 134 [.ref 19, .int (2 : Int32)] σ).bind fun r1 => ((x_M d 127 [.ref 19, .int r1.1, .int v2] r1.2).bind fun r2 => some (0, r2.2))) else (if v1 < 0 ∨ 8 ≤ v1.toNatClampNeg then none else some (0, (x_up σ 22 (v1.toNatClampNeg) (v2 &&& (255 : Int32)))))) := (x_M_at rfl rfl rfl).trans (e147_0 (x_M d) (xr x_i147 d 4999) v1 v2 σ)
-- DeskMachineModel.tells(I)V (19,)
theorem m148 (d : Nat) (v1 : Int32) (σ : xS) : x_M (d + 1) 148 [.ref 19, .int v1] σ = xr x_i148 d 4999 4 [(0, .ref 19), (1, .int v1), (2, .int (0 : Int32)), (3, .int (0 : Int32))] [] σ := (x_M_at rfl rfl rfl).trans (e148_0 (x_M d) (xr x_i148 d 4999) v1 σ)
theorem c148_4 (d n : Nat) (v1 v2 v3 : Int32) (σ : xS) : xr x_i148 d (n + 1) 4 [(0, .ref 19), (1, .int v1), (2, .int v2), (3, .int v3)] [] σ = (if (8 : Int32) ≤ v3 then (if v1 = 0 then some (0, (x_up (x_up (x_up σ 19 7 ((v1 >>> ((7 : Int32) &&& 31)) &&& (1 : Int32))) 19 8 (1 : Int32)) 19 9 ((1 : Int32) - (v2 - v2 / (2 : Int32) * (2 : Int32))))) else some (0, (x_up (x_up (x_up σ 19 7 ((v1 >>> ((7 : Int32) &&& 31)) &&& (1 : Int32))) 19 8 (0 : Int32)) 19 9 ((1 : Int32) - (v2 - v2 / (2 : Int32) * (2 : Int32)))))) else xr x_i148 d n 4 [(0, .ref 19), (1, .int v1), (2, .int (v2 + ((v1 >>> (v3 &&& 31)) &&& (1 : Int32)))), (3, .int (v3 + (1 : Int32)))] [] σ) := (xr_at _ _ _ _ _ _ _).trans (e148_4 (x_M d) (xr x_i148 d n) v1 v2 v3 σ)
-- DeskMachineModel.added(II)I (19,)
theorem m149 (d : Nat) (v1 v2 : Int32) (σ : xS) : x_M (d + 1) 149 [.ref 19, .int v1, .int v2] σ = (if ((((σ 22 7) - (σ 22 7) / (16 : Int32) * (16 : Int32)) + (v1 - v1 / (16 : Int32) * (16 : Int32))) + v2) ≤ (15 : Int32) then (if (((σ 22 7) + v1) + v2) ≤ (255 : Int32) then some (((((σ 22 7) + v1) + v2) &&& (255 : Int32)), (x_up (x_up σ 19 10 (0 : Int32)) 19 11 (0 : Int32))) else some (((((σ 22 7) + v1) + v2) &&& (255 : Int32)), (x_up (x_up σ 19 10 (0 : Int32)) 19 11 (1 : Int32)))) else (if (((σ 22 7) + v1) + v2) ≤ (255 : Int32) then some (((((σ 22 7) + v1) + v2) &&& (255 : Int32)), (x_up (x_up σ 19 10 (1 : Int32)) 19 11 (0 : Int32))) else some (((((σ 22 7) + v1) + v2) &&& (255 : Int32)), (x_up (x_up σ 19 10 (1 : Int32)) 19 11 (1 : Int32))))) := (x_M_at rfl rfl rfl).trans (e149_0 (x_M d) (xr x_i149 d 4999) v1 v2 σ)
-- DeskMachineModel.adjusts()V (19,)
theorem m150 (d : Nat) (σ : xS) : x_M (d + 1) 150 [.ref 19] σ = (if (9 : Int32) < ((σ 22 7) - (σ 22 7) / (16 : Int32) * (16 : Int32)) then xr x_i150 d 4999 31 [(0, .ref 19), (1, .int (σ 22 7))] [.int (6 : Int32)] σ else (if (σ 19 10) = (1 : Int32) then xr x_i150 d 4999 31 [(0, .ref 19), (1, .int (σ 22 7))] [.int (6 : Int32)] σ else xr x_i150 d 4999 31 [(0, .ref 19), (1, .int (σ 22 7))] [.int (0 : Int32)] σ)) := (x_M_at rfl rfl rfl).trans (e150_0 (x_M d) (xr x_i150 d 4999) σ)
theorem c150_31 (d n : Nat) (v1 s0 : Int32) (σ : xS) : xr x_i150 d (n + 1) 31 [(0, .ref 19), (1, .int v1)] [.int s0] σ = (if (153 : Int32) < v1 then ((x_M d 149 [.ref 19, .int (s0 + ((96 : Int32) * (1 : Int32))), .int (0 : Int32)] σ).bind fun r1 => ((x_M d 148 [.ref 19, .int r1.1] (x_up (x_up r1.2 19 11 (1 : Int32)) 22 7 r1.1)).bind fun r2 => some (0, r2.2))) else (if (σ 19 11) = (1 : Int32) then ((x_M d 149 [.ref 19, .int (s0 + ((96 : Int32) * (1 : Int32))), .int (0 : Int32)] σ).bind fun r5 => ((x_M d 148 [.ref 19, .int r5.1] (x_up (x_up r5.2 19 11 (1 : Int32)) 22 7 r5.1)).bind fun r6 => some (0, r6.2))) else ((x_M d 149 [.ref 19, .int (s0 + ((96 : Int32) * (0 : Int32))), .int (0 : Int32)] σ).bind fun r3 => ((x_M d 148 [.ref 19, .int r3.1] (x_up (x_up r3.2 19 11 (0 : Int32)) 22 7 r3.1)).bind fun r4 => some (0, r4.2))))) := (xr_at _ _ _ _ _ _ _).trans (e150_31 (x_M d) (xr x_i150 d n) v1 s0 σ)
-- DeskMachineModel.turns(I)V (19,)
theorem m151 (d : Nat) (v1 : Int32) (σ : xS) : x_M (d + 1) 151 [.ref 19, .int v1] σ = (if v1 = (4 : Int32) then ((x_M d 150 [.ref 19] σ).bind fun r1 => some (0, r1.2)) else (if (4 : Int32) ≤ v1 then xr x_i151 d 4999 109 [(0, .ref 19), (1, .int v1), (2, .int (σ 22 7))] [] σ else (if v1 = 0 then xr x_i151 d 4999 55 [(0, .ref 19), (1, .int v1), (2, .int (σ 22 7)), (3, .int ((σ 22 7) >>> ((7 : Int32) &&& 31))), (4, .int ((σ 22 7) &&& (1 : Int32)))] [.int ((σ 22 7) >>> ((7 : Int32) &&& 31))] σ else (if v1 = (1 : Int32) then xr x_i151 d 4999 55 [(0, .ref 19), (1, .int v1), (2, .int (σ 22 7)), (3, .int ((σ 22 7) >>> ((7 : Int32) &&& 31))), (4, .int ((σ 22 7) &&& (1 : Int32)))] [.int ((σ 22 7) &&& (1 : Int32))] σ else xr x_i151 d 4999 55 [(0, .ref 19), (1, .int v1), (2, .int (σ 22 7)), (3, .int ((σ 22 7) >>> ((7 : Int32) &&& 31))), (4, .int ((σ 22 7) &&& (1 : Int32)))] [.int (σ 19 11)] σ)))) := (x_M_at rfl rfl rfl).trans (e151_0 (x_M d) (xr x_i151 d 4999) v1 σ)
theorem c151_109 (d n : Nat) (v1 v2 : Int32) (σ : xS) : xr x_i151 d (n + 1) 109 [(0, .ref 19), (1, .int v1), (2, .int v2)] [] σ = (if v1 = (5 : Int32) then (if v1 = (6 : Int32) then some (0, (x_up (x_up σ 22 7 ((255 : Int32) - v2)) 19 11 (1 : Int32))) else (if v1 = (7 : Int32) then some (0, (x_up (x_up σ 22 7 ((255 : Int32) - v2)) 19 11 ((1 : Int32) - ((x_up σ 22 7 ((255 : Int32) - v2)) 19 11)))) else some (0, (x_up (x_up σ 22 7 ((255 : Int32) - v2)) 19 11 ((x_up σ 22 7 ((255 : Int32) - v2)) 19 11))))) else (if v1 = (6 : Int32) then some (0, (x_up (x_up σ 22 7 (σ 22 7)) 19 11 (1 : Int32))) else (if v1 = (7 : Int32) then some (0, (x_up (x_up σ 22 7 (σ 22 7)) 19 11 ((1 : Int32) - ((x_up σ 22 7 (σ 22 7)) 19 11)))) else some (0, (x_up (x_up σ 22 7 (σ 22 7)) 19 11 ((x_up σ 22 7 (σ 22 7)) 19 11)))))) := (xr_at _ _ _ _ _ _ _).trans (e151_109 (x_M d) (xr x_i151 d n) v1 v2 σ)
theorem c151_55 (d n : Nat) (v1 v2 v3 v4 s0 : Int32) (σ : xS) : xr x_i151 d (n + 1) 55 [(0, .ref 19), (1, .int v1), (2, .int v2), (3, .int v3), (4, .int v4)] [.int s0] σ = (if (v1 - v1 / (2 : Int32) * (2 : Int32)) = 0 then (if (v1 - v1 / (2 : Int32) * (2 : Int32)) = 0 then xr x_i151 d n 109 [(0, .ref 19), (1, .int v1), (2, .int v2)] [] (x_up (x_up σ 22 7 ((((2 : Int32) * v2) - ((2 : Int32) * v2) / (256 : Int32) * (256 : Int32)) + s0)) 19 11 v3) else xr x_i151 d n 109 [(0, .ref 19), (1, .int v1), (2, .int v2)] [] (x_up (x_up σ 22 7 ((((2 : Int32) * v2) - ((2 : Int32) * v2) / (256 : Int32) * (256 : Int32)) + s0)) 19 11 v4)) else (if (v1 - v1 / (2 : Int32) * (2 : Int32)) = 0 then xr x_i151 d n 109 [(0, .ref 19), (1, .int v1), (2, .int v2)] [] (x_up (x_up σ 22 7 ((v2 / (2 : Int32)) + ((128 : Int32) * s0))) 19 11 v3) else xr x_i151 d n 109 [(0, .ref 19), (1, .int v1), (2, .int v2)] [] (x_up (x_up σ 22 7 ((v2 / (2 : Int32)) + ((128 : Int32) * s0))) 19 11 v4))) := (xr_at _ _ _ _ _ _ _).trans (e151_55 (x_M d) (xr x_i151 d n) v1 v2 v3 v4 s0 σ)
-- DeskMachineModel.steps0(II)V (19,)
theorem m152 (d : Nat) (v1 v2 : Int32) (σ : xS) : x_M (d + 1) 152 [.ref 19, .int v1, .int v2] σ = ((x_M d 122 [.ref 19, .int (σ 19 5)] σ).bind fun r1 => ((x_M d 141 [.ref 19, .int (r1.2 19 5)] r1.2).bind fun r2 => (if v2 = (1 : Int32) then (if (v1 - v1 / (2 : Int32) * (2 : Int32)) = 0 then ((x_M d 144 [.ref 19, .int (v1 / (2 : Int32)), .int r2.1] r2.2).bind fun r3 => some (0, (x_up r3.2 19 5 ((r3.2 19 5) + (2 : Int32))))) else xr x_i152 d 4999 56 [(0, .ref 19), (1, .int v1), (2, .int v2), (3, .int r1.1), (4, .int r2.1), (5, .int (v1 / (2 : Int32)))] [] r2.2) else xr x_i152 d 4999 56 [(0, .ref 19), (1, .int v1), (2, .int v2), (3, .int r1.1), (4, .int r2.1), (5, .int (v1 / (2 : Int32)))] [] r2.2))) := (x_M_at rfl rfl rfl).trans (e152_0 (x_M d) (xr x_i152 d 4999) v1 v2 σ)
theorem c152_56 (d n : Nat) (v1 v2 v3 v4 v5 : Int32) (σ : xS) : xr x_i152 d (n + 1) 56 [(0, .ref 19), (1, .int v1), (2, .int v2), (3, .int v3), (4, .int v4), (5, .int v5)] [] σ = (if v2 = (1 : Int32) then ((x_M d 134 [.ref 19, .int (2 : Int32)] σ).bind fun r9 => ((x_M d 134 [.ref 19, .int v5] r9.2).bind fun r10 => (if (r9.1 + r10.1) ≤ (Int32.ofNat 65535) then ((x_M d 144 [.ref 19, .int (2 : Int32), .int (r9.1 + r10.1)] (x_up r10.2 19 11 (0 : Int32))).bind fun r11 => some (0, r11.2)) else ((x_M d 144 [.ref 19, .int (2 : Int32), .int (r9.1 + r10.1)] (x_up r10.2 19 11 (1 : Int32))).bind fun r12 => some (0, r12.2))))) else (if v2 = (2 : Int32) then ((x_M d 145 [.ref 19, .int v1, .int v4] σ).bind fun r8 => some (0, r8.2)) else (if v2 = (3 : Int32) then ((x_M d 134 [.ref 19, .int v5] σ).bind fun r5 => (if (v1 - v1 / (2 : Int32) * (2 : Int32)) = 0 then ((x_M d 144 [.ref 19, .int v5, .int (r5.1 + (1 : Int32))] r5.2).bind fun r7 => some (0, r7.2)) else ((x_M d 144 [.ref 19, .int v5, .int (r5.1 + (-1 : Int32))] r5.2).bind fun r6 => some (0, r6.2)))) else (if v2 = (4 : Int32) then ((x_M d 146 [.ref 19, .int v1] σ).bind fun r1 => (if v2 = (4 : Int32) then xr x_i152 d n 175 [(0, .ref 19), (1, .int v1), (2, .int v2)] [.int (1 : Int32), .int r1.1] r1.2 else xr x_i152 d n 175 [(0, .ref 19), (1, .int v1), (2, .int v2)] [.int (255 : Int32), .int r1.1] r1.2)) else (if v2 = (5 : Int32) then ((x_M d 146 [.ref 19, .int v1] σ).bind fun r4 => (if v2 = (4 : Int32) then xr x_i152 d n 175 [(0, .ref 19), (1, .int v1), (2, .int v2)] [.int (1 : Int32), .int r4.1] r4.2 else xr x_i152 d n 175 [(0, .ref 19), (1, .int v1), (2, .int v2)] [.int (255 : Int32), .int r4.1] r4.2)) else (if v2 = (6 : Int32) then ((x_M d 147 [.ref 19, .int v1, .int v3] σ).bind fun r3 => some (0, (x_up r3.2 19 5 ((r3.2 19 5) + (1 : Int32))))) else (if v2 = (7 : Int32) then ((x_M d 151 [.ref 19, .int v1] σ).bind fun r2 => some (0, r2.2)) else some (0, σ)))))))) := (xr_at _ _ _ _ _ _ _).trans (e152_56 (x_M d) (xr x_i152 d n) v1 v2 v3 v4 v5 σ)
theorem c152_175 (d n : Nat) (v1 v2 s0 s1 : Int32) (σ : xS) : xr x_i152 d (n + 1) 175 [(0, .ref 19), (1, .int v1), (2, .int v2)] [.int s0, .int s1] σ = ((x_M d 147 [.ref 19, .int v1, .int ((s1 + s0) &&& (255 : Int32))] σ).bind fun r1 => (if v2 = (4 : Int32) then (if (((s1 + s0) &&& (255 : Int32)) - ((s1 + s0) &&& (255 : Int32)) / (16 : Int32) * (16 : Int32)) = 0 then ((x_M d 148 [.ref 19, .int ((s1 + s0) &&& (255 : Int32))] (x_up r1.2 19 10 (1 : Int32))).bind fun r5 => some (0, r5.2)) else ((x_M d 148 [.ref 19, .int ((s1 + s0) &&& (255 : Int32))] (x_up r1.2 19 10 (0 : Int32))).bind fun r4 => some (0, r4.2))) else (if (((s1 + s0) &&& (255 : Int32)) - ((s1 + s0) &&& (255 : Int32)) / (16 : Int32) * (16 : Int32)) = (15 : Int32) then ((x_M d 148 [.ref 19, .int ((s1 + s0) &&& (255 : Int32))] (x_up r1.2 19 10 (0 : Int32))).bind fun r2 => some (0, r2.2)) else ((x_M d 148 [.ref 19, .int ((s1 + s0) &&& (255 : Int32))] (x_up r1.2 19 10 (1 : Int32))).bind fun r3 => some (0, r3.2))))) := (xr_at _ _ _ _ _ _ _).trans (e152_175 (x_M d) (xr x_i152 d n) v1 v2 s0 s1 σ)
-- DeskMachineModel.reckons(II)V (19,)
theorem m153 (d : Nat) (v1 v2 : Int32) (σ : xS) : x_M (d + 1) 153 [.ref 19, .int v1, .int v2] σ = (if (2 : Int32) ≤ v1 then (if v1 < (4 : Int32) then xr x_i153 d 4999 50 [(0, .ref 19), (1, .int v1), (2, .int v2), (3, .int (σ 22 7))] [] σ else (if v1 = (7 : Int32) then xr x_i153 d 4999 50 [(0, .ref 19), (1, .int v1), (2, .int v2), (3, .int (σ 22 7))] [] σ else (if v1 = (4 : Int32) then xr x_i153 d 4999 114 [(0, .ref 19), (1, .int v1), (2, .int v2), (3, .int (σ 22 7))] [.int ((σ 22 7) &&& v2)] σ else (if v1 = (5 : Int32) then xr x_i153 d 4999 114 [(0, .ref 19), (1, .int v1), (2, .int v2), (3, .int (σ 22 7))] [.int ((σ 22 7) ^^^ v2)] σ else xr x_i153 d 4999 114 [(0, .ref 19), (1, .int v1), (2, .int v2), (3, .int (σ 22 7))] [.int ((σ 22 7) ||| v2)] σ)))) else (if v1 = (1 : Int32) then ((x_M d 149 [.ref 19, .int v2, .int (σ 19 11)] σ).bind fun r3 => ((x_M d 148 [.ref 19, .int r3.1] r3.2).bind fun r4 => (if v1 = (7 : Int32) then some (0, (x_up r4.2 22 7 (σ 22 7))) else some (0, (x_up r4.2 22 7 r3.1))))) else ((x_M d 149 [.ref 19, .int v2, .int (0 : Int32)] σ).bind fun r1 => ((x_M d 148 [.ref 19, .int r1.1] r1.2).bind fun r2 => (if v1 = (7 : Int32) then some (0, (x_up r2.2 22 7 (σ 22 7))) else some (0, (x_up r2.2 22 7 r1.1))))))) := (x_M_at rfl rfl rfl).trans (e153_0 (x_M d) (xr x_i153 d 4999) v1 v2 σ)
theorem c153_50 (d n : Nat) (v1 v2 v3 : Int32) (σ : xS) : xr x_i153 d (n + 1) 50 [(0, .ref 19), (1, .int v1), (2, .int v2), (3, .int v3)] [] σ = (if v1 = (3 : Int32) then ((x_M d 149 [.ref 19, .int ((255 : Int32) - v2), .int ((1 : Int32) - (σ 19 11))] σ).bind fun r3 => ((x_M d 148 [.ref 19, .int r3.1] (x_up r3.2 19 11 ((1 : Int32) - (r3.2 19 11)))).bind fun r4 => (if v1 = (7 : Int32) then some (0, (x_up r4.2 22 7 v3)) else some (0, (x_up r4.2 22 7 r3.1))))) else ((x_M d 149 [.ref 19, .int ((255 : Int32) - v2), .int (1 : Int32)] σ).bind fun r1 => ((x_M d 148 [.ref 19, .int r1.1] (x_up r1.2 19 11 ((1 : Int32) - (r1.2 19 11)))).bind fun r2 => (if v1 = (7 : Int32) then some (0, (x_up r2.2 22 7 v3)) else some (0, (x_up r2.2 22 7 r1.1)))))) := (xr_at _ _ _ _ _ _ _).trans (e153_50 (x_M d) (xr x_i153 d n) v1 v2 v3 σ)
theorem c153_114 (d n : Nat) (v1 v2 v3 s0 : Int32) (σ : xS) : xr x_i153 d (n + 1) 114 [(0, .ref 19), (1, .int v1), (2, .int v2), (3, .int v3)] [.int s0] σ = (if v1 = (4 : Int32) then ((x_M d 148 [.ref 19, .int s0] (x_up (x_up σ 19 10 (((v3 ||| v2) >>> ((3 : Int32) &&& 31)) &&& (1 : Int32))) 19 11 (0 : Int32))).bind fun r2 => (if v1 = (7 : Int32) then some (0, (x_up r2.2 22 7 v3)) else some (0, (x_up r2.2 22 7 s0)))) else ((x_M d 148 [.ref 19, .int s0] (x_up (x_up σ 19 10 (0 : Int32)) 19 11 (0 : Int32))).bind fun r1 => (if v1 = (7 : Int32) then some (0, (x_up r1.2 22 7 v3)) else some (0, (x_up r1.2 22 7 s0))))) := (xr_at _ _ _ _ _ _ _).trans (e153_114 (x_M d) (xr x_i153 d n) v1 v2 v3 s0 σ)
-- DeskMachineModel.holds(I)Z (19,)
theorem m154 (d : Nat) (v1 : Int32) (σ : xS) : x_M (d + 1) 154 [.ref 19, .int v1] σ = (if (2 : Int32) ≤ v1 then (if (4 : Int32) ≤ v1 then (if (6 : Int32) ≤ v1 then (if (σ 19 7) = (v1 - v1 / (2 : Int32) * (2 : Int32)) then some ((1 : Int32), σ) else some ((0 : Int32), σ)) else (if (σ 19 9) = (v1 - v1 / (2 : Int32) * (2 : Int32)) then some ((1 : Int32), σ) else some ((0 : Int32), σ))) else (if (σ 19 11) = (v1 - v1 / (2 : Int32) * (2 : Int32)) then some ((1 : Int32), σ) else some ((0 : Int32), σ))) else (if (σ 19 8) = (v1 - v1 / (2 : Int32) * (2 : Int32)) then some ((1 : Int32), σ) else some ((0 : Int32), σ))) := (x_M_at rfl rfl rfl).trans (e154_0 (x_M d) (xr x_i154 d 4999) v1 σ)
-- DeskMachineModel.flags()I (19,)
theorem m155 (d : Nat) (σ : xS) : x_M (d + 1) 155 [.ref 19] σ = some ((((((((128 : Int32) * (σ 19 7)) + ((64 : Int32) * (σ 19 8))) + ((16 : Int32) * (σ 19 10))) + ((4 : Int32) * (σ 19 9))) + (2 : Int32)) + (σ 19 11)), σ) := (x_M_at rfl rfl rfl).trans (e155_0 (x_M d) (xr x_i155 d 4999) σ)
-- DeskMachineModel.piles(III)V (19,)
theorem m156 (d : Nat) (v1 v2 v3 : Int32) (σ : xS) : x_M (d + 1) 156 [.ref 19, .int v1, .int v2, .int v3] σ = (if v2 = (5 : Int32) then (if (v1 - v1 / (2 : Int32) * (2 : Int32)) = 0 then (if v1 = (6 : Int32) then ((x_M d 155 [.ref 19] σ).bind fun r3 => ((x_M d 130 [.ref 19, .int (((256 : Int32) * (σ 22 7)) + r3.1)] r3.2).bind fun r4 => some (0, r4.2))) else ((x_M d 134 [.ref 19, .int (v1 / (2 : Int32))] σ).bind fun r1 => ((x_M d 130 [.ref 19, .int r1.1] r1.2).bind fun r2 => some (0, r2.2)))) else xr x_i156 d 4999 50 [(0, .ref 19), (1, .int v1), (2, .int v2), (3, .int v3)] [] σ) else xr x_i156 d 4999 50 [(0, .ref 19), (1, .int v1), (2, .int v2), (3, .int v3)] [] σ) := (x_M_at rfl rfl rfl).trans (e156_0 (x_M d) (xr x_i156 d 4999) v1 v2 v3 σ)
theorem c156_50 (d n : Nat) (v1 v2 v3 : Int32) (σ : xS) : xr x_i156 d (n + 1) 50 [(0, .ref 19), (1, .int v1), (2, .int v2), (3, .int v3)] [] σ = (if v2 = (5 : Int32) then ((x_M d 130 [.ref 19, .int (((σ 19 5) + (2 : Int32)) &&& (Int32.ofNat 65535))] σ).bind fun r8 => some (0, (x_up r8.2 19 5 v3))) else (if v1 = (1 : Int32) then ((x_M d 142 [.ref 19] σ).bind fun r1 => some (0, (x_up r1.2 19 5 r1.1))) else (if v1 = (3 : Int32) then ((x_M d 142 [.ref 19] σ).bind fun r7 => some (0, (x_up r7.2 19 5 r7.1))) else (if v1 = (5 : Int32) then ((x_M d 134 [.ref 19, .int (2 : Int32)] σ).bind fun r6 => some (0, (x_up r6.2 19 5 r6.1))) else (if v1 = (7 : Int32) then ((x_M d 134 [.ref 19, .int (2 : Int32)] σ).bind fun r5 => some (0, (x_up r5.2 19 4 r5.1))) else ((x_M d 142 [.ref 19] σ).bind fun r2 => (if v1 = (6 : Int32) then ((x_M d 128 [.ref 19, .int (r2.1 &&& (255 : Int32))] (x_up r2.2 22 7 (r2.1 >>> ((8 : Int32) &&& 31)))).bind fun r4 => some (0, r4.2)) else ((x_M d 144 [.ref 19, .int (v1 / (2 : Int32)), .int r2.1] r2.2).bind fun r3 => some (0, r3.2))))))))) := (xr_at _ _ _ _ _ _ _).trans (e156_50 (x_M d) (xr x_i156 d n) v1 v2 v3 σ)
-- DeskMachineModel.exchanges(I)V (19,)
theorem m157 (d : Nat) (v1 : Int32) (σ : xS) : x_M (d + 1) 157 [.ref 19, .int v1] σ = ((x_M d 134 [.ref 19, .int (2 : Int32)] σ).bind fun r1 => (if v1 = (4 : Int32) then ((x_M d 141 [.ref 19, .int (r1.2 19 4)] r1.2).bind fun r5 => ((x_M d 129 [.ref 19, .int (r5.2 19 4), .int r1.1] r5.2).bind fun r6 => ((x_M d 144 [.ref 19, .int (2 : Int32), .int r5.1] r6.2).bind fun r7 => some (0, r7.2)))) else ((x_M d 134 [.ref 19, .int (1 : Int32)] r1.2).bind fun r2 => ((x_M d 144 [.ref 19, .int (2 : Int32), .int r2.1] r2.2).bind fun r3 => ((x_M d 144 [.ref 19, .int (1 : Int32), .int r1.1] r3.2).bind fun r4 => some (0, r4.2)))))) := (x_M_at rfl rfl rfl).trans (e157_0 (x_M d) (xr x_i157 d 4999) v1 σ)
-- DeskMachineModel.steps3(II)V (19,)
theorem m158 (d : Nat) (v1 v2 : Int32) (σ : xS) : x_M (d + 1) 158 [.ref 19, .int v1, .int v2] σ = ((x_M d 122 [.ref 19, .int (σ 19 5)] σ).bind fun r1 => ((x_M d 141 [.ref 19, .int (r1.2 19 5)] r1.2).bind fun r2 => ((x_M d 154 [.ref 19, .int v1] r2.2).bind fun r3 => (if v2 = 0 then (if r3.1 = 0 then some (0, (x_up r3.2 19 5 (r3.2 19 5))) else ((x_M d 142 [.ref 19] r3.2).bind fun r8 => some (0, (x_up r8.2 19 5 r8.1)))) else (if v2 = (1 : Int32) then ((x_M d 156 [.ref 19, .int v1, .int v2, .int r2.1] r3.2).bind fun r4 => some (0, r4.2)) else (if v2 = (5 : Int32) then ((x_M d 156 [.ref 19, .int v1, .int v2, .int r2.1] r3.2).bind fun r7 => some (0, r7.2)) else (if v2 = (2 : Int32) then (if r3.1 = 0 then some (0, (x_up r3.2 19 5 ((r3.2 19 5) + (2 : Int32)))) else some (0, (x_up r3.2 19 5 r2.1))) else (if v2 = (3 : Int32) then (if (4 : Int32) ≤ v1 then (if v2 = (3 : Int32) then (if (6 : Int32) ≤ v1 then xr x_i158 d 4999 158 [(0, .ref 19), (1, .int v1), (2, .int v2), (3, .int r1.1), (4, .int r2.1), (5, .int r3.1)] [] r3.2 else ((x_M d 157 [.ref 19, .int v1] r3.2).bind fun r6 => some (0, r6.2))) else xr x_i158 d 4999 158 [(0, .ref 19), (1, .int v1), (2, .int v2), (3, .int r1.1), (4, .int r2.1), (5, .int r3.1)] [] r3.2) else (if (2 : Int32) ≤ v1 then some (0, (x_up r3.2 19 5 ((r3.2 19 5) + (1 : Int32)))) else some (0, (x_up r3.2 19 5 r2.1)))) else (if v2 = (3 : Int32) then (if (6 : Int32) ≤ v1 then xr x_i158 d 4999 158 [(0, .ref 19), (1, .int v1), (2, .int v2), (3, .int r1.1), (4, .int r2.1), (5, .int r3.1)] [] r3.2 else ((x_M d 157 [.ref 19, .int v1] r3.2).bind fun r5 => some (0, r5.2))) else xr x_i158 d 4999 158 [(0, .ref 19), (1, .int v1), (2, .int v2), (3, .int r1.1), (4, .int r2.1), (5, .int r3.1)] [] r3.2))))))))) := (x_M_at rfl rfl rfl).trans (e158_0 (x_M d) (xr x_i158 d 4999) v1 v2 σ)
theorem c158_158 (d n : Nat) (v1 v2 v3 v4 v5 : Int32) (σ : xS) : xr x_i158 d (n + 1) 158 [(0, .ref 19), (1, .int v1), (2, .int v2), (3, .int v3), (4, .int v4), (5, .int v5)] [] σ = (if v2 = (4 : Int32) then (if v5 = 0 then (if v5 = 0 then some (0, (x_up σ 19 5 ((σ 19 5) + (2 : Int32)))) else some (0, (x_up σ 19 5 v4))) else ((x_M d 130 [.ref 19, .int (((σ 19 5) + (2 : Int32)) &&& (Int32.ofNat 65535))] σ).bind fun r3 => (if v5 = 0 then some (0, (x_up r3.2 19 5 ((r3.2 19 5) + (2 : Int32)))) else some (0, (x_up r3.2 19 5 v4))))) else (if v2 = (6 : Int32) then ((x_M d 153 [.ref 19, .int v1, .int v3] σ).bind fun r2 => some (0, (x_up r2.2 19 5 ((r2.2 19 5) + (1 : Int32))))) else (if v2 = (7 : Int32) then ((x_M d 130 [.ref 19, .int ((σ 19 5) &&& (Int32.ofNat 65535))] σ).bind fun r1 => some (0, (x_up r1.2 19 5 ((8 : Int32) * v1)))) else some (0, σ)))) := (xr_at _ _ _ _ _ _ _).trans (e158_158 (x_M d) (xr x_i158 d n) v1 v2 v3 v4 v5 σ)
-- DeskMachineModel.instruction()V (19,)
theorem m159 (d : Nat) (σ : xS) : x_M (d + 1) 159 [.ref 19] σ = ((x_M d 122 [.ref 19, .int (σ 19 5)] σ).bind fun r1 => (if (r1.1 / (64 : Int32)) = 0 then ((x_M d 152 [.ref 19, .int ((r1.1 / (8 : Int32)) - (r1.1 / (8 : Int32)) / (8 : Int32) * (8 : Int32)), .int (r1.1 - r1.1 / (8 : Int32) * (8 : Int32))] (x_up r1.2 19 5 ((r1.2 19 5) + (1 : Int32)))).bind fun r2 => some (0, (x_up r2.2 19 5 ((r2.2 19 5) &&& (Int32.ofNat 65535))))) else (if (r1.1 / (64 : Int32)) = (1 : Int32) then (if ((r1.1 / (8 : Int32)) - (r1.1 / (8 : Int32)) / (8 : Int32) * (8 : Int32)) = (6 : Int32) then (if (r1.1 - r1.1 / (8 : Int32) * (8 : Int32)) = (6 : Int32) then some (0, (x_up (x_up (x_up r1.2 19 5 ((r1.2 19 5) + (1 : Int32))) 19 12 (0 : Int32)) 19 5 (((x_up (x_up r1.2 19 5 ((r1.2 19 5) + (1 : Int32))) 19 12 (0 : Int32)) 19 5) &&& (Int32.ofNat 65535)))) else xr x_i159 d 4999 78 [(0, .ref 19), (2, .int (r1.1 / (64 : Int32))), (3, .int ((r1.1 / (8 : Int32)) - (r1.1 / (8 : Int32)) / (8 : Int32) * (8 : Int32))), (4, .int (r1.1 - r1.1 / (8 : Int32) * (8 : Int32)))] [] (x_up r1.2 19 5 ((r1.2 19 5) + (1 : Int32)))) else xr x_i159 d 4999 78 [(0, .ref 19), (2, .int (r1.1 / (64 : Int32))), (3, .int ((r1.1 / (8 : Int32)) - (r1.1 / (8 : Int32)) / (8 : Int32) * (8 : Int32))), (4, .int (r1.1 - r1.1 / (8 : Int32) * (8 : Int32)))] [] (x_up r1.2 19 5 ((r1.2 19 5) + (1 : Int32)))) else xr x_i159 d 4999 78 [(0, .ref 19), (2, .int (r1.1 / (64 : Int32))), (3, .int ((r1.1 / (8 : Int32)) - (r1.1 / (8 : Int32)) / (8 : Int32) * (8 : Int32))), (4, .int (r1.1 - r1.1 / (8 : Int32) * (8 : Int32)))] [] (x_up r1.2 19 5 ((r1.2 19 5) + (1 : Int32)))))) := (x_M_at rfl rfl rfl).trans (e159_0 (x_M d) (xr x_i159 d 4999) σ)
theorem c159_78 (d n : Nat) (v2 v3 v4 : Int32) (σ : xS) : xr x_i159 d (n + 1) 78 [(0, .ref 19), (2, .int v2), (3, .int v3), (4, .int v4)] [] σ = (if v2 = (1 : Int32) then ((x_M d 146 [.ref 19, .int v4] σ).bind fun r4 => ((x_M d 147 [.ref 19, .int v3, .int r4.1] r4.2).bind fun r5 => some (0, (x_up r5.2 19 5 ((r5.2 19 5) &&& (Int32.ofNat 65535)))))) else (if v2 = (2 : Int32) then ((x_M d 146 [.ref 19, .int v4] σ).bind fun r2 => ((x_M d 153 [.ref 19, .int v3, .int r2.1] r2.2).bind fun r3 => some (0, (x_up r3.2 19 5 ((r3.2 19 5) &&& (Int32.ofNat 65535)))))) else ((x_M d 158 [.ref 19, .int v3, .int v4] σ).bind fun r1 => some (0, (x_up r1.2 19 5 ((r1.2 19 5) &&& (Int32.ofNat 65535))))))) := (xr_at _ _ _ _ _ _ _).trans (e159_78 (x_M d) (xr x_i159 d n) v2 v3 v4 σ)
-- DeskMachineModel.goes()Z (19,)
theorem m160 (d : Nat) (σ : xS) : x_M (d + 1) 160 [.ref 19] σ = (if (σ 19 12) = 0 then (if (σ 19 13) = 0 then some ((0 : Int32), σ) else ((x_M d 107 [.ref 19] σ).bind fun r3 => ((x_M d 133 [.ref 19, .int r3.1] r3.2).bind fun r4 => some ((1 : Int32), r4.2)))) else (if (σ 19 5) = (5 : Int32) then ((x_M d 143 [.ref 19] σ).bind fun r2 => (if r2.1 = 0 then some ((0 : Int32), r2.2) else (if (r2.2 19 5) = 0 then some ((1 : Int32), (x_up r2.2 19 12 (0 : Int32))) else some ((1 : Int32), (x_up r2.2 19 12 (r2.2 19 12)))))) else ((x_M d 159 [.ref 19] σ).bind fun r1 => (if (r1.2 19 5) = 0 then some ((1 : Int32), (x_up r1.2 19 12 (0 : Int32))) else some ((1 : Int32), (x_up r1.2 19 12 (r1.2 19 12))))))) := (x_M_at rfl rfl rfl).trans (e160_0 (x_M d) (xr x_i160 d 4999) σ)
-- DeskMachineModel.run(I)I (19,)
theorem m161 (d : Nat) (v1 : Int32) (σ : xS) : x_M (d + 1) 161 [.ref 19, .int v1] σ = (if v1 < (1 : Int32) then (if ((x_up σ 19 0 (1 : Int32)) 19 0) = 0 then xr x_i161 d 4999 36 [(0, .ref 19), (1, .int v1), (2, .int (0 : Int32)), (3, .int (1 : Int32))] [] (x_up σ 19 0 (1 : Int32)) else xr x_i161 d 4999 36 [(0, .ref 19), (1, .int v1), (2, .int (0 : Int32)), (3, .int (0 : Int32))] [] (x_up σ 19 0 (1 : Int32))) else (if v1 ≤ (1000 : Int32) then (if ((x_up σ 19 0 (0 : Int32)) 19 0) = 0 then xr x_i161 d 4999 36 [(0, .ref 19), (1, .int v1), (2, .int (0 : Int32)), (3, .int (1 : Int32))] [] (x_up σ 19 0 (0 : Int32)) else xr x_i161 d 4999 36 [(0, .ref 19), (1, .int v1), (2, .int (0 : Int32)), (3, .int (0 : Int32))] [] (x_up σ 19 0 (0 : Int32))) else (if ((x_up σ 19 0 (1 : Int32)) 19 0) = 0 then xr x_i161 d 4999 36 [(0, .ref 19), (1, .int v1), (2, .int (0 : Int32)), (3, .int (1 : Int32))] [] (x_up σ 19 0 (1 : Int32)) else xr x_i161 d 4999 36 [(0, .ref 19), (1, .int v1), (2, .int (0 : Int32)), (3, .int (0 : Int32))] [] (x_up σ 19 0 (1 : Int32))))) := (x_M_at rfl rfl rfl).trans (e161_0 (x_M d) (xr x_i161 d 4999) v1 σ)
theorem c161_36 (d n : Nat) (v1 v2 v3 : Int32) (σ : xS) : xr x_i161 d (n + 1) 36 [(0, .ref 19), (1, .int v1), (2, .int v2), (3, .int v3)] [] σ = (if v3 = 0 then some (v2, (x_up σ 19 19 ((σ 19 19) + v2))) else (if v1 ≤ v2 then some (v2, (x_up σ 19 19 ((σ 19 19) + v2))) else ((x_M d 160 [.ref 19] σ).bind fun r1 => (if r1.1 = 0 then xr x_i161 d n 36 [(0, .ref 19), (1, .int v1), (2, .int (v2 + (0 : Int32))), (3, .int r1.1)] [] r1.2 else xr x_i161 d n 36 [(0, .ref 19), (1, .int v1), (2, .int (v2 + (1 : Int32))), (3, .int r1.1)] [] r1.2)))) := (xr_at _ _ _ _ _ _ _).trans (e161_36 (x_M d) (xr x_i161 d n) v1 v2 v3 σ)
-- DeskMachineModel.isByte(I)Z ()
theorem m162 (d : Nat) (v0 : Int32) (σ : xS) : x_M (d + 1) 162 [.int v0] σ = (if v0 < 0 then some ((0 : Int32), σ) else (if (255 : Int32) < v0 then some ((0 : Int32), σ) else some ((1 : Int32), σ))) := (x_M_at rfl rfl rfl).trans (e162_0 (x_M d) (xr x_i162 d 4999) v0 σ)
-- DeskMachineModel.poke(II)Z (19,)
theorem m163 (d : Nat) (v1 v2 : Int32) (σ : xS) : x_M (d + 1) 163 [.ref 19, .int v1, .int v2] σ = (if v1 < 0 then xr x_i163 d 4999 19 [(0, .ref 19), (1, .int v1), (2, .int v2)] [.ref 19] σ else (if (511 : Int32) < v1 then xr x_i163 d 4999 19 [(0, .ref 19), (1, .int v1), (2, .int v2)] [.ref 19] σ else ((x_M d 162 [.int v2] σ).bind fun r1 => (if r1.1 = 0 then xr x_i163 d 4999 19 [(0, .ref 19), (1, .int v1), (2, .int v2)] [.ref 19] r1.2 else (if ((x_up r1.2 19 0 (0 : Int32)) 19 0) = 0 then (if v1 < 0 ∨ 512 ≤ v1.toNatClampNeg then none else (if ((x_up (x_up r1.2 19 0 (0 : Int32)) 20 (v1.toNatClampNeg) v2) 19 0) = 0 then some ((1 : Int32), (x_up (x_up r1.2 19 0 (0 : Int32)) 20 (v1.toNatClampNeg) v2)) else some ((0 : Int32), (x_up (x_up r1.2 19 0 (0 : Int32)) 20 (v1.toNatClampNeg) v2)))) else (if ((x_up r1.2 19 0 (0 : Int32)) 19 0) = 0 then some ((1 : Int32), (x_up r1.2 19 0 (0 : Int32))) else some ((0 : Int32), (x_up r1.2 19 0 (0 : Int32))))))))) := (x_M_at rfl rfl rfl).trans (e163_0 (x_M d) (xr x_i163 d 4999) v1 v2 σ)
theorem c163_19 (d n : Nat) (v1 v2 : Int32) (σ : xS) : xr x_i163 d (n + 1) 19 [(0, .ref 19), (1, .int v1), (2, .int v2)] [.ref 19] σ = (if ((x_up σ 19 0 (1 : Int32)) 19 0) = 0 then (if v1 < 0 ∨ 512 ≤ v1.toNatClampNeg then none else (if ((x_up (x_up σ 19 0 (1 : Int32)) 20 (v1.toNatClampNeg) v2) 19 0) = 0 then some ((1 : Int32), (x_up (x_up σ 19 0 (1 : Int32)) 20 (v1.toNatClampNeg) v2)) else some ((0 : Int32), (x_up (x_up σ 19 0 (1 : Int32)) 20 (v1.toNatClampNeg) v2)))) else (if ((x_up σ 19 0 (1 : Int32)) 19 0) = 0 then some ((1 : Int32), (x_up σ 19 0 (1 : Int32))) else some ((0 : Int32), (x_up σ 19 0 (1 : Int32))))) := (xr_at _ _ _ _ _ _ _).trans (e163_19 (x_M d) (xr x_i163 d n) v1 v2 σ)
-- DeskMachineModel.peek(I)I (19,)
theorem m164 (d : Nat) (v1 : Int32) (σ : xS) : x_M (d + 1) 164 [.ref 19, .int v1] σ = (if v1 < 0 then (if ((x_up σ 19 0 (1 : Int32)) 19 0) = 0 then (if v1 < 0 ∨ 512 ≤ v1.toNatClampNeg then none else some (((x_up σ 19 0 (1 : Int32)) 20 v1.toNatClampNeg), (x_up σ 19 0 (1 : Int32)))) else some ((0 : Int32), (x_up σ 19 0 (1 : Int32)))) else (if v1 ≤ (511 : Int32) then (if ((x_up σ 19 0 (0 : Int32)) 19 0) = 0 then (if v1 < 0 ∨ 512 ≤ v1.toNatClampNeg then none else some (((x_up σ 19 0 (0 : Int32)) 20 v1.toNatClampNeg), (x_up σ 19 0 (0 : Int32)))) else some ((0 : Int32), (x_up σ 19 0 (0 : Int32)))) else (if ((x_up σ 19 0 (1 : Int32)) 19 0) = 0 then (if v1 < 0 ∨ 512 ≤ v1.toNatClampNeg then none else some (((x_up σ 19 0 (1 : Int32)) 20 v1.toNatClampNeg), (x_up σ 19 0 (1 : Int32)))) else some ((0 : Int32), (x_up σ 19 0 (1 : Int32)))))) := (x_M_at rfl rfl rfl).trans (e164_0 (x_M d) (xr x_i164 d 4999) v1 σ)
-- DeskMachineModel.isPlace(II)Z ()
theorem m165 (d : Nat) (v0 v1 : Int32) (σ : xS) : x_M (d + 1) 165 [.int v0, .int v1] σ = (if v0 < 0 then some ((0 : Int32), σ) else (if (31 : Int32) < v0 then some ((0 : Int32), σ) else (if v1 < 0 then some ((0 : Int32), σ) else (if (15 : Int32) < v1 then some ((0 : Int32), σ) else some ((1 : Int32), σ))))) := (x_M_at rfl rfl rfl).trans (e165_0 (x_M d) (xr x_i165 d 4999) v0 v1 σ)
-- DeskMachineModel.disk(II)I (19,)
theorem m166 (d : Nat) (v1 v2 : Int32) (σ : xS) : x_M (d + 1) 166 [.ref 19, .int v1, .int v2] σ = ((x_M d 165 [.int v1, .int v2] σ).bind fun r1 => (if r1.1 = 0 then (if ((x_up r1.2 19 0 (1 : Int32)) 19 0) = 0 then (if (((16 : Int32) * v1) + v2) < 0 ∨ 512 ≤ (((16 : Int32) * v1) + v2).toNatClampNeg then none else some (((x_up r1.2 19 0 (1 : Int32)) 21 (((16 : Int32) * v1) + v2).toNatClampNeg), (x_up r1.2 19 0 (1 : Int32)))) else some ((0 : Int32), (x_up r1.2 19 0 (1 : Int32)))) else (if ((x_up r1.2 19 0 (0 : Int32)) 19 0) = 0 then (if (((16 : Int32) * v1) + v2) < 0 ∨ 512 ≤ (((16 : Int32) * v1) + v2).toNatClampNeg then none else some (((x_up r1.2 19 0 (0 : Int32)) 21 (((16 : Int32) * v1) + v2).toNatClampNeg), (x_up r1.2 19 0 (0 : Int32)))) else some ((0 : Int32), (x_up r1.2 19 0 (0 : Int32)))))) := (x_M_at rfl rfl rfl).trans (e166_0 (x_M d) (xr x_i166 d 4999) v1 v2 σ)
-- DeskMachineModel.burn(III)Z (19,)
theorem m167 (d : Nat) (v1 v2 v3 : Int32) (σ : xS) : x_M (d + 1) 167 [.ref 19, .int v1, .int v2, .int v3] σ = ((x_M d 165 [.int v1, .int v2] σ).bind fun r1 => (if r1.1 = 0 then (if ((x_up r1.2 19 0 (1 : Int32)) 19 0) = 0 then (if (((16 : Int32) * v1) + v2) < 0 ∨ 512 ≤ (((16 : Int32) * v1) + v2).toNatClampNeg then none else (if ((x_up (x_up r1.2 19 0 (1 : Int32)) 21 ((((16 : Int32) * v1) + v2).toNatClampNeg) v3) 19 0) = 0 then some ((1 : Int32), (x_up (x_up r1.2 19 0 (1 : Int32)) 21 ((((16 : Int32) * v1) + v2).toNatClampNeg) v3)) else some ((0 : Int32), (x_up (x_up r1.2 19 0 (1 : Int32)) 21 ((((16 : Int32) * v1) + v2).toNatClampNeg) v3)))) else (if ((x_up r1.2 19 0 (1 : Int32)) 19 0) = 0 then some ((1 : Int32), (x_up r1.2 19 0 (1 : Int32))) else some ((0 : Int32), (x_up r1.2 19 0 (1 : Int32))))) else ((x_M d 162 [.int v3] r1.2).bind fun r2 => (if r2.1 = 0 then (if ((x_up r2.2 19 0 (1 : Int32)) 19 0) = 0 then (if (((16 : Int32) * v1) + v2) < 0 ∨ 512 ≤ (((16 : Int32) * v1) + v2).toNatClampNeg then none else (if ((x_up (x_up r2.2 19 0 (1 : Int32)) 21 ((((16 : Int32) * v1) + v2).toNatClampNeg) v3) 19 0) = 0 then some ((1 : Int32), (x_up (x_up r2.2 19 0 (1 : Int32)) 21 ((((16 : Int32) * v1) + v2).toNatClampNeg) v3)) else some ((0 : Int32), (x_up (x_up r2.2 19 0 (1 : Int32)) 21 ((((16 : Int32) * v1) + v2).toNatClampNeg) v3)))) else (if ((x_up r2.2 19 0 (1 : Int32)) 19 0) = 0 then some ((1 : Int32), (x_up r2.2 19 0 (1 : Int32))) else some ((0 : Int32), (x_up r2.2 19 0 (1 : Int32))))) else (if ((x_up r2.2 19 0 (0 : Int32)) 19 0) = 0 then (if (((16 : Int32) * v1) + v2) < 0 ∨ 512 ≤ (((16 : Int32) * v1) + v2).toNatClampNeg then none else (if ((x_up (x_up r2.2 19 0 (0 : Int32)) 21 ((((16 : Int32) * v1) + v2).toNatClampNeg) v3) 19 0) = 0 then some ((1 : Int32), (x_up (x_up r2.2 19 0 (0 : Int32)) 21 ((((16 : Int32) * v1) + v2).toNatClampNeg) v3)) else some ((0 : Int32), (x_up (x_up r2.2 19 0 (0 : Int32)) 21 ((((16 : Int32) * v1) + v2).toNatClampNeg) v3)))) else (if ((x_up r2.2 19 0 (0 : Int32)) 19 0) = 0 then some ((1 : Int32), (x_up r2.2 19 0 (0 : Int32))) else some ((0 : Int32), (x_up r2.2 19 0 (0 : Int32))))))))) := (x_M_at rfl rfl rfl).trans (e167_0 (x_M d) (xr x_i167 d 4999) v1 v2 v3 σ)
-- DeskMachineModel.shown(I)I (19,)
theorem m168 (d : Nat) (v1 : Int32) (σ : xS) : x_M (d + 1) 168 [.ref 19, .int v1] σ = (if v1 < 0 then some ((-1 : Int32), (x_up σ 19 0 (0 : Int32))) else (if (63 : Int32) < v1 then some ((-1 : Int32), (x_up σ 19 0 (0 : Int32))) else (if v1 < ((x_up σ 19 0 (0 : Int32)) 19 17) then (if (((((x_up σ 19 0 (0 : Int32)) 19 17) - (1 : Int32)) - v1) - ((((x_up σ 19 0 (0 : Int32)) 19 17) - (1 : Int32)) - v1) / (64 : Int32) * (64 : Int32)) < 0 ∨ 64 ≤ (((((x_up σ 19 0 (0 : Int32)) 19 17) - (1 : Int32)) - v1) - ((((x_up σ 19 0 (0 : Int32)) 19 17) - (1 : Int32)) - v1) / (64 : Int32) * (64 : Int32)).toNatClampNeg then none else some (((x_up σ 19 0 (0 : Int32)) 25 (((((x_up σ 19 0 (0 : Int32)) 19 17) - (1 : Int32)) - v1) - ((((x_up σ 19 0 (0 : Int32)) 19 17) - (1 : Int32)) - v1) / (64 : Int32) * (64 : Int32)).toNatClampNeg), (x_up σ 19 0 (0 : Int32)))) else some ((-1 : Int32), (x_up σ 19 0 (0 : Int32)))))) := (x_M_at rfl rfl rfl).trans (e168_0 (x_M d) (xr x_i168 d 4999) v1 σ)
-- DeskMachineModel.register(I)I (19,)
theorem m169 (d : Nat) (v1 : Int32) (σ : xS) : x_M (d + 1) 169 [.ref 19, .int v1] σ = (if v1 < 0 then some ((-1 : Int32), (x_up σ 19 0 (0 : Int32))) else (if v1 ≤ (10 : Int32) then (if v1 = (6 : Int32) then ((x_M d 155 [.ref 19] (x_up σ 19 0 (0 : Int32))).bind fun r1 => some (r1.1, r1.2)) else (if (8 : Int32) ≤ v1 then (if v1 = (8 : Int32) then some (((x_up σ 19 0 (0 : Int32)) 19 4), (x_up σ 19 0 (0 : Int32))) else (if v1 = (9 : Int32) then some (((x_up σ 19 0 (0 : Int32)) 19 5), (x_up σ 19 0 (0 : Int32))) else some (((x_up σ 19 0 (0 : Int32)) 19 6), (x_up σ 19 0 (0 : Int32))))) else (if v1 < 0 ∨ 8 ≤ v1.toNatClampNeg then none else some (((x_up σ 19 0 (0 : Int32)) 22 v1.toNatClampNeg), (x_up σ 19 0 (0 : Int32)))))) else some ((-1 : Int32), (x_up σ 19 0 (0 : Int32))))) := (x_M_at rfl rfl rfl).trans (e169_0 (x_M d) (xr x_i169 d 4999) v1 σ)
-- DeskMachineModel.about(I)I (19,)
theorem m170 (d : Nat) (v1 : Int32) (σ : xS) : x_M (d + 1) 170 [.ref 19, .int v1] σ = (if v1 = (0 : Int32) then some (((x_up σ 19 0 (0 : Int32)) 19 12), (x_up σ 19 0 (0 : Int32))) else (if v1 = (1 : Int32) then some (((x_up σ 19 0 (0 : Int32)) 19 13), (x_up σ 19 0 (0 : Int32))) else (if v1 = (2 : Int32) then some (((x_up σ 19 0 (0 : Int32)) 19 17), (x_up σ 19 0 (0 : Int32))) else (if v1 = (3 : Int32) then some (((x_up σ 19 0 (0 : Int32)) 19 19), (x_up σ 19 0 (0 : Int32))) else (if v1 = (4 : Int32) then some (((x_up σ 19 0 (0 : Int32)) 19 15), (x_up σ 19 0 (0 : Int32))) else some ((-1 : Int32), (x_up σ 19 0 (0 : Int32)))))))) := (x_M_at rfl rfl rfl).trans (e170_0 (x_M d) (xr x_i170 d 4999) v1 σ)
-- DeskMachineModel.thrown()I (19,)
theorem m171 (d : Nat) (σ : xS) : x_M (d + 1) 171 [.ref 19] σ = some ((σ 19 0), σ) := (x_M_at rfl rfl rfl).trans (e171_0 (x_M d) (xr x_i171 d 4999) σ)
end
