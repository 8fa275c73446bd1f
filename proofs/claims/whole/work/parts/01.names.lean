-- ===== PART A: goes FIRST, ahead of the names: the tables' words, and 'selects' of the private methods out of them =====
/-- a private method of a class that the tables say can be made, by its rows of tables_1 -/
def lw_okq (q : MethodName × Nat) : Prop := (q.1.cls ≠ "java/lang/invoke/MethodHandle" ∧ q.1.cls ≠ "java/lang/invoke/VarHandle") ∧ Cond.instantiable q.1.cls q.2 ∈ tables_1 ∧ Cond.privateMethod q.1 ∈ tables_1 ∧ Cond.instanceMethod q.1 ∈ tables_1
theorem lw_p0 : lw_okq (⟨"SideWork$Acts", "isUnknown", "(II)Z"⟩, 4) := ⟨⟨by decide +kernel, by decide +kernel⟩, List.mem_of_getElem? (i := 28) (by decide +kernel), List.mem_of_getElem? (i := 266) (by decide +kernel), List.mem_of_getElem? (i := 267) (by decide +kernel)⟩
theorem lw_p1 : lw_okq (⟨"SideWork$Acts", "isOutside", "(II)Z"⟩, 4) := ⟨⟨by decide +kernel, by decide +kernel⟩, List.mem_of_getElem? (i := 28) (by decide +kernel), List.mem_of_getElem? (i := 274) (by decide +kernel), List.mem_of_getElem? (i := 275) (by decide +kernel)⟩
theorem lw_p2 : lw_okq (⟨"SideWork$Acts", "sortParts", "(II)V"⟩, 4) := ⟨⟨by decide +kernel, by decide +kernel⟩, List.mem_of_getElem? (i := 28) (by decide +kernel), List.mem_of_getElem? (i := 284) (by decide +kernel), List.mem_of_getElem? (i := 285) (by decide +kernel)⟩
theorem lw_p3 : lw_okq (⟨"SideWork$Machine", "begin", "(II)V"⟩, 9) := ⟨⟨by decide +kernel, by decide +kernel⟩, List.mem_of_getElem? (i := 49) (by decide +kernel), List.mem_of_getElem? (i := 328) (by decide +kernel), List.mem_of_getElem? (i := 329) (by decide +kernel)⟩
theorem lw_p4 : lw_okq (⟨"SideWork$Machine", "leave", "()V"⟩, 9) := ⟨⟨by decide +kernel, by decide +kernel⟩, List.mem_of_getElem? (i := 49) (by decide +kernel), List.mem_of_getElem? (i := 349) (by decide +kernel), List.mem_of_getElem? (i := 350) (by decide +kernel)⟩
theorem lw_p5 : lw_okq (⟨"SideWork$Machine", "isCaught", "()Z"⟩, 9) := ⟨⟨by decide +kernel, by decide +kernel⟩, List.mem_of_getElem? (i := 49) (by decide +kernel), List.mem_of_getElem? (i := 366) (by decide +kernel), List.mem_of_getElem? (i := 367) (by decide +kernel)⟩
theorem lw_p6 : lw_okq (⟨"SideWork$Machine", "takeUp", "()V"⟩, 9) := ⟨⟨by decide +kernel, by decide +kernel⟩, List.mem_of_getElem? (i := 49) (by decide +kernel), List.mem_of_getElem? (i := 370) (by decide +kernel), List.mem_of_getElem? (i := 371) (by decide +kernel)⟩
theorem lw_p7 : lw_okq (⟨"SideWork$Frames", "has", "(II)Z"⟩, 2) := ⟨⟨by decide +kernel, by decide +kernel⟩, List.mem_of_getElem? (i := 136) (by decide +kernel), List.mem_of_getElem? (i := 386) (by decide +kernel), List.mem_of_getElem? (i := 387) (by decide +kernel)⟩
theorem lw_p8 : lw_okq (⟨"SideWork$Machine", "beginPart", "(I)V"⟩, 9) := ⟨⟨by decide +kernel, by decide +kernel⟩, List.mem_of_getElem? (i := 49) (by decide +kernel), List.mem_of_getElem? (i := 395) (by decide +kernel), List.mem_of_getElem? (i := 396) (by decide +kernel)⟩
theorem lw_p9 : lw_okq (⟨"SideWork$Machine", "leaveLater", "(I)V"⟩, 9) := ⟨⟨by decide +kernel, by decide +kernel⟩, List.mem_of_getElem? (i := 49) (by decide +kernel), List.mem_of_getElem? (i := 415) (by decide +kernel), List.mem_of_getElem? (i := 416) (by decide +kernel)⟩
theorem lw_p10 : lw_okq (⟨"SideWork$Laters", "has", "(I)Z"⟩, 7) := ⟨⟨by decide +kernel, by decide +kernel⟩, List.mem_of_getElem? (i := 149) (by decide +kernel), List.mem_of_getElem? (i := 423) (by decide +kernel), List.mem_of_getElem? (i := 424) (by decide +kernel)⟩
theorem lw_p11 : lw_okq (⟨"SideWork$Machine", "comesToWork", "()Z"⟩, 9) := ⟨⟨by decide +kernel, by decide +kernel⟩, List.mem_of_getElem? (i := 49) (by decide +kernel), List.mem_of_getElem? (i := 443) (by decide +kernel), List.mem_of_getElem? (i := 444) (by decide +kernel)⟩
theorem lw_p12 : lw_okq (⟨"SideWork$Machine", "isStopped", "(I)Z"⟩, 9) := ⟨⟨by decide +kernel, by decide +kernel⟩, List.mem_of_getElem? (i := 49) (by decide +kernel), List.mem_of_getElem? (i := 451) (by decide +kernel), List.mem_of_getElem? (i := 452) (by decide +kernel)⟩
theorem lw_p13 : lw_okq (⟨"SideWork$Machine", "endRun", "(I)V"⟩, 9) := ⟨⟨by decide +kernel, by decide +kernel⟩, List.mem_of_getElem? (i := 49) (by decide +kernel), List.mem_of_getElem? (i := 513) (by decide +kernel), List.mem_of_getElem? (i := 514) (by decide +kernel)⟩
theorem lw_p14 : lw_okq (⟨"SideWork$Machine", "fail", "(II)V"⟩, 9) := ⟨⟨by decide +kernel, by decide +kernel⟩, List.mem_of_getElem? (i := 49) (by decide +kernel), List.mem_of_getElem? (i := 521) (by decide +kernel), List.mem_of_getElem? (i := 522) (by decide +kernel)⟩
theorem lw_p15 : lw_okq (⟨"SideWork$Machine", "work", "()V"⟩, 9) := ⟨⟨by decide +kernel, by decide +kernel⟩, List.mem_of_getElem? (i := 49) (by decide +kernel), List.mem_of_getElem? (i := 529) (by decide +kernel), List.mem_of_getElem? (i := 530) (by decide +kernel)⟩
def lw_privs_1 : List (MethodName × Nat) := [(⟨"SideWork$Acts", "isUnknown", "(II)Z"⟩, 4), (⟨"SideWork$Acts", "isOutside", "(II)Z"⟩, 4), (⟨"SideWork$Acts", "sortParts", "(II)V"⟩, 4), (⟨"SideWork$Machine", "begin", "(II)V"⟩, 9), (⟨"SideWork$Machine", "leave", "()V"⟩, 9), (⟨"SideWork$Machine", "isCaught", "()Z"⟩, 9), (⟨"SideWork$Machine", "takeUp", "()V"⟩, 9), (⟨"SideWork$Frames", "has", "(II)Z"⟩, 2), (⟨"SideWork$Machine", "beginPart", "(I)V"⟩, 9), (⟨"SideWork$Machine", "leaveLater", "(I)V"⟩, 9), (⟨"SideWork$Laters", "has", "(I)Z"⟩, 7), (⟨"SideWork$Machine", "comesToWork", "()Z"⟩, 9), (⟨"SideWork$Machine", "isStopped", "(I)Z"⟩, 9), (⟨"SideWork$Machine", "endRun", "(I)V"⟩, 9), (⟨"SideWork$Machine", "fail", "(II)V"⟩, 9), (⟨"SideWork$Machine", "work", "()V"⟩, 9)]
theorem lw_r1 : ∀ q ∈ lw_privs_1, lw_okq q := List.forall_mem_cons.mpr ⟨lw_p0, List.forall_mem_cons.mpr ⟨lw_p1, List.forall_mem_cons.mpr ⟨lw_p2, List.forall_mem_cons.mpr ⟨lw_p3, List.forall_mem_cons.mpr ⟨lw_p4, List.forall_mem_cons.mpr ⟨lw_p5, List.forall_mem_cons.mpr ⟨lw_p6, List.forall_mem_cons.mpr ⟨lw_p7, List.forall_mem_cons.mpr ⟨lw_p8, List.forall_mem_cons.mpr ⟨lw_p9, List.forall_mem_cons.mpr ⟨lw_p10, List.forall_mem_cons.mpr ⟨lw_p11, List.forall_mem_cons.mpr ⟨lw_p12, List.forall_mem_cons.mpr ⟨lw_p13, List.forall_mem_cons.mpr ⟨lw_p14, List.forall_mem_cons.mpr ⟨lw_p15, fun _ h => absurd h List.not_mem_nil⟩⟩⟩⟩⟩⟩⟩⟩⟩⟩⟩⟩⟩⟩⟩⟩
theorem lw_p16 : lw_okq (⟨"SideWork$Machine", "keep", "()V"⟩, 9) := ⟨⟨by decide +kernel, by decide +kernel⟩, List.mem_of_getElem? (i := 49) (by decide +kernel), List.mem_of_getElem? (i := 533) (by decide +kernel), List.mem_of_getElem? (i := 534) (by decide +kernel)⟩
theorem lw_p17 : lw_okq (⟨"SideWork$Machine", "give", "(J)V"⟩, 9) := ⟨⟨by decide +kernel, by decide +kernel⟩, List.mem_of_getElem? (i := 49) (by decide +kernel), List.mem_of_getElem? (i := 537) (by decide +kernel), List.mem_of_getElem? (i := 538) (by decide +kernel)⟩
theorem lw_p18 : lw_okq (⟨"SideWork$Machine", "doAlways", "()V"⟩, 9) := ⟨⟨by decide +kernel, by decide +kernel⟩, List.mem_of_getElem? (i := 49) (by decide +kernel), List.mem_of_getElem? (i := 545) (by decide +kernel), List.mem_of_getElem? (i := 546) (by decide +kernel)⟩
theorem lw_p19 : lw_okq (⟨"SideWork$Machine", "choose", "()V"⟩, 9) := ⟨⟨by decide +kernel, by decide +kernel⟩, List.mem_of_getElem? (i := 49) (by decide +kernel), List.mem_of_getElem? (i := 558) (by decide +kernel), List.mem_of_getElem? (i := 559) (by decide +kernel)⟩
theorem lw_p20 : lw_okq (⟨"SideWork$Machine", "loop", "()V"⟩, 9) := ⟨⟨by decide +kernel, by decide +kernel⟩, List.mem_of_getElem? (i := 49) (by decide +kernel), List.mem_of_getElem? (i := 562) (by decide +kernel), List.mem_of_getElem? (i := 563) (by decide +kernel)⟩
theorem lw_p21 : lw_okq (⟨"SideWork$Machine", "askAgain", "()V"⟩, 9) := ⟨⟨by decide +kernel, by decide +kernel⟩, List.mem_of_getElem? (i := 49) (by decide +kernel), List.mem_of_getElem? (i := 566) (by decide +kernel), List.mem_of_getElem? (i := 567) (by decide +kernel)⟩
theorem lw_p22 : lw_okq (⟨"SideWork$Machine", "call", "()V"⟩, 9) := ⟨⟨by decide +kernel, by decide +kernel⟩, List.mem_of_getElem? (i := 49) (by decide +kernel), List.mem_of_getElem? (i := 571) (by decide +kernel), List.mem_of_getElem? (i := 572) (by decide +kernel)⟩
theorem lw_p23 : lw_okq (⟨"SideWork$Machine", "enter", "(I)V"⟩, 9) := ⟨⟨by decide +kernel, by decide +kernel⟩, List.mem_of_getElem? (i := 49) (by decide +kernel), List.mem_of_getElem? (i := 575) (by decide +kernel), List.mem_of_getElem? (i := 576) (by decide +kernel)⟩
theorem lw_p24 : lw_okq (⟨"SideWork$Machine", "delay", "()V"⟩, 9) := ⟨⟨by decide +kernel, by decide +kernel⟩, List.mem_of_getElem? (i := 49) (by decide +kernel), List.mem_of_getElem? (i := 580) (by decide +kernel), List.mem_of_getElem? (i := 581) (by decide +kernel)⟩
theorem lw_p25 : lw_okq (⟨"SideWork$Machine", "force", "(I)V"⟩, 9) := ⟨⟨by decide +kernel, by decide +kernel⟩, List.mem_of_getElem? (i := 49) (by decide +kernel), List.mem_of_getElem? (i := 592) (by decide +kernel), List.mem_of_getElem? (i := 593) (by decide +kernel)⟩
theorem lw_p26 : lw_okq (⟨"SideWork$Machine", "workLater", "(I)V"⟩, 9) := ⟨⟨by decide +kernel, by decide +kernel⟩, List.mem_of_getElem? (i := 49) (by decide +kernel), List.mem_of_getElem? (i := 596) (by decide +kernel), List.mem_of_getElem? (i := 597) (by decide +kernel)⟩
theorem lw_p27 : lw_okq (⟨"SideWork$Machine", "copy", "()V"⟩, 9) := ⟨⟨by decide +kernel, by decide +kernel⟩, List.mem_of_getElem? (i := 49) (by decide +kernel), List.mem_of_getElem? (i := 628) (by decide +kernel), List.mem_of_getElem? (i := 629) (by decide +kernel)⟩
theorem lw_p28 : lw_okq (⟨"SideWork$Machine", "workPlainly", "(I)V"⟩, 9) := ⟨⟨by decide +kernel, by decide +kernel⟩, List.mem_of_getElem? (i := 49) (by decide +kernel), List.mem_of_getElem? (i := 644) (by decide +kernel), List.mem_of_getElem? (i := 645) (by decide +kernel)⟩
theorem lw_p29 : lw_okq (⟨"SideWork$Machine", "reckon", "(IIJJ)J"⟩, 9) := ⟨⟨by decide +kernel, by decide +kernel⟩, List.mem_of_getElem? (i := 49) (by decide +kernel), List.mem_of_getElem? (i := 648) (by decide +kernel), List.mem_of_getElem? (i := 649) (by decide +kernel)⟩
theorem lw_p30 : lw_okq (⟨"SideWork$Machine", "change", "(IIJJJ)J"⟩, 9) := ⟨⟨by decide +kernel, by decide +kernel⟩, List.mem_of_getElem? (i := 49) (by decide +kernel), List.mem_of_getElem? (i := 659) (by decide +kernel), List.mem_of_getElem? (i := 660) (by decide +kernel)⟩
theorem lw_p31 : lw_okq (⟨"SideWork$Machine", "put", "(IJ)J"⟩, 9) := ⟨⟨by decide +kernel, by decide +kernel⟩, List.mem_of_getElem? (i := 49) (by decide +kernel), List.mem_of_getElem? (i := 675) (by decide +kernel), List.mem_of_getElem? (i := 676) (by decide +kernel)⟩
def lw_privs_2 : List (MethodName × Nat) := [(⟨"SideWork$Machine", "keep", "()V"⟩, 9), (⟨"SideWork$Machine", "give", "(J)V"⟩, 9), (⟨"SideWork$Machine", "doAlways", "()V"⟩, 9), (⟨"SideWork$Machine", "choose", "()V"⟩, 9), (⟨"SideWork$Machine", "loop", "()V"⟩, 9), (⟨"SideWork$Machine", "askAgain", "()V"⟩, 9), (⟨"SideWork$Machine", "call", "()V"⟩, 9), (⟨"SideWork$Machine", "enter", "(I)V"⟩, 9), (⟨"SideWork$Machine", "delay", "()V"⟩, 9), (⟨"SideWork$Machine", "force", "(I)V"⟩, 9), (⟨"SideWork$Machine", "workLater", "(I)V"⟩, 9), (⟨"SideWork$Machine", "copy", "()V"⟩, 9), (⟨"SideWork$Machine", "workPlainly", "(I)V"⟩, 9), (⟨"SideWork$Machine", "reckon", "(IIJJ)J"⟩, 9), (⟨"SideWork$Machine", "change", "(IIJJJ)J"⟩, 9), (⟨"SideWork$Machine", "put", "(IJ)J"⟩, 9)]
theorem lw_r2 : ∀ q ∈ lw_privs_2, lw_okq q := List.forall_mem_cons.mpr ⟨lw_p16, List.forall_mem_cons.mpr ⟨lw_p17, List.forall_mem_cons.mpr ⟨lw_p18, List.forall_mem_cons.mpr ⟨lw_p19, List.forall_mem_cons.mpr ⟨lw_p20, List.forall_mem_cons.mpr ⟨lw_p21, List.forall_mem_cons.mpr ⟨lw_p22, List.forall_mem_cons.mpr ⟨lw_p23, List.forall_mem_cons.mpr ⟨lw_p24, List.forall_mem_cons.mpr ⟨lw_p25, List.forall_mem_cons.mpr ⟨lw_p26, List.forall_mem_cons.mpr ⟨lw_p27, List.forall_mem_cons.mpr ⟨lw_p28, List.forall_mem_cons.mpr ⟨lw_p29, List.forall_mem_cons.mpr ⟨lw_p30, List.forall_mem_cons.mpr ⟨lw_p31, fun _ h => absurd h List.not_mem_nil⟩⟩⟩⟩⟩⟩⟩⟩⟩⟩⟩⟩⟩⟩⟩⟩
theorem lw_p32 : lw_okq (⟨"SideWork$Machine", "tell", "(J)J"⟩, 9) := ⟨⟨by decide +kernel, by decide +kernel⟩, List.mem_of_getElem? (i := 49) (by decide +kernel), List.mem_of_getElem? (i := 680) (by decide +kernel), List.mem_of_getElem? (i := 681) (by decide +kernel)⟩
theorem lw_p33 : lw_okq (⟨"java/lang/Throwable", "fillInStackTrace", "(I)Ljava/lang/Throwable;"⟩, 6) := ⟨⟨by decide +kernel, by decide +kernel⟩, List.mem_of_getElem? (i := 759) (by decide +kernel), List.mem_of_getElem? (i := 757) (by decide +kernel), List.mem_of_getElem? (i := 758) (by decide +kernel)⟩
theorem lw_p34 : lw_okq (⟨"SideWorkModel", "noAct", "(I)Z"⟩, 56) := ⟨⟨by decide +kernel, by decide +kernel⟩, List.mem_of_getElem? (i := 816) (by decide +kernel), List.mem_of_getElem? (i := 1001) (by decide +kernel), List.mem_of_getElem? (i := 1002) (by decide +kernel)⟩
theorem lw_p35 : lw_okq (⟨"SideWorkModel", "newFrame", "()I"⟩, 56) := ⟨⟨by decide +kernel, by decide +kernel⟩, List.mem_of_getElem? (i := 816) (by decide +kernel), List.mem_of_getElem? (i := 1013) (by decide +kernel), List.mem_of_getElem? (i := 1014) (by decide +kernel)⟩
theorem lw_p36 : lw_okq (⟨"SideWorkModel", "start", "(II)V"⟩, 56) := ⟨⟨by decide +kernel, by decide +kernel⟩, List.mem_of_getElem? (i := 816) (by decide +kernel), List.mem_of_getElem? (i := 1017) (by decide +kernel), List.mem_of_getElem? (i := 1018) (by decide +kernel)⟩
theorem lw_p37 : lw_okq (⟨"SideWorkModel", "begin", "()V"⟩, 56) := ⟨⟨by decide +kernel, by decide +kernel⟩, List.mem_of_getElem? (i := 816) (by decide +kernel), List.mem_of_getElem? (i := 1021) (by decide +kernel), List.mem_of_getElem? (i := 1022) (by decide +kernel)⟩
theorem lw_p38 : lw_okq (⟨"SideWorkModel", "finish", "(II)V"⟩, 56) := ⟨⟨by decide +kernel, by decide +kernel⟩, List.mem_of_getElem? (i := 816) (by decide +kernel), List.mem_of_getElem? (i := 1025) (by decide +kernel), List.mem_of_getElem? (i := 1026) (by decide +kernel)⟩
theorem lw_p39 : lw_okq (⟨"SideWorkModel", "value", "(II)V"⟩, 56) := ⟨⟨by decide +kernel, by decide +kernel⟩, List.mem_of_getElem? (i := 816) (by decide +kernel), List.mem_of_getElem? (i := 1029) (by decide +kernel), List.mem_of_getElem? (i := 1030) (by decide +kernel)⟩
theorem lw_p40 : lw_okq (⟨"SideWorkModel", "newThing", "(I)I"⟩, 56) := ⟨⟨by decide +kernel, by decide +kernel⟩, List.mem_of_getElem? (i := 816) (by decide +kernel), List.mem_of_getElem? (i := 1033) (by decide +kernel), List.mem_of_getElem? (i := 1034) (by decide +kernel)⟩
theorem lw_p41 : lw_okq (⟨"SideWorkModel", "up", "()V"⟩, 56) := ⟨⟨by decide +kernel, by decide +kernel⟩, List.mem_of_getElem? (i := 816) (by decide +kernel), List.mem_of_getElem? (i := 1037) (by decide +kernel), List.mem_of_getElem? (i := 1038) (by decide +kernel)⟩
theorem lw_p42 : lw_okq (⟨"SideWorkModel", "keepX", "(I)V"⟩, 56) := ⟨⟨by decide +kernel, by decide +kernel⟩, List.mem_of_getElem? (i := 816) (by decide +kernel), List.mem_of_getElem? (i := 1041) (by decide +kernel), List.mem_of_getElem? (i := 1042) (by decide +kernel)⟩
theorem lw_p43 : lw_okq (⟨"SideWorkModel", "keepY", "(I)V"⟩, 56) := ⟨⟨by decide +kernel, by decide +kernel⟩, List.mem_of_getElem? (i := 816) (by decide +kernel), List.mem_of_getElem? (i := 1045) (by decide +kernel), List.mem_of_getElem? (i := 1046) (by decide +kernel)⟩
theorem lw_p44 : lw_okq (⟨"SideWorkModel", "upOf", "(IIIII)V"⟩, 56) := ⟨⟨by decide +kernel, by decide +kernel⟩, List.mem_of_getElem? (i := 816) (by decide +kernel), List.mem_of_getElem? (i := 1049) (by decide +kernel), List.mem_of_getElem? (i := 1050) (by decide +kernel)⟩
theorem lw_p45 : lw_okq (⟨"SideWorkModel", "reckon", "(IIII)V"⟩, 56) := ⟨⟨by decide +kernel, by decide +kernel⟩, List.mem_of_getElem? (i := 816) (by decide +kernel), List.mem_of_getElem? (i := 1053) (by decide +kernel), List.mem_of_getElem? (i := 1054) (by decide +kernel)⟩
theorem lw_p46 : lw_okq (⟨"SideWorkModel", "isWhole", "(II)Z"⟩, 56) := ⟨⟨by decide +kernel, by decide +kernel⟩, List.mem_of_getElem? (i := 816) (by decide +kernel), List.mem_of_getElem? (i := 1057) (by decide +kernel), List.mem_of_getElem? (i := 1058) (by decide +kernel)⟩
theorem lw_p47 : lw_okq (⟨"SideWorkModel", "fail", "(III)V"⟩, 56) := ⟨⟨by decide +kernel, by decide +kernel⟩, List.mem_of_getElem? (i := 816) (by decide +kernel), List.mem_of_getElem? (i := 1061) (by decide +kernel), List.mem_of_getElem? (i := 1062) (by decide +kernel)⟩
def lw_privs_3 : List (MethodName × Nat) := [(⟨"SideWork$Machine", "tell", "(J)J"⟩, 9), (⟨"java/lang/Throwable", "fillInStackTrace", "(I)Ljava/lang/Throwable;"⟩, 6), (⟨"SideWorkModel", "noAct", "(I)Z"⟩, 56), (⟨"SideWorkModel", "newFrame", "()I"⟩, 56), (⟨"SideWorkModel", "start", "(II)V"⟩, 56), (⟨"SideWorkModel", "begin", "()V"⟩, 56), (⟨"SideWorkModel", "finish", "(II)V"⟩, 56), (⟨"SideWorkModel", "value", "(II)V"⟩, 56), (⟨"SideWorkModel", "newThing", "(I)I"⟩, 56), (⟨"SideWorkModel", "up", "()V"⟩, 56), (⟨"SideWorkModel", "keepX", "(I)V"⟩, 56), (⟨"SideWorkModel", "keepY", "(I)V"⟩, 56), (⟨"SideWorkModel", "upOf", "(IIIII)V"⟩, 56), (⟨"SideWorkModel", "reckon", "(IIII)V"⟩, 56), (⟨"SideWorkModel", "isWhole", "(II)Z"⟩, 56), (⟨"SideWorkModel", "fail", "(III)V"⟩, 56)]
theorem lw_r3 : ∀ q ∈ lw_privs_3, lw_okq q := List.forall_mem_cons.mpr ⟨lw_p32, List.forall_mem_cons.mpr ⟨lw_p33, List.forall_mem_cons.mpr ⟨lw_p34, List.forall_mem_cons.mpr ⟨lw_p35, List.forall_mem_cons.mpr ⟨lw_p36, List.forall_mem_cons.mpr ⟨lw_p37, List.forall_mem_cons.mpr ⟨lw_p38, List.forall_mem_cons.mpr ⟨lw_p39, List.forall_mem_cons.mpr ⟨lw_p40, List.forall_mem_cons.mpr ⟨lw_p41, List.forall_mem_cons.mpr ⟨lw_p42, List.forall_mem_cons.mpr ⟨lw_p43, List.forall_mem_cons.mpr ⟨lw_p44, List.forall_mem_cons.mpr ⟨lw_p45, List.forall_mem_cons.mpr ⟨lw_p46, List.forall_mem_cons.mpr ⟨lw_p47, fun _ h => absurd h List.not_mem_nil⟩⟩⟩⟩⟩⟩⟩⟩⟩⟩⟩⟩⟩⟩⟩⟩
theorem lw_p48 : lw_okq (⟨"SideWorkModel", "failBy", "(II)V"⟩, 56) := ⟨⟨by decide +kernel, by decide +kernel⟩, List.mem_of_getElem? (i := 816) (by decide +kernel), List.mem_of_getElem? (i := 1065) (by decide +kernel), List.mem_of_getElem? (i := 1066) (by decide +kernel)⟩
theorem lw_p49 : lw_okq (⟨"SideWorkModel", "makeRow", "(II)V"⟩, 56) := ⟨⟨by decide +kernel, by decide +kernel⟩, List.mem_of_getElem? (i := 816) (by decide +kernel), List.mem_of_getElem? (i := 1069) (by decide +kernel), List.mem_of_getElem? (i := 1070) (by decide +kernel)⟩
theorem lw_p50 : lw_okq (⟨"SideWorkModel", "readPlace", "(III)V"⟩, 56) := ⟨⟨by decide +kernel, by decide +kernel⟩, List.mem_of_getElem? (i := 816) (by decide +kernel), List.mem_of_getElem? (i := 1073) (by decide +kernel), List.mem_of_getElem? (i := 1074) (by decide +kernel)⟩
theorem lw_p51 : lw_okq (⟨"SideWorkModel", "isRowHere", "(II)Z"⟩, 56) := ⟨⟨by decide +kernel, by decide +kernel⟩, List.mem_of_getElem? (i := 816) (by decide +kernel), List.mem_of_getElem? (i := 1077) (by decide +kernel), List.mem_of_getElem? (i := 1078) (by decide +kernel)⟩
theorem lw_p52 : lw_okq (⟨"SideWorkModel", "writePlace", "(II)V"⟩, 56) := ⟨⟨by decide +kernel, by decide +kernel⟩, List.mem_of_getElem? (i := 816) (by decide +kernel), List.mem_of_getElem? (i := 1084) (by decide +kernel), List.mem_of_getElem? (i := 1085) (by decide +kernel)⟩
theorem lw_p53 : lw_okq (⟨"SideWorkModel", "write", "(III)V"⟩, 56) := ⟨⟨by decide +kernel, by decide +kernel⟩, List.mem_of_getElem? (i := 816) (by decide +kernel), List.mem_of_getElem? (i := 1088) (by decide +kernel), List.mem_of_getElem? (i := 1089) (by decide +kernel)⟩
theorem lw_p54 : lw_okq (⟨"SideWorkModel", "isLink", "(II)Z"⟩, 56) := ⟨⟨by decide +kernel, by decide +kernel⟩, List.mem_of_getElem? (i := 816) (by decide +kernel), List.mem_of_getElem? (i := 1092) (by decide +kernel), List.mem_of_getElem? (i := 1093) (by decide +kernel)⟩
theorem lw_p55 : lw_okq (⟨"SideWorkModel", "copyPlaces", "(II)V"⟩, 56) := ⟨⟨by decide +kernel, by decide +kernel⟩, List.mem_of_getElem? (i := 816) (by decide +kernel), List.mem_of_getElem? (i := 1096) (by decide +kernel), List.mem_of_getElem? (i := 1097) (by decide +kernel)⟩
theorem lw_p56 : lw_okq (⟨"SideWorkModel", "upLater", "(IIIII)V"⟩, 56) := ⟨⟨by decide +kernel, by decide +kernel⟩, List.mem_of_getElem? (i := 816) (by decide +kernel), List.mem_of_getElem? (i := 1100) (by decide +kernel), List.mem_of_getElem? (i := 1101) (by decide +kernel)⟩
theorem lw_p57 : lw_okq (⟨"SideWorkModel", "upLoop", "(IIII)V"⟩, 56) := ⟨⟨by decide +kernel, by decide +kernel⟩, List.mem_of_getElem? (i := 816) (by decide +kernel), List.mem_of_getElem? (i := 1104) (by decide +kernel), List.mem_of_getElem? (i := 1105) (by decide +kernel)⟩
theorem lw_p58 : lw_okq (⟨"SideWorkModel", "upCall", "(III)V"⟩, 56) := ⟨⟨by decide +kernel, by decide +kernel⟩, List.mem_of_getElem? (i := 816) (by decide +kernel), List.mem_of_getElem? (i := 1108) (by decide +kernel), List.mem_of_getElem? (i := 1109) (by decide +kernel)⟩
theorem lw_p59 : lw_okq (⟨"SideWorkModel", "upWork", "(III)V"⟩, 56) := ⟨⟨by decide +kernel, by decide +kernel⟩, List.mem_of_getElem? (i := 816) (by decide +kernel), List.mem_of_getElem? (i := 1112) (by decide +kernel), List.mem_of_getElem? (i := 1113) (by decide +kernel)⟩
theorem lw_p60 : lw_okq (⟨"SideWorkModel", "upFailure", "()V"⟩, 56) := ⟨⟨by decide +kernel, by decide +kernel⟩, List.mem_of_getElem? (i := 816) (by decide +kernel), List.mem_of_getElem? (i := 1116) (by decide +kernel), List.mem_of_getElem? (i := 1117) (by decide +kernel)⟩
theorem lw_p61 : lw_okq (⟨"SideWorkModel", "leave", "(IIII)V"⟩, 56) := ⟨⟨by decide +kernel, by decide +kernel⟩, List.mem_of_getElem? (i := 816) (by decide +kernel), List.mem_of_getElem? (i := 1120) (by decide +kernel), List.mem_of_getElem? (i := 1121) (by decide +kernel)⟩
theorem lw_p62 : lw_okq (⟨"SideWorkModel", "back", "(I)V"⟩, 56) := ⟨⟨by decide +kernel, by decide +kernel⟩, List.mem_of_getElem? (i := 816) (by decide +kernel), List.mem_of_getElem? (i := 1124) (by decide +kernel), List.mem_of_getElem? (i := 1125) (by decide +kernel)⟩
theorem lw_p63 : lw_okq (⟨"SideWorkModel", "numberOf", "(II)I"⟩, 56) := ⟨⟨by decide +kernel, by decide +kernel⟩, List.mem_of_getElem? (i := 816) (by decide +kernel), List.mem_of_getElem? (i := 1136) (by decide +kernel), List.mem_of_getElem? (i := 1137) (by decide +kernel)⟩
def lw_privs_4 : List (MethodName × Nat) := [(⟨"SideWorkModel", "failBy", "(II)V"⟩, 56), (⟨"SideWorkModel", "makeRow", "(II)V"⟩, 56), (⟨"SideWorkModel", "readPlace", "(III)V"⟩, 56), (⟨"SideWorkModel", "isRowHere", "(II)Z"⟩, 56), (⟨"SideWorkModel", "writePlace", "(II)V"⟩, 56), (⟨"SideWorkModel", "write", "(III)V"⟩, 56), (⟨"SideWorkModel", "isLink", "(II)Z"⟩, 56), (⟨"SideWorkModel", "copyPlaces", "(II)V"⟩, 56), (⟨"SideWorkModel", "upLater", "(IIIII)V"⟩, 56), (⟨"SideWorkModel", "upLoop", "(IIII)V"⟩, 56), (⟨"SideWorkModel", "upCall", "(III)V"⟩, 56), (⟨"SideWorkModel", "upWork", "(III)V"⟩, 56), (⟨"SideWorkModel", "upFailure", "()V"⟩, 56), (⟨"SideWorkModel", "leave", "(IIII)V"⟩, 56), (⟨"SideWorkModel", "back", "(I)V"⟩, 56), (⟨"SideWorkModel", "numberOf", "(II)I"⟩, 56)]
theorem lw_r4 : ∀ q ∈ lw_privs_4, lw_okq q := List.forall_mem_cons.mpr ⟨lw_p48, List.forall_mem_cons.mpr ⟨lw_p49, List.forall_mem_cons.mpr ⟨lw_p50, List.forall_mem_cons.mpr ⟨lw_p51, List.forall_mem_cons.mpr ⟨lw_p52, List.forall_mem_cons.mpr ⟨lw_p53, List.forall_mem_cons.mpr ⟨lw_p54, List.forall_mem_cons.mpr ⟨lw_p55, List.forall_mem_cons.mpr ⟨lw_p56, List.forall_mem_cons.mpr ⟨lw_p57, List.forall_mem_cons.mpr ⟨lw_p58, List.forall_mem_cons.mpr ⟨lw_p59, List.forall_mem_cons.mpr ⟨lw_p60, List.forall_mem_cons.mpr ⟨lw_p61, List.forall_mem_cons.mpr ⟨lw_p62, List.forall_mem_cons.mpr ⟨lw_p63, fun _ h => absurd h List.not_mem_nil⟩⟩⟩⟩⟩⟩⟩⟩⟩⟩⟩⟩⟩⟩⟩⟩
def lw_privs : List (MethodName × Nat) := lw_privs_1 ++ (lw_privs_2 ++ (lw_privs_3 ++ (lw_privs_4)))
def lw_tbl : List Cond := k2_sels lw_privs ++ tables_1
theorem lw_privs_ok : ∀ q ∈ lw_privs, lw_okq q := by
  show ∀ q ∈ lw_privs_1 ++ (lw_privs_2 ++ (lw_privs_3 ++ (lw_privs_4))), lw_okq q
  exact List.forall_mem_append.mpr ⟨lw_r1, List.forall_mem_append.mpr ⟨lw_r2, List.forall_mem_append.mpr ⟨lw_r3, lw_r4⟩⟩⟩
def RX0 : String := "SideWork$Acts"
def TX0 : u_T := fun k => match k with
  | 0 => ("SideWork$Acts", "givens", "[I", true)
  | 1 => ("SideWork$Acts", "parts", "[I", true)
  | 2 => ("SideWork$Acts", "aheads", "[I", true)
  | _ => ("SideWork$Acts", "size", "I", false)
def tyX0 : Nat → FieldType := fun k => match k with
  | 0 => .array .int
  | 1 => .array .int
  | 2 => .array .int
  | _ => .int
abbrev wsX00 : List Cond := u_ws RX0 TX0 4
theorem nmX0 : ∀ a, a < 4 → ∀ b, b < 4 → a ≠ b → (TX0 a).2.1 ≠ (TX0 b).2.1 := by decide +kernel
theorem tyX0_ok : ∀ k, k < 4 → parseFieldDescriptor (TX0 k).2.2.1 = some (tyX0 k) := by decide +kernel
abbrev cX0_init : ByteArray := prog_2_method_1_code
def yX0_init : MethodName := ⟨RX0, "<init>", "()V"⟩
abbrev cX0_has : ByteArray := prog_2_method_2_code
def yX0_has : MethodName := ⟨RX0, "has", "(I)Z"⟩
abbrev cX0_given : ByteArray := prog_2_method_3_code
def yX0_given : MethodName := ⟨RX0, "given", "(II)I"⟩
abbrev cX0_part : ByteArray := prog_2_method_4_code
def yX0_part : MethodName := ⟨RX0, "part", "(II)I"⟩
abbrev cX0_partsAhead : ByteArray := prog_2_method_5_code
def yX0_partsAhead : MethodName := ⟨RX0, "partsAhead", "(I)I"⟩
abbrev cX0_refusalOf : ByteArray := prog_2_method_6_code
def yX0_refusalOf : MethodName := ⟨RX0, "refusalOf", "(IIII)I"⟩
abbrev cX0_isUnknown : ByteArray := prog_2_method_7_code
def yX0_isUnknown : MethodName := ⟨RX0, "isUnknown", "(II)Z"⟩
abbrev cX0_isOutside : ByteArray := prog_2_method_8_code
def yX0_isOutside : MethodName := ⟨RX0, "isOutside", "(II)Z"⟩
abbrev cX0_add : ByteArray := prog_2_method_9_code
def yX0_add : MethodName := ⟨RX0, "add", "(IIII)I"⟩
abbrev cX0_sortParts : ByteArray := prog_2_method_10_code
def yX0_sortParts : MethodName := ⟨RX0, "sortParts", "(II)V"⟩
def RX1 : String := "SideWork$Course"
def TX1 : u_T := fun k => match k with
  | 0 => ("SideWork$Course", "limit", "I", false)
  | 1 => ("SideWork$Course", "steps", "I", false)
  | 2 => ("SideWork$Course", "failures", "I", false)
  | 3 => ("SideWork$Course", "ending", "I", false)
  | 4 => ("SideWork$Course", "code", "I", false)
  | 5 => ("SideWork$Course", "at", "I", false)
  | _ => ("SideWork$Course", "value", "J", false)
def tyX1 : Nat → FieldType := fun k => match k with
  | 0 => .int
  | 1 => .int
  | 2 => .int
  | 3 => .int
  | 4 => .int
  | 5 => .int
  | _ => .long
abbrev wsX10 : List Cond := u_ws RX1 TX1 7
theorem nmX1 : ∀ a, a < 7 → ∀ b, b < 7 → a ≠ b → (TX1 a).2.1 ≠ (TX1 b).2.1 := by decide +kernel
theorem tyX1_ok : ∀ k, k < 7 → parseFieldDescriptor (TX1 k).2.2.1 = some (tyX1 k) := by decide +kernel
abbrev cX1_init : ByteArray := prog_3_method_1_code
def yX1_init : MethodName := ⟨RX1, "<init>", "()V"⟩
abbrev cX1_restart : ByteArray := prog_3_method_2_code
def yX1_restart : MethodName := ⟨RX1, "restart", "(I)V"⟩
abbrev cX1_settle : ByteArray := prog_3_method_3_code
def yX1_settle : MethodName := ⟨RX1, "settle", "()V"⟩
abbrev cX1_goOn : ByteArray := prog_3_method_4_code
def yX1_goOn : MethodName := ⟨RX1, "goOn", "(III)V"⟩
abbrev cX1_end : ByteArray := prog_3_method_5_code
def yX1_end : MethodName := ⟨RX1, "end", "(II)V"⟩
abbrev cX1_arise : ByteArray := prog_3_method_6_code
def yX1_arise : MethodName := ⟨RX1, "arise", "(III)V"⟩
abbrev cX1_takesStep : ByteArray := prog_3_method_7_code
def yX1_takesStep : MethodName := ⟨RX1, "takesStep", "(I)Z"⟩
abbrev cX1_isFailing : ByteArray := prog_3_method_8_code
def yX1_isFailing : MethodName := ⟨RX1, "isFailing", "()Z"⟩
def RX2 : String := "SideWork$Fault"
def TX2 : u_T := fun k => match k with
  | _ => ("", "", "", false)
def tyX2 : Nat → FieldType := fun k => match k with
  | _ => .int
abbrev wsX20 : List Cond := u_ws RX2 TX2 0
theorem nmX2 : ∀ a, a < 0 → ∀ b, b < 0 → a ≠ b → (TX2 a).2.1 ≠ (TX2 b).2.1 := by decide +kernel
theorem tyX2_ok : ∀ k, k < 0 → parseFieldDescriptor (TX2 k).2.2.1 = some (tyX2 k) := by decide +kernel
abbrev cX2_of : ByteArray := prog_4_method_2_code
def yX2_of : MethodName := ⟨RX2, "of", "(IJJJII)I"⟩
abbrev cX2_firstOf : ByteArray := prog_4_method_3_code
def yX2_firstOf : MethodName := ⟨RX2, "firstOf", "(III)I"⟩
abbrev cX2_ofThing : ByteArray := prog_4_method_4_code
def yX2_ofThing : MethodName := ⟨RX2, "ofThing", "(JZ)I"⟩
abbrev cX2_ofWhole : ByteArray := prog_4_method_5_code
def yX2_ofWhole : MethodName := ⟨RX2, "ofWhole", "(J)I"⟩
abbrev cX2_ofLength : ByteArray := prog_4_method_6_code
def yX2_ofLength : MethodName := ⟨RX2, "ofLength", "(I)I"⟩
abbrev cX2_ofPlace : ByteArray := prog_4_method_7_code
def yX2_ofPlace : MethodName := ⟨RX2, "ofPlace", "(II)I"⟩
abbrev cX2_ofWrite : ByteArray := prog_4_method_8_code
def yX2_ofWrite : MethodName := ⟨RX2, "ofWrite", "(JJJI)I"⟩
abbrev cX2_ofCopy : ByteArray := prog_4_method_9_code
def yX2_ofCopy : MethodName := ⟨RX2, "ofCopy", "(JJJI)I"⟩
def RX3 : String := "SideWork$Frames"
def TX3 : u_T := fun k => match k with
  | 0 => ("SideWork$Frames", "slots", "[J", true)
  | _ => ("SideWork$Frames", "made", "I", false)
def tyX3 : Nat → FieldType := fun k => match k with
  | 0 => .array .long
  | _ => .int
abbrev wsX30 : List Cond := u_ws RX3 TX3 2
theorem nmX3 : ∀ a, a < 2 → ∀ b, b < 2 → a ≠ b → (TX3 a).2.1 ≠ (TX3 b).2.1 := by decide +kernel
theorem tyX3_ok : ∀ k, k < 2 → parseFieldDescriptor (TX3 k).2.2.1 = some (tyX3 k) := by decide +kernel
abbrev cX3_init : ByteArray := prog_5_method_1_code
def yX3_init : MethodName := ⟨RX3, "<init>", "()V"⟩
abbrev cX3_restart : ByteArray := prog_5_method_2_code
def yX3_restart : MethodName := ⟨RX3, "restart", "()V"⟩
abbrev cX3_open : ByteArray := prog_5_method_3_code
def yX3_open : MethodName := ⟨RX3, "open", "()I"⟩
abbrev cX3_read : ByteArray := prog_5_method_4_code
def yX3_read : MethodName := ⟨RX3, "read", "(II)J"⟩
abbrev cX3_write : ByteArray := prog_5_method_5_code
def yX3_write : MethodName := ⟨RX3, "write", "(IIJ)V"⟩
abbrev cX3_has : ByteArray := prog_5_method_6_code
def yX3_has : MethodName := ⟨RX3, "has", "(II)Z"⟩
def RX4 : String := "SideWork$Kind"
def TX4 : u_T := fun k => match k with
  | _ => ("", "", "", false)
def tyX4 : Nat → FieldType := fun k => match k with
  | _ => .int
abbrev wsX40 : List Cond := u_ws RX4 TX4 0
theorem nmX4 : ∀ a, a < 0 → ∀ b, b < 0 → a ≠ b → (TX4 a).2.1 ≠ (TX4 b).2.1 := by decide +kernel
theorem tyX4_ok : ∀ k, k < 0 → parseFieldDescriptor (TX4 k).2.2.1 = some (tyX4 k) := by decide +kernel
def RX5 : String := "SideWork$Laters"
def TX5 : u_T := fun k => match k with
  | 0 => ("SideWork$Laters", "acts", "[I", true)
  | 1 => ("SideWork$Laters", "frames", "[I", true)
  | 2 => ("SideWork$Laters", "states", "[I", true)
  | 3 => ("SideWork$Laters", "failures", "[I", true)
  | 4 => ("SideWork$Laters", "codes", "[I", true)
  | 5 => ("SideWork$Laters", "values", "[J", true)
  | _ => ("SideWork$Laters", "made", "I", false)
def tyX5 : Nat → FieldType := fun k => match k with
  | 0 => .array .int
  | 1 => .array .int
  | 2 => .array .int
  | 3 => .array .int
  | 4 => .array .int
  | 5 => .array .long
  | _ => .int
abbrev wsX50 : List Cond := u_ws RX5 TX5 7
theorem nmX5 : ∀ a, a < 7 → ∀ b, b < 7 → a ≠ b → (TX5 a).2.1 ≠ (TX5 b).2.1 := by decide +kernel
theorem tyX5_ok : ∀ k, k < 7 → parseFieldDescriptor (TX5 k).2.2.1 = some (tyX5 k) := by decide +kernel
abbrev cX5_init : ByteArray := prog_7_method_1_code
def yX5_init : MethodName := ⟨RX5, "<init>", "()V"⟩
abbrev cX5_restart : ByteArray := prog_7_method_2_code
def yX5_restart : MethodName := ⟨RX5, "restart", "()V"⟩
abbrev cX5_add : ByteArray := prog_7_method_3_code
def yX5_add : MethodName := ⟨RX5, "add", "(II)J"⟩
abbrev cX5_has : ByteArray := prog_7_method_4_code
def yX5_has : MethodName := ⟨RX5, "has", "(I)Z"⟩
abbrev cX5_actOf : ByteArray := prog_7_method_5_code
def yX5_actOf : MethodName := ⟨RX5, "actOf", "(I)I"⟩
abbrev cX5_frameOf : ByteArray := prog_7_method_6_code
def yX5_frameOf : MethodName := ⟨RX5, "frameOf", "(I)I"⟩
abbrev cX5_stateOf : ByteArray := prog_7_method_7_code
def yX5_stateOf : MethodName := ⟨RX5, "stateOf", "(I)I"⟩
abbrev cX5_failureOf : ByteArray := prog_7_method_8_code
def yX5_failureOf : MethodName := ⟨RX5, "failureOf", "(I)I"⟩
abbrev cX5_codeOf : ByteArray := prog_7_method_9_code
def yX5_codeOf : MethodName := ⟨RX5, "codeOf", "(I)I"⟩
abbrev cX5_valueOf : ByteArray := prog_7_method_10_code
def yX5_valueOf : MethodName := ⟨RX5, "valueOf", "(I)J"⟩
abbrev cX5_setState : ByteArray := prog_7_method_11_code
def yX5_setState : MethodName := ⟨RX5, "setState", "(II)V"⟩
abbrev cX5_finish : ByteArray := prog_7_method_12_code
def yX5_finish : MethodName := ⟨RX5, "finish", "(IJ)V"⟩
abbrev cX5_giveUp : ByteArray := prog_7_method_13_code
def yX5_giveUp : MethodName := ⟨RX5, "giveUp", "(III)V"⟩
def RX6 : String := "SideWork$Machine"
def TX6 : u_T := fun k => match k with
  | 0 => ("SideWork$Machine", "acts", "LSideWork$Acts;", true)
  | 1 => ("SideWork$Machine", "memory", "LSideWork$Memory;", true)
  | 2 => ("SideWork$Machine", "course", "LSideWork$Course;", true)
  | 3 => ("SideWork$Machine", "outRow", "[I", true)
  | 4 => ("SideWork$Machine", "outSize", "I", false)
  | 5 => ("SideWork$Machine", "frames", "LSideWork$Frames;", true)
  | 6 => ("SideWork$Machine", "laters", "LSideWork$Laters;", true)
  | 7 => ("SideWork$Machine", "stack", "LSideWork$Stack;", true)
  | _ => ("SideWork$Machine", "calls", "I", false)
def tyX6 : Nat → FieldType := fun k => match k with
  | 0 => .object "SideWork$Acts"
  | 1 => .object "SideWork$Memory"
  | 2 => .object "SideWork$Course"
  | 3 => .array .int
  | 4 => .int
  | 5 => .object "SideWork$Frames"
  | 6 => .object "SideWork$Laters"
  | 7 => .object "SideWork$Stack"
  | _ => .int
abbrev wsX60 : List Cond := u_ws RX6 TX6 9
theorem nmX6 : ∀ a, a < 9 → ∀ b, b < 9 → a ≠ b → (TX6 a).2.1 ≠ (TX6 b).2.1 := by decide +kernel
theorem tyX6_ok : ∀ k, k < 9 → parseFieldDescriptor (TX6 k).2.2.1 = some (tyX6 k) := by decide +kernel
abbrev cX6_init : ByteArray := prog_8_method_1_code
def yX6_init : MethodName := ⟨RX6, "<init>", "(LSideWork$Acts;)V"⟩
abbrev cX6_restart : ByteArray := prog_8_method_2_code
def yX6_restart : MethodName := ⟨RX6, "restart", "(I)V"⟩
abbrev cX6_perform : ByteArray := prog_8_method_3_code
def yX6_perform : MethodName := ⟨RX6, "perform", "(II)V"⟩
abbrev cX6_begin : ByteArray := prog_8_method_4_code
def yX6_begin : MethodName := ⟨RX6, "begin", "(II)V"⟩
abbrev cX6_beginPart : ByteArray := prog_8_method_5_code
def yX6_beginPart : MethodName := ⟨RX6, "beginPart", "(I)V"⟩
abbrev cX6_give : ByteArray := prog_8_method_6_code
def yX6_give : MethodName := ⟨RX6, "give", "(J)V"⟩
abbrev cX6_fail : ByteArray := prog_8_method_7_code
def yX6_fail : MethodName := ⟨RX6, "fail", "(II)V"⟩
abbrev cX6_endRun : ByteArray := prog_8_method_8_code
def yX6_endRun : MethodName := ⟨RX6, "endRun", "(I)V"⟩
abbrev cX6_comesToWork : ByteArray := prog_8_method_9_code
def yX6_comesToWork : MethodName := ⟨RX6, "comesToWork", "()Z"⟩
abbrev cX6_isStopped : ByteArray := prog_8_method_10_code
def yX6_isStopped : MethodName := ⟨RX6, "isStopped", "(I)Z"⟩
abbrev cX6_work : ByteArray := prog_8_method_11_code
def yX6_work : MethodName := ⟨RX6, "work", "()V"⟩
abbrev cX6_keep : ByteArray := prog_8_method_12_code
def yX6_keep : MethodName := ⟨RX6, "keep", "()V"⟩
abbrev cX6_doAlways : ByteArray := prog_8_method_13_code
def yX6_doAlways : MethodName := ⟨RX6, "doAlways", "()V"⟩
abbrev cX6_choose : ByteArray := prog_8_method_14_code
def yX6_choose : MethodName := ⟨RX6, "choose", "()V"⟩
abbrev cX6_loop : ByteArray := prog_8_method_15_code
def yX6_loop : MethodName := ⟨RX6, "loop", "()V"⟩
abbrev cX6_askAgain : ByteArray := prog_8_method_16_code
def yX6_askAgain : MethodName := ⟨RX6, "askAgain", "()V"⟩
abbrev cX6_call : ByteArray := prog_8_method_17_code
def yX6_call : MethodName := ⟨RX6, "call", "()V"⟩
abbrev cX6_enter : ByteArray := prog_8_method_18_code
def yX6_enter : MethodName := ⟨RX6, "enter", "(I)V"⟩
abbrev cX6_delay : ByteArray := prog_8_method_19_code
def yX6_delay : MethodName := ⟨RX6, "delay", "()V"⟩
abbrev cX6_force : ByteArray := prog_8_method_20_code
def yX6_force : MethodName := ⟨RX6, "force", "(I)V"⟩
abbrev cX6_workLater : ByteArray := prog_8_method_21_code
def yX6_workLater : MethodName := ⟨RX6, "workLater", "(I)V"⟩
abbrev cX6_copy : ByteArray := prog_8_method_22_code
def yX6_copy : MethodName := ⟨RX6, "copy", "()V"⟩
abbrev cX6_workPlainly : ByteArray := prog_8_method_23_code
def yX6_workPlainly : MethodName := ⟨RX6, "workPlainly", "(I)V"⟩
abbrev cX6_reckon : ByteArray := prog_8_method_24_code
def yX6_reckon : MethodName := ⟨RX6, "reckon", "(IIJJ)J"⟩
abbrev cX6_change : ByteArray := prog_8_method_25_code
def yX6_change : MethodName := ⟨RX6, "change", "(IIJJJ)J"⟩
abbrev cX6_put : ByteArray := prog_8_method_26_code
def yX6_put : MethodName := ⟨RX6, "put", "(IJ)J"⟩
abbrev cX6_tell : ByteArray := prog_8_method_27_code
def yX6_tell : MethodName := ⟨RX6, "tell", "(J)J"⟩
abbrev cX6_leave : ByteArray := prog_8_method_28_code
def yX6_leave : MethodName := ⟨RX6, "leave", "()V"⟩
abbrev cX6_isCaught : ByteArray := prog_8_method_29_code
def yX6_isCaught : MethodName := ⟨RX6, "isCaught", "()Z"⟩
abbrev cX6_takeUp : ByteArray := prog_8_method_30_code
def yX6_takeUp : MethodName := ⟨RX6, "takeUp", "()V"⟩
abbrev cX6_leaveLater : ByteArray := prog_8_method_31_code
def yX6_leaveLater : MethodName := ⟨RX6, "leaveLater", "(I)V"⟩
def RX7 : String := "SideWork$Memory"
def TX7 : u_T := fun k => match k with
  | 0 => ("SideWork$Memory", "cells", "[J", true)
  | 1 => ("SideWork$Memory", "changedCells", "[I", true)
  | 2 => ("SideWork$Memory", "changedFrom", "[J", true)
  | 3 => ("SideWork$Memory", "used", "I", false)
  | _ => ("SideWork$Memory", "changes", "I", false)
def tyX7 : Nat → FieldType := fun k => match k with
  | 0 => .array .long
  | 1 => .array .int
  | 2 => .array .long
  | 3 => .int
  | _ => .int
abbrev wsX70 : List Cond := u_ws RX7 TX7 5
theorem nmX7 : ∀ a, a < 5 → ∀ b, b < 5 → a ≠ b → (TX7 a).2.1 ≠ (TX7 b).2.1 := by decide +kernel
theorem tyX7_ok : ∀ k, k < 5 → parseFieldDescriptor (TX7 k).2.2.1 = some (tyX7 k) := by decide +kernel
abbrev cX7_init : ByteArray := prog_9_method_1_code
def yX7_init : MethodName := ⟨RX7, "<init>", "()V"⟩
abbrev cX7_isBox : ByteArray := prog_9_method_2_code
def yX7_isBox : MethodName := ⟨RX7, "isBox", "(I)Z"⟩
abbrev cX7_cellOf : ByteArray := prog_9_method_3_code
def yX7_cellOf : MethodName := ⟨RX7, "cellOf", "(JI)I"⟩
abbrev cX7_restart : ByteArray := prog_9_method_4_code
def yX7_restart : MethodName := ⟨RX7, "restart", "()V"⟩
abbrev cX7_newRow : ByteArray := prog_9_method_5_code
def yX7_newRow : MethodName := ⟨RX7, "newRow", "(II)J"⟩
abbrev cX7_newLink : ByteArray := prog_9_method_6_code
def yX7_newLink : MethodName := ⟨RX7, "newLink", "(IJ)J"⟩
abbrev cX7_read : ByteArray := prog_9_method_7_code
def yX7_read : MethodName := ⟨RX7, "read", "(I)J"⟩
abbrev cX7_write : ByteArray := prog_9_method_8_code
def yX7_write : MethodName := ⟨RX7, "write", "(IJ)V"⟩
abbrev cX7_copied : ByteArray := prog_9_method_9_code
def yX7_copied : MethodName := ⟨RX7, "copied", "(JJI)Z"⟩
abbrev cX7_changesSoFar : ByteArray := prog_9_method_10_code
def yX7_changesSoFar : MethodName := ⟨RX7, "changesSoFar", "()I"⟩
abbrev cX7_undoBackTo : ByteArray := prog_9_method_11_code
def yX7_undoBackTo : MethodName := ⟨RX7, "undoBackTo", "(I)V"⟩
abbrev cX7_lengthOf : ByteArray := prog_9_method_12_code
def yX7_lengthOf : MethodName := ⟨RX7, "lengthOf", "(J)I"⟩
abbrev cX7_measure : ByteArray := prog_9_method_13_code
def yX7_measure : MethodName := ⟨RX7, "measure", "(J)I"⟩
def RX8 : String := "SideWork$Stack"
def TX8 : u_T := fun k => match k with
  | 0 => ("SideWork$Stack", "acts", "[I", true)
  | 1 => ("SideWork$Stack", "frames", "[I", true)
  | 2 => ("SideWork$Stack", "stages", "[I", true)
  | 3 => ("SideWork$Stack", "partValues", "[J", true)
  | 4 => ("SideWork$Stack", "marks", "[I", true)
  | 5 => ("SideWork$Stack", "heldFailures", "[I", true)
  | 6 => ("SideWork$Stack", "heldCodes", "[I", true)
  | 7 => ("SideWork$Stack", "heldAts", "[I", true)
  | 8 => ("SideWork$Stack", "height", "I", false)
  | _ => ("SideWork$Stack", "top", "I", false)
def tyX8 : Nat → FieldType := fun k => match k with
  | 0 => .array .int
  | 1 => .array .int
  | 2 => .array .int
  | 3 => .array .long
  | 4 => .array .int
  | 5 => .array .int
  | 6 => .array .int
  | 7 => .array .int
  | 8 => .int
  | _ => .int
abbrev wsX80 : List Cond := u_ws RX8 TX8 10
theorem nmX8 : ∀ a, a < 10 → ∀ b, b < 10 → a ≠ b → (TX8 a).2.1 ≠ (TX8 b).2.1 := by decide +kernel
theorem tyX8_ok : ∀ k, k < 10 → parseFieldDescriptor (TX8 k).2.2.1 = some (tyX8 k) := by decide +kernel
abbrev cX8_init : ByteArray := prog_10_method_1_code
def yX8_init : MethodName := ⟨RX8, "<init>", "()V"⟩
abbrev cX8_restart : ByteArray := prog_10_method_2_code
def yX8_restart : MethodName := ⟨RX8, "restart", "()V"⟩
abbrev cX8_isEmpty : ByteArray := prog_10_method_3_code
def yX8_isEmpty : MethodName := ⟨RX8, "isEmpty", "()Z"⟩
abbrev cX8_push : ByteArray := prog_10_method_4_code
def yX8_push : MethodName := ⟨RX8, "push", "(III)V"⟩
abbrev cX8_pop : ByteArray := prog_10_method_5_code
def yX8_pop : MethodName := ⟨RX8, "pop", "()V"⟩
abbrev cX8_actOnTop : ByteArray := prog_10_method_6_code
def yX8_actOnTop : MethodName := ⟨RX8, "actOnTop", "()I"⟩
abbrev cX8_frame : ByteArray := prog_10_method_7_code
def yX8_frame : MethodName := ⟨RX8, "frame", "()I"⟩
abbrev cX8_stage : ByteArray := prog_10_method_8_code
def yX8_stage : MethodName := ⟨RX8, "stage", "()I"⟩
abbrev cX8_setStage : ByteArray := prog_10_method_9_code
def yX8_setStage : MethodName := ⟨RX8, "setStage", "(I)V"⟩
abbrev cX8_take : ByteArray := prog_10_method_10_code
def yX8_take : MethodName := ⟨RX8, "take", "(J)V"⟩
abbrev cX8_value : ByteArray := prog_10_method_11_code
def yX8_value : MethodName := ⟨RX8, "value", "(I)J"⟩
abbrev cX8_mark : ByteArray := prog_10_method_12_code
def yX8_mark : MethodName := ⟨RX8, "mark", "()I"⟩
abbrev cX8_hold : ByteArray := prog_10_method_13_code
def yX8_hold : MethodName := ⟨RX8, "hold", "(LSideWork$Course;)V"⟩
abbrev cX8_holdsFailure : ByteArray := prog_10_method_14_code
def yX8_holdsFailure : MethodName := ⟨RX8, "holdsFailure", "()Z"⟩
abbrev cX8_letGo : ByteArray := prog_10_method_15_code
def yX8_letGo : MethodName := ⟨RX8, "letGo", "(LSideWork$Course;)V"⟩
def RX9 : String := "SideWork$Value"
def TX9 : u_T := fun k => match k with
  | _ => ("", "", "", false)
def tyX9 : Nat → FieldType := fun k => match k with
  | _ => .int
abbrev wsX90 : List Cond := u_ws RX9 TX9 0
theorem nmX9 : ∀ a, a < 0 → ∀ b, b < 0 → a ≠ b → (TX9 a).2.1 ≠ (TX9 b).2.1 := by decide +kernel
theorem tyX9_ok : ∀ k, k < 0 → parseFieldDescriptor (TX9 k).2.2.1 = some (tyX9 k) := by decide +kernel
abbrev cX9_of : ByteArray := prog_11_method_2_code
def yX9_of : MethodName := ⟨RX9, "of", "(II)J"⟩
abbrev cX9_whole : ByteArray := prog_11_method_3_code
def yX9_whole : MethodName := ⟨RX9, "whole", "(I)J"⟩
abbrev cX9_truth : ByteArray := prog_11_method_4_code
def yX9_truth : MethodName := ⟨RX9, "truth", "(Z)J"⟩
abbrev cX9_sort : ByteArray := prog_11_method_5_code
def yX9_sort : MethodName := ⟨RX9, "sort", "(J)I"⟩
abbrev cX9_number : ByteArray := prog_11_method_6_code
def yX9_number : MethodName := ⟨RX9, "number", "(J)I"⟩
abbrev cX9_isRow : ByteArray := prog_11_method_7_code
def yX9_isRow : MethodName := ⟨RX9, "isRow", "(J)Z"⟩
abbrev cX9_isRowForLinks : ByteArray := prog_11_method_8_code
def yX9_isRowForLinks : MethodName := ⟨RX9, "isRowForLinks", "(J)Z"⟩
abbrev cX9_isLink : ByteArray := prog_11_method_9_code
def yX9_isLink : MethodName := ⟨RX9, "isLink", "(J)Z"⟩
abbrev cX9_isLinkOrNothing : ByteArray := prog_11_method_10_code
def yX9_isLinkOrNothing : MethodName := ⟨RX9, "isLinkOrNothing", "(J)Z"⟩
abbrev cX9_isStrange : ByteArray := prog_11_method_11_code
def yX9_isStrange : MethodName := ⟨RX9, "isStrange", "(JJ)Z"⟩
def RX10 : String := "SideWork"
def TX10 : u_T := fun k => match k with
  | 0 => ("SideWork", "acts", "LSideWork$Acts;", true)
  | 1 => ("SideWork", "machine", "LSideWork$Machine;", true)
  | _ => ("SideWork", "runs", "I", false)
def tyX10 : Nat → FieldType := fun k => match k with
  | 0 => .object "SideWork$Acts"
  | 1 => .object "SideWork$Machine"
  | _ => .int
abbrev wsX100 : List Cond := u_ws RX10 TX10 3
theorem nmX10 : ∀ a, a < 3 → ∀ b, b < 3 → a ≠ b → (TX10 a).2.1 ≠ (TX10 b).2.1 := by decide +kernel
theorem tyX10_ok : ∀ k, k < 3 → parseFieldDescriptor (TX10 k).2.2.1 = some (tyX10 k) := by decide +kernel
abbrev cX10_init : ByteArray := prog_1_method_1_code
def yX10_init : MethodName := ⟨RX10, "<init>", "()V"⟩
abbrev cX10_act : ByteArray := prog_1_method_2_code
def yX10_act : MethodName := ⟨RX10, "act", "(IIII)I"⟩
abbrev cX10_told : ByteArray := prog_1_method_3_code
def yX10_told : MethodName := ⟨RX10, "told", "(II)I"⟩
abbrev cX10_run : ByteArray := prog_1_method_4_code
def yX10_run : MethodName := ⟨RX10, "run", "(II)I"⟩
abbrev cX10_ended : ByteArray := prog_1_method_5_code
def yX10_ended : MethodName := ⟨RX10, "ended", "(I)I"⟩
abbrev cX10_gave : ByteArray := prog_1_method_6_code
def yX10_gave : MethodName := ⟨RX10, "gave", "()I"⟩
abbrev cX10_place : ByteArray := prog_1_method_7_code
def yX10_place : MethodName := ⟨RX10, "place", "(I)I"⟩
abbrev cX10_box : ByteArray := prog_1_method_8_code
def yX10_box : MethodName := ⟨RX10, "box", "(I)I"⟩
abbrev cX10_boxed : ByteArray := prog_1_method_9_code
def yX10_boxed : MethodName := ⟨RX10, "boxed", "(I)I"⟩
abbrev cX10_same : ByteArray := prog_1_method_10_code
def yX10_same : MethodName := ⟨RX10, "same", "(II)I"⟩
abbrev cX10_out : ByteArray := prog_1_method_11_code
def yX10_out : MethodName := ⟨RX10, "out", "(I)I"⟩
abbrev cX10_count : ByteArray := prog_1_method_12_code
def yX10_count : MethodName := ⟨RX10, "count", "(I)I"⟩
abbrev cX10_clear : ByteArray := prog_1_method_13_code
def yX10_clear : MethodName := ⟨RX10, "clear", "()I"⟩
def RX11 : String := "SideWorkModel"
def TX11 : u_T := fun k => match k with
  | 0 => ("SideWorkModel", "acts", "I", false)
  | 1 => ("SideWorkModel", "kind", "[I", true)
  | 2 => ("SideWorkModel", "argA", "[I", true)
  | 3 => ("SideWorkModel", "argB", "[I", true)
  | 4 => ("SideWorkModel", "argC", "[I", true)
  | 5 => ("SideWorkModel", "runs", "I", false)
  | 6 => ("SideWorkModel", "things", "I", false)
  | 7 => ("SideWorkModel", "thingSize", "[I", true)
  | 8 => ("SideWorkModel", "placeType", "[I", true)
  | 9 => ("SideWorkModel", "placeNumber", "[I", true)
  | 10 => ("SideWorkModel", "laterAct", "[I", true)
  | 11 => ("SideWorkModel", "laterFrame", "[I", true)
  | 12 => ("SideWorkModel", "laterState", "[I", true)
  | 13 => ("SideWorkModel", "laterType", "[I", true)
  | 14 => ("SideWorkModel", "laterNumber", "[I", true)
  | 15 => ("SideWorkModel", "frames", "I", false)
  | 16 => ("SideWorkModel", "slotType", "[I", true)
  | 17 => ("SideWorkModel", "slotNumber", "[I", true)
  | 18 => ("SideWorkModel", "boxType", "[I", true)
  | 19 => ("SideWorkModel", "boxNumber", "[I", true)
  | 20 => ("SideWorkModel", "changes", "I", false)
  | 21 => ("SideWorkModel", "changed", "[I", true)
  | 22 => ("SideWorkModel", "wasType", "[I", true)
  | 23 => ("SideWorkModel", "wasNumber", "[I", true)
  | 24 => ("SideWorkModel", "tolds", "I", false)
  | 25 => ("SideWorkModel", "toldRow", "[I", true)
  | 26 => ("SideWorkModel", "top", "I", false)
  | 27 => ("SideWorkModel", "sAct", "[I", true)
  | 28 => ("SideWorkModel", "sPhase", "[I", true)
  | 29 => ("SideWorkModel", "sFrame", "[I", true)
  | 30 => ("SideWorkModel", "sTypeX", "[I", true)
  | 31 => ("SideWorkModel", "sNumberX", "[I", true)
  | 32 => ("SideWorkModel", "sTypeY", "[I", true)
  | 33 => ("SideWorkModel", "sNumberY", "[I", true)
  | 34 => ("SideWorkModel", "sMark", "[I", true)
  | 35 => ("SideWorkModel", "sAt", "[I", true)
  | 36 => ("SideWorkModel", "mode", "I", false)
  | 37 => ("SideWorkModel", "nowAct", "I", false)
  | 38 => ("SideWorkModel", "nowFrame", "I", false)
  | 39 => ("SideWorkModel", "vType", "I", false)
  | 40 => ("SideWorkModel", "vNumber", "I", false)
  | 41 => ("SideWorkModel", "fKind", "I", false)
  | 42 => ("SideWorkModel", "fCode", "I", false)
  | 43 => ("SideWorkModel", "fAt", "I", false)
  | 44 => ("SideWorkModel", "failures", "I", false)
  | 45 => ("SideWorkModel", "steps", "I", false)
  | 46 => ("SideWorkModel", "most", "I", false)
  | 47 => ("SideWorkModel", "deep", "I", false)
  | 48 => ("SideWorkModel", "gaveType", "I", false)
  | 49 => ("SideWorkModel", "gaveNumber", "I", false)
  | 50 => ("SideWorkModel", "endKind", "I", false)
  | 51 => ("SideWorkModel", "endCode", "I", false)
  | 52 => ("SideWorkModel", "endAt", "I", false)
  | 53 => ("SideWorkModel", "endSteps", "I", false)
  | 54 => ("SideWorkModel", "endFailures", "I", false)
  | _ => ("SideWorkModel", "thrown", "I", false)
def tyX11 : Nat → FieldType := fun k => match k with
  | 0 => .int
  | 1 => .array .int
  | 2 => .array .int
  | 3 => .array .int
  | 4 => .array .int
  | 5 => .int
  | 6 => .int
  | 7 => .array .int
  | 8 => .array .int
  | 9 => .array .int
  | 10 => .array .int
  | 11 => .array .int
  | 12 => .array .int
  | 13 => .array .int
  | 14 => .array .int
  | 15 => .int
  | 16 => .array .int
  | 17 => .array .int
  | 18 => .array .int
  | 19 => .array .int
  | 20 => .int
  | 21 => .array .int
  | 22 => .array .int
  | 23 => .array .int
  | 24 => .int
  | 25 => .array .int
  | 26 => .int
  | 27 => .array .int
  | 28 => .array .int
  | 29 => .array .int
  | 30 => .array .int
  | 31 => .array .int
  | 32 => .array .int
  | 33 => .array .int
  | 34 => .array .int
  | 35 => .array .int
  | 36 => .int
  | 37 => .int
  | 38 => .int
  | 39 => .int
  | 40 => .int
  | 41 => .int
  | 42 => .int
  | 43 => .int
  | 44 => .int
  | 45 => .int
  | 46 => .int
  | 47 => .int
  | 48 => .int
  | 49 => .int
  | 50 => .int
  | 51 => .int
  | 52 => .int
  | 53 => .int
  | 54 => .int
  | _ => .int
abbrev wsX110 : List Cond := u_ws RX11 TX11 56
theorem nmX11 : ∀ a, a < 56 → ∀ b, b < 56 → a ≠ b → (TX11 a).2.1 ≠ (TX11 b).2.1 := by decide +kernel
theorem tyX11_ok : ∀ k, k < 56 → parseFieldDescriptor (TX11 k).2.2.1 = some (tyX11 k) := by decide +kernel
abbrev cX11_init : ByteArray := prog_13_method_1_code
def yX11_init : MethodName := ⟨RX11, "<init>", "()V"⟩
abbrev cX11_in : ByteArray := prog_13_method_2_code
def yX11_in : MethodName := ⟨RX11, "in", "(III)Z"⟩
abbrev cX11_noAct : ByteArray := prog_13_method_3_code
def yX11_noAct : MethodName := ⟨RX11, "noAct", "(I)Z"⟩
abbrev cX11_actsOf : ByteArray := prog_13_method_4_code
def yX11_actsOf : MethodName := ⟨RX11, "actsOf", "(I)I"⟩
abbrev cX11_act : ByteArray := prog_13_method_5_code
def yX11_act : MethodName := ⟨RX11, "act", "(IIII)I"⟩
abbrev cX11_told : ByteArray := prog_13_method_6_code
def yX11_told : MethodName := ⟨RX11, "told", "(II)I"⟩
abbrev cX11_value : ByteArray := prog_13_method_7_code
def yX11_value : MethodName := ⟨RX11, "value", "(II)V"⟩
abbrev cX11_start : ByteArray := prog_13_method_8_code
def yX11_start : MethodName := ⟨RX11, "start", "(II)V"⟩
abbrev cX11_finish : ByteArray := prog_13_method_9_code
def yX11_finish : MethodName := ⟨RX11, "finish", "(II)V"⟩
abbrev cX11_fail : ByteArray := prog_13_method_10_code
def yX11_fail : MethodName := ⟨RX11, "fail", "(III)V"⟩
abbrev cX11_newThing : ByteArray := prog_13_method_11_code
def yX11_newThing : MethodName := ⟨RX11, "newThing", "(I)I"⟩
abbrev cX11_newFrame : ByteArray := prog_13_method_12_code
def yX11_newFrame : MethodName := ⟨RX11, "newFrame", "()I"⟩
abbrev cX11_write : ByteArray := prog_13_method_13_code
def yX11_write : MethodName := ⟨RX11, "write", "(III)V"⟩
abbrev cX11_back : ByteArray := prog_13_method_14_code
def yX11_back : MethodName := ⟨RX11, "back", "(I)V"⟩
abbrev cX11_begin : ByteArray := prog_13_method_15_code
def yX11_begin : MethodName := ⟨RX11, "begin", "()V"⟩
abbrev cX11_keepX : ByteArray := prog_13_method_16_code
def yX11_keepX : MethodName := ⟨RX11, "keepX", "(I)V"⟩
abbrev cX11_keepY : ByteArray := prog_13_method_17_code
def yX11_keepY : MethodName := ⟨RX11, "keepY", "(I)V"⟩
abbrev cX11_isWhole : ByteArray := prog_13_method_18_code
def yX11_isWhole : MethodName := ⟨RX11, "isWhole", "(II)Z"⟩
abbrev cX11_failBy : ByteArray := prog_13_method_19_code
def yX11_failBy : MethodName := ⟨RX11, "failBy", "(II)V"⟩
abbrev cX11_up : ByteArray := prog_13_method_20_code
def yX11_up : MethodName := ⟨RX11, "up", "()V"⟩
abbrev cX11_upOf : ByteArray := prog_13_method_21_code
def yX11_upOf : MethodName := ⟨RX11, "upOf", "(IIIII)V"⟩
abbrev cX11_upLater : ByteArray := prog_13_method_22_code
def yX11_upLater : MethodName := ⟨RX11, "upLater", "(IIIII)V"⟩
abbrev cX11_upLoop : ByteArray := prog_13_method_23_code
def yX11_upLoop : MethodName := ⟨RX11, "upLoop", "(IIII)V"⟩
abbrev cX11_upCall : ByteArray := prog_13_method_24_code
def yX11_upCall : MethodName := ⟨RX11, "upCall", "(III)V"⟩
abbrev cX11_upWork : ByteArray := prog_13_method_25_code
def yX11_upWork : MethodName := ⟨RX11, "upWork", "(III)V"⟩
abbrev cX11_reckon : ByteArray := prog_13_method_26_code
def yX11_reckon : MethodName := ⟨RX11, "reckon", "(IIII)V"⟩
abbrev cX11_makeRow : ByteArray := prog_13_method_27_code
def yX11_makeRow : MethodName := ⟨RX11, "makeRow", "(II)V"⟩
abbrev cX11_isRow : ByteArray := prog_13_method_28_code
def yX11_isRow : MethodName := ⟨RX11, "isRow", "(I)Z"⟩
abbrev cX11_isRowHere : ByteArray := prog_13_method_29_code
def yX11_isRowHere : MethodName := ⟨RX11, "isRowHere", "(II)Z"⟩
abbrev cX11_isLink : ByteArray := prog_13_method_30_code
def yX11_isLink : MethodName := ⟨RX11, "isLink", "(II)Z"⟩
abbrev cX11_readPlace : ByteArray := prog_13_method_31_code
def yX11_readPlace : MethodName := ⟨RX11, "readPlace", "(III)V"⟩
abbrev cX11_writePlace : ByteArray := prog_13_method_32_code
def yX11_writePlace : MethodName := ⟨RX11, "writePlace", "(II)V"⟩
abbrev cX11_copyPlaces : ByteArray := prog_13_method_33_code
def yX11_copyPlaces : MethodName := ⟨RX11, "copyPlaces", "(II)V"⟩
abbrev cX11_upFailure : ByteArray := prog_13_method_34_code
def yX11_upFailure : MethodName := ⟨RX11, "upFailure", "()V"⟩
abbrev cX11_leave : ByteArray := prog_13_method_35_code
def yX11_leave : MethodName := ⟨RX11, "leave", "(IIII)V"⟩
abbrev cX11_run : ByteArray := prog_13_method_36_code
def yX11_run : MethodName := ⟨RX11, "run", "(II)I"⟩
abbrev cX11_ended : ByteArray := prog_13_method_37_code
def yX11_ended : MethodName := ⟨RX11, "ended", "(I)I"⟩
abbrev cX11_numberOf : ByteArray := prog_13_method_38_code
def yX11_numberOf : MethodName := ⟨RX11, "numberOf", "(II)I"⟩
abbrev cX11_gave : ByteArray := prog_13_method_39_code
def yX11_gave : MethodName := ⟨RX11, "gave", "()I"⟩
abbrev cX11_thrown : ByteArray := prog_13_method_40_code
def yX11_thrown : MethodName := ⟨RX11, "thrown", "()I"⟩
abbrev cX11_place : ByteArray := prog_13_method_41_code
def yX11_place : MethodName := ⟨RX11, "place", "(I)I"⟩
abbrev cX11_box : ByteArray := prog_13_method_42_code
def yX11_box : MethodName := ⟨RX11, "box", "(I)I"⟩
abbrev cX11_boxed : ByteArray := prog_13_method_43_code
def yX11_boxed : MethodName := ⟨RX11, "boxed", "(I)I"⟩
abbrev cX11_same : ByteArray := prog_13_method_44_code
def yX11_same : MethodName := ⟨RX11, "same", "(II)I"⟩
abbrev cX11_out : ByteArray := prog_13_method_45_code
def yX11_out : MethodName := ⟨RX11, "out", "(I)I"⟩
abbrev cX11_count : ByteArray := prog_13_method_46_code
def yX11_count : MethodName := ⟨RX11, "count", "(I)I"⟩
abbrev cX11_clear : ByteArray := prog_13_method_47_code
def yX11_clear : MethodName := ⟨RX11, "clear", "()I"⟩
def RJx00060 : String := "java/lang/ArrayIndexOutOfBoundsException"
def TJx00060 : u_T := fun k => match k with
  | 0 => ("java/lang/Throwable", "backtrace", "Ljava/lang/Object;", false)
  | 1 => ("java/lang/Throwable", "detailMessage", "Ljava/lang/String;", false)
  | 2 => ("java/lang/Throwable", "cause", "Ljava/lang/Throwable;", false)
  | 3 => ("java/lang/Throwable", "stackTrace", "[Ljava/lang/StackTraceElement;", false)
  | 4 => ("java/lang/Throwable", "depth", "I", false)
  | _ => ("java/lang/Throwable", "suppressedExceptions", "Ljava/util/List;", false)
def tyJx00060 : Nat → FieldType := fun k => match k with
  | 0 => .object "java/lang/Object"
  | 1 => .object "java/lang/String"
  | 2 => .object "java/lang/Throwable"
  | 3 => .array (.object "java/lang/StackTraceElement")
  | 4 => .int
  | _ => .object "java/util/List"
abbrev wsJx000600 : List Cond := u_ws RJx00060 TJx00060 6
theorem nmJx00060 : ∀ a, a < 6 → ∀ b, b < 6 → a ≠ b → (TJx00060 a).2.1 ≠ (TJx00060 b).2.1 := by decide +kernel
theorem tyJx00060_ok : ∀ k, k < 6 → parseFieldDescriptor (TJx00060 k).2.2.1 = some (tyJx00060 k) := by decide +kernel
abbrev cJx00060_init_a7421 : ByteArray := prog_14_method_2_code
def yJx00060_init_a7421 : MethodName := ⟨RJx00060, "<init>", "(Ljava/lang/String;)V"⟩
def RJ9 : String := "java/lang/Math"
def TJ9 : u_T := fun k => match k with
  | _ => ("", "", "", false)
def tyJ9 : Nat → FieldType := fun k => match k with
  | _ => .int
abbrev wsJ90 : List Cond := u_ws RJ9 TJ9 0
theorem nmJ9 : ∀ a, a < 0 → ∀ b, b < 0 → a ≠ b → (TJ9 a).2.1 ≠ (TJ9 b).2.1 := by decide +kernel
theorem tyJ9_ok : ∀ k, k < 0 → parseFieldDescriptor (TJ9 k).2.2.1 = some (tyJ9 k) := by decide +kernel
abbrev cJ9_min_7cf53 : ByteArray := prog_17_method_69_code
def yJ9_min_7cf53 : MethodName := ⟨RJ9, "min", "(II)I"⟩
def RJ0 : String := "java/lang/String"
def TJ0 : u_T := fun k => match k with
  | 0 => ("java/lang/String", "value", "[B", true)
  | _ => ("java/lang/String", "coder", "B", true)
def tyJ0 : Nat → FieldType := fun k => match k with
  | 0 => .array .byte
  | _ => .byte
abbrev wsJ00 : List Cond := u_ws RJ0 TJ0 2
theorem nmJ0 : ∀ a, a < 2 → ∀ b, b < 2 → a ≠ b → (TJ0 a).2.1 ≠ (TJ0 b).2.1 := by decide +kernel
theorem tyJ0_ok : ∀ k, k < 2 → parseFieldDescriptor (TJ0 k).2.2.1 = some (tyJ0 k) := by decide +kernel
def RL : String := "SideWorkLaw"
abbrev cL_place : ByteArray := method_3_code
def yL_place : MethodName := ⟨RL, "place", "(LSideWork;I[J)I"⟩
abbrev cL_law : ByteArray := code
def yL_law : MethodName := ⟨RL, "law", "([I)Z"⟩
