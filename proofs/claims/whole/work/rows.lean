section
-- ===== PART A: goes FIRST, ahead of the names: the tables' words, and 'selects' of the private methods out of them =====
/-- a private method of a class that the tables say can be made, by its rows of tables_1 -/
def lw_okq (q : MethodName × Nat) : Prop := (q.1.cls ≠ "java/lang/invoke/MethodHandle" ∧ q.1.cls ≠ "java/lang/invoke/VarHandle") ∧ Cond.instantiable q.1.cls q.2 ∈ tables_1 ∧ Cond.privateMethod q.1 ∈ tables_1 ∧ Cond.instanceMethod q.1 ∈ tables_1
theorem lw_p0 : lw_okq (⟨"SideWork$Acts", "isUnknown", "(II)Z"⟩, 4) := ⟨⟨by decide +kernel, by decide +kernel⟩, List.mem_of_getElem? (i := 28) (by decide +kernel), List.mem_of_getElem? (i := 266) (by decide +kernel), List.mem_of_getElem? (i := 267) (by decide +kernel)⟩
theorem lw_p1 : lw_okq (⟨"SideWork$Acts", "isOutside", "(II)Z"⟩, 4) := ⟨⟨by decide +kernel, by decide +kernel⟩, List.mem_of_getElem? (i := 28) (by decide +kernel), List.mem_of_getElem? (i := 274) (by decide +kernel), List.mem_of_getElem? (i := 275) (by decide +kernel)⟩
theorem lw_p2 : lw_okq (⟨"SideWork$Acts", "sortParts", "(II)V"⟩, 4) := ⟨⟨by decide +kernel, by decide +kernel⟩, List.mem_of_getElem? (i := 28) (by decide +kernel), List.mem_of_getElem? (i := 284) (by decide +kernel), List.mem_of_getElem? (i := 285) (by decide +kernel)⟩
theorem lw_p3 : lw_okq (⟨"SideWork$Machine", "begin", "(II)V"⟩, 9) := ⟨⟨by decide +kernel, by decide +kernel⟩, List.mem_of_getElem? (i := 49) (by decide +kernel), List.mem_of_getElem? (i := 328) (by decide +kernel), List.mem_of_getElem? (i := 329) (by decide +kernel)⟩
theorem lw_p4 : lw_okq (⟨"SideWork$Machine", "leave", "()V"⟩, 9) := ⟨⟨by decide +kernel, by decide +kernel⟩, List.mem_of_getElem? (i := 49) (by decide +kernel), List.mem_of_getElem? (i := 349) (by decide +kernel), List.mem_of_getElem? (i := 350) (by decide +kernel)⟩
theorem lw_p5 : lw_okq (⟨"SideWork$Machine", "isCaught", "()Z"⟩, 9) := ⟨⟨by decide +kernel, by decide +kernel⟩, List.mem_of_getElem? (i := 49) (by decide +kernel), List.mem_of_getElem? (i := 366) (by decide +kernel), List.mem_of_getElem? (i := 367) (by decide +kernel)⟩
theorem lw_p6 : lw_okq (⟨"SideWork$Machine", "takeUp", "()V"⟩, 9) := ⟨⟨by decide +kernel, by decide +kernel⟩, List.mem_of_getElem? (i := 49) (by decide +kernel), List.mem_of_getElem? (i := 370) (by decide +kernel), List.mem_of_getElem? (i := 371) (by decide +kernel)⟩
theorem lw_p7 : lw_okq (⟨"SideWork$Frames", "has", "(II)Z"⟩, 2) := ⟨⟨by decide +kernel, by decide +kernel⟩, List.mem_of_getElem? (i := 136) (by decide +kernel), List.mem_of_getElem? (i := 386) (by decide +kernel), List.mem_of_getElem? (i := 387) (by decide +kernel)⟩
theorem lw_p8 : lw_okq (⟨"SideWork$Machine", "beginPart", "(I)V"⟩, 9) := ⟨⟨by decide +kernel, by decide +kernel⟩, List.mem_of_getElem? (i := 49) (by decide +kernel), List.mem_of_getElem? (i := 395) (by decide +kernel), List.mem_of_getElem? (i := 396) (by decide +kernel)⟩
theorem lw_p9 : lw_okq (⟨"SideWork$Machine", "leaveLater", "(I)V"⟩, 9) := ⟨⟨by decide +kernel, by decide +kernel⟩, List.mem_of_getElem? (i := 49) (by decide +kernel), List.mem_of_getElem? (i := 415) (by decide +kernel), List.mem_of_getElem? (i := 416) (by decide +kernel)⟩
theorem lw_p10 : lw_okq (⟨"SideWork$Laters", "has", "(I)Z"⟩, 7) := ⟨⟨by decide +kernel, by decide +kernel⟩, List.mem_of_getElem? (i := 149) (by decide +kernel), List.mem_of_getElem? (i := 423) (by decide +kernel), List.mem_of_getElem? (i := 424) (by decide +kernel)⟩
theorem lw_p11 : lw_okq (⟨"SideWork$Machine", "comesToWork", "()Z"⟩, 9) := ⟨⟨by decide +kernel, by decide +kernel⟩, List.mem_of_getElem? (i := 49) (by decide +kernel), List.mem_of_getElem? (i := 443) (by decide +kernel), List.mem_of_getElem? (i := 444) (by decide +kernel)⟩
theorem lw_p12 : lw_okq (⟨"SideWork$Machine", "isStopped", "(I)Z"⟩, 9) := ⟨⟨by decide +kernel, by decide +kernel⟩, List.mem_of_getElem? (i := 49) (by decide +kernel), List.mem_of_getElem? (i := 451) (by decide +kernel), List.mem_of_getElem? (i := 452) (by decide +kernel)⟩
theorem lw_p13 : lw_okq (⟨"SideWork$Machine", "endRun", "(I)V"⟩, 9) := ⟨⟨by decide +kernel, by decide +kernel⟩, List.mem_of_getElem? (i := 49) (by decide +kernel), List.mem_of_getElem? (i := 513) (by decide +kernel), List.mem_of_getElem? (i := 514) (by decide +kernel)⟩
theorem lw_p14 : lw_okq (⟨"SideWork$Machine", "fail", "(II)V"⟩, 9) := ⟨⟨by decide +kernel, by decide +kernel⟩, List.mem_of_getElem? (i := 49) (by decide +kernel), List.mem_of_getElem? (i := 521) (by decide +kernel), List.mem_of_getElem? (i := 522) (by decide +kernel)⟩
theorem lw_p15 : lw_okq (⟨"SideWork$Machine", "work", "()V"⟩, 9) := ⟨⟨by decide +kernel, by decide +kernel⟩, List.mem_of_getElem? (i := 49) (by decide +kernel), List.mem_of_getElem? (i := 529) (by decide +kernel), List.mem_of_getElem? (i := 530) (by decide +kernel)⟩
def lw_privs_1 : List (MethodName × Nat) := [(⟨"SideWork$Acts", "isUnknown", "(II)Z"⟩, 4), (⟨"SideWork$Acts", "isOutside", "(II)Z"⟩, 4), (⟨"SideWork$Acts", "sortParts", "(II)V"⟩, 4), (⟨"SideWork$Machine", "begin", "(II)V"⟩, 9), (⟨"SideWork$Machine", "leave", "()V"⟩, 9), (⟨"SideWork$Machine", "isCaught", "()Z"⟩, 9), (⟨"SideWork$Machine", "takeUp", "()V"⟩, 9), (⟨"SideWork$Frames", "has", "(II)Z"⟩, 2), (⟨"SideWork$Machine", "beginPart", "(I)V"⟩, 9), (⟨"SideWork$Machine", "leaveLater", "(I)V"⟩, 9), (⟨"SideWork$Laters", "has", "(I)Z"⟩, 7), (⟨"SideWork$Machine", "comesToWork", "()Z"⟩, 9), (⟨"SideWork$Machine", "isStopped", "(I)Z"⟩, 9), (⟨"SideWork$Machine", "endRun", "(I)V"⟩, 9), (⟨"SideWork$Machine", "fail", "(II)V"⟩, 9), (⟨"SideWork$Machine", "work", "()V"⟩, 9)]
theorem lw_r1 : ∀ q ∈ lw_privs_1, lw_okq q := List.forall_mem_cons.mpr ⟨lw_p0, List.forall_mem_cons.mpr ⟨lw_p1, List.forall_mem_cons.mpr ⟨lw_p2, List.forall_mem_cons.mpr ⟨lw_p3, List.forall_mem_cons.mpr ⟨lw_p4, List.forall_mem_cons.mpr ⟨lw_p5, List.forall_mem_cons.mpr ⟨lw_p6, List.forall_mem_cons.mpr ⟨lw_p7, List.forall_mem_cons.mpr ⟨lw_p8, List.forall_mem_cons.mpr ⟨lw_p9, List.forall_mem_cons.mpr ⟨lw_p10, List.forall_mem_cons.mpr ⟨lw_p11, List.forall_mem_cons.mpr ⟨lw_p12, List.forall_mem_cons.mpr ⟨lw_p13, List.forall_mem_cons.mpr ⟨lw_p14, List.forall_mem_cons.mpr ⟨lw_p15, fun _ h => absurd h List.not_mem_nil⟩⟩⟩⟩⟩⟩⟩⟩⟩⟩⟩⟩⟩⟩⟩⟩
theorem lw_p16 : lw_okq (⟨"SideWork$Machine", "keep", "()V"⟩, 9) := ⟨⟨by decide +kernel, by decide +kernel⟩, List.mem_of_getElem? (i := 49) (by decide +kernel), List.mem_of_getElem? (i := 533) (by decide +kernel), List.mem_of_getElem? (i := 534) (by decide +kernel)⟩
theorem lw_p17 : lw_okq (⟨"SideWork$Machine", "give", "(J)V"⟩, 9) := ⟨⟨by decide +kernel, by decide +kernel⟩, List.mem_of_getElem? (i := 49) (by decide +kernel), List.mem_of_getElem? (i := 537) (by decide +kernel), List.mem_of_getElem? (i := 538) (by decide +kernel)⟩
theorem lw_p18 : lw_okq (⟨"SideWork$Machine", "doAlways", "()V"⟩, 9) := ⟨⟨by decide +kernel, by decide +kernel⟩, List.mem_of_getElem? (i := 49) (by decide +kernel), List.mem_of_getElem? (i := 545) (by decide +kernel), List.mem_of_getElem? (i := 546) (by decide +kernel)⟩
theorem lw_p19 : lw_okq (⟨"SideWork$Machine", "choose", "()V"⟩, 9) := ⟨⟨by decide +kernel, by decide +kernel⟩, List.mem_of_getElem? (i := 49) (by decide +kernel), List.mem_of_getElem? (i := 558) (by decide +kernel), List.mem_of_getElem? (i := 559) (by decide +kernel)⟩
theorem lw_p20 : lw_okq (⟨"SideWork$Machine", "loop", "()V"⟩, 9) := ⟨⟨by decide +kernel, by decide +kernel⟩, List.mem_of_getElem? (i := 49) (by decide +kernel), List.mem_of_getElem? (i := 562) (by decide +kernel), List.mem_of_getElem? (i := 563) (by decide +kernel)⟩
theorem lw_p21 : lw_okq (⟨"SideWork$Machine", "askAgain", "()V"⟩, 9) := ⟨⟨by decide +kernel, by decide +kernel⟩, List.mem_of_getElem? (i := 49) (by decide +kernel), List.mem_of_getElem? (i := 566) (by decide +kernel), List.mem_of_getElem? (i := 567) (by decide +kernel)⟩
theorem lw_p22 : lw_okq (⟨"SideWork$Machine", "call", "()V"⟩, 9) := ⟨⟨by decide +kernel, by decide +kernel⟩, List.mem_of_getElem? (i := 49) (by decide +kernel), List.mem_of_getElem? (i := 571) (by decide +kernel), List.mem_of_getElem? (i := 572) (by decide +kernel)⟩
theorem lw_p23 : lw_okq (⟨"SideWork$Machine", "enter", "(I)V"⟩, 9) := ⟨⟨by decide +kernel, by decide +kernel⟩, List.mem_of_getElem? (i := 49) (by decide +kernel), List.mem_of_getElem? (i := 575) (by decide +kernel), List.mem_of_getElem? (i := 576) (by decide +kernel)⟩
theorem lw_p24 : lw_okq (⟨"SideWork$Machine", "delay", "()V"⟩, 9) := ⟨⟨by decide +kernel, by decide +kernel⟩, List.mem_of_getElem? (i := 49) (by decide +kernel), List.mem_of_getElem? (i := 580) (by decide +kernel), List.mem_of_getElem? (i := 581) (by decide +kernel)⟩
theorem lw_p25 : lw_okq (⟨"SideWork$Machine", "force", "(I)V"⟩, 9) := ⟨⟨by decide +kernel, by decide +kernel⟩, List.mem_of_getElem? (i := 49) (by decide +kernel), List.mem_of_getElem? (i := 592) (by decide +kernel), List.mem_of_getElem? (i := 593) (by decide +kernel)⟩
theorem lw_p26 : lw_okq (⟨"SideWork$Machine", "workLater", "(I)V"⟩, 9) := ⟨⟨by decide +kernel, by decide +kernel⟩, List.mem_of_getElem? (i := 49) (by decide +kernel), List.mem_of_getElem? (i := 596) (by decide +kernel), List.mem_of_getElem? (i := 597) (by decide +kernel)⟩
theorem lw_p27 : lw_okq (⟨"SideWork$Machine", "copy", "()V"⟩, 9) := ⟨⟨by decide +kernel, by decide +kernel⟩, List.mem_of_getElem? (i := 49) (by decide +kernel), List.mem_of_getElem? (i := 628) (by decide +kernel), List.mem_of_getElem? (i := 629) (by decide +kernel)⟩
theorem lw_p28 : lw_okq (⟨"SideWork$Machine", "workPlainly", "(I)V"⟩, 9) := ⟨⟨by decide +kernel, by decide +kernel⟩, List.mem_of_getElem? (i := 49) (by decide +kernel), List.mem_of_getElem? (i := 644) (by decide +kernel), List.mem_of_getElem? (i := 645) (by decide +kernel)⟩
theorem lw_p29 : lw_okq (⟨"SideWork$Machine", "reckon", "(IIJJ)J"⟩, 9) := ⟨⟨by decide +kernel, by decide +kernel⟩, List.mem_of_getElem? (i := 49) (by decide +kernel), List.mem_of_getElem? (i := 648) (by decide +kernel), List.mem_of_getElem? (i := 649) (by decide +kernel)⟩
theorem lw_p30 : lw_okq (⟨"SideWork$Machine", "change", "(IIJJJ)J"⟩, 9) := ⟨⟨by decide +kernel, by decide +kernel⟩, List.mem_of_getElem? (i := 49) (by decide +kernel), List.mem_of_getElem? (i := 659) (by decide +kernel), List.mem_of_getElem? (i := 660) (by decide +kernel)⟩
theorem lw_p31 : lw_okq (⟨"SideWork$Machine", "put", "(IJ)J"⟩, 9) := ⟨⟨by decide +kernel, by decide +kernel⟩, List.mem_of_getElem? (i := 49) (by decide +kernel), List.mem_of_getElem? (i := 675) (by decide +kernel), List.mem_of_getElem? (i := 676) (by decide +kernel)⟩
def lw_privs_2 : List (MethodName × Nat) := [(⟨"SideWork$Machine", "keep", "()V"⟩, 9), (⟨"SideWork$Machine", "give", "(J)V"⟩, 9), (⟨"SideWork$Machine", "doAlways", "()V"⟩, 9), (⟨"SideWork$Machine", "choose", "()V"⟩, 9), (⟨"SideWork$Machine", "loop", "()V"⟩, 9), (⟨"SideWork$Machine", "askAgain", "()V"⟩, 9), (⟨"SideWork$Machine", "call", "()V"⟩, 9), (⟨"SideWork$Machine", "enter", "(I)V"⟩, 9), (⟨"SideWork$Machine", "delay", "()V"⟩, 9), (⟨"SideWork$Machine", "force", "(I)V"⟩, 9), (⟨"SideWork$Machine", "workLater", "(I)V"⟩, 9), (⟨"SideWork$Machine", "copy", "()V"⟩, 9), (⟨"SideWork$Machine", "workPlainly", "(I)V"⟩, 9), (⟨"SideWork$Machine", "reckon", "(IIJJ)J"⟩, 9), (⟨"SideWork$Machine", "change", "(IIJJJ)J"⟩, 9), (⟨"SideWork$Machine", "put", "(IJ)J"⟩, 9)]
theorem lw_r2 : ∀ q ∈ lw_privs_2, lw_okq q := List.forall_mem_cons.mpr ⟨lw_p16, List.forall_mem_cons.mpr ⟨lw_p17, List.forall_mem_cons.mpr ⟨lw_p18, List.forall_mem_cons.mpr ⟨lw_p19, List.forall_mem_cons.mpr ⟨lw_p20, List.forall_mem_cons.mpr ⟨lw_p21, List.forall_mem_cons.mpr ⟨lw_p22, List.forall_mem_cons.mpr ⟨lw_p23, List.forall_mem_cons.mpr ⟨lw_p24, List.forall_mem_cons.mpr ⟨lw_p25, List.forall_mem_cons.mpr ⟨lw_p26, List.forall_mem_cons.mpr ⟨lw_p27, List.forall_mem_cons.mpr ⟨lw_p28, List.forall_mem_cons.mpr ⟨lw_p29, List.forall_mem_cons.mpr ⟨lw_p30, List.forall_mem_cons.mpr ⟨lw_p31, fun _ h => absurd h List.not_mem_nil⟩⟩⟩⟩⟩⟩⟩⟩⟩⟩⟩⟩⟩⟩⟩⟩
theorem lw_p32 : lw_okq (⟨"SideWork$Machine", "tell", "(J)J"⟩, 9) := ⟨⟨by decide +kernel, by decide +kernel⟩, List.mem_of_getElem? (i := 49) (by decide +kernel), List.mem_of_getElem? (i := 680) (by decide +kernel), List.mem_of_getElem? (i := 681) (by decide +kernel)⟩
theorem lw_p33 : lw_okq (⟨"java/lang/Throwable", "fillInStackTrace", "(I)Ljava/lang/Throwable;"⟩, 6) := ⟨⟨by decide +kernel, by decide +kernel⟩, List.mem_of_getElem? (i := 759) (by decide +kernel), List.mem_of_getElem? (i := 757) (by decide +kernel), List.mem_of_getElem? (i := 758) (by decide +kernel)⟩
theorem lw_p34 : lw_okq (⟨"SideWorkModel", "noAct", "(I)Z"⟩, 56) := ⟨⟨by decide +kernel, by decide +kernel⟩, List.mem_of_getElem? (i := 816) (by decide +kernel), List.mem_of_getElem? (i := 1001) (by decide +kernel), List.mem_of_getElem? (i := 1002) (by decide +kernel)⟩
theorem lw_p35 : lw_okq (⟨"SideWorkModel", "newFrame", "()I"⟩, 56) := ⟨⟨by decide +kernel, by decide +kernel⟩, List.mem_of_getElem? (i := 816) (by decide +kernel), List.mem_of_getElem? (i := 1013) (by decide +kernel), List.mem_of_getElem? (i := 1014) (by decide +kernel)⟩
theorem lw_p36 : lw_okq (⟨"SideWorkModel", "start", "(II)V"⟩, 56) := ⟨⟨by decide +kernel, by decide +kernel⟩, List.mem_of_getElem? (i := 816) (by decide +kernel), List.mem_of_getElem? (i := 1017) (by decide +kernel), List.mem_of_getElem? (i := 1018) (by decide +kernel)⟩
theorem lw_p37 : lw_okq (⟨"SideWorkModel", "begin", "()V"⟩, 56) := ⟨⟨by decide +kernel, by decide +kernel⟩, List.mem_of_getElem? (i := 816) (by decide +kernel), List.mem_of_getElem? (i := 1021) (by decide +kernel), List.mem_of_getElem? (i := 1022) (by decide +kernel)⟩
theorem lw_p38 : lw_okq (⟨"SideWorkModel", "finish", "(II)V"⟩, 56) := ⟨⟨by decide +kernel, by decide +kernel⟩, List.mem_of_getElem? (i := 816) (by decide +kernel), List.mem_of_getElem? (i := 1025) (by decide +kernel), List.mem_of_getElem? (i := 1026) (by decide +kernel)⟩
theorem lw_p39 : lw_okq (⟨"SideWorkModel", "value", "(II)V"⟩, 56) := ⟨⟨by decide +kernel, by decide +kernel⟩, List.mem_of_getElem? (i := 816) (by decide +kernel), List.mem_of_getElem? (i := 1029) (by decide +kernel), List.mem_of_getElem? (i := 1030) (by decide +kernel)⟩
theorem lw_p40 : lw_okq (⟨"SideWorkModel", "newThing", "(I)I"⟩, 56) := ⟨⟨by decide +kernel, by decide +kernel⟩, List.mem_of_getElem? (i := 816) (by decide +kernel), List.mem_of_getElem? (i := 1033) (by decide +kernel), List.mem_of_getElem? (i := 1034) (by decide +kernel)⟩
theorem lw_p41 : lw_okq (⟨"SideWorkModel", "up", "()V"⟩, 56) := ⟨⟨by decide +kernel, by decide +kernel⟩, List.mem_of_getElem? (i := 816) (by decide +kernel), List.mem_of_getElem? (i := 1037) (by decide +kernel), List.mem_of_getElem? (i := 1038) (by decide +kernel)⟩
theorem lw_p42 : lw_okq (⟨"SideWorkModel", "keepX", "(I)V"⟩, 56) := ⟨⟨by decide +kernel, by decide +kernel⟩, List.mem_of_getElem? (i := 816) (by decide +kernel), List.mem_of_getElem? (i := 1041) (by decide +kernel), List.mem_of_getElem? (i := 1042) (by decide +kernel)⟩
theorem lw_p43 : lw_okq (⟨"SideWorkModel", "keepY", "(I)V"⟩, 56) := ⟨⟨by decide +kernel, by decide +kernel⟩, List.mem_of_getElem? (i := 816) (by decide +kernel), List.mem_of_getElem? (i := 1045) (by decide +kernel), List.mem_of_getElem? (i := 1046) (by decide +kernel)⟩
theorem lw_p44 : lw_okq (⟨"SideWorkModel", "upOf", "(IIIII)V"⟩, 56) := ⟨⟨by decide +kernel, by decide +kernel⟩, List.mem_of_getElem? (i := 816) (by decide +kernel), List.mem_of_getElem? (i := 1049) (by decide +kernel), List.mem_of_getElem? (i := 1050) (by decide +kernel)⟩
theorem lw_p45 : lw_okq (⟨"SideWorkModel", "reckon", "(IIII)V"⟩, 56) := ⟨⟨by decide +kernel, by decide +kernel⟩, List.mem_of_getElem? (i := 816) (by decide +kernel), List.mem_of_getElem? (i := 1053) (by decide +kernel), List.mem_of_getElem? (i := 1054) (by decide +kernel)⟩
theorem lw_p46 : lw_okq (⟨"SideWorkModel", "isWhole", "(II)Z"⟩, 56) := ⟨⟨by decide +kernel, by decide +kernel⟩, List.mem_of_getElem? (i := 816) (by decide +kernel), List.mem_of_getElem? (i := 1057) (by decide +kernel), List.mem_of_getElem? (i := 1058) (by decide +kernel)⟩
theorem lw_p47 : lw_okq (⟨"SideWorkModel", "fail", "(III)V"⟩, 56) := ⟨⟨by decide +kernel, by decide +kernel⟩, List.mem_of_getElem? (i := 816) (by decide +kernel), List.mem_of_getElem? (i := 1061) (by decide +kernel), List.mem_of_getElem? (i := 1062) (by decide +kernel)⟩
def lw_privs_3 : List (MethodName × Nat) := [(⟨"SideWork$Machine", "tell", "(J)J"⟩, 9), (⟨"java/lang/Throwable", "fillInStackTrace", "(I)Ljava/lang/Throwable;"⟩, 6), (⟨"SideWorkModel", "noAct", "(I)Z"⟩, 56), (⟨"SideWorkModel", "newFrame", "()I"⟩, 56), (⟨"SideWorkModel", "start", "(II)V"⟩, 56), (⟨"SideWorkModel", "begin", "()V"⟩, 56), (⟨"SideWorkModel", "finish", "(II)V"⟩, 56), (⟨"SideWorkModel", "value", "(II)V"⟩, 56), (⟨"SideWorkModel", "newThing", "(I)I"⟩, 56), (⟨"SideWorkModel", "up", "()V"⟩, 56), (⟨"SideWorkModel", "keepX", "(I)V"⟩, 56), (⟨"SideWorkModel", "keepY", "(I)V"⟩, 56), (⟨"SideWorkModel", "upOf", "(IIIII)V"⟩, 56), (⟨"SideWorkModel", "reckon", "(IIII)V"⟩, 56), (⟨"SideWorkModel", "isWhole", "(II)Z"⟩, 56), (⟨"SideWorkModel", "fail", "(III)V"⟩, 56)]
theorem lw_r3 : ∀ q ∈ lw_privs_3, lw_okq q := List.forall_mem_cons.mpr ⟨lw_p32, List.forall_mem_cons.mpr ⟨lw_p33, List.forall_mem_cons.mpr ⟨lw_p34, List.forall_mem_cons.mpr ⟨lw_p35, List.forall_mem_cons.mpr ⟨lw_p36, List.forall_mem_cons.mpr ⟨lw_p37, List.forall_mem_cons.mpr ⟨lw_p38, List.forall_mem_cons.mpr ⟨lw_p39, List.forall_mem_cons.mpr ⟨lw_p40, List.forall_mem_cons.mpr ⟨lw_p41, List.forall_mem_cons.mpr ⟨lw_p42, List.forall_mem_cons.mpr ⟨lw_p43, List.forall_mem_cons.mpr ⟨lw_p44, List.forall_mem_cons.mpr ⟨lw_p45, List.forall_mem_cons.mpr ⟨lw_p46, List.forall_mem_cons.mpr ⟨lw_p47, fun _ h => absurd h List.not_mem_nil⟩⟩⟩⟩⟩⟩⟩⟩⟩⟩⟩⟩⟩⟩⟩⟩
theorem lw_p48 : lw_okq (⟨"SideWorkModel", "failBy", "(II)V"⟩, 56) := ⟨⟨by decide +kernel, by decide +kernel⟩, List.mem_of_getElem? (i := 816) (by decide +kernel), List.mem_of_getElem? (i := 1065) (by decide +kernel), List.mem_of_getElem? (i := 1066) (by decide +kernel)⟩
theorem lw_p49 : lw_okq (⟨"SideWorkModel", "makeRow", "(II)V"⟩, 56) := ⟨⟨by decide +kernel, by decide +kernel⟩, List.mem_of_getElem? (i := 816) (by decide +kernel), List.mem_of_getElem? (i := 1069) (by decide +kernel), List.mem_of_getElem? (i := 1070) (by decide +kernel)⟩
theorem lw_p50 : lw_okq (⟨"SideWorkModel", "readPlace", "(III)V"⟩, 56) := ⟨⟨by decide +kernel, by decide +kernel⟩, List.mem_of_getElem? (i := 816) (by decide +kernel), List.mem_of_getElem? (i := 1073) (by decide +kernel), List.mem_of_getElem? (i := 1074) (by decide +kernel)⟩
theorem lw_p51 : lw_okq (⟨"SideWorkModel", "isRowHere", "(II)Z"⟩, 56) := ⟨⟨by decide +kernel, by decide +kernel⟩, List.mem_of_getElem? (i := 816) (by decide +kernel), List.mem_of_getElem? (i := 1077) (by decide +kernel), List.mem_of_getElem? (i := 1078) (by decide +kernel)⟩
theorem lw_p52 : lw_okq (⟨"SideWorkModel", "writePlace", "(II)V"⟩, 56) := ⟨⟨by decide +kernel, by decide +kernel⟩, List.mem_of_getElem? (i := 816) (by decide +kernel), List.mem_of_getElem? (i := 1084) (by decide +kernel), List.mem_of_getElem? (i := 1085) (by decide +kernel)⟩
theorem lw_p53 : lw_okq (⟨"SideWorkModel", "write", "(III)V"⟩, 56) := ⟨⟨by decide +kernel, by decide +kernel⟩, List.mem_of_getElem? (i := 816) (by decide +kernel), List.mem_of_getElem? (i := 1088) (by decide +kernel), List.mem_of_getElem? (i := 1089) (by decide +kernel)⟩
theorem lw_p54 : lw_okq (⟨"SideWorkModel", "isLink", "(II)Z"⟩, 56) := ⟨⟨by decide +kernel, by decide +kernel⟩, List.mem_of_getElem? (i := 816) (by decide +kernel), List.mem_of_getElem? (i := 1092) (by decide +kernel), List.mem_of_getElem? (i := 1093) (by decide +kernel)⟩
theorem lw_p55 : lw_okq (⟨"SideWorkModel", "copyPlaces", "(II)V"⟩, 56) := ⟨⟨by decide +kernel, by decide +kernel⟩, List.mem_of_getElem? (i := 816) (by decide +kernel), List.mem_of_getElem? (i := 1096) (by decide +kernel), List.mem_of_getElem? (i := 1097) (by decide +kernel)⟩
theorem lw_p56 : lw_okq (⟨"SideWorkModel", "upLater", "(IIIII)V"⟩, 56) := ⟨⟨by decide +kernel, by decide +kernel⟩, List.mem_of_getElem? (i := 816) (by decide +kernel), List.mem_of_getElem? (i := 1100) (by decide +kernel), List.mem_of_getElem? (i := 1101) (by decide +kernel)⟩
theorem lw_p57 : lw_okq (⟨"SideWorkModel", "upLoop", "(IIII)V"⟩, 56) := ⟨⟨by decide +kernel, by decide +kernel⟩, List.mem_of_getElem? (i := 816) (by decide +kernel), List.mem_of_getElem? (i := 1104) (by decide +kernel), List.mem_of_getElem? (i := 1105) (by decide +kernel)⟩
theorem lw_p58 : lw_okq (⟨"SideWorkModel", "upCall", "(III)V"⟩, 56) := ⟨⟨by decide +kernel, by decide +kernel⟩, List.mem_of_getElem? (i := 816) (by decide +kernel), List.mem_of_getElem? (i := 1108) (by decide +kernel), List.mem_of_getElem? (i := 1109) (by decide +kernel)⟩
theorem lw_p59 : lw_okq (⟨"SideWorkModel", "upWork", "(III)V"⟩, 56) := ⟨⟨by decide +kernel, by decide +kernel⟩, List.mem_of_getElem? (i := 816) (by decide +kernel), List.mem_of_getElem? (i := 1112) (by decide +kernel), List.mem_of_getElem? (i := 1113) (by decide +kernel)⟩
theorem lw_p60 : lw_okq (⟨"SideWorkModel", "upFailure", "()V"⟩, 56) := ⟨⟨by decide +kernel, by decide +kernel⟩, List.mem_of_getElem? (i := 816) (by decide +kernel), List.mem_of_getElem? (i := 1116) (by decide +kernel), List.mem_of_getElem? (i := 1117) (by decide +kernel)⟩
theorem lw_p61 : lw_okq (⟨"SideWorkModel", "leave", "(IIII)V"⟩, 56) := ⟨⟨by decide +kernel, by decide +kernel⟩, List.mem_of_getElem? (i := 816) (by decide +kernel), List.mem_of_getElem? (i := 1120) (by decide +kernel), List.mem_of_getElem? (i := 1121) (by decide +kernel)⟩
theorem lw_p62 : lw_okq (⟨"SideWorkModel", "back", "(I)V"⟩, 56) := ⟨⟨by decide +kernel, by decide +kernel⟩, List.mem_of_getElem? (i := 816) (by decide +kernel), List.mem_of_getElem? (i := 1124) (by decide +kernel), List.mem_of_getElem? (i := 1125) (by decide +kernel)⟩
theorem lw_p63 : lw_okq (⟨"SideWorkModel", "numberOf", "(II)I"⟩, 56) := ⟨⟨by decide +kernel, by decide +kernel⟩, List.mem_of_getElem? (i := 816) (by decide +kernel), List.mem_of_getElem? (i := 1136) (by decide +kernel), List.mem_of_getElem? (i := 1137) (by decide +kernel)⟩
def lw_privs_4 : List (MethodName × Nat) := [(⟨"SideWorkModel", "failBy", "(II)V"⟩, 56), (⟨"SideWorkModel", "makeRow", "(II)V"⟩, 56), (⟨"SideWorkModel", "readPlace", "(III)V"⟩, 56), (⟨"SideWorkModel", "isRowHere", "(II)Z"⟩, 56), (⟨"SideWorkModel", "writePlace", "(II)V"⟩, 56), (⟨"SideWorkModel", "write", "(III)V"⟩, 56), (⟨"SideWorkModel", "isLink", "(II)Z"⟩, 56), (⟨"SideWorkModel", "copyPlaces", "(II)V"⟩, 56), (⟨"SideWorkModel", "upLater", "(IIIII)V"⟩, 56), (⟨"SideWorkModel", "upLoop", "(IIII)V"⟩, 56), (⟨"SideWorkModel", "upCall", "(III)V"⟩, 56), (⟨"SideWorkModel", "upWork", "(III)V"⟩, 56), (⟨"SideWorkModel", "upFailure", "()V"⟩, 56), (⟨"SideWorkModel", "leave", "(IIII)V"⟩, 56), (⟨"SideWorkModel", "back", "(I)V"⟩, 56), (⟨"SideWorkModel", "numberOf", "(II)I"⟩, 56)]
theorem lw_r4 : ∀ q ∈ lw_privs_4, lw_okq q := List.forall_mem_cons.mpr ⟨lw_p48, List.forall_mem_cons.mpr ⟨lw_p49, List.forall_mem_cons.mpr ⟨lw_p50, List.forall_mem_cons.mpr ⟨lw_p51, List.forall_mem_cons.mpr ⟨lw_p52, List.forall_mem_cons.mpr ⟨lw_p53, List.forall_mem_cons.mpr ⟨lw_p54, List.forall_mem_cons.mpr ⟨lw_p55, List.forall_mem_cons.mpr ⟨lw_p56, List.forall_mem_cons.mpr ⟨lw_p57, List.forall_mem_cons.mpr ⟨lw_p58, List.forall_mem_cons.mpr ⟨lw_p59, List.forall_mem_cons.mpr ⟨lw_p60, List.forall_mem_cons.mpr ⟨lw_p61, List.forall_mem_cons.mpr ⟨lw_p62, List.forall_mem_cons.mpr ⟨lw_p63, fun _ h => absurd h List.not_mem_nil⟩⟩⟩⟩⟩⟩⟩⟩⟩⟩⟩⟩⟩⟩⟩⟩
def lw_privs : List (MethodName × Nat) := lw_privs_1 ++ (lw_privs_2 ++ (lw_privs_3 ++ (lw_privs_4)))
def lw_tbl : List Cond := k2_sels lw_privs ++ tables_1
theorem lw_privs_ok : ∀ q ∈ lw_privs, lw_okq q := by
  show ∀ q ∈ lw_privs_1 ++ (lw_privs_2 ++ (lw_privs_3 ++ (lw_privs_4))), lw_okq q
  exact List.forall_mem_append.mpr ⟨lw_r1, List.forall_mem_append.mpr ⟨lw_r2, List.forall_mem_append.mpr ⟨lw_r3, lw_r4⟩⟩⟩
def RX0 : String := "SideWork$Acts"
def TX0 : u_T := fun k => match k with
  | 0 => ("SideWork$Acts", "givens", "[I", true)
  | 1 => ("SideWork$Acts", "parts", "[I", true)
  | 2 => ("SideWork$Acts", "aheads", "[I", true)
  | _ => ("SideWork$Acts", "size", "I", false)
def tyX0 : Nat → FieldType := fun k => match k with
  | 0 => .array .int
  | 1 => .array .int
  | 2 => .array .int
  | _ => .int
abbrev wsX00 : List Cond := u_ws RX0 TX0 4
theorem nmX0 : ∀ a, a < 4 → ∀ b, b < 4 → a ≠ b → (TX0 a).2.1 ≠ (TX0 b).2.1 := by decide +kernel
theorem tyX0_ok : ∀ k, k < 4 → parseFieldDescriptor (TX0 k).2.2.1 = some (tyX0 k) := by decide +kernel
abbrev cX0_init : ByteArray := prog_2_method_1_code
def yX0_init : MethodName := ⟨RX0, "<init>", "()V"⟩
abbrev cX0_has : ByteArray := prog_2_method_2_code
def yX0_has : MethodName := ⟨RX0, "has", "(I)Z"⟩
abbrev cX0_given : ByteArray := prog_2_method_3_code
def yX0_given : MethodName := ⟨RX0, "given", "(II)I"⟩
abbrev cX0_part : ByteArray := prog_2_method_4_code
def yX0_part : MethodName := ⟨RX0, "part", "(II)I"⟩
abbrev cX0_partsAhead : ByteArray := prog_2_method_5_code
def yX0_partsAhead : MethodName := ⟨RX0, "partsAhead", "(I)I"⟩
abbrev cX0_refusalOf : ByteArray := prog_2_method_6_code
def yX0_refusalOf : MethodName := ⟨RX0, "refusalOf", "(IIII)I"⟩
abbrev cX0_isUnknown : ByteArray := prog_2_method_7_code
def yX0_isUnknown : MethodName := ⟨RX0, "isUnknown", "(II)Z"⟩
abbrev cX0_isOutside : ByteArray := prog_2_method_8_code
def yX0_isOutside : MethodName := ⟨RX0, "isOutside", "(II)Z"⟩
abbrev cX0_add : ByteArray := prog_2_method_9_code
def yX0_add : MethodName := ⟨RX0, "add", "(IIII)I"⟩
abbrev cX0_sortParts : ByteArray := prog_2_method_10_code
def yX0_sortParts : MethodName := ⟨RX0, "sortParts", "(II)V"⟩
def RX1 : String := "SideWork$Course"
def TX1 : u_T := fun k => match k with
  | 0 => ("SideWork$Course", "limit", "I", false)
  | 1 => ("SideWork$Course", "steps", "I", false)
  | 2 => ("SideWork$Course", "failures", "I", false)
  | 3 => ("SideWork$Course", "ending", "I", false)
  | 4 => ("SideWork$Course", "code", "I", false)
  | 5 => ("SideWork$Course", "at", "I", false)
  | _ => ("SideWork$Course", "value", "J", false)
def tyX1 : Nat → FieldType := fun k => match k with
  | 0 => .int
  | 1 => .int
  | 2 => .int
  | 3 => .int
  | 4 => .int
  | 5 => .int
  | _ => .long
abbrev wsX10 : List Cond := u_ws RX1 TX1 7
theorem nmX1 : ∀ a, a < 7 → ∀ b, b < 7 → a ≠ b → (TX1 a).2.1 ≠ (TX1 b).2.1 := by decide +kernel
theorem tyX1_ok : ∀ k, k < 7 → parseFieldDescriptor (TX1 k).2.2.1 = some (tyX1 k) := by decide +kernel
abbrev cX1_init : ByteArray := prog_3_method_1_code
def yX1_init : MethodName := ⟨RX1, "<init>", "()V"⟩
abbrev cX1_restart : ByteArray := prog_3_method_2_code
def yX1_restart : MethodName := ⟨RX1, "restart", "(I)V"⟩
abbrev cX1_settle : ByteArray := prog_3_method_3_code
def yX1_settle : MethodName := ⟨RX1, "settle", "()V"⟩
abbrev cX1_goOn : ByteArray := prog_3_method_4_code
def yX1_goOn : MethodName := ⟨RX1, "goOn", "(III)V"⟩
abbrev cX1_end : ByteArray := prog_3_method_5_code
def yX1_end : MethodName := ⟨RX1, "end", "(II)V"⟩
abbrev cX1_arise : ByteArray := prog_3_method_6_code
def yX1_arise : MethodName := ⟨RX1, "arise", "(III)V"⟩
abbrev cX1_takesStep : ByteArray := prog_3_method_7_code
def yX1_takesStep : MethodName := ⟨RX1, "takesStep", "(I)Z"⟩
abbrev cX1_isFailing : ByteArray := prog_3_method_8_code
def yX1_isFailing : MethodName := ⟨RX1, "isFailing", "()Z"⟩
def RX2 : String := "SideWork$Fault"
def TX2 : u_T := fun k => match k with
  | _ => ("", "", "", false)
def tyX2 : Nat → FieldType := fun k => match k with
  | _ => .int
abbrev wsX20 : List Cond := u_ws RX2 TX2 0
theorem nmX2 : ∀ a, a < 0 → ∀ b, b < 0 → a ≠ b → (TX2 a).2.1 ≠ (TX2 b).2.1 := by decide +kernel
theorem tyX2_ok : ∀ k, k < 0 → parseFieldDescriptor (TX2 k).2.2.1 = some (tyX2 k) := by decide +kernel
abbrev cX2_of : ByteArray := prog_4_method_2_code
def yX2_of : MethodName := ⟨RX2, "of", "(IJJJII)I"⟩
abbrev cX2_firstOf : ByteArray := prog_4_method_3_code
def yX2_firstOf : MethodName := ⟨RX2, "firstOf", "(III)I"⟩
abbrev cX2_ofThing : ByteArray := prog_4_method_4_code
def yX2_ofThing : MethodName := ⟨RX2, "ofThing", "(JZ)I"⟩
abbrev cX2_ofWhole : ByteArray := prog_4_method_5_code
def yX2_ofWhole : MethodName := ⟨RX2, "ofWhole", "(J)I"⟩
abbrev cX2_ofLength : ByteArray := prog_4_method_6_code
def yX2_ofLength : MethodName := ⟨RX2, "ofLength", "(I)I"⟩
abbrev cX2_ofPlace : ByteArray := prog_4_method_7_code
def yX2_ofPlace : MethodName := ⟨RX2, "ofPlace", "(II)I"⟩
abbrev cX2_ofWrite : ByteArray := prog_4_method_8_code
def yX2_ofWrite : MethodName := ⟨RX2, "ofWrite", "(JJJI)I"⟩
abbrev cX2_ofCopy : ByteArray := prog_4_method_9_code
def yX2_ofCopy : MethodName := ⟨RX2, "ofCopy", "(JJJI)I"⟩
def RX3 : String := "SideWork$Frames"
def TX3 : u_T := fun k => match k with
  | 0 => ("SideWork$Frames", "slots", "[J", true)
  | _ => ("SideWork$Frames", "made", "I", false)
def tyX3 : Nat → FieldType := fun k => match k with
  | 0 => .array .long
  | _ => .int
abbrev wsX30 : List Cond := u_ws RX3 TX3 2
theorem nmX3 : ∀ a, a < 2 → ∀ b, b < 2 → a ≠ b → (TX3 a).2.1 ≠ (TX3 b).2.1 := by decide +kernel
theorem tyX3_ok : ∀ k, k < 2 → parseFieldDescriptor (TX3 k).2.2.1 = some (tyX3 k) := by decide +kernel
abbrev cX3_init : ByteArray := prog_5_method_1_code
def yX3_init : MethodName := ⟨RX3, "<init>", "()V"⟩
abbrev cX3_restart : ByteArray := prog_5_method_2_code
def yX3_restart : MethodName := ⟨RX3, "restart", "()V"⟩
abbrev cX3_open : ByteArray := prog_5_method_3_code
def yX3_open : MethodName := ⟨RX3, "open", "()I"⟩
abbrev cX3_read : ByteArray := prog_5_method_4_code
def yX3_read : MethodName := ⟨RX3, "read", "(II)J"⟩
abbrev cX3_write : ByteArray := prog_5_method_5_code
def yX3_write : MethodName := ⟨RX3, "write", "(IIJ)V"⟩
abbrev cX3_has : ByteArray := prog_5_method_6_code
def yX3_has : MethodName := ⟨RX3, "has", "(II)Z"⟩
def RX4 : String := "SideWork$Kind"
def TX4 : u_T := fun k => match k with
  | _ => ("", "", "", false)
def tyX4 : Nat → FieldType := fun k => match k with
  | _ => .int
abbrev wsX40 : List Cond := u_ws RX4 TX4 0
theorem nmX4 : ∀ a, a < 0 → ∀ b, b < 0 → a ≠ b → (TX4 a).2.1 ≠ (TX4 b).2.1 := by decide +kernel
theorem tyX4_ok : ∀ k, k < 0 → parseFieldDescriptor (TX4 k).2.2.1 = some (tyX4 k) := by decide +kernel
def RX5 : String := "SideWork$Laters"
def TX5 : u_T := fun k => match k with
  | 0 => ("SideWork$Laters", "acts", "[I", true)
  | 1 => ("SideWork$Laters", "frames", "[I", true)
  | 2 => ("SideWork$Laters", "states", "[I", true)
  | 3 => ("SideWork$Laters", "failures", "[I", true)
  | 4 => ("SideWork$Laters", "codes", "[I", true)
  | 5 => ("SideWork$Laters", "values", "[J", true)
  | _ => ("SideWork$Laters", "made", "I", false)
def tyX5 : Nat → FieldType := fun k => match k with
  | 0 => .array .int
  | 1 => .array .int
  | 2 => .array .int
  | 3 => .array .int
  | 4 => .array .int
  | 5 => .array .long
  | _ => .int
abbrev wsX50 : List Cond := u_ws RX5 TX5 7
theorem nmX5 : ∀ a, a < 7 → ∀ b, b < 7 → a ≠ b → (TX5 a).2.1 ≠ (TX5 b).2.1 := by decide +kernel
theorem tyX5_ok : ∀ k, k < 7 → parseFieldDescriptor (TX5 k).2.2.1 = some (tyX5 k) := by decide +kernel
abbrev cX5_init : ByteArray := prog_7_method_1_code
def yX5_init : MethodName := ⟨RX5, "<init>", "()V"⟩
abbrev cX5_restart : ByteArray := prog_7_method_2_code
def yX5_restart : MethodName := ⟨RX5, "restart", "()V"⟩
abbrev cX5_add : ByteArray := prog_7_method_3_code
def yX5_add : MethodName := ⟨RX5, "add", "(II)J"⟩
abbrev cX5_has : ByteArray := prog_7_method_4_code
def yX5_has : MethodName := ⟨RX5, "has", "(I)Z"⟩
abbrev cX5_actOf : ByteArray := prog_7_method_5_code
def yX5_actOf : MethodName := ⟨RX5, "actOf", "(I)I"⟩
abbrev cX5_frameOf : ByteArray := prog_7_method_6_code
def yX5_frameOf : MethodName := ⟨RX5, "frameOf", "(I)I"⟩
abbrev cX5_stateOf : ByteArray := prog_7_method_7_code
def yX5_stateOf : MethodName := ⟨RX5, "stateOf", "(I)I"⟩
abbrev cX5_failureOf : ByteArray := prog_7_method_8_code
def yX5_failureOf : MethodName := ⟨RX5, "failureOf", "(I)I"⟩
abbrev cX5_codeOf : ByteArray := prog_7_method_9_code
def yX5_codeOf : MethodName := ⟨RX5, "codeOf", "(I)I"⟩
abbrev cX5_valueOf : ByteArray := prog_7_method_10_code
def yX5_valueOf : MethodName := ⟨RX5, "valueOf", "(I)J"⟩
abbrev cX5_setState : ByteArray := prog_7_method_11_code
def yX5_setState : MethodName := ⟨RX5, "setState", "(II)V"⟩
abbrev cX5_finish : ByteArray := prog_7_method_12_code
def yX5_finish : MethodName := ⟨RX5, "finish", "(IJ)V"⟩
abbrev cX5_giveUp : ByteArray := prog_7_method_13_code
def yX5_giveUp : MethodName := ⟨RX5, "giveUp", "(III)V"⟩
def RX6 : String := "SideWork$Machine"
def TX6 : u_T := fun k => match k with
  | 0 => ("SideWork$Machine", "acts", "LSideWork$Acts;", true)
  | 1 => ("SideWork$Machine", "memory", "LSideWork$Memory;", true)
  | 2 => ("SideWork$Machine", "course", "LSideWork$Course;", true)
  | 3 => ("SideWork$Machine", "outRow", "[I", true)
  | 4 => ("SideWork$Machine", "outSize", "I", false)
  | 5 => ("SideWork$Machine", "frames", "LSideWork$Frames;", true)
  | 6 => ("SideWork$Machine", "laters", "LSideWork$Laters;", true)
  | 7 => ("SideWork$Machine", "stack", "LSideWork$Stack;", true)
  | _ => ("SideWork$Machine", "calls", "I", false)
def tyX6 : Nat → FieldType := fun k => match k with
  | 0 => .object "SideWork$Acts"
  | 1 => .object "SideWork$Memory"
  | 2 => .object "SideWork$Course"
  | 3 => .array .int
  | 4 => .int
  | 5 => .object "SideWork$Frames"
  | 6 => .object "SideWork$Laters"
  | 7 => .object "SideWork$Stack"
  | _ => .int
abbrev wsX60 : List Cond := u_ws RX6 TX6 9
theorem nmX6 : ∀ a, a < 9 → ∀ b, b < 9 → a ≠ b → (TX6 a).2.1 ≠ (TX6 b).2.1 := by decide +kernel
theorem tyX6_ok : ∀ k, k < 9 → parseFieldDescriptor (TX6 k).2.2.1 = some (tyX6 k) := by decide +kernel
abbrev cX6_init : ByteArray := prog_8_method_1_code
def yX6_init : MethodName := ⟨RX6, "<init>", "(LSideWork$Acts;)V"⟩
abbrev cX6_restart : ByteArray := prog_8_method_2_code
def yX6_restart : MethodName := ⟨RX6, "restart", "(I)V"⟩
abbrev cX6_perform : ByteArray := prog_8_method_3_code
def yX6_perform : MethodName := ⟨RX6, "perform", "(II)V"⟩
abbrev cX6_begin : ByteArray := prog_8_method_4_code
def yX6_begin : MethodName := ⟨RX6, "begin", "(II)V"⟩
abbrev cX6_beginPart : ByteArray := prog_8_method_5_code
def yX6_beginPart : MethodName := ⟨RX6, "beginPart", "(I)V"⟩
abbrev cX6_give : ByteArray := prog_8_method_6_code
def yX6_give : MethodName := ⟨RX6, "give", "(J)V"⟩
abbrev cX6_fail : ByteArray := prog_8_method_7_code
def yX6_fail : MethodName := ⟨RX6, "fail", "(II)V"⟩
abbrev cX6_endRun : ByteArray := prog_8_method_8_code
def yX6_endRun : MethodName := ⟨RX6, "endRun", "(I)V"⟩
abbrev cX6_comesToWork : ByteArray := prog_8_method_9_code
def yX6_comesToWork : MethodName := ⟨RX6, "comesToWork", "()Z"⟩
abbrev cX6_isStopped : ByteArray := prog_8_method_10_code
def yX6_isStopped : MethodName := ⟨RX6, "isStopped", "(I)Z"⟩
abbrev cX6_work : ByteArray := prog_8_method_11_code
def yX6_work : MethodName := ⟨RX6, "work", "()V"⟩
abbrev cX6_keep : ByteArray := prog_8_method_12_code
def yX6_keep : MethodName := ⟨RX6, "keep", "()V"⟩
abbrev cX6_doAlways : ByteArray := prog_8_method_13_code
def yX6_doAlways : MethodName := ⟨RX6, "doAlways", "()V"⟩
abbrev cX6_choose : ByteArray := prog_8_method_14_code
def yX6_choose : MethodName := ⟨RX6, "choose", "()V"⟩
abbrev cX6_loop : ByteArray := prog_8_method_15_code
def yX6_loop : MethodName := ⟨RX6, "loop", "()V"⟩
abbrev cX6_askAgain : ByteArray := prog_8_method_16_code
def yX6_askAgain : MethodName := ⟨RX6, "askAgain", "()V"⟩
abbrev cX6_call : ByteArray := prog_8_method_17_code
def yX6_call : MethodName := ⟨RX6, "call", "()V"⟩
abbrev cX6_enter : ByteArray := prog_8_method_18_code
def yX6_enter : MethodName := ⟨RX6, "enter", "(I)V"⟩
abbrev cX6_delay : ByteArray := prog_8_method_19_code
def yX6_delay : MethodName := ⟨RX6, "delay", "()V"⟩
abbrev cX6_force : ByteArray := prog_8_method_20_code
def yX6_force : MethodName := ⟨RX6, "force", "(I)V"⟩
abbrev cX6_workLater : ByteArray := prog_8_method_21_code
def yX6_workLater : MethodName := ⟨RX6, "workLater", "(I)V"⟩
abbrev cX6_copy : ByteArray := prog_8_method_22_code
def yX6_copy : MethodName := ⟨RX6, "copy", "()V"⟩
abbrev cX6_workPlainly : ByteArray := prog_8_method_23_code
def yX6_workPlainly : MethodName := ⟨RX6, "workPlainly", "(I)V"⟩
abbrev cX6_reckon : ByteArray := prog_8_method_24_code
def yX6_reckon : MethodName := ⟨RX6, "reckon", "(IIJJ)J"⟩
abbrev cX6_change : ByteArray := prog_8_method_25_code
def yX6_change : MethodName := ⟨RX6, "change", "(IIJJJ)J"⟩
abbrev cX6_put : ByteArray := prog_8_method_26_code
def yX6_put : MethodName := ⟨RX6, "put", "(IJ)J"⟩
abbrev cX6_tell : ByteArray := prog_8_method_27_code
def yX6_tell : MethodName := ⟨RX6, "tell", "(J)J"⟩
abbrev cX6_leave : ByteArray := prog_8_method_28_code
def yX6_leave : MethodName := ⟨RX6, "leave", "()V"⟩
abbrev cX6_isCaught : ByteArray := prog_8_method_29_code
def yX6_isCaught : MethodName := ⟨RX6, "isCaught", "()Z"⟩
abbrev cX6_takeUp : ByteArray := prog_8_method_30_code
def yX6_takeUp : MethodName := ⟨RX6, "takeUp", "()V"⟩
abbrev cX6_leaveLater : ByteArray := prog_8_method_31_code
def yX6_leaveLater : MethodName := ⟨RX6, "leaveLater", "(I)V"⟩
def RX7 : String := "SideWork$Memory"
def TX7 : u_T := fun k => match k with
  | 0 => ("SideWork$Memory", "cells", "[J", true)
  | 1 => ("SideWork$Memory", "changedCells", "[I", true)
  | 2 => ("SideWork$Memory", "changedFrom", "[J", true)
  | 3 => ("SideWork$Memory", "used", "I", false)
  | _ => ("SideWork$Memory", "changes", "I", false)
def tyX7 : Nat → FieldType := fun k => match k with
  | 0 => .array .long
  | 1 => .array .int
  | 2 => .array .long
  | 3 => .int
  | _ => .int
abbrev wsX70 : List Cond := u_ws RX7 TX7 5
theorem nmX7 : ∀ a, a < 5 → ∀ b, b < 5 → a ≠ b → (TX7 a).2.1 ≠ (TX7 b).2.1 := by decide +kernel
theorem tyX7_ok : ∀ k, k < 5 → parseFieldDescriptor (TX7 k).2.2.1 = some (tyX7 k) := by decide +kernel
abbrev cX7_init : ByteArray := prog_9_method_1_code
def yX7_init : MethodName := ⟨RX7, "<init>", "()V"⟩
abbrev cX7_isBox : ByteArray := prog_9_method_2_code
def yX7_isBox : MethodName := ⟨RX7, "isBox", "(I)Z"⟩
abbrev cX7_cellOf : ByteArray := prog_9_method_3_code
def yX7_cellOf : MethodName := ⟨RX7, "cellOf", "(JI)I"⟩
abbrev cX7_restart : ByteArray := prog_9_method_4_code
def yX7_restart : MethodName := ⟨RX7, "restart", "()V"⟩
abbrev cX7_newRow : ByteArray := prog_9_method_5_code
def yX7_newRow : MethodName := ⟨RX7, "newRow", "(II)J"⟩
abbrev cX7_newLink : ByteArray := prog_9_method_6_code
def yX7_newLink : MethodName := ⟨RX7, "newLink", "(IJ)J"⟩
abbrev cX7_read : ByteArray := prog_9_method_7_code
def yX7_read : MethodName := ⟨RX7, "read", "(I)J"⟩
abbrev cX7_write : ByteArray := prog_9_method_8_code
def yX7_write : MethodName := ⟨RX7, "write", "(IJ)V"⟩
abbrev cX7_copied : ByteArray := prog_9_method_9_code
def yX7_copied : MethodName := ⟨RX7, "copied", "(JJI)Z"⟩
abbrev cX7_changesSoFar : ByteArray := prog_9_method_10_code
def yX7_changesSoFar : MethodName := ⟨RX7, "changesSoFar", "()I"⟩
abbrev cX7_undoBackTo : ByteArray := prog_9_method_11_code
def yX7_undoBackTo : MethodName := ⟨RX7, "undoBackTo", "(I)V"⟩
abbrev cX7_lengthOf : ByteArray := prog_9_method_12_code
def yX7_lengthOf : MethodName := ⟨RX7, "lengthOf", "(J)I"⟩
abbrev cX7_measure : ByteArray := prog_9_method_13_code
def yX7_measure : MethodName := ⟨RX7, "measure", "(J)I"⟩
def RX8 : String := "SideWork$Stack"
def TX8 : u_T := fun k => match k with
  | 0 => ("SideWork$Stack", "acts", "[I", true)
  | 1 => ("SideWork$Stack", "frames", "[I", true)
  | 2 => ("SideWork$Stack", "stages", "[I", true)
  | 3 => ("SideWork$Stack", "partValues", "[J", true)
  | 4 => ("SideWork$Stack", "marks", "[I", true)
  | 5 => ("SideWork$Stack", "heldFailures", "[I", true)
  | 6 => ("SideWork$Stack", "heldCodes", "[I", true)
  | 7 => ("SideWork$Stack", "heldAts", "[I", true)
  | 8 => ("SideWork$Stack", "height", "I", false)
  | _ => ("SideWork$Stack", "top", "I", false)
def tyX8 : Nat → FieldType := fun k => match k with
  | 0 => .array .int
  | 1 => .array .int
  | 2 => .array .int
  | 3 => .array .long
  | 4 => .array .int
  | 5 => .array .int
  | 6 => .array .int
  | 7 => .array .int
  | 8 => .int
  | _ => .int
abbrev wsX80 : List Cond := u_ws RX8 TX8 10
theorem nmX8 : ∀ a, a < 10 → ∀ b, b < 10 → a ≠ b → (TX8 a).2.1 ≠ (TX8 b).2.1 := by decide +kernel
theorem tyX8_ok : ∀ k, k < 10 → parseFieldDescriptor (TX8 k).2.2.1 = some (tyX8 k) := by decide +kernel
abbrev cX8_init : ByteArray := prog_10_method_1_code
def yX8_init : MethodName := ⟨RX8, "<init>", "()V"⟩
abbrev cX8_restart : ByteArray := prog_10_method_2_code
def yX8_restart : MethodName := ⟨RX8, "restart", "()V"⟩
abbrev cX8_isEmpty : ByteArray := prog_10_method_3_code
def yX8_isEmpty : MethodName := ⟨RX8, "isEmpty", "()Z"⟩
abbrev cX8_push : ByteArray := prog_10_method_4_code
def yX8_push : MethodName := ⟨RX8, "push", "(III)V"⟩
abbrev cX8_pop : ByteArray := prog_10_method_5_code
def yX8_pop : MethodName := ⟨RX8, "pop", "()V"⟩
abbrev cX8_actOnTop : ByteArray := prog_10_method_6_code
def yX8_actOnTop : MethodName := ⟨RX8, "actOnTop", "()I"⟩
abbrev cX8_frame : ByteArray := prog_10_method_7_code
def yX8_frame : MethodName := ⟨RX8, "frame", "()I"⟩
abbrev cX8_stage : ByteArray := prog_10_method_8_code
def yX8_stage : MethodName := ⟨RX8, "stage", "()I"⟩
abbrev cX8_setStage : ByteArray := prog_10_method_9_code
def yX8_setStage : MethodName := ⟨RX8, "setStage", "(I)V"⟩
abbrev cX8_take : ByteArray := prog_10_method_10_code
def yX8_take : MethodName := ⟨RX8, "take", "(J)V"⟩
abbrev cX8_value : ByteArray := prog_10_method_11_code
def yX8_value : MethodName := ⟨RX8, "value", "(I)J"⟩
abbrev cX8_mark : ByteArray := prog_10_method_12_code
def yX8_mark : MethodName := ⟨RX8, "mark", "()I"⟩
abbrev cX8_hold : ByteArray := prog_10_method_13_code
def yX8_hold : MethodName := ⟨RX8, "hold", "(LSideWork$Course;)V"⟩
abbrev cX8_holdsFailure : ByteArray := prog_10_method_14_code
def yX8_holdsFailure : MethodName := ⟨RX8, "holdsFailure", "()Z"⟩
abbrev cX8_letGo : ByteArray := prog_10_method_15_code
def yX8_letGo : MethodName := ⟨RX8, "letGo", "(LSideWork$Course;)V"⟩
def RX9 : String := "SideWork$Value"
def TX9 : u_T := fun k => match k with
  | _ => ("", "", "", false)
def tyX9 : Nat → FieldType := fun k => match k with
  | _ => .int
abbrev wsX90 : List Cond := u_ws RX9 TX9 0
theorem nmX9 : ∀ a, a < 0 → ∀ b, b < 0 → a ≠ b → (TX9 a).2.1 ≠ (TX9 b).2.1 := by decide +kernel
theorem tyX9_ok : ∀ k, k < 0 → parseFieldDescriptor (TX9 k).2.2.1 = some (tyX9 k) := by decide +kernel
abbrev cX9_of : ByteArray := prog_11_method_2_code
def yX9_of : MethodName := ⟨RX9, "of", "(II)J"⟩
abbrev cX9_whole : ByteArray := prog_11_method_3_code
def yX9_whole : MethodName := ⟨RX9, "whole", "(I)J"⟩
abbrev cX9_truth : ByteArray := prog_11_method_4_code
def yX9_truth : MethodName := ⟨RX9, "truth", "(Z)J"⟩
abbrev cX9_sort : ByteArray := prog_11_method_5_code
def yX9_sort : MethodName := ⟨RX9, "sort", "(J)I"⟩
abbrev cX9_number : ByteArray := prog_11_method_6_code
def yX9_number : MethodName := ⟨RX9, "number", "(J)I"⟩
abbrev cX9_isRow : ByteArray := prog_11_method_7_code
def yX9_isRow : MethodName := ⟨RX9, "isRow", "(J)Z"⟩
abbrev cX9_isRowForLinks : ByteArray := prog_11_method_8_code
def yX9_isRowForLinks : MethodName := ⟨RX9, "isRowForLinks", "(J)Z"⟩
abbrev cX9_isLink : ByteArray := prog_11_method_9_code
def yX9_isLink : MethodName := ⟨RX9, "isLink", "(J)Z"⟩
abbrev cX9_isLinkOrNothing : ByteArray := prog_11_method_10_code
def yX9_isLinkOrNothing : MethodName := ⟨RX9, "isLinkOrNothing", "(J)Z"⟩
abbrev cX9_isStrange : ByteArray := prog_11_method_11_code
def yX9_isStrange : MethodName := ⟨RX9, "isStrange", "(JJ)Z"⟩
def RX10 : String := "SideWork"
def TX10 : u_T := fun k => match k with
  | 0 => ("SideWork", "acts", "LSideWork$Acts;", true)
  | 1 => ("SideWork", "machine", "LSideWork$Machine;", true)
  | _ => ("SideWork", "runs", "I", false)
def tyX10 : Nat → FieldType := fun k => match k with
  | 0 => .object "SideWork$Acts"
  | 1 => .object "SideWork$Machine"
  | _ => .int
abbrev wsX100 : List Cond := u_ws RX10 TX10 3
theorem nmX10 : ∀ a, a < 3 → ∀ b, b < 3 → a ≠ b → (TX10 a).2.1 ≠ (TX10 b).2.1 := by decide +kernel
theorem tyX10_ok : ∀ k, k < 3 → parseFieldDescriptor (TX10 k).2.2.1 = some (tyX10 k) := by decide +kernel
abbrev cX10_init : ByteArray := prog_1_method_1_code
def yX10_init : MethodName := ⟨RX10, "<init>", "()V"⟩
abbrev cX10_act : ByteArray := prog_1_method_2_code
def yX10_act : MethodName := ⟨RX10, "act", "(IIII)I"⟩
abbrev cX10_told : ByteArray := prog_1_method_3_code
def yX10_told : MethodName := ⟨RX10, "told", "(II)I"⟩
abbrev cX10_run : ByteArray := prog_1_method_4_code
def yX10_run : MethodName := ⟨RX10, "run", "(II)I"⟩
abbrev cX10_ended : ByteArray := prog_1_method_5_code
def yX10_ended : MethodName := ⟨RX10, "ended", "(I)I"⟩
abbrev cX10_gave : ByteArray := prog_1_method_6_code
def yX10_gave : MethodName := ⟨RX10, "gave", "()I"⟩
abbrev cX10_place : ByteArray := prog_1_method_7_code
def yX10_place : MethodName := ⟨RX10, "place", "(I)I"⟩
abbrev cX10_box : ByteArray := prog_1_method_8_code
def yX10_box : MethodName := ⟨RX10, "box", "(I)I"⟩
abbrev cX10_boxed : ByteArray := prog_1_method_9_code
def yX10_boxed : MethodName := ⟨RX10, "boxed", "(I)I"⟩
abbrev cX10_same : ByteArray := prog_1_method_10_code
def yX10_same : MethodName := ⟨RX10, "same", "(II)I"⟩
abbrev cX10_out : ByteArray := prog_1_method_11_code
def yX10_out : MethodName := ⟨RX10, "out", "(I)I"⟩
abbrev cX10_count : ByteArray := prog_1_method_12_code
def yX10_count : MethodName := ⟨RX10, "count", "(I)I"⟩
abbrev cX10_clear : ByteArray := prog_1_method_13_code
def yX10_clear : MethodName := ⟨RX10, "clear", "()I"⟩
def RX11 : String := "SideWorkModel"
def TX11 : u_T := fun k => match k with
  | 0 => ("SideWorkModel", "acts", "I", false)
  | 1 => ("SideWorkModel", "kind", "[I", true)
  | 2 => ("SideWorkModel", "argA", "[I", true)
  | 3 => ("SideWorkModel", "argB", "[I", true)
  | 4 => ("SideWorkModel", "argC", "[I", true)
  | 5 => ("SideWorkModel", "runs", "I", false)
  | 6 => ("SideWorkModel", "things", "I", false)
  | 7 => ("SideWorkModel", "thingSize", "[I", true)
  | 8 => ("SideWorkModel", "placeType", "[I", true)
  | 9 => ("SideWorkModel", "placeNumber", "[I", true)
  | 10 => ("SideWorkModel", "laterAct", "[I", true)
  | 11 => ("SideWorkModel", "laterFrame", "[I", true)
  | 12 => ("SideWorkModel", "laterState", "[I", true)
  | 13 => ("SideWorkModel", "laterType", "[I", true)
  | 14 => ("SideWorkModel", "laterNumber", "[I", true)
  | 15 => ("SideWorkModel", "frames", "I", false)
  | 16 => ("SideWorkModel", "slotType", "[I", true)
  | 17 => ("SideWorkModel", "slotNumber", "[I", true)
  | 18 => ("SideWorkModel", "boxType", "[I", true)
  | 19 => ("SideWorkModel", "boxNumber", "[I", true)
  | 20 => ("SideWorkModel", "changes", "I", false)
  | 21 => ("SideWorkModel", "changed", "[I", true)
  | 22 => ("SideWorkModel", "wasType", "[I", true)
  | 23 => ("SideWorkModel", "wasNumber", "[I", true)
  | 24 => ("SideWorkModel", "tolds", "I", false)
  | 25 => ("SideWorkModel", "toldRow", "[I", true)
  | 26 => ("SideWorkModel", "top", "I", false)
  | 27 => ("SideWorkModel", "sAct", "[I", true)
  | 28 => ("SideWorkModel", "sPhase", "[I", true)
  | 29 => ("SideWorkModel", "sFrame", "[I", true)
  | 30 => ("SideWorkModel", "sTypeX", "[I", true)
  | 31 => ("SideWorkModel", "sNumberX", "[I", true)
  | 32 => ("SideWorkModel", "sTypeY", "[I", true)
  | 33 => ("SideWorkModel", "sNumberY", "[I", true)
  | 34 => ("SideWorkModel", "sMark", "[I", true)
  | 35 => ("SideWorkModel", "sAt", "[I", true)
  | 36 => ("SideWorkModel", "mode", "I", false)
  | 37 => ("SideWorkModel", "nowAct", "I", false)
  | 38 => ("SideWorkModel", "nowFrame", "I", false)
  | 39 => ("SideWorkModel", "vType", "I", false)
  | 40 => ("SideWorkModel", "vNumber", "I", false)
  | 41 => ("SideWorkModel", "fKind", "I", false)
  | 42 => ("SideWorkModel", "fCode", "I", false)
  | 43 => ("SideWorkModel", "fAt", "I", false)
  | 44 => ("SideWorkModel", "failures", "I", false)
  | 45 => ("SideWorkModel", "steps", "I", false)
  | 46 => ("SideWorkModel", "most", "I", false)
  | 47 => ("SideWorkModel", "deep", "I", false)
  | 48 => ("SideWorkModel", "gaveType", "I", false)
  | 49 => ("SideWorkModel", "gaveNumber", "I", false)
  | 50 => ("SideWorkModel", "endKind", "I", false)
  | 51 => ("SideWorkModel", "endCode", "I", false)
  | 52 => ("SideWorkModel", "endAt", "I", false)
  | 53 => ("SideWorkModel", "endSteps", "I", false)
  | 54 => ("SideWorkModel", "endFailures", "I", false)
  | _ => ("SideWorkModel", "thrown", "I", false)
def tyX11 : Nat → FieldType := fun k => match k with
  | 0 => .int
  | 1 => .array .int
  | 2 => .array .int
  | 3 => .array .int
  | 4 => .array .int
  | 5 => .int
  | 6 => .int
  | 7 => .array .int
  | 8 => .array .int
  | 9 => .array .int
  | 10 => .array .int
  | 11 => .array .int
  | 12 => .array .int
  | 13 => .array .int
  | 14 => .array .int
  | 15 => .int
  | 16 => .array .int
  | 17 => .array .int
  | 18 => .array .int
  | 19 => .array .int
  | 20 => .int
  | 21 => .array .int
  | 22 => .array .int
  | 23 => .array .int
  | 24 => .int
  | 25 => .array .int
  | 26 => .int
  | 27 => .array .int
  | 28 => .array .int
  | 29 => .array .int
  | 30 => .array .int
  | 31 => .array .int
  | 32 => .array .int
  | 33 => .array .int
  | 34 => .array .int
  | 35 => .array .int
  | 36 => .int
  | 37 => .int
  | 38 => .int
  | 39 => .int
  | 40 => .int
  | 41 => .int
  | 42 => .int
  | 43 => .int
  | 44 => .int
  | 45 => .int
  | 46 => .int
  | 47 => .int
  | 48 => .int
  | 49 => .int
  | 50 => .int
  | 51 => .int
  | 52 => .int
  | 53 => .int
  | 54 => .int
  | _ => .int
abbrev wsX110 : List Cond := u_ws RX11 TX11 56
theorem nmX11 : ∀ a, a < 56 → ∀ b, b < 56 → a ≠ b → (TX11 a).2.1 ≠ (TX11 b).2.1 := by decide +kernel
theorem tyX11_ok : ∀ k, k < 56 → parseFieldDescriptor (TX11 k).2.2.1 = some (tyX11 k) := by decide +kernel
abbrev cX11_init : ByteArray := prog_13_method_1_code
def yX11_init : MethodName := ⟨RX11, "<init>", "()V"⟩
abbrev cX11_in : ByteArray := prog_13_method_2_code
def yX11_in : MethodName := ⟨RX11, "in", "(III)Z"⟩
abbrev cX11_noAct : ByteArray := prog_13_method_3_code
def yX11_noAct : MethodName := ⟨RX11, "noAct", "(I)Z"⟩
abbrev cX11_actsOf : ByteArray := prog_13_method_4_code
def yX11_actsOf : MethodName := ⟨RX11, "actsOf", "(I)I"⟩
abbrev cX11_act : ByteArray := prog_13_method_5_code
def yX11_act : MethodName := ⟨RX11, "act", "(IIII)I"⟩
abbrev cX11_told : ByteArray := prog_13_method_6_code
def yX11_told : MethodName := ⟨RX11, "told", "(II)I"⟩
abbrev cX11_value : ByteArray := prog_13_method_7_code
def yX11_value : MethodName := ⟨RX11, "value", "(II)V"⟩
abbrev cX11_start : ByteArray := prog_13_method_8_code
def yX11_start : MethodName := ⟨RX11, "start", "(II)V"⟩
abbrev cX11_finish : ByteArray := prog_13_method_9_code
def yX11_finish : MethodName := ⟨RX11, "finish", "(II)V"⟩
abbrev cX11_fail : ByteArray := prog_13_method_10_code
def yX11_fail : MethodName := ⟨RX11, "fail", "(III)V"⟩
abbrev cX11_newThing : ByteArray := prog_13_method_11_code
def yX11_newThing : MethodName := ⟨RX11, "newThing", "(I)I"⟩
abbrev cX11_newFrame : ByteArray := prog_13_method_12_code
def yX11_newFrame : MethodName := ⟨RX11, "newFrame", "()I"⟩
abbrev cX11_write : ByteArray := prog_13_method_13_code
def yX11_write : MethodName := ⟨RX11, "write", "(III)V"⟩
abbrev cX11_back : ByteArray := prog_13_method_14_code
def yX11_back : MethodName := ⟨RX11, "back", "(I)V"⟩
abbrev cX11_begin : ByteArray := prog_13_method_15_code
def yX11_begin : MethodName := ⟨RX11, "begin", "()V"⟩
abbrev cX11_keepX : ByteArray := prog_13_method_16_code
def yX11_keepX : MethodName := ⟨RX11, "keepX", "(I)V"⟩
abbrev cX11_keepY : ByteArray := prog_13_method_17_code
def yX11_keepY : MethodName := ⟨RX11, "keepY", "(I)V"⟩
abbrev cX11_isWhole : ByteArray := prog_13_method_18_code
def yX11_isWhole : MethodName := ⟨RX11, "isWhole", "(II)Z"⟩
abbrev cX11_failBy : ByteArray := prog_13_method_19_code
def yX11_failBy : MethodName := ⟨RX11, "failBy", "(II)V"⟩
abbrev cX11_up : ByteArray := prog_13_method_20_code
def yX11_up : MethodName := ⟨RX11, "up", "()V"⟩
abbrev cX11_upOf : ByteArray := prog_13_method_21_code
def yX11_upOf : MethodName := ⟨RX11, "upOf", "(IIIII)V"⟩
abbrev cX11_upLater : ByteArray := prog_13_method_22_code
def yX11_upLater : MethodName := ⟨RX11, "upLater", "(IIIII)V"⟩
abbrev cX11_upLoop : ByteArray := prog_13_method_23_code
def yX11_upLoop : MethodName := ⟨RX11, "upLoop", "(IIII)V"⟩
abbrev cX11_upCall : ByteArray := prog_13_method_24_code
def yX11_upCall : MethodName := ⟨RX11, "upCall", "(III)V"⟩
abbrev cX11_upWork : ByteArray := prog_13_method_25_code
def yX11_upWork : MethodName := ⟨RX11, "upWork", "(III)V"⟩
abbrev cX11_reckon : ByteArray := prog_13_method_26_code
def yX11_reckon : MethodName := ⟨RX11, "reckon", "(IIII)V"⟩
abbrev cX11_makeRow : ByteArray := prog_13_method_27_code
def yX11_makeRow : MethodName := ⟨RX11, "makeRow", "(II)V"⟩
abbrev cX11_isRow : ByteArray := prog_13_method_28_code
def yX11_isRow : MethodName := ⟨RX11, "isRow", "(I)Z"⟩
abbrev cX11_isRowHere : ByteArray := prog_13_method_29_code
def yX11_isRowHere : MethodName := ⟨RX11, "isRowHere", "(II)Z"⟩
abbrev cX11_isLink : ByteArray := prog_13_method_30_code
def yX11_isLink : MethodName := ⟨RX11, "isLink", "(II)Z"⟩
abbrev cX11_readPlace : ByteArray := prog_13_method_31_code
def yX11_readPlace : MethodName := ⟨RX11, "readPlace", "(III)V"⟩
abbrev cX11_writePlace : ByteArray := prog_13_method_32_code
def yX11_writePlace : MethodName := ⟨RX11, "writePlace", "(II)V"⟩
abbrev cX11_copyPlaces : ByteArray := prog_13_method_33_code
def yX11_copyPlaces : MethodName := ⟨RX11, "copyPlaces", "(II)V"⟩
abbrev cX11_upFailure : ByteArray := prog_13_method_34_code
def yX11_upFailure : MethodName := ⟨RX11, "upFailure", "()V"⟩
abbrev cX11_leave : ByteArray := prog_13_method_35_code
def yX11_leave : MethodName := ⟨RX11, "leave", "(IIII)V"⟩
abbrev cX11_run : ByteArray := prog_13_method_36_code
def yX11_run : MethodName := ⟨RX11, "run", "(II)I"⟩
abbrev cX11_ended : ByteArray := prog_13_method_37_code
def yX11_ended : MethodName := ⟨RX11, "ended", "(I)I"⟩
abbrev cX11_numberOf : ByteArray := prog_13_method_38_code
def yX11_numberOf : MethodName := ⟨RX11, "numberOf", "(II)I"⟩
abbrev cX11_gave : ByteArray := prog_13_method_39_code
def yX11_gave : MethodName := ⟨RX11, "gave", "()I"⟩
abbrev cX11_thrown : ByteArray := prog_13_method_40_code
def yX11_thrown : MethodName := ⟨RX11, "thrown", "()I"⟩
abbrev cX11_place : ByteArray := prog_13_method_41_code
def yX11_place : MethodName := ⟨RX11, "place", "(I)I"⟩
abbrev cX11_box : ByteArray := prog_13_method_42_code
def yX11_box : MethodName := ⟨RX11, "box", "(I)I"⟩
abbrev cX11_boxed : ByteArray := prog_13_method_43_code
def yX11_boxed : MethodName := ⟨RX11, "boxed", "(I)I"⟩
abbrev cX11_same : ByteArray := prog_13_method_44_code
def yX11_same : MethodName := ⟨RX11, "same", "(II)I"⟩
abbrev cX11_out : ByteArray := prog_13_method_45_code
def yX11_out : MethodName := ⟨RX11, "out", "(I)I"⟩
abbrev cX11_count : ByteArray := prog_13_method_46_code
def yX11_count : MethodName := ⟨RX11, "count", "(I)I"⟩
abbrev cX11_clear : ByteArray := prog_13_method_47_code
def yX11_clear : MethodName := ⟨RX11, "clear", "()I"⟩
def RJx00060 : String := "java/lang/ArrayIndexOutOfBoundsException"
def TJx00060 : u_T := fun k => match k with
  | 0 => ("java/lang/Throwable", "backtrace", "Ljava/lang/Object;", false)
  | 1 => ("java/lang/Throwable", "detailMessage", "Ljava/lang/String;", false)
  | 2 => ("java/lang/Throwable", "cause", "Ljava/lang/Throwable;", false)
  | 3 => ("java/lang/Throwable", "stackTrace", "[Ljava/lang/StackTraceElement;", false)
  | 4 => ("java/lang/Throwable", "depth", "I", false)
  | _ => ("java/lang/Throwable", "suppressedExceptions", "Ljava/util/List;", false)
def tyJx00060 : Nat → FieldType := fun k => match k with
  | 0 => .object "java/lang/Object"
  | 1 => .object "java/lang/String"
  | 2 => .object "java/lang/Throwable"
  | 3 => .array (.object "java/lang/StackTraceElement")
  | 4 => .int
  | _ => .object "java/util/List"
abbrev wsJx000600 : List Cond := u_ws RJx00060 TJx00060 6
theorem nmJx00060 : ∀ a, a < 6 → ∀ b, b < 6 → a ≠ b → (TJx00060 a).2.1 ≠ (TJx00060 b).2.1 := by decide +kernel
theorem tyJx00060_ok : ∀ k, k < 6 → parseFieldDescriptor (TJx00060 k).2.2.1 = some (tyJx00060 k) := by decide +kernel
abbrev cJx00060_init_a7421 : ByteArray := prog_14_method_2_code
def yJx00060_init_a7421 : MethodName := ⟨RJx00060, "<init>", "(Ljava/lang/String;)V"⟩
def RJ9 : String := "java/lang/Math"
def TJ9 : u_T := fun k => match k with
  | _ => ("", "", "", false)
def tyJ9 : Nat → FieldType := fun k => match k with
  | _ => .int
abbrev wsJ90 : List Cond := u_ws RJ9 TJ9 0
theorem nmJ9 : ∀ a, a < 0 → ∀ b, b < 0 → a ≠ b → (TJ9 a).2.1 ≠ (TJ9 b).2.1 := by decide +kernel
theorem tyJ9_ok : ∀ k, k < 0 → parseFieldDescriptor (TJ9 k).2.2.1 = some (tyJ9 k) := by decide +kernel
abbrev cJ9_min_7cf53 : ByteArray := prog_17_method_69_code
def yJ9_min_7cf53 : MethodName := ⟨RJ9, "min", "(II)I"⟩
def RJ0 : String := "java/lang/String"
def TJ0 : u_T := fun k => match k with
  | 0 => ("java/lang/String", "value", "[B", true)
  | _ => ("java/lang/String", "coder", "B", true)
def tyJ0 : Nat → FieldType := fun k => match k with
  | 0 => .array .byte
  | _ => .byte
abbrev wsJ00 : List Cond := u_ws RJ0 TJ0 2
theorem nmJ0 : ∀ a, a < 2 → ∀ b, b < 2 → a ≠ b → (TJ0 a).2.1 ≠ (TJ0 b).2.1 := by decide +kernel
theorem tyJ0_ok : ∀ k, k < 2 → parseFieldDescriptor (TJ0 k).2.2.1 = some (tyJ0 k) := by decide +kernel
def RL : String := "SideWorkLaw"
abbrev cL_place : ByteArray := method_3_code
def yL_place : MethodName := ⟨RL, "place", "(LSideWork;I[J)I"⟩
abbrev cL_law : ByteArray := code
def yL_law : MethodName := ⟨RL, "law", "([I)Z"⟩
end
section
theorem dX0_init_0 : decode cX0_init 0 = .ok (.aload_n 0, 1) := by decide +kernel
theorem dX0_init_1 : decode cX0_init 1 = .ok (.invokespecial 3, 3) := by decide +kernel
theorem dX0_init_4 : decode cX0_init 4 = .ok (.aload_n 0, 1) := by decide +kernel
theorem dX0_init_5 : decode cX0_init 5 = .ok (.sipush 240, 3) := by decide +kernel
theorem dX0_init_8 : decode cX0_init 8 = .ok (.newarray .int, 2) := by decide +kernel
theorem dX0_init_10 : decode cX0_init 10 = .ok (.putfield 11, 3) := by decide +kernel
theorem dX0_init_13 : decode cX0_init 13 = .ok (.aload_n 0, 1) := by decide +kernel
theorem dX0_init_14 : decode cX0_init 14 = .ok (.sipush 180, 3) := by decide +kernel
theorem dX0_init_17 : decode cX0_init 17 = .ok (.newarray .int, 2) := by decide +kernel
theorem dX0_init_19 : decode cX0_init 19 = .ok (.putfield 15, 3) := by decide +kernel
theorem dX0_init_22 : decode cX0_init 22 = .ok (.aload_n 0, 1) := by decide +kernel
theorem dX0_init_23 : decode cX0_init 23 = .ok (.bipush 60, 2) := by decide +kernel
theorem dX0_init_25 : decode cX0_init 25 = .ok (.newarray .int, 2) := by decide +kernel
theorem dX0_init_27 : decode cX0_init 27 = .ok (.putfield 18, 3) := by decide +kernel
theorem dX0_init_30 : decode cX0_init 30 = .ok (.aload_n 0, 1) := by decide +kernel
theorem dX0_init_31 : decode cX0_init 31 = .ok (.iconst 0, 1) := by decide +kernel
theorem dX0_init_32 : decode cX0_init 32 = .ok (.putfield 21, 3) := by decide +kernel
theorem dX0_init_35 : decode cX0_init 35 = .ok (.return_, 1) := by decide +kernel
theorem dX0_has_0 : decode cX0_has 0 = .ok (.iload_n 1, 1) := by decide +kernel
theorem dX0_has_1 : decode cX0_has 1 = .ok (.ifCond .lt 15, 3) := by decide +kernel
theorem dX0_has_4 : decode cX0_has 4 = .ok (.iload_n 1, 1) := by decide +kernel
theorem dX0_has_5 : decode cX0_has 5 = .ok (.aload_n 0, 1) := by decide +kernel
theorem dX0_has_6 : decode cX0_has 6 = .ok (.getfield 21, 3) := by decide +kernel
theorem dX0_has_9 : decode cX0_has 9 = .ok (.if_icmp .ge 7, 3) := by decide +kernel
theorem dX0_has_12 : decode cX0_has 12 = .ok (.iconst 1, 1) := by decide +kernel
theorem dX0_has_13 : decode cX0_has 13 = .ok (.goto 4, 3) := by decide +kernel
theorem dX0_has_16 : decode cX0_has 16 = .ok (.iconst 0, 1) := by decide +kernel
theorem dX0_has_17 : decode cX0_has 17 = .ok (.ireturn, 1) := by decide +kernel
theorem dX0_given_0 : decode cX0_given 0 = .ok (.aload_n 0, 1) := by decide +kernel
theorem dX0_given_1 : decode cX0_given 1 = .ok (.iload_n 1, 1) := by decide +kernel
theorem dX0_given_2 : decode cX0_given 2 = .ok (.invokevirtual 25, 3) := by decide +kernel
theorem dX0_given_5 : decode cX0_given 5 = .ok (.ifCond .eq 25, 3) := by decide +kernel
theorem dX0_given_8 : decode cX0_given 8 = .ok (.iload_n 2, 1) := by decide +kernel
theorem dX0_given_9 : decode cX0_given 9 = .ok (.ifCond .lt 21, 3) := by decide +kernel
theorem dX0_given_12 : decode cX0_given 12 = .ok (.iload_n 2, 1) := by decide +kernel
theorem dX0_given_13 : decode cX0_given 13 = .ok (.iconst 4, 1) := by decide +kernel
theorem dX0_given_14 : decode cX0_given 14 = .ok (.if_icmp .ge 16, 3) := by decide +kernel
theorem dX0_given_17 : decode cX0_given 17 = .ok (.aload_n 0, 1) := by decide +kernel
theorem dX0_given_18 : decode cX0_given 18 = .ok (.getfield 11, 3) := by decide +kernel
theorem dX0_given_21 : decode cX0_given 21 = .ok (.iconst 4, 1) := by decide +kernel
theorem dX0_given_22 : decode cX0_given 22 = .ok (.iload_n 1, 1) := by decide +kernel
theorem dX0_given_23 : decode cX0_given 23 = .ok (.imul, 1) := by decide +kernel
theorem dX0_given_24 : decode cX0_given 24 = .ok (.iload_n 2, 1) := by decide +kernel
theorem dX0_given_25 : decode cX0_given 25 = .ok (.iadd, 1) := by decide +kernel
theorem dX0_given_26 : decode cX0_given 26 = .ok (.iaload, 1) := by decide +kernel
theorem dX0_given_27 : decode cX0_given 27 = .ok (.goto 4, 3) := by decide +kernel
theorem dX0_given_30 : decode cX0_given 30 = .ok (.iconst 0, 1) := by decide +kernel
theorem dX0_given_31 : decode cX0_given 31 = .ok (.ireturn, 1) := by decide +kernel
theorem dX0_part_0 : decode cX0_part 0 = .ok (.aload_n 0, 1) := by decide +kernel
theorem dX0_part_1 : decode cX0_part 1 = .ok (.iload_n 1, 1) := by decide +kernel
theorem dX0_part_2 : decode cX0_part 2 = .ok (.invokevirtual 25, 3) := by decide +kernel
theorem dX0_part_5 : decode cX0_part 5 = .ok (.ifCond .eq 25, 3) := by decide +kernel
theorem dX0_part_8 : decode cX0_part 8 = .ok (.iload_n 2, 1) := by decide +kernel
theorem dX0_part_9 : decode cX0_part 9 = .ok (.ifCond .lt 21, 3) := by decide +kernel
theorem dX0_part_12 : decode cX0_part 12 = .ok (.iload_n 2, 1) := by decide +kernel
theorem dX0_part_13 : decode cX0_part 13 = .ok (.iconst 3, 1) := by decide +kernel
theorem dX0_part_14 : decode cX0_part 14 = .ok (.if_icmp .ge 16, 3) := by decide +kernel
theorem dX0_part_17 : decode cX0_part 17 = .ok (.aload_n 0, 1) := by decide +kernel
theorem dX0_part_18 : decode cX0_part 18 = .ok (.getfield 15, 3) := by decide +kernel
theorem dX0_part_21 : decode cX0_part 21 = .ok (.iconst 3, 1) := by decide +kernel
theorem dX0_part_22 : decode cX0_part 22 = .ok (.iload_n 1, 1) := by decide +kernel
theorem dX0_part_23 : decode cX0_part 23 = .ok (.imul, 1) := by decide +kernel
theorem dX0_part_24 : decode cX0_part 24 = .ok (.iload_n 2, 1) := by decide +kernel
theorem dX0_part_25 : decode cX0_part 25 = .ok (.iadd, 1) := by decide +kernel
theorem dX0_part_26 : decode cX0_part 26 = .ok (.iaload, 1) := by decide +kernel
theorem dX0_part_27 : decode cX0_part 27 = .ok (.goto 4, 3) := by decide +kernel
theorem dX0_part_30 : decode cX0_part 30 = .ok (.iconst (-1), 1) := by decide +kernel
theorem dX0_part_31 : decode cX0_part 31 = .ok (.ireturn, 1) := by decide +kernel
theorem dX0_partsAhead_0 : decode cX0_partsAhead 0 = .ok (.aload_n 0, 1) := by decide +kernel
theorem dX0_partsAhead_1 : decode cX0_partsAhead 1 = .ok (.iload_n 1, 1) := by decide +kernel
theorem dX0_partsAhead_2 : decode cX0_partsAhead 2 = .ok (.invokevirtual 25, 3) := by decide +kernel
theorem dX0_partsAhead_5 : decode cX0_partsAhead 5 = .ok (.ifCond .eq 12, 3) := by decide +kernel
theorem dX0_partsAhead_8 : decode cX0_partsAhead 8 = .ok (.aload_n 0, 1) := by decide +kernel
theorem dX0_partsAhead_9 : decode cX0_partsAhead 9 = .ok (.getfield 18, 3) := by decide +kernel
theorem dX0_partsAhead_12 : decode cX0_partsAhead 12 = .ok (.iload_n 1, 1) := by decide +kernel
theorem dX0_partsAhead_13 : decode cX0_partsAhead 13 = .ok (.iaload, 1) := by decide +kernel
theorem dX0_partsAhead_14 : decode cX0_partsAhead 14 = .ok (.goto 4, 3) := by decide +kernel
theorem dX0_partsAhead_17 : decode cX0_partsAhead 17 = .ok (.iconst 0, 1) := by decide +kernel
theorem dX0_partsAhead_18 : decode cX0_partsAhead 18 = .ok (.ireturn, 1) := by decide +kernel
theorem dX0_refusalOf_0 : decode cX0_refusalOf 0 = .ok (.iload_n 1, 1) := by decide +kernel
theorem dX0_refusalOf_1 : decode cX0_refusalOf 1 = .ok (.ifCond .lt 9, 3) := by decide +kernel
theorem dX0_refusalOf_4 : decode cX0_refusalOf 4 = .ok (.iload_n 1, 1) := by decide +kernel
theorem dX0_refusalOf_5 : decode cX0_refusalOf 5 = .ok (.bipush 31, 2) := by decide +kernel
theorem dX0_refusalOf_7 : decode cX0_refusalOf 7 = .ok (.if_icmp .le 6, 3) := by decide +kernel
theorem dX0_refusalOf_10 : decode cX0_refusalOf 10 = .ok (.bipush (-102), 2) := by decide +kernel
theorem dX0_refusalOf_12 : decode cX0_refusalOf 12 = .ok (.ireturn, 1) := by decide +kernel
theorem dX0_refusalOf_13 : decode cX0_refusalOf 13 = .ok (.iconst 3, 1) := by decide +kernel
theorem dX0_refusalOf_14 : decode cX0_refusalOf 14 = .ok (.iload_n 1, 1) := by decide +kernel
theorem dX0_refusalOf_15 : decode cX0_refusalOf 15 = .ok (.imul, 1) := by decide +kernel
theorem dX0_refusalOf_16 : decode cX0_refusalOf 16 = .ok (.istore 5, 2) := by decide +kernel
theorem dX0_refusalOf_18 : decode cX0_refusalOf 18 = .ok (.aload_n 0, 1) := by decide +kernel
theorem dX0_refusalOf_19 : decode cX0_refusalOf 19 = .ok (.getstatic 31, 3) := by decide +kernel
theorem dX0_refusalOf_22 : decode cX0_refusalOf 22 = .ok (.iload 5, 2) := by decide +kernel
theorem dX0_refusalOf_24 : decode cX0_refusalOf 24 = .ok (.iaload, 1) := by decide +kernel
theorem dX0_refusalOf_25 : decode cX0_refusalOf 25 = .ok (.iload_n 2, 1) := by decide +kernel
theorem dX0_refusalOf_26 : decode cX0_refusalOf 26 = .ok (.invokevirtual 34, 3) := by decide +kernel
theorem dX0_refusalOf_29 : decode cX0_refusalOf 29 = .ok (.ifCond .ne 36, 3) := by decide +kernel
theorem dX0_refusalOf_32 : decode cX0_refusalOf 32 = .ok (.aload_n 0, 1) := by decide +kernel
theorem dX0_refusalOf_33 : decode cX0_refusalOf 33 = .ok (.getstatic 31, 3) := by decide +kernel
theorem dX0_refusalOf_36 : decode cX0_refusalOf 36 = .ok (.iload 5, 2) := by decide +kernel
theorem dX0_refusalOf_38 : decode cX0_refusalOf 38 = .ok (.iconst 1, 1) := by decide +kernel
theorem dX0_refusalOf_39 : decode cX0_refusalOf 39 = .ok (.iadd, 1) := by decide +kernel
theorem dX0_refusalOf_40 : decode cX0_refusalOf 40 = .ok (.iaload, 1) := by decide +kernel
theorem dX0_refusalOf_41 : decode cX0_refusalOf 41 = .ok (.iload_n 3, 1) := by decide +kernel
theorem dX0_refusalOf_42 : decode cX0_refusalOf 42 = .ok (.invokevirtual 34, 3) := by decide +kernel
theorem dX0_refusalOf_45 : decode cX0_refusalOf 45 = .ok (.ifCond .ne 20, 3) := by decide +kernel
theorem dX0_refusalOf_48 : decode cX0_refusalOf 48 = .ok (.aload_n 0, 1) := by decide +kernel
theorem dX0_refusalOf_49 : decode cX0_refusalOf 49 = .ok (.getstatic 31, 3) := by decide +kernel
theorem dX0_refusalOf_52 : decode cX0_refusalOf 52 = .ok (.iload 5, 2) := by decide +kernel
theorem dX0_refusalOf_54 : decode cX0_refusalOf 54 = .ok (.iconst 2, 1) := by decide +kernel
theorem dX0_refusalOf_55 : decode cX0_refusalOf 55 = .ok (.iadd, 1) := by decide +kernel
theorem dX0_refusalOf_56 : decode cX0_refusalOf 56 = .ok (.iaload, 1) := by decide +kernel
theorem dX0_refusalOf_57 : decode cX0_refusalOf 57 = .ok (.iload 4, 2) := by decide +kernel
theorem dX0_refusalOf_59 : decode cX0_refusalOf 59 = .ok (.invokevirtual 34, 3) := by decide +kernel
theorem dX0_refusalOf_62 : decode cX0_refusalOf 62 = .ok (.ifCond .eq 6, 3) := by decide +kernel
theorem dX0_refusalOf_65 : decode cX0_refusalOf 65 = .ok (.bipush (-101), 2) := by decide +kernel
theorem dX0_refusalOf_67 : decode cX0_refusalOf 67 = .ok (.ireturn, 1) := by decide +kernel
theorem dX0_refusalOf_68 : decode cX0_refusalOf 68 = .ok (.aload_n 0, 1) := by decide +kernel
theorem dX0_refusalOf_69 : decode cX0_refusalOf 69 = .ok (.getstatic 31, 3) := by decide +kernel
theorem dX0_refusalOf_72 : decode cX0_refusalOf 72 = .ok (.iload 5, 2) := by decide +kernel
theorem dX0_refusalOf_74 : decode cX0_refusalOf 74 = .ok (.iaload, 1) := by decide +kernel
theorem dX0_refusalOf_75 : decode cX0_refusalOf 75 = .ok (.iload_n 2, 1) := by decide +kernel
theorem dX0_refusalOf_76 : decode cX0_refusalOf 76 = .ok (.invokevirtual 38, 3) := by decide +kernel
theorem dX0_refusalOf_79 : decode cX0_refusalOf 79 = .ok (.ifCond .ne 36, 3) := by decide +kernel
theorem dX0_refusalOf_82 : decode cX0_refusalOf 82 = .ok (.aload_n 0, 1) := by decide +kernel
theorem dX0_refusalOf_83 : decode cX0_refusalOf 83 = .ok (.getstatic 31, 3) := by decide +kernel
theorem dX0_refusalOf_86 : decode cX0_refusalOf 86 = .ok (.iload 5, 2) := by decide +kernel
theorem dX0_refusalOf_88 : decode cX0_refusalOf 88 = .ok (.iconst 1, 1) := by decide +kernel
theorem dX0_refusalOf_89 : decode cX0_refusalOf 89 = .ok (.iadd, 1) := by decide +kernel
theorem dX0_refusalOf_90 : decode cX0_refusalOf 90 = .ok (.iaload, 1) := by decide +kernel
theorem dX0_refusalOf_91 : decode cX0_refusalOf 91 = .ok (.iload_n 3, 1) := by decide +kernel
theorem dX0_refusalOf_92 : decode cX0_refusalOf 92 = .ok (.invokevirtual 38, 3) := by decide +kernel
theorem dX0_refusalOf_95 : decode cX0_refusalOf 95 = .ok (.ifCond .ne 20, 3) := by decide +kernel
theorem dX0_refusalOf_98 : decode cX0_refusalOf 98 = .ok (.aload_n 0, 1) := by decide +kernel
theorem dX0_refusalOf_99 : decode cX0_refusalOf 99 = .ok (.getstatic 31, 3) := by decide +kernel
theorem dX0_refusalOf_102 : decode cX0_refusalOf 102 = .ok (.iload 5, 2) := by decide +kernel
theorem dX0_refusalOf_104 : decode cX0_refusalOf 104 = .ok (.iconst 2, 1) := by decide +kernel
theorem dX0_refusalOf_105 : decode cX0_refusalOf 105 = .ok (.iadd, 1) := by decide +kernel
theorem dX0_refusalOf_106 : decode cX0_refusalOf 106 = .ok (.iaload, 1) := by decide +kernel
theorem dX0_refusalOf_107 : decode cX0_refusalOf 107 = .ok (.iload 4, 2) := by decide +kernel
theorem dX0_refusalOf_109 : decode cX0_refusalOf 109 = .ok (.invokevirtual 38, 3) := by decide +kernel
theorem dX0_refusalOf_112 : decode cX0_refusalOf 112 = .ok (.ifCond .eq 6, 3) := by decide +kernel
theorem dX0_refusalOf_115 : decode cX0_refusalOf 115 = .ok (.bipush (-102), 2) := by decide +kernel
theorem dX0_refusalOf_117 : decode cX0_refusalOf 117 = .ok (.ireturn, 1) := by decide +kernel
theorem dX0_refusalOf_118 : decode cX0_refusalOf 118 = .ok (.aload_n 0, 1) := by decide +kernel
theorem dX0_refusalOf_119 : decode cX0_refusalOf 119 = .ok (.getfield 21, 3) := by decide +kernel
theorem dX0_refusalOf_122 : decode cX0_refusalOf 122 = .ok (.bipush 60, 2) := by decide +kernel
theorem dX0_refusalOf_124 : decode cX0_refusalOf 124 = .ok (.if_icmp .lt 8, 3) := by decide +kernel
theorem dX0_refusalOf_127 : decode cX0_refusalOf 127 = .ok (.bipush (-104), 2) := by decide +kernel
theorem dX0_refusalOf_129 : decode cX0_refusalOf 129 = .ok (.goto 4, 3) := by decide +kernel
theorem dX0_refusalOf_132 : decode cX0_refusalOf 132 = .ok (.iconst 0, 1) := by decide +kernel
theorem dX0_refusalOf_133 : decode cX0_refusalOf 133 = .ok (.ireturn, 1) := by decide +kernel
theorem dX0_isUnknown_0 : decode cX0_isUnknown 0 = .ok (.iload_n 1, 1) := by decide +kernel
theorem dX0_isUnknown_1 : decode cX0_isUnknown 1 = .ok (.iconst 1, 1) := by decide +kernel
theorem dX0_isUnknown_2 : decode cX0_isUnknown 2 = .ok (.if_icmp .eq 8, 3) := by decide +kernel
theorem dX0_isUnknown_5 : decode cX0_isUnknown 5 = .ok (.iload_n 1, 1) := by decide +kernel
theorem dX0_isUnknown_6 : decode cX0_isUnknown 6 = .ok (.iconst 2, 1) := by decide +kernel
theorem dX0_isUnknown_7 : decode cX0_isUnknown 7 = .ok (.if_icmp .ne 15, 3) := by decide +kernel
theorem dX0_isUnknown_10 : decode cX0_isUnknown 10 = .ok (.aload_n 0, 1) := by decide +kernel
theorem dX0_isUnknown_11 : decode cX0_isUnknown 11 = .ok (.iload_n 2, 1) := by decide +kernel
theorem dX0_isUnknown_12 : decode cX0_isUnknown 12 = .ok (.invokevirtual 25, 3) := by decide +kernel
theorem dX0_isUnknown_15 : decode cX0_isUnknown 15 = .ok (.ifCond .ne 7, 3) := by decide +kernel
theorem dX0_isUnknown_18 : decode cX0_isUnknown 18 = .ok (.iconst 1, 1) := by decide +kernel
theorem dX0_isUnknown_19 : decode cX0_isUnknown 19 = .ok (.goto 4, 3) := by decide +kernel
theorem dX0_isUnknown_22 : decode cX0_isUnknown 22 = .ok (.iconst 0, 1) := by decide +kernel
theorem dX0_isUnknown_23 : decode cX0_isUnknown 23 = .ok (.ireturn, 1) := by decide +kernel
theorem dX0_isOutside_0 : decode cX0_isOutside 0 = .ok (.iload_n 1, 1) := by decide +kernel
theorem dX0_isOutside_1 : decode cX0_isOutside 1 = .ok (.iconst 2, 1) := by decide +kernel
theorem dX0_isOutside_2 : decode cX0_isOutside 2 = .ok (.if_icmp .le 20, 3) := by decide +kernel
theorem dX0_isOutside_5 : decode cX0_isOutside 5 = .ok (.iload_n 2, 1) := by decide +kernel
theorem dX0_isOutside_6 : decode cX0_isOutside 6 = .ok (.ifCond .lt 12, 3) := by decide +kernel
theorem dX0_isOutside_9 : decode cX0_isOutside 9 = .ok (.iload_n 2, 1) := by decide +kernel
theorem dX0_isOutside_10 : decode cX0_isOutside 10 = .ok (.getstatic 41, 3) := by decide +kernel
theorem dX0_isOutside_13 : decode cX0_isOutside 13 = .ok (.iload_n 1, 1) := by decide +kernel
theorem dX0_isOutside_14 : decode cX0_isOutside 14 = .ok (.iaload, 1) := by decide +kernel
theorem dX0_isOutside_15 : decode cX0_isOutside 15 = .ok (.if_icmp .le 7, 3) := by decide +kernel
theorem dX0_isOutside_18 : decode cX0_isOutside 18 = .ok (.iconst 1, 1) := by decide +kernel
theorem dX0_isOutside_19 : decode cX0_isOutside 19 = .ok (.goto 4, 3) := by decide +kernel
theorem dX0_isOutside_22 : decode cX0_isOutside 22 = .ok (.iconst 0, 1) := by decide +kernel
theorem dX0_isOutside_23 : decode cX0_isOutside 23 = .ok (.ireturn, 1) := by decide +kernel
theorem dX0_add_0 : decode cX0_add 0 = .ok (.aload_n 0, 1) := by decide +kernel
theorem dX0_add_1 : decode cX0_add 1 = .ok (.getfield 21, 3) := by decide +kernel
theorem dX0_add_4 : decode cX0_add 4 = .ok (.istore 5, 2) := by decide +kernel
theorem dX0_add_6 : decode cX0_add 6 = .ok (.aload_n 0, 1) := by decide +kernel
theorem dX0_add_7 : decode cX0_add 7 = .ok (.dup, 1) := by decide +kernel
theorem dX0_add_8 : decode cX0_add 8 = .ok (.getfield 21, 3) := by decide +kernel
theorem dX0_add_11 : decode cX0_add 11 = .ok (.iconst 1, 1) := by decide +kernel
theorem dX0_add_12 : decode cX0_add 12 = .ok (.iadd, 1) := by decide +kernel
theorem dX0_add_13 : decode cX0_add 13 = .ok (.putfield 21, 3) := by decide +kernel
theorem dX0_add_16 : decode cX0_add 16 = .ok (.aload_n 0, 1) := by decide +kernel
theorem dX0_add_17 : decode cX0_add 17 = .ok (.getfield 11, 3) := by decide +kernel
theorem dX0_add_20 : decode cX0_add 20 = .ok (.iconst 4, 1) := by decide +kernel
theorem dX0_add_21 : decode cX0_add 21 = .ok (.iload 5, 2) := by decide +kernel
theorem dX0_add_23 : decode cX0_add 23 = .ok (.imul, 1) := by decide +kernel
theorem dX0_add_24 : decode cX0_add 24 = .ok (.iload_n 1, 1) := by decide +kernel
theorem dX0_add_25 : decode cX0_add 25 = .ok (.iastore, 1) := by decide +kernel
theorem dX0_add_26 : decode cX0_add 26 = .ok (.aload_n 0, 1) := by decide +kernel
theorem dX0_add_27 : decode cX0_add 27 = .ok (.getfield 11, 3) := by decide +kernel
theorem dX0_add_30 : decode cX0_add 30 = .ok (.iconst 4, 1) := by decide +kernel
theorem dX0_add_31 : decode cX0_add 31 = .ok (.iload 5, 2) := by decide +kernel
theorem dX0_add_33 : decode cX0_add 33 = .ok (.imul, 1) := by decide +kernel
theorem dX0_add_34 : decode cX0_add 34 = .ok (.iconst 1, 1) := by decide +kernel
theorem dX0_add_35 : decode cX0_add 35 = .ok (.iadd, 1) := by decide +kernel
theorem dX0_add_36 : decode cX0_add 36 = .ok (.iload_n 2, 1) := by decide +kernel
theorem dX0_add_37 : decode cX0_add 37 = .ok (.iastore, 1) := by decide +kernel
theorem dX0_add_38 : decode cX0_add 38 = .ok (.aload_n 0, 1) := by decide +kernel
theorem dX0_add_39 : decode cX0_add 39 = .ok (.getfield 11, 3) := by decide +kernel
theorem dX0_add_42 : decode cX0_add 42 = .ok (.iconst 4, 1) := by decide +kernel
theorem dX0_add_43 : decode cX0_add 43 = .ok (.iload 5, 2) := by decide +kernel
theorem dX0_add_45 : decode cX0_add 45 = .ok (.imul, 1) := by decide +kernel
theorem dX0_add_46 : decode cX0_add 46 = .ok (.iconst 2, 1) := by decide +kernel
theorem dX0_add_47 : decode cX0_add 47 = .ok (.iadd, 1) := by decide +kernel
theorem dX0_add_48 : decode cX0_add 48 = .ok (.iload_n 3, 1) := by decide +kernel
theorem dX0_add_49 : decode cX0_add 49 = .ok (.iastore, 1) := by decide +kernel
theorem dX0_add_50 : decode cX0_add 50 = .ok (.aload_n 0, 1) := by decide +kernel
theorem dX0_add_51 : decode cX0_add 51 = .ok (.getfield 11, 3) := by decide +kernel
theorem dX0_add_54 : decode cX0_add 54 = .ok (.iconst 4, 1) := by decide +kernel
theorem dX0_add_55 : decode cX0_add 55 = .ok (.iload 5, 2) := by decide +kernel
theorem dX0_add_57 : decode cX0_add 57 = .ok (.imul, 1) := by decide +kernel
theorem dX0_add_58 : decode cX0_add 58 = .ok (.iconst 3, 1) := by decide +kernel
theorem dX0_add_59 : decode cX0_add 59 = .ok (.iadd, 1) := by decide +kernel
theorem dX0_add_60 : decode cX0_add 60 = .ok (.iload 4, 2) := by decide +kernel
theorem dX0_add_62 : decode cX0_add 62 = .ok (.iastore, 1) := by decide +kernel
theorem dX0_add_63 : decode cX0_add 63 = .ok (.aload_n 0, 1) := by decide +kernel
theorem dX0_add_64 : decode cX0_add 64 = .ok (.iload 5, 2) := by decide +kernel
theorem dX0_add_66 : decode cX0_add 66 = .ok (.iconst 3, 1) := by decide +kernel
theorem dX0_add_67 : decode cX0_add 67 = .ok (.iload_n 1, 1) := by decide +kernel
theorem dX0_add_68 : decode cX0_add 68 = .ok (.imul, 1) := by decide +kernel
theorem dX0_add_69 : decode cX0_add 69 = .ok (.invokevirtual 44, 3) := by decide +kernel
theorem dX0_add_72 : decode cX0_add 72 = .ok (.iload 5, 2) := by decide +kernel
theorem dX0_add_74 : decode cX0_add 74 = .ok (.ireturn, 1) := by decide +kernel
theorem dX0_sortParts_0 : decode cX0_sortParts 0 = .ok (.iconst 0, 1) := by decide +kernel
theorem dX0_sortParts_1 : decode cX0_sortParts 1 = .ok (.istore_n 3, 1) := by decide +kernel
theorem dX0_sortParts_2 : decode cX0_sortParts 2 = .ok (.iconst 0, 1) := by decide +kernel
theorem dX0_sortParts_3 : decode cX0_sortParts 3 = .ok (.istore 4, 2) := by decide +kernel
theorem dX0_sortParts_5 : decode cX0_sortParts 5 = .ok (.iconst 0, 1) := by decide +kernel
theorem dX0_sortParts_6 : decode cX0_sortParts 6 = .ok (.istore 5, 2) := by decide +kernel
theorem dX0_sortParts_8 : decode cX0_sortParts 8 = .ok (.iload 5, 2) := by decide +kernel
theorem dX0_sortParts_10 : decode cX0_sortParts 10 = .ok (.iconst 3, 1) := by decide +kernel
theorem dX0_sortParts_11 : decode cX0_sortParts 11 = .ok (.if_icmp .ge 66, 3) := by decide +kernel
theorem dX0_sortParts_14 : decode cX0_sortParts 14 = .ok (.getstatic 31, 3) := by decide +kernel
theorem dX0_sortParts_17 : decode cX0_sortParts 17 = .ok (.iload_n 2, 1) := by decide +kernel
theorem dX0_sortParts_18 : decode cX0_sortParts 18 = .ok (.iload 5, 2) := by decide +kernel
theorem dX0_sortParts_20 : decode cX0_sortParts 20 = .ok (.iadd, 1) := by decide +kernel
theorem dX0_sortParts_21 : decode cX0_sortParts 21 = .ok (.iaload, 1) := by decide +kernel
theorem dX0_sortParts_22 : decode cX0_sortParts 22 = .ok (.istore 6, 2) := by decide +kernel
theorem dX0_sortParts_24 : decode cX0_sortParts 24 = .ok (.iload 6, 2) := by decide +kernel
theorem dX0_sortParts_26 : decode cX0_sortParts 26 = .ok (.iconst 1, 1) := by decide +kernel
theorem dX0_sortParts_27 : decode cX0_sortParts 27 = .ok (.if_icmp .eq 9, 3) := by decide +kernel
theorem dX0_sortParts_30 : decode cX0_sortParts 30 = .ok (.iload 6, 2) := by decide +kernel
theorem dX0_sortParts_32 : decode cX0_sortParts 32 = .ok (.iconst 2, 1) := by decide +kernel
theorem dX0_sortParts_33 : decode cX0_sortParts 33 = .ok (.if_icmp .ne 29, 3) := by decide +kernel
theorem dX0_sortParts_36 : decode cX0_sortParts 36 = .ok (.aload_n 0, 1) := by decide +kernel
theorem dX0_sortParts_37 : decode cX0_sortParts 37 = .ok (.getfield 15, 3) := by decide +kernel
theorem dX0_sortParts_40 : decode cX0_sortParts 40 = .ok (.iconst 3, 1) := by decide +kernel
theorem dX0_sortParts_41 : decode cX0_sortParts 41 = .ok (.iload_n 1, 1) := by decide +kernel
theorem dX0_sortParts_42 : decode cX0_sortParts 42 = .ok (.imul, 1) := by decide +kernel
theorem dX0_sortParts_43 : decode cX0_sortParts 43 = .ok (.iload_n 3, 1) := by decide +kernel
theorem dX0_sortParts_44 : decode cX0_sortParts 44 = .ok (.iadd, 1) := by decide +kernel
theorem dX0_sortParts_45 : decode cX0_sortParts 45 = .ok (.aload_n 0, 1) := by decide +kernel
theorem dX0_sortParts_46 : decode cX0_sortParts 46 = .ok (.getfield 11, 3) := by decide +kernel
theorem dX0_sortParts_49 : decode cX0_sortParts 49 = .ok (.iconst 4, 1) := by decide +kernel
theorem dX0_sortParts_50 : decode cX0_sortParts 50 = .ok (.iload_n 1, 1) := by decide +kernel
theorem dX0_sortParts_51 : decode cX0_sortParts 51 = .ok (.imul, 1) := by decide +kernel
theorem dX0_sortParts_52 : decode cX0_sortParts 52 = .ok (.iconst 1, 1) := by decide +kernel
theorem dX0_sortParts_53 : decode cX0_sortParts 53 = .ok (.iadd, 1) := by decide +kernel
theorem dX0_sortParts_54 : decode cX0_sortParts 54 = .ok (.iload 5, 2) := by decide +kernel
theorem dX0_sortParts_56 : decode cX0_sortParts 56 = .ok (.iadd, 1) := by decide +kernel
theorem dX0_sortParts_57 : decode cX0_sortParts 57 = .ok (.iaload, 1) := by decide +kernel
theorem dX0_sortParts_58 : decode cX0_sortParts 58 = .ok (.iastore, 1) := by decide +kernel
theorem dX0_sortParts_59 : decode cX0_sortParts 59 = .ok (.iinc 3 1, 3) := by decide +kernel
theorem dX0_sortParts_62 : decode cX0_sortParts 62 = .ok (.iload 6, 2) := by decide +kernel
theorem dX0_sortParts_64 : decode cX0_sortParts 64 = .ok (.iconst 1, 1) := by decide +kernel
theorem dX0_sortParts_65 : decode cX0_sortParts 65 = .ok (.if_icmp .ne 6, 3) := by decide +kernel
theorem dX0_sortParts_68 : decode cX0_sortParts 68 = .ok (.iinc 4 1, 3) := by decide +kernel
theorem dX0_sortParts_71 : decode cX0_sortParts 71 = .ok (.iinc 5 1, 3) := by decide +kernel
theorem dX0_sortParts_74 : decode cX0_sortParts 74 = .ok (.goto (-66), 3) := by decide +kernel
theorem dX0_sortParts_77 : decode cX0_sortParts 77 = .ok (.aload_n 0, 1) := by decide +kernel
theorem dX0_sortParts_78 : decode cX0_sortParts 78 = .ok (.getfield 18, 3) := by decide +kernel
theorem dX0_sortParts_81 : decode cX0_sortParts 81 = .ok (.iload_n 1, 1) := by decide +kernel
theorem dX0_sortParts_82 : decode cX0_sortParts 82 = .ok (.iload 4, 2) := by decide +kernel
theorem dX0_sortParts_84 : decode cX0_sortParts 84 = .ok (.iastore, 1) := by decide +kernel
theorem dX0_sortParts_85 : decode cX0_sortParts 85 = .ok (.return_, 1) := by decide +kernel
theorem dX1_init_0 : decode cX1_init 0 = .ok (.aload_n 0, 1) := by decide +kernel
theorem dX1_init_1 : decode cX1_init 1 = .ok (.invokespecial 1, 3) := by decide +kernel
theorem dX1_init_4 : decode cX1_init 4 = .ok (.aload_n 0, 1) := by decide +kernel
theorem dX1_init_5 : decode cX1_init 5 = .ok (.iconst 0, 1) := by decide +kernel
theorem dX1_init_6 : decode cX1_init 6 = .ok (.invokevirtual 7, 3) := by decide +kernel
theorem dX1_init_9 : decode cX1_init 9 = .ok (.return_, 1) := by decide +kernel
theorem dX1_restart_0 : decode cX1_restart 0 = .ok (.aload_n 0, 1) := by decide +kernel
theorem dX1_restart_1 : decode cX1_restart 1 = .ok (.iload_n 1, 1) := by decide +kernel
theorem dX1_restart_2 : decode cX1_restart 2 = .ok (.putfield 13, 3) := by decide +kernel
theorem dX1_restart_5 : decode cX1_restart 5 = .ok (.aload_n 0, 1) := by decide +kernel
theorem dX1_restart_6 : decode cX1_restart 6 = .ok (.iconst 0, 1) := by decide +kernel
theorem dX1_restart_7 : decode cX1_restart 7 = .ok (.putfield 17, 3) := by decide +kernel
theorem dX1_restart_10 : decode cX1_restart 10 = .ok (.aload_n 0, 1) := by decide +kernel
theorem dX1_restart_11 : decode cX1_restart 11 = .ok (.iconst 0, 1) := by decide +kernel
theorem dX1_restart_12 : decode cX1_restart 12 = .ok (.putfield 20, 3) := by decide +kernel
theorem dX1_restart_15 : decode cX1_restart 15 = .ok (.aload_n 0, 1) := by decide +kernel
theorem dX1_restart_16 : decode cX1_restart 16 = .ok (.ldc2_w 25, 3) := by decide +kernel
theorem dX1_restart_19 : decode cX1_restart 19 = .ok (.putfield 27, 3) := by decide +kernel
theorem dX1_restart_22 : decode cX1_restart 22 = .ok (.aload_n 0, 1) := by decide +kernel
theorem dX1_restart_23 : decode cX1_restart 23 = .ok (.invokevirtual 31, 3) := by decide +kernel
theorem dX1_restart_26 : decode cX1_restart 26 = .ok (.return_, 1) := by decide +kernel
theorem dX1_settle_0 : decode cX1_settle 0 = .ok (.aload_n 0, 1) := by decide +kernel
theorem dX1_settle_1 : decode cX1_settle 1 = .ok (.iconst 0, 1) := by decide +kernel
theorem dX1_settle_2 : decode cX1_settle 2 = .ok (.iconst 0, 1) := by decide +kernel
theorem dX1_settle_3 : decode cX1_settle 3 = .ok (.iconst (-1), 1) := by decide +kernel
theorem dX1_settle_4 : decode cX1_settle 4 = .ok (.invokevirtual 34, 3) := by decide +kernel
theorem dX1_settle_7 : decode cX1_settle 7 = .ok (.return_, 1) := by decide +kernel
theorem dX1_goOn_0 : decode cX1_goOn 0 = .ok (.aload_n 0, 1) := by decide +kernel
theorem dX1_goOn_1 : decode cX1_goOn 1 = .ok (.iload_n 1, 1) := by decide +kernel
theorem dX1_goOn_2 : decode cX1_goOn 2 = .ok (.putfield 38, 3) := by decide +kernel
theorem dX1_goOn_5 : decode cX1_goOn 5 = .ok (.aload_n 0, 1) := by decide +kernel
theorem dX1_goOn_6 : decode cX1_goOn 6 = .ok (.iload_n 2, 1) := by decide +kernel
theorem dX1_goOn_7 : decode cX1_goOn 7 = .ok (.putfield 41, 3) := by decide +kernel
theorem dX1_goOn_10 : decode cX1_goOn 10 = .ok (.aload_n 0, 1) := by decide +kernel
theorem dX1_goOn_11 : decode cX1_goOn 11 = .ok (.iload_n 3, 1) := by decide +kernel
theorem dX1_goOn_12 : decode cX1_goOn 12 = .ok (.putfield 44, 3) := by decide +kernel
theorem dX1_goOn_15 : decode cX1_goOn 15 = .ok (.return_, 1) := by decide +kernel
theorem dX1_end_0 : decode cX1_end 0 = .ok (.aload_n 0, 1) := by decide +kernel
theorem dX1_end_1 : decode cX1_end 1 = .ok (.iload_n 1, 1) := by decide +kernel
theorem dX1_end_2 : decode cX1_end 2 = .ok (.iconst 0, 1) := by decide +kernel
theorem dX1_end_3 : decode cX1_end 3 = .ok (.iload_n 2, 1) := by decide +kernel
theorem dX1_end_4 : decode cX1_end 4 = .ok (.invokevirtual 34, 3) := by decide +kernel
theorem dX1_end_7 : decode cX1_end 7 = .ok (.return_, 1) := by decide +kernel
theorem dX1_arise_0 : decode cX1_arise 0 = .ok (.aload_n 0, 1) := by decide +kernel
theorem dX1_arise_1 : decode cX1_arise 1 = .ok (.dup, 1) := by decide +kernel
theorem dX1_arise_2 : decode cX1_arise 2 = .ok (.getfield 20, 3) := by decide +kernel
theorem dX1_arise_5 : decode cX1_arise 5 = .ok (.iconst 1, 1) := by decide +kernel
theorem dX1_arise_6 : decode cX1_arise 6 = .ok (.iadd, 1) := by decide +kernel
theorem dX1_arise_7 : decode cX1_arise 7 = .ok (.putfield 20, 3) := by decide +kernel
theorem dX1_arise_10 : decode cX1_arise 10 = .ok (.aload_n 0, 1) := by decide +kernel
theorem dX1_arise_11 : decode cX1_arise 11 = .ok (.getfield 20, 3) := by decide +kernel
theorem dX1_arise_14 : decode cX1_arise 14 = .ok (.bipush 20, 2) := by decide +kernel
theorem dX1_arise_16 : decode cX1_arise 16 = .ok (.if_icmp .le 7, 3) := by decide +kernel
theorem dX1_arise_19 : decode cX1_arise 19 = .ok (.iconst 1, 1) := by decide +kernel
theorem dX1_arise_20 : decode cX1_arise 20 = .ok (.goto 4, 3) := by decide +kernel
theorem dX1_arise_23 : decode cX1_arise 23 = .ok (.iconst 0, 1) := by decide +kernel
theorem dX1_arise_24 : decode cX1_arise 24 = .ok (.istore 4, 2) := by decide +kernel
theorem dX1_arise_26 : decode cX1_arise 26 = .ok (.aload_n 0, 1) := by decide +kernel
theorem dX1_arise_27 : decode cX1_arise 27 = .ok (.iload 4, 2) := by decide +kernel
theorem dX1_arise_29 : decode cX1_arise 29 = .ok (.ifCond .eq 8, 3) := by decide +kernel
theorem dX1_arise_32 : decode cX1_arise 32 = .ok (.bipush 10, 2) := by decide +kernel
theorem dX1_arise_34 : decode cX1_arise 34 = .ok (.goto 4, 3) := by decide +kernel
theorem dX1_arise_37 : decode cX1_arise 37 = .ok (.iload_n 1, 1) := by decide +kernel
theorem dX1_arise_38 : decode cX1_arise 38 = .ok (.putfield 38, 3) := by decide +kernel
theorem dX1_arise_41 : decode cX1_arise 41 = .ok (.aload_n 0, 1) := by decide +kernel
theorem dX1_arise_42 : decode cX1_arise 42 = .ok (.iload 4, 2) := by decide +kernel
theorem dX1_arise_44 : decode cX1_arise 44 = .ok (.ifCond .eq 7, 3) := by decide +kernel
theorem dX1_arise_47 : decode cX1_arise 47 = .ok (.iconst 0, 1) := by decide +kernel
theorem dX1_arise_48 : decode cX1_arise 48 = .ok (.goto 4, 3) := by decide +kernel
theorem dX1_arise_51 : decode cX1_arise 51 = .ok (.iload_n 2, 1) := by decide +kernel
theorem dX1_arise_52 : decode cX1_arise 52 = .ok (.putfield 41, 3) := by decide +kernel
theorem dX1_arise_55 : decode cX1_arise 55 = .ok (.aload_n 0, 1) := by decide +kernel
theorem dX1_arise_56 : decode cX1_arise 56 = .ok (.iload_n 3, 1) := by decide +kernel
theorem dX1_arise_57 : decode cX1_arise 57 = .ok (.putfield 44, 3) := by decide +kernel
theorem dX1_arise_60 : decode cX1_arise 60 = .ok (.return_, 1) := by decide +kernel
theorem dX1_takesStep_0 : decode cX1_takesStep 0 = .ok (.aload_n 0, 1) := by decide +kernel
theorem dX1_takesStep_1 : decode cX1_takesStep 1 = .ok (.getfield 17, 3) := by decide +kernel
theorem dX1_takesStep_4 : decode cX1_takesStep 4 = .ok (.aload_n 0, 1) := by decide +kernel
theorem dX1_takesStep_5 : decode cX1_takesStep 5 = .ok (.getfield 13, 3) := by decide +kernel
theorem dX1_takesStep_8 : decode cX1_takesStep 8 = .ok (.if_icmp .ge 15, 3) := by decide +kernel
theorem dX1_takesStep_11 : decode cX1_takesStep 11 = .ok (.aload_n 0, 1) := by decide +kernel
theorem dX1_takesStep_12 : decode cX1_takesStep 12 = .ok (.dup, 1) := by decide +kernel
theorem dX1_takesStep_13 : decode cX1_takesStep 13 = .ok (.getfield 17, 3) := by decide +kernel
theorem dX1_takesStep_16 : decode cX1_takesStep 16 = .ok (.iconst 1, 1) := by decide +kernel
theorem dX1_takesStep_17 : decode cX1_takesStep 17 = .ok (.iadd, 1) := by decide +kernel
theorem dX1_takesStep_18 : decode cX1_takesStep 18 = .ok (.putfield 17, 3) := by decide +kernel
theorem dX1_takesStep_21 : decode cX1_takesStep 21 = .ok (.iconst 1, 1) := by decide +kernel
theorem dX1_takesStep_22 : decode cX1_takesStep 22 = .ok (.ireturn, 1) := by decide +kernel
theorem dX1_takesStep_23 : decode cX1_takesStep 23 = .ok (.aload_n 0, 1) := by decide +kernel
theorem dX1_takesStep_24 : decode cX1_takesStep 24 = .ok (.bipush 9, 2) := by decide +kernel
theorem dX1_takesStep_26 : decode cX1_takesStep 26 = .ok (.putfield 38, 3) := by decide +kernel
theorem dX1_takesStep_29 : decode cX1_takesStep 29 = .ok (.aload_n 0, 1) := by decide +kernel
theorem dX1_takesStep_30 : decode cX1_takesStep 30 = .ok (.iconst 0, 1) := by decide +kernel
theorem dX1_takesStep_31 : decode cX1_takesStep 31 = .ok (.putfield 41, 3) := by decide +kernel
theorem dX1_takesStep_34 : decode cX1_takesStep 34 = .ok (.aload_n 0, 1) := by decide +kernel
theorem dX1_takesStep_35 : decode cX1_takesStep 35 = .ok (.iload_n 1, 1) := by decide +kernel
theorem dX1_takesStep_36 : decode cX1_takesStep 36 = .ok (.putfield 44, 3) := by decide +kernel
theorem dX1_takesStep_39 : decode cX1_takesStep 39 = .ok (.iconst 0, 1) := by decide +kernel
theorem dX1_takesStep_40 : decode cX1_takesStep 40 = .ok (.ireturn, 1) := by decide +kernel
theorem dX1_isFailing_0 : decode cX1_isFailing 0 = .ok (.aload_n 0, 1) := by decide +kernel
theorem dX1_isFailing_1 : decode cX1_isFailing 1 = .ok (.getfield 38, 3) := by decide +kernel
theorem dX1_isFailing_4 : decode cX1_isFailing 4 = .ok (.ifCond .le 16, 3) := by decide +kernel
theorem dX1_isFailing_7 : decode cX1_isFailing 7 = .ok (.aload_n 0, 1) := by decide +kernel
theorem dX1_isFailing_8 : decode cX1_isFailing 8 = .ok (.getfield 38, 3) := by decide +kernel
theorem dX1_isFailing_11 : decode cX1_isFailing 11 = .ok (.bipush 9, 2) := by decide +kernel
theorem dX1_isFailing_13 : decode cX1_isFailing 13 = .ok (.if_icmp .ge 7, 3) := by decide +kernel
theorem dX1_isFailing_16 : decode cX1_isFailing 16 = .ok (.iconst 1, 1) := by decide +kernel
theorem dX1_isFailing_17 : decode cX1_isFailing 17 = .ok (.goto 4, 3) := by decide +kernel
theorem dX1_isFailing_20 : decode cX1_isFailing 20 = .ok (.iconst 0, 1) := by decide +kernel
theorem dX1_isFailing_21 : decode cX1_isFailing 21 = .ok (.ireturn, 1) := by decide +kernel
theorem dX2_of_0 : decode cX2_of 0 = .ok (.iload_n 0, 1) := by decide +kernel
theorem dX2_of_1 : decode cX2_of 1 = .ok (.tableswitch 259 5 28 #[111, 111, 124, 111, 259, 149, 149, 149, 259, 259, 165, 190, 200, 200, 209, 224, 259, 259, 235, 235, 259, 235, 259, 240], 111) := by decide +kernel
theorem dX2_of_112 : decode cX2_of 112 = .ok (.lload_n 1, 1) := by decide +kernel
theorem dX2_of_113 : decode cX2_of 113 = .ok (.invokestatic 7, 3) := by decide +kernel
theorem dX2_of_116 : decode cX2_of 116 = .ok (.lload_n 3, 1) := by decide +kernel
theorem dX2_of_117 : decode cX2_of 117 = .ok (.invokestatic 7, 3) := by decide +kernel
theorem dX2_of_120 : decode cX2_of 120 = .ok (.iconst 0, 1) := by decide +kernel
theorem dX2_of_121 : decode cX2_of 121 = .ok (.invokestatic 13, 3) := by decide +kernel
theorem dX2_of_124 : decode cX2_of 124 = .ok (.ireturn, 1) := by decide +kernel
theorem dX2_of_125 : decode cX2_of 125 = .ok (.lload_n 1, 1) := by decide +kernel
theorem dX2_of_126 : decode cX2_of 126 = .ok (.invokestatic 7, 3) := by decide +kernel
theorem dX2_of_129 : decode cX2_of 129 = .ok (.lload_n 3, 1) := by decide +kernel
theorem dX2_of_130 : decode cX2_of 130 = .ok (.invokestatic 7, 3) := by decide +kernel
theorem dX2_of_133 : decode cX2_of 133 = .ok (.lload_n 3, 1) := by decide +kernel
theorem dX2_of_134 : decode cX2_of 134 = .ok (.invokestatic 17, 3) := by decide +kernel
theorem dX2_of_137 : decode cX2_of 137 = .ok (.ifCond .ne 8, 3) := by decide +kernel
theorem dX2_of_140 : decode cX2_of 140 = .ok (.bipush 6, 2) := by decide +kernel
theorem dX2_of_142 : decode cX2_of 142 = .ok (.goto 4, 3) := by decide +kernel
theorem dX2_of_145 : decode cX2_of 145 = .ok (.iconst 0, 1) := by decide +kernel
theorem dX2_of_146 : decode cX2_of 146 = .ok (.invokestatic 13, 3) := by decide +kernel
theorem dX2_of_149 : decode cX2_of 149 = .ok (.ireturn, 1) := by decide +kernel
theorem dX2_of_150 : decode cX2_of 150 = .ok (.lload_n 1, 1) := by decide +kernel
theorem dX2_of_151 : decode cX2_of 151 = .ok (.invokestatic 7, 3) := by decide +kernel
theorem dX2_of_154 : decode cX2_of 154 = .ok (.lload_n 1, 1) := by decide +kernel
theorem dX2_of_155 : decode cX2_of 155 = .ok (.invokestatic 17, 3) := by decide +kernel
theorem dX2_of_158 : decode cX2_of 158 = .ok (.invokestatic 22, 3) := by decide +kernel
theorem dX2_of_161 : decode cX2_of 161 = .ok (.iconst 0, 1) := by decide +kernel
theorem dX2_of_162 : decode cX2_of 162 = .ok (.invokestatic 13, 3) := by decide +kernel
theorem dX2_of_165 : decode cX2_of 165 = .ok (.ireturn, 1) := by decide +kernel
theorem dX2_of_166 : decode cX2_of 166 = .ok (.lload_n 3, 1) := by decide +kernel
theorem dX2_of_167 : decode cX2_of 167 = .ok (.invokestatic 7, 3) := by decide +kernel
theorem dX2_of_170 : decode cX2_of 170 = .ok (.lload_n 1, 1) := by decide +kernel
theorem dX2_of_171 : decode cX2_of 171 = .ok (.lload_n 1, 1) := by decide +kernel
theorem dX2_of_172 : decode cX2_of 172 = .ok (.invokestatic 26, 3) := by decide +kernel
theorem dX2_of_175 : decode cX2_of 175 = .ok (.invokestatic 30, 3) := by decide +kernel
theorem dX2_of_178 : decode cX2_of 178 = .ok (.lload_n 3, 1) := by decide +kernel
theorem dX2_of_179 : decode cX2_of 179 = .ok (.invokestatic 17, 3) := by decide +kernel
theorem dX2_of_182 : decode cX2_of 182 = .ok (.iload 7, 2) := by decide +kernel
theorem dX2_of_184 : decode cX2_of 184 = .ok (.invokestatic 34, 3) := by decide +kernel
theorem dX2_of_187 : decode cX2_of 187 = .ok (.invokestatic 13, 3) := by decide +kernel
theorem dX2_of_190 : decode cX2_of 190 = .ok (.ireturn, 1) := by decide +kernel
theorem dX2_of_191 : decode cX2_of 191 = .ok (.lload_n 1, 1) := by decide +kernel
theorem dX2_of_192 : decode cX2_of 192 = .ok (.lload_n 3, 1) := by decide +kernel
theorem dX2_of_193 : decode cX2_of 193 = .ok (.lload 5, 2) := by decide +kernel
theorem dX2_of_195 : decode cX2_of 195 = .ok (.iload 7, 2) := by decide +kernel
theorem dX2_of_197 : decode cX2_of 197 = .ok (.invokestatic 38, 3) := by decide +kernel
theorem dX2_of_200 : decode cX2_of 200 = .ok (.ireturn, 1) := by decide +kernel
theorem dX2_of_201 : decode cX2_of 201 = .ok (.lload_n 1, 1) := by decide +kernel
theorem dX2_of_202 : decode cX2_of 202 = .ok (.lload_n 1, 1) := by decide +kernel
theorem dX2_of_203 : decode cX2_of 203 = .ok (.invokestatic 42, 3) := by decide +kernel
theorem dX2_of_206 : decode cX2_of 206 = .ok (.invokestatic 30, 3) := by decide +kernel
theorem dX2_of_209 : decode cX2_of 209 = .ok (.ireturn, 1) := by decide +kernel
theorem dX2_of_210 : decode cX2_of 210 = .ok (.lload_n 1, 1) := by decide +kernel
theorem dX2_of_211 : decode cX2_of 211 = .ok (.lload_n 3, 1) := by decide +kernel
theorem dX2_of_212 : decode cX2_of 212 = .ok (.lload 5, 2) := by decide +kernel
theorem dX2_of_214 : decode cX2_of 214 = .ok (.iload 7, 2) := by decide +kernel
theorem dX2_of_216 : decode cX2_of 216 = .ok (.iload 8, 2) := by decide +kernel
theorem dX2_of_218 : decode cX2_of 218 = .ok (.invokestatic 45, 3) := by decide +kernel
theorem dX2_of_221 : decode cX2_of 221 = .ok (.invokestatic 50, 3) := by decide +kernel
theorem dX2_of_224 : decode cX2_of 224 = .ok (.ireturn, 1) := by decide +kernel
theorem dX2_of_225 : decode cX2_of 225 = .ok (.lload_n 1, 1) := by decide +kernel
theorem dX2_of_226 : decode cX2_of 226 = .ok (.invokestatic 7, 3) := by decide +kernel
theorem dX2_of_229 : decode cX2_of 229 = .ok (.bipush 7, 2) := by decide +kernel
theorem dX2_of_231 : decode cX2_of 231 = .ok (.iconst 0, 1) := by decide +kernel
theorem dX2_of_232 : decode cX2_of 232 = .ok (.invokestatic 13, 3) := by decide +kernel
theorem dX2_of_235 : decode cX2_of 235 = .ok (.ireturn, 1) := by decide +kernel
theorem dX2_of_236 : decode cX2_of 236 = .ok (.lload_n 1, 1) := by decide +kernel
theorem dX2_of_237 : decode cX2_of 237 = .ok (.invokestatic 7, 3) := by decide +kernel
theorem dX2_of_240 : decode cX2_of 240 = .ok (.ireturn, 1) := by decide +kernel
theorem dX2_of_241 : decode cX2_of 241 = .ok (.lload_n 1, 1) := by decide +kernel
theorem dX2_of_242 : decode cX2_of 242 = .ok (.lload_n 1, 1) := by decide +kernel
theorem dX2_of_243 : decode cX2_of 243 = .ok (.invokestatic 53, 3) := by decide +kernel
theorem dX2_of_246 : decode cX2_of 246 = .ok (.bipush 7, 2) := by decide +kernel
theorem dX2_of_248 : decode cX2_of 248 = .ok (.if_icmp .ne 7, 3) := by decide +kernel
theorem dX2_of_251 : decode cX2_of 251 = .ok (.iconst 1, 1) := by decide +kernel
theorem dX2_of_252 : decode cX2_of 252 = .ok (.goto 4, 3) := by decide +kernel
theorem dX2_of_255 : decode cX2_of 255 = .ok (.iconst 0, 1) := by decide +kernel
theorem dX2_of_256 : decode cX2_of 256 = .ok (.invokestatic 30, 3) := by decide +kernel
theorem dX2_of_259 : decode cX2_of 259 = .ok (.ireturn, 1) := by decide +kernel
theorem dX2_of_260 : decode cX2_of 260 = .ok (.iconst 0, 1) := by decide +kernel
theorem dX2_of_261 : decode cX2_of 261 = .ok (.ireturn, 1) := by decide +kernel
theorem dX2_firstOf_0 : decode cX2_firstOf 0 = .ok (.iload_n 0, 1) := by decide +kernel
theorem dX2_firstOf_1 : decode cX2_firstOf 1 = .ok (.ifCond .eq 5, 3) := by decide +kernel
theorem dX2_firstOf_4 : decode cX2_firstOf 4 = .ok (.iload_n 0, 1) := by decide +kernel
theorem dX2_firstOf_5 : decode cX2_firstOf 5 = .ok (.ireturn, 1) := by decide +kernel
theorem dX2_firstOf_6 : decode cX2_firstOf 6 = .ok (.iload_n 1, 1) := by decide +kernel
theorem dX2_firstOf_7 : decode cX2_firstOf 7 = .ok (.ifCond .eq 7, 3) := by decide +kernel
theorem dX2_firstOf_10 : decode cX2_firstOf 10 = .ok (.iload_n 1, 1) := by decide +kernel
theorem dX2_firstOf_11 : decode cX2_firstOf 11 = .ok (.goto 4, 3) := by decide +kernel
theorem dX2_firstOf_14 : decode cX2_firstOf 14 = .ok (.iload_n 2, 1) := by decide +kernel
theorem dX2_firstOf_15 : decode cX2_firstOf 15 = .ok (.ireturn, 1) := by decide +kernel
theorem dX2_ofThing_0 : decode cX2_ofThing 0 = .ok (.iload_n 2, 1) := by decide +kernel
theorem dX2_ofThing_1 : decode cX2_ofThing 1 = .ok (.ifCond .eq 5, 3) := by decide +kernel
theorem dX2_ofThing_4 : decode cX2_ofThing 4 = .ok (.iconst 0, 1) := by decide +kernel
theorem dX2_ofThing_5 : decode cX2_ofThing 5 = .ok (.ireturn, 1) := by decide +kernel
theorem dX2_ofThing_6 : decode cX2_ofThing 6 = .ok (.lload_n 0, 1) := by decide +kernel
theorem dX2_ofThing_7 : decode cX2_ofThing 7 = .ok (.ldc2_w 56, 3) := by decide +kernel
theorem dX2_ofThing_10 : decode cX2_ofThing 10 = .ok (.lcmp, 1) := by decide +kernel
theorem dX2_ofThing_11 : decode cX2_ofThing 11 = .ok (.ifCond .ne 7, 3) := by decide +kernel
theorem dX2_ofThing_14 : decode cX2_ofThing 14 = .ok (.iconst 1, 1) := by decide +kernel
theorem dX2_ofThing_15 : decode cX2_ofThing 15 = .ok (.goto 4, 3) := by decide +kernel
theorem dX2_ofThing_18 : decode cX2_ofThing 18 = .ok (.iconst 4, 1) := by decide +kernel
theorem dX2_ofThing_19 : decode cX2_ofThing 19 = .ok (.ireturn, 1) := by decide +kernel
theorem dX2_ofWhole_0 : decode cX2_ofWhole 0 = .ok (.lload_n 0, 1) := by decide +kernel
theorem dX2_ofWhole_1 : decode cX2_ofWhole 1 = .ok (.lload_n 0, 1) := by decide +kernel
theorem dX2_ofWhole_2 : decode cX2_ofWhole 2 = .ok (.invokestatic 53, 3) := by decide +kernel
theorem dX2_ofWhole_5 : decode cX2_ofWhole 5 = .ok (.ifCond .ne 7, 3) := by decide +kernel
theorem dX2_ofWhole_8 : decode cX2_ofWhole 8 = .ok (.iconst 1, 1) := by decide +kernel
theorem dX2_ofWhole_9 : decode cX2_ofWhole 9 = .ok (.goto 4, 3) := by decide +kernel
theorem dX2_ofWhole_12 : decode cX2_ofWhole 12 = .ok (.iconst 0, 1) := by decide +kernel
theorem dX2_ofWhole_13 : decode cX2_ofWhole 13 = .ok (.invokestatic 30, 3) := by decide +kernel
theorem dX2_ofWhole_16 : decode cX2_ofWhole 16 = .ok (.ireturn, 1) := by decide +kernel
theorem dX2_ofLength_0 : decode cX2_ofLength 0 = .ok (.iload_n 0, 1) := by decide +kernel
theorem dX2_ofLength_1 : decode cX2_ofLength 1 = .ok (.ifCond .ge 5, 3) := by decide +kernel
theorem dX2_ofLength_4 : decode cX2_ofLength 4 = .ok (.iconst 3, 1) := by decide +kernel
theorem dX2_ofLength_5 : decode cX2_ofLength 5 = .ok (.ireturn, 1) := by decide +kernel
theorem dX2_ofLength_6 : decode cX2_ofLength 6 = .ok (.iload_n 0, 1) := by decide +kernel
theorem dX2_ofLength_7 : decode cX2_ofLength 7 = .ok (.bipush 16, 2) := by decide +kernel
theorem dX2_ofLength_9 : decode cX2_ofLength 9 = .ok (.if_icmp .le 8, 3) := by decide +kernel
theorem dX2_ofLength_12 : decode cX2_ofLength 12 = .ok (.bipush 12, 2) := by decide +kernel
theorem dX2_ofLength_14 : decode cX2_ofLength 14 = .ok (.goto 4, 3) := by decide +kernel
theorem dX2_ofLength_17 : decode cX2_ofLength 17 = .ok (.iconst 0, 1) := by decide +kernel
theorem dX2_ofLength_18 : decode cX2_ofLength 18 = .ok (.ireturn, 1) := by decide +kernel
theorem dX2_ofPlace_0 : decode cX2_ofPlace 0 = .ok (.iload_n 0, 1) := by decide +kernel
theorem dX2_ofPlace_1 : decode cX2_ofPlace 1 = .ok (.ifCond .lt 8, 3) := by decide +kernel
theorem dX2_ofPlace_4 : decode cX2_ofPlace 4 = .ok (.iload_n 0, 1) := by decide +kernel
theorem dX2_ofPlace_5 : decode cX2_ofPlace 5 = .ok (.iload_n 1, 1) := by decide +kernel
theorem dX2_ofPlace_6 : decode cX2_ofPlace 6 = .ok (.if_icmp .lt 7, 3) := by decide +kernel
theorem dX2_ofPlace_9 : decode cX2_ofPlace 9 = .ok (.iconst 2, 1) := by decide +kernel
theorem dX2_ofPlace_10 : decode cX2_ofPlace 10 = .ok (.goto 4, 3) := by decide +kernel
theorem dX2_ofPlace_13 : decode cX2_ofPlace 13 = .ok (.iconst 0, 1) := by decide +kernel
theorem dX2_ofPlace_14 : decode cX2_ofPlace 14 = .ok (.ireturn, 1) := by decide +kernel
theorem dX2_ofWrite_0 : decode cX2_ofWrite 0 = .ok (.lload 4, 2) := by decide +kernel
theorem dX2_ofWrite_2 : decode cX2_ofWrite 2 = .ok (.invokestatic 7, 3) := by decide +kernel
theorem dX2_ofWrite_5 : decode cX2_ofWrite 5 = .ok (.istore 7, 2) := by decide +kernel
theorem dX2_ofWrite_7 : decode cX2_ofWrite 7 = .ok (.lload_n 0, 1) := by decide +kernel
theorem dX2_ofWrite_8 : decode cX2_ofWrite 8 = .ok (.invokestatic 60, 3) := by decide +kernel
theorem dX2_ofWrite_11 : decode cX2_ofWrite 11 = .ok (.ifCond .eq 18, 3) := by decide +kernel
theorem dX2_ofWrite_14 : decode cX2_ofWrite 14 = .ok (.lload 4, 2) := by decide +kernel
theorem dX2_ofWrite_16 : decode cX2_ofWrite 16 = .ok (.invokestatic 63, 3) := by decide +kernel
theorem dX2_ofWrite_19 : decode cX2_ofWrite 19 = .ok (.ifCond .eq 7, 3) := by decide +kernel
theorem dX2_ofWrite_22 : decode cX2_ofWrite 22 = .ok (.iconst 0, 1) := by decide +kernel
theorem dX2_ofWrite_23 : decode cX2_ofWrite 23 = .ok (.goto 4, 3) := by decide +kernel
theorem dX2_ofWrite_26 : decode cX2_ofWrite 26 = .ok (.iconst 4, 1) := by decide +kernel
theorem dX2_ofWrite_27 : decode cX2_ofWrite 27 = .ok (.istore 7, 2) := by decide +kernel
theorem dX2_ofWrite_29 : decode cX2_ofWrite 29 = .ok (.lload_n 2, 1) := by decide +kernel
theorem dX2_ofWrite_30 : decode cX2_ofWrite 30 = .ok (.invokestatic 7, 3) := by decide +kernel
theorem dX2_ofWrite_33 : decode cX2_ofWrite 33 = .ok (.iload 7, 2) := by decide +kernel
theorem dX2_ofWrite_35 : decode cX2_ofWrite 35 = .ok (.lload_n 0, 1) := by decide +kernel
theorem dX2_ofWrite_36 : decode cX2_ofWrite 36 = .ok (.lload_n 0, 1) := by decide +kernel
theorem dX2_ofWrite_37 : decode cX2_ofWrite 37 = .ok (.invokestatic 26, 3) := by decide +kernel
theorem dX2_ofWrite_40 : decode cX2_ofWrite 40 = .ok (.invokestatic 30, 3) := by decide +kernel
theorem dX2_ofWrite_43 : decode cX2_ofWrite 43 = .ok (.invokestatic 13, 3) := by decide +kernel
theorem dX2_ofWrite_46 : decode cX2_ofWrite 46 = .ok (.istore 8, 2) := by decide +kernel
theorem dX2_ofWrite_48 : decode cX2_ofWrite 48 = .ok (.iload 8, 2) := by decide +kernel
theorem dX2_ofWrite_50 : decode cX2_ofWrite 50 = .ok (.lload_n 2, 1) := by decide +kernel
theorem dX2_ofWrite_51 : decode cX2_ofWrite 51 = .ok (.invokestatic 17, 3) := by decide +kernel
theorem dX2_ofWrite_54 : decode cX2_ofWrite 54 = .ok (.iload 6, 2) := by decide +kernel
theorem dX2_ofWrite_56 : decode cX2_ofWrite 56 = .ok (.invokestatic 34, 3) := by decide +kernel
theorem dX2_ofWrite_59 : decode cX2_ofWrite 59 = .ok (.lload_n 0, 1) := by decide +kernel
theorem dX2_ofWrite_60 : decode cX2_ofWrite 60 = .ok (.lload 4, 2) := by decide +kernel
theorem dX2_ofWrite_62 : decode cX2_ofWrite 62 = .ok (.invokestatic 66, 3) := by decide +kernel
theorem dX2_ofWrite_65 : decode cX2_ofWrite 65 = .ok (.ifCond .eq 7, 3) := by decide +kernel
theorem dX2_ofWrite_68 : decode cX2_ofWrite 68 = .ok (.iconst 5, 1) := by decide +kernel
theorem dX2_ofWrite_69 : decode cX2_ofWrite 69 = .ok (.goto 4, 3) := by decide +kernel
theorem dX2_ofWrite_72 : decode cX2_ofWrite 72 = .ok (.iconst 0, 1) := by decide +kernel
theorem dX2_ofWrite_73 : decode cX2_ofWrite 73 = .ok (.invokestatic 13, 3) := by decide +kernel
theorem dX2_ofWrite_76 : decode cX2_ofWrite 76 = .ok (.ireturn, 1) := by decide +kernel
theorem dX2_ofCopy_0 : decode cX2_ofCopy 0 = .ok (.lload 4, 2) := by decide +kernel
theorem dX2_ofCopy_2 : decode cX2_ofCopy 2 = .ok (.invokestatic 7, 3) := by decide +kernel
theorem dX2_ofCopy_5 : decode cX2_ofCopy 5 = .ok (.ifCond .eq 9, 3) := by decide +kernel
theorem dX2_ofCopy_8 : decode cX2_ofCopy 8 = .ok (.lload 4, 2) := by decide +kernel
theorem dX2_ofCopy_10 : decode cX2_ofCopy 10 = .ok (.invokestatic 7, 3) := by decide +kernel
theorem dX2_ofCopy_13 : decode cX2_ofCopy 13 = .ok (.ireturn, 1) := by decide +kernel
theorem dX2_ofCopy_14 : decode cX2_ofCopy 14 = .ok (.lload_n 0, 1) := by decide +kernel
theorem dX2_ofCopy_15 : decode cX2_ofCopy 15 = .ok (.ldc2_w 56, 3) := by decide +kernel
theorem dX2_ofCopy_18 : decode cX2_ofCopy 18 = .ok (.lcmp, 1) := by decide +kernel
theorem dX2_ofCopy_19 : decode cX2_ofCopy 19 = .ok (.ifCond .eq 11, 3) := by decide +kernel
theorem dX2_ofCopy_22 : decode cX2_ofCopy 22 = .ok (.lload_n 2, 1) := by decide +kernel
theorem dX2_ofCopy_23 : decode cX2_ofCopy 23 = .ok (.ldc2_w 56, 3) := by decide +kernel
theorem dX2_ofCopy_26 : decode cX2_ofCopy 26 = .ok (.lcmp, 1) := by decide +kernel
theorem dX2_ofCopy_27 : decode cX2_ofCopy 27 = .ok (.ifCond .ne 5, 3) := by decide +kernel
theorem dX2_ofCopy_30 : decode cX2_ofCopy 30 = .ok (.iconst 1, 1) := by decide +kernel
theorem dX2_ofCopy_31 : decode cX2_ofCopy 31 = .ok (.ireturn, 1) := by decide +kernel
theorem dX2_ofCopy_32 : decode cX2_ofCopy 32 = .ok (.lload_n 0, 1) := by decide +kernel
theorem dX2_ofCopy_33 : decode cX2_ofCopy 33 = .ok (.invokestatic 26, 3) := by decide +kernel
theorem dX2_ofCopy_36 : decode cX2_ofCopy 36 = .ok (.ifCond .eq 21, 3) := by decide +kernel
theorem dX2_ofCopy_39 : decode cX2_ofCopy 39 = .ok (.lload_n 2, 1) := by decide +kernel
theorem dX2_ofCopy_40 : decode cX2_ofCopy 40 = .ok (.invokestatic 26, 3) := by decide +kernel
theorem dX2_ofCopy_43 : decode cX2_ofCopy 43 = .ok (.ifCond .eq 14, 3) := by decide +kernel
theorem dX2_ofCopy_46 : decode cX2_ofCopy 46 = .ok (.lload_n 0, 1) := by decide +kernel
theorem dX2_ofCopy_47 : decode cX2_ofCopy 47 = .ok (.invokestatic 60, 3) := by decide +kernel
theorem dX2_ofCopy_50 : decode cX2_ofCopy 50 = .ok (.lload_n 2, 1) := by decide +kernel
theorem dX2_ofCopy_51 : decode cX2_ofCopy 51 = .ok (.invokestatic 60, 3) := by decide +kernel
theorem dX2_ofCopy_54 : decode cX2_ofCopy 54 = .ok (.if_icmp .eq 5, 3) := by decide +kernel
theorem dX2_ofCopy_57 : decode cX2_ofCopy 57 = .ok (.iconst 5, 1) := by decide +kernel
theorem dX2_ofCopy_58 : decode cX2_ofCopy 58 = .ok (.ireturn, 1) := by decide +kernel
theorem dX2_ofCopy_59 : decode cX2_ofCopy 59 = .ok (.lload 4, 2) := by decide +kernel
theorem dX2_ofCopy_61 : decode cX2_ofCopy 61 = .ok (.invokestatic 17, 3) := by decide +kernel
theorem dX2_ofCopy_64 : decode cX2_ofCopy 64 = .ok (.ifCond .lt 13, 3) := by decide +kernel
theorem dX2_ofCopy_67 : decode cX2_ofCopy 67 = .ok (.lload 4, 2) := by decide +kernel
theorem dX2_ofCopy_69 : decode cX2_ofCopy 69 = .ok (.invokestatic 17, 3) := by decide +kernel
theorem dX2_ofCopy_72 : decode cX2_ofCopy 72 = .ok (.iload 6, 2) := by decide +kernel
theorem dX2_ofCopy_74 : decode cX2_ofCopy 74 = .ok (.if_icmp .le 7, 3) := by decide +kernel
theorem dX2_ofCopy_77 : decode cX2_ofCopy 77 = .ok (.iconst 2, 1) := by decide +kernel
theorem dX2_ofCopy_78 : decode cX2_ofCopy 78 = .ok (.goto 4, 3) := by decide +kernel
theorem dX2_ofCopy_81 : decode cX2_ofCopy 81 = .ok (.iconst 0, 1) := by decide +kernel
theorem dX2_ofCopy_82 : decode cX2_ofCopy 82 = .ok (.ireturn, 1) := by decide +kernel
theorem dX3_init_0 : decode cX3_init 0 = .ok (.aload_n 0, 1) := by decide +kernel
theorem dX3_init_1 : decode cX3_init 1 = .ok (.invokespecial 3, 3) := by decide +kernel
theorem dX3_init_4 : decode cX3_init 4 = .ok (.aload_n 0, 1) := by decide +kernel
theorem dX3_init_5 : decode cX3_init 5 = .ok (.sipush 1608, 3) := by decide +kernel
theorem dX3_init_8 : decode cX3_init 8 = .ok (.newarray .long, 2) := by decide +kernel
theorem dX3_init_10 : decode cX3_init 10 = .ok (.putfield 11, 3) := by decide +kernel
theorem dX3_init_13 : decode cX3_init 13 = .ok (.aload_n 0, 1) := by decide +kernel
theorem dX3_init_14 : decode cX3_init 14 = .ok (.iconst 0, 1) := by decide +kernel
theorem dX3_init_15 : decode cX3_init 15 = .ok (.putfield 15, 3) := by decide +kernel
theorem dX3_init_18 : decode cX3_init 18 = .ok (.return_, 1) := by decide +kernel
theorem dX3_restart_0 : decode cX3_restart 0 = .ok (.aload_n 0, 1) := by decide +kernel
theorem dX3_restart_1 : decode cX3_restart 1 = .ok (.iconst 0, 1) := by decide +kernel
theorem dX3_restart_2 : decode cX3_restart 2 = .ok (.putfield 15, 3) := by decide +kernel
theorem dX3_restart_5 : decode cX3_restart 5 = .ok (.return_, 1) := by decide +kernel
theorem dX3_open_0 : decode cX3_open 0 = .ok (.aload_n 0, 1) := by decide +kernel
theorem dX3_open_1 : decode cX3_open 1 = .ok (.getfield 15, 3) := by decide +kernel
theorem dX3_open_4 : decode cX3_open 4 = .ok (.sipush 201, 3) := by decide +kernel
theorem dX3_open_7 : decode cX3_open 7 = .ok (.if_icmp .ge 10, 3) := by decide +kernel
theorem dX3_open_10 : decode cX3_open 10 = .ok (.aload_n 0, 1) := by decide +kernel
theorem dX3_open_11 : decode cX3_open 11 = .ok (.getfield 15, 3) := by decide +kernel
theorem dX3_open_14 : decode cX3_open 14 = .ok (.goto 6, 3) := by decide +kernel
theorem dX3_open_17 : decode cX3_open 17 = .ok (.sipush 200, 3) := by decide +kernel
theorem dX3_open_20 : decode cX3_open 20 = .ok (.istore_n 1, 1) := by decide +kernel
theorem dX3_open_21 : decode cX3_open 21 = .ok (.aload_n 0, 1) := by decide +kernel
theorem dX3_open_22 : decode cX3_open 22 = .ok (.iload_n 1, 1) := by decide +kernel
theorem dX3_open_23 : decode cX3_open 23 = .ok (.iconst 1, 1) := by decide +kernel
theorem dX3_open_24 : decode cX3_open 24 = .ok (.iadd, 1) := by decide +kernel
theorem dX3_open_25 : decode cX3_open 25 = .ok (.putfield 15, 3) := by decide +kernel
theorem dX3_open_28 : decode cX3_open 28 = .ok (.bipush 8, 2) := by decide +kernel
theorem dX3_open_30 : decode cX3_open 30 = .ok (.iload_n 1, 1) := by decide +kernel
theorem dX3_open_31 : decode cX3_open 31 = .ok (.imul, 1) := by decide +kernel
theorem dX3_open_32 : decode cX3_open 32 = .ok (.istore_n 2, 1) := by decide +kernel
theorem dX3_open_33 : decode cX3_open 33 = .ok (.iload_n 2, 1) := by decide +kernel
theorem dX3_open_34 : decode cX3_open 34 = .ok (.bipush 8, 2) := by decide +kernel
theorem dX3_open_36 : decode cX3_open 36 = .ok (.aload_n 0, 1) := by decide +kernel
theorem dX3_open_37 : decode cX3_open 37 = .ok (.getfield 15, 3) := by decide +kernel
theorem dX3_open_40 : decode cX3_open 40 = .ok (.imul, 1) := by decide +kernel
theorem dX3_open_41 : decode cX3_open 41 = .ok (.if_icmp .ge 18, 3) := by decide +kernel
theorem dX3_open_44 : decode cX3_open 44 = .ok (.aload_n 0, 1) := by decide +kernel
theorem dX3_open_45 : decode cX3_open 45 = .ok (.getfield 11, 3) := by decide +kernel
theorem dX3_open_48 : decode cX3_open 48 = .ok (.iload_n 2, 1) := by decide +kernel
theorem dX3_open_49 : decode cX3_open 49 = .ok (.ldc2_w 21, 3) := by decide +kernel
theorem dX3_open_52 : decode cX3_open 52 = .ok (.lastore, 1) := by decide +kernel
theorem dX3_open_53 : decode cX3_open 53 = .ok (.iinc 2 1, 3) := by decide +kernel
theorem dX3_open_56 : decode cX3_open 56 = .ok (.goto (-23), 3) := by decide +kernel
theorem dX3_open_59 : decode cX3_open 59 = .ok (.iload_n 1, 1) := by decide +kernel
theorem dX3_open_60 : decode cX3_open 60 = .ok (.ireturn, 1) := by decide +kernel
theorem dX3_read_0 : decode cX3_read 0 = .ok (.aload_n 0, 1) := by decide +kernel
theorem dX3_read_1 : decode cX3_read 1 = .ok (.iload_n 1, 1) := by decide +kernel
theorem dX3_read_2 : decode cX3_read 2 = .ok (.iload_n 2, 1) := by decide +kernel
theorem dX3_read_3 : decode cX3_read 3 = .ok (.invokevirtual 23, 3) := by decide +kernel
theorem dX3_read_6 : decode cX3_read 6 = .ok (.ifCond .eq 17, 3) := by decide +kernel
theorem dX3_read_9 : decode cX3_read 9 = .ok (.aload_n 0, 1) := by decide +kernel
theorem dX3_read_10 : decode cX3_read 10 = .ok (.getfield 11, 3) := by decide +kernel
theorem dX3_read_13 : decode cX3_read 13 = .ok (.bipush 8, 2) := by decide +kernel
theorem dX3_read_15 : decode cX3_read 15 = .ok (.iload_n 1, 1) := by decide +kernel
theorem dX3_read_16 : decode cX3_read 16 = .ok (.imul, 1) := by decide +kernel
theorem dX3_read_17 : decode cX3_read 17 = .ok (.iload_n 2, 1) := by decide +kernel
theorem dX3_read_18 : decode cX3_read 18 = .ok (.iadd, 1) := by decide +kernel
theorem dX3_read_19 : decode cX3_read 19 = .ok (.laload, 1) := by decide +kernel
theorem dX3_read_20 : decode cX3_read 20 = .ok (.goto 6, 3) := by decide +kernel
theorem dX3_read_23 : decode cX3_read 23 = .ok (.ldc2_w 21, 3) := by decide +kernel
theorem dX3_read_26 : decode cX3_read 26 = .ok (.lreturn, 1) := by decide +kernel
theorem dX3_write_0 : decode cX3_write 0 = .ok (.aload_n 0, 1) := by decide +kernel
theorem dX3_write_1 : decode cX3_write 1 = .ok (.iload_n 1, 1) := by decide +kernel
theorem dX3_write_2 : decode cX3_write 2 = .ok (.iload_n 2, 1) := by decide +kernel
theorem dX3_write_3 : decode cX3_write 3 = .ok (.invokevirtual 23, 3) := by decide +kernel
theorem dX3_write_6 : decode cX3_write 6 = .ok (.ifCond .eq 15, 3) := by decide +kernel
theorem dX3_write_9 : decode cX3_write 9 = .ok (.aload_n 0, 1) := by decide +kernel
theorem dX3_write_10 : decode cX3_write 10 = .ok (.getfield 11, 3) := by decide +kernel
theorem dX3_write_13 : decode cX3_write 13 = .ok (.bipush 8, 2) := by decide +kernel
theorem dX3_write_15 : decode cX3_write 15 = .ok (.iload_n 1, 1) := by decide +kernel
theorem dX3_write_16 : decode cX3_write 16 = .ok (.imul, 1) := by decide +kernel
theorem dX3_write_17 : decode cX3_write 17 = .ok (.iload_n 2, 1) := by decide +kernel
theorem dX3_write_18 : decode cX3_write 18 = .ok (.iadd, 1) := by decide +kernel
theorem dX3_write_19 : decode cX3_write 19 = .ok (.lload_n 3, 1) := by decide +kernel
theorem dX3_write_20 : decode cX3_write 20 = .ok (.lastore, 1) := by decide +kernel
theorem dX3_write_21 : decode cX3_write 21 = .ok (.return_, 1) := by decide +kernel
theorem dX3_has_0 : decode cX3_has 0 = .ok (.iload_n 1, 1) := by decide +kernel
theorem dX3_has_1 : decode cX3_has 1 = .ok (.ifCond .lt 25, 3) := by decide +kernel
theorem dX3_has_4 : decode cX3_has 4 = .ok (.iload_n 1, 1) := by decide +kernel
theorem dX3_has_5 : decode cX3_has 5 = .ok (.aload_n 0, 1) := by decide +kernel
theorem dX3_has_6 : decode cX3_has 6 = .ok (.getfield 15, 3) := by decide +kernel
theorem dX3_has_9 : decode cX3_has 9 = .ok (.if_icmp .ge 17, 3) := by decide +kernel
theorem dX3_has_12 : decode cX3_has 12 = .ok (.iload_n 2, 1) := by decide +kernel
theorem dX3_has_13 : decode cX3_has 13 = .ok (.ifCond .lt 13, 3) := by decide +kernel
theorem dX3_has_16 : decode cX3_has 16 = .ok (.iload_n 2, 1) := by decide +kernel
theorem dX3_has_17 : decode cX3_has 17 = .ok (.bipush 8, 2) := by decide +kernel
theorem dX3_has_19 : decode cX3_has 19 = .ok (.if_icmp .ge 7, 3) := by decide +kernel
theorem dX3_has_22 : decode cX3_has 22 = .ok (.iconst 1, 1) := by decide +kernel
theorem dX3_has_23 : decode cX3_has 23 = .ok (.goto 4, 3) := by decide +kernel
theorem dX3_has_26 : decode cX3_has 26 = .ok (.iconst 0, 1) := by decide +kernel
theorem dX3_has_27 : decode cX3_has 27 = .ok (.ireturn, 1) := by decide +kernel
theorem dX5_init_0 : decode cX5_init 0 = .ok (.aload_n 0, 1) := by decide +kernel
theorem dX5_init_1 : decode cX5_init 1 = .ok (.invokespecial 3, 3) := by decide +kernel
theorem dX5_init_4 : decode cX5_init 4 = .ok (.aload_n 0, 1) := by decide +kernel
theorem dX5_init_5 : decode cX5_init 5 = .ok (.sipush 200, 3) := by decide +kernel
theorem dX5_init_8 : decode cX5_init 8 = .ok (.newarray .int, 2) := by decide +kernel
theorem dX5_init_10 : decode cX5_init 10 = .ok (.putfield 9, 3) := by decide +kernel
theorem dX5_init_13 : decode cX5_init 13 = .ok (.aload_n 0, 1) := by decide +kernel
theorem dX5_init_14 : decode cX5_init 14 = .ok (.sipush 200, 3) := by decide +kernel
theorem dX5_init_17 : decode cX5_init 17 = .ok (.newarray .int, 2) := by decide +kernel
theorem dX5_init_19 : decode cX5_init 19 = .ok (.putfield 15, 3) := by decide +kernel
theorem dX5_init_22 : decode cX5_init 22 = .ok (.aload_n 0, 1) := by decide +kernel
theorem dX5_init_23 : decode cX5_init 23 = .ok (.sipush 200, 3) := by decide +kernel
theorem dX5_init_26 : decode cX5_init 26 = .ok (.newarray .int, 2) := by decide +kernel
theorem dX5_init_28 : decode cX5_init 28 = .ok (.putfield 18, 3) := by decide +kernel
theorem dX5_init_31 : decode cX5_init 31 = .ok (.aload_n 0, 1) := by decide +kernel
theorem dX5_init_32 : decode cX5_init 32 = .ok (.sipush 200, 3) := by decide +kernel
theorem dX5_init_35 : decode cX5_init 35 = .ok (.newarray .int, 2) := by decide +kernel
theorem dX5_init_37 : decode cX5_init 37 = .ok (.putfield 21, 3) := by decide +kernel
theorem dX5_init_40 : decode cX5_init 40 = .ok (.aload_n 0, 1) := by decide +kernel
theorem dX5_init_41 : decode cX5_init 41 = .ok (.sipush 200, 3) := by decide +kernel
theorem dX5_init_44 : decode cX5_init 44 = .ok (.newarray .int, 2) := by decide +kernel
theorem dX5_init_46 : decode cX5_init 46 = .ok (.putfield 24, 3) := by decide +kernel
theorem dX5_init_49 : decode cX5_init 49 = .ok (.aload_n 0, 1) := by decide +kernel
theorem dX5_init_50 : decode cX5_init 50 = .ok (.sipush 200, 3) := by decide +kernel
theorem dX5_init_53 : decode cX5_init 53 = .ok (.newarray .long, 2) := by decide +kernel
theorem dX5_init_55 : decode cX5_init 55 = .ok (.putfield 27, 3) := by decide +kernel
theorem dX5_init_58 : decode cX5_init 58 = .ok (.aload_n 0, 1) := by decide +kernel
theorem dX5_init_59 : decode cX5_init 59 = .ok (.iconst 0, 1) := by decide +kernel
theorem dX5_init_60 : decode cX5_init 60 = .ok (.putfield 31, 3) := by decide +kernel
theorem dX5_init_63 : decode cX5_init 63 = .ok (.return_, 1) := by decide +kernel
theorem dX5_restart_0 : decode cX5_restart 0 = .ok (.aload_n 0, 1) := by decide +kernel
theorem dX5_restart_1 : decode cX5_restart 1 = .ok (.iconst 0, 1) := by decide +kernel
theorem dX5_restart_2 : decode cX5_restart 2 = .ok (.putfield 31, 3) := by decide +kernel
theorem dX5_restart_5 : decode cX5_restart 5 = .ok (.return_, 1) := by decide +kernel
theorem dX5_add_0 : decode cX5_add 0 = .ok (.aload_n 0, 1) := by decide +kernel
theorem dX5_add_1 : decode cX5_add 1 = .ok (.getfield 31, 3) := by decide +kernel
theorem dX5_add_4 : decode cX5_add 4 = .ok (.sipush 200, 3) := by decide +kernel
theorem dX5_add_7 : decode cX5_add 7 = .ok (.if_icmp .lt 7, 3) := by decide +kernel
theorem dX5_add_10 : decode cX5_add 10 = .ok (.ldc2_w 37, 3) := by decide +kernel
theorem dX5_add_13 : decode cX5_add 13 = .ok (.lreturn, 1) := by decide +kernel
theorem dX5_add_14 : decode cX5_add 14 = .ok (.aload_n 0, 1) := by decide +kernel
theorem dX5_add_15 : decode cX5_add 15 = .ok (.getfield 31, 3) := by decide +kernel
theorem dX5_add_18 : decode cX5_add 18 = .ok (.istore_n 3, 1) := by decide +kernel
theorem dX5_add_19 : decode cX5_add 19 = .ok (.aload_n 0, 1) := by decide +kernel
theorem dX5_add_20 : decode cX5_add 20 = .ok (.dup, 1) := by decide +kernel
theorem dX5_add_21 : decode cX5_add 21 = .ok (.getfield 31, 3) := by decide +kernel
theorem dX5_add_24 : decode cX5_add 24 = .ok (.iconst 1, 1) := by decide +kernel
theorem dX5_add_25 : decode cX5_add 25 = .ok (.iadd, 1) := by decide +kernel
theorem dX5_add_26 : decode cX5_add 26 = .ok (.putfield 31, 3) := by decide +kernel
theorem dX5_add_29 : decode cX5_add 29 = .ok (.aload_n 0, 1) := by decide +kernel
theorem dX5_add_30 : decode cX5_add 30 = .ok (.getfield 9, 3) := by decide +kernel
theorem dX5_add_33 : decode cX5_add 33 = .ok (.iload_n 3, 1) := by decide +kernel
theorem dX5_add_34 : decode cX5_add 34 = .ok (.iload_n 1, 1) := by decide +kernel
theorem dX5_add_35 : decode cX5_add 35 = .ok (.iastore, 1) := by decide +kernel
theorem dX5_add_36 : decode cX5_add 36 = .ok (.aload_n 0, 1) := by decide +kernel
theorem dX5_add_37 : decode cX5_add 37 = .ok (.getfield 15, 3) := by decide +kernel
theorem dX5_add_40 : decode cX5_add 40 = .ok (.iload_n 3, 1) := by decide +kernel
theorem dX5_add_41 : decode cX5_add 41 = .ok (.iload_n 2, 1) := by decide +kernel
theorem dX5_add_42 : decode cX5_add 42 = .ok (.iastore, 1) := by decide +kernel
theorem dX5_add_43 : decode cX5_add 43 = .ok (.aload_n 0, 1) := by decide +kernel
theorem dX5_add_44 : decode cX5_add 44 = .ok (.getfield 18, 3) := by decide +kernel
theorem dX5_add_47 : decode cX5_add 47 = .ok (.iload_n 3, 1) := by decide +kernel
theorem dX5_add_48 : decode cX5_add 48 = .ok (.iconst 0, 1) := by decide +kernel
theorem dX5_add_49 : decode cX5_add 49 = .ok (.iastore, 1) := by decide +kernel
theorem dX5_add_50 : decode cX5_add 50 = .ok (.bipush 7, 2) := by decide +kernel
theorem dX5_add_52 : decode cX5_add 52 = .ok (.iload_n 3, 1) := by decide +kernel
theorem dX5_add_53 : decode cX5_add 53 = .ok (.invokestatic 39, 3) := by decide +kernel
theorem dX5_add_56 : decode cX5_add 56 = .ok (.lreturn, 1) := by decide +kernel
theorem dX5_has_0 : decode cX5_has 0 = .ok (.iload_n 1, 1) := by decide +kernel
theorem dX5_has_1 : decode cX5_has 1 = .ok (.ifCond .lt 15, 3) := by decide +kernel
theorem dX5_has_4 : decode cX5_has 4 = .ok (.iload_n 1, 1) := by decide +kernel
theorem dX5_has_5 : decode cX5_has 5 = .ok (.aload_n 0, 1) := by decide +kernel
theorem dX5_has_6 : decode cX5_has 6 = .ok (.getfield 31, 3) := by decide +kernel
theorem dX5_has_9 : decode cX5_has 9 = .ok (.if_icmp .ge 7, 3) := by decide +kernel
theorem dX5_has_12 : decode cX5_has 12 = .ok (.iconst 1, 1) := by decide +kernel
theorem dX5_has_13 : decode cX5_has 13 = .ok (.goto 4, 3) := by decide +kernel
theorem dX5_has_16 : decode cX5_has 16 = .ok (.iconst 0, 1) := by decide +kernel
theorem dX5_has_17 : decode cX5_has 17 = .ok (.ireturn, 1) := by decide +kernel
theorem dX5_actOf_0 : decode cX5_actOf 0 = .ok (.aload_n 0, 1) := by decide +kernel
theorem dX5_actOf_1 : decode cX5_actOf 1 = .ok (.iload_n 1, 1) := by decide +kernel
theorem dX5_actOf_2 : decode cX5_actOf 2 = .ok (.invokevirtual 43, 3) := by decide +kernel
theorem dX5_actOf_5 : decode cX5_actOf 5 = .ok (.ifCond .eq 12, 3) := by decide +kernel
theorem dX5_actOf_8 : decode cX5_actOf 8 = .ok (.aload_n 0, 1) := by decide +kernel
theorem dX5_actOf_9 : decode cX5_actOf 9 = .ok (.getfield 9, 3) := by decide +kernel
theorem dX5_actOf_12 : decode cX5_actOf 12 = .ok (.iload_n 1, 1) := by decide +kernel
theorem dX5_actOf_13 : decode cX5_actOf 13 = .ok (.iaload, 1) := by decide +kernel
theorem dX5_actOf_14 : decode cX5_actOf 14 = .ok (.goto 4, 3) := by decide +kernel
theorem dX5_actOf_17 : decode cX5_actOf 17 = .ok (.iconst (-1), 1) := by decide +kernel
theorem dX5_actOf_18 : decode cX5_actOf 18 = .ok (.ireturn, 1) := by decide +kernel
theorem dX5_frameOf_0 : decode cX5_frameOf 0 = .ok (.aload_n 0, 1) := by decide +kernel
theorem dX5_frameOf_1 : decode cX5_frameOf 1 = .ok (.iload_n 1, 1) := by decide +kernel
theorem dX5_frameOf_2 : decode cX5_frameOf 2 = .ok (.invokevirtual 43, 3) := by decide +kernel
theorem dX5_frameOf_5 : decode cX5_frameOf 5 = .ok (.ifCond .eq 12, 3) := by decide +kernel
theorem dX5_frameOf_8 : decode cX5_frameOf 8 = .ok (.aload_n 0, 1) := by decide +kernel
theorem dX5_frameOf_9 : decode cX5_frameOf 9 = .ok (.getfield 15, 3) := by decide +kernel
theorem dX5_frameOf_12 : decode cX5_frameOf 12 = .ok (.iload_n 1, 1) := by decide +kernel
theorem dX5_frameOf_13 : decode cX5_frameOf 13 = .ok (.iaload, 1) := by decide +kernel
theorem dX5_frameOf_14 : decode cX5_frameOf 14 = .ok (.goto 4, 3) := by decide +kernel
theorem dX5_frameOf_17 : decode cX5_frameOf 17 = .ok (.iconst (-1), 1) := by decide +kernel
theorem dX5_frameOf_18 : decode cX5_frameOf 18 = .ok (.ireturn, 1) := by decide +kernel
theorem dX5_stateOf_0 : decode cX5_stateOf 0 = .ok (.aload_n 0, 1) := by decide +kernel
theorem dX5_stateOf_1 : decode cX5_stateOf 1 = .ok (.iload_n 1, 1) := by decide +kernel
theorem dX5_stateOf_2 : decode cX5_stateOf 2 = .ok (.invokevirtual 43, 3) := by decide +kernel
theorem dX5_stateOf_5 : decode cX5_stateOf 5 = .ok (.ifCond .eq 12, 3) := by decide +kernel
theorem dX5_stateOf_8 : decode cX5_stateOf 8 = .ok (.aload_n 0, 1) := by decide +kernel
theorem dX5_stateOf_9 : decode cX5_stateOf 9 = .ok (.getfield 18, 3) := by decide +kernel
theorem dX5_stateOf_12 : decode cX5_stateOf 12 = .ok (.iload_n 1, 1) := by decide +kernel
theorem dX5_stateOf_13 : decode cX5_stateOf 13 = .ok (.iaload, 1) := by decide +kernel
theorem dX5_stateOf_14 : decode cX5_stateOf 14 = .ok (.goto 4, 3) := by decide +kernel
theorem dX5_stateOf_17 : decode cX5_stateOf 17 = .ok (.iconst 0, 1) := by decide +kernel
theorem dX5_stateOf_18 : decode cX5_stateOf 18 = .ok (.ireturn, 1) := by decide +kernel
theorem dX5_failureOf_0 : decode cX5_failureOf 0 = .ok (.aload_n 0, 1) := by decide +kernel
theorem dX5_failureOf_1 : decode cX5_failureOf 1 = .ok (.iload_n 1, 1) := by decide +kernel
theorem dX5_failureOf_2 : decode cX5_failureOf 2 = .ok (.invokevirtual 43, 3) := by decide +kernel
theorem dX5_failureOf_5 : decode cX5_failureOf 5 = .ok (.ifCond .eq 12, 3) := by decide +kernel
theorem dX5_failureOf_8 : decode cX5_failureOf 8 = .ok (.aload_n 0, 1) := by decide +kernel
theorem dX5_failureOf_9 : decode cX5_failureOf 9 = .ok (.getfield 21, 3) := by decide +kernel
theorem dX5_failureOf_12 : decode cX5_failureOf 12 = .ok (.iload_n 1, 1) := by decide +kernel
theorem dX5_failureOf_13 : decode cX5_failureOf 13 = .ok (.iaload, 1) := by decide +kernel
theorem dX5_failureOf_14 : decode cX5_failureOf 14 = .ok (.goto 4, 3) := by decide +kernel
theorem dX5_failureOf_17 : decode cX5_failureOf 17 = .ok (.iconst 0, 1) := by decide +kernel
theorem dX5_failureOf_18 : decode cX5_failureOf 18 = .ok (.ireturn, 1) := by decide +kernel
theorem dX5_codeOf_0 : decode cX5_codeOf 0 = .ok (.aload_n 0, 1) := by decide +kernel
theorem dX5_codeOf_1 : decode cX5_codeOf 1 = .ok (.iload_n 1, 1) := by decide +kernel
theorem dX5_codeOf_2 : decode cX5_codeOf 2 = .ok (.invokevirtual 43, 3) := by decide +kernel
theorem dX5_codeOf_5 : decode cX5_codeOf 5 = .ok (.ifCond .eq 12, 3) := by decide +kernel
theorem dX5_codeOf_8 : decode cX5_codeOf 8 = .ok (.aload_n 0, 1) := by decide +kernel
theorem dX5_codeOf_9 : decode cX5_codeOf 9 = .ok (.getfield 24, 3) := by decide +kernel
theorem dX5_codeOf_12 : decode cX5_codeOf 12 = .ok (.iload_n 1, 1) := by decide +kernel
theorem dX5_codeOf_13 : decode cX5_codeOf 13 = .ok (.iaload, 1) := by decide +kernel
theorem dX5_codeOf_14 : decode cX5_codeOf 14 = .ok (.goto 4, 3) := by decide +kernel
theorem dX5_codeOf_17 : decode cX5_codeOf 17 = .ok (.iconst 0, 1) := by decide +kernel
theorem dX5_codeOf_18 : decode cX5_codeOf 18 = .ok (.ireturn, 1) := by decide +kernel
theorem dX5_valueOf_0 : decode cX5_valueOf 0 = .ok (.aload_n 0, 1) := by decide +kernel
theorem dX5_valueOf_1 : decode cX5_valueOf 1 = .ok (.iload_n 1, 1) := by decide +kernel
theorem dX5_valueOf_2 : decode cX5_valueOf 2 = .ok (.invokevirtual 43, 3) := by decide +kernel
theorem dX5_valueOf_5 : decode cX5_valueOf 5 = .ok (.ifCond .eq 12, 3) := by decide +kernel
theorem dX5_valueOf_8 : decode cX5_valueOf 8 = .ok (.aload_n 0, 1) := by decide +kernel
theorem dX5_valueOf_9 : decode cX5_valueOf 9 = .ok (.getfield 27, 3) := by decide +kernel
theorem dX5_valueOf_12 : decode cX5_valueOf 12 = .ok (.iload_n 1, 1) := by decide +kernel
theorem dX5_valueOf_13 : decode cX5_valueOf 13 = .ok (.laload, 1) := by decide +kernel
theorem dX5_valueOf_14 : decode cX5_valueOf 14 = .ok (.goto 6, 3) := by decide +kernel
theorem dX5_valueOf_17 : decode cX5_valueOf 17 = .ok (.ldc2_w 37, 3) := by decide +kernel
theorem dX5_valueOf_20 : decode cX5_valueOf 20 = .ok (.lreturn, 1) := by decide +kernel
theorem dX5_setState_0 : decode cX5_setState 0 = .ok (.aload_n 0, 1) := by decide +kernel
theorem dX5_setState_1 : decode cX5_setState 1 = .ok (.iload_n 1, 1) := by decide +kernel
theorem dX5_setState_2 : decode cX5_setState 2 = .ok (.invokevirtual 43, 3) := by decide +kernel
theorem dX5_setState_5 : decode cX5_setState 5 = .ok (.ifCond .eq 10, 3) := by decide +kernel
theorem dX5_setState_8 : decode cX5_setState 8 = .ok (.aload_n 0, 1) := by decide +kernel
theorem dX5_setState_9 : decode cX5_setState 9 = .ok (.getfield 18, 3) := by decide +kernel
theorem dX5_setState_12 : decode cX5_setState 12 = .ok (.iload_n 1, 1) := by decide +kernel
theorem dX5_setState_13 : decode cX5_setState 13 = .ok (.iload_n 2, 1) := by decide +kernel
theorem dX5_setState_14 : decode cX5_setState 14 = .ok (.iastore, 1) := by decide +kernel
theorem dX5_setState_15 : decode cX5_setState 15 = .ok (.return_, 1) := by decide +kernel
theorem dX5_finish_0 : decode cX5_finish 0 = .ok (.aload_n 0, 1) := by decide +kernel
theorem dX5_finish_1 : decode cX5_finish 1 = .ok (.iload_n 1, 1) := by decide +kernel
theorem dX5_finish_2 : decode cX5_finish 2 = .ok (.invokevirtual 43, 3) := by decide +kernel
theorem dX5_finish_5 : decode cX5_finish 5 = .ok (.ifCond .eq 17, 3) := by decide +kernel
theorem dX5_finish_8 : decode cX5_finish 8 = .ok (.aload_n 0, 1) := by decide +kernel
theorem dX5_finish_9 : decode cX5_finish 9 = .ok (.getfield 18, 3) := by decide +kernel
theorem dX5_finish_12 : decode cX5_finish 12 = .ok (.iload_n 1, 1) := by decide +kernel
theorem dX5_finish_13 : decode cX5_finish 13 = .ok (.iconst 2, 1) := by decide +kernel
theorem dX5_finish_14 : decode cX5_finish 14 = .ok (.iastore, 1) := by decide +kernel
theorem dX5_finish_15 : decode cX5_finish 15 = .ok (.aload_n 0, 1) := by decide +kernel
theorem dX5_finish_16 : decode cX5_finish 16 = .ok (.getfield 27, 3) := by decide +kernel
theorem dX5_finish_19 : decode cX5_finish 19 = .ok (.iload_n 1, 1) := by decide +kernel
theorem dX5_finish_20 : decode cX5_finish 20 = .ok (.lload_n 2, 1) := by decide +kernel
theorem dX5_finish_21 : decode cX5_finish 21 = .ok (.lastore, 1) := by decide +kernel
theorem dX5_finish_22 : decode cX5_finish 22 = .ok (.return_, 1) := by decide +kernel
theorem dX5_giveUp_0 : decode cX5_giveUp 0 = .ok (.aload_n 0, 1) := by decide +kernel
theorem dX5_giveUp_1 : decode cX5_giveUp 1 = .ok (.iload_n 1, 1) := by decide +kernel
theorem dX5_giveUp_2 : decode cX5_giveUp 2 = .ok (.invokevirtual 43, 3) := by decide +kernel
theorem dX5_giveUp_5 : decode cX5_giveUp 5 = .ok (.ifCond .eq 24, 3) := by decide +kernel
theorem dX5_giveUp_8 : decode cX5_giveUp 8 = .ok (.aload_n 0, 1) := by decide +kernel
theorem dX5_giveUp_9 : decode cX5_giveUp 9 = .ok (.getfield 18, 3) := by decide +kernel
theorem dX5_giveUp_12 : decode cX5_giveUp 12 = .ok (.iload_n 1, 1) := by decide +kernel
theorem dX5_giveUp_13 : decode cX5_giveUp 13 = .ok (.iconst 3, 1) := by decide +kernel
theorem dX5_giveUp_14 : decode cX5_giveUp 14 = .ok (.iastore, 1) := by decide +kernel
theorem dX5_giveUp_15 : decode cX5_giveUp 15 = .ok (.aload_n 0, 1) := by decide +kernel
theorem dX5_giveUp_16 : decode cX5_giveUp 16 = .ok (.getfield 21, 3) := by decide +kernel
theorem dX5_giveUp_19 : decode cX5_giveUp 19 = .ok (.iload_n 1, 1) := by decide +kernel
theorem dX5_giveUp_20 : decode cX5_giveUp 20 = .ok (.iload_n 2, 1) := by decide +kernel
theorem dX5_giveUp_21 : decode cX5_giveUp 21 = .ok (.iastore, 1) := by decide +kernel
theorem dX5_giveUp_22 : decode cX5_giveUp 22 = .ok (.aload_n 0, 1) := by decide +kernel
theorem dX5_giveUp_23 : decode cX5_giveUp 23 = .ok (.getfield 24, 3) := by decide +kernel
theorem dX5_giveUp_26 : decode cX5_giveUp 26 = .ok (.iload_n 1, 1) := by decide +kernel
theorem dX5_giveUp_27 : decode cX5_giveUp 27 = .ok (.iload_n 3, 1) := by decide +kernel
theorem dX5_giveUp_28 : decode cX5_giveUp 28 = .ok (.iastore, 1) := by decide +kernel
theorem dX5_giveUp_29 : decode cX5_giveUp 29 = .ok (.return_, 1) := by decide +kernel
theorem dX6_init_0 : decode cX6_init 0 = .ok (.aload_n 0, 1) := by decide +kernel
theorem dX6_init_1 : decode cX6_init 1 = .ok (.invokespecial 1, 3) := by decide +kernel
theorem dX6_init_4 : decode cX6_init 4 = .ok (.aload_n 0, 1) := by decide +kernel
theorem dX6_init_5 : decode cX6_init 5 = .ok (.aload_n 1, 1) := by decide +kernel
theorem dX6_init_6 : decode cX6_init 6 = .ok (.putfield 7, 3) := by decide +kernel
theorem dX6_init_9 : decode cX6_init 9 = .ok (.aload_n 0, 1) := by decide +kernel
theorem dX6_init_10 : decode cX6_init 10 = .ok (.new 13, 3) := by decide +kernel
theorem dX6_init_13 : decode cX6_init 13 = .ok (.dup, 1) := by decide +kernel
theorem dX6_init_14 : decode cX6_init 14 = .ok (.invokespecial 15, 3) := by decide +kernel
theorem dX6_init_17 : decode cX6_init 17 = .ok (.putfield 16, 3) := by decide +kernel
theorem dX6_init_20 : decode cX6_init 20 = .ok (.aload_n 0, 1) := by decide +kernel
theorem dX6_init_21 : decode cX6_init 21 = .ok (.new 20, 3) := by decide +kernel
theorem dX6_init_24 : decode cX6_init 24 = .ok (.dup, 1) := by decide +kernel
theorem dX6_init_25 : decode cX6_init 25 = .ok (.invokespecial 22, 3) := by decide +kernel
theorem dX6_init_28 : decode cX6_init 28 = .ok (.putfield 23, 3) := by decide +kernel
theorem dX6_init_31 : decode cX6_init 31 = .ok (.aload_n 0, 1) := by decide +kernel
theorem dX6_init_32 : decode cX6_init 32 = .ok (.bipush 40, 2) := by decide +kernel
theorem dX6_init_34 : decode cX6_init 34 = .ok (.newarray .int, 2) := by decide +kernel
theorem dX6_init_36 : decode cX6_init 36 = .ok (.putfield 27, 3) := by decide +kernel
theorem dX6_init_39 : decode cX6_init 39 = .ok (.aload_n 0, 1) := by decide +kernel
theorem dX6_init_40 : decode cX6_init 40 = .ok (.iconst 0, 1) := by decide +kernel
theorem dX6_init_41 : decode cX6_init 41 = .ok (.putfield 31, 3) := by decide +kernel
theorem dX6_init_44 : decode cX6_init 44 = .ok (.aload_n 0, 1) := by decide +kernel
theorem dX6_init_45 : decode cX6_init 45 = .ok (.new 35, 3) := by decide +kernel
theorem dX6_init_48 : decode cX6_init 48 = .ok (.dup, 1) := by decide +kernel
theorem dX6_init_49 : decode cX6_init 49 = .ok (.invokespecial 37, 3) := by decide +kernel
theorem dX6_init_52 : decode cX6_init 52 = .ok (.putfield 38, 3) := by decide +kernel
theorem dX6_init_55 : decode cX6_init 55 = .ok (.aload_n 0, 1) := by decide +kernel
theorem dX6_init_56 : decode cX6_init 56 = .ok (.new 42, 3) := by decide +kernel
theorem dX6_init_59 : decode cX6_init 59 = .ok (.dup, 1) := by decide +kernel
theorem dX6_init_60 : decode cX6_init 60 = .ok (.invokespecial 44, 3) := by decide +kernel
theorem dX6_init_63 : decode cX6_init 63 = .ok (.putfield 45, 3) := by decide +kernel
theorem dX6_init_66 : decode cX6_init 66 = .ok (.aload_n 0, 1) := by decide +kernel
theorem dX6_init_67 : decode cX6_init 67 = .ok (.new 49, 3) := by decide +kernel
theorem dX6_init_70 : decode cX6_init 70 = .ok (.dup, 1) := by decide +kernel
theorem dX6_init_71 : decode cX6_init 71 = .ok (.invokespecial 51, 3) := by decide +kernel
theorem dX6_init_74 : decode cX6_init 74 = .ok (.putfield 52, 3) := by decide +kernel
theorem dX6_init_77 : decode cX6_init 77 = .ok (.aload_n 0, 1) := by decide +kernel
theorem dX6_init_78 : decode cX6_init 78 = .ok (.iconst 0, 1) := by decide +kernel
theorem dX6_init_79 : decode cX6_init 79 = .ok (.putfield 56, 3) := by decide +kernel
theorem dX6_init_82 : decode cX6_init 82 = .ok (.return_, 1) := by decide +kernel
theorem dX6_restart_0 : decode cX6_restart 0 = .ok (.aload_n 0, 1) := by decide +kernel
theorem dX6_restart_1 : decode cX6_restart 1 = .ok (.getfield 16, 3) := by decide +kernel
theorem dX6_restart_4 : decode cX6_restart 4 = .ok (.invokevirtual 59, 3) := by decide +kernel
theorem dX6_restart_7 : decode cX6_restart 7 = .ok (.aload_n 0, 1) := by decide +kernel
theorem dX6_restart_8 : decode cX6_restart 8 = .ok (.getfield 23, 3) := by decide +kernel
theorem dX6_restart_11 : decode cX6_restart 11 = .ok (.iload_n 1, 1) := by decide +kernel
theorem dX6_restart_12 : decode cX6_restart 12 = .ok (.invokevirtual 62, 3) := by decide +kernel
theorem dX6_restart_15 : decode cX6_restart 15 = .ok (.aload_n 0, 1) := by decide +kernel
theorem dX6_restart_16 : decode cX6_restart 16 = .ok (.iconst 0, 1) := by decide +kernel
theorem dX6_restart_17 : decode cX6_restart 17 = .ok (.putfield 31, 3) := by decide +kernel
theorem dX6_restart_20 : decode cX6_restart 20 = .ok (.aload_n 0, 1) := by decide +kernel
theorem dX6_restart_21 : decode cX6_restart 21 = .ok (.getfield 38, 3) := by decide +kernel
theorem dX6_restart_24 : decode cX6_restart 24 = .ok (.invokevirtual 65, 3) := by decide +kernel
theorem dX6_restart_27 : decode cX6_restart 27 = .ok (.aload_n 0, 1) := by decide +kernel
theorem dX6_restart_28 : decode cX6_restart 28 = .ok (.getfield 45, 3) := by decide +kernel
theorem dX6_restart_31 : decode cX6_restart 31 = .ok (.invokevirtual 66, 3) := by decide +kernel
theorem dX6_restart_34 : decode cX6_restart 34 = .ok (.aload_n 0, 1) := by decide +kernel
theorem dX6_restart_35 : decode cX6_restart 35 = .ok (.getfield 52, 3) := by decide +kernel
theorem dX6_restart_38 : decode cX6_restart 38 = .ok (.invokevirtual 67, 3) := by decide +kernel
theorem dX6_restart_41 : decode cX6_restart 41 = .ok (.aload_n 0, 1) := by decide +kernel
theorem dX6_restart_42 : decode cX6_restart 42 = .ok (.iconst 0, 1) := by decide +kernel
theorem dX6_restart_43 : decode cX6_restart 43 = .ok (.putfield 56, 3) := by decide +kernel
theorem dX6_restart_46 : decode cX6_restart 46 = .ok (.return_, 1) := by decide +kernel
theorem dX6_perform_0 : decode cX6_perform 0 = .ok (.aload_n 0, 1) := by decide +kernel
theorem dX6_perform_1 : decode cX6_perform 1 = .ok (.iload_n 2, 1) := by decide +kernel
theorem dX6_perform_2 : decode cX6_perform 2 = .ok (.invokevirtual 68, 3) := by decide +kernel
theorem dX6_perform_5 : decode cX6_perform 5 = .ok (.aload_n 0, 1) := by decide +kernel
theorem dX6_perform_6 : decode cX6_perform 6 = .ok (.iload_n 1, 1) := by decide +kernel
theorem dX6_perform_7 : decode cX6_perform 7 = .ok (.aload_n 0, 1) := by decide +kernel
theorem dX6_perform_8 : decode cX6_perform 8 = .ok (.getfield 38, 3) := by decide +kernel
theorem dX6_perform_11 : decode cX6_perform 11 = .ok (.invokevirtual 69, 3) := by decide +kernel
theorem dX6_perform_14 : decode cX6_perform 14 = .ok (.invokevirtual 73, 3) := by decide +kernel
theorem dX6_perform_17 : decode cX6_perform 17 = .ok (.iconst 0, 1) := by decide +kernel
theorem dX6_perform_18 : decode cX6_perform 18 = .ok (.istore_n 3, 1) := by decide +kernel
theorem dX6_perform_19 : decode cX6_perform 19 = .ok (.iload_n 3, 1) := by decide +kernel
theorem dX6_perform_20 : decode cX6_perform 20 = .ok (.ldc 77, 2) := by decide +kernel
theorem dX6_perform_22 : decode cX6_perform 22 = .ok (.if_icmp .ge 47, 3) := by decide +kernel
theorem dX6_perform_25 : decode cX6_perform 25 = .ok (.aload_n 0, 1) := by decide +kernel
theorem dX6_perform_26 : decode cX6_perform 26 = .ok (.getfield 52, 3) := by decide +kernel
theorem dX6_perform_29 : decode cX6_perform 29 = .ok (.invokevirtual 78, 3) := by decide +kernel
theorem dX6_perform_32 : decode cX6_perform 32 = .ok (.ifCond .ne 37, 3) := by decide +kernel
theorem dX6_perform_35 : decode cX6_perform 35 = .ok (.aload_n 0, 1) := by decide +kernel
theorem dX6_perform_36 : decode cX6_perform 36 = .ok (.getfield 23, 3) := by decide +kernel
theorem dX6_perform_39 : decode cX6_perform 39 = .ok (.getfield 82, 3) := by decide +kernel
theorem dX6_perform_42 : decode cX6_perform 42 = .ok (.ifCond .eq 10, 3) := by decide +kernel
theorem dX6_perform_45 : decode cX6_perform 45 = .ok (.aload_n 0, 1) := by decide +kernel
theorem dX6_perform_46 : decode cX6_perform 46 = .ok (.invokevirtual 85, 3) := by decide +kernel
theorem dX6_perform_49 : decode cX6_perform 49 = .ok (.goto 14, 3) := by decide +kernel
theorem dX6_perform_52 : decode cX6_perform 52 = .ok (.aload_n 0, 1) := by decide +kernel
theorem dX6_perform_53 : decode cX6_perform 53 = .ok (.invokevirtual 88, 3) := by decide +kernel
theorem dX6_perform_56 : decode cX6_perform 56 = .ok (.ifCond .eq 7, 3) := by decide +kernel
theorem dX6_perform_59 : decode cX6_perform 59 = .ok (.aload_n 0, 1) := by decide +kernel
theorem dX6_perform_60 : decode cX6_perform 60 = .ok (.invokevirtual 91, 3) := by decide +kernel
theorem dX6_perform_63 : decode cX6_perform 63 = .ok (.iinc 3 1, 3) := by decide +kernel
theorem dX6_perform_66 : decode cX6_perform 66 = .ok (.goto (-47), 3) := by decide +kernel
theorem dX6_perform_69 : decode cX6_perform 69 = .ok (.return_, 1) := by decide +kernel
theorem dX6_begin_0 : decode cX6_begin 0 = .ok (.aload_n 0, 1) := by decide +kernel
theorem dX6_begin_1 : decode cX6_begin 1 = .ok (.getfield 23, 3) := by decide +kernel
theorem dX6_begin_4 : decode cX6_begin 4 = .ok (.iload_n 1, 1) := by decide +kernel
theorem dX6_begin_5 : decode cX6_begin 5 = .ok (.invokevirtual 94, 3) := by decide +kernel
theorem dX6_begin_8 : decode cX6_begin 8 = .ok (.ifCond .eq 19, 3) := by decide +kernel
theorem dX6_begin_11 : decode cX6_begin 11 = .ok (.aload_n 0, 1) := by decide +kernel
theorem dX6_begin_12 : decode cX6_begin 12 = .ok (.getfield 52, 3) := by decide +kernel
theorem dX6_begin_15 : decode cX6_begin 15 = .ok (.iload_n 1, 1) := by decide +kernel
theorem dX6_begin_16 : decode cX6_begin 16 = .ok (.iload_n 2, 1) := by decide +kernel
theorem dX6_begin_17 : decode cX6_begin 17 = .ok (.aload_n 0, 1) := by decide +kernel
theorem dX6_begin_18 : decode cX6_begin 18 = .ok (.getfield 16, 3) := by decide +kernel
theorem dX6_begin_21 : decode cX6_begin 21 = .ok (.invokevirtual 98, 3) := by decide +kernel
theorem dX6_begin_24 : decode cX6_begin 24 = .ok (.invokevirtual 101, 3) := by decide +kernel
theorem dX6_begin_27 : decode cX6_begin 27 = .ok (.return_, 1) := by decide +kernel
theorem dX6_beginPart_0 : decode cX6_beginPart 0 = .ok (.aload_n 0, 1) := by decide +kernel
theorem dX6_beginPart_1 : decode cX6_beginPart 1 = .ok (.aload_n 0, 1) := by decide +kernel
theorem dX6_beginPart_2 : decode cX6_beginPart 2 = .ok (.getfield 7, 3) := by decide +kernel
theorem dX6_beginPart_5 : decode cX6_beginPart 5 = .ok (.aload_n 0, 1) := by decide +kernel
theorem dX6_beginPart_6 : decode cX6_beginPart 6 = .ok (.getfield 52, 3) := by decide +kernel
theorem dX6_beginPart_9 : decode cX6_beginPart 9 = .ok (.invokevirtual 105, 3) := by decide +kernel
theorem dX6_beginPart_12 : decode cX6_beginPart 12 = .ok (.iload_n 1, 1) := by decide +kernel
theorem dX6_beginPart_13 : decode cX6_beginPart 13 = .ok (.invokevirtual 108, 3) := by decide +kernel
theorem dX6_beginPart_16 : decode cX6_beginPart 16 = .ok (.aload_n 0, 1) := by decide +kernel
theorem dX6_beginPart_17 : decode cX6_beginPart 17 = .ok (.getfield 52, 3) := by decide +kernel
theorem dX6_beginPart_20 : decode cX6_beginPart 20 = .ok (.invokevirtual 114, 3) := by decide +kernel
theorem dX6_beginPart_23 : decode cX6_beginPart 23 = .ok (.invokevirtual 73, 3) := by decide +kernel
theorem dX6_beginPart_26 : decode cX6_beginPart 26 = .ok (.return_, 1) := by decide +kernel
theorem dX6_give_0 : decode cX6_give 0 = .ok (.aload_n 0, 1) := by decide +kernel
theorem dX6_give_1 : decode cX6_give 1 = .ok (.getfield 52, 3) := by decide +kernel
theorem dX6_give_4 : decode cX6_give 4 = .ok (.invokevirtual 117, 3) := by decide +kernel
theorem dX6_give_7 : decode cX6_give 7 = .ok (.aload_n 0, 1) := by decide +kernel
theorem dX6_give_8 : decode cX6_give 8 = .ok (.getfield 52, 3) := by decide +kernel
theorem dX6_give_11 : decode cX6_give 11 = .ok (.invokevirtual 78, 3) := by decide +kernel
theorem dX6_give_14 : decode cX6_give 14 = .ok (.ifCond .eq 14, 3) := by decide +kernel
theorem dX6_give_17 : decode cX6_give 17 = .ok (.aload_n 0, 1) := by decide +kernel
theorem dX6_give_18 : decode cX6_give 18 = .ok (.getfield 23, 3) := by decide +kernel
theorem dX6_give_21 : decode cX6_give 21 = .ok (.lload_n 1, 1) := by decide +kernel
theorem dX6_give_22 : decode cX6_give 22 = .ok (.putfield 120, 3) := by decide +kernel
theorem dX6_give_25 : decode cX6_give 25 = .ok (.goto 11, 3) := by decide +kernel
theorem dX6_give_28 : decode cX6_give 28 = .ok (.aload_n 0, 1) := by decide +kernel
theorem dX6_give_29 : decode cX6_give 29 = .ok (.getfield 52, 3) := by decide +kernel
theorem dX6_give_32 : decode cX6_give 32 = .ok (.lload_n 1, 1) := by decide +kernel
theorem dX6_give_33 : decode cX6_give 33 = .ok (.invokevirtual 124, 3) := by decide +kernel
theorem dX6_give_36 : decode cX6_give 36 = .ok (.return_, 1) := by decide +kernel
theorem dX6_fail_0 : decode cX6_fail 0 = .ok (.aload_n 0, 1) := by decide +kernel
theorem dX6_fail_1 : decode cX6_fail 1 = .ok (.getfield 52, 3) := by decide +kernel
theorem dX6_fail_4 : decode cX6_fail 4 = .ok (.invokevirtual 105, 3) := by decide +kernel
theorem dX6_fail_7 : decode cX6_fail 7 = .ok (.istore_n 3, 1) := by decide +kernel
theorem dX6_fail_8 : decode cX6_fail 8 = .ok (.aload_n 0, 1) := by decide +kernel
theorem dX6_fail_9 : decode cX6_fail 9 = .ok (.getfield 52, 3) := by decide +kernel
theorem dX6_fail_12 : decode cX6_fail 12 = .ok (.invokevirtual 117, 3) := by decide +kernel
theorem dX6_fail_15 : decode cX6_fail 15 = .ok (.aload_n 0, 1) := by decide +kernel
theorem dX6_fail_16 : decode cX6_fail 16 = .ok (.getfield 23, 3) := by decide +kernel
theorem dX6_fail_19 : decode cX6_fail 19 = .ok (.iload_n 1, 1) := by decide +kernel
theorem dX6_fail_20 : decode cX6_fail 20 = .ok (.iload_n 2, 1) := by decide +kernel
theorem dX6_fail_21 : decode cX6_fail 21 = .ok (.iload_n 3, 1) := by decide +kernel
theorem dX6_fail_22 : decode cX6_fail 22 = .ok (.invokevirtual 128, 3) := by decide +kernel
theorem dX6_fail_25 : decode cX6_fail 25 = .ok (.return_, 1) := by decide +kernel
theorem dX6_endRun_0 : decode cX6_endRun 0 = .ok (.aload_n 0, 1) := by decide +kernel
theorem dX6_endRun_1 : decode cX6_endRun 1 = .ok (.getfield 52, 3) := by decide +kernel
theorem dX6_endRun_4 : decode cX6_endRun 4 = .ok (.invokevirtual 105, 3) := by decide +kernel
theorem dX6_endRun_7 : decode cX6_endRun 7 = .ok (.istore_n 2, 1) := by decide +kernel
theorem dX6_endRun_8 : decode cX6_endRun 8 = .ok (.aload_n 0, 1) := by decide +kernel
theorem dX6_endRun_9 : decode cX6_endRun 9 = .ok (.getfield 52, 3) := by decide +kernel
theorem dX6_endRun_12 : decode cX6_endRun 12 = .ok (.invokevirtual 117, 3) := by decide +kernel
theorem dX6_endRun_15 : decode cX6_endRun 15 = .ok (.aload_n 0, 1) := by decide +kernel
theorem dX6_endRun_16 : decode cX6_endRun 16 = .ok (.getfield 23, 3) := by decide +kernel
theorem dX6_endRun_19 : decode cX6_endRun 19 = .ok (.iload_n 1, 1) := by decide +kernel
theorem dX6_endRun_20 : decode cX6_endRun 20 = .ok (.iload_n 2, 1) := by decide +kernel
theorem dX6_endRun_21 : decode cX6_endRun 21 = .ok (.invokevirtual 131, 3) := by decide +kernel
theorem dX6_endRun_24 : decode cX6_endRun 24 = .ok (.return_, 1) := by decide +kernel
theorem dX6_comesToWork_0 : decode cX6_comesToWork 0 = .ok (.aload_n 0, 1) := by decide +kernel
theorem dX6_comesToWork_1 : decode cX6_comesToWork 1 = .ok (.getfield 52, 3) := by decide +kernel
theorem dX6_comesToWork_4 : decode cX6_comesToWork 4 = .ok (.invokevirtual 105, 3) := by decide +kernel
theorem dX6_comesToWork_7 : decode cX6_comesToWork 7 = .ok (.istore_n 1, 1) := by decide +kernel
theorem dX6_comesToWork_8 : decode cX6_comesToWork 8 = .ok (.aload_n 0, 1) := by decide +kernel
theorem dX6_comesToWork_9 : decode cX6_comesToWork 9 = .ok (.getfield 7, 3) := by decide +kernel
theorem dX6_comesToWork_12 : decode cX6_comesToWork 12 = .ok (.iload_n 1, 1) := by decide +kernel
theorem dX6_comesToWork_13 : decode cX6_comesToWork 13 = .ok (.invokevirtual 134, 3) := by decide +kernel
theorem dX6_comesToWork_16 : decode cX6_comesToWork 16 = .ok (.istore_n 2, 1) := by decide +kernel
theorem dX6_comesToWork_17 : decode cX6_comesToWork 17 = .ok (.aload_n 0, 1) := by decide +kernel
theorem dX6_comesToWork_18 : decode cX6_comesToWork 18 = .ok (.getfield 52, 3) := by decide +kernel
theorem dX6_comesToWork_21 : decode cX6_comesToWork 21 = .ok (.invokevirtual 138, 3) := by decide +kernel
theorem dX6_comesToWork_24 : decode cX6_comesToWork 24 = .ok (.iload_n 2, 1) := by decide +kernel
theorem dX6_comesToWork_25 : decode cX6_comesToWork 25 = .ok (.if_icmp .ge 16, 3) := by decide +kernel
theorem dX6_comesToWork_28 : decode cX6_comesToWork 28 = .ok (.aload_n 0, 1) := by decide +kernel
theorem dX6_comesToWork_29 : decode cX6_comesToWork 29 = .ok (.aload_n 0, 1) := by decide +kernel
theorem dX6_comesToWork_30 : decode cX6_comesToWork 30 = .ok (.getfield 52, 3) := by decide +kernel
theorem dX6_comesToWork_33 : decode cX6_comesToWork 33 = .ok (.invokevirtual 138, 3) := by decide +kernel
theorem dX6_comesToWork_36 : decode cX6_comesToWork 36 = .ok (.invokevirtual 141, 3) := by decide +kernel
theorem dX6_comesToWork_39 : decode cX6_comesToWork 39 = .ok (.iconst 0, 1) := by decide +kernel
theorem dX6_comesToWork_40 : decode cX6_comesToWork 40 = .ok (.ireturn, 1) := by decide +kernel
theorem dX6_comesToWork_41 : decode cX6_comesToWork 41 = .ok (.aload_n 0, 1) := by decide +kernel
theorem dX6_comesToWork_42 : decode cX6_comesToWork 42 = .ok (.getfield 52, 3) := by decide +kernel
theorem dX6_comesToWork_45 : decode cX6_comesToWork 45 = .ok (.invokevirtual 138, 3) := by decide +kernel
theorem dX6_comesToWork_48 : decode cX6_comesToWork 48 = .ok (.iload_n 2, 1) := by decide +kernel
theorem dX6_comesToWork_49 : decode cX6_comesToWork 49 = .ok (.if_icmp .gt 19, 3) := by decide +kernel
theorem dX6_comesToWork_52 : decode cX6_comesToWork 52 = .ok (.aload_n 0, 1) := by decide +kernel
theorem dX6_comesToWork_53 : decode cX6_comesToWork 53 = .ok (.aload_n 0, 1) := by decide +kernel
theorem dX6_comesToWork_54 : decode cX6_comesToWork 54 = .ok (.getfield 7, 3) := by decide +kernel
theorem dX6_comesToWork_57 : decode cX6_comesToWork 57 = .ok (.iload_n 1, 1) := by decide +kernel
theorem dX6_comesToWork_58 : decode cX6_comesToWork 58 = .ok (.iconst 0, 1) := by decide +kernel
theorem dX6_comesToWork_59 : decode cX6_comesToWork 59 = .ok (.invokevirtual 144, 3) := by decide +kernel
theorem dX6_comesToWork_62 : decode cX6_comesToWork 62 = .ok (.invokevirtual 147, 3) := by decide +kernel
theorem dX6_comesToWork_65 : decode cX6_comesToWork 65 = .ok (.ifCond .ne 7, 3) := by decide +kernel
theorem dX6_comesToWork_68 : decode cX6_comesToWork 68 = .ok (.iconst 1, 1) := by decide +kernel
theorem dX6_comesToWork_69 : decode cX6_comesToWork 69 = .ok (.goto 4, 3) := by decide +kernel
theorem dX6_comesToWork_72 : decode cX6_comesToWork 72 = .ok (.iconst 0, 1) := by decide +kernel
theorem dX6_comesToWork_73 : decode cX6_comesToWork 73 = .ok (.ireturn, 1) := by decide +kernel
theorem dX6_isStopped_0 : decode cX6_isStopped 0 = .ok (.aload_n 0, 1) := by decide +kernel
theorem dX6_isStopped_1 : decode cX6_isStopped 1 = .ok (.getfield 52, 3) := by decide +kernel
theorem dX6_isStopped_4 : decode cX6_isStopped 4 = .ok (.iconst 0, 1) := by decide +kernel
theorem dX6_isStopped_5 : decode cX6_isStopped 5 = .ok (.invokevirtual 150, 3) := by decide +kernel
theorem dX6_isStopped_8 : decode cX6_isStopped 8 = .ok (.lstore_n 2, 1) := by decide +kernel
theorem dX6_isStopped_9 : decode cX6_isStopped 9 = .ok (.aload_n 0, 1) := by decide +kernel
theorem dX6_isStopped_10 : decode cX6_isStopped 10 = .ok (.getfield 52, 3) := by decide +kernel
theorem dX6_isStopped_13 : decode cX6_isStopped 13 = .ok (.iconst 1, 1) := by decide +kernel
theorem dX6_isStopped_14 : decode cX6_isStopped 14 = .ok (.invokevirtual 150, 3) := by decide +kernel
theorem dX6_isStopped_17 : decode cX6_isStopped 17 = .ok (.lstore 4, 2) := by decide +kernel
theorem dX6_isStopped_19 : decode cX6_isStopped 19 = .ok (.iload_n 1, 1) := by decide +kernel
theorem dX6_isStopped_20 : decode cX6_isStopped 20 = .ok (.lload_n 2, 1) := by decide +kernel
theorem dX6_isStopped_21 : decode cX6_isStopped 21 = .ok (.lload 4, 2) := by decide +kernel
theorem dX6_isStopped_23 : decode cX6_isStopped 23 = .ok (.aload_n 0, 1) := by decide +kernel
theorem dX6_isStopped_24 : decode cX6_isStopped 24 = .ok (.getfield 52, 3) := by decide +kernel
theorem dX6_isStopped_27 : decode cX6_isStopped 27 = .ok (.iconst 2, 1) := by decide +kernel
theorem dX6_isStopped_28 : decode cX6_isStopped 28 = .ok (.invokevirtual 150, 3) := by decide +kernel
theorem dX6_isStopped_31 : decode cX6_isStopped 31 = .ok (.aload_n 0, 1) := by decide +kernel
theorem dX6_isStopped_32 : decode cX6_isStopped 32 = .ok (.getfield 16, 3) := by decide +kernel
theorem dX6_isStopped_35 : decode cX6_isStopped 35 = .ok (.lload_n 2, 1) := by decide +kernel
theorem dX6_isStopped_36 : decode cX6_isStopped 36 = .ok (.invokevirtual 153, 3) := by decide +kernel
theorem dX6_isStopped_39 : decode cX6_isStopped 39 = .ok (.aload_n 0, 1) := by decide +kernel
theorem dX6_isStopped_40 : decode cX6_isStopped 40 = .ok (.getfield 16, 3) := by decide +kernel
theorem dX6_isStopped_43 : decode cX6_isStopped 43 = .ok (.lload 4, 2) := by decide +kernel
theorem dX6_isStopped_45 : decode cX6_isStopped 45 = .ok (.invokevirtual 153, 3) := by decide +kernel
theorem dX6_isStopped_48 : decode cX6_isStopped 48 = .ok (.invokestatic 157, 3) := by decide +kernel
theorem dX6_isStopped_51 : decode cX6_isStopped 51 = .ok (.istore 6, 2) := by decide +kernel
theorem dX6_isStopped_53 : decode cX6_isStopped 53 = .ok (.iload 6, 2) := by decide +kernel
theorem dX6_isStopped_55 : decode cX6_isStopped 55 = .ok (.bipush 12, 2) := by decide +kernel
theorem dX6_isStopped_57 : decode cX6_isStopped 57 = .ok (.if_icmp .ne 12, 3) := by decide +kernel
theorem dX6_isStopped_60 : decode cX6_isStopped 60 = .ok (.aload_n 0, 1) := by decide +kernel
theorem dX6_isStopped_61 : decode cX6_isStopped 61 = .ok (.iload 6, 2) := by decide +kernel
theorem dX6_isStopped_63 : decode cX6_isStopped 63 = .ok (.invokevirtual 163, 3) := by decide +kernel
theorem dX6_isStopped_66 : decode cX6_isStopped 66 = .ok (.goto 30, 3) := by decide +kernel
theorem dX6_isStopped_69 : decode cX6_isStopped 69 = .ok (.iload 6, 2) := by decide +kernel
theorem dX6_isStopped_71 : decode cX6_isStopped 71 = .ok (.ifCond .eq 25, 3) := by decide +kernel
theorem dX6_isStopped_74 : decode cX6_isStopped 74 = .ok (.aload_n 0, 1) := by decide +kernel
theorem dX6_isStopped_75 : decode cX6_isStopped 75 = .ok (.iload 6, 2) := by decide +kernel
theorem dX6_isStopped_77 : decode cX6_isStopped 77 = .ok (.iload 6, 2) := by decide +kernel
theorem dX6_isStopped_79 : decode cX6_isStopped 79 = .ok (.bipush 7, 2) := by decide +kernel
theorem dX6_isStopped_81 : decode cX6_isStopped 81 = .ok (.if_icmp .ne 10, 3) := by decide +kernel
theorem dX6_isStopped_84 : decode cX6_isStopped 84 = .ok (.lload_n 2, 1) := by decide +kernel
theorem dX6_isStopped_85 : decode cX6_isStopped 85 = .ok (.invokestatic 166, 3) := by decide +kernel
theorem dX6_isStopped_88 : decode cX6_isStopped 88 = .ok (.goto 5, 3) := by decide +kernel
theorem dX6_isStopped_91 : decode cX6_isStopped 91 = .ok (.iload 6, 2) := by decide +kernel
theorem dX6_isStopped_93 : decode cX6_isStopped 93 = .ok (.invokevirtual 171, 3) := by decide +kernel
theorem dX6_isStopped_96 : decode cX6_isStopped 96 = .ok (.iload 6, 2) := by decide +kernel
theorem dX6_isStopped_98 : decode cX6_isStopped 98 = .ok (.ifCond .eq 7, 3) := by decide +kernel
theorem dX6_isStopped_101 : decode cX6_isStopped 101 = .ok (.iconst 1, 1) := by decide +kernel
theorem dX6_isStopped_102 : decode cX6_isStopped 102 = .ok (.goto 4, 3) := by decide +kernel
theorem dX6_isStopped_105 : decode cX6_isStopped 105 = .ok (.iconst 0, 1) := by decide +kernel
theorem dX6_isStopped_106 : decode cX6_isStopped 106 = .ok (.ireturn, 1) := by decide +kernel
theorem dX6_work_0 : decode cX6_work 0 = .ok (.aload_n 0, 1) := by decide +kernel
theorem dX6_work_1 : decode cX6_work 1 = .ok (.getfield 7, 3) := by decide +kernel
theorem dX6_work_4 : decode cX6_work 4 = .ok (.aload_n 0, 1) := by decide +kernel
theorem dX6_work_5 : decode cX6_work 5 = .ok (.getfield 52, 3) := by decide +kernel
theorem dX6_work_8 : decode cX6_work 8 = .ok (.invokevirtual 105, 3) := by decide +kernel
theorem dX6_work_11 : decode cX6_work 11 = .ok (.iconst 0, 1) := by decide +kernel
theorem dX6_work_12 : decode cX6_work 12 = .ok (.invokevirtual 144, 3) := by decide +kernel
theorem dX6_work_15 : decode cX6_work 15 = .ok (.istore_n 1, 1) := by decide +kernel
theorem dX6_work_16 : decode cX6_work 16 = .ok (.iload_n 1, 1) := by decide +kernel
theorem dX6_work_17 : decode cX6_work 17 = .ok (.tableswitch 224 4 29 #[119, 224, 224, 224, 224, 224, 224, 224, 224, 224, 224, 224, 224, 224, 224, 217, 224, 126, 149, 156, 163, 170, 224, 177, 184, 202], 119) := by decide +kernel
theorem dX6_work_136 : decode cX6_work 136 = .ok (.aload_n 0, 1) := by decide +kernel
theorem dX6_work_137 : decode cX6_work 137 = .ok (.invokevirtual 174, 3) := by decide +kernel
theorem dX6_work_140 : decode cX6_work 140 = .ok (.goto 106, 3) := by decide +kernel
theorem dX6_work_143 : decode cX6_work 143 = .ok (.aload_n 0, 1) := by decide +kernel
theorem dX6_work_144 : decode cX6_work 144 = .ok (.aload_n 0, 1) := by decide +kernel
theorem dX6_work_145 : decode cX6_work 145 = .ok (.getfield 52, 3) := by decide +kernel
theorem dX6_work_148 : decode cX6_work 148 = .ok (.aload_n 0, 1) := by decide +kernel
theorem dX6_work_149 : decode cX6_work 149 = .ok (.getfield 52, 3) := by decide +kernel
theorem dX6_work_152 : decode cX6_work 152 = .ok (.invokevirtual 138, 3) := by decide +kernel
theorem dX6_work_155 : decode cX6_work 155 = .ok (.iconst 1, 1) := by decide +kernel
theorem dX6_work_156 : decode cX6_work 156 = .ok (.isub, 1) := by decide +kernel
theorem dX6_work_157 : decode cX6_work 157 = .ok (.invokevirtual 150, 3) := by decide +kernel
theorem dX6_work_160 : decode cX6_work 160 = .ok (.invokevirtual 177, 3) := by decide +kernel
theorem dX6_work_163 : decode cX6_work 163 = .ok (.goto 83, 3) := by decide +kernel
theorem dX6_work_166 : decode cX6_work 166 = .ok (.aload_n 0, 1) := by decide +kernel
theorem dX6_work_167 : decode cX6_work 167 = .ok (.invokevirtual 180, 3) := by decide +kernel
theorem dX6_work_170 : decode cX6_work 170 = .ok (.goto 76, 3) := by decide +kernel
theorem dX6_work_173 : decode cX6_work 173 = .ok (.aload_n 0, 1) := by decide +kernel
theorem dX6_work_174 : decode cX6_work 174 = .ok (.invokevirtual 183, 3) := by decide +kernel
theorem dX6_work_177 : decode cX6_work 177 = .ok (.goto 69, 3) := by decide +kernel
theorem dX6_work_180 : decode cX6_work 180 = .ok (.aload_n 0, 1) := by decide +kernel
theorem dX6_work_181 : decode cX6_work 181 = .ok (.invokevirtual 186, 3) := by decide +kernel
theorem dX6_work_184 : decode cX6_work 184 = .ok (.goto 62, 3) := by decide +kernel
end
section
theorem dX6_work_187 : decode cX6_work 187 = .ok (.aload_n 0, 1) := by decide +kernel
theorem dX6_work_188 : decode cX6_work 188 = .ok (.invokevirtual 189, 3) := by decide +kernel
theorem dX6_work_191 : decode cX6_work 191 = .ok (.goto 55, 3) := by decide +kernel
theorem dX6_work_194 : decode cX6_work 194 = .ok (.aload_n 0, 1) := by decide +kernel
theorem dX6_work_195 : decode cX6_work 195 = .ok (.invokevirtual 192, 3) := by decide +kernel
theorem dX6_work_198 : decode cX6_work 198 = .ok (.goto 48, 3) := by decide +kernel
theorem dX6_work_201 : decode cX6_work 201 = .ok (.aload_n 0, 1) := by decide +kernel
theorem dX6_work_202 : decode cX6_work 202 = .ok (.aload_n 0, 1) := by decide +kernel
theorem dX6_work_203 : decode cX6_work 203 = .ok (.getfield 52, 3) := by decide +kernel
theorem dX6_work_206 : decode cX6_work 206 = .ok (.iconst 0, 1) := by decide +kernel
theorem dX6_work_207 : decode cX6_work 207 = .ok (.invokevirtual 150, 3) := by decide +kernel
theorem dX6_work_210 : decode cX6_work 210 = .ok (.invokestatic 166, 3) := by decide +kernel
theorem dX6_work_213 : decode cX6_work 213 = .ok (.invokevirtual 195, 3) := by decide +kernel
theorem dX6_work_216 : decode cX6_work 216 = .ok (.goto 30, 3) := by decide +kernel
theorem dX6_work_219 : decode cX6_work 219 = .ok (.aload_n 0, 1) := by decide +kernel
theorem dX6_work_220 : decode cX6_work 220 = .ok (.aload_n 0, 1) := by decide +kernel
theorem dX6_work_221 : decode cX6_work 221 = .ok (.getfield 52, 3) := by decide +kernel
theorem dX6_work_224 : decode cX6_work 224 = .ok (.iconst 0, 1) := by decide +kernel
theorem dX6_work_225 : decode cX6_work 225 = .ok (.invokevirtual 150, 3) := by decide +kernel
theorem dX6_work_228 : decode cX6_work 228 = .ok (.invokevirtual 177, 3) := by decide +kernel
theorem dX6_work_231 : decode cX6_work 231 = .ok (.goto 15, 3) := by decide +kernel
theorem dX6_work_234 : decode cX6_work 234 = .ok (.aload_n 0, 1) := by decide +kernel
theorem dX6_work_235 : decode cX6_work 235 = .ok (.invokevirtual 198, 3) := by decide +kernel
theorem dX6_work_238 : decode cX6_work 238 = .ok (.goto 8, 3) := by decide +kernel
theorem dX6_work_241 : decode cX6_work 241 = .ok (.aload_n 0, 1) := by decide +kernel
theorem dX6_work_242 : decode cX6_work 242 = .ok (.iload_n 1, 1) := by decide +kernel
theorem dX6_work_243 : decode cX6_work 243 = .ok (.invokevirtual 201, 3) := by decide +kernel
theorem dX6_work_246 : decode cX6_work 246 = .ok (.return_, 1) := by decide +kernel
theorem dX6_keep_0 : decode cX6_keep 0 = .ok (.aload_n 0, 1) := by decide +kernel
theorem dX6_keep_1 : decode cX6_keep 1 = .ok (.getfield 52, 3) := by decide +kernel
theorem dX6_keep_4 : decode cX6_keep 4 = .ok (.invokevirtual 138, 3) := by decide +kernel
theorem dX6_keep_7 : decode cX6_keep 7 = .ok (.iconst 1, 1) := by decide +kernel
theorem dX6_keep_8 : decode cX6_keep 8 = .ok (.if_icmp .ne 48, 3) := by decide +kernel
theorem dX6_keep_11 : decode cX6_keep 11 = .ok (.aload_n 0, 1) := by decide +kernel
theorem dX6_keep_12 : decode cX6_keep 12 = .ok (.getfield 38, 3) := by decide +kernel
theorem dX6_keep_15 : decode cX6_keep 15 = .ok (.aload_n 0, 1) := by decide +kernel
theorem dX6_keep_16 : decode cX6_keep 16 = .ok (.getfield 52, 3) := by decide +kernel
theorem dX6_keep_19 : decode cX6_keep 19 = .ok (.invokevirtual 114, 3) := by decide +kernel
theorem dX6_keep_22 : decode cX6_keep 22 = .ok (.aload_n 0, 1) := by decide +kernel
theorem dX6_keep_23 : decode cX6_keep 23 = .ok (.getfield 7, 3) := by decide +kernel
theorem dX6_keep_26 : decode cX6_keep 26 = .ok (.aload_n 0, 1) := by decide +kernel
theorem dX6_keep_27 : decode cX6_keep 27 = .ok (.getfield 52, 3) := by decide +kernel
theorem dX6_keep_30 : decode cX6_keep 30 = .ok (.invokevirtual 105, 3) := by decide +kernel
theorem dX6_keep_33 : decode cX6_keep 33 = .ok (.iconst 2, 1) := by decide +kernel
theorem dX6_keep_34 : decode cX6_keep 34 = .ok (.invokevirtual 144, 3) := by decide +kernel
theorem dX6_keep_37 : decode cX6_keep 37 = .ok (.aload_n 0, 1) := by decide +kernel
theorem dX6_keep_38 : decode cX6_keep 38 = .ok (.getfield 52, 3) := by decide +kernel
theorem dX6_keep_41 : decode cX6_keep 41 = .ok (.iconst 0, 1) := by decide +kernel
theorem dX6_keep_42 : decode cX6_keep 42 = .ok (.invokevirtual 150, 3) := by decide +kernel
theorem dX6_keep_45 : decode cX6_keep 45 = .ok (.invokevirtual 204, 3) := by decide +kernel
theorem dX6_keep_48 : decode cX6_keep 48 = .ok (.aload_n 0, 1) := by decide +kernel
theorem dX6_keep_49 : decode cX6_keep 49 = .ok (.iconst 1, 1) := by decide +kernel
theorem dX6_keep_50 : decode cX6_keep 50 = .ok (.invokevirtual 141, 3) := by decide +kernel
theorem dX6_keep_53 : decode cX6_keep 53 = .ok (.goto 15, 3) := by decide +kernel
theorem dX6_keep_56 : decode cX6_keep 56 = .ok (.aload_n 0, 1) := by decide +kernel
theorem dX6_keep_57 : decode cX6_keep 57 = .ok (.aload_n 0, 1) := by decide +kernel
theorem dX6_keep_58 : decode cX6_keep 58 = .ok (.getfield 52, 3) := by decide +kernel
theorem dX6_keep_61 : decode cX6_keep 61 = .ok (.iconst 1, 1) := by decide +kernel
theorem dX6_keep_62 : decode cX6_keep 62 = .ok (.invokevirtual 150, 3) := by decide +kernel
theorem dX6_keep_65 : decode cX6_keep 65 = .ok (.invokevirtual 177, 3) := by decide +kernel
theorem dX6_keep_68 : decode cX6_keep 68 = .ok (.return_, 1) := by decide +kernel
theorem dX6_doAlways_0 : decode cX6_doAlways 0 = .ok (.aload_n 0, 1) := by decide +kernel
theorem dX6_doAlways_1 : decode cX6_doAlways 1 = .ok (.getfield 52, 3) := by decide +kernel
theorem dX6_doAlways_4 : decode cX6_doAlways 4 = .ok (.invokevirtual 138, 3) := by decide +kernel
theorem dX6_doAlways_7 : decode cX6_doAlways 7 = .ok (.iconst 1, 1) := by decide +kernel
theorem dX6_doAlways_8 : decode cX6_doAlways 8 = .ok (.if_icmp .ne 11, 3) := by decide +kernel
theorem dX6_doAlways_11 : decode cX6_doAlways 11 = .ok (.aload_n 0, 1) := by decide +kernel
theorem dX6_doAlways_12 : decode cX6_doAlways 12 = .ok (.iconst 1, 1) := by decide +kernel
theorem dX6_doAlways_13 : decode cX6_doAlways 13 = .ok (.invokevirtual 141, 3) := by decide +kernel
theorem dX6_doAlways_16 : decode cX6_doAlways 16 = .ok (.goto 46, 3) := by decide +kernel
theorem dX6_doAlways_19 : decode cX6_doAlways 19 = .ok (.aload_n 0, 1) := by decide +kernel
theorem dX6_doAlways_20 : decode cX6_doAlways 20 = .ok (.getfield 52, 3) := by decide +kernel
theorem dX6_doAlways_23 : decode cX6_doAlways 23 = .ok (.invokevirtual 208, 3) := by decide +kernel
theorem dX6_doAlways_26 : decode cX6_doAlways 26 = .ok (.ifCond .eq 24, 3) := by decide +kernel
theorem dX6_doAlways_29 : decode cX6_doAlways 29 = .ok (.aload_n 0, 1) := by decide +kernel
theorem dX6_doAlways_30 : decode cX6_doAlways 30 = .ok (.getfield 52, 3) := by decide +kernel
theorem dX6_doAlways_33 : decode cX6_doAlways 33 = .ok (.aload_n 0, 1) := by decide +kernel
theorem dX6_doAlways_34 : decode cX6_doAlways 34 = .ok (.getfield 23, 3) := by decide +kernel
theorem dX6_doAlways_37 : decode cX6_doAlways 37 = .ok (.invokevirtual 211, 3) := by decide +kernel
theorem dX6_doAlways_40 : decode cX6_doAlways 40 = .ok (.aload_n 0, 1) := by decide +kernel
theorem dX6_doAlways_41 : decode cX6_doAlways 41 = .ok (.getfield 52, 3) := by decide +kernel
theorem dX6_doAlways_44 : decode cX6_doAlways 44 = .ok (.invokevirtual 117, 3) := by decide +kernel
theorem dX6_doAlways_47 : decode cX6_doAlways 47 = .ok (.goto 15, 3) := by decide +kernel
theorem dX6_doAlways_50 : decode cX6_doAlways 50 = .ok (.aload_n 0, 1) := by decide +kernel
theorem dX6_doAlways_51 : decode cX6_doAlways 51 = .ok (.aload_n 0, 1) := by decide +kernel
theorem dX6_doAlways_52 : decode cX6_doAlways 52 = .ok (.getfield 52, 3) := by decide +kernel
theorem dX6_doAlways_55 : decode cX6_doAlways 55 = .ok (.iconst 0, 1) := by decide +kernel
theorem dX6_doAlways_56 : decode cX6_doAlways 56 = .ok (.invokevirtual 150, 3) := by decide +kernel
theorem dX6_doAlways_59 : decode cX6_doAlways 59 = .ok (.invokevirtual 177, 3) := by decide +kernel
theorem dX6_doAlways_62 : decode cX6_doAlways 62 = .ok (.return_, 1) := by decide +kernel
theorem dX6_choose_0 : decode cX6_choose 0 = .ok (.aload_n 0, 1) := by decide +kernel
theorem dX6_choose_1 : decode cX6_choose 1 = .ok (.getfield 52, 3) := by decide +kernel
theorem dX6_choose_4 : decode cX6_choose 4 = .ok (.invokevirtual 138, 3) := by decide +kernel
theorem dX6_choose_7 : decode cX6_choose 7 = .ok (.iconst 1, 1) := by decide +kernel
theorem dX6_choose_8 : decode cX6_choose 8 = .ok (.if_icmp .ne 29, 3) := by decide +kernel
theorem dX6_choose_11 : decode cX6_choose 11 = .ok (.aload_n 0, 1) := by decide +kernel
theorem dX6_choose_12 : decode cX6_choose 12 = .ok (.aload_n 0, 1) := by decide +kernel
theorem dX6_choose_13 : decode cX6_choose 13 = .ok (.getfield 52, 3) := by decide +kernel
theorem dX6_choose_16 : decode cX6_choose 16 = .ok (.iconst 0, 1) := by decide +kernel
theorem dX6_choose_17 : decode cX6_choose 17 = .ok (.invokevirtual 150, 3) := by decide +kernel
theorem dX6_choose_20 : decode cX6_choose 20 = .ok (.invokestatic 166, 3) := by decide +kernel
theorem dX6_choose_23 : decode cX6_choose 23 = .ok (.ifCond .eq 7, 3) := by decide +kernel
theorem dX6_choose_26 : decode cX6_choose 26 = .ok (.iconst 1, 1) := by decide +kernel
theorem dX6_choose_27 : decode cX6_choose 27 = .ok (.goto 4, 3) := by decide +kernel
theorem dX6_choose_30 : decode cX6_choose 30 = .ok (.iconst 2, 1) := by decide +kernel
theorem dX6_choose_31 : decode cX6_choose 31 = .ok (.invokevirtual 141, 3) := by decide +kernel
theorem dX6_choose_34 : decode cX6_choose 34 = .ok (.goto 15, 3) := by decide +kernel
theorem dX6_choose_37 : decode cX6_choose 37 = .ok (.aload_n 0, 1) := by decide +kernel
theorem dX6_choose_38 : decode cX6_choose 38 = .ok (.aload_n 0, 1) := by decide +kernel
theorem dX6_choose_39 : decode cX6_choose 39 = .ok (.getfield 52, 3) := by decide +kernel
theorem dX6_choose_42 : decode cX6_choose 42 = .ok (.iconst 1, 1) := by decide +kernel
theorem dX6_choose_43 : decode cX6_choose 43 = .ok (.invokevirtual 150, 3) := by decide +kernel
theorem dX6_choose_46 : decode cX6_choose 46 = .ok (.invokevirtual 177, 3) := by decide +kernel
theorem dX6_choose_49 : decode cX6_choose 49 = .ok (.return_, 1) := by decide +kernel
theorem dX6_loop_0 : decode cX6_loop 0 = .ok (.aload_n 0, 1) := by decide +kernel
theorem dX6_loop_1 : decode cX6_loop 1 = .ok (.getfield 52, 3) := by decide +kernel
theorem dX6_loop_4 : decode cX6_loop 4 = .ok (.invokevirtual 138, 3) := by decide +kernel
theorem dX6_loop_7 : decode cX6_loop 7 = .ok (.iconst 2, 1) := by decide +kernel
theorem dX6_loop_8 : decode cX6_loop 8 = .ok (.if_icmp .ne 10, 3) := by decide +kernel
theorem dX6_loop_11 : decode cX6_loop 11 = .ok (.aload_n 0, 1) := by decide +kernel
theorem dX6_loop_12 : decode cX6_loop 12 = .ok (.invokevirtual 215, 3) := by decide +kernel
theorem dX6_loop_15 : decode cX6_loop 15 = .ok (.goto 32, 3) := by decide +kernel
theorem dX6_loop_18 : decode cX6_loop 18 = .ok (.aload_n 0, 1) := by decide +kernel
theorem dX6_loop_19 : decode cX6_loop 19 = .ok (.getfield 52, 3) := by decide +kernel
theorem dX6_loop_22 : decode cX6_loop 22 = .ok (.iconst 0, 1) := by decide +kernel
theorem dX6_loop_23 : decode cX6_loop 23 = .ok (.invokevirtual 150, 3) := by decide +kernel
theorem dX6_loop_26 : decode cX6_loop 26 = .ok (.invokestatic 166, 3) := by decide +kernel
theorem dX6_loop_29 : decode cX6_loop 29 = .ok (.ifCond .eq 11, 3) := by decide +kernel
theorem dX6_loop_32 : decode cX6_loop 32 = .ok (.aload_n 0, 1) := by decide +kernel
theorem dX6_loop_33 : decode cX6_loop 33 = .ok (.iconst 1, 1) := by decide +kernel
theorem dX6_loop_34 : decode cX6_loop 34 = .ok (.invokevirtual 141, 3) := by decide +kernel
theorem dX6_loop_37 : decode cX6_loop 37 = .ok (.goto 10, 3) := by decide +kernel
theorem dX6_loop_40 : decode cX6_loop 40 = .ok (.aload_n 0, 1) := by decide +kernel
theorem dX6_loop_41 : decode cX6_loop 41 = .ok (.ldc2_w 218, 3) := by decide +kernel
theorem dX6_loop_44 : decode cX6_loop 44 = .ok (.invokevirtual 177, 3) := by decide +kernel
theorem dX6_loop_47 : decode cX6_loop 47 = .ok (.return_, 1) := by decide +kernel
theorem dX6_askAgain_0 : decode cX6_askAgain 0 = .ok (.aload_n 0, 1) := by decide +kernel
theorem dX6_askAgain_1 : decode cX6_askAgain 1 = .ok (.getfield 23, 3) := by decide +kernel
theorem dX6_askAgain_4 : decode cX6_askAgain 4 = .ok (.aload_n 0, 1) := by decide +kernel
theorem dX6_askAgain_5 : decode cX6_askAgain 5 = .ok (.getfield 52, 3) := by decide +kernel
theorem dX6_askAgain_8 : decode cX6_askAgain 8 = .ok (.invokevirtual 105, 3) := by decide +kernel
theorem dX6_askAgain_11 : decode cX6_askAgain 11 = .ok (.invokevirtual 94, 3) := by decide +kernel
theorem dX6_askAgain_14 : decode cX6_askAgain 14 = .ok (.ifCond .eq 11, 3) := by decide +kernel
theorem dX6_askAgain_17 : decode cX6_askAgain 17 = .ok (.aload_n 0, 1) := by decide +kernel
theorem dX6_askAgain_18 : decode cX6_askAgain 18 = .ok (.getfield 52, 3) := by decide +kernel
theorem dX6_askAgain_21 : decode cX6_askAgain 21 = .ok (.iconst 0, 1) := by decide +kernel
theorem dX6_askAgain_22 : decode cX6_askAgain 22 = .ok (.invokevirtual 220, 3) := by decide +kernel
theorem dX6_askAgain_25 : decode cX6_askAgain 25 = .ok (.return_, 1) := by decide +kernel
theorem dX6_call_0 : decode cX6_call 0 = .ok (.aload_n 0, 1) := by decide +kernel
theorem dX6_call_1 : decode cX6_call 1 = .ok (.getfield 52, 3) := by decide +kernel
theorem dX6_call_4 : decode cX6_call 4 = .ok (.invokevirtual 138, 3) := by decide +kernel
theorem dX6_call_7 : decode cX6_call 7 = .ok (.iconst 1, 1) := by decide +kernel
theorem dX6_call_8 : decode cX6_call 8 = .ok (.if_icmp .ne 25, 3) := by decide +kernel
theorem dX6_call_11 : decode cX6_call 11 = .ok (.aload_n 0, 1) := by decide +kernel
theorem dX6_call_12 : decode cX6_call 12 = .ok (.aload_n 0, 1) := by decide +kernel
theorem dX6_call_13 : decode cX6_call 13 = .ok (.getfield 7, 3) := by decide +kernel
theorem dX6_call_16 : decode cX6_call 16 = .ok (.aload_n 0, 1) := by decide +kernel
theorem dX6_call_17 : decode cX6_call 17 = .ok (.getfield 52, 3) := by decide +kernel
theorem dX6_call_20 : decode cX6_call 20 = .ok (.invokevirtual 105, 3) := by decide +kernel
theorem dX6_call_23 : decode cX6_call 23 = .ok (.iconst 1, 1) := by decide +kernel
theorem dX6_call_24 : decode cX6_call 24 = .ok (.invokevirtual 144, 3) := by decide +kernel
theorem dX6_call_27 : decode cX6_call 27 = .ok (.invokevirtual 223, 3) := by decide +kernel
theorem dX6_call_30 : decode cX6_call 30 = .ok (.goto 25, 3) := by decide +kernel
theorem dX6_call_33 : decode cX6_call 33 = .ok (.aload_n 0, 1) := by decide +kernel
theorem dX6_call_34 : decode cX6_call 34 = .ok (.dup, 1) := by decide +kernel
theorem dX6_call_35 : decode cX6_call 35 = .ok (.getfield 56, 3) := by decide +kernel
theorem dX6_call_38 : decode cX6_call 38 = .ok (.iconst 1, 1) := by decide +kernel
theorem dX6_call_39 : decode cX6_call 39 = .ok (.isub, 1) := by decide +kernel
theorem dX6_call_40 : decode cX6_call 40 = .ok (.putfield 56, 3) := by decide +kernel
theorem dX6_call_43 : decode cX6_call 43 = .ok (.aload_n 0, 1) := by decide +kernel
theorem dX6_call_44 : decode cX6_call 44 = .ok (.aload_n 0, 1) := by decide +kernel
theorem dX6_call_45 : decode cX6_call 45 = .ok (.getfield 52, 3) := by decide +kernel
theorem dX6_call_48 : decode cX6_call 48 = .ok (.iconst 1, 1) := by decide +kernel
theorem dX6_call_49 : decode cX6_call 49 = .ok (.invokevirtual 150, 3) := by decide +kernel
theorem dX6_call_52 : decode cX6_call 52 = .ok (.invokevirtual 177, 3) := by decide +kernel
theorem dX6_call_55 : decode cX6_call 55 = .ok (.return_, 1) := by decide +kernel
theorem dX6_enter_0 : decode cX6_enter 0 = .ok (.aload_n 0, 1) := by decide +kernel
theorem dX6_enter_1 : decode cX6_enter 1 = .ok (.getfield 7, 3) := by decide +kernel
theorem dX6_enter_4 : decode cX6_enter 4 = .ok (.iload_n 1, 1) := by decide +kernel
theorem dX6_enter_5 : decode cX6_enter 5 = .ok (.invokevirtual 226, 3) := by decide +kernel
theorem dX6_enter_8 : decode cX6_enter 8 = .ok (.ifCond .ne 13, 3) := by decide +kernel
theorem dX6_enter_11 : decode cX6_enter 11 = .ok (.aload_n 0, 1) := by decide +kernel
theorem dX6_enter_12 : decode cX6_enter 12 = .ok (.ldc2_w 218, 3) := by decide +kernel
theorem dX6_enter_15 : decode cX6_enter 15 = .ok (.invokevirtual 177, 3) := by decide +kernel
theorem dX6_enter_18 : decode cX6_enter 18 = .ok (.goto 62, 3) := by decide +kernel
theorem dX6_enter_21 : decode cX6_enter 21 = .ok (.aload_n 0, 1) := by decide +kernel
theorem dX6_enter_22 : decode cX6_enter 22 = .ok (.getfield 56, 3) := by decide +kernel
theorem dX6_enter_25 : decode cX6_enter 25 = .ok (.bipush 8, 2) := by decide +kernel
theorem dX6_enter_27 : decode cX6_enter 27 = .ok (.if_icmp .lt 12, 3) := by decide +kernel
theorem dX6_enter_30 : decode cX6_enter 30 = .ok (.aload_n 0, 1) := by decide +kernel
theorem dX6_enter_31 : decode cX6_enter 31 = .ok (.bipush 11, 2) := by decide +kernel
theorem dX6_enter_33 : decode cX6_enter 33 = .ok (.invokevirtual 163, 3) := by decide +kernel
theorem dX6_enter_36 : decode cX6_enter 36 = .ok (.goto 44, 3) := by decide +kernel
theorem dX6_enter_39 : decode cX6_enter 39 = .ok (.aload_n 0, 1) := by decide +kernel
theorem dX6_enter_40 : decode cX6_enter 40 = .ok (.dup, 1) := by decide +kernel
theorem dX6_enter_41 : decode cX6_enter 41 = .ok (.getfield 56, 3) := by decide +kernel
theorem dX6_enter_44 : decode cX6_enter 44 = .ok (.iconst 1, 1) := by decide +kernel
theorem dX6_enter_45 : decode cX6_enter 45 = .ok (.iadd, 1) := by decide +kernel
theorem dX6_enter_46 : decode cX6_enter 46 = .ok (.putfield 56, 3) := by decide +kernel
theorem dX6_enter_49 : decode cX6_enter 49 = .ok (.aload_n 0, 1) := by decide +kernel
theorem dX6_enter_50 : decode cX6_enter 50 = .ok (.getfield 38, 3) := by decide +kernel
theorem dX6_enter_53 : decode cX6_enter 53 = .ok (.invokevirtual 69, 3) := by decide +kernel
theorem dX6_enter_56 : decode cX6_enter 56 = .ok (.istore_n 2, 1) := by decide +kernel
theorem dX6_enter_57 : decode cX6_enter 57 = .ok (.aload_n 0, 1) := by decide +kernel
theorem dX6_enter_58 : decode cX6_enter 58 = .ok (.getfield 38, 3) := by decide +kernel
theorem dX6_enter_61 : decode cX6_enter 61 = .ok (.iload_n 2, 1) := by decide +kernel
theorem dX6_enter_62 : decode cX6_enter 62 = .ok (.iconst 0, 1) := by decide +kernel
theorem dX6_enter_63 : decode cX6_enter 63 = .ok (.aload_n 0, 1) := by decide +kernel
theorem dX6_enter_64 : decode cX6_enter 64 = .ok (.getfield 52, 3) := by decide +kernel
theorem dX6_enter_67 : decode cX6_enter 67 = .ok (.iconst 0, 1) := by decide +kernel
theorem dX6_enter_68 : decode cX6_enter 68 = .ok (.invokevirtual 150, 3) := by decide +kernel
theorem dX6_enter_71 : decode cX6_enter 71 = .ok (.invokevirtual 204, 3) := by decide +kernel
theorem dX6_enter_74 : decode cX6_enter 74 = .ok (.aload_n 0, 1) := by decide +kernel
theorem dX6_enter_75 : decode cX6_enter 75 = .ok (.iload_n 1, 1) := by decide +kernel
theorem dX6_enter_76 : decode cX6_enter 76 = .ok (.iload_n 2, 1) := by decide +kernel
theorem dX6_enter_77 : decode cX6_enter 77 = .ok (.invokevirtual 73, 3) := by decide +kernel
theorem dX6_enter_80 : decode cX6_enter 80 = .ok (.return_, 1) := by decide +kernel
theorem dX6_delay_0 : decode cX6_delay 0 = .ok (.aload_n 0, 1) := by decide +kernel
theorem dX6_delay_1 : decode cX6_delay 1 = .ok (.aload_n 0, 1) := by decide +kernel
theorem dX6_delay_2 : decode cX6_delay 2 = .ok (.getfield 45, 3) := by decide +kernel
theorem dX6_delay_5 : decode cX6_delay 5 = .ok (.aload_n 0, 1) := by decide +kernel
theorem dX6_delay_6 : decode cX6_delay 6 = .ok (.getfield 7, 3) := by decide +kernel
theorem dX6_delay_9 : decode cX6_delay 9 = .ok (.aload_n 0, 1) := by decide +kernel
theorem dX6_delay_10 : decode cX6_delay 10 = .ok (.getfield 52, 3) := by decide +kernel
theorem dX6_delay_13 : decode cX6_delay 13 = .ok (.invokevirtual 105, 3) := by decide +kernel
theorem dX6_delay_16 : decode cX6_delay 16 = .ok (.iconst 0, 1) := by decide +kernel
theorem dX6_delay_17 : decode cX6_delay 17 = .ok (.invokevirtual 108, 3) := by decide +kernel
theorem dX6_delay_20 : decode cX6_delay 20 = .ok (.aload_n 0, 1) := by decide +kernel
theorem dX6_delay_21 : decode cX6_delay 21 = .ok (.getfield 52, 3) := by decide +kernel
theorem dX6_delay_24 : decode cX6_delay 24 = .ok (.invokevirtual 114, 3) := by decide +kernel
theorem dX6_delay_27 : decode cX6_delay 27 = .ok (.invokevirtual 229, 3) := by decide +kernel
theorem dX6_delay_30 : decode cX6_delay 30 = .ok (.invokevirtual 177, 3) := by decide +kernel
theorem dX6_delay_33 : decode cX6_delay 33 = .ok (.return_, 1) := by decide +kernel
theorem dX6_force_0 : decode cX6_force 0 = .ok (.aload_n 0, 1) := by decide +kernel
theorem dX6_force_1 : decode cX6_force 1 = .ok (.getfield 52, 3) := by decide +kernel
theorem dX6_force_4 : decode cX6_force 4 = .ok (.invokevirtual 138, 3) := by decide +kernel
theorem dX6_force_7 : decode cX6_force 7 = .ok (.iconst 1, 1) := by decide +kernel
theorem dX6_force_8 : decode cX6_force 8 = .ok (.if_icmp .ne 11, 3) := by decide +kernel
theorem dX6_force_11 : decode cX6_force 11 = .ok (.aload_n 0, 1) := by decide +kernel
theorem dX6_force_12 : decode cX6_force 12 = .ok (.iload_n 1, 1) := by decide +kernel
theorem dX6_force_13 : decode cX6_force 13 = .ok (.invokevirtual 233, 3) := by decide +kernel
theorem dX6_force_16 : decode cX6_force 16 = .ok (.goto 31, 3) := by decide +kernel
theorem dX6_force_19 : decode cX6_force 19 = .ok (.aload_n 0, 1) := by decide +kernel
theorem dX6_force_20 : decode cX6_force 20 = .ok (.getfield 45, 3) := by decide +kernel
theorem dX6_force_23 : decode cX6_force 23 = .ok (.iload_n 1, 1) := by decide +kernel
theorem dX6_force_24 : decode cX6_force 24 = .ok (.aload_n 0, 1) := by decide +kernel
theorem dX6_force_25 : decode cX6_force 25 = .ok (.getfield 52, 3) := by decide +kernel
theorem dX6_force_28 : decode cX6_force 28 = .ok (.iconst 1, 1) := by decide +kernel
theorem dX6_force_29 : decode cX6_force 29 = .ok (.invokevirtual 150, 3) := by decide +kernel
theorem dX6_force_32 : decode cX6_force 32 = .ok (.invokevirtual 236, 3) := by decide +kernel
theorem dX6_force_35 : decode cX6_force 35 = .ok (.aload_n 0, 1) := by decide +kernel
theorem dX6_force_36 : decode cX6_force 36 = .ok (.aload_n 0, 1) := by decide +kernel
theorem dX6_force_37 : decode cX6_force 37 = .ok (.getfield 52, 3) := by decide +kernel
theorem dX6_force_40 : decode cX6_force 40 = .ok (.iconst 1, 1) := by decide +kernel
theorem dX6_force_41 : decode cX6_force 41 = .ok (.invokevirtual 150, 3) := by decide +kernel
theorem dX6_force_44 : decode cX6_force 44 = .ok (.invokevirtual 177, 3) := by decide +kernel
theorem dX6_force_47 : decode cX6_force 47 = .ok (.return_, 1) := by decide +kernel
theorem dX6_workLater_0 : decode cX6_workLater 0 = .ok (.aload_n 0, 1) := by decide +kernel
theorem dX6_workLater_1 : decode cX6_workLater 1 = .ok (.getfield 45, 3) := by decide +kernel
theorem dX6_workLater_4 : decode cX6_workLater 4 = .ok (.iload_n 1, 1) := by decide +kernel
theorem dX6_workLater_5 : decode cX6_workLater 5 = .ok (.invokevirtual 240, 3) := by decide +kernel
theorem dX6_workLater_8 : decode cX6_workLater 8 = .ok (.tableswitch 77 1 3 #[28, 39, 54], 28) := by decide +kernel
theorem dX6_workLater_36 : decode cX6_workLater 36 = .ok (.aload_n 0, 1) := by decide +kernel
theorem dX6_workLater_37 : decode cX6_workLater 37 = .ok (.bipush 8, 2) := by decide +kernel
theorem dX6_workLater_39 : decode cX6_workLater 39 = .ok (.bipush 8, 2) := by decide +kernel
theorem dX6_workLater_41 : decode cX6_workLater 41 = .ok (.invokevirtual 171, 3) := by decide +kernel
theorem dX6_workLater_44 : decode cX6_workLater 44 = .ok (.goto 70, 3) := by decide +kernel
theorem dX6_workLater_47 : decode cX6_workLater 47 = .ok (.aload_n 0, 1) := by decide +kernel
theorem dX6_workLater_48 : decode cX6_workLater 48 = .ok (.aload_n 0, 1) := by decide +kernel
theorem dX6_workLater_49 : decode cX6_workLater 49 = .ok (.getfield 45, 3) := by decide +kernel
theorem dX6_workLater_52 : decode cX6_workLater 52 = .ok (.iload_n 1, 1) := by decide +kernel
theorem dX6_workLater_53 : decode cX6_workLater 53 = .ok (.invokevirtual 243, 3) := by decide +kernel
theorem dX6_workLater_56 : decode cX6_workLater 56 = .ok (.invokevirtual 177, 3) := by decide +kernel
theorem dX6_workLater_59 : decode cX6_workLater 59 = .ok (.goto 55, 3) := by decide +kernel
theorem dX6_workLater_62 : decode cX6_workLater 62 = .ok (.aload_n 0, 1) := by decide +kernel
theorem dX6_workLater_63 : decode cX6_workLater 63 = .ok (.aload_n 0, 1) := by decide +kernel
theorem dX6_workLater_64 : decode cX6_workLater 64 = .ok (.getfield 45, 3) := by decide +kernel
theorem dX6_workLater_67 : decode cX6_workLater 67 = .ok (.iload_n 1, 1) := by decide +kernel
theorem dX6_workLater_68 : decode cX6_workLater 68 = .ok (.invokevirtual 246, 3) := by decide +kernel
theorem dX6_workLater_71 : decode cX6_workLater 71 = .ok (.aload_n 0, 1) := by decide +kernel
theorem dX6_workLater_72 : decode cX6_workLater 72 = .ok (.getfield 45, 3) := by decide +kernel
theorem dX6_workLater_75 : decode cX6_workLater 75 = .ok (.iload_n 1, 1) := by decide +kernel
theorem dX6_workLater_76 : decode cX6_workLater 76 = .ok (.invokevirtual 249, 3) := by decide +kernel
theorem dX6_workLater_79 : decode cX6_workLater 79 = .ok (.invokevirtual 171, 3) := by decide +kernel
theorem dX6_workLater_82 : decode cX6_workLater 82 = .ok (.goto 32, 3) := by decide +kernel
theorem dX6_workLater_85 : decode cX6_workLater 85 = .ok (.aload_n 0, 1) := by decide +kernel
theorem dX6_workLater_86 : decode cX6_workLater 86 = .ok (.getfield 45, 3) := by decide +kernel
theorem dX6_workLater_89 : decode cX6_workLater 89 = .ok (.iload_n 1, 1) := by decide +kernel
theorem dX6_workLater_90 : decode cX6_workLater 90 = .ok (.iconst 1, 1) := by decide +kernel
theorem dX6_workLater_91 : decode cX6_workLater 91 = .ok (.invokevirtual 252, 3) := by decide +kernel
theorem dX6_workLater_94 : decode cX6_workLater 94 = .ok (.aload_n 0, 1) := by decide +kernel
theorem dX6_workLater_95 : decode cX6_workLater 95 = .ok (.aload_n 0, 1) := by decide +kernel
theorem dX6_workLater_96 : decode cX6_workLater 96 = .ok (.getfield 45, 3) := by decide +kernel
theorem dX6_workLater_99 : decode cX6_workLater 99 = .ok (.iload_n 1, 1) := by decide +kernel
theorem dX6_workLater_100 : decode cX6_workLater 100 = .ok (.invokevirtual 255, 3) := by decide +kernel
theorem dX6_workLater_103 : decode cX6_workLater 103 = .ok (.aload_n 0, 1) := by decide +kernel
theorem dX6_workLater_104 : decode cX6_workLater 104 = .ok (.getfield 45, 3) := by decide +kernel
theorem dX6_workLater_107 : decode cX6_workLater 107 = .ok (.iload_n 1, 1) := by decide +kernel
theorem dX6_workLater_108 : decode cX6_workLater 108 = .ok (.invokevirtual 258, 3) := by decide +kernel
theorem dX6_workLater_111 : decode cX6_workLater 111 = .ok (.invokevirtual 73, 3) := by decide +kernel
theorem dX6_workLater_114 : decode cX6_workLater 114 = .ok (.return_, 1) := by decide +kernel
theorem dX6_copy_0 : decode cX6_copy 0 = .ok (.aload_n 0, 1) := by decide +kernel
theorem dX6_copy_1 : decode cX6_copy 1 = .ok (.getfield 52, 3) := by decide +kernel
theorem dX6_copy_4 : decode cX6_copy 4 = .ok (.iconst 2, 1) := by decide +kernel
theorem dX6_copy_5 : decode cX6_copy 5 = .ok (.invokevirtual 150, 3) := by decide +kernel
theorem dX6_copy_8 : decode cX6_copy 8 = .ok (.lstore_n 1, 1) := by decide +kernel
theorem dX6_copy_9 : decode cX6_copy 9 = .ok (.aload_n 0, 1) := by decide +kernel
theorem dX6_copy_10 : decode cX6_copy 10 = .ok (.getfield 16, 3) := by decide +kernel
theorem dX6_copy_13 : decode cX6_copy 13 = .ok (.aload_n 0, 1) := by decide +kernel
theorem dX6_copy_14 : decode cX6_copy 14 = .ok (.getfield 52, 3) := by decide +kernel
theorem dX6_copy_17 : decode cX6_copy 17 = .ok (.iconst 0, 1) := by decide +kernel
theorem dX6_copy_18 : decode cX6_copy 18 = .ok (.invokevirtual 150, 3) := by decide +kernel
theorem dX6_copy_21 : decode cX6_copy 21 = .ok (.aload_n 0, 1) := by decide +kernel
theorem dX6_copy_22 : decode cX6_copy 22 = .ok (.getfield 52, 3) := by decide +kernel
theorem dX6_copy_25 : decode cX6_copy 25 = .ok (.iconst 1, 1) := by decide +kernel
theorem dX6_copy_26 : decode cX6_copy 26 = .ok (.invokevirtual 150, 3) := by decide +kernel
theorem dX6_copy_29 : decode cX6_copy 29 = .ok (.lload_n 1, 1) := by decide +kernel
theorem dX6_copy_30 : decode cX6_copy 30 = .ok (.invokestatic 166, 3) := by decide +kernel
theorem dX6_copy_33 : decode cX6_copy 33 = .ok (.invokevirtual 261, 3) := by decide +kernel
theorem dX6_copy_36 : decode cX6_copy 36 = .ok (.ifCond .eq 11, 3) := by decide +kernel
theorem dX6_copy_39 : decode cX6_copy 39 = .ok (.aload_n 0, 1) := by decide +kernel
theorem dX6_copy_40 : decode cX6_copy 40 = .ok (.lload_n 1, 1) := by decide +kernel
theorem dX6_copy_41 : decode cX6_copy 41 = .ok (.invokevirtual 177, 3) := by decide +kernel
theorem dX6_copy_44 : decode cX6_copy 44 = .ok (.goto 9, 3) := by decide +kernel
theorem dX6_copy_47 : decode cX6_copy 47 = .ok (.aload_n 0, 1) := by decide +kernel
theorem dX6_copy_48 : decode cX6_copy 48 = .ok (.iconst 5, 1) := by decide +kernel
theorem dX6_copy_49 : decode cX6_copy 49 = .ok (.iconst 5, 1) := by decide +kernel
theorem dX6_copy_50 : decode cX6_copy 50 = .ok (.invokevirtual 171, 3) := by decide +kernel
theorem dX6_copy_53 : decode cX6_copy 53 = .ok (.return_, 1) := by decide +kernel
theorem dX6_workPlainly_0 : decode cX6_workPlainly 0 = .ok (.aload_n 0, 1) := by decide +kernel
theorem dX6_workPlainly_1 : decode cX6_workPlainly 1 = .ok (.getfield 7, 3) := by decide +kernel
theorem dX6_workPlainly_4 : decode cX6_workPlainly 4 = .ok (.aload_n 0, 1) := by decide +kernel
theorem dX6_workPlainly_5 : decode cX6_workPlainly 5 = .ok (.getfield 52, 3) := by decide +kernel
theorem dX6_workPlainly_8 : decode cX6_workPlainly 8 = .ok (.invokevirtual 105, 3) := by decide +kernel
theorem dX6_workPlainly_11 : decode cX6_workPlainly 11 = .ok (.iconst 1, 1) := by decide +kernel
theorem dX6_workPlainly_12 : decode cX6_workPlainly 12 = .ok (.invokevirtual 144, 3) := by decide +kernel
theorem dX6_workPlainly_15 : decode cX6_workPlainly 15 = .ok (.istore_n 2, 1) := by decide +kernel
theorem dX6_workPlainly_16 : decode cX6_workPlainly 16 = .ok (.aload_n 0, 1) := by decide +kernel
theorem dX6_workPlainly_17 : decode cX6_workPlainly 17 = .ok (.getfield 52, 3) := by decide +kernel
theorem dX6_workPlainly_20 : decode cX6_workPlainly 20 = .ok (.iconst 0, 1) := by decide +kernel
theorem dX6_workPlainly_21 : decode cX6_workPlainly 21 = .ok (.invokevirtual 150, 3) := by decide +kernel
theorem dX6_workPlainly_24 : decode cX6_workPlainly 24 = .ok (.lstore_n 3, 1) := by decide +kernel
theorem dX6_workPlainly_25 : decode cX6_workPlainly 25 = .ok (.aload_n 0, 1) := by decide +kernel
theorem dX6_workPlainly_26 : decode cX6_workPlainly 26 = .ok (.getfield 52, 3) := by decide +kernel
theorem dX6_workPlainly_29 : decode cX6_workPlainly 29 = .ok (.iconst 1, 1) := by decide +kernel
theorem dX6_workPlainly_30 : decode cX6_workPlainly 30 = .ok (.invokevirtual 150, 3) := by decide +kernel
theorem dX6_workPlainly_33 : decode cX6_workPlainly 33 = .ok (.lstore 5, 2) := by decide +kernel
theorem dX6_workPlainly_35 : decode cX6_workPlainly 35 = .ok (.aload_n 0, 1) := by decide +kernel
theorem dX6_workPlainly_36 : decode cX6_workPlainly 36 = .ok (.iload_n 1, 1) := by decide +kernel
theorem dX6_workPlainly_37 : decode cX6_workPlainly 37 = .ok (.bipush 9, 2) := by decide +kernel
theorem dX6_workPlainly_39 : decode cX6_workPlainly 39 = .ok (.if_icmp .gt 15, 3) := by decide +kernel
theorem dX6_workPlainly_42 : decode cX6_workPlainly 42 = .ok (.aload_n 0, 1) := by decide +kernel
theorem dX6_workPlainly_43 : decode cX6_workPlainly 43 = .ok (.iload_n 1, 1) := by decide +kernel
theorem dX6_workPlainly_44 : decode cX6_workPlainly 44 = .ok (.iload_n 2, 1) := by decide +kernel
theorem dX6_workPlainly_45 : decode cX6_workPlainly 45 = .ok (.lload_n 3, 1) := by decide +kernel
theorem dX6_workPlainly_46 : decode cX6_workPlainly 46 = .ok (.lload 5, 2) := by decide +kernel
theorem dX6_workPlainly_48 : decode cX6_workPlainly 48 = .ok (.invokevirtual 267, 3) := by decide +kernel
theorem dX6_workPlainly_51 : decode cX6_workPlainly 51 = .ok (.goto 20, 3) := by decide +kernel
theorem dX6_workPlainly_54 : decode cX6_workPlainly 54 = .ok (.aload_n 0, 1) := by decide +kernel
theorem dX6_workPlainly_55 : decode cX6_workPlainly 55 = .ok (.iload_n 1, 1) := by decide +kernel
theorem dX6_workPlainly_56 : decode cX6_workPlainly 56 = .ok (.iload_n 2, 1) := by decide +kernel
theorem dX6_workPlainly_57 : decode cX6_workPlainly 57 = .ok (.lload_n 3, 1) := by decide +kernel
theorem dX6_workPlainly_58 : decode cX6_workPlainly 58 = .ok (.lload 5, 2) := by decide +kernel
theorem dX6_workPlainly_60 : decode cX6_workPlainly 60 = .ok (.aload_n 0, 1) := by decide +kernel
theorem dX6_workPlainly_61 : decode cX6_workPlainly 61 = .ok (.getfield 52, 3) := by decide +kernel
theorem dX6_workPlainly_64 : decode cX6_workPlainly 64 = .ok (.iconst 2, 1) := by decide +kernel
theorem dX6_workPlainly_65 : decode cX6_workPlainly 65 = .ok (.invokevirtual 150, 3) := by decide +kernel
theorem dX6_workPlainly_68 : decode cX6_workPlainly 68 = .ok (.invokevirtual 271, 3) := by decide +kernel
theorem dX6_workPlainly_71 : decode cX6_workPlainly 71 = .ok (.invokevirtual 177, 3) := by decide +kernel
theorem dX6_workPlainly_74 : decode cX6_workPlainly 74 = .ok (.return_, 1) := by decide +kernel
theorem dX6_reckon_0 : decode cX6_reckon 0 = .ok (.lload_n 3, 1) := by decide +kernel
theorem dX6_reckon_1 : decode cX6_reckon 1 = .ok (.invokestatic 166, 3) := by decide +kernel
theorem dX6_reckon_4 : decode cX6_reckon 4 = .ok (.istore 7, 2) := by decide +kernel
theorem dX6_reckon_6 : decode cX6_reckon 6 = .ok (.lload 5, 2) := by decide +kernel
theorem dX6_reckon_8 : decode cX6_reckon 8 = .ok (.invokestatic 166, 3) := by decide +kernel
theorem dX6_reckon_11 : decode cX6_reckon 11 = .ok (.istore 8, 2) := by decide +kernel
theorem dX6_reckon_13 : decode cX6_reckon 13 = .ok (.iload_n 1, 1) := by decide +kernel
theorem dX6_reckon_14 : decode cX6_reckon 14 = .ok (.tableswitch 148 0 9 #[54, 59, 148, 75, 148, 78, 87, 96, 116, 132], 54) := by decide +kernel
theorem dX6_reckon_68 : decode cX6_reckon 68 = .ok (.iload_n 2, 1) := by decide +kernel
theorem dX6_reckon_69 : decode cX6_reckon 69 = .ok (.invokestatic 275, 3) := by decide +kernel
theorem dX6_reckon_72 : decode cX6_reckon 72 = .ok (.lreturn, 1) := by decide +kernel
theorem dX6_reckon_73 : decode cX6_reckon 73 = .ok (.aload_n 0, 1) := by decide +kernel
theorem dX6_reckon_74 : decode cX6_reckon 74 = .ok (.getfield 38, 3) := by decide +kernel
theorem dX6_reckon_77 : decode cX6_reckon 77 = .ok (.aload_n 0, 1) := by decide +kernel
theorem dX6_reckon_78 : decode cX6_reckon 78 = .ok (.getfield 52, 3) := by decide +kernel
theorem dX6_reckon_81 : decode cX6_reckon 81 = .ok (.invokevirtual 114, 3) := by decide +kernel
theorem dX6_reckon_84 : decode cX6_reckon 84 = .ok (.iload_n 2, 1) := by decide +kernel
theorem dX6_reckon_85 : decode cX6_reckon 85 = .ok (.invokevirtual 278, 3) := by decide +kernel
theorem dX6_reckon_88 : decode cX6_reckon 88 = .ok (.lreturn, 1) := by decide +kernel
theorem dX6_reckon_89 : decode cX6_reckon 89 = .ok (.lload 5, 2) := by decide +kernel
theorem dX6_reckon_91 : decode cX6_reckon 91 = .ok (.lreturn, 1) := by decide +kernel
theorem dX6_reckon_92 : decode cX6_reckon 92 = .ok (.iload 7, 2) := by decide +kernel
theorem dX6_reckon_94 : decode cX6_reckon 94 = .ok (.iload 8, 2) := by decide +kernel
theorem dX6_reckon_96 : decode cX6_reckon 96 = .ok (.iadd, 1) := by decide +kernel
theorem dX6_reckon_97 : decode cX6_reckon 97 = .ok (.invokestatic 275, 3) := by decide +kernel
theorem dX6_reckon_100 : decode cX6_reckon 100 = .ok (.lreturn, 1) := by decide +kernel
theorem dX6_reckon_101 : decode cX6_reckon 101 = .ok (.iload 7, 2) := by decide +kernel
theorem dX6_reckon_103 : decode cX6_reckon 103 = .ok (.iload 8, 2) := by decide +kernel
theorem dX6_reckon_105 : decode cX6_reckon 105 = .ok (.imul, 1) := by decide +kernel
theorem dX6_reckon_106 : decode cX6_reckon 106 = .ok (.invokestatic 275, 3) := by decide +kernel
theorem dX6_reckon_109 : decode cX6_reckon 109 = .ok (.lreturn, 1) := by decide +kernel
theorem dX6_reckon_110 : decode cX6_reckon 110 = .ok (.iload 8, 2) := by decide +kernel
theorem dX6_reckon_112 : decode cX6_reckon 112 = .ok (.ifCond .eq 14, 3) := by decide +kernel
theorem dX6_reckon_115 : decode cX6_reckon 115 = .ok (.iload 7, 2) := by decide +kernel
theorem dX6_reckon_117 : decode cX6_reckon 117 = .ok (.iload 8, 2) := by decide +kernel
theorem dX6_reckon_119 : decode cX6_reckon 119 = .ok (.idiv, 1) := by decide +kernel
theorem dX6_reckon_120 : decode cX6_reckon 120 = .ok (.invokestatic 275, 3) := by decide +kernel
theorem dX6_reckon_123 : decode cX6_reckon 123 = .ok (.goto 6, 3) := by decide +kernel
theorem dX6_reckon_126 : decode cX6_reckon 126 = .ok (.ldc2_w 218, 3) := by decide +kernel
theorem dX6_reckon_129 : decode cX6_reckon 129 = .ok (.lreturn, 1) := by decide +kernel
theorem dX6_reckon_130 : decode cX6_reckon 130 = .ok (.iload 7, 2) := by decide +kernel
theorem dX6_reckon_132 : decode cX6_reckon 132 = .ok (.iload 8, 2) := by decide +kernel
theorem dX6_reckon_134 : decode cX6_reckon 134 = .ok (.if_icmp .ge 7, 3) := by decide +kernel
theorem dX6_reckon_137 : decode cX6_reckon 137 = .ok (.iconst 1, 1) := by decide +kernel
theorem dX6_reckon_138 : decode cX6_reckon 138 = .ok (.goto 4, 3) := by decide +kernel
theorem dX6_reckon_141 : decode cX6_reckon 141 = .ok (.iconst 0, 1) := by decide +kernel
theorem dX6_reckon_142 : decode cX6_reckon 142 = .ok (.invokestatic 281, 3) := by decide +kernel
theorem dX6_reckon_145 : decode cX6_reckon 145 = .ok (.lreturn, 1) := by decide +kernel
theorem dX6_reckon_146 : decode cX6_reckon 146 = .ok (.lload_n 3, 1) := by decide +kernel
theorem dX6_reckon_147 : decode cX6_reckon 147 = .ok (.lload 5, 2) := by decide +kernel
theorem dX6_reckon_149 : decode cX6_reckon 149 = .ok (.lcmp, 1) := by decide +kernel
theorem dX6_reckon_150 : decode cX6_reckon 150 = .ok (.ifCond .ne 7, 3) := by decide +kernel
theorem dX6_reckon_153 : decode cX6_reckon 153 = .ok (.iconst 1, 1) := by decide +kernel
theorem dX6_reckon_154 : decode cX6_reckon 154 = .ok (.goto 4, 3) := by decide +kernel
theorem dX6_reckon_157 : decode cX6_reckon 157 = .ok (.iconst 0, 1) := by decide +kernel
theorem dX6_reckon_158 : decode cX6_reckon 158 = .ok (.invokestatic 281, 3) := by decide +kernel
theorem dX6_reckon_161 : decode cX6_reckon 161 = .ok (.lreturn, 1) := by decide +kernel
theorem dX6_reckon_162 : decode cX6_reckon 162 = .ok (.ldc2_w 218, 3) := by decide +kernel
theorem dX6_reckon_165 : decode cX6_reckon 165 = .ok (.lreturn, 1) := by decide +kernel
theorem dX6_change_0 : decode cX6_change 0 = .ok (.iload_n 1, 1) := by decide +kernel
theorem dX6_change_1 : decode cX6_change 1 = .ok (.tableswitch 241 10 31 #[103, 116, 129, 142, 152, 163, 180, 196, 208, 241, 241, 241, 241, 241, 241, 241, 219, 241, 241, 241, 225, 234], 103) := by decide +kernel
theorem dX6_change_104 : decode cX6_change 104 = .ok (.aload_n 0, 1) := by decide +kernel
theorem dX6_change_105 : decode cX6_change 105 = .ok (.getfield 16, 3) := by decide +kernel
theorem dX6_change_108 : decode cX6_change 108 = .ok (.iconst 2, 1) := by decide +kernel
theorem dX6_change_109 : decode cX6_change 109 = .ok (.lload_n 3, 1) := by decide +kernel
theorem dX6_change_110 : decode cX6_change 110 = .ok (.invokestatic 166, 3) := by decide +kernel
theorem dX6_change_113 : decode cX6_change 113 = .ok (.invokevirtual 285, 3) := by decide +kernel
theorem dX6_change_116 : decode cX6_change 116 = .ok (.lreturn, 1) := by decide +kernel
theorem dX6_change_117 : decode cX6_change 117 = .ok (.aload_n 0, 1) := by decide +kernel
theorem dX6_change_118 : decode cX6_change 118 = .ok (.getfield 16, 3) := by decide +kernel
theorem dX6_change_121 : decode cX6_change 121 = .ok (.iconst 3, 1) := by decide +kernel
theorem dX6_change_122 : decode cX6_change 122 = .ok (.lload_n 3, 1) := by decide +kernel
theorem dX6_change_123 : decode cX6_change 123 = .ok (.invokestatic 166, 3) := by decide +kernel
theorem dX6_change_126 : decode cX6_change 126 = .ok (.invokevirtual 285, 3) := by decide +kernel
theorem dX6_change_129 : decode cX6_change 129 = .ok (.lreturn, 1) := by decide +kernel
theorem dX6_change_130 : decode cX6_change 130 = .ok (.aload_n 0, 1) := by decide +kernel
theorem dX6_change_131 : decode cX6_change 131 = .ok (.getfield 16, 3) := by decide +kernel
theorem dX6_change_134 : decode cX6_change 134 = .ok (.iconst 4, 1) := by decide +kernel
theorem dX6_change_135 : decode cX6_change 135 = .ok (.lload_n 3, 1) := by decide +kernel
theorem dX6_change_136 : decode cX6_change 136 = .ok (.invokestatic 166, 3) := by decide +kernel
theorem dX6_change_139 : decode cX6_change 139 = .ok (.invokevirtual 285, 3) := by decide +kernel
theorem dX6_change_142 : decode cX6_change 142 = .ok (.lreturn, 1) := by decide +kernel
theorem dX6_change_143 : decode cX6_change 143 = .ok (.aload_n 0, 1) := by decide +kernel
theorem dX6_change_144 : decode cX6_change 144 = .ok (.getfield 16, 3) := by decide +kernel
theorem dX6_change_147 : decode cX6_change 147 = .ok (.iconst 5, 1) := by decide +kernel
theorem dX6_change_148 : decode cX6_change 148 = .ok (.lload_n 3, 1) := by decide +kernel
theorem dX6_change_149 : decode cX6_change 149 = .ok (.invokevirtual 288, 3) := by decide +kernel
theorem dX6_change_152 : decode cX6_change 152 = .ok (.lreturn, 1) := by decide +kernel
theorem dX6_change_153 : decode cX6_change 153 = .ok (.aload_n 0, 1) := by decide +kernel
theorem dX6_change_154 : decode cX6_change 154 = .ok (.getfield 16, 3) := by decide +kernel
theorem dX6_change_157 : decode cX6_change 157 = .ok (.bipush 6, 2) := by decide +kernel
theorem dX6_change_159 : decode cX6_change 159 = .ok (.lload_n 3, 1) := by decide +kernel
theorem dX6_change_160 : decode cX6_change 160 = .ok (.invokevirtual 288, 3) := by decide +kernel
theorem dX6_change_163 : decode cX6_change 163 = .ok (.lreturn, 1) := by decide +kernel
theorem dX6_change_164 : decode cX6_change 164 = .ok (.aload_n 0, 1) := by decide +kernel
theorem dX6_change_165 : decode cX6_change 165 = .ok (.getfield 16, 3) := by decide +kernel
theorem dX6_change_168 : decode cX6_change 168 = .ok (.lload_n 3, 1) := by decide +kernel
theorem dX6_change_169 : decode cX6_change 169 = .ok (.lload 5, 2) := by decide +kernel
theorem dX6_change_171 : decode cX6_change 171 = .ok (.invokestatic 166, 3) := by decide +kernel
theorem dX6_change_174 : decode cX6_change 174 = .ok (.invokestatic 292, 3) := by decide +kernel
theorem dX6_change_177 : decode cX6_change 177 = .ok (.invokevirtual 296, 3) := by decide +kernel
theorem dX6_change_180 : decode cX6_change 180 = .ok (.lreturn, 1) := by decide +kernel
theorem dX6_change_181 : decode cX6_change 181 = .ok (.aload_n 0, 1) := by decide +kernel
theorem dX6_change_182 : decode cX6_change 182 = .ok (.lload_n 3, 1) := by decide +kernel
theorem dX6_change_183 : decode cX6_change 183 = .ok (.lload 5, 2) := by decide +kernel
theorem dX6_change_185 : decode cX6_change 185 = .ok (.invokestatic 166, 3) := by decide +kernel
theorem dX6_change_188 : decode cX6_change 188 = .ok (.invokestatic 292, 3) := by decide +kernel
theorem dX6_change_191 : decode cX6_change 191 = .ok (.lload 7, 2) := by decide +kernel
theorem dX6_change_193 : decode cX6_change 193 = .ok (.invokevirtual 298, 3) := by decide +kernel
theorem dX6_change_196 : decode cX6_change 196 = .ok (.lreturn, 1) := by decide +kernel
theorem dX6_change_197 : decode cX6_change 197 = .ok (.aload_n 0, 1) := by decide +kernel
theorem dX6_change_198 : decode cX6_change 198 = .ok (.getfield 16, 3) := by decide +kernel
theorem dX6_change_201 : decode cX6_change 201 = .ok (.lload_n 3, 1) := by decide +kernel
theorem dX6_change_202 : decode cX6_change 202 = .ok (.invokestatic 166, 3) := by decide +kernel
theorem dX6_change_205 : decode cX6_change 205 = .ok (.invokevirtual 296, 3) := by decide +kernel
theorem dX6_change_208 : decode cX6_change 208 = .ok (.lreturn, 1) := by decide +kernel
theorem dX6_change_209 : decode cX6_change 209 = .ok (.aload_n 0, 1) := by decide +kernel
theorem dX6_change_210 : decode cX6_change 210 = .ok (.lload_n 3, 1) := by decide +kernel
theorem dX6_change_211 : decode cX6_change 211 = .ok (.invokestatic 166, 3) := by decide +kernel
theorem dX6_change_214 : decode cX6_change 214 = .ok (.lload 5, 2) := by decide +kernel
theorem dX6_change_216 : decode cX6_change 216 = .ok (.invokevirtual 298, 3) := by decide +kernel
theorem dX6_change_219 : decode cX6_change 219 = .ok (.lreturn, 1) := by decide +kernel
theorem dX6_change_220 : decode cX6_change 220 = .ok (.aload_n 0, 1) := by decide +kernel
theorem dX6_change_221 : decode cX6_change 221 = .ok (.lload_n 3, 1) := by decide +kernel
theorem dX6_change_222 : decode cX6_change 222 = .ok (.invokevirtual 301, 3) := by decide +kernel
theorem dX6_change_225 : decode cX6_change 225 = .ok (.lreturn, 1) := by decide +kernel
theorem dX6_change_226 : decode cX6_change 226 = .ok (.aload_n 0, 1) := by decide +kernel
theorem dX6_change_227 : decode cX6_change 227 = .ok (.getfield 16, 3) := by decide +kernel
theorem dX6_change_230 : decode cX6_change 230 = .ok (.iload_n 2, 1) := by decide +kernel
theorem dX6_change_231 : decode cX6_change 231 = .ok (.invokevirtual 296, 3) := by decide +kernel
theorem dX6_change_234 : decode cX6_change 234 = .ok (.lreturn, 1) := by decide +kernel
theorem dX6_change_235 : decode cX6_change 235 = .ok (.aload_n 0, 1) := by decide +kernel
theorem dX6_change_236 : decode cX6_change 236 = .ok (.iload_n 2, 1) := by decide +kernel
theorem dX6_change_237 : decode cX6_change 237 = .ok (.lload_n 3, 1) := by decide +kernel
theorem dX6_change_238 : decode cX6_change 238 = .ok (.invokevirtual 298, 3) := by decide +kernel
theorem dX6_change_241 : decode cX6_change 241 = .ok (.lreturn, 1) := by decide +kernel
theorem dX6_change_242 : decode cX6_change 242 = .ok (.ldc2_w 218, 3) := by decide +kernel
theorem dX6_change_245 : decode cX6_change 245 = .ok (.lreturn, 1) := by decide +kernel
theorem dX6_put_0 : decode cX6_put 0 = .ok (.aload_n 0, 1) := by decide +kernel
theorem dX6_put_1 : decode cX6_put 1 = .ok (.getfield 16, 3) := by decide +kernel
theorem dX6_put_4 : decode cX6_put 4 = .ok (.iload_n 1, 1) := by decide +kernel
theorem dX6_put_5 : decode cX6_put 5 = .ok (.lload_n 2, 1) := by decide +kernel
theorem dX6_put_6 : decode cX6_put 6 = .ok (.invokevirtual 305, 3) := by decide +kernel
theorem dX6_put_9 : decode cX6_put 9 = .ok (.lload_n 2, 1) := by decide +kernel
theorem dX6_put_10 : decode cX6_put 10 = .ok (.lreturn, 1) := by decide +kernel
theorem dX6_tell_0 : decode cX6_tell 0 = .ok (.aload_n 0, 1) := by decide +kernel
theorem dX6_tell_1 : decode cX6_tell 1 = .ok (.getfield 31, 3) := by decide +kernel
theorem dX6_tell_4 : decode cX6_tell 4 = .ok (.bipush 40, 2) := by decide +kernel
theorem dX6_tell_6 : decode cX6_tell 6 = .ok (.if_icmp .ge 26, 3) := by decide +kernel
theorem dX6_tell_9 : decode cX6_tell 9 = .ok (.aload_n 0, 1) := by decide +kernel
theorem dX6_tell_10 : decode cX6_tell 10 = .ok (.getfield 27, 3) := by decide +kernel
theorem dX6_tell_13 : decode cX6_tell 13 = .ok (.aload_n 0, 1) := by decide +kernel
theorem dX6_tell_14 : decode cX6_tell 14 = .ok (.getfield 31, 3) := by decide +kernel
theorem dX6_tell_17 : decode cX6_tell 17 = .ok (.lload_n 1, 1) := by decide +kernel
theorem dX6_tell_18 : decode cX6_tell 18 = .ok (.invokestatic 166, 3) := by decide +kernel
theorem dX6_tell_21 : decode cX6_tell 21 = .ok (.iastore, 1) := by decide +kernel
theorem dX6_tell_22 : decode cX6_tell 22 = .ok (.aload_n 0, 1) := by decide +kernel
theorem dX6_tell_23 : decode cX6_tell 23 = .ok (.dup, 1) := by decide +kernel
theorem dX6_tell_24 : decode cX6_tell 24 = .ok (.getfield 31, 3) := by decide +kernel
theorem dX6_tell_27 : decode cX6_tell 27 = .ok (.iconst 1, 1) := by decide +kernel
theorem dX6_tell_28 : decode cX6_tell 28 = .ok (.iadd, 1) := by decide +kernel
theorem dX6_tell_29 : decode cX6_tell 29 = .ok (.putfield 31, 3) := by decide +kernel
theorem dX6_tell_32 : decode cX6_tell 32 = .ok (.lload_n 1, 1) := by decide +kernel
theorem dX6_tell_33 : decode cX6_tell 33 = .ok (.lreturn, 1) := by decide +kernel
theorem dX6_leave_0 : decode cX6_leave 0 = .ok (.aload_n 0, 1) := by decide +kernel
theorem dX6_leave_1 : decode cX6_leave 1 = .ok (.getfield 7, 3) := by decide +kernel
theorem dX6_leave_4 : decode cX6_leave 4 = .ok (.aload_n 0, 1) := by decide +kernel
theorem dX6_leave_5 : decode cX6_leave 5 = .ok (.getfield 52, 3) := by decide +kernel
theorem dX6_leave_8 : decode cX6_leave 8 = .ok (.invokevirtual 105, 3) := by decide +kernel
theorem dX6_leave_11 : decode cX6_leave 11 = .ok (.iconst 0, 1) := by decide +kernel
theorem dX6_leave_12 : decode cX6_leave 12 = .ok (.invokevirtual 144, 3) := by decide +kernel
theorem dX6_leave_15 : decode cX6_leave 15 = .ok (.istore_n 1, 1) := by decide +kernel
theorem dX6_leave_16 : decode cX6_leave 16 = .ok (.aload_n 0, 1) := by decide +kernel
theorem dX6_leave_17 : decode cX6_leave 17 = .ok (.getfield 52, 3) := by decide +kernel
theorem dX6_leave_20 : decode cX6_leave 20 = .ok (.invokevirtual 138, 3) := by decide +kernel
theorem dX6_leave_23 : decode cX6_leave 23 = .ok (.ifCond .ne 7, 3) := by decide +kernel
theorem dX6_leave_26 : decode cX6_leave 26 = .ok (.iconst 1, 1) := by decide +kernel
theorem dX6_leave_27 : decode cX6_leave 27 = .ok (.goto 4, 3) := by decide +kernel
theorem dX6_leave_30 : decode cX6_leave 30 = .ok (.iconst 0, 1) := by decide +kernel
theorem dX6_leave_31 : decode cX6_leave 31 = .ok (.istore_n 2, 1) := by decide +kernel
theorem dX6_leave_32 : decode cX6_leave 32 = .ok (.aload_n 0, 1) := by decide +kernel
theorem dX6_leave_33 : decode cX6_leave 33 = .ok (.getfield 23, 3) := by decide +kernel
theorem dX6_leave_36 : decode cX6_leave 36 = .ok (.invokevirtual 307, 3) := by decide +kernel
theorem dX6_leave_39 : decode cX6_leave 39 = .ok (.ifCond .eq 25, 3) := by decide +kernel
theorem dX6_leave_42 : decode cX6_leave 42 = .ok (.iload_n 2, 1) := by decide +kernel
theorem dX6_leave_43 : decode cX6_leave 43 = .ok (.ifCond .eq 21, 3) := by decide +kernel
theorem dX6_leave_46 : decode cX6_leave 46 = .ok (.iload_n 1, 1) := by decide +kernel
theorem dX6_leave_47 : decode cX6_leave 47 = .ok (.bipush 21, 2) := by decide +kernel
theorem dX6_leave_49 : decode cX6_leave 49 = .ok (.if_icmp .ne 15, 3) := by decide +kernel
theorem dX6_leave_52 : decode cX6_leave 52 = .ok (.aload_n 0, 1) := by decide +kernel
theorem dX6_leave_53 : decode cX6_leave 53 = .ok (.invokevirtual 310, 3) := by decide +kernel
theorem dX6_leave_56 : decode cX6_leave 56 = .ok (.ifCond .eq 8, 3) := by decide +kernel
theorem dX6_leave_59 : decode cX6_leave 59 = .ok (.aload_n 0, 1) := by decide +kernel
theorem dX6_leave_60 : decode cX6_leave 60 = .ok (.invokevirtual 313, 3) := by decide +kernel
theorem dX6_leave_63 : decode cX6_leave 63 = .ok (.return_, 1) := by decide +kernel
theorem dX6_leave_64 : decode cX6_leave 64 = .ok (.aload_n 0, 1) := by decide +kernel
theorem dX6_leave_65 : decode cX6_leave 65 = .ok (.getfield 23, 3) := by decide +kernel
theorem dX6_leave_68 : decode cX6_leave 68 = .ok (.invokevirtual 307, 3) := by decide +kernel
theorem dX6_leave_71 : decode cX6_leave 71 = .ok (.ifCond .eq 40, 3) := by decide +kernel
theorem dX6_leave_74 : decode cX6_leave 74 = .ok (.iload_n 2, 1) := by decide +kernel
theorem dX6_leave_75 : decode cX6_leave 75 = .ok (.ifCond .eq 36, 3) := by decide +kernel
theorem dX6_leave_78 : decode cX6_leave 78 = .ok (.iload_n 1, 1) := by decide +kernel
theorem dX6_leave_79 : decode cX6_leave 79 = .ok (.bipush 22, 2) := by decide +kernel
theorem dX6_leave_81 : decode cX6_leave 81 = .ok (.if_icmp .ne 30, 3) := by decide +kernel
theorem dX6_leave_84 : decode cX6_leave 84 = .ok (.aload_n 0, 1) := by decide +kernel
theorem dX6_leave_85 : decode cX6_leave 85 = .ok (.getfield 52, 3) := by decide +kernel
theorem dX6_leave_88 : decode cX6_leave 88 = .ok (.aload_n 0, 1) := by decide +kernel
theorem dX6_leave_89 : decode cX6_leave 89 = .ok (.getfield 23, 3) := by decide +kernel
theorem dX6_leave_92 : decode cX6_leave 92 = .ok (.invokevirtual 316, 3) := by decide +kernel
theorem dX6_leave_95 : decode cX6_leave 95 = .ok (.aload_n 0, 1) := by decide +kernel
theorem dX6_leave_96 : decode cX6_leave 96 = .ok (.getfield 52, 3) := by decide +kernel
theorem dX6_leave_99 : decode cX6_leave 99 = .ok (.iconst 1, 1) := by decide +kernel
theorem dX6_leave_100 : decode cX6_leave 100 = .ok (.invokevirtual 220, 3) := by decide +kernel
theorem dX6_leave_103 : decode cX6_leave 103 = .ok (.aload_n 0, 1) := by decide +kernel
theorem dX6_leave_104 : decode cX6_leave 104 = .ok (.getfield 23, 3) := by decide +kernel
theorem dX6_leave_107 : decode cX6_leave 107 = .ok (.invokevirtual 319, 3) := by decide +kernel
theorem dX6_leave_110 : decode cX6_leave 110 = .ok (.return_, 1) := by decide +kernel
theorem dX6_leave_111 : decode cX6_leave 111 = .ok (.iload_n 1, 1) := by decide +kernel
theorem dX6_leave_112 : decode cX6_leave 112 = .ok (.bipush 25, 2) := by decide +kernel
theorem dX6_leave_114 : decode cX6_leave 114 = .ok (.if_icmp .ne 20, 3) := by decide +kernel
theorem dX6_leave_117 : decode cX6_leave 117 = .ok (.iload_n 2, 1) := by decide +kernel
theorem dX6_leave_118 : decode cX6_leave 118 = .ok (.ifCond .ne 16, 3) := by decide +kernel
theorem dX6_leave_121 : decode cX6_leave 121 = .ok (.aload_n 0, 1) := by decide +kernel
theorem dX6_leave_122 : decode cX6_leave 122 = .ok (.dup, 1) := by decide +kernel
theorem dX6_leave_123 : decode cX6_leave 123 = .ok (.getfield 56, 3) := by decide +kernel
theorem dX6_leave_126 : decode cX6_leave 126 = .ok (.iconst 1, 1) := by decide +kernel
theorem dX6_leave_127 : decode cX6_leave 127 = .ok (.isub, 1) := by decide +kernel
theorem dX6_leave_128 : decode cX6_leave 128 = .ok (.putfield 56, 3) := by decide +kernel
theorem dX6_leave_131 : decode cX6_leave 131 = .ok (.goto 51, 3) := by decide +kernel
theorem dX6_leave_134 : decode cX6_leave 134 = .ok (.iload_n 1, 1) := by decide +kernel
theorem dX6_leave_135 : decode cX6_leave 135 = .ok (.bipush 28, 2) := by decide +kernel
theorem dX6_leave_137 : decode cX6_leave 137 = .ok (.if_icmp .ne 25, 3) := by decide +kernel
theorem dX6_leave_140 : decode cX6_leave 140 = .ok (.iload_n 2, 1) := by decide +kernel
theorem dX6_leave_141 : decode cX6_leave 141 = .ok (.ifCond .ne 21, 3) := by decide +kernel
theorem dX6_leave_144 : decode cX6_leave 144 = .ok (.aload_n 0, 1) := by decide +kernel
theorem dX6_leave_145 : decode cX6_leave 145 = .ok (.aload_n 0, 1) := by decide +kernel
theorem dX6_leave_146 : decode cX6_leave 146 = .ok (.getfield 52, 3) := by decide +kernel
theorem dX6_leave_149 : decode cX6_leave 149 = .ok (.iconst 0, 1) := by decide +kernel
theorem dX6_leave_150 : decode cX6_leave 150 = .ok (.invokevirtual 150, 3) := by decide +kernel
theorem dX6_leave_153 : decode cX6_leave 153 = .ok (.invokestatic 166, 3) := by decide +kernel
theorem dX6_leave_156 : decode cX6_leave 156 = .ok (.invokevirtual 322, 3) := by decide +kernel
theorem dX6_leave_159 : decode cX6_leave 159 = .ok (.goto 23, 3) := by decide +kernel
theorem dX6_leave_162 : decode cX6_leave 162 = .ok (.iload_n 1, 1) := by decide +kernel
theorem dX6_leave_163 : decode cX6_leave 163 = .ok (.bipush 29, 2) := by decide +kernel
theorem dX6_leave_165 : decode cX6_leave 165 = .ok (.if_icmp .ne 17, 3) := by decide +kernel
theorem dX6_leave_168 : decode cX6_leave 168 = .ok (.aload_n 0, 1) := by decide +kernel
theorem dX6_leave_169 : decode cX6_leave 169 = .ok (.getfield 16, 3) := by decide +kernel
theorem dX6_leave_172 : decode cX6_leave 172 = .ok (.aload_n 0, 1) := by decide +kernel
theorem dX6_leave_173 : decode cX6_leave 173 = .ok (.getfield 52, 3) := by decide +kernel
theorem dX6_leave_176 : decode cX6_leave 176 = .ok (.invokevirtual 325, 3) := by decide +kernel
theorem dX6_leave_179 : decode cX6_leave 179 = .ok (.invokevirtual 328, 3) := by decide +kernel
theorem dX6_leave_182 : decode cX6_leave 182 = .ok (.aload_n 0, 1) := by decide +kernel
theorem dX6_leave_183 : decode cX6_leave 183 = .ok (.getfield 52, 3) := by decide +kernel
theorem dX6_leave_186 : decode cX6_leave 186 = .ok (.invokevirtual 117, 3) := by decide +kernel
theorem dX6_leave_189 : decode cX6_leave 189 = .ok (.return_, 1) := by decide +kernel
theorem dX6_isCaught_0 : decode cX6_isCaught 0 = .ok (.aload_n 0, 1) := by decide +kernel
theorem dX6_isCaught_1 : decode cX6_isCaught 1 = .ok (.getfield 7, 3) := by decide +kernel
theorem dX6_isCaught_4 : decode cX6_isCaught 4 = .ok (.aload_n 0, 1) := by decide +kernel
theorem dX6_isCaught_5 : decode cX6_isCaught 5 = .ok (.getfield 52, 3) := by decide +kernel
theorem dX6_isCaught_8 : decode cX6_isCaught 8 = .ok (.invokevirtual 105, 3) := by decide +kernel
theorem dX6_isCaught_11 : decode cX6_isCaught 11 = .ok (.iconst 2, 1) := by decide +kernel
theorem dX6_isCaught_12 : decode cX6_isCaught 12 = .ok (.invokevirtual 144, 3) := by decide +kernel
theorem dX6_isCaught_15 : decode cX6_isCaught 15 = .ok (.istore_n 1, 1) := by decide +kernel
theorem dX6_isCaught_16 : decode cX6_isCaught 16 = .ok (.iload_n 1, 1) := by decide +kernel
theorem dX6_isCaught_17 : decode cX6_isCaught 17 = .ok (.ifCond .eq 14, 3) := by decide +kernel
theorem dX6_isCaught_20 : decode cX6_isCaught 20 = .ok (.iload_n 1, 1) := by decide +kernel
theorem dX6_isCaught_21 : decode cX6_isCaught 21 = .ok (.aload_n 0, 1) := by decide +kernel
theorem dX6_isCaught_22 : decode cX6_isCaught 22 = .ok (.getfield 23, 3) := by decide +kernel
theorem dX6_isCaught_25 : decode cX6_isCaught 25 = .ok (.getfield 82, 3) := by decide +kernel
theorem dX6_isCaught_28 : decode cX6_isCaught 28 = .ok (.if_icmp .ne 7, 3) := by decide +kernel
theorem dX6_isCaught_31 : decode cX6_isCaught 31 = .ok (.iconst 1, 1) := by decide +kernel
theorem dX6_isCaught_32 : decode cX6_isCaught 32 = .ok (.goto 4, 3) := by decide +kernel
theorem dX6_isCaught_35 : decode cX6_isCaught 35 = .ok (.iconst 0, 1) := by decide +kernel
theorem dX6_isCaught_36 : decode cX6_isCaught 36 = .ok (.ireturn, 1) := by decide +kernel
theorem dX6_takeUp_0 : decode cX6_takeUp 0 = .ok (.aload_n 0, 1) := by decide +kernel
theorem dX6_takeUp_1 : decode cX6_takeUp 1 = .ok (.getfield 38, 3) := by decide +kernel
theorem dX6_takeUp_4 : decode cX6_takeUp 4 = .ok (.aload_n 0, 1) := by decide +kernel
theorem dX6_takeUp_5 : decode cX6_takeUp 5 = .ok (.getfield 52, 3) := by decide +kernel
theorem dX6_takeUp_8 : decode cX6_takeUp 8 = .ok (.invokevirtual 114, 3) := by decide +kernel
theorem dX6_takeUp_11 : decode cX6_takeUp 11 = .ok (.bipush 7, 2) := by decide +kernel
theorem dX6_takeUp_13 : decode cX6_takeUp 13 = .ok (.aload_n 0, 1) := by decide +kernel
theorem dX6_takeUp_14 : decode cX6_takeUp 14 = .ok (.getfield 23, 3) := by decide +kernel
theorem dX6_takeUp_17 : decode cX6_takeUp 17 = .ok (.getfield 331, 3) := by decide +kernel
theorem dX6_takeUp_20 : decode cX6_takeUp 20 = .ok (.invokestatic 275, 3) := by decide +kernel
theorem dX6_takeUp_23 : decode cX6_takeUp 23 = .ok (.invokevirtual 204, 3) := by decide +kernel
theorem dX6_takeUp_26 : decode cX6_takeUp 26 = .ok (.aload_n 0, 1) := by decide +kernel
theorem dX6_takeUp_27 : decode cX6_takeUp 27 = .ok (.getfield 23, 3) := by decide +kernel
theorem dX6_takeUp_30 : decode cX6_takeUp 30 = .ok (.invokevirtual 319, 3) := by decide +kernel
theorem dX6_takeUp_33 : decode cX6_takeUp 33 = .ok (.aload_n 0, 1) := by decide +kernel
theorem dX6_takeUp_34 : decode cX6_takeUp 34 = .ok (.getfield 52, 3) := by decide +kernel
theorem dX6_takeUp_37 : decode cX6_takeUp 37 = .ok (.iconst 1, 1) := by decide +kernel
theorem dX6_takeUp_38 : decode cX6_takeUp 38 = .ok (.invokevirtual 220, 3) := by decide +kernel
theorem dX6_takeUp_41 : decode cX6_takeUp 41 = .ok (.aload_n 0, 1) := by decide +kernel
theorem dX6_takeUp_42 : decode cX6_takeUp 42 = .ok (.iconst 1, 1) := by decide +kernel
theorem dX6_takeUp_43 : decode cX6_takeUp 43 = .ok (.invokevirtual 141, 3) := by decide +kernel
theorem dX6_takeUp_46 : decode cX6_takeUp 46 = .ok (.return_, 1) := by decide +kernel
theorem dX6_leaveLater_0 : decode cX6_leaveLater 0 = .ok (.aload_n 0, 1) := by decide +kernel
theorem dX6_leaveLater_1 : decode cX6_leaveLater 1 = .ok (.getfield 23, 3) := by decide +kernel
theorem dX6_leaveLater_4 : decode cX6_leaveLater 4 = .ok (.invokevirtual 307, 3) := by decide +kernel
theorem dX6_leaveLater_7 : decode cX6_leaveLater 7 = .ok (.ifCond .eq 28, 3) := by decide +kernel
theorem dX6_leaveLater_10 : decode cX6_leaveLater 10 = .ok (.aload_n 0, 1) := by decide +kernel
theorem dX6_leaveLater_11 : decode cX6_leaveLater 11 = .ok (.getfield 45, 3) := by decide +kernel
theorem dX6_leaveLater_14 : decode cX6_leaveLater 14 = .ok (.iload_n 1, 1) := by decide +kernel
theorem dX6_leaveLater_15 : decode cX6_leaveLater 15 = .ok (.aload_n 0, 1) := by decide +kernel
theorem dX6_leaveLater_16 : decode cX6_leaveLater 16 = .ok (.getfield 23, 3) := by decide +kernel
theorem dX6_leaveLater_19 : decode cX6_leaveLater 19 = .ok (.getfield 82, 3) := by decide +kernel
theorem dX6_leaveLater_22 : decode cX6_leaveLater 22 = .ok (.aload_n 0, 1) := by decide +kernel
theorem dX6_leaveLater_23 : decode cX6_leaveLater 23 = .ok (.getfield 23, 3) := by decide +kernel
theorem dX6_leaveLater_26 : decode cX6_leaveLater 26 = .ok (.getfield 331, 3) := by decide +kernel
theorem dX6_leaveLater_29 : decode cX6_leaveLater 29 = .ok (.invokevirtual 334, 3) := by decide +kernel
theorem dX6_leaveLater_32 : decode cX6_leaveLater 32 = .ok (.goto 12, 3) := by decide +kernel
theorem dX6_leaveLater_35 : decode cX6_leaveLater 35 = .ok (.aload_n 0, 1) := by decide +kernel
theorem dX6_leaveLater_36 : decode cX6_leaveLater 36 = .ok (.getfield 45, 3) := by decide +kernel
theorem dX6_leaveLater_39 : decode cX6_leaveLater 39 = .ok (.iload_n 1, 1) := by decide +kernel
theorem dX6_leaveLater_40 : decode cX6_leaveLater 40 = .ok (.iconst 0, 1) := by decide +kernel
theorem dX6_leaveLater_41 : decode cX6_leaveLater 41 = .ok (.invokevirtual 252, 3) := by decide +kernel
theorem dX6_leaveLater_44 : decode cX6_leaveLater 44 = .ok (.return_, 1) := by decide +kernel
theorem dX7_init_0 : decode cX7_init 0 = .ok (.aload_n 0, 1) := by decide +kernel
theorem dX7_init_1 : decode cX7_init 1 = .ok (.invokespecial 3, 3) := by decide +kernel
theorem dX7_init_4 : decode cX7_init 4 = .ok (.aload_n 0, 1) := by decide +kernel
theorem dX7_init_5 : decode cX7_init 5 = .ok (.sipush 3408, 3) := by decide +kernel
theorem dX7_init_8 : decode cX7_init 8 = .ok (.newarray .long, 2) := by decide +kernel
theorem dX7_init_10 : decode cX7_init 10 = .ok (.putfield 11, 3) := by decide +kernel
theorem dX7_init_13 : decode cX7_init 13 = .ok (.aload_n 0, 1) := by decide +kernel
theorem dX7_init_14 : decode cX7_init 14 = .ok (.sipush 3200, 3) := by decide +kernel
theorem dX7_init_17 : decode cX7_init 17 = .ok (.newarray .int, 2) := by decide +kernel
theorem dX7_init_19 : decode cX7_init 19 = .ok (.putfield 15, 3) := by decide +kernel
theorem dX7_init_22 : decode cX7_init 22 = .ok (.aload_n 0, 1) := by decide +kernel
theorem dX7_init_23 : decode cX7_init 23 = .ok (.sipush 3200, 3) := by decide +kernel
theorem dX7_init_26 : decode cX7_init 26 = .ok (.newarray .long, 2) := by decide +kernel
theorem dX7_init_28 : decode cX7_init 28 = .ok (.putfield 19, 3) := by decide +kernel
theorem dX7_init_31 : decode cX7_init 31 = .ok (.aload_n 0, 1) := by decide +kernel
theorem dX7_init_32 : decode cX7_init 32 = .ok (.invokevirtual 22, 3) := by decide +kernel
theorem dX7_init_35 : decode cX7_init 35 = .ok (.return_, 1) := by decide +kernel
theorem dX7_isBox_0 : decode cX7_isBox 0 = .ok (.iload_n 0, 1) := by decide +kernel
theorem dX7_isBox_1 : decode cX7_isBox 1 = .ok (.ifCond .lt 13, 3) := by decide +kernel
theorem dX7_isBox_4 : decode cX7_isBox 4 = .ok (.iload_n 0, 1) := by decide +kernel
theorem dX7_isBox_5 : decode cX7_isBox 5 = .ok (.bipush 8, 2) := by decide +kernel
theorem dX7_isBox_7 : decode cX7_isBox 7 = .ok (.if_icmp .ge 7, 3) := by decide +kernel
theorem dX7_isBox_10 : decode cX7_isBox 10 = .ok (.iconst 1, 1) := by decide +kernel
theorem dX7_isBox_11 : decode cX7_isBox 11 = .ok (.goto 4, 3) := by decide +kernel
theorem dX7_isBox_14 : decode cX7_isBox 14 = .ok (.iconst 0, 1) := by decide +kernel
theorem dX7_isBox_15 : decode cX7_isBox 15 = .ok (.ireturn, 1) := by decide +kernel
theorem dX7_cellOf_0 : decode cX7_cellOf 0 = .ok (.lload_n 0, 1) := by decide +kernel
theorem dX7_cellOf_1 : decode cX7_cellOf 1 = .ok (.invokestatic 25, 3) := by decide +kernel
theorem dX7_cellOf_4 : decode cX7_cellOf 4 = .ok (.iconst 1, 1) := by decide +kernel
theorem dX7_cellOf_5 : decode cX7_cellOf 5 = .ok (.iadd, 1) := by decide +kernel
theorem dX7_cellOf_6 : decode cX7_cellOf 6 = .ok (.iload_n 2, 1) := by decide +kernel
theorem dX7_cellOf_7 : decode cX7_cellOf 7 = .ok (.iadd, 1) := by decide +kernel
theorem dX7_cellOf_8 : decode cX7_cellOf 8 = .ok (.ireturn, 1) := by decide +kernel
theorem dX7_restart_0 : decode cX7_restart 0 = .ok (.iconst 0, 1) := by decide +kernel
theorem dX7_restart_1 : decode cX7_restart 1 = .ok (.istore_n 1, 1) := by decide +kernel
theorem dX7_restart_2 : decode cX7_restart 2 = .ok (.iload_n 1, 1) := by decide +kernel
theorem dX7_restart_3 : decode cX7_restart 3 = .ok (.bipush 8, 2) := by decide +kernel
theorem dX7_restart_5 : decode cX7_restart 5 = .ok (.if_icmp .ge 18, 3) := by decide +kernel
theorem dX7_restart_8 : decode cX7_restart 8 = .ok (.aload_n 0, 1) := by decide +kernel
theorem dX7_restart_9 : decode cX7_restart 9 = .ok (.getfield 11, 3) := by decide +kernel
theorem dX7_restart_12 : decode cX7_restart 12 = .ok (.iload_n 1, 1) := by decide +kernel
theorem dX7_restart_13 : decode cX7_restart 13 = .ok (.ldc2_w 31, 3) := by decide +kernel
theorem dX7_restart_16 : decode cX7_restart 16 = .ok (.lastore, 1) := by decide +kernel
theorem dX7_restart_17 : decode cX7_restart 17 = .ok (.iinc 1 1, 3) := by decide +kernel
theorem dX7_restart_20 : decode cX7_restart 20 = .ok (.goto (-18), 3) := by decide +kernel
theorem dX7_restart_23 : decode cX7_restart 23 = .ok (.aload_n 0, 1) := by decide +kernel
theorem dX7_restart_24 : decode cX7_restart 24 = .ok (.bipush 8, 2) := by decide +kernel
theorem dX7_restart_26 : decode cX7_restart 26 = .ok (.putfield 33, 3) := by decide +kernel
theorem dX7_restart_29 : decode cX7_restart 29 = .ok (.aload_n 0, 1) := by decide +kernel
theorem dX7_restart_30 : decode cX7_restart 30 = .ok (.iconst 0, 1) := by decide +kernel
theorem dX7_restart_31 : decode cX7_restart 31 = .ok (.putfield 37, 3) := by decide +kernel
theorem dX7_restart_34 : decode cX7_restart 34 = .ok (.return_, 1) := by decide +kernel
theorem dX7_newRow_0 : decode cX7_newRow 0 = .ok (.iload_n 2, 1) := by decide +kernel
theorem dX7_newRow_1 : decode cX7_newRow 1 = .ok (.ifCond .lt 25, 3) := by decide +kernel
theorem dX7_newRow_4 : decode cX7_newRow 4 = .ok (.iload_n 2, 1) := by decide +kernel
theorem dX7_newRow_5 : decode cX7_newRow 5 = .ok (.bipush 16, 2) := by decide +kernel
theorem dX7_newRow_7 : decode cX7_newRow 7 = .ok (.if_icmp .gt 19, 3) := by decide +kernel
theorem dX7_newRow_10 : decode cX7_newRow 10 = .ok (.aload_n 0, 1) := by decide +kernel
theorem dX7_newRow_11 : decode cX7_newRow 11 = .ok (.getfield 33, 3) := by decide +kernel
theorem dX7_newRow_14 : decode cX7_newRow 14 = .ok (.iconst 1, 1) := by decide +kernel
theorem dX7_newRow_15 : decode cX7_newRow 15 = .ok (.iadd, 1) := by decide +kernel
theorem dX7_newRow_16 : decode cX7_newRow 16 = .ok (.iload_n 2, 1) := by decide +kernel
theorem dX7_newRow_17 : decode cX7_newRow 17 = .ok (.iadd, 1) := by decide +kernel
theorem dX7_newRow_18 : decode cX7_newRow 18 = .ok (.aload_n 0, 1) := by decide +kernel
theorem dX7_newRow_19 : decode cX7_newRow 19 = .ok (.getfield 11, 3) := by decide +kernel
theorem dX7_newRow_22 : decode cX7_newRow 22 = .ok (.arraylength, 1) := by decide +kernel
theorem dX7_newRow_23 : decode cX7_newRow 23 = .ok (.if_icmp .le 7, 3) := by decide +kernel
theorem dX7_newRow_26 : decode cX7_newRow 26 = .ok (.ldc2_w 31, 3) := by decide +kernel
theorem dX7_newRow_29 : decode cX7_newRow 29 = .ok (.lreturn, 1) := by decide +kernel
theorem dX7_newRow_30 : decode cX7_newRow 30 = .ok (.aload_n 0, 1) := by decide +kernel
theorem dX7_newRow_31 : decode cX7_newRow 31 = .ok (.getfield 33, 3) := by decide +kernel
theorem dX7_newRow_34 : decode cX7_newRow 34 = .ok (.istore_n 3, 1) := by decide +kernel
theorem dX7_newRow_35 : decode cX7_newRow 35 = .ok (.aload_n 0, 1) := by decide +kernel
theorem dX7_newRow_36 : decode cX7_newRow 36 = .ok (.dup, 1) := by decide +kernel
theorem dX7_newRow_37 : decode cX7_newRow 37 = .ok (.getfield 33, 3) := by decide +kernel
theorem dX7_newRow_40 : decode cX7_newRow 40 = .ok (.iconst 1, 1) := by decide +kernel
theorem dX7_newRow_41 : decode cX7_newRow 41 = .ok (.iload_n 2, 1) := by decide +kernel
theorem dX7_newRow_42 : decode cX7_newRow 42 = .ok (.iadd, 1) := by decide +kernel
theorem dX7_newRow_43 : decode cX7_newRow 43 = .ok (.iadd, 1) := by decide +kernel
theorem dX7_newRow_44 : decode cX7_newRow 44 = .ok (.putfield 33, 3) := by decide +kernel
theorem dX7_newRow_47 : decode cX7_newRow 47 = .ok (.aload_n 0, 1) := by decide +kernel
theorem dX7_newRow_48 : decode cX7_newRow 48 = .ok (.getfield 11, 3) := by decide +kernel
theorem dX7_newRow_51 : decode cX7_newRow 51 = .ok (.iload_n 3, 1) := by decide +kernel
theorem dX7_newRow_52 : decode cX7_newRow 52 = .ok (.iload_n 2, 1) := by decide +kernel
theorem dX7_newRow_53 : decode cX7_newRow 53 = .ok (.invokestatic 40, 3) := by decide +kernel
theorem dX7_newRow_56 : decode cX7_newRow 56 = .ok (.lastore, 1) := by decide +kernel
theorem dX7_newRow_57 : decode cX7_newRow 57 = .ok (.iload_n 1, 1) := by decide +kernel
theorem dX7_newRow_58 : decode cX7_newRow 58 = .ok (.iconst 2, 1) := by decide +kernel
theorem dX7_newRow_59 : decode cX7_newRow 59 = .ok (.if_icmp .ne 10, 3) := by decide +kernel
theorem dX7_newRow_62 : decode cX7_newRow 62 = .ok (.iconst 0, 1) := by decide +kernel
theorem dX7_newRow_63 : decode cX7_newRow 63 = .ok (.invokestatic 40, 3) := by decide +kernel
theorem dX7_newRow_66 : decode cX7_newRow 66 = .ok (.goto 6, 3) := by decide +kernel
theorem dX7_newRow_69 : decode cX7_newRow 69 = .ok (.ldc2_w 31, 3) := by decide +kernel
theorem dX7_newRow_72 : decode cX7_newRow 72 = .ok (.lstore 4, 2) := by decide +kernel
theorem dX7_newRow_74 : decode cX7_newRow 74 = .ok (.iload_n 3, 1) := by decide +kernel
theorem dX7_newRow_75 : decode cX7_newRow 75 = .ok (.iconst 1, 1) := by decide +kernel
theorem dX7_newRow_76 : decode cX7_newRow 76 = .ok (.iadd, 1) := by decide +kernel
theorem dX7_newRow_77 : decode cX7_newRow 77 = .ok (.istore 6, 2) := by decide +kernel
theorem dX7_newRow_79 : decode cX7_newRow 79 = .ok (.iload 6, 2) := by decide +kernel
theorem dX7_newRow_81 : decode cX7_newRow 81 = .ok (.aload_n 0, 1) := by decide +kernel
theorem dX7_newRow_82 : decode cX7_newRow 82 = .ok (.getfield 33, 3) := by decide +kernel
theorem dX7_newRow_85 : decode cX7_newRow 85 = .ok (.if_icmp .ge 18, 3) := by decide +kernel
theorem dX7_newRow_88 : decode cX7_newRow 88 = .ok (.aload_n 0, 1) := by decide +kernel
theorem dX7_newRow_89 : decode cX7_newRow 89 = .ok (.getfield 11, 3) := by decide +kernel
theorem dX7_newRow_92 : decode cX7_newRow 92 = .ok (.iload 6, 2) := by decide +kernel
theorem dX7_newRow_94 : decode cX7_newRow 94 = .ok (.lload 4, 2) := by decide +kernel
theorem dX7_newRow_96 : decode cX7_newRow 96 = .ok (.lastore, 1) := by decide +kernel
theorem dX7_newRow_97 : decode cX7_newRow 97 = .ok (.iinc 6 1, 3) := by decide +kernel
theorem dX7_newRow_100 : decode cX7_newRow 100 = .ok (.goto (-21), 3) := by decide +kernel
theorem dX7_newRow_103 : decode cX7_newRow 103 = .ok (.iload_n 1, 1) := by decide +kernel
theorem dX7_newRow_104 : decode cX7_newRow 104 = .ok (.iload_n 3, 1) := by decide +kernel
theorem dX7_newRow_105 : decode cX7_newRow 105 = .ok (.invokestatic 44, 3) := by decide +kernel
theorem dX7_newRow_108 : decode cX7_newRow 108 = .ok (.lreturn, 1) := by decide +kernel
theorem dX7_newLink_0 : decode cX7_newLink 0 = .ok (.aload_n 0, 1) := by decide +kernel
theorem dX7_newLink_1 : decode cX7_newLink 1 = .ok (.getfield 33, 3) := by decide +kernel
theorem dX7_newLink_4 : decode cX7_newLink 4 = .ok (.aload_n 0, 1) := by decide +kernel
theorem dX7_newLink_5 : decode cX7_newLink 5 = .ok (.getfield 11, 3) := by decide +kernel
theorem dX7_newLink_8 : decode cX7_newLink 8 = .ok (.arraylength, 1) := by decide +kernel
theorem dX7_newLink_9 : decode cX7_newLink 9 = .ok (.if_icmp .lt 7, 3) := by decide +kernel
theorem dX7_newLink_12 : decode cX7_newLink 12 = .ok (.ldc2_w 31, 3) := by decide +kernel
theorem dX7_newLink_15 : decode cX7_newLink 15 = .ok (.lreturn, 1) := by decide +kernel
theorem dX7_newLink_16 : decode cX7_newLink 16 = .ok (.aload_n 0, 1) := by decide +kernel
theorem dX7_newLink_17 : decode cX7_newLink 17 = .ok (.getfield 33, 3) := by decide +kernel
theorem dX7_newLink_20 : decode cX7_newLink 20 = .ok (.istore 4, 2) := by decide +kernel
theorem dX7_newLink_22 : decode cX7_newLink 22 = .ok (.aload_n 0, 1) := by decide +kernel
theorem dX7_newLink_23 : decode cX7_newLink 23 = .ok (.dup, 1) := by decide +kernel
theorem dX7_newLink_24 : decode cX7_newLink 24 = .ok (.getfield 33, 3) := by decide +kernel
theorem dX7_newLink_27 : decode cX7_newLink 27 = .ok (.iconst 1, 1) := by decide +kernel
theorem dX7_newLink_28 : decode cX7_newLink 28 = .ok (.iadd, 1) := by decide +kernel
theorem dX7_newLink_29 : decode cX7_newLink 29 = .ok (.putfield 33, 3) := by decide +kernel
theorem dX7_newLink_32 : decode cX7_newLink 32 = .ok (.aload_n 0, 1) := by decide +kernel
theorem dX7_newLink_33 : decode cX7_newLink 33 = .ok (.getfield 11, 3) := by decide +kernel
theorem dX7_newLink_36 : decode cX7_newLink 36 = .ok (.iload 4, 2) := by decide +kernel
theorem dX7_newLink_38 : decode cX7_newLink 38 = .ok (.lload_n 2, 1) := by decide +kernel
theorem dX7_newLink_39 : decode cX7_newLink 39 = .ok (.lastore, 1) := by decide +kernel
theorem dX7_newLink_40 : decode cX7_newLink 40 = .ok (.iload_n 1, 1) := by decide +kernel
theorem dX7_newLink_41 : decode cX7_newLink 41 = .ok (.iload 4, 2) := by decide +kernel
theorem dX7_newLink_43 : decode cX7_newLink 43 = .ok (.invokestatic 44, 3) := by decide +kernel
theorem dX7_newLink_46 : decode cX7_newLink 46 = .ok (.lreturn, 1) := by decide +kernel
theorem dX7_read_0 : decode cX7_read 0 = .ok (.iload_n 1, 1) := by decide +kernel
theorem dX7_read_1 : decode cX7_read 1 = .ok (.ifCond .lt 20, 3) := by decide +kernel
theorem dX7_read_4 : decode cX7_read 4 = .ok (.iload_n 1, 1) := by decide +kernel
theorem dX7_read_5 : decode cX7_read 5 = .ok (.aload_n 0, 1) := by decide +kernel
theorem dX7_read_6 : decode cX7_read 6 = .ok (.getfield 33, 3) := by decide +kernel
theorem dX7_read_9 : decode cX7_read 9 = .ok (.if_icmp .ge 12, 3) := by decide +kernel
theorem dX7_read_12 : decode cX7_read 12 = .ok (.aload_n 0, 1) := by decide +kernel
theorem dX7_read_13 : decode cX7_read 13 = .ok (.getfield 11, 3) := by decide +kernel
theorem dX7_read_16 : decode cX7_read 16 = .ok (.iload_n 1, 1) := by decide +kernel
theorem dX7_read_17 : decode cX7_read 17 = .ok (.laload, 1) := by decide +kernel
theorem dX7_read_18 : decode cX7_read 18 = .ok (.goto 6, 3) := by decide +kernel
theorem dX7_read_21 : decode cX7_read 21 = .ok (.ldc2_w 31, 3) := by decide +kernel
theorem dX7_read_24 : decode cX7_read 24 = .ok (.lreturn, 1) := by decide +kernel
theorem dX7_write_0 : decode cX7_write 0 = .ok (.iload_n 1, 1) := by decide +kernel
theorem dX7_write_1 : decode cX7_write 1 = .ok (.ifCond .lt 23, 3) := by decide +kernel
theorem dX7_write_4 : decode cX7_write 4 = .ok (.iload_n 1, 1) := by decide +kernel
theorem dX7_write_5 : decode cX7_write 5 = .ok (.aload_n 0, 1) := by decide +kernel
theorem dX7_write_6 : decode cX7_write 6 = .ok (.getfield 33, 3) := by decide +kernel
theorem dX7_write_9 : decode cX7_write 9 = .ok (.if_icmp .ge 15, 3) := by decide +kernel
theorem dX7_write_12 : decode cX7_write 12 = .ok (.aload_n 0, 1) := by decide +kernel
theorem dX7_write_13 : decode cX7_write 13 = .ok (.getfield 37, 3) := by decide +kernel
theorem dX7_write_16 : decode cX7_write 16 = .ok (.aload_n 0, 1) := by decide +kernel
theorem dX7_write_17 : decode cX7_write 17 = .ok (.getfield 15, 3) := by decide +kernel
theorem dX7_write_20 : decode cX7_write 20 = .ok (.arraylength, 1) := by decide +kernel
theorem dX7_write_21 : decode cX7_write 21 = .ok (.if_icmp .lt 4, 3) := by decide +kernel
theorem dX7_write_24 : decode cX7_write 24 = .ok (.return_, 1) := by decide +kernel
theorem dX7_write_25 : decode cX7_write 25 = .ok (.aload_n 0, 1) := by decide +kernel
theorem dX7_write_26 : decode cX7_write 26 = .ok (.getfield 15, 3) := by decide +kernel
theorem dX7_write_29 : decode cX7_write 29 = .ok (.aload_n 0, 1) := by decide +kernel
theorem dX7_write_30 : decode cX7_write 30 = .ok (.getfield 37, 3) := by decide +kernel
theorem dX7_write_33 : decode cX7_write 33 = .ok (.iload_n 1, 1) := by decide +kernel
theorem dX7_write_34 : decode cX7_write 34 = .ok (.iastore, 1) := by decide +kernel
theorem dX7_write_35 : decode cX7_write 35 = .ok (.aload_n 0, 1) := by decide +kernel
theorem dX7_write_36 : decode cX7_write 36 = .ok (.getfield 19, 3) := by decide +kernel
theorem dX7_write_39 : decode cX7_write 39 = .ok (.aload_n 0, 1) := by decide +kernel
theorem dX7_write_40 : decode cX7_write 40 = .ok (.getfield 37, 3) := by decide +kernel
theorem dX7_write_43 : decode cX7_write 43 = .ok (.aload_n 0, 1) := by decide +kernel
theorem dX7_write_44 : decode cX7_write 44 = .ok (.getfield 11, 3) := by decide +kernel
theorem dX7_write_47 : decode cX7_write 47 = .ok (.iload_n 1, 1) := by decide +kernel
theorem dX7_write_48 : decode cX7_write 48 = .ok (.laload, 1) := by decide +kernel
theorem dX7_write_49 : decode cX7_write 49 = .ok (.lastore, 1) := by decide +kernel
theorem dX7_write_50 : decode cX7_write 50 = .ok (.aload_n 0, 1) := by decide +kernel
theorem dX7_write_51 : decode cX7_write 51 = .ok (.dup, 1) := by decide +kernel
theorem dX7_write_52 : decode cX7_write 52 = .ok (.getfield 37, 3) := by decide +kernel
theorem dX7_write_55 : decode cX7_write 55 = .ok (.iconst 1, 1) := by decide +kernel
theorem dX7_write_56 : decode cX7_write 56 = .ok (.iadd, 1) := by decide +kernel
theorem dX7_write_57 : decode cX7_write 57 = .ok (.putfield 37, 3) := by decide +kernel
theorem dX7_write_60 : decode cX7_write 60 = .ok (.aload_n 0, 1) := by decide +kernel
theorem dX7_write_61 : decode cX7_write 61 = .ok (.getfield 11, 3) := by decide +kernel
theorem dX7_write_64 : decode cX7_write 64 = .ok (.iload_n 1, 1) := by decide +kernel
theorem dX7_write_65 : decode cX7_write 65 = .ok (.lload_n 2, 1) := by decide +kernel
theorem dX7_write_66 : decode cX7_write 66 = .ok (.lastore, 1) := by decide +kernel
theorem dX7_write_67 : decode cX7_write 67 = .ok (.return_, 1) := by decide +kernel
theorem dX7_copied_0 : decode cX7_copied 0 = .ok (.iconst 0, 1) := by decide +kernel
theorem dX7_copied_1 : decode cX7_copied 1 = .ok (.istore 6, 2) := by decide +kernel
theorem dX7_copied_3 : decode cX7_copied 3 = .ok (.iload 6, 2) := by decide +kernel
theorem dX7_copied_5 : decode cX7_copied 5 = .ok (.iload 5, 2) := by decide +kernel
theorem dX7_copied_7 : decode cX7_copied 7 = .ok (.if_icmp .ge 44, 3) := by decide +kernel
theorem dX7_copied_10 : decode cX7_copied 10 = .ok (.aload_n 0, 1) := by decide +kernel
theorem dX7_copied_11 : decode cX7_copied 11 = .ok (.lload_n 1, 1) := by decide +kernel
theorem dX7_copied_12 : decode cX7_copied 12 = .ok (.iload 6, 2) := by decide +kernel
theorem dX7_copied_14 : decode cX7_copied 14 = .ok (.invokestatic 48, 3) := by decide +kernel
theorem dX7_copied_17 : decode cX7_copied 17 = .ok (.invokevirtual 52, 3) := by decide +kernel
theorem dX7_copied_20 : decode cX7_copied 20 = .ok (.lstore 7, 2) := by decide +kernel
theorem dX7_copied_22 : decode cX7_copied 22 = .ok (.lload_n 3, 1) := by decide +kernel
theorem dX7_copied_23 : decode cX7_copied 23 = .ok (.lload 7, 2) := by decide +kernel
theorem dX7_copied_25 : decode cX7_copied 25 = .ok (.invokestatic 55, 3) := by decide +kernel
theorem dX7_copied_28 : decode cX7_copied 28 = .ok (.ifCond .eq 5, 3) := by decide +kernel
theorem dX7_copied_31 : decode cX7_copied 31 = .ok (.iconst 0, 1) := by decide +kernel
theorem dX7_copied_32 : decode cX7_copied 32 = .ok (.ireturn, 1) := by decide +kernel
theorem dX7_copied_33 : decode cX7_copied 33 = .ok (.aload_n 0, 1) := by decide +kernel
theorem dX7_copied_34 : decode cX7_copied 34 = .ok (.lload_n 3, 1) := by decide +kernel
theorem dX7_copied_35 : decode cX7_copied 35 = .ok (.iload 6, 2) := by decide +kernel
theorem dX7_copied_37 : decode cX7_copied 37 = .ok (.invokestatic 48, 3) := by decide +kernel
theorem dX7_copied_40 : decode cX7_copied 40 = .ok (.lload 7, 2) := by decide +kernel
theorem dX7_copied_42 : decode cX7_copied 42 = .ok (.invokevirtual 59, 3) := by decide +kernel
theorem dX7_copied_45 : decode cX7_copied 45 = .ok (.iinc 6 1, 3) := by decide +kernel
theorem dX7_copied_48 : decode cX7_copied 48 = .ok (.goto (-45), 3) := by decide +kernel
theorem dX7_copied_51 : decode cX7_copied 51 = .ok (.iconst 1, 1) := by decide +kernel
theorem dX7_copied_52 : decode cX7_copied 52 = .ok (.ireturn, 1) := by decide +kernel
theorem dX7_changesSoFar_0 : decode cX7_changesSoFar 0 = .ok (.aload_n 0, 1) := by decide +kernel
theorem dX7_changesSoFar_1 : decode cX7_changesSoFar 1 = .ok (.getfield 37, 3) := by decide +kernel
theorem dX7_changesSoFar_4 : decode cX7_changesSoFar 4 = .ok (.ireturn, 1) := by decide +kernel
theorem dX7_undoBackTo_0 : decode cX7_undoBackTo 0 = .ok (.aload_n 0, 1) := by decide +kernel
theorem dX7_undoBackTo_1 : decode cX7_undoBackTo 1 = .ok (.getfield 37, 3) := by decide +kernel
theorem dX7_undoBackTo_4 : decode cX7_undoBackTo 4 = .ok (.iload_n 1, 1) := by decide +kernel
theorem dX7_undoBackTo_5 : decode cX7_undoBackTo 5 = .ok (.if_icmp .le 46, 3) := by decide +kernel
theorem dX7_undoBackTo_8 : decode cX7_undoBackTo 8 = .ok (.aload_n 0, 1) := by decide +kernel
theorem dX7_undoBackTo_9 : decode cX7_undoBackTo 9 = .ok (.getfield 37, 3) := by decide +kernel
theorem dX7_undoBackTo_12 : decode cX7_undoBackTo 12 = .ok (.ifCond .le 39, 3) := by decide +kernel
theorem dX7_undoBackTo_15 : decode cX7_undoBackTo 15 = .ok (.aload_n 0, 1) := by decide +kernel
theorem dX7_undoBackTo_16 : decode cX7_undoBackTo 16 = .ok (.dup, 1) := by decide +kernel
theorem dX7_undoBackTo_17 : decode cX7_undoBackTo 17 = .ok (.getfield 37, 3) := by decide +kernel
theorem dX7_undoBackTo_20 : decode cX7_undoBackTo 20 = .ok (.iconst 1, 1) := by decide +kernel
theorem dX7_undoBackTo_21 : decode cX7_undoBackTo 21 = .ok (.isub, 1) := by decide +kernel
theorem dX7_undoBackTo_22 : decode cX7_undoBackTo 22 = .ok (.putfield 37, 3) := by decide +kernel
theorem dX7_undoBackTo_25 : decode cX7_undoBackTo 25 = .ok (.aload_n 0, 1) := by decide +kernel
theorem dX7_undoBackTo_26 : decode cX7_undoBackTo 26 = .ok (.getfield 11, 3) := by decide +kernel
theorem dX7_undoBackTo_29 : decode cX7_undoBackTo 29 = .ok (.aload_n 0, 1) := by decide +kernel
theorem dX7_undoBackTo_30 : decode cX7_undoBackTo 30 = .ok (.getfield 15, 3) := by decide +kernel
theorem dX7_undoBackTo_33 : decode cX7_undoBackTo 33 = .ok (.aload_n 0, 1) := by decide +kernel
theorem dX7_undoBackTo_34 : decode cX7_undoBackTo 34 = .ok (.getfield 37, 3) := by decide +kernel
theorem dX7_undoBackTo_37 : decode cX7_undoBackTo 37 = .ok (.iaload, 1) := by decide +kernel
theorem dX7_undoBackTo_38 : decode cX7_undoBackTo 38 = .ok (.aload_n 0, 1) := by decide +kernel
theorem dX7_undoBackTo_39 : decode cX7_undoBackTo 39 = .ok (.getfield 19, 3) := by decide +kernel
theorem dX7_undoBackTo_42 : decode cX7_undoBackTo 42 = .ok (.aload_n 0, 1) := by decide +kernel
theorem dX7_undoBackTo_43 : decode cX7_undoBackTo 43 = .ok (.getfield 37, 3) := by decide +kernel
theorem dX7_undoBackTo_46 : decode cX7_undoBackTo 46 = .ok (.laload, 1) := by decide +kernel
theorem dX7_undoBackTo_47 : decode cX7_undoBackTo 47 = .ok (.lastore, 1) := by decide +kernel
theorem dX7_undoBackTo_48 : decode cX7_undoBackTo 48 = .ok (.goto (-48), 3) := by decide +kernel
theorem dX7_undoBackTo_51 : decode cX7_undoBackTo 51 = .ok (.return_, 1) := by decide +kernel
theorem dX7_lengthOf_0 : decode cX7_lengthOf 0 = .ok (.lload_n 1, 1) := by decide +kernel
theorem dX7_lengthOf_1 : decode cX7_lengthOf 1 = .ok (.invokestatic 63, 3) := by decide +kernel
theorem dX7_lengthOf_4 : decode cX7_lengthOf 4 = .ok (.ifCond .eq 17, 3) := by decide +kernel
theorem dX7_lengthOf_7 : decode cX7_lengthOf 7 = .ok (.aload_n 0, 1) := by decide +kernel
theorem dX7_lengthOf_8 : decode cX7_lengthOf 8 = .ok (.lload_n 1, 1) := by decide +kernel
theorem dX7_lengthOf_9 : decode cX7_lengthOf 9 = .ok (.invokestatic 25, 3) := by decide +kernel
theorem dX7_lengthOf_12 : decode cX7_lengthOf 12 = .ok (.invokevirtual 52, 3) := by decide +kernel
theorem dX7_lengthOf_15 : decode cX7_lengthOf 15 = .ok (.invokestatic 25, 3) := by decide +kernel
theorem dX7_lengthOf_18 : decode cX7_lengthOf 18 = .ok (.goto 4, 3) := by decide +kernel
theorem dX7_lengthOf_21 : decode cX7_lengthOf 21 = .ok (.iconst 0, 1) := by decide +kernel
theorem dX7_lengthOf_22 : decode cX7_lengthOf 22 = .ok (.ireturn, 1) := by decide +kernel
theorem dX7_measure_0 : decode cX7_measure 0 = .ok (.lload_n 1, 1) := by decide +kernel
theorem dX7_measure_1 : decode cX7_measure 1 = .ok (.invokestatic 67, 3) := by decide +kernel
theorem dX7_measure_4 : decode cX7_measure 4 = .ok (.ifCond .ne 10, 3) := by decide +kernel
theorem dX7_measure_7 : decode cX7_measure 7 = .ok (.lload_n 1, 1) := by decide +kernel
theorem dX7_measure_8 : decode cX7_measure 8 = .ok (.invokestatic 25, 3) := by decide +kernel
theorem dX7_measure_11 : decode cX7_measure 11 = .ok (.goto 8, 3) := by decide +kernel
theorem dX7_measure_14 : decode cX7_measure 14 = .ok (.aload_n 0, 1) := by decide +kernel
theorem dX7_measure_15 : decode cX7_measure 15 = .ok (.lload_n 1, 1) := by decide +kernel
theorem dX7_measure_16 : decode cX7_measure 16 = .ok (.invokevirtual 70, 3) := by decide +kernel
theorem dX7_measure_19 : decode cX7_measure 19 = .ok (.ireturn, 1) := by decide +kernel
theorem dX8_init_0 : decode cX8_init 0 = .ok (.aload_n 0, 1) := by decide +kernel
theorem dX8_init_1 : decode cX8_init 1 = .ok (.invokespecial 3, 3) := by decide +kernel
theorem dX8_init_4 : decode cX8_init 4 = .ok (.aload_n 0, 1) := by decide +kernel
theorem dX8_init_5 : decode cX8_init 5 = .ok (.sipush 200, 3) := by decide +kernel
theorem dX8_init_8 : decode cX8_init 8 = .ok (.newarray .int, 2) := by decide +kernel
theorem dX8_init_10 : decode cX8_init 10 = .ok (.putfield 9, 3) := by decide +kernel
theorem dX8_init_13 : decode cX8_init 13 = .ok (.aload_n 0, 1) := by decide +kernel
theorem dX8_init_14 : decode cX8_init 14 = .ok (.sipush 200, 3) := by decide +kernel
theorem dX8_init_17 : decode cX8_init 17 = .ok (.newarray .int, 2) := by decide +kernel
theorem dX8_init_19 : decode cX8_init 19 = .ok (.putfield 15, 3) := by decide +kernel
theorem dX8_init_22 : decode cX8_init 22 = .ok (.aload_n 0, 1) := by decide +kernel
theorem dX8_init_23 : decode cX8_init 23 = .ok (.sipush 200, 3) := by decide +kernel
theorem dX8_init_26 : decode cX8_init 26 = .ok (.newarray .int, 2) := by decide +kernel
theorem dX8_init_28 : decode cX8_init 28 = .ok (.putfield 18, 3) := by decide +kernel
theorem dX8_init_31 : decode cX8_init 31 = .ok (.aload_n 0, 1) := by decide +kernel
theorem dX8_init_32 : decode cX8_init 32 = .ok (.sipush 600, 3) := by decide +kernel
theorem dX8_init_35 : decode cX8_init 35 = .ok (.newarray .long, 2) := by decide +kernel
theorem dX8_init_37 : decode cX8_init 37 = .ok (.putfield 21, 3) := by decide +kernel
theorem dX8_init_40 : decode cX8_init 40 = .ok (.aload_n 0, 1) := by decide +kernel
theorem dX8_init_41 : decode cX8_init 41 = .ok (.sipush 200, 3) := by decide +kernel
theorem dX8_init_44 : decode cX8_init 44 = .ok (.newarray .int, 2) := by decide +kernel
theorem dX8_init_46 : decode cX8_init 46 = .ok (.putfield 25, 3) := by decide +kernel
theorem dX8_init_49 : decode cX8_init 49 = .ok (.aload_n 0, 1) := by decide +kernel
theorem dX8_init_50 : decode cX8_init 50 = .ok (.sipush 200, 3) := by decide +kernel
theorem dX8_init_53 : decode cX8_init 53 = .ok (.newarray .int, 2) := by decide +kernel
theorem dX8_init_55 : decode cX8_init 55 = .ok (.putfield 28, 3) := by decide +kernel
theorem dX8_init_58 : decode cX8_init 58 = .ok (.aload_n 0, 1) := by decide +kernel
theorem dX8_init_59 : decode cX8_init 59 = .ok (.sipush 200, 3) := by decide +kernel
theorem dX8_init_62 : decode cX8_init 62 = .ok (.newarray .int, 2) := by decide +kernel
theorem dX8_init_64 : decode cX8_init 64 = .ok (.putfield 31, 3) := by decide +kernel
theorem dX8_init_67 : decode cX8_init 67 = .ok (.aload_n 0, 1) := by decide +kernel
theorem dX8_init_68 : decode cX8_init 68 = .ok (.sipush 200, 3) := by decide +kernel
theorem dX8_init_71 : decode cX8_init 71 = .ok (.newarray .int, 2) := by decide +kernel
theorem dX8_init_73 : decode cX8_init 73 = .ok (.putfield 34, 3) := by decide +kernel
theorem dX8_init_76 : decode cX8_init 76 = .ok (.aload_n 0, 1) := by decide +kernel
theorem dX8_init_77 : decode cX8_init 77 = .ok (.iconst 0, 1) := by decide +kernel
theorem dX8_init_78 : decode cX8_init 78 = .ok (.putfield 37, 3) := by decide +kernel
theorem dX8_init_81 : decode cX8_init 81 = .ok (.aload_n 0, 1) := by decide +kernel
theorem dX8_init_82 : decode cX8_init 82 = .ok (.iconst 0, 1) := by decide +kernel
theorem dX8_init_83 : decode cX8_init 83 = .ok (.putfield 41, 3) := by decide +kernel
theorem dX8_init_86 : decode cX8_init 86 = .ok (.return_, 1) := by decide +kernel
theorem dX8_restart_0 : decode cX8_restart 0 = .ok (.aload_n 0, 1) := by decide +kernel
theorem dX8_restart_1 : decode cX8_restart 1 = .ok (.iconst 0, 1) := by decide +kernel
theorem dX8_restart_2 : decode cX8_restart 2 = .ok (.putfield 37, 3) := by decide +kernel
theorem dX8_restart_5 : decode cX8_restart 5 = .ok (.aload_n 0, 1) := by decide +kernel
theorem dX8_restart_6 : decode cX8_restart 6 = .ok (.iconst 0, 1) := by decide +kernel
theorem dX8_restart_7 : decode cX8_restart 7 = .ok (.putfield 41, 3) := by decide +kernel
theorem dX8_restart_10 : decode cX8_restart 10 = .ok (.return_, 1) := by decide +kernel
theorem dX8_isEmpty_0 : decode cX8_isEmpty 0 = .ok (.aload_n 0, 1) := by decide +kernel
theorem dX8_isEmpty_1 : decode cX8_isEmpty 1 = .ok (.getfield 37, 3) := by decide +kernel
theorem dX8_isEmpty_4 : decode cX8_isEmpty 4 = .ok (.ifCond .ne 7, 3) := by decide +kernel
theorem dX8_isEmpty_7 : decode cX8_isEmpty 7 = .ok (.iconst 1, 1) := by decide +kernel
theorem dX8_isEmpty_8 : decode cX8_isEmpty 8 = .ok (.goto 4, 3) := by decide +kernel
theorem dX8_isEmpty_11 : decode cX8_isEmpty 11 = .ok (.iconst 0, 1) := by decide +kernel
theorem dX8_isEmpty_12 : decode cX8_isEmpty 12 = .ok (.ireturn, 1) := by decide +kernel
theorem dX8_push_0 : decode cX8_push 0 = .ok (.aload_n 0, 1) := by decide +kernel
theorem dX8_push_1 : decode cX8_push 1 = .ok (.getfield 37, 3) := by decide +kernel
theorem dX8_push_4 : decode cX8_push 4 = .ok (.sipush 200, 3) := by decide +kernel
theorem dX8_push_7 : decode cX8_push 7 = .ok (.if_icmp .lt 4, 3) := by decide +kernel
theorem dX8_push_10 : decode cX8_push 10 = .ok (.return_, 1) := by decide +kernel
theorem dX8_push_11 : decode cX8_push 11 = .ok (.aload_n 0, 1) := by decide +kernel
theorem dX8_push_12 : decode cX8_push 12 = .ok (.aload_n 0, 1) := by decide +kernel
theorem dX8_push_13 : decode cX8_push 13 = .ok (.getfield 37, 3) := by decide +kernel
theorem dX8_push_16 : decode cX8_push 16 = .ok (.putfield 41, 3) := by decide +kernel
theorem dX8_push_19 : decode cX8_push 19 = .ok (.aload_n 0, 1) := by decide +kernel
theorem dX8_push_20 : decode cX8_push 20 = .ok (.dup, 1) := by decide +kernel
theorem dX8_push_21 : decode cX8_push 21 = .ok (.getfield 37, 3) := by decide +kernel
theorem dX8_push_24 : decode cX8_push 24 = .ok (.iconst 1, 1) := by decide +kernel
theorem dX8_push_25 : decode cX8_push 25 = .ok (.iadd, 1) := by decide +kernel
theorem dX8_push_26 : decode cX8_push 26 = .ok (.putfield 37, 3) := by decide +kernel
theorem dX8_push_29 : decode cX8_push 29 = .ok (.aload_n 0, 1) := by decide +kernel
theorem dX8_push_30 : decode cX8_push 30 = .ok (.getfield 9, 3) := by decide +kernel
theorem dX8_push_33 : decode cX8_push 33 = .ok (.aload_n 0, 1) := by decide +kernel
theorem dX8_push_34 : decode cX8_push 34 = .ok (.getfield 41, 3) := by decide +kernel
theorem dX8_push_37 : decode cX8_push 37 = .ok (.iload_n 1, 1) := by decide +kernel
theorem dX8_push_38 : decode cX8_push 38 = .ok (.iastore, 1) := by decide +kernel
theorem dX8_push_39 : decode cX8_push 39 = .ok (.aload_n 0, 1) := by decide +kernel
theorem dX8_push_40 : decode cX8_push 40 = .ok (.getfield 15, 3) := by decide +kernel
theorem dX8_push_43 : decode cX8_push 43 = .ok (.aload_n 0, 1) := by decide +kernel
theorem dX8_push_44 : decode cX8_push 44 = .ok (.getfield 41, 3) := by decide +kernel
theorem dX8_push_47 : decode cX8_push 47 = .ok (.iload_n 2, 1) := by decide +kernel
theorem dX8_push_48 : decode cX8_push 48 = .ok (.iastore, 1) := by decide +kernel
theorem dX8_push_49 : decode cX8_push 49 = .ok (.aload_n 0, 1) := by decide +kernel
theorem dX8_push_50 : decode cX8_push 50 = .ok (.getfield 18, 3) := by decide +kernel
theorem dX8_push_53 : decode cX8_push 53 = .ok (.aload_n 0, 1) := by decide +kernel
theorem dX8_push_54 : decode cX8_push 54 = .ok (.getfield 41, 3) := by decide +kernel
theorem dX8_push_57 : decode cX8_push 57 = .ok (.iconst 0, 1) := by decide +kernel
theorem dX8_push_58 : decode cX8_push 58 = .ok (.iastore, 1) := by decide +kernel
theorem dX8_push_59 : decode cX8_push 59 = .ok (.aload_n 0, 1) := by decide +kernel
theorem dX8_push_60 : decode cX8_push 60 = .ok (.getfield 25, 3) := by decide +kernel
theorem dX8_push_63 : decode cX8_push 63 = .ok (.aload_n 0, 1) := by decide +kernel
theorem dX8_push_64 : decode cX8_push 64 = .ok (.getfield 41, 3) := by decide +kernel
theorem dX8_push_67 : decode cX8_push 67 = .ok (.iload_n 3, 1) := by decide +kernel
theorem dX8_push_68 : decode cX8_push 68 = .ok (.iastore, 1) := by decide +kernel
theorem dX8_push_69 : decode cX8_push 69 = .ok (.aload_n 0, 1) := by decide +kernel
theorem dX8_push_70 : decode cX8_push 70 = .ok (.getfield 28, 3) := by decide +kernel
theorem dX8_push_73 : decode cX8_push 73 = .ok (.aload_n 0, 1) := by decide +kernel
theorem dX8_push_74 : decode cX8_push 74 = .ok (.getfield 41, 3) := by decide +kernel
theorem dX8_push_77 : decode cX8_push 77 = .ok (.iconst 0, 1) := by decide +kernel
theorem dX8_push_78 : decode cX8_push 78 = .ok (.iastore, 1) := by decide +kernel
theorem dX8_push_79 : decode cX8_push 79 = .ok (.return_, 1) := by decide +kernel
theorem dX8_pop_0 : decode cX8_pop 0 = .ok (.aload_n 0, 1) := by decide +kernel
theorem dX8_pop_1 : decode cX8_pop 1 = .ok (.aload_n 0, 1) := by decide +kernel
theorem dX8_pop_2 : decode cX8_pop 2 = .ok (.getfield 41, 3) := by decide +kernel
theorem dX8_pop_5 : decode cX8_pop 5 = .ok (.putfield 37, 3) := by decide +kernel
theorem dX8_pop_8 : decode cX8_pop 8 = .ok (.aload_n 0, 1) := by decide +kernel
theorem dX8_pop_9 : decode cX8_pop 9 = .ok (.aload_n 0, 1) := by decide +kernel
theorem dX8_pop_10 : decode cX8_pop 10 = .ok (.getfield 41, 3) := by decide +kernel
theorem dX8_pop_13 : decode cX8_pop 13 = .ok (.ifCond .le 12, 3) := by decide +kernel
theorem dX8_pop_16 : decode cX8_pop 16 = .ok (.aload_n 0, 1) := by decide +kernel
theorem dX8_pop_17 : decode cX8_pop 17 = .ok (.getfield 41, 3) := by decide +kernel
theorem dX8_pop_20 : decode cX8_pop 20 = .ok (.iconst 1, 1) := by decide +kernel
theorem dX8_pop_21 : decode cX8_pop 21 = .ok (.isub, 1) := by decide +kernel
theorem dX8_pop_22 : decode cX8_pop 22 = .ok (.goto 4, 3) := by decide +kernel
theorem dX8_pop_25 : decode cX8_pop 25 = .ok (.iconst 0, 1) := by decide +kernel
theorem dX8_pop_26 : decode cX8_pop 26 = .ok (.putfield 41, 3) := by decide +kernel
theorem dX8_pop_29 : decode cX8_pop 29 = .ok (.return_, 1) := by decide +kernel
theorem dX8_actOnTop_0 : decode cX8_actOnTop 0 = .ok (.aload_n 0, 1) := by decide +kernel
theorem dX8_actOnTop_1 : decode cX8_actOnTop 1 = .ok (.getfield 9, 3) := by decide +kernel
theorem dX8_actOnTop_4 : decode cX8_actOnTop 4 = .ok (.aload_n 0, 1) := by decide +kernel
theorem dX8_actOnTop_5 : decode cX8_actOnTop 5 = .ok (.getfield 41, 3) := by decide +kernel
theorem dX8_actOnTop_8 : decode cX8_actOnTop 8 = .ok (.iaload, 1) := by decide +kernel
theorem dX8_actOnTop_9 : decode cX8_actOnTop 9 = .ok (.ireturn, 1) := by decide +kernel
theorem dX8_frame_0 : decode cX8_frame 0 = .ok (.aload_n 0, 1) := by decide +kernel
theorem dX8_frame_1 : decode cX8_frame 1 = .ok (.getfield 15, 3) := by decide +kernel
theorem dX8_frame_4 : decode cX8_frame 4 = .ok (.aload_n 0, 1) := by decide +kernel
theorem dX8_frame_5 : decode cX8_frame 5 = .ok (.getfield 41, 3) := by decide +kernel
theorem dX8_frame_8 : decode cX8_frame 8 = .ok (.iaload, 1) := by decide +kernel
theorem dX8_frame_9 : decode cX8_frame 9 = .ok (.ireturn, 1) := by decide +kernel
theorem dX8_stage_0 : decode cX8_stage 0 = .ok (.aload_n 0, 1) := by decide +kernel
theorem dX8_stage_1 : decode cX8_stage 1 = .ok (.getfield 18, 3) := by decide +kernel
theorem dX8_stage_4 : decode cX8_stage 4 = .ok (.aload_n 0, 1) := by decide +kernel
theorem dX8_stage_5 : decode cX8_stage 5 = .ok (.getfield 41, 3) := by decide +kernel
theorem dX8_stage_8 : decode cX8_stage 8 = .ok (.iaload, 1) := by decide +kernel
theorem dX8_stage_9 : decode cX8_stage 9 = .ok (.ireturn, 1) := by decide +kernel
theorem dX8_setStage_0 : decode cX8_setStage 0 = .ok (.aload_n 0, 1) := by decide +kernel
theorem dX8_setStage_1 : decode cX8_setStage 1 = .ok (.getfield 18, 3) := by decide +kernel
theorem dX8_setStage_4 : decode cX8_setStage 4 = .ok (.aload_n 0, 1) := by decide +kernel
theorem dX8_setStage_5 : decode cX8_setStage 5 = .ok (.getfield 41, 3) := by decide +kernel
theorem dX8_setStage_8 : decode cX8_setStage 8 = .ok (.iload_n 1, 1) := by decide +kernel
theorem dX8_setStage_9 : decode cX8_setStage 9 = .ok (.iastore, 1) := by decide +kernel
theorem dX8_setStage_10 : decode cX8_setStage 10 = .ok (.return_, 1) := by decide +kernel
theorem dX8_take_0 : decode cX8_take 0 = .ok (.aload_n 0, 1) := by decide +kernel
theorem dX8_take_1 : decode cX8_take 1 = .ok (.getfield 18, 3) := by decide +kernel
theorem dX8_take_4 : decode cX8_take 4 = .ok (.aload_n 0, 1) := by decide +kernel
theorem dX8_take_5 : decode cX8_take 5 = .ok (.getfield 41, 3) := by decide +kernel
theorem dX8_take_8 : decode cX8_take 8 = .ok (.iaload, 1) := by decide +kernel
theorem dX8_take_9 : decode cX8_take 9 = .ok (.istore_n 3, 1) := by decide +kernel
theorem dX8_take_10 : decode cX8_take 10 = .ok (.iload_n 3, 1) := by decide +kernel
theorem dX8_take_11 : decode cX8_take 11 = .ok (.ifCond .lt 34, 3) := by decide +kernel
theorem dX8_take_14 : decode cX8_take 14 = .ok (.iload_n 3, 1) := by decide +kernel
theorem dX8_take_15 : decode cX8_take 15 = .ok (.iconst 3, 1) := by decide +kernel
theorem dX8_take_16 : decode cX8_take 16 = .ok (.if_icmp .ge 29, 3) := by decide +kernel
theorem dX8_take_19 : decode cX8_take 19 = .ok (.aload_n 0, 1) := by decide +kernel
theorem dX8_take_20 : decode cX8_take 20 = .ok (.getfield 21, 3) := by decide +kernel
theorem dX8_take_23 : decode cX8_take 23 = .ok (.iconst 3, 1) := by decide +kernel
theorem dX8_take_24 : decode cX8_take 24 = .ok (.aload_n 0, 1) := by decide +kernel
theorem dX8_take_25 : decode cX8_take 25 = .ok (.getfield 41, 3) := by decide +kernel
theorem dX8_take_28 : decode cX8_take 28 = .ok (.imul, 1) := by decide +kernel
theorem dX8_take_29 : decode cX8_take 29 = .ok (.iload_n 3, 1) := by decide +kernel
theorem dX8_take_30 : decode cX8_take 30 = .ok (.iadd, 1) := by decide +kernel
theorem dX8_take_31 : decode cX8_take 31 = .ok (.lload_n 1, 1) := by decide +kernel
theorem dX8_take_32 : decode cX8_take 32 = .ok (.lastore, 1) := by decide +kernel
theorem dX8_take_33 : decode cX8_take 33 = .ok (.aload_n 0, 1) := by decide +kernel
theorem dX8_take_34 : decode cX8_take 34 = .ok (.getfield 18, 3) := by decide +kernel
theorem dX8_take_37 : decode cX8_take 37 = .ok (.aload_n 0, 1) := by decide +kernel
theorem dX8_take_38 : decode cX8_take 38 = .ok (.getfield 41, 3) := by decide +kernel
theorem dX8_take_41 : decode cX8_take 41 = .ok (.iload_n 3, 1) := by decide +kernel
theorem dX8_take_42 : decode cX8_take 42 = .ok (.iconst 1, 1) := by decide +kernel
theorem dX8_take_43 : decode cX8_take 43 = .ok (.iadd, 1) := by decide +kernel
theorem dX8_take_44 : decode cX8_take 44 = .ok (.iastore, 1) := by decide +kernel
theorem dX8_take_45 : decode cX8_take 45 = .ok (.return_, 1) := by decide +kernel
theorem dX8_value_0 : decode cX8_value 0 = .ok (.iload_n 1, 1) := by decide +kernel
theorem dX8_value_1 : decode cX8_value 1 = .ok (.ifCond .lt 24, 3) := by decide +kernel
theorem dX8_value_4 : decode cX8_value 4 = .ok (.iload_n 1, 1) := by decide +kernel
theorem dX8_value_5 : decode cX8_value 5 = .ok (.iconst 3, 1) := by decide +kernel
theorem dX8_value_6 : decode cX8_value 6 = .ok (.if_icmp .ge 19, 3) := by decide +kernel
theorem dX8_value_9 : decode cX8_value 9 = .ok (.aload_n 0, 1) := by decide +kernel
theorem dX8_value_10 : decode cX8_value 10 = .ok (.getfield 21, 3) := by decide +kernel
theorem dX8_value_13 : decode cX8_value 13 = .ok (.iconst 3, 1) := by decide +kernel
theorem dX8_value_14 : decode cX8_value 14 = .ok (.aload_n 0, 1) := by decide +kernel
theorem dX8_value_15 : decode cX8_value 15 = .ok (.getfield 41, 3) := by decide +kernel
theorem dX8_value_18 : decode cX8_value 18 = .ok (.imul, 1) := by decide +kernel
theorem dX8_value_19 : decode cX8_value 19 = .ok (.iload_n 1, 1) := by decide +kernel
theorem dX8_value_20 : decode cX8_value 20 = .ok (.iadd, 1) := by decide +kernel
theorem dX8_value_21 : decode cX8_value 21 = .ok (.laload, 1) := by decide +kernel
theorem dX8_value_22 : decode cX8_value 22 = .ok (.goto 6, 3) := by decide +kernel
theorem dX8_value_25 : decode cX8_value 25 = .ok (.ldc2_w 46, 3) := by decide +kernel
theorem dX8_value_28 : decode cX8_value 28 = .ok (.lreturn, 1) := by decide +kernel
theorem dX8_mark_0 : decode cX8_mark 0 = .ok (.aload_n 0, 1) := by decide +kernel
theorem dX8_mark_1 : decode cX8_mark 1 = .ok (.getfield 25, 3) := by decide +kernel
theorem dX8_mark_4 : decode cX8_mark 4 = .ok (.aload_n 0, 1) := by decide +kernel
theorem dX8_mark_5 : decode cX8_mark 5 = .ok (.getfield 41, 3) := by decide +kernel
theorem dX8_mark_8 : decode cX8_mark 8 = .ok (.iaload, 1) := by decide +kernel
theorem dX8_mark_9 : decode cX8_mark 9 = .ok (.ireturn, 1) := by decide +kernel
theorem dX8_hold_0 : decode cX8_hold 0 = .ok (.aload_n 0, 1) := by decide +kernel
theorem dX8_hold_1 : decode cX8_hold 1 = .ok (.getfield 28, 3) := by decide +kernel
theorem dX8_hold_4 : decode cX8_hold 4 = .ok (.aload_n 0, 1) := by decide +kernel
theorem dX8_hold_5 : decode cX8_hold 5 = .ok (.getfield 41, 3) := by decide +kernel
theorem dX8_hold_8 : decode cX8_hold 8 = .ok (.aload_n 1, 1) := by decide +kernel
theorem dX8_hold_9 : decode cX8_hold 9 = .ok (.getfield 48, 3) := by decide +kernel
theorem dX8_hold_12 : decode cX8_hold 12 = .ok (.iastore, 1) := by decide +kernel
theorem dX8_hold_13 : decode cX8_hold 13 = .ok (.aload_n 0, 1) := by decide +kernel
theorem dX8_hold_14 : decode cX8_hold 14 = .ok (.getfield 31, 3) := by decide +kernel
theorem dX8_hold_17 : decode cX8_hold 17 = .ok (.aload_n 0, 1) := by decide +kernel
theorem dX8_hold_18 : decode cX8_hold 18 = .ok (.getfield 41, 3) := by decide +kernel
theorem dX8_hold_21 : decode cX8_hold 21 = .ok (.aload_n 1, 1) := by decide +kernel
theorem dX8_hold_22 : decode cX8_hold 22 = .ok (.getfield 53, 3) := by decide +kernel
theorem dX8_hold_25 : decode cX8_hold 25 = .ok (.iastore, 1) := by decide +kernel
theorem dX8_hold_26 : decode cX8_hold 26 = .ok (.aload_n 0, 1) := by decide +kernel
theorem dX8_hold_27 : decode cX8_hold 27 = .ok (.getfield 34, 3) := by decide +kernel
theorem dX8_hold_30 : decode cX8_hold 30 = .ok (.aload_n 0, 1) := by decide +kernel
theorem dX8_hold_31 : decode cX8_hold 31 = .ok (.getfield 41, 3) := by decide +kernel
theorem dX8_hold_34 : decode cX8_hold 34 = .ok (.aload_n 1, 1) := by decide +kernel
theorem dX8_hold_35 : decode cX8_hold 35 = .ok (.getfield 56, 3) := by decide +kernel
theorem dX8_hold_38 : decode cX8_hold 38 = .ok (.iastore, 1) := by decide +kernel
end
section
theorem dX8_hold_39 : decode cX8_hold 39 = .ok (.return_, 1) := by decide +kernel
theorem dX8_holdsFailure_0 : decode cX8_holdsFailure 0 = .ok (.aload_n 0, 1) := by decide +kernel
theorem dX8_holdsFailure_1 : decode cX8_holdsFailure 1 = .ok (.getfield 28, 3) := by decide +kernel
theorem dX8_holdsFailure_4 : decode cX8_holdsFailure 4 = .ok (.aload_n 0, 1) := by decide +kernel
theorem dX8_holdsFailure_5 : decode cX8_holdsFailure 5 = .ok (.getfield 41, 3) := by decide +kernel
theorem dX8_holdsFailure_8 : decode cX8_holdsFailure 8 = .ok (.iaload, 1) := by decide +kernel
theorem dX8_holdsFailure_9 : decode cX8_holdsFailure 9 = .ok (.ifCond .eq 7, 3) := by decide +kernel
theorem dX8_holdsFailure_12 : decode cX8_holdsFailure 12 = .ok (.iconst 1, 1) := by decide +kernel
theorem dX8_holdsFailure_13 : decode cX8_holdsFailure 13 = .ok (.goto 4, 3) := by decide +kernel
theorem dX8_holdsFailure_16 : decode cX8_holdsFailure 16 = .ok (.iconst 0, 1) := by decide +kernel
theorem dX8_holdsFailure_17 : decode cX8_holdsFailure 17 = .ok (.ireturn, 1) := by decide +kernel
theorem dX8_letGo_0 : decode cX8_letGo 0 = .ok (.aload_n 1, 1) := by decide +kernel
theorem dX8_letGo_1 : decode cX8_letGo 1 = .ok (.aload_n 0, 1) := by decide +kernel
theorem dX8_letGo_2 : decode cX8_letGo 2 = .ok (.getfield 28, 3) := by decide +kernel
theorem dX8_letGo_5 : decode cX8_letGo 5 = .ok (.aload_n 0, 1) := by decide +kernel
theorem dX8_letGo_6 : decode cX8_letGo 6 = .ok (.getfield 41, 3) := by decide +kernel
theorem dX8_letGo_9 : decode cX8_letGo 9 = .ok (.iaload, 1) := by decide +kernel
theorem dX8_letGo_10 : decode cX8_letGo 10 = .ok (.aload_n 0, 1) := by decide +kernel
theorem dX8_letGo_11 : decode cX8_letGo 11 = .ok (.getfield 31, 3) := by decide +kernel
theorem dX8_letGo_14 : decode cX8_letGo 14 = .ok (.aload_n 0, 1) := by decide +kernel
theorem dX8_letGo_15 : decode cX8_letGo 15 = .ok (.getfield 41, 3) := by decide +kernel
theorem dX8_letGo_18 : decode cX8_letGo 18 = .ok (.iaload, 1) := by decide +kernel
theorem dX8_letGo_19 : decode cX8_letGo 19 = .ok (.aload_n 0, 1) := by decide +kernel
theorem dX8_letGo_20 : decode cX8_letGo 20 = .ok (.getfield 34, 3) := by decide +kernel
theorem dX8_letGo_23 : decode cX8_letGo 23 = .ok (.aload_n 0, 1) := by decide +kernel
theorem dX8_letGo_24 : decode cX8_letGo 24 = .ok (.getfield 41, 3) := by decide +kernel
theorem dX8_letGo_27 : decode cX8_letGo 27 = .ok (.iaload, 1) := by decide +kernel
theorem dX8_letGo_28 : decode cX8_letGo 28 = .ok (.invokevirtual 59, 3) := by decide +kernel
theorem dX8_letGo_31 : decode cX8_letGo 31 = .ok (.return_, 1) := by decide +kernel
theorem dX9_of_0 : decode cX9_of 0 = .ok (.iload_n 0, 1) := by decide +kernel
theorem dX9_of_1 : decode cX9_of 1 = .ok (.i2l, 1) := by decide +kernel
theorem dX9_of_2 : decode cX9_of 2 = .ok (.bipush 32, 2) := by decide +kernel
theorem dX9_of_4 : decode cX9_of 4 = .ok (.lshl, 1) := by decide +kernel
theorem dX9_of_5 : decode cX9_of 5 = .ok (.iload_n 1, 1) := by decide +kernel
theorem dX9_of_6 : decode cX9_of 6 = .ok (.i2l, 1) := by decide +kernel
theorem dX9_of_7 : decode cX9_of 7 = .ok (.ldc2_w 7, 3) := by decide +kernel
theorem dX9_of_10 : decode cX9_of 10 = .ok (.land, 1) := by decide +kernel
theorem dX9_of_11 : decode cX9_of 11 = .ok (.lor, 1) := by decide +kernel
theorem dX9_of_12 : decode cX9_of 12 = .ok (.lreturn, 1) := by decide +kernel
theorem dX9_whole_0 : decode cX9_whole 0 = .ok (.iload_n 0, 1) := by decide +kernel
theorem dX9_whole_1 : decode cX9_whole 1 = .ok (.i2l, 1) := by decide +kernel
theorem dX9_whole_2 : decode cX9_whole 2 = .ok (.ldc2_w 7, 3) := by decide +kernel
theorem dX9_whole_5 : decode cX9_whole 5 = .ok (.land, 1) := by decide +kernel
theorem dX9_whole_6 : decode cX9_whole 6 = .ok (.lreturn, 1) := by decide +kernel
theorem dX9_truth_0 : decode cX9_truth 0 = .ok (.iload_n 0, 1) := by decide +kernel
theorem dX9_truth_1 : decode cX9_truth 1 = .ok (.ifCond .eq 7, 3) := by decide +kernel
theorem dX9_truth_4 : decode cX9_truth 4 = .ok (.lconst 1, 1) := by decide +kernel
theorem dX9_truth_5 : decode cX9_truth 5 = .ok (.goto 4, 3) := by decide +kernel
theorem dX9_truth_8 : decode cX9_truth 8 = .ok (.lconst 0, 1) := by decide +kernel
theorem dX9_truth_9 : decode cX9_truth 9 = .ok (.lreturn, 1) := by decide +kernel
theorem dX9_sort_0 : decode cX9_sort 0 = .ok (.lload_n 0, 1) := by decide +kernel
theorem dX9_sort_1 : decode cX9_sort 1 = .ok (.bipush 32, 2) := by decide +kernel
theorem dX9_sort_3 : decode cX9_sort 3 = .ok (.lshr, 1) := by decide +kernel
theorem dX9_sort_4 : decode cX9_sort 4 = .ok (.l2i, 1) := by decide +kernel
theorem dX9_sort_5 : decode cX9_sort 5 = .ok (.ireturn, 1) := by decide +kernel
theorem dX9_number_0 : decode cX9_number 0 = .ok (.lload_n 0, 1) := by decide +kernel
theorem dX9_number_1 : decode cX9_number 1 = .ok (.l2i, 1) := by decide +kernel
theorem dX9_number_2 : decode cX9_number 2 = .ok (.ireturn, 1) := by decide +kernel
theorem dX9_isRow_0 : decode cX9_isRow 0 = .ok (.lload_n 0, 1) := by decide +kernel
theorem dX9_isRow_1 : decode cX9_isRow 1 = .ok (.invokestatic 9, 3) := by decide +kernel
theorem dX9_isRow_4 : decode cX9_isRow 4 = .ok (.istore_n 2, 1) := by decide +kernel
theorem dX9_isRow_5 : decode cX9_isRow 5 = .ok (.iload_n 2, 1) := by decide +kernel
theorem dX9_isRow_6 : decode cX9_isRow 6 = .ok (.iconst 2, 1) := by decide +kernel
theorem dX9_isRow_7 : decode cX9_isRow 7 = .ok (.if_icmp .eq 13, 3) := by decide +kernel
theorem dX9_isRow_10 : decode cX9_isRow 10 = .ok (.iload_n 2, 1) := by decide +kernel
theorem dX9_isRow_11 : decode cX9_isRow 11 = .ok (.iconst 3, 1) := by decide +kernel
theorem dX9_isRow_12 : decode cX9_isRow 12 = .ok (.if_icmp .eq 8, 3) := by decide +kernel
theorem dX9_isRow_15 : decode cX9_isRow 15 = .ok (.iload_n 2, 1) := by decide +kernel
theorem dX9_isRow_16 : decode cX9_isRow 16 = .ok (.iconst 4, 1) := by decide +kernel
theorem dX9_isRow_17 : decode cX9_isRow 17 = .ok (.if_icmp .ne 7, 3) := by decide +kernel
theorem dX9_isRow_20 : decode cX9_isRow 20 = .ok (.iconst 1, 1) := by decide +kernel
theorem dX9_isRow_21 : decode cX9_isRow 21 = .ok (.goto 4, 3) := by decide +kernel
theorem dX9_isRow_24 : decode cX9_isRow 24 = .ok (.iconst 0, 1) := by decide +kernel
theorem dX9_isRow_25 : decode cX9_isRow 25 = .ok (.ireturn, 1) := by decide +kernel
theorem dX9_isRowForLinks_0 : decode cX9_isRowForLinks 0 = .ok (.lload_n 0, 1) := by decide +kernel
theorem dX9_isRowForLinks_1 : decode cX9_isRowForLinks 1 = .ok (.invokestatic 9, 3) := by decide +kernel
theorem dX9_isRowForLinks_4 : decode cX9_isRowForLinks 4 = .ok (.istore_n 2, 1) := by decide +kernel
theorem dX9_isRowForLinks_5 : decode cX9_isRowForLinks 5 = .ok (.iload_n 2, 1) := by decide +kernel
theorem dX9_isRowForLinks_6 : decode cX9_isRowForLinks 6 = .ok (.iconst 3, 1) := by decide +kernel
theorem dX9_isRowForLinks_7 : decode cX9_isRowForLinks 7 = .ok (.if_icmp .eq 8, 3) := by decide +kernel
theorem dX9_isRowForLinks_10 : decode cX9_isRowForLinks 10 = .ok (.iload_n 2, 1) := by decide +kernel
theorem dX9_isRowForLinks_11 : decode cX9_isRowForLinks 11 = .ok (.iconst 4, 1) := by decide +kernel
theorem dX9_isRowForLinks_12 : decode cX9_isRowForLinks 12 = .ok (.if_icmp .ne 7, 3) := by decide +kernel
theorem dX9_isRowForLinks_15 : decode cX9_isRowForLinks 15 = .ok (.iconst 1, 1) := by decide +kernel
theorem dX9_isRowForLinks_16 : decode cX9_isRowForLinks 16 = .ok (.goto 4, 3) := by decide +kernel
theorem dX9_isRowForLinks_19 : decode cX9_isRowForLinks 19 = .ok (.iconst 0, 1) := by decide +kernel
theorem dX9_isRowForLinks_20 : decode cX9_isRowForLinks 20 = .ok (.ireturn, 1) := by decide +kernel
theorem dX9_isLink_0 : decode cX9_isLink 0 = .ok (.lload_n 0, 1) := by decide +kernel
theorem dX9_isLink_1 : decode cX9_isLink 1 = .ok (.invokestatic 9, 3) := by decide +kernel
theorem dX9_isLink_4 : decode cX9_isLink 4 = .ok (.istore_n 2, 1) := by decide +kernel
theorem dX9_isLink_5 : decode cX9_isLink 5 = .ok (.iload_n 2, 1) := by decide +kernel
theorem dX9_isLink_6 : decode cX9_isLink 6 = .ok (.iconst 5, 1) := by decide +kernel
theorem dX9_isLink_7 : decode cX9_isLink 7 = .ok (.if_icmp .eq 9, 3) := by decide +kernel
theorem dX9_isLink_10 : decode cX9_isLink 10 = .ok (.iload_n 2, 1) := by decide +kernel
theorem dX9_isLink_11 : decode cX9_isLink 11 = .ok (.bipush 6, 2) := by decide +kernel
theorem dX9_isLink_13 : decode cX9_isLink 13 = .ok (.if_icmp .ne 7, 3) := by decide +kernel
theorem dX9_isLink_16 : decode cX9_isLink 16 = .ok (.iconst 1, 1) := by decide +kernel
theorem dX9_isLink_17 : decode cX9_isLink 17 = .ok (.goto 4, 3) := by decide +kernel
theorem dX9_isLink_20 : decode cX9_isLink 20 = .ok (.iconst 0, 1) := by decide +kernel
theorem dX9_isLink_21 : decode cX9_isLink 21 = .ok (.ireturn, 1) := by decide +kernel
theorem dX9_isLinkOrNothing_0 : decode cX9_isLinkOrNothing 0 = .ok (.lload_n 0, 1) := by decide +kernel
theorem dX9_isLinkOrNothing_1 : decode cX9_isLinkOrNothing 1 = .ok (.invokestatic 9, 3) := by decide +kernel
theorem dX9_isLinkOrNothing_4 : decode cX9_isLinkOrNothing 4 = .ok (.istore_n 2, 1) := by decide +kernel
theorem dX9_isLinkOrNothing_5 : decode cX9_isLinkOrNothing 5 = .ok (.iload_n 2, 1) := by decide +kernel
theorem dX9_isLinkOrNothing_6 : decode cX9_isLinkOrNothing 6 = .ok (.iconst 5, 1) := by decide +kernel
theorem dX9_isLinkOrNothing_7 : decode cX9_isLinkOrNothing 7 = .ok (.if_icmp .eq 14, 3) := by decide +kernel
theorem dX9_isLinkOrNothing_10 : decode cX9_isLinkOrNothing 10 = .ok (.iload_n 2, 1) := by decide +kernel
theorem dX9_isLinkOrNothing_11 : decode cX9_isLinkOrNothing 11 = .ok (.bipush 6, 2) := by decide +kernel
theorem dX9_isLinkOrNothing_13 : decode cX9_isLinkOrNothing 13 = .ok (.if_icmp .eq 8, 3) := by decide +kernel
theorem dX9_isLinkOrNothing_16 : decode cX9_isLinkOrNothing 16 = .ok (.iload_n 2, 1) := by decide +kernel
theorem dX9_isLinkOrNothing_17 : decode cX9_isLinkOrNothing 17 = .ok (.iconst 1, 1) := by decide +kernel
theorem dX9_isLinkOrNothing_18 : decode cX9_isLinkOrNothing 18 = .ok (.if_icmp .ne 7, 3) := by decide +kernel
theorem dX9_isLinkOrNothing_21 : decode cX9_isLinkOrNothing 21 = .ok (.iconst 1, 1) := by decide +kernel
theorem dX9_isLinkOrNothing_22 : decode cX9_isLinkOrNothing 22 = .ok (.goto 4, 3) := by decide +kernel
theorem dX9_isLinkOrNothing_25 : decode cX9_isLinkOrNothing 25 = .ok (.iconst 0, 1) := by decide +kernel
theorem dX9_isLinkOrNothing_26 : decode cX9_isLinkOrNothing 26 = .ok (.ireturn, 1) := by decide +kernel
theorem dX9_isStrange_0 : decode cX9_isStrange 0 = .ok (.lload_n 0, 1) := by decide +kernel
theorem dX9_isStrange_1 : decode cX9_isStrange 1 = .ok (.invokestatic 9, 3) := by decide +kernel
theorem dX9_isStrange_4 : decode cX9_isStrange 4 = .ok (.iconst 4, 1) := by decide +kernel
theorem dX9_isStrange_5 : decode cX9_isStrange 5 = .ok (.if_icmp .ne 15, 3) := by decide +kernel
theorem dX9_isStrange_8 : decode cX9_isStrange 8 = .ok (.lload_n 2, 1) := by decide +kernel
theorem dX9_isStrange_9 : decode cX9_isStrange 9 = .ok (.invokestatic 9, 3) := by decide +kernel
theorem dX9_isStrange_12 : decode cX9_isStrange 12 = .ok (.iconst 5, 1) := by decide +kernel
theorem dX9_isStrange_13 : decode cX9_isStrange 13 = .ok (.if_icmp .ne 7, 3) := by decide +kernel
theorem dX9_isStrange_16 : decode cX9_isStrange 16 = .ok (.iconst 1, 1) := by decide +kernel
theorem dX9_isStrange_17 : decode cX9_isStrange 17 = .ok (.goto 4, 3) := by decide +kernel
theorem dX9_isStrange_20 : decode cX9_isStrange 20 = .ok (.iconst 0, 1) := by decide +kernel
theorem dX9_isStrange_21 : decode cX9_isStrange 21 = .ok (.ireturn, 1) := by decide +kernel
theorem dX10_init_0 : decode cX10_init 0 = .ok (.aload_n 0, 1) := by decide +kernel
theorem dX10_init_1 : decode cX10_init 1 = .ok (.invokespecial 1, 3) := by decide +kernel
theorem dX10_init_4 : decode cX10_init 4 = .ok (.aload_n 0, 1) := by decide +kernel
theorem dX10_init_5 : decode cX10_init 5 = .ok (.new 7, 3) := by decide +kernel
theorem dX10_init_8 : decode cX10_init 8 = .ok (.dup, 1) := by decide +kernel
theorem dX10_init_9 : decode cX10_init 9 = .ok (.invokespecial 9, 3) := by decide +kernel
theorem dX10_init_12 : decode cX10_init 12 = .ok (.putfield 10, 3) := by decide +kernel
theorem dX10_init_15 : decode cX10_init 15 = .ok (.aload_n 0, 1) := by decide +kernel
theorem dX10_init_16 : decode cX10_init 16 = .ok (.new 16, 3) := by decide +kernel
theorem dX10_init_19 : decode cX10_init 19 = .ok (.dup, 1) := by decide +kernel
theorem dX10_init_20 : decode cX10_init 20 = .ok (.aload_n 0, 1) := by decide +kernel
theorem dX10_init_21 : decode cX10_init 21 = .ok (.getfield 10, 3) := by decide +kernel
theorem dX10_init_24 : decode cX10_init 24 = .ok (.invokespecial 18, 3) := by decide +kernel
theorem dX10_init_27 : decode cX10_init 27 = .ok (.putfield 21, 3) := by decide +kernel
theorem dX10_init_30 : decode cX10_init 30 = .ok (.aload_n 0, 1) := by decide +kernel
theorem dX10_init_31 : decode cX10_init 31 = .ok (.iconst 0, 1) := by decide +kernel
theorem dX10_init_32 : decode cX10_init 32 = .ok (.putfield 25, 3) := by decide +kernel
theorem dX10_init_35 : decode cX10_init 35 = .ok (.return_, 1) := by decide +kernel
theorem dX10_act_0 : decode cX10_act 0 = .ok (.aload_n 0, 1) := by decide +kernel
theorem dX10_act_1 : decode cX10_act 1 = .ok (.getfield 10, 3) := by decide +kernel
theorem dX10_act_4 : decode cX10_act 4 = .ok (.iload_n 1, 1) := by decide +kernel
theorem dX10_act_5 : decode cX10_act 5 = .ok (.iload_n 2, 1) := by decide +kernel
theorem dX10_act_6 : decode cX10_act 6 = .ok (.iload_n 3, 1) := by decide +kernel
theorem dX10_act_7 : decode cX10_act 7 = .ok (.iload 4, 2) := by decide +kernel
theorem dX10_act_9 : decode cX10_act 9 = .ok (.invokevirtual 29, 3) := by decide +kernel
theorem dX10_act_12 : decode cX10_act 12 = .ok (.istore 5, 2) := by decide +kernel
theorem dX10_act_14 : decode cX10_act 14 = .ok (.iload 5, 2) := by decide +kernel
theorem dX10_act_16 : decode cX10_act 16 = .ok (.ifCond .eq 8, 3) := by decide +kernel
theorem dX10_act_19 : decode cX10_act 19 = .ok (.iload 5, 2) := by decide +kernel
theorem dX10_act_21 : decode cX10_act 21 = .ok (.goto 15, 3) := by decide +kernel
theorem dX10_act_24 : decode cX10_act 24 = .ok (.aload_n 0, 1) := by decide +kernel
theorem dX10_act_25 : decode cX10_act 25 = .ok (.getfield 10, 3) := by decide +kernel
theorem dX10_act_28 : decode cX10_act 28 = .ok (.iload_n 1, 1) := by decide +kernel
theorem dX10_act_29 : decode cX10_act 29 = .ok (.iload_n 2, 1) := by decide +kernel
theorem dX10_act_30 : decode cX10_act 30 = .ok (.iload_n 3, 1) := by decide +kernel
theorem dX10_act_31 : decode cX10_act 31 = .ok (.iload 4, 2) := by decide +kernel
theorem dX10_act_33 : decode cX10_act 33 = .ok (.invokevirtual 33, 3) := by decide +kernel
theorem dX10_act_36 : decode cX10_act 36 = .ok (.ireturn, 1) := by decide +kernel
theorem dX10_told_0 : decode cX10_told 0 = .ok (.aload_n 0, 1) := by decide +kernel
theorem dX10_told_1 : decode cX10_told 1 = .ok (.getfield 10, 3) := by decide +kernel
theorem dX10_told_4 : decode cX10_told 4 = .ok (.iload_n 1, 1) := by decide +kernel
theorem dX10_told_5 : decode cX10_told 5 = .ok (.invokevirtual 36, 3) := by decide +kernel
theorem dX10_told_8 : decode cX10_told 8 = .ok (.ifCond .ne 6, 3) := by decide +kernel
theorem dX10_told_11 : decode cX10_told 11 = .ok (.bipush (-101), 2) := by decide +kernel
theorem dX10_told_13 : decode cX10_told 13 = .ok (.ireturn, 1) := by decide +kernel
theorem dX10_told_14 : decode cX10_told 14 = .ok (.iload_n 2, 1) := by decide +kernel
theorem dX10_told_15 : decode cX10_told 15 = .ok (.ifCond .lt 8, 3) := by decide +kernel
theorem dX10_told_18 : decode cX10_told 18 = .ok (.iload_n 2, 1) := by decide +kernel
theorem dX10_told_19 : decode cX10_told 19 = .ok (.iconst 3, 1) := by decide +kernel
theorem dX10_told_20 : decode cX10_told 20 = .ok (.if_icmp .le 8, 3) := by decide +kernel
theorem dX10_told_23 : decode cX10_told 23 = .ok (.bipush (-102), 2) := by decide +kernel
theorem dX10_told_25 : decode cX10_told 25 = .ok (.goto 12, 3) := by decide +kernel
theorem dX10_told_28 : decode cX10_told 28 = .ok (.aload_n 0, 1) := by decide +kernel
theorem dX10_told_29 : decode cX10_told 29 = .ok (.getfield 10, 3) := by decide +kernel
theorem dX10_told_32 : decode cX10_told 32 = .ok (.iload_n 1, 1) := by decide +kernel
theorem dX10_told_33 : decode cX10_told 33 = .ok (.iload_n 2, 1) := by decide +kernel
theorem dX10_told_34 : decode cX10_told 34 = .ok (.invokevirtual 40, 3) := by decide +kernel
theorem dX10_told_37 : decode cX10_told 37 = .ok (.ireturn, 1) := by decide +kernel
theorem dX10_run_0 : decode cX10_run 0 = .ok (.aload_n 0, 1) := by decide +kernel
theorem dX10_run_1 : decode cX10_run 1 = .ok (.getfield 10, 3) := by decide +kernel
theorem dX10_run_4 : decode cX10_run 4 = .ok (.iload_n 1, 1) := by decide +kernel
theorem dX10_run_5 : decode cX10_run 5 = .ok (.invokevirtual 36, 3) := by decide +kernel
theorem dX10_run_8 : decode cX10_run 8 = .ok (.ifCond .ne 6, 3) := by decide +kernel
theorem dX10_run_11 : decode cX10_run 11 = .ok (.bipush (-101), 2) := by decide +kernel
theorem dX10_run_13 : decode cX10_run 13 = .ok (.ireturn, 1) := by decide +kernel
theorem dX10_run_14 : decode cX10_run 14 = .ok (.iload_n 2, 1) := by decide +kernel
theorem dX10_run_15 : decode cX10_run 15 = .ok (.iconst 1, 1) := by decide +kernel
theorem dX10_run_16 : decode cX10_run 16 = .ok (.if_icmp .lt 10, 3) := by decide +kernel
theorem dX10_run_19 : decode cX10_run 19 = .ok (.iload_n 2, 1) := by decide +kernel
theorem dX10_run_20 : decode cX10_run 20 = .ok (.sipush 200, 3) := by decide +kernel
theorem dX10_run_23 : decode cX10_run 23 = .ok (.if_icmp .le 6, 3) := by decide +kernel
theorem dX10_run_26 : decode cX10_run 26 = .ok (.bipush (-102), 2) := by decide +kernel
theorem dX10_run_28 : decode cX10_run 28 = .ok (.ireturn, 1) := by decide +kernel
theorem dX10_run_29 : decode cX10_run 29 = .ok (.aload_n 0, 1) := by decide +kernel
theorem dX10_run_30 : decode cX10_run 30 = .ok (.getfield 25, 3) := by decide +kernel
theorem dX10_run_33 : decode cX10_run 33 = .ok (.sipush 400, 3) := by decide +kernel
theorem dX10_run_36 : decode cX10_run 36 = .ok (.if_icmp .lt 6, 3) := by decide +kernel
theorem dX10_run_39 : decode cX10_run 39 = .ok (.bipush (-104), 2) := by decide +kernel
theorem dX10_run_41 : decode cX10_run 41 = .ok (.ireturn, 1) := by decide +kernel
theorem dX10_run_42 : decode cX10_run 42 = .ok (.aload_n 0, 1) := by decide +kernel
theorem dX10_run_43 : decode cX10_run 43 = .ok (.dup, 1) := by decide +kernel
theorem dX10_run_44 : decode cX10_run 44 = .ok (.getfield 25, 3) := by decide +kernel
theorem dX10_run_47 : decode cX10_run 47 = .ok (.iconst 1, 1) := by decide +kernel
theorem dX10_run_48 : decode cX10_run 48 = .ok (.iadd, 1) := by decide +kernel
theorem dX10_run_49 : decode cX10_run 49 = .ok (.putfield 25, 3) := by decide +kernel
theorem dX10_run_52 : decode cX10_run 52 = .ok (.aload_n 0, 1) := by decide +kernel
theorem dX10_run_53 : decode cX10_run 53 = .ok (.getfield 21, 3) := by decide +kernel
theorem dX10_run_56 : decode cX10_run 56 = .ok (.iload_n 1, 1) := by decide +kernel
theorem dX10_run_57 : decode cX10_run 57 = .ok (.iload_n 2, 1) := by decide +kernel
theorem dX10_run_58 : decode cX10_run 58 = .ok (.invokevirtual 44, 3) := by decide +kernel
theorem dX10_run_61 : decode cX10_run 61 = .ok (.aload_n 0, 1) := by decide +kernel
theorem dX10_run_62 : decode cX10_run 62 = .ok (.getfield 21, 3) := by decide +kernel
theorem dX10_run_65 : decode cX10_run 65 = .ok (.getfield 48, 3) := by decide +kernel
theorem dX10_run_68 : decode cX10_run 68 = .ok (.astore_n 3, 1) := by decide +kernel
theorem dX10_run_69 : decode cX10_run 69 = .ok (.aload_n 3, 1) := by decide +kernel
theorem dX10_run_70 : decode cX10_run 70 = .ok (.getfield 52, 3) := by decide +kernel
theorem dX10_run_73 : decode cX10_run 73 = .ok (.ifCond .ne 13, 3) := by decide +kernel
theorem dX10_run_76 : decode cX10_run 76 = .ok (.aload_n 3, 1) := by decide +kernel
theorem dX10_run_77 : decode cX10_run 77 = .ok (.getfield 57, 3) := by decide +kernel
theorem dX10_run_80 : decode cX10_run 80 = .ok (.invokestatic 61, 3) := by decide +kernel
theorem dX10_run_83 : decode cX10_run 83 = .ok (.goto 10, 3) := by decide +kernel
theorem dX10_run_86 : decode cX10_run 86 = .ok (.bipush (-10), 2) := by decide +kernel
theorem dX10_run_88 : decode cX10_run 88 = .ok (.aload_n 3, 1) := by decide +kernel
theorem dX10_run_89 : decode cX10_run 89 = .ok (.getfield 52, 3) := by decide +kernel
theorem dX10_run_92 : decode cX10_run 92 = .ok (.isub, 1) := by decide +kernel
theorem dX10_run_93 : decode cX10_run 93 = .ok (.ireturn, 1) := by decide +kernel
theorem dX10_ended_0 : decode cX10_ended 0 = .ok (.aload_n 0, 1) := by decide +kernel
theorem dX10_ended_1 : decode cX10_ended 1 = .ok (.getfield 21, 3) := by decide +kernel
theorem dX10_ended_4 : decode cX10_ended 4 = .ok (.getfield 48, 3) := by decide +kernel
theorem dX10_ended_7 : decode cX10_ended 7 = .ok (.astore_n 2, 1) := by decide +kernel
theorem dX10_ended_8 : decode cX10_ended 8 = .ok (.iload_n 1, 1) := by decide +kernel
theorem dX10_ended_9 : decode cX10_ended 9 = .ok (.tableswitch 60 0 4 #[35, 40, 45, 50, 55], 35) := by decide +kernel
theorem dX10_ended_44 : decode cX10_ended 44 = .ok (.aload_n 2, 1) := by decide +kernel
theorem dX10_ended_45 : decode cX10_ended 45 = .ok (.getfield 52, 3) := by decide +kernel
theorem dX10_ended_48 : decode cX10_ended 48 = .ok (.ireturn, 1) := by decide +kernel
theorem dX10_ended_49 : decode cX10_ended 49 = .ok (.aload_n 2, 1) := by decide +kernel
theorem dX10_ended_50 : decode cX10_ended 50 = .ok (.getfield 67, 3) := by decide +kernel
theorem dX10_ended_53 : decode cX10_ended 53 = .ok (.ireturn, 1) := by decide +kernel
theorem dX10_ended_54 : decode cX10_ended 54 = .ok (.aload_n 2, 1) := by decide +kernel
theorem dX10_ended_55 : decode cX10_ended 55 = .ok (.getfield 70, 3) := by decide +kernel
theorem dX10_ended_58 : decode cX10_ended 58 = .ok (.ireturn, 1) := by decide +kernel
theorem dX10_ended_59 : decode cX10_ended 59 = .ok (.aload_n 2, 1) := by decide +kernel
theorem dX10_ended_60 : decode cX10_ended 60 = .ok (.getfield 73, 3) := by decide +kernel
theorem dX10_ended_63 : decode cX10_ended 63 = .ok (.ireturn, 1) := by decide +kernel
theorem dX10_ended_64 : decode cX10_ended 64 = .ok (.aload_n 2, 1) := by decide +kernel
theorem dX10_ended_65 : decode cX10_ended 65 = .ok (.getfield 76, 3) := by decide +kernel
theorem dX10_ended_68 : decode cX10_ended 68 = .ok (.ireturn, 1) := by decide +kernel
theorem dX10_ended_69 : decode cX10_ended 69 = .ok (.bipush (-102), 2) := by decide +kernel
theorem dX10_ended_71 : decode cX10_ended 71 = .ok (.ireturn, 1) := by decide +kernel
theorem dX10_gave_0 : decode cX10_gave 0 = .ok (.aload_n 0, 1) := by decide +kernel
theorem dX10_gave_1 : decode cX10_gave 1 = .ok (.getfield 21, 3) := by decide +kernel
theorem dX10_gave_4 : decode cX10_gave 4 = .ok (.getfield 79, 3) := by decide +kernel
theorem dX10_gave_7 : decode cX10_gave 7 = .ok (.aload_n 0, 1) := by decide +kernel
theorem dX10_gave_8 : decode cX10_gave 8 = .ok (.getfield 21, 3) := by decide +kernel
theorem dX10_gave_11 : decode cX10_gave 11 = .ok (.getfield 48, 3) := by decide +kernel
theorem dX10_gave_14 : decode cX10_gave 14 = .ok (.getfield 57, 3) := by decide +kernel
theorem dX10_gave_17 : decode cX10_gave 17 = .ok (.invokevirtual 83, 3) := by decide +kernel
theorem dX10_gave_20 : decode cX10_gave 20 = .ok (.ireturn, 1) := by decide +kernel
theorem dX10_place_0 : decode cX10_place 0 = .ok (.aload_n 0, 1) := by decide +kernel
theorem dX10_place_1 : decode cX10_place 1 = .ok (.getfield 21, 3) := by decide +kernel
theorem dX10_place_4 : decode cX10_place 4 = .ok (.getfield 48, 3) := by decide +kernel
theorem dX10_place_7 : decode cX10_place 7 = .ok (.getfield 57, 3) := by decide +kernel
theorem dX10_place_10 : decode cX10_place 10 = .ok (.lstore_n 2, 1) := by decide +kernel
theorem dX10_place_11 : decode cX10_place 11 = .ok (.lload_n 2, 1) := by decide +kernel
theorem dX10_place_12 : decode cX10_place 12 = .ok (.invokestatic 88, 3) := by decide +kernel
theorem dX10_place_15 : decode cX10_place 15 = .ok (.ifCond .ne 5, 3) := by decide +kernel
theorem dX10_place_18 : decode cX10_place 18 = .ok (.iconst 0, 1) := by decide +kernel
theorem dX10_place_19 : decode cX10_place 19 = .ok (.ireturn, 1) := by decide +kernel
theorem dX10_place_20 : decode cX10_place 20 = .ok (.iload_n 1, 1) := by decide +kernel
theorem dX10_place_21 : decode cX10_place 21 = .ok (.ifCond .lt 18, 3) := by decide +kernel
theorem dX10_place_24 : decode cX10_place 24 = .ok (.iload_n 1, 1) := by decide +kernel
theorem dX10_place_25 : decode cX10_place 25 = .ok (.aload_n 0, 1) := by decide +kernel
theorem dX10_place_26 : decode cX10_place 26 = .ok (.getfield 21, 3) := by decide +kernel
theorem dX10_place_29 : decode cX10_place 29 = .ok (.getfield 79, 3) := by decide +kernel
theorem dX10_place_32 : decode cX10_place 32 = .ok (.lload_n 2, 1) := by decide +kernel
theorem dX10_place_33 : decode cX10_place 33 = .ok (.invokevirtual 92, 3) := by decide +kernel
theorem dX10_place_36 : decode cX10_place 36 = .ok (.if_icmp .lt 13, 3) := by decide +kernel
theorem dX10_place_39 : decode cX10_place 39 = .ok (.new 95, 3) := by decide +kernel
theorem dX10_place_42 : decode cX10_place 42 = .ok (.dup, 1) := by decide +kernel
theorem dX10_place_43 : decode cX10_place 43 = .ok (.ldc 97, 2) := by decide +kernel
theorem dX10_place_45 : decode cX10_place 45 = .ok (.invokespecial 99, 3) := by decide +kernel
theorem dX10_place_48 : decode cX10_place 48 = .ok (.athrow, 1) := by decide +kernel
theorem dX10_place_49 : decode cX10_place 49 = .ok (.aload_n 0, 1) := by decide +kernel
theorem dX10_place_50 : decode cX10_place 50 = .ok (.getfield 21, 3) := by decide +kernel
theorem dX10_place_53 : decode cX10_place 53 = .ok (.getfield 79, 3) := by decide +kernel
theorem dX10_place_56 : decode cX10_place 56 = .ok (.lload_n 2, 1) := by decide +kernel
theorem dX10_place_57 : decode cX10_place 57 = .ok (.iload_n 1, 1) := by decide +kernel
theorem dX10_place_58 : decode cX10_place 58 = .ok (.invokestatic 102, 3) := by decide +kernel
theorem dX10_place_61 : decode cX10_place 61 = .ok (.invokevirtual 106, 3) := by decide +kernel
theorem dX10_place_64 : decode cX10_place 64 = .ok (.lstore 4, 2) := by decide +kernel
theorem dX10_place_66 : decode cX10_place 66 = .ok (.lload 4, 2) := by decide +kernel
theorem dX10_place_68 : decode cX10_place 68 = .ok (.invokestatic 61, 3) := by decide +kernel
theorem dX10_place_71 : decode cX10_place 71 = .ok (.lookupswitch 43 #[(0, 33), (5, 39), (6, 41)], 33) := by decide +kernel
theorem dX10_place_104 : decode cX10_place 104 = .ok (.lload 4, 2) := by decide +kernel
theorem dX10_place_106 : decode cX10_place 106 = .ok (.invokestatic 110, 3) := by decide +kernel
theorem dX10_place_109 : decode cX10_place 109 = .ok (.ireturn, 1) := by decide +kernel
theorem dX10_place_110 : decode cX10_place 110 = .ok (.iconst 1, 1) := by decide +kernel
theorem dX10_place_111 : decode cX10_place 111 = .ok (.ireturn, 1) := by decide +kernel
theorem dX10_place_112 : decode cX10_place 112 = .ok (.iconst 2, 1) := by decide +kernel
theorem dX10_place_113 : decode cX10_place 113 = .ok (.ireturn, 1) := by decide +kernel
theorem dX10_place_114 : decode cX10_place 114 = .ok (.iconst 0, 1) := by decide +kernel
theorem dX10_place_115 : decode cX10_place 115 = .ok (.ireturn, 1) := by decide +kernel
theorem dX10_box_0 : decode cX10_box 0 = .ok (.iload_n 1, 1) := by decide +kernel
theorem dX10_box_1 : decode cX10_box 1 = .ok (.invokestatic 113, 3) := by decide +kernel
theorem dX10_box_4 : decode cX10_box 4 = .ok (.ifCond .eq 20, 3) := by decide +kernel
theorem dX10_box_7 : decode cX10_box 7 = .ok (.aload_n 0, 1) := by decide +kernel
theorem dX10_box_8 : decode cX10_box 8 = .ok (.getfield 21, 3) := by decide +kernel
theorem dX10_box_11 : decode cX10_box 11 = .ok (.getfield 79, 3) := by decide +kernel
theorem dX10_box_14 : decode cX10_box 14 = .ok (.iload_n 1, 1) := by decide +kernel
theorem dX10_box_15 : decode cX10_box 15 = .ok (.invokevirtual 106, 3) := by decide +kernel
theorem dX10_box_18 : decode cX10_box 18 = .ok (.invokestatic 61, 3) := by decide +kernel
theorem dX10_box_21 : decode cX10_box 21 = .ok (.goto 5, 3) := by decide +kernel
theorem dX10_box_24 : decode cX10_box 24 = .ok (.bipush (-102), 2) := by decide +kernel
theorem dX10_box_26 : decode cX10_box 26 = .ok (.ireturn, 1) := by decide +kernel
theorem dX10_boxed_0 : decode cX10_boxed 0 = .ok (.iload_n 1, 1) := by decide +kernel
theorem dX10_boxed_1 : decode cX10_boxed 1 = .ok (.invokestatic 113, 3) := by decide +kernel
theorem dX10_boxed_4 : decode cX10_boxed 4 = .ok (.ifCond .eq 27, 3) := by decide +kernel
theorem dX10_boxed_7 : decode cX10_boxed 7 = .ok (.aload_n 0, 1) := by decide +kernel
theorem dX10_boxed_8 : decode cX10_boxed 8 = .ok (.getfield 21, 3) := by decide +kernel
theorem dX10_boxed_11 : decode cX10_boxed 11 = .ok (.getfield 79, 3) := by decide +kernel
theorem dX10_boxed_14 : decode cX10_boxed 14 = .ok (.aload_n 0, 1) := by decide +kernel
theorem dX10_boxed_15 : decode cX10_boxed 15 = .ok (.getfield 21, 3) := by decide +kernel
theorem dX10_boxed_18 : decode cX10_boxed 18 = .ok (.getfield 79, 3) := by decide +kernel
theorem dX10_boxed_21 : decode cX10_boxed 21 = .ok (.iload_n 1, 1) := by decide +kernel
theorem dX10_boxed_22 : decode cX10_boxed 22 = .ok (.invokevirtual 106, 3) := by decide +kernel
theorem dX10_boxed_25 : decode cX10_boxed 25 = .ok (.invokevirtual 83, 3) := by decide +kernel
theorem dX10_boxed_28 : decode cX10_boxed 28 = .ok (.goto 4, 3) := by decide +kernel
theorem dX10_boxed_31 : decode cX10_boxed 31 = .ok (.iconst 0, 1) := by decide +kernel
theorem dX10_boxed_32 : decode cX10_boxed 32 = .ok (.ireturn, 1) := by decide +kernel
theorem dX10_same_0 : decode cX10_same 0 = .ok (.iload_n 1, 1) := by decide +kernel
theorem dX10_same_1 : decode cX10_same 1 = .ok (.invokestatic 113, 3) := by decide +kernel
theorem dX10_same_4 : decode cX10_same 4 = .ok (.ifCond .eq 10, 3) := by decide +kernel
theorem dX10_same_7 : decode cX10_same 7 = .ok (.iload_n 2, 1) := by decide +kernel
theorem dX10_same_8 : decode cX10_same 8 = .ok (.invokestatic 113, 3) := by decide +kernel
theorem dX10_same_11 : decode cX10_same 11 = .ok (.ifCond .ne 6, 3) := by decide +kernel
theorem dX10_same_14 : decode cX10_same 14 = .ok (.bipush (-102), 2) := by decide +kernel
theorem dX10_same_16 : decode cX10_same 16 = .ok (.ireturn, 1) := by decide +kernel
theorem dX10_same_17 : decode cX10_same 17 = .ok (.aload_n 0, 1) := by decide +kernel
theorem dX10_same_18 : decode cX10_same 18 = .ok (.getfield 21, 3) := by decide +kernel
theorem dX10_same_21 : decode cX10_same 21 = .ok (.getfield 79, 3) := by decide +kernel
theorem dX10_same_24 : decode cX10_same 24 = .ok (.iload_n 1, 1) := by decide +kernel
theorem dX10_same_25 : decode cX10_same 25 = .ok (.invokevirtual 106, 3) := by decide +kernel
theorem dX10_same_28 : decode cX10_same 28 = .ok (.aload_n 0, 1) := by decide +kernel
theorem dX10_same_29 : decode cX10_same 29 = .ok (.getfield 21, 3) := by decide +kernel
theorem dX10_same_32 : decode cX10_same 32 = .ok (.getfield 79, 3) := by decide +kernel
theorem dX10_same_35 : decode cX10_same 35 = .ok (.iload_n 2, 1) := by decide +kernel
theorem dX10_same_36 : decode cX10_same 36 = .ok (.invokevirtual 106, 3) := by decide +kernel
theorem dX10_same_39 : decode cX10_same 39 = .ok (.lcmp, 1) := by decide +kernel
theorem dX10_same_40 : decode cX10_same 40 = .ok (.ifCond .ne 7, 3) := by decide +kernel
theorem dX10_same_43 : decode cX10_same 43 = .ok (.iconst 1, 1) := by decide +kernel
theorem dX10_same_44 : decode cX10_same 44 = .ok (.goto 4, 3) := by decide +kernel
theorem dX10_same_47 : decode cX10_same 47 = .ok (.iconst 0, 1) := by decide +kernel
theorem dX10_same_48 : decode cX10_same 48 = .ok (.ireturn, 1) := by decide +kernel
theorem dX10_out_0 : decode cX10_out 0 = .ok (.iload_n 1, 1) := by decide +kernel
theorem dX10_out_1 : decode cX10_out 1 = .ok (.ifCond .lt 14, 3) := by decide +kernel
theorem dX10_out_4 : decode cX10_out 4 = .ok (.iload_n 1, 1) := by decide +kernel
theorem dX10_out_5 : decode cX10_out 5 = .ok (.aload_n 0, 1) := by decide +kernel
theorem dX10_out_6 : decode cX10_out 6 = .ok (.getfield 21, 3) := by decide +kernel
theorem dX10_out_9 : decode cX10_out 9 = .ok (.getfield 116, 3) := by decide +kernel
theorem dX10_out_12 : decode cX10_out 12 = .ok (.if_icmp .lt 8, 3) := by decide +kernel
theorem dX10_out_15 : decode cX10_out 15 = .ok (.bipush (-102), 2) := by decide +kernel
theorem dX10_out_17 : decode cX10_out 17 = .ok (.goto 12, 3) := by decide +kernel
theorem dX10_out_20 : decode cX10_out 20 = .ok (.aload_n 0, 1) := by decide +kernel
theorem dX10_out_21 : decode cX10_out 21 = .ok (.getfield 21, 3) := by decide +kernel
theorem dX10_out_24 : decode cX10_out 24 = .ok (.getfield 119, 3) := by decide +kernel
theorem dX10_out_27 : decode cX10_out 27 = .ok (.iload_n 1, 1) := by decide +kernel
theorem dX10_out_28 : decode cX10_out 28 = .ok (.iaload, 1) := by decide +kernel
theorem dX10_out_29 : decode cX10_out 29 = .ok (.ireturn, 1) := by decide +kernel
theorem dX10_count_0 : decode cX10_count 0 = .ok (.iload_n 1, 1) := by decide +kernel
theorem dX10_count_1 : decode cX10_count 1 = .ok (.tableswitch 48 0 2 #[27, 35, 43], 27) := by decide +kernel
theorem dX10_count_28 : decode cX10_count 28 = .ok (.aload_n 0, 1) := by decide +kernel
theorem dX10_count_29 : decode cX10_count 29 = .ok (.getfield 10, 3) := by decide +kernel
theorem dX10_count_32 : decode cX10_count 32 = .ok (.getfield 123, 3) := by decide +kernel
theorem dX10_count_35 : decode cX10_count 35 = .ok (.ireturn, 1) := by decide +kernel
theorem dX10_count_36 : decode cX10_count 36 = .ok (.aload_n 0, 1) := by decide +kernel
theorem dX10_count_37 : decode cX10_count 37 = .ok (.getfield 21, 3) := by decide +kernel
theorem dX10_count_40 : decode cX10_count 40 = .ok (.getfield 116, 3) := by decide +kernel
theorem dX10_count_43 : decode cX10_count 43 = .ok (.ireturn, 1) := by decide +kernel
theorem dX10_count_44 : decode cX10_count 44 = .ok (.aload_n 0, 1) := by decide +kernel
theorem dX10_count_45 : decode cX10_count 45 = .ok (.getfield 25, 3) := by decide +kernel
theorem dX10_count_48 : decode cX10_count 48 = .ok (.ireturn, 1) := by decide +kernel
theorem dX10_count_49 : decode cX10_count 49 = .ok (.bipush (-102), 2) := by decide +kernel
theorem dX10_count_51 : decode cX10_count 51 = .ok (.ireturn, 1) := by decide +kernel
theorem dX10_clear_0 : decode cX10_clear 0 = .ok (.aload_n 0, 1) := by decide +kernel
theorem dX10_clear_1 : decode cX10_clear 1 = .ok (.getfield 10, 3) := by decide +kernel
theorem dX10_clear_4 : decode cX10_clear 4 = .ok (.getfield 123, 3) := by decide +kernel
theorem dX10_clear_7 : decode cX10_clear 7 = .ok (.istore_n 1, 1) := by decide +kernel
theorem dX10_clear_8 : decode cX10_clear 8 = .ok (.aload_n 0, 1) := by decide +kernel
theorem dX10_clear_9 : decode cX10_clear 9 = .ok (.getfield 10, 3) := by decide +kernel
theorem dX10_clear_12 : decode cX10_clear 12 = .ok (.iconst 0, 1) := by decide +kernel
theorem dX10_clear_13 : decode cX10_clear 13 = .ok (.putfield 123, 3) := by decide +kernel
theorem dX10_clear_16 : decode cX10_clear 16 = .ok (.aload_n 0, 1) := by decide +kernel
theorem dX10_clear_17 : decode cX10_clear 17 = .ok (.getfield 21, 3) := by decide +kernel
theorem dX10_clear_20 : decode cX10_clear 20 = .ok (.iconst 0, 1) := by decide +kernel
theorem dX10_clear_21 : decode cX10_clear 21 = .ok (.invokevirtual 126, 3) := by decide +kernel
theorem dX10_clear_24 : decode cX10_clear 24 = .ok (.iload_n 1, 1) := by decide +kernel
theorem dX10_clear_25 : decode cX10_clear 25 = .ok (.ireturn, 1) := by decide +kernel
theorem dX11_init_0 : decode cX11_init 0 = .ok (.aload_n 0, 1) := by decide +kernel
theorem dX11_init_1 : decode cX11_init 1 = .ok (.invokespecial 1, 3) := by decide +kernel
theorem dX11_init_4 : decode cX11_init 4 = .ok (.aload_n 0, 1) := by decide +kernel
theorem dX11_init_5 : decode cX11_init 5 = .ok (.bipush 60, 2) := by decide +kernel
theorem dX11_init_7 : decode cX11_init 7 = .ok (.newarray .int, 2) := by decide +kernel
theorem dX11_init_9 : decode cX11_init 9 = .ok (.putfield 7, 3) := by decide +kernel
theorem dX11_init_12 : decode cX11_init 12 = .ok (.aload_n 0, 1) := by decide +kernel
theorem dX11_init_13 : decode cX11_init 13 = .ok (.bipush 60, 2) := by decide +kernel
theorem dX11_init_15 : decode cX11_init 15 = .ok (.newarray .int, 2) := by decide +kernel
theorem dX11_init_17 : decode cX11_init 17 = .ok (.putfield 13, 3) := by decide +kernel
theorem dX11_init_20 : decode cX11_init 20 = .ok (.aload_n 0, 1) := by decide +kernel
theorem dX11_init_21 : decode cX11_init 21 = .ok (.bipush 60, 2) := by decide +kernel
theorem dX11_init_23 : decode cX11_init 23 = .ok (.newarray .int, 2) := by decide +kernel
theorem dX11_init_25 : decode cX11_init 25 = .ok (.putfield 16, 3) := by decide +kernel
theorem dX11_init_28 : decode cX11_init 28 = .ok (.aload_n 0, 1) := by decide +kernel
theorem dX11_init_29 : decode cX11_init 29 = .ok (.bipush 60, 2) := by decide +kernel
theorem dX11_init_31 : decode cX11_init 31 = .ok (.newarray .int, 2) := by decide +kernel
theorem dX11_init_33 : decode cX11_init 33 = .ok (.putfield 19, 3) := by decide +kernel
theorem dX11_init_36 : decode cX11_init 36 = .ok (.aload_n 0, 1) := by decide +kernel
theorem dX11_init_37 : decode cX11_init 37 = .ok (.sipush 220, 3) := by decide +kernel
theorem dX11_init_40 : decode cX11_init 40 = .ok (.newarray .int, 2) := by decide +kernel
theorem dX11_init_42 : decode cX11_init 42 = .ok (.putfield 22, 3) := by decide +kernel
theorem dX11_init_45 : decode cX11_init 45 = .ok (.aload_n 0, 1) := by decide +kernel
theorem dX11_init_46 : decode cX11_init 46 = .ok (.sipush 3520, 3) := by decide +kernel
theorem dX11_init_49 : decode cX11_init 49 = .ok (.newarray .int, 2) := by decide +kernel
theorem dX11_init_51 : decode cX11_init 51 = .ok (.putfield 25, 3) := by decide +kernel
theorem dX11_init_54 : decode cX11_init 54 = .ok (.aload_n 0, 1) := by decide +kernel
theorem dX11_init_55 : decode cX11_init 55 = .ok (.sipush 3520, 3) := by decide +kernel
theorem dX11_init_58 : decode cX11_init 58 = .ok (.newarray .int, 2) := by decide +kernel
theorem dX11_init_60 : decode cX11_init 60 = .ok (.putfield 28, 3) := by decide +kernel
theorem dX11_init_63 : decode cX11_init 63 = .ok (.aload_n 0, 1) := by decide +kernel
theorem dX11_init_64 : decode cX11_init 64 = .ok (.sipush 220, 3) := by decide +kernel
theorem dX11_init_67 : decode cX11_init 67 = .ok (.newarray .int, 2) := by decide +kernel
theorem dX11_init_69 : decode cX11_init 69 = .ok (.putfield 31, 3) := by decide +kernel
theorem dX11_init_72 : decode cX11_init 72 = .ok (.aload_n 0, 1) := by decide +kernel
theorem dX11_init_73 : decode cX11_init 73 = .ok (.sipush 220, 3) := by decide +kernel
theorem dX11_init_76 : decode cX11_init 76 = .ok (.newarray .int, 2) := by decide +kernel
theorem dX11_init_78 : decode cX11_init 78 = .ok (.putfield 34, 3) := by decide +kernel
theorem dX11_init_81 : decode cX11_init 81 = .ok (.aload_n 0, 1) := by decide +kernel
theorem dX11_init_82 : decode cX11_init 82 = .ok (.sipush 220, 3) := by decide +kernel
theorem dX11_init_85 : decode cX11_init 85 = .ok (.newarray .int, 2) := by decide +kernel
theorem dX11_init_87 : decode cX11_init 87 = .ok (.putfield 37, 3) := by decide +kernel
theorem dX11_init_90 : decode cX11_init 90 = .ok (.aload_n 0, 1) := by decide +kernel
theorem dX11_init_91 : decode cX11_init 91 = .ok (.sipush 220, 3) := by decide +kernel
theorem dX11_init_94 : decode cX11_init 94 = .ok (.newarray .int, 2) := by decide +kernel
theorem dX11_init_96 : decode cX11_init 96 = .ok (.putfield 40, 3) := by decide +kernel
theorem dX11_init_99 : decode cX11_init 99 = .ok (.aload_n 0, 1) := by decide +kernel
theorem dX11_init_100 : decode cX11_init 100 = .ok (.sipush 220, 3) := by decide +kernel
theorem dX11_init_103 : decode cX11_init 103 = .ok (.newarray .int, 2) := by decide +kernel
theorem dX11_init_105 : decode cX11_init 105 = .ok (.putfield 43, 3) := by decide +kernel
theorem dX11_init_108 : decode cX11_init 108 = .ok (.aload_n 0, 1) := by decide +kernel
theorem dX11_init_109 : decode cX11_init 109 = .ok (.sipush 1760, 3) := by decide +kernel
theorem dX11_init_112 : decode cX11_init 112 = .ok (.newarray .int, 2) := by decide +kernel
theorem dX11_init_114 : decode cX11_init 114 = .ok (.putfield 46, 3) := by decide +kernel
theorem dX11_init_117 : decode cX11_init 117 = .ok (.aload_n 0, 1) := by decide +kernel
theorem dX11_init_118 : decode cX11_init 118 = .ok (.sipush 1760, 3) := by decide +kernel
theorem dX11_init_121 : decode cX11_init 121 = .ok (.newarray .int, 2) := by decide +kernel
theorem dX11_init_123 : decode cX11_init 123 = .ok (.putfield 49, 3) := by decide +kernel
theorem dX11_init_126 : decode cX11_init 126 = .ok (.aload_n 0, 1) := by decide +kernel
theorem dX11_init_127 : decode cX11_init 127 = .ok (.bipush 8, 2) := by decide +kernel
theorem dX11_init_129 : decode cX11_init 129 = .ok (.newarray .int, 2) := by decide +kernel
theorem dX11_init_131 : decode cX11_init 131 = .ok (.putfield 52, 3) := by decide +kernel
theorem dX11_init_134 : decode cX11_init 134 = .ok (.aload_n 0, 1) := by decide +kernel
theorem dX11_init_135 : decode cX11_init 135 = .ok (.bipush 8, 2) := by decide +kernel
theorem dX11_init_137 : decode cX11_init 137 = .ok (.newarray .int, 2) := by decide +kernel
theorem dX11_init_139 : decode cX11_init 139 = .ok (.putfield 55, 3) := by decide +kernel
theorem dX11_init_142 : decode cX11_init 142 = .ok (.aload_n 0, 1) := by decide +kernel
theorem dX11_init_143 : decode cX11_init 143 = .ok (.sipush 3600, 3) := by decide +kernel
theorem dX11_init_146 : decode cX11_init 146 = .ok (.newarray .int, 2) := by decide +kernel
theorem dX11_init_148 : decode cX11_init 148 = .ok (.putfield 58, 3) := by decide +kernel
theorem dX11_init_151 : decode cX11_init 151 = .ok (.aload_n 0, 1) := by decide +kernel
theorem dX11_init_152 : decode cX11_init 152 = .ok (.sipush 3600, 3) := by decide +kernel
theorem dX11_init_155 : decode cX11_init 155 = .ok (.newarray .int, 2) := by decide +kernel
theorem dX11_init_157 : decode cX11_init 157 = .ok (.putfield 61, 3) := by decide +kernel
theorem dX11_init_160 : decode cX11_init 160 = .ok (.aload_n 0, 1) := by decide +kernel
theorem dX11_init_161 : decode cX11_init 161 = .ok (.sipush 3600, 3) := by decide +kernel
theorem dX11_init_164 : decode cX11_init 164 = .ok (.newarray .int, 2) := by decide +kernel
theorem dX11_init_166 : decode cX11_init 166 = .ok (.putfield 64, 3) := by decide +kernel
theorem dX11_init_169 : decode cX11_init 169 = .ok (.aload_n 0, 1) := by decide +kernel
theorem dX11_init_170 : decode cX11_init 170 = .ok (.bipush 40, 2) := by decide +kernel
theorem dX11_init_172 : decode cX11_init 172 = .ok (.newarray .int, 2) := by decide +kernel
theorem dX11_init_174 : decode cX11_init 174 = .ok (.putfield 67, 3) := by decide +kernel
theorem dX11_init_177 : decode cX11_init 177 = .ok (.aload_n 0, 1) := by decide +kernel
theorem dX11_init_178 : decode cX11_init 178 = .ok (.sipush 220, 3) := by decide +kernel
theorem dX11_init_181 : decode cX11_init 181 = .ok (.newarray .int, 2) := by decide +kernel
theorem dX11_init_183 : decode cX11_init 183 = .ok (.putfield 70, 3) := by decide +kernel
theorem dX11_init_186 : decode cX11_init 186 = .ok (.aload_n 0, 1) := by decide +kernel
theorem dX11_init_187 : decode cX11_init 187 = .ok (.sipush 220, 3) := by decide +kernel
theorem dX11_init_190 : decode cX11_init 190 = .ok (.newarray .int, 2) := by decide +kernel
theorem dX11_init_192 : decode cX11_init 192 = .ok (.putfield 73, 3) := by decide +kernel
theorem dX11_init_195 : decode cX11_init 195 = .ok (.aload_n 0, 1) := by decide +kernel
theorem dX11_init_196 : decode cX11_init 196 = .ok (.sipush 220, 3) := by decide +kernel
theorem dX11_init_199 : decode cX11_init 199 = .ok (.newarray .int, 2) := by decide +kernel
theorem dX11_init_201 : decode cX11_init 201 = .ok (.putfield 76, 3) := by decide +kernel
theorem dX11_init_204 : decode cX11_init 204 = .ok (.aload_n 0, 1) := by decide +kernel
theorem dX11_init_205 : decode cX11_init 205 = .ok (.sipush 220, 3) := by decide +kernel
theorem dX11_init_208 : decode cX11_init 208 = .ok (.newarray .int, 2) := by decide +kernel
theorem dX11_init_210 : decode cX11_init 210 = .ok (.putfield 79, 3) := by decide +kernel
theorem dX11_init_213 : decode cX11_init 213 = .ok (.aload_n 0, 1) := by decide +kernel
theorem dX11_init_214 : decode cX11_init 214 = .ok (.sipush 220, 3) := by decide +kernel
theorem dX11_init_217 : decode cX11_init 217 = .ok (.newarray .int, 2) := by decide +kernel
theorem dX11_init_219 : decode cX11_init 219 = .ok (.putfield 82, 3) := by decide +kernel
theorem dX11_init_222 : decode cX11_init 222 = .ok (.aload_n 0, 1) := by decide +kernel
theorem dX11_init_223 : decode cX11_init 223 = .ok (.sipush 220, 3) := by decide +kernel
theorem dX11_init_226 : decode cX11_init 226 = .ok (.newarray .int, 2) := by decide +kernel
theorem dX11_init_228 : decode cX11_init 228 = .ok (.putfield 85, 3) := by decide +kernel
theorem dX11_init_231 : decode cX11_init 231 = .ok (.aload_n 0, 1) := by decide +kernel
theorem dX11_init_232 : decode cX11_init 232 = .ok (.sipush 220, 3) := by decide +kernel
theorem dX11_init_235 : decode cX11_init 235 = .ok (.newarray .int, 2) := by decide +kernel
theorem dX11_init_237 : decode cX11_init 237 = .ok (.putfield 88, 3) := by decide +kernel
theorem dX11_init_240 : decode cX11_init 240 = .ok (.aload_n 0, 1) := by decide +kernel
theorem dX11_init_241 : decode cX11_init 241 = .ok (.sipush 220, 3) := by decide +kernel
theorem dX11_init_244 : decode cX11_init 244 = .ok (.newarray .int, 2) := by decide +kernel
theorem dX11_init_246 : decode cX11_init 246 = .ok (.putfield 91, 3) := by decide +kernel
theorem dX11_init_249 : decode cX11_init 249 = .ok (.aload_n 0, 1) := by decide +kernel
theorem dX11_init_250 : decode cX11_init 250 = .ok (.sipush 220, 3) := by decide +kernel
theorem dX11_init_253 : decode cX11_init 253 = .ok (.newarray .int, 2) := by decide +kernel
theorem dX11_init_255 : decode cX11_init 255 = .ok (.putfield 94, 3) := by decide +kernel
theorem dX11_init_258 : decode cX11_init 258 = .ok (.aload_n 0, 1) := by decide +kernel
theorem dX11_init_259 : decode cX11_init 259 = .ok (.iconst (-1), 1) := by decide +kernel
theorem dX11_init_260 : decode cX11_init 260 = .ok (.putfield 97, 3) := by decide +kernel
theorem dX11_init_263 : decode cX11_init 263 = .ok (.iconst 0, 1) := by decide +kernel
theorem dX11_init_264 : decode cX11_init 264 = .ok (.istore_n 1, 1) := by decide +kernel
theorem dX11_init_265 : decode cX11_init 265 = .ok (.iload_n 1, 1) := by decide +kernel
theorem dX11_init_266 : decode cX11_init 266 = .ok (.bipush 8, 2) := by decide +kernel
theorem dX11_init_268 : decode cX11_init 268 = .ok (.if_icmp .ge 16, 3) := by decide +kernel
theorem dX11_init_271 : decode cX11_init 271 = .ok (.aload_n 0, 1) := by decide +kernel
theorem dX11_init_272 : decode cX11_init 272 = .ok (.getfield 52, 3) := by decide +kernel
theorem dX11_init_275 : decode cX11_init 275 = .ok (.iload_n 1, 1) := by decide +kernel
theorem dX11_init_276 : decode cX11_init 276 = .ok (.iconst 1, 1) := by decide +kernel
theorem dX11_init_277 : decode cX11_init 277 = .ok (.iastore, 1) := by decide +kernel
theorem dX11_init_278 : decode cX11_init 278 = .ok (.iinc 1 1, 3) := by decide +kernel
theorem dX11_init_281 : decode cX11_init 281 = .ok (.goto (-16), 3) := by decide +kernel
theorem dX11_init_284 : decode cX11_init 284 = .ok (.aload_n 0, 1) := by decide +kernel
theorem dX11_init_285 : decode cX11_init 285 = .ok (.iconst 1, 1) := by decide +kernel
theorem dX11_init_286 : decode cX11_init 286 = .ok (.putfield 101, 3) := by decide +kernel
theorem dX11_init_289 : decode cX11_init 289 = .ok (.return_, 1) := by decide +kernel
theorem dX11_in_0 : decode cX11_in 0 = .ok (.iload_n 0, 1) := by decide +kernel
theorem dX11_in_1 : decode cX11_in 1 = .ok (.iload_n 1, 1) := by decide +kernel
theorem dX11_in_2 : decode cX11_in 2 = .ok (.if_icmp .lt 12, 3) := by decide +kernel
theorem dX11_in_5 : decode cX11_in 5 = .ok (.iload_n 0, 1) := by decide +kernel
theorem dX11_in_6 : decode cX11_in 6 = .ok (.iload_n 2, 1) := by decide +kernel
theorem dX11_in_7 : decode cX11_in 7 = .ok (.if_icmp .gt 7, 3) := by decide +kernel
theorem dX11_in_10 : decode cX11_in 10 = .ok (.iconst 1, 1) := by decide +kernel
theorem dX11_in_11 : decode cX11_in 11 = .ok (.goto 4, 3) := by decide +kernel
theorem dX11_in_14 : decode cX11_in 14 = .ok (.iconst 0, 1) := by decide +kernel
theorem dX11_in_15 : decode cX11_in 15 = .ok (.ireturn, 1) := by decide +kernel
theorem dX11_noAct_0 : decode cX11_noAct 0 = .ok (.iload_n 1, 1) := by decide +kernel
theorem dX11_noAct_1 : decode cX11_noAct 1 = .ok (.iconst 0, 1) := by decide +kernel
theorem dX11_noAct_2 : decode cX11_noAct 2 = .ok (.aload_n 0, 1) := by decide +kernel
theorem dX11_noAct_3 : decode cX11_noAct 3 = .ok (.getfield 104, 3) := by decide +kernel
theorem dX11_noAct_6 : decode cX11_noAct 6 = .ok (.iconst 1, 1) := by decide +kernel
theorem dX11_noAct_7 : decode cX11_noAct 7 = .ok (.isub, 1) := by decide +kernel
theorem dX11_noAct_8 : decode cX11_noAct 8 = .ok (.invokestatic 107, 3) := by decide +kernel
theorem dX11_noAct_11 : decode cX11_noAct 11 = .ok (.ifCond .ne 7, 3) := by decide +kernel
theorem dX11_noAct_14 : decode cX11_noAct 14 = .ok (.iconst 1, 1) := by decide +kernel
theorem dX11_noAct_15 : decode cX11_noAct 15 = .ok (.goto 4, 3) := by decide +kernel
theorem dX11_noAct_18 : decode cX11_noAct 18 = .ok (.iconst 0, 1) := by decide +kernel
theorem dX11_noAct_19 : decode cX11_noAct 19 = .ok (.ireturn, 1) := by decide +kernel
theorem dX11_actsOf_0 : decode cX11_actsOf 0 = .ok (.iload_n 0, 1) := by decide +kernel
theorem dX11_actsOf_1 : decode cX11_actsOf 1 = .ok (.tableswitch 142 3 31 #[135, 131, 135, 135, 135, 135, 135, 133, 133, 133, 133, 133, 135, 137, 133, 135, 137, 133, 131, 135, 137, 135, 140, 133, 133, 133, 133, 142, 140], 131) := by decide +kernel
theorem dX11_actsOf_132 : decode cX11_actsOf 132 = .ok (.iconst 5, 1) := by decide +kernel
theorem dX11_actsOf_133 : decode cX11_actsOf 133 = .ok (.ireturn, 1) := by decide +kernel
theorem dX11_actsOf_134 : decode cX11_actsOf 134 = .ok (.iconst 1, 1) := by decide +kernel
theorem dX11_actsOf_135 : decode cX11_actsOf 135 = .ok (.ireturn, 1) := by decide +kernel
theorem dX11_actsOf_136 : decode cX11_actsOf 136 = .ok (.iconst 3, 1) := by decide +kernel
theorem dX11_actsOf_137 : decode cX11_actsOf 137 = .ok (.ireturn, 1) := by decide +kernel
theorem dX11_actsOf_138 : decode cX11_actsOf 138 = .ok (.bipush 7, 2) := by decide +kernel
theorem dX11_actsOf_140 : decode cX11_actsOf 140 = .ok (.ireturn, 1) := by decide +kernel
theorem dX11_actsOf_141 : decode cX11_actsOf 141 = .ok (.iconst 2, 1) := by decide +kernel
theorem dX11_actsOf_142 : decode cX11_actsOf 142 = .ok (.ireturn, 1) := by decide +kernel
theorem dX11_actsOf_143 : decode cX11_actsOf 143 = .ok (.iconst 0, 1) := by decide +kernel
theorem dX11_actsOf_144 : decode cX11_actsOf 144 = .ok (.ireturn, 1) := by decide +kernel
theorem dX11_act_0 : decode cX11_act 0 = .ok (.aload_n 0, 1) := by decide +kernel
theorem dX11_act_1 : decode cX11_act 1 = .ok (.iconst 0, 1) := by decide +kernel
theorem dX11_act_2 : decode cX11_act 2 = .ok (.putfield 111, 3) := by decide +kernel
theorem dX11_act_5 : decode cX11_act 5 = .ok (.iload_n 1, 1) := by decide +kernel
theorem dX11_act_6 : decode cX11_act 6 = .ok (.iconst 0, 1) := by decide +kernel
theorem dX11_act_7 : decode cX11_act 7 = .ok (.bipush 31, 2) := by decide +kernel
theorem dX11_act_9 : decode cX11_act 9 = .ok (.invokestatic 107, 3) := by decide +kernel
theorem dX11_act_12 : decode cX11_act 12 = .ok (.ifCond .ne 6, 3) := by decide +kernel
theorem dX11_act_15 : decode cX11_act 15 = .ok (.bipush (-102), 2) := by decide +kernel
theorem dX11_act_17 : decode cX11_act 17 = .ok (.ireturn, 1) := by decide +kernel
theorem dX11_act_18 : decode cX11_act 18 = .ok (.iload_n 1, 1) := by decide +kernel
theorem dX11_act_19 : decode cX11_act 19 = .ok (.invokestatic 114, 3) := by decide +kernel
theorem dX11_act_22 : decode cX11_act 22 = .ok (.istore 5, 2) := by decide +kernel
theorem dX11_act_24 : decode cX11_act 24 = .ok (.iload 5, 2) := by decide +kernel
theorem dX11_act_26 : decode cX11_act 26 = .ok (.iconst 2, 1) := by decide +kernel
theorem dX11_act_27 : decode cX11_act 27 = .ok (.irem, 1) := by decide +kernel
theorem dX11_act_28 : decode cX11_act 28 = .ok (.iconst 1, 1) := by decide +kernel
theorem dX11_act_29 : decode cX11_act 29 = .ok (.if_icmp .ne 11, 3) := by decide +kernel
theorem dX11_act_32 : decode cX11_act 32 = .ok (.aload_n 0, 1) := by decide +kernel
theorem dX11_act_33 : decode cX11_act 33 = .ok (.iload_n 2, 1) := by decide +kernel
theorem dX11_act_34 : decode cX11_act 34 = .ok (.invokevirtual 118, 3) := by decide +kernel
theorem dX11_act_37 : decode cX11_act 37 = .ok (.ifCond .ne 38, 3) := by decide +kernel
theorem dX11_act_40 : decode cX11_act 40 = .ok (.iload 5, 2) := by decide +kernel
theorem dX11_act_42 : decode cX11_act 42 = .ok (.iconst 2, 1) := by decide +kernel
theorem dX11_act_43 : decode cX11_act 43 = .ok (.idiv, 1) := by decide +kernel
theorem dX11_act_44 : decode cX11_act 44 = .ok (.iconst 2, 1) := by decide +kernel
theorem dX11_act_45 : decode cX11_act 45 = .ok (.irem, 1) := by decide +kernel
theorem dX11_act_46 : decode cX11_act 46 = .ok (.iconst 1, 1) := by decide +kernel
theorem dX11_act_47 : decode cX11_act 47 = .ok (.if_icmp .ne 11, 3) := by decide +kernel
theorem dX11_act_50 : decode cX11_act 50 = .ok (.aload_n 0, 1) := by decide +kernel
theorem dX11_act_51 : decode cX11_act 51 = .ok (.iload_n 3, 1) := by decide +kernel
theorem dX11_act_52 : decode cX11_act 52 = .ok (.invokevirtual 118, 3) := by decide +kernel
theorem dX11_act_55 : decode cX11_act 55 = .ok (.ifCond .ne 20, 3) := by decide +kernel
theorem dX11_act_58 : decode cX11_act 58 = .ok (.iload 5, 2) := by decide +kernel
theorem dX11_act_60 : decode cX11_act 60 = .ok (.iconst 4, 1) := by decide +kernel
theorem dX11_act_61 : decode cX11_act 61 = .ok (.idiv, 1) := by decide +kernel
theorem dX11_act_62 : decode cX11_act 62 = .ok (.iconst 1, 1) := by decide +kernel
theorem dX11_act_63 : decode cX11_act 63 = .ok (.if_icmp .ne 15, 3) := by decide +kernel
theorem dX11_act_66 : decode cX11_act 66 = .ok (.aload_n 0, 1) := by decide +kernel
theorem dX11_act_67 : decode cX11_act 67 = .ok (.iload 4, 2) := by decide +kernel
theorem dX11_act_69 : decode cX11_act 69 = .ok (.invokevirtual 118, 3) := by decide +kernel
theorem dX11_act_72 : decode cX11_act 72 = .ok (.ifCond .eq 6, 3) := by decide +kernel
theorem dX11_act_75 : decode cX11_act 75 = .ok (.bipush (-101), 2) := by decide +kernel
theorem dX11_act_77 : decode cX11_act 77 = .ok (.ireturn, 1) := by decide +kernel
theorem dX11_act_78 : decode cX11_act 78 = .ok (.iload_n 1, 1) := by decide +kernel
theorem dX11_act_79 : decode cX11_act 79 = .ok (.iconst 1, 1) := by decide +kernel
theorem dX11_act_80 : decode cX11_act 80 = .ok (.if_icmp .ne 13, 3) := by decide +kernel
theorem dX11_act_83 : decode cX11_act 83 = .ok (.iload_n 2, 1) := by decide +kernel
theorem dX11_act_84 : decode cX11_act 84 = .ok (.iconst 0, 1) := by decide +kernel
theorem dX11_act_85 : decode cX11_act 85 = .ok (.bipush 7, 2) := by decide +kernel
theorem dX11_act_87 : decode cX11_act 87 = .ok (.invokestatic 107, 3) := by decide +kernel
theorem dX11_act_90 : decode cX11_act 90 = .ok (.ifCond .eq 76, 3) := by decide +kernel
theorem dX11_act_93 : decode cX11_act 93 = .ok (.iload_n 1, 1) := by decide +kernel
theorem dX11_act_94 : decode cX11_act 94 = .ok (.iconst 4, 1) := by decide +kernel
theorem dX11_act_95 : decode cX11_act 95 = .ok (.if_icmp .ne 13, 3) := by decide +kernel
theorem dX11_act_98 : decode cX11_act 98 = .ok (.iload_n 3, 1) := by decide +kernel
theorem dX11_act_99 : decode cX11_act 99 = .ok (.iconst 0, 1) := by decide +kernel
theorem dX11_act_100 : decode cX11_act 100 = .ok (.bipush 7, 2) := by decide +kernel
theorem dX11_act_102 : decode cX11_act 102 = .ok (.invokestatic 107, 3) := by decide +kernel
theorem dX11_act_105 : decode cX11_act 105 = .ok (.ifCond .eq 61, 3) := by decide +kernel
theorem dX11_act_108 : decode cX11_act 108 = .ok (.iload_n 1, 1) := by decide +kernel
theorem dX11_act_109 : decode cX11_act 109 = .ok (.bipush 30, 2) := by decide +kernel
theorem dX11_act_111 : decode cX11_act 111 = .ok (.if_icmp .eq 9, 3) := by decide +kernel
theorem dX11_act_114 : decode cX11_act 114 = .ok (.iload_n 1, 1) := by decide +kernel
theorem dX11_act_115 : decode cX11_act 115 = .ok (.bipush 31, 2) := by decide +kernel
theorem dX11_act_117 : decode cX11_act 117 = .ok (.if_icmp .ne 13, 3) := by decide +kernel
theorem dX11_act_120 : decode cX11_act 120 = .ok (.iload_n 2, 1) := by decide +kernel
theorem dX11_act_121 : decode cX11_act 121 = .ok (.iconst 0, 1) := by decide +kernel
theorem dX11_act_122 : decode cX11_act 122 = .ok (.bipush 7, 2) := by decide +kernel
theorem dX11_act_124 : decode cX11_act 124 = .ok (.invokestatic 107, 3) := by decide +kernel
theorem dX11_act_127 : decode cX11_act 127 = .ok (.ifCond .eq 39, 3) := by decide +kernel
theorem dX11_act_130 : decode cX11_act 130 = .ok (.iload_n 1, 1) := by decide +kernel
theorem dX11_act_131 : decode cX11_act 131 = .ok (.bipush 21, 2) := by decide +kernel
theorem dX11_act_133 : decode cX11_act 133 = .ok (.if_icmp .ne 13, 3) := by decide +kernel
theorem dX11_act_136 : decode cX11_act 136 = .ok (.iload_n 3, 1) := by decide +kernel
theorem dX11_act_137 : decode cX11_act 137 = .ok (.iconst 0, 1) := by decide +kernel
theorem dX11_act_138 : decode cX11_act 138 = .ok (.bipush 8, 2) := by decide +kernel
theorem dX11_act_140 : decode cX11_act 140 = .ok (.invokestatic 107, 3) := by decide +kernel
theorem dX11_act_143 : decode cX11_act 143 = .ok (.ifCond .eq 23, 3) := by decide +kernel
theorem dX11_act_146 : decode cX11_act 146 = .ok (.iload_n 1, 1) := by decide +kernel
theorem dX11_act_147 : decode cX11_act 147 = .ok (.bipush 25, 2) := by decide +kernel
theorem dX11_act_149 : decode cX11_act 149 = .ok (.if_icmp .ne 13, 3) := by decide +kernel
theorem dX11_act_152 : decode cX11_act 152 = .ok (.iload_n 2, 1) := by decide +kernel
theorem dX11_act_153 : decode cX11_act 153 = .ok (.iconst 0, 1) := by decide +kernel
theorem dX11_act_154 : decode cX11_act 154 = .ok (.bipush 59, 2) := by decide +kernel
theorem dX11_act_156 : decode cX11_act 156 = .ok (.invokestatic 107, 3) := by decide +kernel
theorem dX11_act_159 : decode cX11_act 159 = .ok (.ifCond .eq 7, 3) := by decide +kernel
theorem dX11_act_162 : decode cX11_act 162 = .ok (.iconst 1, 1) := by decide +kernel
theorem dX11_act_163 : decode cX11_act 163 = .ok (.goto 4, 3) := by decide +kernel
theorem dX11_act_166 : decode cX11_act 166 = .ok (.iconst 0, 1) := by decide +kernel
theorem dX11_act_167 : decode cX11_act 167 = .ok (.istore 6, 2) := by decide +kernel
theorem dX11_act_169 : decode cX11_act 169 = .ok (.iload 6, 2) := by decide +kernel
theorem dX11_act_171 : decode cX11_act 171 = .ok (.ifCond .ne 6, 3) := by decide +kernel
theorem dX11_act_174 : decode cX11_act 174 = .ok (.bipush (-102), 2) := by decide +kernel
theorem dX11_act_176 : decode cX11_act 176 = .ok (.ireturn, 1) := by decide +kernel
theorem dX11_act_177 : decode cX11_act 177 = .ok (.aload_n 0, 1) := by decide +kernel
theorem dX11_act_178 : decode cX11_act 178 = .ok (.getfield 104, 3) := by decide +kernel
theorem dX11_act_181 : decode cX11_act 181 = .ok (.bipush 60, 2) := by decide +kernel
theorem dX11_act_183 : decode cX11_act 183 = .ok (.if_icmp .ne 6, 3) := by decide +kernel
theorem dX11_act_186 : decode cX11_act 186 = .ok (.bipush (-104), 2) := by decide +kernel
theorem dX11_act_188 : decode cX11_act 188 = .ok (.ireturn, 1) := by decide +kernel
theorem dX11_act_189 : decode cX11_act 189 = .ok (.aload_n 0, 1) := by decide +kernel
theorem dX11_act_190 : decode cX11_act 190 = .ok (.getfield 7, 3) := by decide +kernel
theorem dX11_act_193 : decode cX11_act 193 = .ok (.aload_n 0, 1) := by decide +kernel
theorem dX11_act_194 : decode cX11_act 194 = .ok (.getfield 104, 3) := by decide +kernel
theorem dX11_act_197 : decode cX11_act 197 = .ok (.iload_n 1, 1) := by decide +kernel
theorem dX11_act_198 : decode cX11_act 198 = .ok (.iastore, 1) := by decide +kernel
theorem dX11_act_199 : decode cX11_act 199 = .ok (.aload_n 0, 1) := by decide +kernel
theorem dX11_act_200 : decode cX11_act 200 = .ok (.getfield 13, 3) := by decide +kernel
theorem dX11_act_203 : decode cX11_act 203 = .ok (.aload_n 0, 1) := by decide +kernel
theorem dX11_act_204 : decode cX11_act 204 = .ok (.getfield 104, 3) := by decide +kernel
theorem dX11_act_207 : decode cX11_act 207 = .ok (.iload_n 2, 1) := by decide +kernel
theorem dX11_act_208 : decode cX11_act 208 = .ok (.iastore, 1) := by decide +kernel
theorem dX11_act_209 : decode cX11_act 209 = .ok (.aload_n 0, 1) := by decide +kernel
theorem dX11_act_210 : decode cX11_act 210 = .ok (.getfield 16, 3) := by decide +kernel
theorem dX11_act_213 : decode cX11_act 213 = .ok (.aload_n 0, 1) := by decide +kernel
theorem dX11_act_214 : decode cX11_act 214 = .ok (.getfield 104, 3) := by decide +kernel
theorem dX11_act_217 : decode cX11_act 217 = .ok (.iload_n 3, 1) := by decide +kernel
theorem dX11_act_218 : decode cX11_act 218 = .ok (.iastore, 1) := by decide +kernel
theorem dX11_act_219 : decode cX11_act 219 = .ok (.aload_n 0, 1) := by decide +kernel
theorem dX11_act_220 : decode cX11_act 220 = .ok (.getfield 19, 3) := by decide +kernel
theorem dX11_act_223 : decode cX11_act 223 = .ok (.aload_n 0, 1) := by decide +kernel
theorem dX11_act_224 : decode cX11_act 224 = .ok (.getfield 104, 3) := by decide +kernel
theorem dX11_act_227 : decode cX11_act 227 = .ok (.iload 4, 2) := by decide +kernel
theorem dX11_act_229 : decode cX11_act 229 = .ok (.iastore, 1) := by decide +kernel
theorem dX11_act_230 : decode cX11_act 230 = .ok (.aload_n 0, 1) := by decide +kernel
theorem dX11_act_231 : decode cX11_act 231 = .ok (.dup, 1) := by decide +kernel
theorem dX11_act_232 : decode cX11_act 232 = .ok (.getfield 104, 3) := by decide +kernel
theorem dX11_act_235 : decode cX11_act 235 = .ok (.iconst 1, 1) := by decide +kernel
theorem dX11_act_236 : decode cX11_act 236 = .ok (.iadd, 1) := by decide +kernel
theorem dX11_act_237 : decode cX11_act 237 = .ok (.putfield 104, 3) := by decide +kernel
theorem dX11_act_240 : decode cX11_act 240 = .ok (.aload_n 0, 1) := by decide +kernel
theorem dX11_act_241 : decode cX11_act 241 = .ok (.getfield 104, 3) := by decide +kernel
theorem dX11_act_244 : decode cX11_act 244 = .ok (.iconst 1, 1) := by decide +kernel
theorem dX11_act_245 : decode cX11_act 245 = .ok (.isub, 1) := by decide +kernel
theorem dX11_act_246 : decode cX11_act 246 = .ok (.ireturn, 1) := by decide +kernel
theorem dX11_told_0 : decode cX11_told 0 = .ok (.aload_n 0, 1) := by decide +kernel
theorem dX11_told_1 : decode cX11_told 1 = .ok (.iconst 0, 1) := by decide +kernel
theorem dX11_told_2 : decode cX11_told 2 = .ok (.putfield 111, 3) := by decide +kernel
theorem dX11_told_5 : decode cX11_told 5 = .ok (.aload_n 0, 1) := by decide +kernel
theorem dX11_told_6 : decode cX11_told 6 = .ok (.iload_n 1, 1) := by decide +kernel
theorem dX11_told_7 : decode cX11_told 7 = .ok (.invokevirtual 118, 3) := by decide +kernel
theorem dX11_told_10 : decode cX11_told 10 = .ok (.ifCond .eq 6, 3) := by decide +kernel
theorem dX11_told_13 : decode cX11_told 13 = .ok (.bipush (-101), 2) := by decide +kernel
theorem dX11_told_15 : decode cX11_told 15 = .ok (.ireturn, 1) := by decide +kernel
theorem dX11_told_16 : decode cX11_told 16 = .ok (.iload_n 2, 1) := by decide +kernel
theorem dX11_told_17 : decode cX11_told 17 = .ok (.tableswitch 59 0 3 #[31, 38, 45, 52], 31) := by decide +kernel
theorem dX11_told_48 : decode cX11_told 48 = .ok (.aload_n 0, 1) := by decide +kernel
theorem dX11_told_49 : decode cX11_told 49 = .ok (.getfield 7, 3) := by decide +kernel
theorem dX11_told_52 : decode cX11_told 52 = .ok (.iload_n 1, 1) := by decide +kernel
theorem dX11_told_53 : decode cX11_told 53 = .ok (.iaload, 1) := by decide +kernel
theorem dX11_told_54 : decode cX11_told 54 = .ok (.ireturn, 1) := by decide +kernel
theorem dX11_told_55 : decode cX11_told 55 = .ok (.aload_n 0, 1) := by decide +kernel
theorem dX11_told_56 : decode cX11_told 56 = .ok (.getfield 13, 3) := by decide +kernel
theorem dX11_told_59 : decode cX11_told 59 = .ok (.iload_n 1, 1) := by decide +kernel
theorem dX11_told_60 : decode cX11_told 60 = .ok (.iaload, 1) := by decide +kernel
theorem dX11_told_61 : decode cX11_told 61 = .ok (.ireturn, 1) := by decide +kernel
theorem dX11_told_62 : decode cX11_told 62 = .ok (.aload_n 0, 1) := by decide +kernel
theorem dX11_told_63 : decode cX11_told 63 = .ok (.getfield 16, 3) := by decide +kernel
theorem dX11_told_66 : decode cX11_told 66 = .ok (.iload_n 1, 1) := by decide +kernel
theorem dX11_told_67 : decode cX11_told 67 = .ok (.iaload, 1) := by decide +kernel
theorem dX11_told_68 : decode cX11_told 68 = .ok (.ireturn, 1) := by decide +kernel
theorem dX11_told_69 : decode cX11_told 69 = .ok (.aload_n 0, 1) := by decide +kernel
theorem dX11_told_70 : decode cX11_told 70 = .ok (.getfield 19, 3) := by decide +kernel
theorem dX11_told_73 : decode cX11_told 73 = .ok (.iload_n 1, 1) := by decide +kernel
theorem dX11_told_74 : decode cX11_told 74 = .ok (.iaload, 1) := by decide +kernel
theorem dX11_told_75 : decode cX11_told 75 = .ok (.ireturn, 1) := by decide +kernel
theorem dX11_told_76 : decode cX11_told 76 = .ok (.bipush (-102), 2) := by decide +kernel
theorem dX11_told_78 : decode cX11_told 78 = .ok (.ireturn, 1) := by decide +kernel
theorem dX11_value_0 : decode cX11_value 0 = .ok (.aload_n 0, 1) := by decide +kernel
theorem dX11_value_1 : decode cX11_value 1 = .ok (.iconst 1, 1) := by decide +kernel
theorem dX11_value_2 : decode cX11_value 2 = .ok (.putfield 122, 3) := by decide +kernel
theorem dX11_value_5 : decode cX11_value 5 = .ok (.aload_n 0, 1) := by decide +kernel
theorem dX11_value_6 : decode cX11_value 6 = .ok (.iload_n 1, 1) := by decide +kernel
theorem dX11_value_7 : decode cX11_value 7 = .ok (.putfield 125, 3) := by decide +kernel
theorem dX11_value_10 : decode cX11_value 10 = .ok (.aload_n 0, 1) := by decide +kernel
theorem dX11_value_11 : decode cX11_value 11 = .ok (.iload_n 2, 1) := by decide +kernel
theorem dX11_value_12 : decode cX11_value 12 = .ok (.putfield 128, 3) := by decide +kernel
theorem dX11_value_15 : decode cX11_value 15 = .ok (.return_, 1) := by decide +kernel
theorem dX11_start_0 : decode cX11_start 0 = .ok (.aload_n 0, 1) := by decide +kernel
theorem dX11_start_1 : decode cX11_start 1 = .ok (.iconst 0, 1) := by decide +kernel
theorem dX11_start_2 : decode cX11_start 2 = .ok (.putfield 122, 3) := by decide +kernel
theorem dX11_start_5 : decode cX11_start 5 = .ok (.aload_n 0, 1) := by decide +kernel
theorem dX11_start_6 : decode cX11_start 6 = .ok (.iload_n 1, 1) := by decide +kernel
theorem dX11_start_7 : decode cX11_start 7 = .ok (.putfield 131, 3) := by decide +kernel
theorem dX11_start_10 : decode cX11_start 10 = .ok (.aload_n 0, 1) := by decide +kernel
theorem dX11_start_11 : decode cX11_start 11 = .ok (.iload_n 2, 1) := by decide +kernel
theorem dX11_start_12 : decode cX11_start 12 = .ok (.putfield 134, 3) := by decide +kernel
theorem dX11_start_15 : decode cX11_start 15 = .ok (.return_, 1) := by decide +kernel
theorem dX11_finish_0 : decode cX11_finish 0 = .ok (.aload_n 0, 1) := by decide +kernel
theorem dX11_finish_1 : decode cX11_finish 1 = .ok (.iconst 3, 1) := by decide +kernel
theorem dX11_finish_2 : decode cX11_finish 2 = .ok (.putfield 122, 3) := by decide +kernel
theorem dX11_finish_5 : decode cX11_finish 5 = .ok (.aload_n 0, 1) := by decide +kernel
theorem dX11_finish_6 : decode cX11_finish 6 = .ok (.iload_n 1, 1) := by decide +kernel
theorem dX11_finish_7 : decode cX11_finish 7 = .ok (.putfield 137, 3) := by decide +kernel
theorem dX11_finish_10 : decode cX11_finish 10 = .ok (.aload_n 0, 1) := by decide +kernel
theorem dX11_finish_11 : decode cX11_finish 11 = .ok (.iconst 0, 1) := by decide +kernel
theorem dX11_finish_12 : decode cX11_finish 12 = .ok (.putfield 140, 3) := by decide +kernel
theorem dX11_finish_15 : decode cX11_finish 15 = .ok (.aload_n 0, 1) := by decide +kernel
theorem dX11_finish_16 : decode cX11_finish 16 = .ok (.iload_n 2, 1) := by decide +kernel
theorem dX11_finish_17 : decode cX11_finish 17 = .ok (.putfield 143, 3) := by decide +kernel
theorem dX11_finish_20 : decode cX11_finish 20 = .ok (.return_, 1) := by decide +kernel
theorem dX11_fail_0 : decode cX11_fail 0 = .ok (.aload_n 0, 1) := by decide +kernel
theorem dX11_fail_1 : decode cX11_fail 1 = .ok (.dup, 1) := by decide +kernel
theorem dX11_fail_2 : decode cX11_fail 2 = .ok (.getfield 146, 3) := by decide +kernel
theorem dX11_fail_5 : decode cX11_fail 5 = .ok (.iconst 1, 1) := by decide +kernel
theorem dX11_fail_6 : decode cX11_fail 6 = .ok (.iadd, 1) := by decide +kernel
theorem dX11_fail_7 : decode cX11_fail 7 = .ok (.putfield 146, 3) := by decide +kernel
theorem dX11_fail_10 : decode cX11_fail 10 = .ok (.aload_n 0, 1) := by decide +kernel
theorem dX11_fail_11 : decode cX11_fail 11 = .ok (.getfield 146, 3) := by decide +kernel
theorem dX11_fail_14 : decode cX11_fail 14 = .ok (.bipush 20, 2) := by decide +kernel
theorem dX11_fail_16 : decode cX11_fail 16 = .ok (.if_icmp .le 13, 3) := by decide +kernel
theorem dX11_fail_19 : decode cX11_fail 19 = .ok (.aload_n 0, 1) := by decide +kernel
theorem dX11_fail_20 : decode cX11_fail 20 = .ok (.bipush 10, 2) := by decide +kernel
theorem dX11_fail_22 : decode cX11_fail 22 = .ok (.iload_n 3, 1) := by decide +kernel
theorem dX11_fail_23 : decode cX11_fail 23 = .ok (.invokevirtual 149, 3) := by decide +kernel
theorem dX11_fail_26 : decode cX11_fail 26 = .ok (.goto 23, 3) := by decide +kernel
theorem dX11_fail_29 : decode cX11_fail 29 = .ok (.aload_n 0, 1) := by decide +kernel
theorem dX11_fail_30 : decode cX11_fail 30 = .ok (.iconst 2, 1) := by decide +kernel
theorem dX11_fail_31 : decode cX11_fail 31 = .ok (.putfield 122, 3) := by decide +kernel
theorem dX11_fail_34 : decode cX11_fail 34 = .ok (.aload_n 0, 1) := by decide +kernel
theorem dX11_fail_35 : decode cX11_fail 35 = .ok (.iload_n 1, 1) := by decide +kernel
theorem dX11_fail_36 : decode cX11_fail 36 = .ok (.putfield 137, 3) := by decide +kernel
theorem dX11_fail_39 : decode cX11_fail 39 = .ok (.aload_n 0, 1) := by decide +kernel
theorem dX11_fail_40 : decode cX11_fail 40 = .ok (.iload_n 2, 1) := by decide +kernel
theorem dX11_fail_41 : decode cX11_fail 41 = .ok (.putfield 140, 3) := by decide +kernel
theorem dX11_fail_44 : decode cX11_fail 44 = .ok (.aload_n 0, 1) := by decide +kernel
theorem dX11_fail_45 : decode cX11_fail 45 = .ok (.iload_n 3, 1) := by decide +kernel
theorem dX11_fail_46 : decode cX11_fail 46 = .ok (.putfield 143, 3) := by decide +kernel
theorem dX11_fail_49 : decode cX11_fail 49 = .ok (.return_, 1) := by decide +kernel
theorem dX11_newThing_0 : decode cX11_newThing 0 = .ok (.aload_n 0, 1) := by decide +kernel
theorem dX11_newThing_1 : decode cX11_newThing 1 = .ok (.getfield 153, 3) := by decide +kernel
theorem dX11_newThing_4 : decode cX11_newThing 4 = .ok (.istore_n 2, 1) := by decide +kernel
theorem dX11_newThing_5 : decode cX11_newThing 5 = .ok (.aload_n 0, 1) := by decide +kernel
theorem dX11_newThing_6 : decode cX11_newThing 6 = .ok (.dup, 1) := by decide +kernel
theorem dX11_newThing_7 : decode cX11_newThing 7 = .ok (.getfield 153, 3) := by decide +kernel
theorem dX11_newThing_10 : decode cX11_newThing 10 = .ok (.iconst 1, 1) := by decide +kernel
theorem dX11_newThing_11 : decode cX11_newThing 11 = .ok (.iadd, 1) := by decide +kernel
theorem dX11_newThing_12 : decode cX11_newThing 12 = .ok (.putfield 153, 3) := by decide +kernel
theorem dX11_newThing_15 : decode cX11_newThing 15 = .ok (.aload_n 0, 1) := by decide +kernel
theorem dX11_newThing_16 : decode cX11_newThing 16 = .ok (.getfield 22, 3) := by decide +kernel
theorem dX11_newThing_19 : decode cX11_newThing 19 = .ok (.iload_n 2, 1) := by decide +kernel
theorem dX11_newThing_20 : decode cX11_newThing 20 = .ok (.iload_n 1, 1) := by decide +kernel
theorem dX11_newThing_21 : decode cX11_newThing 21 = .ok (.iastore, 1) := by decide +kernel
theorem dX11_newThing_22 : decode cX11_newThing 22 = .ok (.iconst 0, 1) := by decide +kernel
theorem dX11_newThing_23 : decode cX11_newThing 23 = .ok (.istore_n 3, 1) := by decide +kernel
theorem dX11_newThing_24 : decode cX11_newThing 24 = .ok (.iload_n 3, 1) := by decide +kernel
theorem dX11_newThing_25 : decode cX11_newThing 25 = .ok (.bipush 16, 2) := by decide +kernel
theorem dX11_newThing_27 : decode cX11_newThing 27 = .ok (.if_icmp .ge 33, 3) := by decide +kernel
theorem dX11_newThing_30 : decode cX11_newThing 30 = .ok (.aload_n 0, 1) := by decide +kernel
theorem dX11_newThing_31 : decode cX11_newThing 31 = .ok (.getfield 25, 3) := by decide +kernel
theorem dX11_newThing_34 : decode cX11_newThing 34 = .ok (.bipush 16, 2) := by decide +kernel
theorem dX11_newThing_36 : decode cX11_newThing 36 = .ok (.iload_n 2, 1) := by decide +kernel
theorem dX11_newThing_37 : decode cX11_newThing 37 = .ok (.imul, 1) := by decide +kernel
theorem dX11_newThing_38 : decode cX11_newThing 38 = .ok (.iload_n 3, 1) := by decide +kernel
theorem dX11_newThing_39 : decode cX11_newThing 39 = .ok (.iadd, 1) := by decide +kernel
theorem dX11_newThing_40 : decode cX11_newThing 40 = .ok (.iconst 1, 1) := by decide +kernel
theorem dX11_newThing_41 : decode cX11_newThing 41 = .ok (.iastore, 1) := by decide +kernel
theorem dX11_newThing_42 : decode cX11_newThing 42 = .ok (.aload_n 0, 1) := by decide +kernel
theorem dX11_newThing_43 : decode cX11_newThing 43 = .ok (.getfield 28, 3) := by decide +kernel
theorem dX11_newThing_46 : decode cX11_newThing 46 = .ok (.bipush 16, 2) := by decide +kernel
theorem dX11_newThing_48 : decode cX11_newThing 48 = .ok (.iload_n 2, 1) := by decide +kernel
theorem dX11_newThing_49 : decode cX11_newThing 49 = .ok (.imul, 1) := by decide +kernel
theorem dX11_newThing_50 : decode cX11_newThing 50 = .ok (.iload_n 3, 1) := by decide +kernel
theorem dX11_newThing_51 : decode cX11_newThing 51 = .ok (.iadd, 1) := by decide +kernel
theorem dX11_newThing_52 : decode cX11_newThing 52 = .ok (.iconst 0, 1) := by decide +kernel
theorem dX11_newThing_53 : decode cX11_newThing 53 = .ok (.iastore, 1) := by decide +kernel
theorem dX11_newThing_54 : decode cX11_newThing 54 = .ok (.iinc 3 1, 3) := by decide +kernel
theorem dX11_newThing_57 : decode cX11_newThing 57 = .ok (.goto (-33), 3) := by decide +kernel
theorem dX11_newThing_60 : decode cX11_newThing 60 = .ok (.iload_n 2, 1) := by decide +kernel
theorem dX11_newThing_61 : decode cX11_newThing 61 = .ok (.ireturn, 1) := by decide +kernel
theorem dX11_newFrame_0 : decode cX11_newFrame 0 = .ok (.aload_n 0, 1) := by decide +kernel
theorem dX11_newFrame_1 : decode cX11_newFrame 1 = .ok (.getfield 156, 3) := by decide +kernel
theorem dX11_newFrame_4 : decode cX11_newFrame 4 = .ok (.istore_n 1, 1) := by decide +kernel
theorem dX11_newFrame_5 : decode cX11_newFrame 5 = .ok (.aload_n 0, 1) := by decide +kernel
theorem dX11_newFrame_6 : decode cX11_newFrame 6 = .ok (.dup, 1) := by decide +kernel
theorem dX11_newFrame_7 : decode cX11_newFrame 7 = .ok (.getfield 156, 3) := by decide +kernel
theorem dX11_newFrame_10 : decode cX11_newFrame 10 = .ok (.iconst 1, 1) := by decide +kernel
theorem dX11_newFrame_11 : decode cX11_newFrame 11 = .ok (.iadd, 1) := by decide +kernel
theorem dX11_newFrame_12 : decode cX11_newFrame 12 = .ok (.putfield 156, 3) := by decide +kernel
theorem dX11_newFrame_15 : decode cX11_newFrame 15 = .ok (.iconst 0, 1) := by decide +kernel
theorem dX11_newFrame_16 : decode cX11_newFrame 16 = .ok (.istore_n 2, 1) := by decide +kernel
theorem dX11_newFrame_17 : decode cX11_newFrame 17 = .ok (.iload_n 2, 1) := by decide +kernel
theorem dX11_newFrame_18 : decode cX11_newFrame 18 = .ok (.bipush 8, 2) := by decide +kernel
theorem dX11_newFrame_20 : decode cX11_newFrame 20 = .ok (.if_icmp .ge 33, 3) := by decide +kernel
theorem dX11_newFrame_23 : decode cX11_newFrame 23 = .ok (.aload_n 0, 1) := by decide +kernel
theorem dX11_newFrame_24 : decode cX11_newFrame 24 = .ok (.getfield 46, 3) := by decide +kernel
theorem dX11_newFrame_27 : decode cX11_newFrame 27 = .ok (.bipush 8, 2) := by decide +kernel
theorem dX11_newFrame_29 : decode cX11_newFrame 29 = .ok (.iload_n 1, 1) := by decide +kernel
theorem dX11_newFrame_30 : decode cX11_newFrame 30 = .ok (.imul, 1) := by decide +kernel
theorem dX11_newFrame_31 : decode cX11_newFrame 31 = .ok (.iload_n 2, 1) := by decide +kernel
theorem dX11_newFrame_32 : decode cX11_newFrame 32 = .ok (.iadd, 1) := by decide +kernel
theorem dX11_newFrame_33 : decode cX11_newFrame 33 = .ok (.iconst 1, 1) := by decide +kernel
theorem dX11_newFrame_34 : decode cX11_newFrame 34 = .ok (.iastore, 1) := by decide +kernel
theorem dX11_newFrame_35 : decode cX11_newFrame 35 = .ok (.aload_n 0, 1) := by decide +kernel
theorem dX11_newFrame_36 : decode cX11_newFrame 36 = .ok (.getfield 49, 3) := by decide +kernel
theorem dX11_newFrame_39 : decode cX11_newFrame 39 = .ok (.bipush 8, 2) := by decide +kernel
theorem dX11_newFrame_41 : decode cX11_newFrame 41 = .ok (.iload_n 1, 1) := by decide +kernel
theorem dX11_newFrame_42 : decode cX11_newFrame 42 = .ok (.imul, 1) := by decide +kernel
theorem dX11_newFrame_43 : decode cX11_newFrame 43 = .ok (.iload_n 2, 1) := by decide +kernel
theorem dX11_newFrame_44 : decode cX11_newFrame 44 = .ok (.iadd, 1) := by decide +kernel
theorem dX11_newFrame_45 : decode cX11_newFrame 45 = .ok (.iconst 0, 1) := by decide +kernel
theorem dX11_newFrame_46 : decode cX11_newFrame 46 = .ok (.iastore, 1) := by decide +kernel
theorem dX11_newFrame_47 : decode cX11_newFrame 47 = .ok (.iinc 2 1, 3) := by decide +kernel
theorem dX11_newFrame_50 : decode cX11_newFrame 50 = .ok (.goto (-33), 3) := by decide +kernel
theorem dX11_newFrame_53 : decode cX11_newFrame 53 = .ok (.iload_n 1, 1) := by decide +kernel
theorem dX11_newFrame_54 : decode cX11_newFrame 54 = .ok (.ireturn, 1) := by decide +kernel
theorem dX11_write_0 : decode cX11_write 0 = .ok (.aload_n 0, 1) := by decide +kernel
theorem dX11_write_1 : decode cX11_write 1 = .ok (.getfield 58, 3) := by decide +kernel
theorem dX11_write_4 : decode cX11_write 4 = .ok (.aload_n 0, 1) := by decide +kernel
theorem dX11_write_5 : decode cX11_write 5 = .ok (.getfield 159, 3) := by decide +kernel
theorem dX11_write_8 : decode cX11_write 8 = .ok (.iload_n 1, 1) := by decide +kernel
theorem dX11_write_9 : decode cX11_write 9 = .ok (.iastore, 1) := by decide +kernel
theorem dX11_write_10 : decode cX11_write 10 = .ok (.iload_n 1, 1) := by decide +kernel
theorem dX11_write_11 : decode cX11_write 11 = .ok (.bipush 8, 2) := by decide +kernel
theorem dX11_write_13 : decode cX11_write 13 = .ok (.if_icmp .ge 50, 3) := by decide +kernel
theorem dX11_write_16 : decode cX11_write 16 = .ok (.aload_n 0, 1) := by decide +kernel
theorem dX11_write_17 : decode cX11_write 17 = .ok (.getfield 61, 3) := by decide +kernel
theorem dX11_write_20 : decode cX11_write 20 = .ok (.aload_n 0, 1) := by decide +kernel
theorem dX11_write_21 : decode cX11_write 21 = .ok (.getfield 159, 3) := by decide +kernel
theorem dX11_write_24 : decode cX11_write 24 = .ok (.aload_n 0, 1) := by decide +kernel
theorem dX11_write_25 : decode cX11_write 25 = .ok (.getfield 52, 3) := by decide +kernel
theorem dX11_write_28 : decode cX11_write 28 = .ok (.iload_n 1, 1) := by decide +kernel
theorem dX11_write_29 : decode cX11_write 29 = .ok (.iaload, 1) := by decide +kernel
theorem dX11_write_30 : decode cX11_write 30 = .ok (.iastore, 1) := by decide +kernel
theorem dX11_write_31 : decode cX11_write 31 = .ok (.aload_n 0, 1) := by decide +kernel
theorem dX11_write_32 : decode cX11_write 32 = .ok (.getfield 64, 3) := by decide +kernel
theorem dX11_write_35 : decode cX11_write 35 = .ok (.aload_n 0, 1) := by decide +kernel
theorem dX11_write_36 : decode cX11_write 36 = .ok (.getfield 159, 3) := by decide +kernel
theorem dX11_write_39 : decode cX11_write 39 = .ok (.aload_n 0, 1) := by decide +kernel
theorem dX11_write_40 : decode cX11_write 40 = .ok (.getfield 55, 3) := by decide +kernel
theorem dX11_write_43 : decode cX11_write 43 = .ok (.iload_n 1, 1) := by decide +kernel
theorem dX11_write_44 : decode cX11_write 44 = .ok (.iaload, 1) := by decide +kernel
theorem dX11_write_45 : decode cX11_write 45 = .ok (.iastore, 1) := by decide +kernel
theorem dX11_write_46 : decode cX11_write 46 = .ok (.aload_n 0, 1) := by decide +kernel
theorem dX11_write_47 : decode cX11_write 47 = .ok (.getfield 52, 3) := by decide +kernel
theorem dX11_write_50 : decode cX11_write 50 = .ok (.iload_n 1, 1) := by decide +kernel
theorem dX11_write_51 : decode cX11_write 51 = .ok (.iload_n 2, 1) := by decide +kernel
theorem dX11_write_52 : decode cX11_write 52 = .ok (.iastore, 1) := by decide +kernel
theorem dX11_write_53 : decode cX11_write 53 = .ok (.aload_n 0, 1) := by decide +kernel
theorem dX11_write_54 : decode cX11_write 54 = .ok (.getfield 55, 3) := by decide +kernel
theorem dX11_write_57 : decode cX11_write 57 = .ok (.iload_n 1, 1) := by decide +kernel
theorem dX11_write_58 : decode cX11_write 58 = .ok (.iload_n 3, 1) := by decide +kernel
theorem dX11_write_59 : decode cX11_write 59 = .ok (.iastore, 1) := by decide +kernel
theorem dX11_write_60 : decode cX11_write 60 = .ok (.goto 59, 3) := by decide +kernel
theorem dX11_write_63 : decode cX11_write 63 = .ok (.aload_n 0, 1) := by decide +kernel
theorem dX11_write_64 : decode cX11_write 64 = .ok (.getfield 61, 3) := by decide +kernel
theorem dX11_write_67 : decode cX11_write 67 = .ok (.aload_n 0, 1) := by decide +kernel
theorem dX11_write_68 : decode cX11_write 68 = .ok (.getfield 159, 3) := by decide +kernel
theorem dX11_write_71 : decode cX11_write 71 = .ok (.aload_n 0, 1) := by decide +kernel
theorem dX11_write_72 : decode cX11_write 72 = .ok (.getfield 25, 3) := by decide +kernel
theorem dX11_write_75 : decode cX11_write 75 = .ok (.iload_n 1, 1) := by decide +kernel
theorem dX11_write_76 : decode cX11_write 76 = .ok (.bipush 8, 2) := by decide +kernel
theorem dX11_write_78 : decode cX11_write 78 = .ok (.isub, 1) := by decide +kernel
theorem dX11_write_79 : decode cX11_write 79 = .ok (.iaload, 1) := by decide +kernel
theorem dX11_write_80 : decode cX11_write 80 = .ok (.iastore, 1) := by decide +kernel
theorem dX11_write_81 : decode cX11_write 81 = .ok (.aload_n 0, 1) := by decide +kernel
theorem dX11_write_82 : decode cX11_write 82 = .ok (.getfield 64, 3) := by decide +kernel
theorem dX11_write_85 : decode cX11_write 85 = .ok (.aload_n 0, 1) := by decide +kernel
theorem dX11_write_86 : decode cX11_write 86 = .ok (.getfield 159, 3) := by decide +kernel
theorem dX11_write_89 : decode cX11_write 89 = .ok (.aload_n 0, 1) := by decide +kernel
theorem dX11_write_90 : decode cX11_write 90 = .ok (.getfield 28, 3) := by decide +kernel
theorem dX11_write_93 : decode cX11_write 93 = .ok (.iload_n 1, 1) := by decide +kernel
theorem dX11_write_94 : decode cX11_write 94 = .ok (.bipush 8, 2) := by decide +kernel
theorem dX11_write_96 : decode cX11_write 96 = .ok (.isub, 1) := by decide +kernel
theorem dX11_write_97 : decode cX11_write 97 = .ok (.iaload, 1) := by decide +kernel
theorem dX11_write_98 : decode cX11_write 98 = .ok (.iastore, 1) := by decide +kernel
theorem dX11_write_99 : decode cX11_write 99 = .ok (.aload_n 0, 1) := by decide +kernel
theorem dX11_write_100 : decode cX11_write 100 = .ok (.getfield 25, 3) := by decide +kernel
theorem dX11_write_103 : decode cX11_write 103 = .ok (.iload_n 1, 1) := by decide +kernel
theorem dX11_write_104 : decode cX11_write 104 = .ok (.bipush 8, 2) := by decide +kernel
theorem dX11_write_106 : decode cX11_write 106 = .ok (.isub, 1) := by decide +kernel
theorem dX11_write_107 : decode cX11_write 107 = .ok (.iload_n 2, 1) := by decide +kernel
theorem dX11_write_108 : decode cX11_write 108 = .ok (.iastore, 1) := by decide +kernel
theorem dX11_write_109 : decode cX11_write 109 = .ok (.aload_n 0, 1) := by decide +kernel
theorem dX11_write_110 : decode cX11_write 110 = .ok (.getfield 28, 3) := by decide +kernel
theorem dX11_write_113 : decode cX11_write 113 = .ok (.iload_n 1, 1) := by decide +kernel
theorem dX11_write_114 : decode cX11_write 114 = .ok (.bipush 8, 2) := by decide +kernel
theorem dX11_write_116 : decode cX11_write 116 = .ok (.isub, 1) := by decide +kernel
theorem dX11_write_117 : decode cX11_write 117 = .ok (.iload_n 3, 1) := by decide +kernel
theorem dX11_write_118 : decode cX11_write 118 = .ok (.iastore, 1) := by decide +kernel
theorem dX11_write_119 : decode cX11_write 119 = .ok (.aload_n 0, 1) := by decide +kernel
theorem dX11_write_120 : decode cX11_write 120 = .ok (.dup, 1) := by decide +kernel
theorem dX11_write_121 : decode cX11_write 121 = .ok (.getfield 159, 3) := by decide +kernel
theorem dX11_write_124 : decode cX11_write 124 = .ok (.iconst 1, 1) := by decide +kernel
theorem dX11_write_125 : decode cX11_write 125 = .ok (.iadd, 1) := by decide +kernel
theorem dX11_write_126 : decode cX11_write 126 = .ok (.putfield 159, 3) := by decide +kernel
theorem dX11_write_129 : decode cX11_write 129 = .ok (.return_, 1) := by decide +kernel
theorem dX11_back_0 : decode cX11_back 0 = .ok (.aload_n 0, 1) := by decide +kernel
theorem dX11_back_1 : decode cX11_back 1 = .ok (.getfield 159, 3) := by decide +kernel
theorem dX11_back_4 : decode cX11_back 4 = .ok (.iload_n 1, 1) := by decide +kernel
theorem dX11_back_5 : decode cX11_back 5 = .ok (.if_icmp .le 101, 3) := by decide +kernel
theorem dX11_back_8 : decode cX11_back 8 = .ok (.aload_n 0, 1) := by decide +kernel
theorem dX11_back_9 : decode cX11_back 9 = .ok (.dup, 1) := by decide +kernel
theorem dX11_back_10 : decode cX11_back 10 = .ok (.getfield 159, 3) := by decide +kernel
theorem dX11_back_13 : decode cX11_back 13 = .ok (.iconst 1, 1) := by decide +kernel
theorem dX11_back_14 : decode cX11_back 14 = .ok (.isub, 1) := by decide +kernel
theorem dX11_back_15 : decode cX11_back 15 = .ok (.putfield 159, 3) := by decide +kernel
theorem dX11_back_18 : decode cX11_back 18 = .ok (.aload_n 0, 1) := by decide +kernel
theorem dX11_back_19 : decode cX11_back 19 = .ok (.getfield 58, 3) := by decide +kernel
theorem dX11_back_22 : decode cX11_back 22 = .ok (.aload_n 0, 1) := by decide +kernel
theorem dX11_back_23 : decode cX11_back 23 = .ok (.getfield 159, 3) := by decide +kernel
theorem dX11_back_26 : decode cX11_back 26 = .ok (.iaload, 1) := by decide +kernel
theorem dX11_back_27 : decode cX11_back 27 = .ok (.istore_n 2, 1) := by decide +kernel
theorem dX11_back_28 : decode cX11_back 28 = .ok (.iload_n 2, 1) := by decide +kernel
theorem dX11_back_29 : decode cX11_back 29 = .ok (.bipush 8, 2) := by decide +kernel
theorem dX11_back_31 : decode cX11_back 31 = .ok (.if_icmp .ge 36, 3) := by decide +kernel
theorem dX11_back_34 : decode cX11_back 34 = .ok (.aload_n 0, 1) := by decide +kernel
theorem dX11_back_35 : decode cX11_back 35 = .ok (.getfield 52, 3) := by decide +kernel
theorem dX11_back_38 : decode cX11_back 38 = .ok (.iload_n 2, 1) := by decide +kernel
theorem dX11_back_39 : decode cX11_back 39 = .ok (.aload_n 0, 1) := by decide +kernel
theorem dX11_back_40 : decode cX11_back 40 = .ok (.getfield 61, 3) := by decide +kernel
theorem dX11_back_43 : decode cX11_back 43 = .ok (.aload_n 0, 1) := by decide +kernel
theorem dX11_back_44 : decode cX11_back 44 = .ok (.getfield 159, 3) := by decide +kernel
theorem dX11_back_47 : decode cX11_back 47 = .ok (.iaload, 1) := by decide +kernel
theorem dX11_back_48 : decode cX11_back 48 = .ok (.iastore, 1) := by decide +kernel
theorem dX11_back_49 : decode cX11_back 49 = .ok (.aload_n 0, 1) := by decide +kernel
theorem dX11_back_50 : decode cX11_back 50 = .ok (.getfield 55, 3) := by decide +kernel
theorem dX11_back_53 : decode cX11_back 53 = .ok (.iload_n 2, 1) := by decide +kernel
theorem dX11_back_54 : decode cX11_back 54 = .ok (.aload_n 0, 1) := by decide +kernel
theorem dX11_back_55 : decode cX11_back 55 = .ok (.getfield 64, 3) := by decide +kernel
theorem dX11_back_58 : decode cX11_back 58 = .ok (.aload_n 0, 1) := by decide +kernel
theorem dX11_back_59 : decode cX11_back 59 = .ok (.getfield 159, 3) := by decide +kernel
theorem dX11_back_62 : decode cX11_back 62 = .ok (.iaload, 1) := by decide +kernel
theorem dX11_back_63 : decode cX11_back 63 = .ok (.iastore, 1) := by decide +kernel
theorem dX11_back_64 : decode cX11_back 64 = .ok (.goto 39, 3) := by decide +kernel
theorem dX11_back_67 : decode cX11_back 67 = .ok (.aload_n 0, 1) := by decide +kernel
theorem dX11_back_68 : decode cX11_back 68 = .ok (.getfield 25, 3) := by decide +kernel
theorem dX11_back_71 : decode cX11_back 71 = .ok (.iload_n 2, 1) := by decide +kernel
theorem dX11_back_72 : decode cX11_back 72 = .ok (.bipush 8, 2) := by decide +kernel
theorem dX11_back_74 : decode cX11_back 74 = .ok (.isub, 1) := by decide +kernel
theorem dX11_back_75 : decode cX11_back 75 = .ok (.aload_n 0, 1) := by decide +kernel
theorem dX11_back_76 : decode cX11_back 76 = .ok (.getfield 61, 3) := by decide +kernel
theorem dX11_back_79 : decode cX11_back 79 = .ok (.aload_n 0, 1) := by decide +kernel
theorem dX11_back_80 : decode cX11_back 80 = .ok (.getfield 159, 3) := by decide +kernel
theorem dX11_back_83 : decode cX11_back 83 = .ok (.iaload, 1) := by decide +kernel
theorem dX11_back_84 : decode cX11_back 84 = .ok (.iastore, 1) := by decide +kernel
theorem dX11_back_85 : decode cX11_back 85 = .ok (.aload_n 0, 1) := by decide +kernel
theorem dX11_back_86 : decode cX11_back 86 = .ok (.getfield 28, 3) := by decide +kernel
theorem dX11_back_89 : decode cX11_back 89 = .ok (.iload_n 2, 1) := by decide +kernel
theorem dX11_back_90 : decode cX11_back 90 = .ok (.bipush 8, 2) := by decide +kernel
theorem dX11_back_92 : decode cX11_back 92 = .ok (.isub, 1) := by decide +kernel
theorem dX11_back_93 : decode cX11_back 93 = .ok (.aload_n 0, 1) := by decide +kernel
theorem dX11_back_94 : decode cX11_back 94 = .ok (.getfield 64, 3) := by decide +kernel
theorem dX11_back_97 : decode cX11_back 97 = .ok (.aload_n 0, 1) := by decide +kernel
theorem dX11_back_98 : decode cX11_back 98 = .ok (.getfield 159, 3) := by decide +kernel
theorem dX11_back_101 : decode cX11_back 101 = .ok (.iaload, 1) := by decide +kernel
theorem dX11_back_102 : decode cX11_back 102 = .ok (.iastore, 1) := by decide +kernel
theorem dX11_back_103 : decode cX11_back 103 = .ok (.goto (-103), 3) := by decide +kernel
theorem dX11_back_106 : decode cX11_back 106 = .ok (.return_, 1) := by decide +kernel
theorem dX11_begin_0 : decode cX11_begin 0 = .ok (.aload_n 0, 1) := by decide +kernel
theorem dX11_begin_1 : decode cX11_begin 1 = .ok (.getfield 162, 3) := by decide +kernel
theorem dX11_begin_4 : decode cX11_begin 4 = .ok (.aload_n 0, 1) := by decide +kernel
theorem dX11_begin_5 : decode cX11_begin 5 = .ok (.getfield 165, 3) := by decide +kernel
theorem dX11_begin_8 : decode cX11_begin 8 = .ok (.if_icmp .ne 14, 3) := by decide +kernel
theorem dX11_begin_11 : decode cX11_begin 11 = .ok (.aload_n 0, 1) := by decide +kernel
theorem dX11_begin_12 : decode cX11_begin 12 = .ok (.bipush 9, 2) := by decide +kernel
theorem dX11_begin_14 : decode cX11_begin 14 = .ok (.aload_n 0, 1) := by decide +kernel
theorem dX11_begin_15 : decode cX11_begin 15 = .ok (.getfield 131, 3) := by decide +kernel
theorem dX11_begin_18 : decode cX11_begin 18 = .ok (.invokevirtual 149, 3) := by decide +kernel
theorem dX11_begin_21 : decode cX11_begin 21 = .ok (.return_, 1) := by decide +kernel
theorem dX11_begin_22 : decode cX11_begin 22 = .ok (.aload_n 0, 1) := by decide +kernel
theorem dX11_begin_23 : decode cX11_begin 23 = .ok (.dup, 1) := by decide +kernel
theorem dX11_begin_24 : decode cX11_begin 24 = .ok (.getfield 162, 3) := by decide +kernel
theorem dX11_begin_27 : decode cX11_begin 27 = .ok (.iconst 1, 1) := by decide +kernel
theorem dX11_begin_28 : decode cX11_begin 28 = .ok (.iadd, 1) := by decide +kernel
theorem dX11_begin_29 : decode cX11_begin 29 = .ok (.putfield 162, 3) := by decide +kernel
theorem dX11_begin_32 : decode cX11_begin 32 = .ok (.aload_n 0, 1) := by decide +kernel
theorem dX11_begin_33 : decode cX11_begin 33 = .ok (.getfield 131, 3) := by decide +kernel
theorem dX11_begin_36 : decode cX11_begin 36 = .ok (.istore_n 1, 1) := by decide +kernel
theorem dX11_begin_37 : decode cX11_begin 37 = .ok (.aload_n 0, 1) := by decide +kernel
theorem dX11_begin_38 : decode cX11_begin 38 = .ok (.getfield 134, 3) := by decide +kernel
theorem dX11_begin_41 : decode cX11_begin 41 = .ok (.istore_n 2, 1) := by decide +kernel
theorem dX11_begin_42 : decode cX11_begin 42 = .ok (.aload_n 0, 1) := by decide +kernel
theorem dX11_begin_43 : decode cX11_begin 43 = .ok (.getfield 7, 3) := by decide +kernel
theorem dX11_begin_46 : decode cX11_begin 46 = .ok (.iload_n 1, 1) := by decide +kernel
theorem dX11_begin_47 : decode cX11_begin 47 = .ok (.iaload, 1) := by decide +kernel
theorem dX11_begin_48 : decode cX11_begin 48 = .ok (.lookupswitch 185 #[(0, 52), (1, 66), (2, 105), (27, 114), (30, 156)], 52) := by decide +kernel
theorem dX11_begin_100 : decode cX11_begin 100 = .ok (.aload_n 0, 1) := by decide +kernel
theorem dX11_begin_101 : decode cX11_begin 101 = .ok (.iconst 0, 1) := by decide +kernel
theorem dX11_begin_102 : decode cX11_begin 102 = .ok (.aload_n 0, 1) := by decide +kernel
theorem dX11_begin_103 : decode cX11_begin 103 = .ok (.getfield 13, 3) := by decide +kernel
theorem dX11_begin_106 : decode cX11_begin 106 = .ok (.iload_n 1, 1) := by decide +kernel
theorem dX11_begin_107 : decode cX11_begin 107 = .ok (.iaload, 1) := by decide +kernel
theorem dX11_begin_108 : decode cX11_begin 108 = .ok (.invokevirtual 168, 3) := by decide +kernel
theorem dX11_begin_111 : decode cX11_begin 111 = .ok (.goto 217, 3) := by decide +kernel
theorem dX11_begin_114 : decode cX11_begin 114 = .ok (.aload_n 0, 1) := by decide +kernel
theorem dX11_begin_115 : decode cX11_begin 115 = .ok (.aload_n 0, 1) := by decide +kernel
theorem dX11_begin_116 : decode cX11_begin 116 = .ok (.getfield 46, 3) := by decide +kernel
theorem dX11_begin_119 : decode cX11_begin 119 = .ok (.bipush 8, 2) := by decide +kernel
theorem dX11_begin_121 : decode cX11_begin 121 = .ok (.iload_n 2, 1) := by decide +kernel
theorem dX11_begin_122 : decode cX11_begin 122 = .ok (.imul, 1) := by decide +kernel
theorem dX11_begin_123 : decode cX11_begin 123 = .ok (.aload_n 0, 1) := by decide +kernel
theorem dX11_begin_124 : decode cX11_begin 124 = .ok (.getfield 13, 3) := by decide +kernel
theorem dX11_begin_127 : decode cX11_begin 127 = .ok (.iload_n 1, 1) := by decide +kernel
theorem dX11_begin_128 : decode cX11_begin 128 = .ok (.iaload, 1) := by decide +kernel
theorem dX11_begin_129 : decode cX11_begin 129 = .ok (.iadd, 1) := by decide +kernel
theorem dX11_begin_130 : decode cX11_begin 130 = .ok (.iaload, 1) := by decide +kernel
theorem dX11_begin_131 : decode cX11_begin 131 = .ok (.aload_n 0, 1) := by decide +kernel
theorem dX11_begin_132 : decode cX11_begin 132 = .ok (.getfield 49, 3) := by decide +kernel
theorem dX11_begin_135 : decode cX11_begin 135 = .ok (.bipush 8, 2) := by decide +kernel
theorem dX11_begin_137 : decode cX11_begin 137 = .ok (.iload_n 2, 1) := by decide +kernel
theorem dX11_begin_138 : decode cX11_begin 138 = .ok (.imul, 1) := by decide +kernel
theorem dX11_begin_139 : decode cX11_begin 139 = .ok (.aload_n 0, 1) := by decide +kernel
theorem dX11_begin_140 : decode cX11_begin 140 = .ok (.getfield 13, 3) := by decide +kernel
theorem dX11_begin_143 : decode cX11_begin 143 = .ok (.iload_n 1, 1) := by decide +kernel
theorem dX11_begin_144 : decode cX11_begin 144 = .ok (.iaload, 1) := by decide +kernel
theorem dX11_begin_145 : decode cX11_begin 145 = .ok (.iadd, 1) := by decide +kernel
theorem dX11_begin_146 : decode cX11_begin 146 = .ok (.iaload, 1) := by decide +kernel
theorem dX11_begin_147 : decode cX11_begin 147 = .ok (.invokevirtual 168, 3) := by decide +kernel
theorem dX11_begin_150 : decode cX11_begin 150 = .ok (.goto 178, 3) := by decide +kernel
theorem dX11_begin_153 : decode cX11_begin 153 = .ok (.aload_n 0, 1) := by decide +kernel
theorem dX11_begin_154 : decode cX11_begin 154 = .ok (.iconst 1, 1) := by decide +kernel
theorem dX11_begin_155 : decode cX11_begin 155 = .ok (.iconst 0, 1) := by decide +kernel
theorem dX11_begin_156 : decode cX11_begin 156 = .ok (.invokevirtual 168, 3) := by decide +kernel
theorem dX11_begin_159 : decode cX11_begin 159 = .ok (.goto 169, 3) := by decide +kernel
theorem dX11_begin_162 : decode cX11_begin 162 = .ok (.aload_n 0, 1) := by decide +kernel
theorem dX11_begin_163 : decode cX11_begin 163 = .ok (.iconst 0, 1) := by decide +kernel
theorem dX11_begin_164 : decode cX11_begin 164 = .ok (.invokevirtual 171, 3) := by decide +kernel
theorem dX11_begin_167 : decode cX11_begin 167 = .ok (.istore_n 3, 1) := by decide +kernel
theorem dX11_begin_168 : decode cX11_begin 168 = .ok (.aload_n 0, 1) := by decide +kernel
theorem dX11_begin_169 : decode cX11_begin 169 = .ok (.getfield 31, 3) := by decide +kernel
theorem dX11_begin_172 : decode cX11_begin 172 = .ok (.iload_n 3, 1) := by decide +kernel
theorem dX11_begin_173 : decode cX11_begin 173 = .ok (.aload_n 0, 1) := by decide +kernel
theorem dX11_begin_174 : decode cX11_begin 174 = .ok (.getfield 13, 3) := by decide +kernel
theorem dX11_begin_177 : decode cX11_begin 177 = .ok (.iload_n 1, 1) := by decide +kernel
theorem dX11_begin_178 : decode cX11_begin 178 = .ok (.iaload, 1) := by decide +kernel
theorem dX11_begin_179 : decode cX11_begin 179 = .ok (.iastore, 1) := by decide +kernel
theorem dX11_begin_180 : decode cX11_begin 180 = .ok (.aload_n 0, 1) := by decide +kernel
theorem dX11_begin_181 : decode cX11_begin 181 = .ok (.getfield 34, 3) := by decide +kernel
theorem dX11_begin_184 : decode cX11_begin 184 = .ok (.iload_n 3, 1) := by decide +kernel
theorem dX11_begin_185 : decode cX11_begin 185 = .ok (.iload_n 2, 1) := by decide +kernel
theorem dX11_begin_186 : decode cX11_begin 186 = .ok (.iastore, 1) := by decide +kernel
theorem dX11_begin_187 : decode cX11_begin 187 = .ok (.aload_n 0, 1) := by decide +kernel
theorem dX11_begin_188 : decode cX11_begin 188 = .ok (.getfield 37, 3) := by decide +kernel
theorem dX11_begin_191 : decode cX11_begin 191 = .ok (.iload_n 3, 1) := by decide +kernel
theorem dX11_begin_192 : decode cX11_begin 192 = .ok (.iconst 0, 1) := by decide +kernel
theorem dX11_begin_193 : decode cX11_begin 193 = .ok (.iastore, 1) := by decide +kernel
theorem dX11_begin_194 : decode cX11_begin 194 = .ok (.aload_n 0, 1) := by decide +kernel
theorem dX11_begin_195 : decode cX11_begin 195 = .ok (.bipush 7, 2) := by decide +kernel
theorem dX11_begin_197 : decode cX11_begin 197 = .ok (.iload_n 3, 1) := by decide +kernel
theorem dX11_begin_198 : decode cX11_begin 198 = .ok (.invokevirtual 168, 3) := by decide +kernel
theorem dX11_begin_201 : decode cX11_begin 201 = .ok (.goto 127, 3) := by decide +kernel
theorem dX11_begin_204 : decode cX11_begin 204 = .ok (.aload_n 0, 1) := by decide +kernel
theorem dX11_begin_205 : decode cX11_begin 205 = .ok (.aload_n 0, 1) := by decide +kernel
theorem dX11_begin_206 : decode cX11_begin 206 = .ok (.getfield 52, 3) := by decide +kernel
theorem dX11_begin_209 : decode cX11_begin 209 = .ok (.aload_n 0, 1) := by decide +kernel
theorem dX11_begin_210 : decode cX11_begin 210 = .ok (.getfield 13, 3) := by decide +kernel
theorem dX11_begin_213 : decode cX11_begin 213 = .ok (.iload_n 1, 1) := by decide +kernel
theorem dX11_begin_214 : decode cX11_begin 214 = .ok (.iaload, 1) := by decide +kernel
theorem dX11_begin_215 : decode cX11_begin 215 = .ok (.iaload, 1) := by decide +kernel
theorem dX11_begin_216 : decode cX11_begin 216 = .ok (.aload_n 0, 1) := by decide +kernel
theorem dX11_begin_217 : decode cX11_begin 217 = .ok (.getfield 55, 3) := by decide +kernel
theorem dX11_begin_220 : decode cX11_begin 220 = .ok (.aload_n 0, 1) := by decide +kernel
theorem dX11_begin_221 : decode cX11_begin 221 = .ok (.getfield 13, 3) := by decide +kernel
theorem dX11_begin_224 : decode cX11_begin 224 = .ok (.iload_n 1, 1) := by decide +kernel
theorem dX11_begin_225 : decode cX11_begin 225 = .ok (.iaload, 1) := by decide +kernel
theorem dX11_begin_226 : decode cX11_begin 226 = .ok (.iaload, 1) := by decide +kernel
theorem dX11_begin_227 : decode cX11_begin 227 = .ok (.invokevirtual 168, 3) := by decide +kernel
theorem dX11_begin_230 : decode cX11_begin 230 = .ok (.goto 98, 3) := by decide +kernel
theorem dX11_begin_233 : decode cX11_begin 233 = .ok (.aload_n 0, 1) := by decide +kernel
theorem dX11_begin_234 : decode cX11_begin 234 = .ok (.getfield 70, 3) := by decide +kernel
theorem dX11_begin_237 : decode cX11_begin 237 = .ok (.aload_n 0, 1) := by decide +kernel
theorem dX11_begin_238 : decode cX11_begin 238 = .ok (.getfield 174, 3) := by decide +kernel
theorem dX11_begin_241 : decode cX11_begin 241 = .ok (.iload_n 1, 1) := by decide +kernel
theorem dX11_begin_242 : decode cX11_begin 242 = .ok (.iastore, 1) := by decide +kernel
theorem dX11_begin_243 : decode cX11_begin 243 = .ok (.aload_n 0, 1) := by decide +kernel
theorem dX11_begin_244 : decode cX11_begin 244 = .ok (.getfield 73, 3) := by decide +kernel
theorem dX11_begin_247 : decode cX11_begin 247 = .ok (.aload_n 0, 1) := by decide +kernel
theorem dX11_begin_248 : decode cX11_begin 248 = .ok (.getfield 174, 3) := by decide +kernel
theorem dX11_begin_251 : decode cX11_begin 251 = .ok (.iconst 0, 1) := by decide +kernel
theorem dX11_begin_252 : decode cX11_begin 252 = .ok (.iastore, 1) := by decide +kernel
theorem dX11_begin_253 : decode cX11_begin 253 = .ok (.aload_n 0, 1) := by decide +kernel
theorem dX11_begin_254 : decode cX11_begin 254 = .ok (.getfield 76, 3) := by decide +kernel
theorem dX11_begin_257 : decode cX11_begin 257 = .ok (.aload_n 0, 1) := by decide +kernel
theorem dX11_begin_258 : decode cX11_begin 258 = .ok (.getfield 174, 3) := by decide +kernel
theorem dX11_begin_261 : decode cX11_begin 261 = .ok (.iload_n 2, 1) := by decide +kernel
theorem dX11_begin_262 : decode cX11_begin 262 = .ok (.iastore, 1) := by decide +kernel
theorem dX11_begin_263 : decode cX11_begin 263 = .ok (.aload_n 0, 1) := by decide +kernel
theorem dX11_begin_264 : decode cX11_begin 264 = .ok (.getfield 91, 3) := by decide +kernel
theorem dX11_begin_267 : decode cX11_begin 267 = .ok (.aload_n 0, 1) := by decide +kernel
theorem dX11_begin_268 : decode cX11_begin 268 = .ok (.getfield 174, 3) := by decide +kernel
theorem dX11_begin_271 : decode cX11_begin 271 = .ok (.aload_n 0, 1) := by decide +kernel
theorem dX11_begin_272 : decode cX11_begin 272 = .ok (.getfield 159, 3) := by decide +kernel
theorem dX11_begin_275 : decode cX11_begin 275 = .ok (.iastore, 1) := by decide +kernel
theorem dX11_begin_276 : decode cX11_begin 276 = .ok (.aload_n 0, 1) := by decide +kernel
theorem dX11_begin_277 : decode cX11_begin 277 = .ok (.dup, 1) := by decide +kernel
theorem dX11_begin_278 : decode cX11_begin 278 = .ok (.getfield 174, 3) := by decide +kernel
theorem dX11_begin_281 : decode cX11_begin 281 = .ok (.iconst 1, 1) := by decide +kernel
theorem dX11_begin_282 : decode cX11_begin 282 = .ok (.iadd, 1) := by decide +kernel
theorem dX11_begin_283 : decode cX11_begin 283 = .ok (.putfield 174, 3) := by decide +kernel
theorem dX11_begin_286 : decode cX11_begin 286 = .ok (.aload_n 0, 1) := by decide +kernel
theorem dX11_begin_287 : decode cX11_begin 287 = .ok (.aload_n 0, 1) := by decide +kernel
theorem dX11_begin_288 : decode cX11_begin 288 = .ok (.getfield 7, 3) := by decide +kernel
theorem dX11_begin_291 : decode cX11_begin 291 = .ok (.iload_n 1, 1) := by decide +kernel
theorem dX11_begin_292 : decode cX11_begin 292 = .ok (.iaload, 1) := by decide +kernel
end
section
theorem dX11_begin_293 : decode cX11_begin 293 = .ok (.bipush 25, 2) := by decide +kernel
theorem dX11_begin_295 : decode cX11_begin 295 = .ok (.if_icmp .eq 14, 3) := by decide +kernel
theorem dX11_begin_298 : decode cX11_begin 298 = .ok (.aload_n 0, 1) := by decide +kernel
theorem dX11_begin_299 : decode cX11_begin 299 = .ok (.getfield 7, 3) := by decide +kernel
theorem dX11_begin_302 : decode cX11_begin 302 = .ok (.iload_n 1, 1) := by decide +kernel
theorem dX11_begin_303 : decode cX11_begin 303 = .ok (.iaload, 1) := by decide +kernel
theorem dX11_begin_304 : decode cX11_begin 304 = .ok (.bipush 31, 2) := by decide +kernel
theorem dX11_begin_306 : decode cX11_begin 306 = .ok (.if_icmp .ne 12, 3) := by decide +kernel
theorem dX11_begin_309 : decode cX11_begin 309 = .ok (.aload_n 0, 1) := by decide +kernel
theorem dX11_begin_310 : decode cX11_begin 310 = .ok (.getfield 16, 3) := by decide +kernel
theorem dX11_begin_313 : decode cX11_begin 313 = .ok (.iload_n 1, 1) := by decide +kernel
theorem dX11_begin_314 : decode cX11_begin 314 = .ok (.iaload, 1) := by decide +kernel
theorem dX11_begin_315 : decode cX11_begin 315 = .ok (.goto 9, 3) := by decide +kernel
theorem dX11_begin_318 : decode cX11_begin 318 = .ok (.aload_n 0, 1) := by decide +kernel
theorem dX11_begin_319 : decode cX11_begin 319 = .ok (.getfield 13, 3) := by decide +kernel
theorem dX11_begin_322 : decode cX11_begin 322 = .ok (.iload_n 1, 1) := by decide +kernel
theorem dX11_begin_323 : decode cX11_begin 323 = .ok (.iaload, 1) := by decide +kernel
theorem dX11_begin_324 : decode cX11_begin 324 = .ok (.iload_n 2, 1) := by decide +kernel
theorem dX11_begin_325 : decode cX11_begin 325 = .ok (.invokevirtual 177, 3) := by decide +kernel
theorem dX11_begin_328 : decode cX11_begin 328 = .ok (.return_, 1) := by decide +kernel
theorem dX11_keepX_0 : decode cX11_keepX 0 = .ok (.aload_n 0, 1) := by decide +kernel
theorem dX11_keepX_1 : decode cX11_keepX 1 = .ok (.getfield 79, 3) := by decide +kernel
theorem dX11_keepX_4 : decode cX11_keepX 4 = .ok (.iload_n 1, 1) := by decide +kernel
theorem dX11_keepX_5 : decode cX11_keepX 5 = .ok (.aload_n 0, 1) := by decide +kernel
theorem dX11_keepX_6 : decode cX11_keepX 6 = .ok (.getfield 125, 3) := by decide +kernel
theorem dX11_keepX_9 : decode cX11_keepX 9 = .ok (.iastore, 1) := by decide +kernel
theorem dX11_keepX_10 : decode cX11_keepX 10 = .ok (.aload_n 0, 1) := by decide +kernel
theorem dX11_keepX_11 : decode cX11_keepX 11 = .ok (.getfield 82, 3) := by decide +kernel
theorem dX11_keepX_14 : decode cX11_keepX 14 = .ok (.iload_n 1, 1) := by decide +kernel
theorem dX11_keepX_15 : decode cX11_keepX 15 = .ok (.aload_n 0, 1) := by decide +kernel
theorem dX11_keepX_16 : decode cX11_keepX 16 = .ok (.getfield 128, 3) := by decide +kernel
theorem dX11_keepX_19 : decode cX11_keepX 19 = .ok (.iastore, 1) := by decide +kernel
theorem dX11_keepX_20 : decode cX11_keepX 20 = .ok (.aload_n 0, 1) := by decide +kernel
theorem dX11_keepX_21 : decode cX11_keepX 21 = .ok (.getfield 73, 3) := by decide +kernel
theorem dX11_keepX_24 : decode cX11_keepX 24 = .ok (.iload_n 1, 1) := by decide +kernel
theorem dX11_keepX_25 : decode cX11_keepX 25 = .ok (.iconst 1, 1) := by decide +kernel
theorem dX11_keepX_26 : decode cX11_keepX 26 = .ok (.iastore, 1) := by decide +kernel
theorem dX11_keepX_27 : decode cX11_keepX 27 = .ok (.return_, 1) := by decide +kernel
theorem dX11_keepY_0 : decode cX11_keepY 0 = .ok (.aload_n 0, 1) := by decide +kernel
theorem dX11_keepY_1 : decode cX11_keepY 1 = .ok (.getfield 85, 3) := by decide +kernel
theorem dX11_keepY_4 : decode cX11_keepY 4 = .ok (.iload_n 1, 1) := by decide +kernel
theorem dX11_keepY_5 : decode cX11_keepY 5 = .ok (.aload_n 0, 1) := by decide +kernel
theorem dX11_keepY_6 : decode cX11_keepY 6 = .ok (.getfield 125, 3) := by decide +kernel
theorem dX11_keepY_9 : decode cX11_keepY 9 = .ok (.iastore, 1) := by decide +kernel
theorem dX11_keepY_10 : decode cX11_keepY 10 = .ok (.aload_n 0, 1) := by decide +kernel
theorem dX11_keepY_11 : decode cX11_keepY 11 = .ok (.getfield 88, 3) := by decide +kernel
theorem dX11_keepY_14 : decode cX11_keepY 14 = .ok (.iload_n 1, 1) := by decide +kernel
theorem dX11_keepY_15 : decode cX11_keepY 15 = .ok (.aload_n 0, 1) := by decide +kernel
theorem dX11_keepY_16 : decode cX11_keepY 16 = .ok (.getfield 128, 3) := by decide +kernel
theorem dX11_keepY_19 : decode cX11_keepY 19 = .ok (.iastore, 1) := by decide +kernel
theorem dX11_keepY_20 : decode cX11_keepY 20 = .ok (.aload_n 0, 1) := by decide +kernel
theorem dX11_keepY_21 : decode cX11_keepY 21 = .ok (.getfield 73, 3) := by decide +kernel
theorem dX11_keepY_24 : decode cX11_keepY 24 = .ok (.iload_n 1, 1) := by decide +kernel
theorem dX11_keepY_25 : decode cX11_keepY 25 = .ok (.iconst 2, 1) := by decide +kernel
theorem dX11_keepY_26 : decode cX11_keepY 26 = .ok (.iastore, 1) := by decide +kernel
theorem dX11_keepY_27 : decode cX11_keepY 27 = .ok (.return_, 1) := by decide +kernel
theorem dX11_isWhole_0 : decode cX11_isWhole 0 = .ok (.iload_n 1, 1) := by decide +kernel
theorem dX11_isWhole_1 : decode cX11_isWhole 1 = .ok (.ifCond .ne 5, 3) := by decide +kernel
theorem dX11_isWhole_4 : decode cX11_isWhole 4 = .ok (.iconst 1, 1) := by decide +kernel
theorem dX11_isWhole_5 : decode cX11_isWhole 5 = .ok (.ireturn, 1) := by decide +kernel
theorem dX11_isWhole_6 : decode cX11_isWhole 6 = .ok (.iload_n 1, 1) := by decide +kernel
theorem dX11_isWhole_7 : decode cX11_isWhole 7 = .ok (.iconst 1, 1) := by decide +kernel
theorem dX11_isWhole_8 : decode cX11_isWhole 8 = .ok (.if_icmp .ne 7, 3) := by decide +kernel
theorem dX11_isWhole_11 : decode cX11_isWhole 11 = .ok (.iconst 1, 1) := by decide +kernel
theorem dX11_isWhole_12 : decode cX11_isWhole 12 = .ok (.goto 4, 3) := by decide +kernel
theorem dX11_isWhole_15 : decode cX11_isWhole 15 = .ok (.iconst 4, 1) := by decide +kernel
theorem dX11_isWhole_16 : decode cX11_isWhole 16 = .ok (.istore_n 3, 1) := by decide +kernel
theorem dX11_isWhole_17 : decode cX11_isWhole 17 = .ok (.aload_n 0, 1) := by decide +kernel
theorem dX11_isWhole_18 : decode cX11_isWhole 18 = .ok (.iload_n 3, 1) := by decide +kernel
theorem dX11_isWhole_19 : decode cX11_isWhole 19 = .ok (.iload_n 3, 1) := by decide +kernel
theorem dX11_isWhole_20 : decode cX11_isWhole 20 = .ok (.iload_n 2, 1) := by decide +kernel
theorem dX11_isWhole_21 : decode cX11_isWhole 21 = .ok (.invokevirtual 180, 3) := by decide +kernel
theorem dX11_isWhole_24 : decode cX11_isWhole 24 = .ok (.iconst 0, 1) := by decide +kernel
theorem dX11_isWhole_25 : decode cX11_isWhole 25 = .ok (.ireturn, 1) := by decide +kernel
theorem dX11_failBy_0 : decode cX11_failBy 0 = .ok (.aload_n 0, 1) := by decide +kernel
theorem dX11_failBy_1 : decode cX11_failBy 1 = .ok (.iload_n 1, 1) := by decide +kernel
theorem dX11_failBy_2 : decode cX11_failBy 2 = .ok (.iload_n 1, 1) := by decide +kernel
theorem dX11_failBy_3 : decode cX11_failBy 3 = .ok (.iload_n 2, 1) := by decide +kernel
theorem dX11_failBy_4 : decode cX11_failBy 4 = .ok (.invokevirtual 180, 3) := by decide +kernel
theorem dX11_failBy_7 : decode cX11_failBy 7 = .ok (.return_, 1) := by decide +kernel
theorem dX11_up_0 : decode cX11_up 0 = .ok (.aload_n 0, 1) := by decide +kernel
theorem dX11_up_1 : decode cX11_up 1 = .ok (.getfield 174, 3) := by decide +kernel
theorem dX11_up_4 : decode cX11_up 4 = .ok (.iconst 1, 1) := by decide +kernel
theorem dX11_up_5 : decode cX11_up 5 = .ok (.isub, 1) := by decide +kernel
theorem dX11_up_6 : decode cX11_up 6 = .ok (.istore_n 1, 1) := by decide +kernel
theorem dX11_up_7 : decode cX11_up 7 = .ok (.aload_n 0, 1) := by decide +kernel
theorem dX11_up_8 : decode cX11_up 8 = .ok (.getfield 70, 3) := by decide +kernel
theorem dX11_up_11 : decode cX11_up 11 = .ok (.iload_n 1, 1) := by decide +kernel
theorem dX11_up_12 : decode cX11_up 12 = .ok (.iaload, 1) := by decide +kernel
theorem dX11_up_13 : decode cX11_up 13 = .ok (.istore_n 2, 1) := by decide +kernel
theorem dX11_up_14 : decode cX11_up 14 = .ok (.aload_n 0, 1) := by decide +kernel
theorem dX11_up_15 : decode cX11_up 15 = .ok (.getfield 76, 3) := by decide +kernel
theorem dX11_up_18 : decode cX11_up 18 = .ok (.iload_n 1, 1) := by decide +kernel
theorem dX11_up_19 : decode cX11_up 19 = .ok (.iaload, 1) := by decide +kernel
theorem dX11_up_20 : decode cX11_up 20 = .ok (.istore_n 3, 1) := by decide +kernel
theorem dX11_up_21 : decode cX11_up 21 = .ok (.aload_n 0, 1) := by decide +kernel
theorem dX11_up_22 : decode cX11_up 22 = .ok (.getfield 7, 3) := by decide +kernel
theorem dX11_up_25 : decode cX11_up 25 = .ok (.iload_n 2, 1) := by decide +kernel
theorem dX11_up_26 : decode cX11_up 26 = .ok (.iaload, 1) := by decide +kernel
theorem dX11_up_27 : decode cX11_up 27 = .ok (.istore 4, 2) := by decide +kernel
theorem dX11_up_29 : decode cX11_up 29 = .ok (.aload_n 0, 1) := by decide +kernel
theorem dX11_up_30 : decode cX11_up 30 = .ok (.getfield 73, 3) := by decide +kernel
theorem dX11_up_33 : decode cX11_up 33 = .ok (.iload_n 1, 1) := by decide +kernel
theorem dX11_up_34 : decode cX11_up 34 = .ok (.iaload, 1) := by decide +kernel
theorem dX11_up_35 : decode cX11_up 35 = .ok (.istore 5, 2) := by decide +kernel
theorem dX11_up_37 : decode cX11_up 37 = .ok (.iload 5, 2) := by decide +kernel
theorem dX11_up_39 : decode cX11_up 39 = .ok (.ifCond .ne 37, 3) := by decide +kernel
theorem dX11_up_42 : decode cX11_up 42 = .ok (.iload 4, 2) := by decide +kernel
theorem dX11_up_44 : decode cX11_up 44 = .ok (.invokestatic 114, 3) := by decide +kernel
theorem dX11_up_47 : decode cX11_up 47 = .ok (.bipush 7, 2) := by decide +kernel
theorem dX11_up_49 : decode cX11_up 49 = .ok (.if_icmp .ne 27, 3) := by decide +kernel
theorem dX11_up_52 : decode cX11_up 52 = .ok (.iload 4, 2) := by decide +kernel
theorem dX11_up_54 : decode cX11_up 54 = .ok (.bipush 23, 2) := by decide +kernel
theorem dX11_up_56 : decode cX11_up 56 = .ok (.if_icmp .eq 20, 3) := by decide +kernel
theorem dX11_up_59 : decode cX11_up 59 = .ok (.aload_n 0, 1) := by decide +kernel
theorem dX11_up_60 : decode cX11_up 60 = .ok (.iload_n 1, 1) := by decide +kernel
theorem dX11_up_61 : decode cX11_up 61 = .ok (.invokevirtual 184, 3) := by decide +kernel
theorem dX11_up_64 : decode cX11_up 64 = .ok (.aload_n 0, 1) := by decide +kernel
theorem dX11_up_65 : decode cX11_up 65 = .ok (.aload_n 0, 1) := by decide +kernel
theorem dX11_up_66 : decode cX11_up 66 = .ok (.getfield 16, 3) := by decide +kernel
theorem dX11_up_69 : decode cX11_up 69 = .ok (.iload_n 2, 1) := by decide +kernel
theorem dX11_up_70 : decode cX11_up 70 = .ok (.iaload, 1) := by decide +kernel
theorem dX11_up_71 : decode cX11_up 71 = .ok (.iload_n 3, 1) := by decide +kernel
theorem dX11_up_72 : decode cX11_up 72 = .ok (.invokevirtual 177, 3) := by decide +kernel
theorem dX11_up_75 : decode cX11_up 75 = .ok (.return_, 1) := by decide +kernel
theorem dX11_up_76 : decode cX11_up 76 = .ok (.iload 5, 2) := by decide +kernel
theorem dX11_up_78 : decode cX11_up 78 = .ok (.iconst 1, 1) := by decide +kernel
theorem dX11_up_79 : decode cX11_up 79 = .ok (.if_icmp .ne 34, 3) := by decide +kernel
theorem dX11_up_82 : decode cX11_up 82 = .ok (.iload 4, 2) := by decide +kernel
theorem dX11_up_84 : decode cX11_up 84 = .ok (.bipush 16, 2) := by decide +kernel
theorem dX11_up_86 : decode cX11_up 86 = .ok (.if_icmp .eq 10, 3) := by decide +kernel
theorem dX11_up_89 : decode cX11_up 89 = .ok (.iload 4, 2) := by decide +kernel
theorem dX11_up_91 : decode cX11_up 91 = .ok (.bipush 19, 2) := by decide +kernel
theorem dX11_up_93 : decode cX11_up 93 = .ok (.if_icmp .ne 20, 3) := by decide +kernel
theorem dX11_up_96 : decode cX11_up 96 = .ok (.aload_n 0, 1) := by decide +kernel
theorem dX11_up_97 : decode cX11_up 97 = .ok (.iload_n 1, 1) := by decide +kernel
theorem dX11_up_98 : decode cX11_up 98 = .ok (.invokevirtual 188, 3) := by decide +kernel
theorem dX11_up_101 : decode cX11_up 101 = .ok (.aload_n 0, 1) := by decide +kernel
theorem dX11_up_102 : decode cX11_up 102 = .ok (.aload_n 0, 1) := by decide +kernel
theorem dX11_up_103 : decode cX11_up 103 = .ok (.getfield 19, 3) := by decide +kernel
theorem dX11_up_106 : decode cX11_up 106 = .ok (.iload_n 2, 1) := by decide +kernel
theorem dX11_up_107 : decode cX11_up 107 = .ok (.iaload, 1) := by decide +kernel
theorem dX11_up_108 : decode cX11_up 108 = .ok (.iload_n 3, 1) := by decide +kernel
theorem dX11_up_109 : decode cX11_up 109 = .ok (.invokevirtual 177, 3) := by decide +kernel
theorem dX11_up_112 : decode cX11_up 112 = .ok (.return_, 1) := by decide +kernel
theorem dX11_up_113 : decode cX11_up 113 = .ok (.iload 4, 2) := by decide +kernel
theorem dX11_up_115 : decode cX11_up 115 = .ok (.iconst 5, 1) := by decide +kernel
theorem dX11_up_116 : decode cX11_up 116 = .ok (.bipush 9, 2) := by decide +kernel
theorem dX11_up_118 : decode cX11_up 118 = .ok (.invokestatic 107, 3) := by decide +kernel
theorem dX11_up_121 : decode cX11_up 121 = .ok (.ifCond .ne 17, 3) := by decide +kernel
theorem dX11_up_124 : decode cX11_up 124 = .ok (.iload 4, 2) := by decide +kernel
theorem dX11_up_126 : decode cX11_up 126 = .ok (.bipush 15, 2) := by decide +kernel
theorem dX11_up_128 : decode cX11_up 128 = .ok (.if_icmp .eq 10, 3) := by decide +kernel
theorem dX11_up_131 : decode cX11_up 131 = .ok (.iload 4, 2) := by decide +kernel
theorem dX11_up_133 : decode cX11_up 133 = .ok (.bipush 18, 2) := by decide +kernel
theorem dX11_up_135 : decode cX11_up 135 = .ok (.if_icmp .ne 7, 3) := by decide +kernel
theorem dX11_up_138 : decode cX11_up 138 = .ok (.iconst 1, 1) := by decide +kernel
theorem dX11_up_139 : decode cX11_up 139 = .ok (.goto 4, 3) := by decide +kernel
theorem dX11_up_142 : decode cX11_up 142 = .ok (.iconst 0, 1) := by decide +kernel
theorem dX11_up_143 : decode cX11_up 143 = .ok (.istore 6, 2) := by decide +kernel
theorem dX11_up_145 : decode cX11_up 145 = .ok (.iload 5, 2) := by decide +kernel
theorem dX11_up_147 : decode cX11_up 147 = .ok (.ifCond .ne 38, 3) := by decide +kernel
theorem dX11_up_150 : decode cX11_up 150 = .ok (.iload 6, 2) := by decide +kernel
theorem dX11_up_152 : decode cX11_up 152 = .ok (.ifCond .ne 16, 3) := by decide +kernel
theorem dX11_up_155 : decode cX11_up 155 = .ok (.iload 4, 2) := by decide +kernel
theorem dX11_up_157 : decode cX11_up 157 = .ok (.iconst 3, 1) := by decide +kernel
theorem dX11_up_158 : decode cX11_up 158 = .ok (.if_icmp .eq 10, 3) := by decide +kernel
theorem dX11_up_161 : decode cX11_up 161 = .ok (.iload 4, 2) := by decide +kernel
theorem dX11_up_163 : decode cX11_up 163 = .ok (.bipush 22, 2) := by decide +kernel
theorem dX11_up_165 : decode cX11_up 165 = .ok (.if_icmp .ne 20, 3) := by decide +kernel
theorem dX11_up_168 : decode cX11_up 168 = .ok (.aload_n 0, 1) := by decide +kernel
theorem dX11_up_169 : decode cX11_up 169 = .ok (.iload_n 1, 1) := by decide +kernel
theorem dX11_up_170 : decode cX11_up 170 = .ok (.invokevirtual 184, 3) := by decide +kernel
theorem dX11_up_173 : decode cX11_up 173 = .ok (.aload_n 0, 1) := by decide +kernel
theorem dX11_up_174 : decode cX11_up 174 = .ok (.aload_n 0, 1) := by decide +kernel
theorem dX11_up_175 : decode cX11_up 175 = .ok (.getfield 16, 3) := by decide +kernel
theorem dX11_up_178 : decode cX11_up 178 = .ok (.iload_n 2, 1) := by decide +kernel
theorem dX11_up_179 : decode cX11_up 179 = .ok (.iaload, 1) := by decide +kernel
theorem dX11_up_180 : decode cX11_up 180 = .ok (.iload_n 3, 1) := by decide +kernel
theorem dX11_up_181 : decode cX11_up 181 = .ok (.invokevirtual 177, 3) := by decide +kernel
theorem dX11_up_184 : decode cX11_up 184 = .ok (.return_, 1) := by decide +kernel
theorem dX11_up_185 : decode cX11_up 185 = .ok (.aload_n 0, 1) := by decide +kernel
theorem dX11_up_186 : decode cX11_up 186 = .ok (.iload_n 1, 1) := by decide +kernel
theorem dX11_up_187 : decode cX11_up 187 = .ok (.iload_n 2, 1) := by decide +kernel
theorem dX11_up_188 : decode cX11_up 188 = .ok (.iload_n 3, 1) := by decide +kernel
theorem dX11_up_189 : decode cX11_up 189 = .ok (.iload 4, 2) := by decide +kernel
theorem dX11_up_191 : decode cX11_up 191 = .ok (.iload 5, 2) := by decide +kernel
theorem dX11_up_193 : decode cX11_up 193 = .ok (.invokevirtual 191, 3) := by decide +kernel
theorem dX11_up_196 : decode cX11_up 196 = .ok (.return_, 1) := by decide +kernel
theorem dX11_upOf_0 : decode cX11_upOf 0 = .ok (.iload 4, 2) := by decide +kernel
theorem dX11_upOf_2 : decode cX11_upOf 2 = .ok (.tableswitch 505 3 20 #[86, 99, 178, 178, 178, 178, 178, 210, 210, 210, 230, 230, 297, 327, 346, 399, 450, 469], 86) := by decide +kernel
theorem dX11_upOf_88 : decode cX11_upOf 88 = .ok (.aload_n 0, 1) := by decide +kernel
theorem dX11_upOf_89 : decode cX11_upOf 89 = .ok (.dup, 1) := by decide +kernel
theorem dX11_upOf_90 : decode cX11_upOf 90 = .ok (.getfield 174, 3) := by decide +kernel
theorem dX11_upOf_93 : decode cX11_upOf 93 = .ok (.iconst 1, 1) := by decide +kernel
theorem dX11_upOf_94 : decode cX11_upOf 94 = .ok (.isub, 1) := by decide +kernel
theorem dX11_upOf_95 : decode cX11_upOf 95 = .ok (.putfield 174, 3) := by decide +kernel
theorem dX11_upOf_98 : decode cX11_upOf 98 = .ok (.goto 420, 3) := by decide +kernel
theorem dX11_upOf_101 : decode cX11_upOf 101 = .ok (.iload 5, 2) := by decide +kernel
theorem dX11_upOf_103 : decode cX11_upOf 103 = .ok (.ifCond .ne 64, 3) := by decide +kernel
theorem dX11_upOf_106 : decode cX11_upOf 106 = .ok (.aload_n 0, 1) := by decide +kernel
theorem dX11_upOf_107 : decode cX11_upOf 107 = .ok (.getfield 46, 3) := by decide +kernel
theorem dX11_upOf_110 : decode cX11_upOf 110 = .ok (.bipush 8, 2) := by decide +kernel
theorem dX11_upOf_112 : decode cX11_upOf 112 = .ok (.iload_n 3, 1) := by decide +kernel
theorem dX11_upOf_113 : decode cX11_upOf 113 = .ok (.imul, 1) := by decide +kernel
theorem dX11_upOf_114 : decode cX11_upOf 114 = .ok (.aload_n 0, 1) := by decide +kernel
theorem dX11_upOf_115 : decode cX11_upOf 115 = .ok (.getfield 16, 3) := by decide +kernel
theorem dX11_upOf_118 : decode cX11_upOf 118 = .ok (.iload_n 2, 1) := by decide +kernel
theorem dX11_upOf_119 : decode cX11_upOf 119 = .ok (.iaload, 1) := by decide +kernel
theorem dX11_upOf_120 : decode cX11_upOf 120 = .ok (.iadd, 1) := by decide +kernel
theorem dX11_upOf_121 : decode cX11_upOf 121 = .ok (.aload_n 0, 1) := by decide +kernel
theorem dX11_upOf_122 : decode cX11_upOf 122 = .ok (.getfield 125, 3) := by decide +kernel
theorem dX11_upOf_125 : decode cX11_upOf 125 = .ok (.iastore, 1) := by decide +kernel
theorem dX11_upOf_126 : decode cX11_upOf 126 = .ok (.aload_n 0, 1) := by decide +kernel
theorem dX11_upOf_127 : decode cX11_upOf 127 = .ok (.getfield 49, 3) := by decide +kernel
theorem dX11_upOf_130 : decode cX11_upOf 130 = .ok (.bipush 8, 2) := by decide +kernel
theorem dX11_upOf_132 : decode cX11_upOf 132 = .ok (.iload_n 3, 1) := by decide +kernel
theorem dX11_upOf_133 : decode cX11_upOf 133 = .ok (.imul, 1) := by decide +kernel
theorem dX11_upOf_134 : decode cX11_upOf 134 = .ok (.aload_n 0, 1) := by decide +kernel
theorem dX11_upOf_135 : decode cX11_upOf 135 = .ok (.getfield 16, 3) := by decide +kernel
theorem dX11_upOf_138 : decode cX11_upOf 138 = .ok (.iload_n 2, 1) := by decide +kernel
theorem dX11_upOf_139 : decode cX11_upOf 139 = .ok (.iaload, 1) := by decide +kernel
theorem dX11_upOf_140 : decode cX11_upOf 140 = .ok (.iadd, 1) := by decide +kernel
theorem dX11_upOf_141 : decode cX11_upOf 141 = .ok (.aload_n 0, 1) := by decide +kernel
theorem dX11_upOf_142 : decode cX11_upOf 142 = .ok (.getfield 128, 3) := by decide +kernel
theorem dX11_upOf_145 : decode cX11_upOf 145 = .ok (.iastore, 1) := by decide +kernel
theorem dX11_upOf_146 : decode cX11_upOf 146 = .ok (.aload_n 0, 1) := by decide +kernel
theorem dX11_upOf_147 : decode cX11_upOf 147 = .ok (.getfield 73, 3) := by decide +kernel
theorem dX11_upOf_150 : decode cX11_upOf 150 = .ok (.iload_n 1, 1) := by decide +kernel
theorem dX11_upOf_151 : decode cX11_upOf 151 = .ok (.iconst 1, 1) := by decide +kernel
theorem dX11_upOf_152 : decode cX11_upOf 152 = .ok (.iastore, 1) := by decide +kernel
theorem dX11_upOf_153 : decode cX11_upOf 153 = .ok (.aload_n 0, 1) := by decide +kernel
theorem dX11_upOf_154 : decode cX11_upOf 154 = .ok (.aload_n 0, 1) := by decide +kernel
theorem dX11_upOf_155 : decode cX11_upOf 155 = .ok (.getfield 19, 3) := by decide +kernel
theorem dX11_upOf_158 : decode cX11_upOf 158 = .ok (.iload_n 2, 1) := by decide +kernel
theorem dX11_upOf_159 : decode cX11_upOf 159 = .ok (.iaload, 1) := by decide +kernel
theorem dX11_upOf_160 : decode cX11_upOf 160 = .ok (.iload_n 3, 1) := by decide +kernel
theorem dX11_upOf_161 : decode cX11_upOf 161 = .ok (.invokevirtual 177, 3) := by decide +kernel
theorem dX11_upOf_164 : decode cX11_upOf 164 = .ok (.goto 354, 3) := by decide +kernel
theorem dX11_upOf_167 : decode cX11_upOf 167 = .ok (.aload_n 0, 1) := by decide +kernel
theorem dX11_upOf_168 : decode cX11_upOf 168 = .ok (.dup, 1) := by decide +kernel
theorem dX11_upOf_169 : decode cX11_upOf 169 = .ok (.getfield 174, 3) := by decide +kernel
theorem dX11_upOf_172 : decode cX11_upOf 172 = .ok (.iconst 1, 1) := by decide +kernel
theorem dX11_upOf_173 : decode cX11_upOf 173 = .ok (.isub, 1) := by decide +kernel
theorem dX11_upOf_174 : decode cX11_upOf 174 = .ok (.putfield 174, 3) := by decide +kernel
theorem dX11_upOf_177 : decode cX11_upOf 177 = .ok (.goto 341, 3) := by decide +kernel
theorem dX11_upOf_180 : decode cX11_upOf 180 = .ok (.aload_n 0, 1) := by decide +kernel
theorem dX11_upOf_181 : decode cX11_upOf 181 = .ok (.dup, 1) := by decide +kernel
theorem dX11_upOf_182 : decode cX11_upOf 182 = .ok (.getfield 174, 3) := by decide +kernel
theorem dX11_upOf_185 : decode cX11_upOf 185 = .ok (.iconst 1, 1) := by decide +kernel
theorem dX11_upOf_186 : decode cX11_upOf 186 = .ok (.isub, 1) := by decide +kernel
theorem dX11_upOf_187 : decode cX11_upOf 187 = .ok (.putfield 174, 3) := by decide +kernel
theorem dX11_upOf_190 : decode cX11_upOf 190 = .ok (.aload_n 0, 1) := by decide +kernel
theorem dX11_upOf_191 : decode cX11_upOf 191 = .ok (.iload_n 2, 1) := by decide +kernel
theorem dX11_upOf_192 : decode cX11_upOf 192 = .ok (.iload 4, 2) := by decide +kernel
theorem dX11_upOf_194 : decode cX11_upOf 194 = .ok (.aload_n 0, 1) := by decide +kernel
theorem dX11_upOf_195 : decode cX11_upOf 195 = .ok (.getfield 79, 3) := by decide +kernel
theorem dX11_upOf_198 : decode cX11_upOf 198 = .ok (.iload_n 1, 1) := by decide +kernel
theorem dX11_upOf_199 : decode cX11_upOf 199 = .ok (.iaload, 1) := by decide +kernel
theorem dX11_upOf_200 : decode cX11_upOf 200 = .ok (.aload_n 0, 1) := by decide +kernel
theorem dX11_upOf_201 : decode cX11_upOf 201 = .ok (.getfield 82, 3) := by decide +kernel
theorem dX11_upOf_204 : decode cX11_upOf 204 = .ok (.iload_n 1, 1) := by decide +kernel
theorem dX11_upOf_205 : decode cX11_upOf 205 = .ok (.iaload, 1) := by decide +kernel
theorem dX11_upOf_206 : decode cX11_upOf 206 = .ok (.invokevirtual 195, 3) := by decide +kernel
theorem dX11_upOf_209 : decode cX11_upOf 209 = .ok (.goto 309, 3) := by decide +kernel
theorem dX11_upOf_212 : decode cX11_upOf 212 = .ok (.aload_n 0, 1) := by decide +kernel
theorem dX11_upOf_213 : decode cX11_upOf 213 = .ok (.dup, 1) := by decide +kernel
theorem dX11_upOf_214 : decode cX11_upOf 214 = .ok (.getfield 174, 3) := by decide +kernel
theorem dX11_upOf_217 : decode cX11_upOf 217 = .ok (.iconst 1, 1) := by decide +kernel
theorem dX11_upOf_218 : decode cX11_upOf 218 = .ok (.isub, 1) := by decide +kernel
theorem dX11_upOf_219 : decode cX11_upOf 219 = .ok (.putfield 174, 3) := by decide +kernel
theorem dX11_upOf_222 : decode cX11_upOf 222 = .ok (.aload_n 0, 1) := by decide +kernel
theorem dX11_upOf_223 : decode cX11_upOf 223 = .ok (.iload_n 2, 1) := by decide +kernel
theorem dX11_upOf_224 : decode cX11_upOf 224 = .ok (.iload 4, 2) := by decide +kernel
theorem dX11_upOf_226 : decode cX11_upOf 226 = .ok (.invokevirtual 199, 3) := by decide +kernel
theorem dX11_upOf_229 : decode cX11_upOf 229 = .ok (.goto 289, 3) := by decide +kernel
theorem dX11_upOf_232 : decode cX11_upOf 232 = .ok (.aload_n 0, 1) := by decide +kernel
theorem dX11_upOf_233 : decode cX11_upOf 233 = .ok (.dup, 1) := by decide +kernel
theorem dX11_upOf_234 : decode cX11_upOf 234 = .ok (.getfield 174, 3) := by decide +kernel
theorem dX11_upOf_237 : decode cX11_upOf 237 = .ok (.iconst 1, 1) := by decide +kernel
theorem dX11_upOf_238 : decode cX11_upOf 238 = .ok (.isub, 1) := by decide +kernel
theorem dX11_upOf_239 : decode cX11_upOf 239 = .ok (.putfield 174, 3) := by decide +kernel
theorem dX11_upOf_242 : decode cX11_upOf 242 = .ok (.aload_n 0, 1) := by decide +kernel
theorem dX11_upOf_243 : decode cX11_upOf 243 = .ok (.iconst 1, 1) := by decide +kernel
theorem dX11_upOf_244 : decode cX11_upOf 244 = .ok (.invokevirtual 171, 3) := by decide +kernel
theorem dX11_upOf_247 : decode cX11_upOf 247 = .ok (.istore 6, 2) := by decide +kernel
theorem dX11_upOf_249 : decode cX11_upOf 249 = .ok (.aload_n 0, 1) := by decide +kernel
theorem dX11_upOf_250 : decode cX11_upOf 250 = .ok (.getfield 25, 3) := by decide +kernel
theorem dX11_upOf_253 : decode cX11_upOf 253 = .ok (.bipush 16, 2) := by decide +kernel
theorem dX11_upOf_255 : decode cX11_upOf 255 = .ok (.iload 6, 2) := by decide +kernel
theorem dX11_upOf_257 : decode cX11_upOf 257 = .ok (.imul, 1) := by decide +kernel
theorem dX11_upOf_258 : decode cX11_upOf 258 = .ok (.aload_n 0, 1) := by decide +kernel
theorem dX11_upOf_259 : decode cX11_upOf 259 = .ok (.getfield 125, 3) := by decide +kernel
theorem dX11_upOf_262 : decode cX11_upOf 262 = .ok (.iastore, 1) := by decide +kernel
theorem dX11_upOf_263 : decode cX11_upOf 263 = .ok (.aload_n 0, 1) := by decide +kernel
theorem dX11_upOf_264 : decode cX11_upOf 264 = .ok (.getfield 28, 3) := by decide +kernel
theorem dX11_upOf_267 : decode cX11_upOf 267 = .ok (.bipush 16, 2) := by decide +kernel
theorem dX11_upOf_269 : decode cX11_upOf 269 = .ok (.iload 6, 2) := by decide +kernel
theorem dX11_upOf_271 : decode cX11_upOf 271 = .ok (.imul, 1) := by decide +kernel
theorem dX11_upOf_272 : decode cX11_upOf 272 = .ok (.aload_n 0, 1) := by decide +kernel
theorem dX11_upOf_273 : decode cX11_upOf 273 = .ok (.getfield 128, 3) := by decide +kernel
theorem dX11_upOf_276 : decode cX11_upOf 276 = .ok (.iastore, 1) := by decide +kernel
theorem dX11_upOf_277 : decode cX11_upOf 277 = .ok (.aload_n 0, 1) := by decide +kernel
theorem dX11_upOf_278 : decode cX11_upOf 278 = .ok (.iload 4, 2) := by decide +kernel
theorem dX11_upOf_280 : decode cX11_upOf 280 = .ok (.bipush 13, 2) := by decide +kernel
theorem dX11_upOf_282 : decode cX11_upOf 282 = .ok (.if_icmp .ne 7, 3) := by decide +kernel
theorem dX11_upOf_285 : decode cX11_upOf 285 = .ok (.iconst 5, 1) := by decide +kernel
theorem dX11_upOf_286 : decode cX11_upOf 286 = .ok (.goto 5, 3) := by decide +kernel
theorem dX11_upOf_289 : decode cX11_upOf 289 = .ok (.bipush 6, 2) := by decide +kernel
theorem dX11_upOf_291 : decode cX11_upOf 291 = .ok (.iload 6, 2) := by decide +kernel
theorem dX11_upOf_293 : decode cX11_upOf 293 = .ok (.invokevirtual 168, 3) := by decide +kernel
theorem dX11_upOf_296 : decode cX11_upOf 296 = .ok (.goto 222, 3) := by decide +kernel
theorem dX11_upOf_299 : decode cX11_upOf 299 = .ok (.aload_n 0, 1) := by decide +kernel
theorem dX11_upOf_300 : decode cX11_upOf 300 = .ok (.dup, 1) := by decide +kernel
theorem dX11_upOf_301 : decode cX11_upOf 301 = .ok (.getfield 174, 3) := by decide +kernel
theorem dX11_upOf_304 : decode cX11_upOf 304 = .ok (.iconst 1, 1) := by decide +kernel
theorem dX11_upOf_305 : decode cX11_upOf 305 = .ok (.isub, 1) := by decide +kernel
theorem dX11_upOf_306 : decode cX11_upOf 306 = .ok (.putfield 174, 3) := by decide +kernel
theorem dX11_upOf_309 : decode cX11_upOf 309 = .ok (.aload_n 0, 1) := by decide +kernel
theorem dX11_upOf_310 : decode cX11_upOf 310 = .ok (.iload_n 2, 1) := by decide +kernel
theorem dX11_upOf_311 : decode cX11_upOf 311 = .ok (.aload_n 0, 1) := by decide +kernel
theorem dX11_upOf_312 : decode cX11_upOf 312 = .ok (.getfield 79, 3) := by decide +kernel
theorem dX11_upOf_315 : decode cX11_upOf 315 = .ok (.iload_n 1, 1) := by decide +kernel
theorem dX11_upOf_316 : decode cX11_upOf 316 = .ok (.iaload, 1) := by decide +kernel
theorem dX11_upOf_317 : decode cX11_upOf 317 = .ok (.aload_n 0, 1) := by decide +kernel
theorem dX11_upOf_318 : decode cX11_upOf 318 = .ok (.getfield 82, 3) := by decide +kernel
theorem dX11_upOf_321 : decode cX11_upOf 321 = .ok (.iload_n 1, 1) := by decide +kernel
theorem dX11_upOf_322 : decode cX11_upOf 322 = .ok (.iaload, 1) := by decide +kernel
theorem dX11_upOf_323 : decode cX11_upOf 323 = .ok (.invokevirtual 202, 3) := by decide +kernel
theorem dX11_upOf_326 : decode cX11_upOf 326 = .ok (.goto 192, 3) := by decide +kernel
theorem dX11_upOf_329 : decode cX11_upOf 329 = .ok (.aload_n 0, 1) := by decide +kernel
theorem dX11_upOf_330 : decode cX11_upOf 330 = .ok (.dup, 1) := by decide +kernel
theorem dX11_upOf_331 : decode cX11_upOf 331 = .ok (.getfield 174, 3) := by decide +kernel
theorem dX11_upOf_334 : decode cX11_upOf 334 = .ok (.iconst 1, 1) := by decide +kernel
theorem dX11_upOf_335 : decode cX11_upOf 335 = .ok (.isub, 1) := by decide +kernel
theorem dX11_upOf_336 : decode cX11_upOf 336 = .ok (.putfield 174, 3) := by decide +kernel
theorem dX11_upOf_339 : decode cX11_upOf 339 = .ok (.aload_n 0, 1) := by decide +kernel
theorem dX11_upOf_340 : decode cX11_upOf 340 = .ok (.iload_n 2, 1) := by decide +kernel
theorem dX11_upOf_341 : decode cX11_upOf 341 = .ok (.iload_n 1, 1) := by decide +kernel
theorem dX11_upOf_342 : decode cX11_upOf 342 = .ok (.invokevirtual 205, 3) := by decide +kernel
theorem dX11_upOf_345 : decode cX11_upOf 345 = .ok (.goto 173, 3) := by decide +kernel
theorem dX11_upOf_348 : decode cX11_upOf 348 = .ok (.aload_n 0, 1) := by decide +kernel
theorem dX11_upOf_349 : decode cX11_upOf 349 = .ok (.dup, 1) := by decide +kernel
theorem dX11_upOf_350 : decode cX11_upOf 350 = .ok (.getfield 174, 3) := by decide +kernel
theorem dX11_upOf_353 : decode cX11_upOf 353 = .ok (.iconst 1, 1) := by decide +kernel
theorem dX11_upOf_354 : decode cX11_upOf 354 = .ok (.isub, 1) := by decide +kernel
theorem dX11_upOf_355 : decode cX11_upOf 355 = .ok (.putfield 174, 3) := by decide +kernel
theorem dX11_upOf_358 : decode cX11_upOf 358 = .ok (.aload_n 0, 1) := by decide +kernel
theorem dX11_upOf_359 : decode cX11_upOf 359 = .ok (.aload_n 0, 1) := by decide +kernel
theorem dX11_upOf_360 : decode cX11_upOf 360 = .ok (.getfield 125, 3) := by decide +kernel
theorem dX11_upOf_363 : decode cX11_upOf 363 = .ok (.iload_n 2, 1) := by decide +kernel
theorem dX11_upOf_364 : decode cX11_upOf 364 = .ok (.invokevirtual 208, 3) := by decide +kernel
theorem dX11_upOf_367 : decode cX11_upOf 367 = .ok (.ifCond .eq 151, 3) := by decide +kernel
theorem dX11_upOf_370 : decode cX11_upOf 370 = .ok (.aload_n 0, 1) := by decide +kernel
theorem dX11_upOf_371 : decode cX11_upOf 371 = .ok (.aload_n 0, 1) := by decide +kernel
theorem dX11_upOf_372 : decode cX11_upOf 372 = .ok (.getfield 25, 3) := by decide +kernel
theorem dX11_upOf_375 : decode cX11_upOf 375 = .ok (.bipush 16, 2) := by decide +kernel
theorem dX11_upOf_377 : decode cX11_upOf 377 = .ok (.aload_n 0, 1) := by decide +kernel
theorem dX11_upOf_378 : decode cX11_upOf 378 = .ok (.getfield 128, 3) := by decide +kernel
theorem dX11_upOf_381 : decode cX11_upOf 381 = .ok (.imul, 1) := by decide +kernel
theorem dX11_upOf_382 : decode cX11_upOf 382 = .ok (.iaload, 1) := by decide +kernel
theorem dX11_upOf_383 : decode cX11_upOf 383 = .ok (.aload_n 0, 1) := by decide +kernel
theorem dX11_upOf_384 : decode cX11_upOf 384 = .ok (.getfield 28, 3) := by decide +kernel
theorem dX11_upOf_387 : decode cX11_upOf 387 = .ok (.bipush 16, 2) := by decide +kernel
theorem dX11_upOf_389 : decode cX11_upOf 389 = .ok (.aload_n 0, 1) := by decide +kernel
theorem dX11_upOf_390 : decode cX11_upOf 390 = .ok (.getfield 128, 3) := by decide +kernel
theorem dX11_upOf_393 : decode cX11_upOf 393 = .ok (.imul, 1) := by decide +kernel
theorem dX11_upOf_394 : decode cX11_upOf 394 = .ok (.iaload, 1) := by decide +kernel
theorem dX11_upOf_395 : decode cX11_upOf 395 = .ok (.invokevirtual 168, 3) := by decide +kernel
theorem dX11_upOf_398 : decode cX11_upOf 398 = .ok (.goto 120, 3) := by decide +kernel
theorem dX11_upOf_401 : decode cX11_upOf 401 = .ok (.aload_n 0, 1) := by decide +kernel
theorem dX11_upOf_402 : decode cX11_upOf 402 = .ok (.dup, 1) := by decide +kernel
theorem dX11_upOf_403 : decode cX11_upOf 403 = .ok (.getfield 174, 3) := by decide +kernel
theorem dX11_upOf_406 : decode cX11_upOf 406 = .ok (.iconst 1, 1) := by decide +kernel
theorem dX11_upOf_407 : decode cX11_upOf 407 = .ok (.isub, 1) := by decide +kernel
theorem dX11_upOf_408 : decode cX11_upOf 408 = .ok (.putfield 174, 3) := by decide +kernel
theorem dX11_upOf_411 : decode cX11_upOf 411 = .ok (.aload_n 0, 1) := by decide +kernel
theorem dX11_upOf_412 : decode cX11_upOf 412 = .ok (.aload_n 0, 1) := by decide +kernel
theorem dX11_upOf_413 : decode cX11_upOf 413 = .ok (.getfield 79, 3) := by decide +kernel
theorem dX11_upOf_416 : decode cX11_upOf 416 = .ok (.iload_n 1, 1) := by decide +kernel
theorem dX11_upOf_417 : decode cX11_upOf 417 = .ok (.iaload, 1) := by decide +kernel
theorem dX11_upOf_418 : decode cX11_upOf 418 = .ok (.iload_n 2, 1) := by decide +kernel
theorem dX11_upOf_419 : decode cX11_upOf 419 = .ok (.invokevirtual 208, 3) := by decide +kernel
theorem dX11_upOf_422 : decode cX11_upOf 422 = .ok (.ifCond .eq 96, 3) := by decide +kernel
theorem dX11_upOf_425 : decode cX11_upOf 425 = .ok (.aload_n 0, 1) := by decide +kernel
theorem dX11_upOf_426 : decode cX11_upOf 426 = .ok (.bipush 8, 2) := by decide +kernel
theorem dX11_upOf_428 : decode cX11_upOf 428 = .ok (.bipush 16, 2) := by decide +kernel
theorem dX11_upOf_430 : decode cX11_upOf 430 = .ok (.aload_n 0, 1) := by decide +kernel
theorem dX11_upOf_431 : decode cX11_upOf 431 = .ok (.getfield 82, 3) := by decide +kernel
theorem dX11_upOf_434 : decode cX11_upOf 434 = .ok (.iload_n 1, 1) := by decide +kernel
theorem dX11_upOf_435 : decode cX11_upOf 435 = .ok (.iaload, 1) := by decide +kernel
theorem dX11_upOf_436 : decode cX11_upOf 436 = .ok (.imul, 1) := by decide +kernel
theorem dX11_upOf_437 : decode cX11_upOf 437 = .ok (.iadd, 1) := by decide +kernel
theorem dX11_upOf_438 : decode cX11_upOf 438 = .ok (.aload_n 0, 1) := by decide +kernel
theorem dX11_upOf_439 : decode cX11_upOf 439 = .ok (.getfield 125, 3) := by decide +kernel
theorem dX11_upOf_442 : decode cX11_upOf 442 = .ok (.aload_n 0, 1) := by decide +kernel
theorem dX11_upOf_443 : decode cX11_upOf 443 = .ok (.getfield 128, 3) := by decide +kernel
theorem dX11_upOf_446 : decode cX11_upOf 446 = .ok (.invokevirtual 212, 3) := by decide +kernel
theorem dX11_upOf_449 : decode cX11_upOf 449 = .ok (.goto 69, 3) := by decide +kernel
theorem dX11_upOf_452 : decode cX11_upOf 452 = .ok (.aload_n 0, 1) := by decide +kernel
theorem dX11_upOf_453 : decode cX11_upOf 453 = .ok (.dup, 1) := by decide +kernel
theorem dX11_upOf_454 : decode cX11_upOf 454 = .ok (.getfield 174, 3) := by decide +kernel
theorem dX11_upOf_457 : decode cX11_upOf 457 = .ok (.iconst 1, 1) := by decide +kernel
theorem dX11_upOf_458 : decode cX11_upOf 458 = .ok (.isub, 1) := by decide +kernel
theorem dX11_upOf_459 : decode cX11_upOf 459 = .ok (.putfield 174, 3) := by decide +kernel
theorem dX11_upOf_462 : decode cX11_upOf 462 = .ok (.aload_n 0, 1) := by decide +kernel
theorem dX11_upOf_463 : decode cX11_upOf 463 = .ok (.iload_n 2, 1) := by decide +kernel
theorem dX11_upOf_464 : decode cX11_upOf 464 = .ok (.iload_n 1, 1) := by decide +kernel
theorem dX11_upOf_465 : decode cX11_upOf 465 = .ok (.invokevirtual 215, 3) := by decide +kernel
theorem dX11_upOf_468 : decode cX11_upOf 468 = .ok (.goto 50, 3) := by decide +kernel
theorem dX11_upOf_471 : decode cX11_upOf 471 = .ok (.aload_n 0, 1) := by decide +kernel
theorem dX11_upOf_472 : decode cX11_upOf 472 = .ok (.dup, 1) := by decide +kernel
theorem dX11_upOf_473 : decode cX11_upOf 473 = .ok (.getfield 174, 3) := by decide +kernel
theorem dX11_upOf_476 : decode cX11_upOf 476 = .ok (.iconst 1, 1) := by decide +kernel
theorem dX11_upOf_477 : decode cX11_upOf 477 = .ok (.isub, 1) := by decide +kernel
theorem dX11_upOf_478 : decode cX11_upOf 478 = .ok (.putfield 174, 3) := by decide +kernel
theorem dX11_upOf_481 : decode cX11_upOf 481 = .ok (.aload_n 0, 1) := by decide +kernel
theorem dX11_upOf_482 : decode cX11_upOf 482 = .ok (.aload_n 0, 1) := by decide +kernel
theorem dX11_upOf_483 : decode cX11_upOf 483 = .ok (.getfield 125, 3) := by decide +kernel
theorem dX11_upOf_486 : decode cX11_upOf 486 = .ok (.iload_n 2, 1) := by decide +kernel
theorem dX11_upOf_487 : decode cX11_upOf 487 = .ok (.invokevirtual 218, 3) := by decide +kernel
theorem dX11_upOf_490 : decode cX11_upOf 490 = .ok (.ifCond .eq 28, 3) := by decide +kernel
theorem dX11_upOf_493 : decode cX11_upOf 493 = .ok (.aload_n 0, 1) := by decide +kernel
theorem dX11_upOf_494 : decode cX11_upOf 494 = .ok (.bipush 7, 2) := by decide +kernel
theorem dX11_upOf_496 : decode cX11_upOf 496 = .ok (.aload_n 0, 1) := by decide +kernel
theorem dX11_upOf_497 : decode cX11_upOf 497 = .ok (.getfield 128, 3) := by decide +kernel
theorem dX11_upOf_500 : decode cX11_upOf 500 = .ok (.iload_n 2, 1) := by decide +kernel
theorem dX11_upOf_501 : decode cX11_upOf 501 = .ok (.invokevirtual 180, 3) := by decide +kernel
theorem dX11_upOf_504 : decode cX11_upOf 504 = .ok (.goto 14, 3) := by decide +kernel
theorem dX11_upOf_507 : decode cX11_upOf 507 = .ok (.aload_n 0, 1) := by decide +kernel
theorem dX11_upOf_508 : decode cX11_upOf 508 = .ok (.iload_n 1, 1) := by decide +kernel
theorem dX11_upOf_509 : decode cX11_upOf 509 = .ok (.iload_n 2, 1) := by decide +kernel
theorem dX11_upOf_510 : decode cX11_upOf 510 = .ok (.iload_n 3, 1) := by decide +kernel
theorem dX11_upOf_511 : decode cX11_upOf 511 = .ok (.iload 4, 2) := by decide +kernel
theorem dX11_upOf_513 : decode cX11_upOf 513 = .ok (.iload 5, 2) := by decide +kernel
theorem dX11_upOf_515 : decode cX11_upOf 515 = .ok (.invokevirtual 221, 3) := by decide +kernel
theorem dX11_upOf_518 : decode cX11_upOf 518 = .ok (.return_, 1) := by decide +kernel
theorem dX11_upLater_0 : decode cX11_upLater 0 = .ok (.iload 4, 2) := by decide +kernel
theorem dX11_upLater_2 : decode cX11_upLater 2 = .ok (.tableswitch 330 22 31 #[54, 127, 208, 220, 231, 330, 288, 330, 330, 299], 54) := by decide +kernel
theorem dX11_upLater_56 : decode cX11_upLater 56 = .ok (.aload_n 0, 1) := by decide +kernel
theorem dX11_upLater_57 : decode cX11_upLater 57 = .ok (.dup, 1) := by decide +kernel
theorem dX11_upLater_58 : decode cX11_upLater 58 = .ok (.getfield 174, 3) := by decide +kernel
theorem dX11_upLater_61 : decode cX11_upLater 61 = .ok (.iconst 1, 1) := by decide +kernel
theorem dX11_upLater_62 : decode cX11_upLater 62 = .ok (.isub, 1) := by decide +kernel
theorem dX11_upLater_63 : decode cX11_upLater 63 = .ok (.putfield 174, 3) := by decide +kernel
theorem dX11_upLater_66 : decode cX11_upLater 66 = .ok (.iload 5, 2) := by decide +kernel
theorem dX11_upLater_68 : decode cX11_upLater 68 = .ok (.iconst 1, 1) := by decide +kernel
theorem dX11_upLater_69 : decode cX11_upLater 69 = .ok (.if_icmp .ne 22, 3) := by decide +kernel
theorem dX11_upLater_72 : decode cX11_upLater 72 = .ok (.aload_n 0, 1) := by decide +kernel
theorem dX11_upLater_73 : decode cX11_upLater 73 = .ok (.aload_n 0, 1) := by decide +kernel
theorem dX11_upLater_74 : decode cX11_upLater 74 = .ok (.getfield 79, 3) := by decide +kernel
theorem dX11_upLater_77 : decode cX11_upLater 77 = .ok (.iload_n 1, 1) := by decide +kernel
theorem dX11_upLater_78 : decode cX11_upLater 78 = .ok (.iaload, 1) := by decide +kernel
theorem dX11_upLater_79 : decode cX11_upLater 79 = .ok (.aload_n 0, 1) := by decide +kernel
theorem dX11_upLater_80 : decode cX11_upLater 80 = .ok (.getfield 82, 3) := by decide +kernel
theorem dX11_upLater_83 : decode cX11_upLater 83 = .ok (.iload_n 1, 1) := by decide +kernel
theorem dX11_upLater_84 : decode cX11_upLater 84 = .ok (.iaload, 1) := by decide +kernel
theorem dX11_upLater_85 : decode cX11_upLater 85 = .ok (.invokevirtual 168, 3) := by decide +kernel
theorem dX11_upLater_88 : decode cX11_upLater 88 = .ok (.goto 254, 3) := by decide +kernel
theorem dX11_upLater_91 : decode cX11_upLater 91 = .ok (.aload_n 0, 1) := by decide +kernel
theorem dX11_upLater_92 : decode cX11_upLater 92 = .ok (.iconst 2, 1) := by decide +kernel
theorem dX11_upLater_93 : decode cX11_upLater 93 = .ok (.putfield 122, 3) := by decide +kernel
theorem dX11_upLater_96 : decode cX11_upLater 96 = .ok (.aload_n 0, 1) := by decide +kernel
theorem dX11_upLater_97 : decode cX11_upLater 97 = .ok (.aload_n 0, 1) := by decide +kernel
theorem dX11_upLater_98 : decode cX11_upLater 98 = .ok (.getfield 79, 3) := by decide +kernel
theorem dX11_upLater_101 : decode cX11_upLater 101 = .ok (.iload_n 1, 1) := by decide +kernel
theorem dX11_upLater_102 : decode cX11_upLater 102 = .ok (.iaload, 1) := by decide +kernel
theorem dX11_upLater_103 : decode cX11_upLater 103 = .ok (.putfield 137, 3) := by decide +kernel
theorem dX11_upLater_106 : decode cX11_upLater 106 = .ok (.aload_n 0, 1) := by decide +kernel
theorem dX11_upLater_107 : decode cX11_upLater 107 = .ok (.aload_n 0, 1) := by decide +kernel
theorem dX11_upLater_108 : decode cX11_upLater 108 = .ok (.getfield 82, 3) := by decide +kernel
theorem dX11_upLater_111 : decode cX11_upLater 111 = .ok (.iload_n 1, 1) := by decide +kernel
theorem dX11_upLater_112 : decode cX11_upLater 112 = .ok (.iaload, 1) := by decide +kernel
theorem dX11_upLater_113 : decode cX11_upLater 113 = .ok (.putfield 140, 3) := by decide +kernel
theorem dX11_upLater_116 : decode cX11_upLater 116 = .ok (.aload_n 0, 1) := by decide +kernel
theorem dX11_upLater_117 : decode cX11_upLater 117 = .ok (.aload_n 0, 1) := by decide +kernel
theorem dX11_upLater_118 : decode cX11_upLater 118 = .ok (.getfield 94, 3) := by decide +kernel
theorem dX11_upLater_121 : decode cX11_upLater 121 = .ok (.iload_n 1, 1) := by decide +kernel
theorem dX11_upLater_122 : decode cX11_upLater 122 = .ok (.iaload, 1) := by decide +kernel
theorem dX11_upLater_123 : decode cX11_upLater 123 = .ok (.putfield 143, 3) := by decide +kernel
theorem dX11_upLater_126 : decode cX11_upLater 126 = .ok (.goto 216, 3) := by decide +kernel
theorem dX11_upLater_129 : decode cX11_upLater 129 = .ok (.iload 5, 2) := by decide +kernel
theorem dX11_upLater_131 : decode cX11_upLater 131 = .ok (.iconst 1, 1) := by decide +kernel
theorem dX11_upLater_132 : decode cX11_upLater 132 = .ok (.if_icmp .ne 16, 3) := by decide +kernel
theorem dX11_upLater_135 : decode cX11_upLater 135 = .ok (.aload_n 0, 1) := by decide +kernel
theorem dX11_upLater_136 : decode cX11_upLater 136 = .ok (.dup, 1) := by decide +kernel
theorem dX11_upLater_137 : decode cX11_upLater 137 = .ok (.getfield 174, 3) := by decide +kernel
theorem dX11_upLater_140 : decode cX11_upLater 140 = .ok (.iconst 1, 1) := by decide +kernel
theorem dX11_upLater_141 : decode cX11_upLater 141 = .ok (.isub, 1) := by decide +kernel
theorem dX11_upLater_142 : decode cX11_upLater 142 = .ok (.putfield 174, 3) := by decide +kernel
theorem dX11_upLater_145 : decode cX11_upLater 145 = .ok (.goto 197, 3) := by decide +kernel
theorem dX11_upLater_148 : decode cX11_upLater 148 = .ok (.aload_n 0, 1) := by decide +kernel
theorem dX11_upLater_149 : decode cX11_upLater 149 = .ok (.aload_n 0, 1) := by decide +kernel
theorem dX11_upLater_150 : decode cX11_upLater 150 = .ok (.getfield 125, 3) := by decide +kernel
theorem dX11_upLater_153 : decode cX11_upLater 153 = .ok (.iload_n 2, 1) := by decide +kernel
theorem dX11_upLater_154 : decode cX11_upLater 154 = .ok (.invokevirtual 218, 3) := by decide +kernel
theorem dX11_upLater_157 : decode cX11_upLater 157 = .ok (.ifCond .eq 40, 3) := by decide +kernel
theorem dX11_upLater_160 : decode cX11_upLater 160 = .ok (.aload_n 0, 1) := by decide +kernel
theorem dX11_upLater_161 : decode cX11_upLater 161 = .ok (.getfield 73, 3) := by decide +kernel
theorem dX11_upLater_164 : decode cX11_upLater 164 = .ok (.iload_n 1, 1) := by decide +kernel
theorem dX11_upLater_165 : decode cX11_upLater 165 = .ok (.iconst 1, 1) := by decide +kernel
theorem dX11_upLater_166 : decode cX11_upLater 166 = .ok (.iastore, 1) := by decide +kernel
theorem dX11_upLater_167 : decode cX11_upLater 167 = .ok (.aload_n 0, 1) := by decide +kernel
theorem dX11_upLater_168 : decode cX11_upLater 168 = .ok (.aload_n 0, 1) := by decide +kernel
theorem dX11_upLater_169 : decode cX11_upLater 169 = .ok (.getfield 128, 3) := by decide +kernel
theorem dX11_upLater_172 : decode cX11_upLater 172 = .ok (.ifCond .eq 12, 3) := by decide +kernel
theorem dX11_upLater_175 : decode cX11_upLater 175 = .ok (.aload_n 0, 1) := by decide +kernel
theorem dX11_upLater_176 : decode cX11_upLater 176 = .ok (.getfield 16, 3) := by decide +kernel
theorem dX11_upLater_179 : decode cX11_upLater 179 = .ok (.iload_n 2, 1) := by decide +kernel
theorem dX11_upLater_180 : decode cX11_upLater 180 = .ok (.iaload, 1) := by decide +kernel
theorem dX11_upLater_181 : decode cX11_upLater 181 = .ok (.goto 9, 3) := by decide +kernel
theorem dX11_upLater_184 : decode cX11_upLater 184 = .ok (.aload_n 0, 1) := by decide +kernel
theorem dX11_upLater_185 : decode cX11_upLater 185 = .ok (.getfield 19, 3) := by decide +kernel
theorem dX11_upLater_188 : decode cX11_upLater 188 = .ok (.iload_n 2, 1) := by decide +kernel
theorem dX11_upLater_189 : decode cX11_upLater 189 = .ok (.iaload, 1) := by decide +kernel
theorem dX11_upLater_190 : decode cX11_upLater 190 = .ok (.iload_n 3, 1) := by decide +kernel
theorem dX11_upLater_191 : decode cX11_upLater 191 = .ok (.invokevirtual 177, 3) := by decide +kernel
theorem dX11_upLater_194 : decode cX11_upLater 194 = .ok (.goto 148, 3) := by decide +kernel
theorem dX11_upLater_197 : decode cX11_upLater 197 = .ok (.aload_n 0, 1) := by decide +kernel
theorem dX11_upLater_198 : decode cX11_upLater 198 = .ok (.dup, 1) := by decide +kernel
theorem dX11_upLater_199 : decode cX11_upLater 199 = .ok (.getfield 174, 3) := by decide +kernel
theorem dX11_upLater_202 : decode cX11_upLater 202 = .ok (.iconst 1, 1) := by decide +kernel
theorem dX11_upLater_203 : decode cX11_upLater 203 = .ok (.isub, 1) := by decide +kernel
theorem dX11_upLater_204 : decode cX11_upLater 204 = .ok (.putfield 174, 3) := by decide +kernel
theorem dX11_upLater_207 : decode cX11_upLater 207 = .ok (.goto 135, 3) := by decide +kernel
theorem dX11_upLater_210 : decode cX11_upLater 210 = .ok (.aload_n 0, 1) := by decide +kernel
theorem dX11_upLater_211 : decode cX11_upLater 211 = .ok (.iload_n 1, 1) := by decide +kernel
theorem dX11_upLater_212 : decode cX11_upLater 212 = .ok (.iload_n 2, 1) := by decide +kernel
theorem dX11_upLater_213 : decode cX11_upLater 213 = .ok (.iload_n 3, 1) := by decide +kernel
theorem dX11_upLater_214 : decode cX11_upLater 214 = .ok (.iload 5, 2) := by decide +kernel
theorem dX11_upLater_216 : decode cX11_upLater 216 = .ok (.invokevirtual 224, 3) := by decide +kernel
theorem dX11_upLater_219 : decode cX11_upLater 219 = .ok (.goto 123, 3) := by decide +kernel
theorem dX11_upLater_222 : decode cX11_upLater 222 = .ok (.aload_n 0, 1) := by decide +kernel
theorem dX11_upLater_223 : decode cX11_upLater 223 = .ok (.iload_n 1, 1) := by decide +kernel
theorem dX11_upLater_224 : decode cX11_upLater 224 = .ok (.iload_n 2, 1) := by decide +kernel
theorem dX11_upLater_225 : decode cX11_upLater 225 = .ok (.iload 5, 2) := by decide +kernel
theorem dX11_upLater_227 : decode cX11_upLater 227 = .ok (.invokevirtual 227, 3) := by decide +kernel
theorem dX11_upLater_230 : decode cX11_upLater 230 = .ok (.goto 112, 3) := by decide +kernel
theorem dX11_upLater_233 : decode cX11_upLater 233 = .ok (.aload_n 0, 1) := by decide +kernel
theorem dX11_upLater_234 : decode cX11_upLater 234 = .ok (.dup, 1) := by decide +kernel
theorem dX11_upLater_235 : decode cX11_upLater 235 = .ok (.getfield 174, 3) := by decide +kernel
theorem dX11_upLater_238 : decode cX11_upLater 238 = .ok (.iconst 1, 1) := by decide +kernel
theorem dX11_upLater_239 : decode cX11_upLater 239 = .ok (.isub, 1) := by decide +kernel
theorem dX11_upLater_240 : decode cX11_upLater 240 = .ok (.putfield 174, 3) := by decide +kernel
theorem dX11_upLater_243 : decode cX11_upLater 243 = .ok (.aload_n 0, 1) := by decide +kernel
theorem dX11_upLater_244 : decode cX11_upLater 244 = .ok (.aload_n 0, 1) := by decide +kernel
theorem dX11_upLater_245 : decode cX11_upLater 245 = .ok (.getfield 125, 3) := by decide +kernel
theorem dX11_upLater_248 : decode cX11_upLater 248 = .ok (.iload_n 2, 1) := by decide +kernel
theorem dX11_upLater_249 : decode cX11_upLater 249 = .ok (.invokevirtual 218, 3) := by decide +kernel
theorem dX11_upLater_252 : decode cX11_upLater 252 = .ok (.ifCond .eq 90, 3) := by decide +kernel
theorem dX11_upLater_255 : decode cX11_upLater 255 = .ok (.aload_n 0, 1) := by decide +kernel
theorem dX11_upLater_256 : decode cX11_upLater 256 = .ok (.getfield 230, 3) := by decide +kernel
theorem dX11_upLater_259 : decode cX11_upLater 259 = .ok (.bipush 40, 2) := by decide +kernel
theorem dX11_upLater_261 : decode cX11_upLater 261 = .ok (.if_icmp .ge 81, 3) := by decide +kernel
theorem dX11_upLater_264 : decode cX11_upLater 264 = .ok (.aload_n 0, 1) := by decide +kernel
theorem dX11_upLater_265 : decode cX11_upLater 265 = .ok (.getfield 67, 3) := by decide +kernel
theorem dX11_upLater_268 : decode cX11_upLater 268 = .ok (.aload_n 0, 1) := by decide +kernel
theorem dX11_upLater_269 : decode cX11_upLater 269 = .ok (.getfield 230, 3) := by decide +kernel
theorem dX11_upLater_272 : decode cX11_upLater 272 = .ok (.aload_n 0, 1) := by decide +kernel
theorem dX11_upLater_273 : decode cX11_upLater 273 = .ok (.getfield 128, 3) := by decide +kernel
theorem dX11_upLater_276 : decode cX11_upLater 276 = .ok (.iastore, 1) := by decide +kernel
theorem dX11_upLater_277 : decode cX11_upLater 277 = .ok (.aload_n 0, 1) := by decide +kernel
theorem dX11_upLater_278 : decode cX11_upLater 278 = .ok (.dup, 1) := by decide +kernel
theorem dX11_upLater_279 : decode cX11_upLater 279 = .ok (.getfield 230, 3) := by decide +kernel
theorem dX11_upLater_282 : decode cX11_upLater 282 = .ok (.iconst 1, 1) := by decide +kernel
theorem dX11_upLater_283 : decode cX11_upLater 283 = .ok (.iadd, 1) := by decide +kernel
theorem dX11_upLater_284 : decode cX11_upLater 284 = .ok (.putfield 230, 3) := by decide +kernel
theorem dX11_upLater_287 : decode cX11_upLater 287 = .ok (.goto 55, 3) := by decide +kernel
theorem dX11_upLater_290 : decode cX11_upLater 290 = .ok (.aload_n 0, 1) := by decide +kernel
theorem dX11_upLater_291 : decode cX11_upLater 291 = .ok (.iload_n 1, 1) := by decide +kernel
theorem dX11_upLater_292 : decode cX11_upLater 292 = .ok (.iload_n 2, 1) := by decide +kernel
theorem dX11_upLater_293 : decode cX11_upLater 293 = .ok (.iload 5, 2) := by decide +kernel
theorem dX11_upLater_295 : decode cX11_upLater 295 = .ok (.invokevirtual 233, 3) := by decide +kernel
theorem dX11_upLater_298 : decode cX11_upLater 298 = .ok (.goto 44, 3) := by decide +kernel
theorem dX11_upLater_301 : decode cX11_upLater 301 = .ok (.aload_n 0, 1) := by decide +kernel
theorem dX11_upLater_302 : decode cX11_upLater 302 = .ok (.dup, 1) := by decide +kernel
theorem dX11_upLater_303 : decode cX11_upLater 303 = .ok (.getfield 174, 3) := by decide +kernel
theorem dX11_upLater_306 : decode cX11_upLater 306 = .ok (.iconst 1, 1) := by decide +kernel
theorem dX11_upLater_307 : decode cX11_upLater 307 = .ok (.isub, 1) := by decide +kernel
theorem dX11_upLater_308 : decode cX11_upLater 308 = .ok (.putfield 174, 3) := by decide +kernel
theorem dX11_upLater_311 : decode cX11_upLater 311 = .ok (.aload_n 0, 1) := by decide +kernel
theorem dX11_upLater_312 : decode cX11_upLater 312 = .ok (.aload_n 0, 1) := by decide +kernel
theorem dX11_upLater_313 : decode cX11_upLater 313 = .ok (.getfield 13, 3) := by decide +kernel
theorem dX11_upLater_316 : decode cX11_upLater 316 = .ok (.iload_n 2, 1) := by decide +kernel
theorem dX11_upLater_317 : decode cX11_upLater 317 = .ok (.iaload, 1) := by decide +kernel
theorem dX11_upLater_318 : decode cX11_upLater 318 = .ok (.aload_n 0, 1) := by decide +kernel
theorem dX11_upLater_319 : decode cX11_upLater 319 = .ok (.getfield 125, 3) := by decide +kernel
theorem dX11_upLater_322 : decode cX11_upLater 322 = .ok (.aload_n 0, 1) := by decide +kernel
theorem dX11_upLater_323 : decode cX11_upLater 323 = .ok (.getfield 128, 3) := by decide +kernel
theorem dX11_upLater_326 : decode cX11_upLater 326 = .ok (.invokevirtual 212, 3) := by decide +kernel
theorem dX11_upLater_329 : decode cX11_upLater 329 = .ok (.goto 13, 3) := by decide +kernel
theorem dX11_upLater_332 : decode cX11_upLater 332 = .ok (.aload_n 0, 1) := by decide +kernel
theorem dX11_upLater_333 : decode cX11_upLater 333 = .ok (.dup, 1) := by decide +kernel
theorem dX11_upLater_334 : decode cX11_upLater 334 = .ok (.getfield 174, 3) := by decide +kernel
theorem dX11_upLater_337 : decode cX11_upLater 337 = .ok (.iconst 1, 1) := by decide +kernel
theorem dX11_upLater_338 : decode cX11_upLater 338 = .ok (.isub, 1) := by decide +kernel
theorem dX11_upLater_339 : decode cX11_upLater 339 = .ok (.putfield 174, 3) := by decide +kernel
theorem dX11_upLater_342 : decode cX11_upLater 342 = .ok (.return_, 1) := by decide +kernel
theorem dX11_upLoop_0 : decode cX11_upLoop 0 = .ok (.iload 4, 2) := by decide +kernel
theorem dX11_upLoop_2 : decode cX11_upLoop 2 = .ok (.iconst 1, 1) := by decide +kernel
theorem dX11_upLoop_3 : decode cX11_upLoop 3 = .ok (.if_icmp .ne 53, 3) := by decide +kernel
theorem dX11_upLoop_6 : decode cX11_upLoop 6 = .ok (.aload_n 0, 1) := by decide +kernel
theorem dX11_upLoop_7 : decode cX11_upLoop 7 = .ok (.getfield 162, 3) := by decide +kernel
theorem dX11_upLoop_10 : decode cX11_upLoop 10 = .ok (.aload_n 0, 1) := by decide +kernel
theorem dX11_upLoop_11 : decode cX11_upLoop 11 = .ok (.getfield 165, 3) := by decide +kernel
theorem dX11_upLoop_14 : decode cX11_upLoop 14 = .ok (.if_icmp .ne 11, 3) := by decide +kernel
theorem dX11_upLoop_17 : decode cX11_upLoop 17 = .ok (.aload_n 0, 1) := by decide +kernel
theorem dX11_upLoop_18 : decode cX11_upLoop 18 = .ok (.bipush 9, 2) := by decide +kernel
theorem dX11_upLoop_20 : decode cX11_upLoop 20 = .ok (.iload_n 2, 1) := by decide +kernel
theorem dX11_upLoop_21 : decode cX11_upLoop 21 = .ok (.invokevirtual 149, 3) := by decide +kernel
theorem dX11_upLoop_24 : decode cX11_upLoop 24 = .ok (.return_, 1) := by decide +kernel
theorem dX11_upLoop_25 : decode cX11_upLoop 25 = .ok (.aload_n 0, 1) := by decide +kernel
theorem dX11_upLoop_26 : decode cX11_upLoop 26 = .ok (.dup, 1) := by decide +kernel
theorem dX11_upLoop_27 : decode cX11_upLoop 27 = .ok (.getfield 162, 3) := by decide +kernel
theorem dX11_upLoop_30 : decode cX11_upLoop 30 = .ok (.iconst 1, 1) := by decide +kernel
theorem dX11_upLoop_31 : decode cX11_upLoop 31 = .ok (.iadd, 1) := by decide +kernel
theorem dX11_upLoop_32 : decode cX11_upLoop 32 = .ok (.putfield 162, 3) := by decide +kernel
theorem dX11_upLoop_35 : decode cX11_upLoop 35 = .ok (.aload_n 0, 1) := by decide +kernel
theorem dX11_upLoop_36 : decode cX11_upLoop 36 = .ok (.getfield 73, 3) := by decide +kernel
theorem dX11_upLoop_39 : decode cX11_upLoop 39 = .ok (.iload_n 1, 1) := by decide +kernel
theorem dX11_upLoop_40 : decode cX11_upLoop 40 = .ok (.iconst 0, 1) := by decide +kernel
theorem dX11_upLoop_41 : decode cX11_upLoop 41 = .ok (.iastore, 1) := by decide +kernel
theorem dX11_upLoop_42 : decode cX11_upLoop 42 = .ok (.aload_n 0, 1) := by decide +kernel
theorem dX11_upLoop_43 : decode cX11_upLoop 43 = .ok (.aload_n 0, 1) := by decide +kernel
theorem dX11_upLoop_44 : decode cX11_upLoop 44 = .ok (.getfield 13, 3) := by decide +kernel
theorem dX11_upLoop_47 : decode cX11_upLoop 47 = .ok (.iload_n 2, 1) := by decide +kernel
theorem dX11_upLoop_48 : decode cX11_upLoop 48 = .ok (.iaload, 1) := by decide +kernel
theorem dX11_upLoop_49 : decode cX11_upLoop 49 = .ok (.iload_n 3, 1) := by decide +kernel
theorem dX11_upLoop_50 : decode cX11_upLoop 50 = .ok (.invokevirtual 177, 3) := by decide +kernel
theorem dX11_upLoop_53 : decode cX11_upLoop 53 = .ok (.goto 72, 3) := by decide +kernel
theorem dX11_upLoop_56 : decode cX11_upLoop 56 = .ok (.aload_n 0, 1) := by decide +kernel
theorem dX11_upLoop_57 : decode cX11_upLoop 57 = .ok (.aload_n 0, 1) := by decide +kernel
theorem dX11_upLoop_58 : decode cX11_upLoop 58 = .ok (.getfield 125, 3) := by decide +kernel
theorem dX11_upLoop_61 : decode cX11_upLoop 61 = .ok (.iload_n 2, 1) := by decide +kernel
theorem dX11_upLoop_62 : decode cX11_upLoop 62 = .ok (.invokevirtual 218, 3) := by decide +kernel
theorem dX11_upLoop_65 : decode cX11_upLoop 65 = .ok (.ifCond .ne 16, 3) := by decide +kernel
theorem dX11_upLoop_68 : decode cX11_upLoop 68 = .ok (.aload_n 0, 1) := by decide +kernel
theorem dX11_upLoop_69 : decode cX11_upLoop 69 = .ok (.dup, 1) := by decide +kernel
theorem dX11_upLoop_70 : decode cX11_upLoop 70 = .ok (.getfield 174, 3) := by decide +kernel
theorem dX11_upLoop_73 : decode cX11_upLoop 73 = .ok (.iconst 1, 1) := by decide +kernel
theorem dX11_upLoop_74 : decode cX11_upLoop 74 = .ok (.isub, 1) := by decide +kernel
theorem dX11_upLoop_75 : decode cX11_upLoop 75 = .ok (.putfield 174, 3) := by decide +kernel
theorem dX11_upLoop_78 : decode cX11_upLoop 78 = .ok (.goto 47, 3) := by decide +kernel
theorem dX11_upLoop_81 : decode cX11_upLoop 81 = .ok (.aload_n 0, 1) := by decide +kernel
theorem dX11_upLoop_82 : decode cX11_upLoop 82 = .ok (.getfield 128, 3) := by decide +kernel
theorem dX11_upLoop_85 : decode cX11_upLoop 85 = .ok (.ifCond .ne 22, 3) := by decide +kernel
theorem dX11_upLoop_88 : decode cX11_upLoop 88 = .ok (.aload_n 0, 1) := by decide +kernel
theorem dX11_upLoop_89 : decode cX11_upLoop 89 = .ok (.dup, 1) := by decide +kernel
theorem dX11_upLoop_90 : decode cX11_upLoop 90 = .ok (.getfield 174, 3) := by decide +kernel
theorem dX11_upLoop_93 : decode cX11_upLoop 93 = .ok (.iconst 1, 1) := by decide +kernel
theorem dX11_upLoop_94 : decode cX11_upLoop 94 = .ok (.isub, 1) := by decide +kernel
theorem dX11_upLoop_95 : decode cX11_upLoop 95 = .ok (.putfield 174, 3) := by decide +kernel
theorem dX11_upLoop_98 : decode cX11_upLoop 98 = .ok (.aload_n 0, 1) := by decide +kernel
theorem dX11_upLoop_99 : decode cX11_upLoop 99 = .ok (.iconst 1, 1) := by decide +kernel
theorem dX11_upLoop_100 : decode cX11_upLoop 100 = .ok (.iconst 0, 1) := by decide +kernel
theorem dX11_upLoop_101 : decode cX11_upLoop 101 = .ok (.invokevirtual 168, 3) := by decide +kernel
theorem dX11_upLoop_104 : decode cX11_upLoop 104 = .ok (.goto 21, 3) := by decide +kernel
theorem dX11_upLoop_107 : decode cX11_upLoop 107 = .ok (.aload_n 0, 1) := by decide +kernel
theorem dX11_upLoop_108 : decode cX11_upLoop 108 = .ok (.getfield 73, 3) := by decide +kernel
theorem dX11_upLoop_111 : decode cX11_upLoop 111 = .ok (.iload_n 1, 1) := by decide +kernel
theorem dX11_upLoop_112 : decode cX11_upLoop 112 = .ok (.iconst 1, 1) := by decide +kernel
theorem dX11_upLoop_113 : decode cX11_upLoop 113 = .ok (.iastore, 1) := by decide +kernel
theorem dX11_upLoop_114 : decode cX11_upLoop 114 = .ok (.aload_n 0, 1) := by decide +kernel
theorem dX11_upLoop_115 : decode cX11_upLoop 115 = .ok (.aload_n 0, 1) := by decide +kernel
theorem dX11_upLoop_116 : decode cX11_upLoop 116 = .ok (.getfield 16, 3) := by decide +kernel
theorem dX11_upLoop_119 : decode cX11_upLoop 119 = .ok (.iload_n 2, 1) := by decide +kernel
theorem dX11_upLoop_120 : decode cX11_upLoop 120 = .ok (.iaload, 1) := by decide +kernel
theorem dX11_upLoop_121 : decode cX11_upLoop 121 = .ok (.iload_n 3, 1) := by decide +kernel
theorem dX11_upLoop_122 : decode cX11_upLoop 122 = .ok (.invokevirtual 177, 3) := by decide +kernel
theorem dX11_upLoop_125 : decode cX11_upLoop 125 = .ok (.return_, 1) := by decide +kernel
theorem dX11_upCall_0 : decode cX11_upCall 0 = .ok (.iload_n 3, 1) := by decide +kernel
theorem dX11_upCall_1 : decode cX11_upCall 1 = .ok (.iconst 1, 1) := by decide +kernel
theorem dX11_upCall_2 : decode cX11_upCall 2 = .ok (.if_icmp .ne 26, 3) := by decide +kernel
theorem dX11_upCall_5 : decode cX11_upCall 5 = .ok (.aload_n 0, 1) := by decide +kernel
theorem dX11_upCall_6 : decode cX11_upCall 6 = .ok (.dup, 1) := by decide +kernel
theorem dX11_upCall_7 : decode cX11_upCall 7 = .ok (.getfield 174, 3) := by decide +kernel
theorem dX11_upCall_10 : decode cX11_upCall 10 = .ok (.iconst 1, 1) := by decide +kernel
theorem dX11_upCall_11 : decode cX11_upCall 11 = .ok (.isub, 1) := by decide +kernel
theorem dX11_upCall_12 : decode cX11_upCall 12 = .ok (.putfield 174, 3) := by decide +kernel
theorem dX11_upCall_15 : decode cX11_upCall 15 = .ok (.aload_n 0, 1) := by decide +kernel
theorem dX11_upCall_16 : decode cX11_upCall 16 = .ok (.dup, 1) := by decide +kernel
theorem dX11_upCall_17 : decode cX11_upCall 17 = .ok (.getfield 236, 3) := by decide +kernel
theorem dX11_upCall_20 : decode cX11_upCall 20 = .ok (.iconst 1, 1) := by decide +kernel
theorem dX11_upCall_21 : decode cX11_upCall 21 = .ok (.isub, 1) := by decide +kernel
theorem dX11_upCall_22 : decode cX11_upCall 22 = .ok (.putfield 236, 3) := by decide +kernel
theorem dX11_upCall_25 : decode cX11_upCall 25 = .ok (.goto 117, 3) := by decide +kernel
theorem dX11_upCall_28 : decode cX11_upCall 28 = .ok (.aload_n 0, 1) := by decide +kernel
theorem dX11_upCall_29 : decode cX11_upCall 29 = .ok (.aload_n 0, 1) := by decide +kernel
theorem dX11_upCall_30 : decode cX11_upCall 30 = .ok (.getfield 13, 3) := by decide +kernel
theorem dX11_upCall_33 : decode cX11_upCall 33 = .ok (.iload_n 2, 1) := by decide +kernel
theorem dX11_upCall_34 : decode cX11_upCall 34 = .ok (.iaload, 1) := by decide +kernel
theorem dX11_upCall_35 : decode cX11_upCall 35 = .ok (.invokevirtual 118, 3) := by decide +kernel
theorem dX11_upCall_38 : decode cX11_upCall 38 = .ok (.ifCond .eq 22, 3) := by decide +kernel
theorem dX11_upCall_41 : decode cX11_upCall 41 = .ok (.aload_n 0, 1) := by decide +kernel
theorem dX11_upCall_42 : decode cX11_upCall 42 = .ok (.dup, 1) := by decide +kernel
theorem dX11_upCall_43 : decode cX11_upCall 43 = .ok (.getfield 174, 3) := by decide +kernel
theorem dX11_upCall_46 : decode cX11_upCall 46 = .ok (.iconst 1, 1) := by decide +kernel
theorem dX11_upCall_47 : decode cX11_upCall 47 = .ok (.isub, 1) := by decide +kernel
theorem dX11_upCall_48 : decode cX11_upCall 48 = .ok (.putfield 174, 3) := by decide +kernel
theorem dX11_upCall_51 : decode cX11_upCall 51 = .ok (.aload_n 0, 1) := by decide +kernel
theorem dX11_upCall_52 : decode cX11_upCall 52 = .ok (.iconst 1, 1) := by decide +kernel
theorem dX11_upCall_53 : decode cX11_upCall 53 = .ok (.iconst 0, 1) := by decide +kernel
theorem dX11_upCall_54 : decode cX11_upCall 54 = .ok (.invokevirtual 168, 3) := by decide +kernel
theorem dX11_upCall_57 : decode cX11_upCall 57 = .ok (.goto 85, 3) := by decide +kernel
theorem dX11_upCall_60 : decode cX11_upCall 60 = .ok (.aload_n 0, 1) := by decide +kernel
theorem dX11_upCall_61 : decode cX11_upCall 61 = .ok (.getfield 236, 3) := by decide +kernel
theorem dX11_upCall_64 : decode cX11_upCall 64 = .ok (.bipush 8, 2) := by decide +kernel
theorem dX11_upCall_66 : decode cX11_upCall 66 = .ok (.if_icmp .ne 13, 3) := by decide +kernel
theorem dX11_upCall_69 : decode cX11_upCall 69 = .ok (.aload_n 0, 1) := by decide +kernel
theorem dX11_upCall_70 : decode cX11_upCall 70 = .ok (.bipush 11, 2) := by decide +kernel
theorem dX11_upCall_72 : decode cX11_upCall 72 = .ok (.iload_n 2, 1) := by decide +kernel
theorem dX11_upCall_73 : decode cX11_upCall 73 = .ok (.invokevirtual 149, 3) := by decide +kernel
theorem dX11_upCall_76 : decode cX11_upCall 76 = .ok (.goto 66, 3) := by decide +kernel
theorem dX11_upCall_79 : decode cX11_upCall 79 = .ok (.aload_n 0, 1) := by decide +kernel
theorem dX11_upCall_80 : decode cX11_upCall 80 = .ok (.dup, 1) := by decide +kernel
theorem dX11_upCall_81 : decode cX11_upCall 81 = .ok (.getfield 236, 3) := by decide +kernel
theorem dX11_upCall_84 : decode cX11_upCall 84 = .ok (.iconst 1, 1) := by decide +kernel
theorem dX11_upCall_85 : decode cX11_upCall 85 = .ok (.iadd, 1) := by decide +kernel
theorem dX11_upCall_86 : decode cX11_upCall 86 = .ok (.putfield 236, 3) := by decide +kernel
theorem dX11_upCall_89 : decode cX11_upCall 89 = .ok (.aload_n 0, 1) := by decide +kernel
theorem dX11_upCall_90 : decode cX11_upCall 90 = .ok (.invokevirtual 239, 3) := by decide +kernel
theorem dX11_upCall_93 : decode cX11_upCall 93 = .ok (.istore 4, 2) := by decide +kernel
theorem dX11_upCall_95 : decode cX11_upCall 95 = .ok (.aload_n 0, 1) := by decide +kernel
theorem dX11_upCall_96 : decode cX11_upCall 96 = .ok (.getfield 46, 3) := by decide +kernel
theorem dX11_upCall_99 : decode cX11_upCall 99 = .ok (.bipush 8, 2) := by decide +kernel
theorem dX11_upCall_101 : decode cX11_upCall 101 = .ok (.iload 4, 2) := by decide +kernel
theorem dX11_upCall_103 : decode cX11_upCall 103 = .ok (.imul, 1) := by decide +kernel
theorem dX11_upCall_104 : decode cX11_upCall 104 = .ok (.aload_n 0, 1) := by decide +kernel
theorem dX11_upCall_105 : decode cX11_upCall 105 = .ok (.getfield 125, 3) := by decide +kernel
theorem dX11_upCall_108 : decode cX11_upCall 108 = .ok (.iastore, 1) := by decide +kernel
theorem dX11_upCall_109 : decode cX11_upCall 109 = .ok (.aload_n 0, 1) := by decide +kernel
theorem dX11_upCall_110 : decode cX11_upCall 110 = .ok (.getfield 49, 3) := by decide +kernel
theorem dX11_upCall_113 : decode cX11_upCall 113 = .ok (.bipush 8, 2) := by decide +kernel
theorem dX11_upCall_115 : decode cX11_upCall 115 = .ok (.iload 4, 2) := by decide +kernel
theorem dX11_upCall_117 : decode cX11_upCall 117 = .ok (.imul, 1) := by decide +kernel
theorem dX11_upCall_118 : decode cX11_upCall 118 = .ok (.aload_n 0, 1) := by decide +kernel
theorem dX11_upCall_119 : decode cX11_upCall 119 = .ok (.getfield 128, 3) := by decide +kernel
theorem dX11_upCall_122 : decode cX11_upCall 122 = .ok (.iastore, 1) := by decide +kernel
theorem dX11_upCall_123 : decode cX11_upCall 123 = .ok (.aload_n 0, 1) := by decide +kernel
theorem dX11_upCall_124 : decode cX11_upCall 124 = .ok (.getfield 73, 3) := by decide +kernel
theorem dX11_upCall_127 : decode cX11_upCall 127 = .ok (.iload_n 1, 1) := by decide +kernel
theorem dX11_upCall_128 : decode cX11_upCall 128 = .ok (.iconst 1, 1) := by decide +kernel
theorem dX11_upCall_129 : decode cX11_upCall 129 = .ok (.iastore, 1) := by decide +kernel
theorem dX11_upCall_130 : decode cX11_upCall 130 = .ok (.aload_n 0, 1) := by decide +kernel
theorem dX11_upCall_131 : decode cX11_upCall 131 = .ok (.aload_n 0, 1) := by decide +kernel
theorem dX11_upCall_132 : decode cX11_upCall 132 = .ok (.getfield 13, 3) := by decide +kernel
theorem dX11_upCall_135 : decode cX11_upCall 135 = .ok (.iload_n 2, 1) := by decide +kernel
theorem dX11_upCall_136 : decode cX11_upCall 136 = .ok (.iaload, 1) := by decide +kernel
theorem dX11_upCall_137 : decode cX11_upCall 137 = .ok (.iload 4, 2) := by decide +kernel
theorem dX11_upCall_139 : decode cX11_upCall 139 = .ok (.invokevirtual 177, 3) := by decide +kernel
theorem dX11_upCall_142 : decode cX11_upCall 142 = .ok (.return_, 1) := by decide +kernel
theorem dX11_upWork_0 : decode cX11_upWork 0 = .ok (.iload_n 3, 1) := by decide +kernel
theorem dX11_upWork_1 : decode cX11_upWork 1 = .ok (.iconst 1, 1) := by decide +kernel
theorem dX11_upWork_2 : decode cX11_upWork 2 = .ok (.if_icmp .ne 52, 3) := by decide +kernel
theorem dX11_upWork_5 : decode cX11_upWork 5 = .ok (.aload_n 0, 1) := by decide +kernel
theorem dX11_upWork_6 : decode cX11_upWork 6 = .ok (.getfield 82, 3) := by decide +kernel
theorem dX11_upWork_9 : decode cX11_upWork 9 = .ok (.iload_n 1, 1) := by decide +kernel
theorem dX11_upWork_10 : decode cX11_upWork 10 = .ok (.iaload, 1) := by decide +kernel
theorem dX11_upWork_11 : decode cX11_upWork 11 = .ok (.istore 4, 2) := by decide +kernel
theorem dX11_upWork_13 : decode cX11_upWork 13 = .ok (.aload_n 0, 1) := by decide +kernel
theorem dX11_upWork_14 : decode cX11_upWork 14 = .ok (.getfield 37, 3) := by decide +kernel
theorem dX11_upWork_17 : decode cX11_upWork 17 = .ok (.iload 4, 2) := by decide +kernel
theorem dX11_upWork_19 : decode cX11_upWork 19 = .ok (.iconst 2, 1) := by decide +kernel
theorem dX11_upWork_20 : decode cX11_upWork 20 = .ok (.iastore, 1) := by decide +kernel
theorem dX11_upWork_21 : decode cX11_upWork 21 = .ok (.aload_n 0, 1) := by decide +kernel
theorem dX11_upWork_22 : decode cX11_upWork 22 = .ok (.getfield 40, 3) := by decide +kernel
theorem dX11_upWork_25 : decode cX11_upWork 25 = .ok (.iload 4, 2) := by decide +kernel
theorem dX11_upWork_27 : decode cX11_upWork 27 = .ok (.aload_n 0, 1) := by decide +kernel
theorem dX11_upWork_28 : decode cX11_upWork 28 = .ok (.getfield 125, 3) := by decide +kernel
theorem dX11_upWork_31 : decode cX11_upWork 31 = .ok (.iastore, 1) := by decide +kernel
theorem dX11_upWork_32 : decode cX11_upWork 32 = .ok (.aload_n 0, 1) := by decide +kernel
theorem dX11_upWork_33 : decode cX11_upWork 33 = .ok (.getfield 43, 3) := by decide +kernel
theorem dX11_upWork_36 : decode cX11_upWork 36 = .ok (.iload 4, 2) := by decide +kernel
theorem dX11_upWork_38 : decode cX11_upWork 38 = .ok (.aload_n 0, 1) := by decide +kernel
theorem dX11_upWork_39 : decode cX11_upWork 39 = .ok (.getfield 128, 3) := by decide +kernel
theorem dX11_upWork_42 : decode cX11_upWork 42 = .ok (.iastore, 1) := by decide +kernel
theorem dX11_upWork_43 : decode cX11_upWork 43 = .ok (.aload_n 0, 1) := by decide +kernel
theorem dX11_upWork_44 : decode cX11_upWork 44 = .ok (.dup, 1) := by decide +kernel
theorem dX11_upWork_45 : decode cX11_upWork 45 = .ok (.getfield 174, 3) := by decide +kernel
theorem dX11_upWork_48 : decode cX11_upWork 48 = .ok (.iconst 1, 1) := by decide +kernel
theorem dX11_upWork_49 : decode cX11_upWork 49 = .ok (.isub, 1) := by decide +kernel
theorem dX11_upWork_50 : decode cX11_upWork 50 = .ok (.putfield 174, 3) := by decide +kernel
theorem dX11_upWork_53 : decode cX11_upWork 53 = .ok (.return_, 1) := by decide +kernel
theorem dX11_upWork_54 : decode cX11_upWork 54 = .ok (.aload_n 0, 1) := by decide +kernel
theorem dX11_upWork_55 : decode cX11_upWork 55 = .ok (.getfield 125, 3) := by decide +kernel
theorem dX11_upWork_58 : decode cX11_upWork 58 = .ok (.bipush 7, 2) := by decide +kernel
theorem dX11_upWork_60 : decode cX11_upWork 60 = .ok (.if_icmp .eq 32, 3) := by decide +kernel
theorem dX11_upWork_63 : decode cX11_upWork 63 = .ok (.aload_n 0, 1) := by decide +kernel
theorem dX11_upWork_64 : decode cX11_upWork 64 = .ok (.dup, 1) := by decide +kernel
theorem dX11_upWork_65 : decode cX11_upWork 65 = .ok (.getfield 174, 3) := by decide +kernel
theorem dX11_upWork_68 : decode cX11_upWork 68 = .ok (.iconst 1, 1) := by decide +kernel
theorem dX11_upWork_69 : decode cX11_upWork 69 = .ok (.isub, 1) := by decide +kernel
theorem dX11_upWork_70 : decode cX11_upWork 70 = .ok (.putfield 174, 3) := by decide +kernel
theorem dX11_upWork_73 : decode cX11_upWork 73 = .ok (.aload_n 0, 1) := by decide +kernel
theorem dX11_upWork_74 : decode cX11_upWork 74 = .ok (.aload_n 0, 1) := by decide +kernel
theorem dX11_upWork_75 : decode cX11_upWork 75 = .ok (.getfield 125, 3) := by decide +kernel
theorem dX11_upWork_78 : decode cX11_upWork 78 = .ok (.iconst 1, 1) := by decide +kernel
theorem dX11_upWork_79 : decode cX11_upWork 79 = .ok (.if_icmp .ne 7, 3) := by decide +kernel
theorem dX11_upWork_82 : decode cX11_upWork 82 = .ok (.iconst 1, 1) := by decide +kernel
theorem dX11_upWork_83 : decode cX11_upWork 83 = .ok (.goto 4, 3) := by decide +kernel
theorem dX11_upWork_86 : decode cX11_upWork 86 = .ok (.iconst 4, 1) := by decide +kernel
theorem dX11_upWork_87 : decode cX11_upWork 87 = .ok (.iload_n 2, 1) := by decide +kernel
theorem dX11_upWork_88 : decode cX11_upWork 88 = .ok (.invokevirtual 243, 3) := by decide +kernel
theorem dX11_upWork_91 : decode cX11_upWork 91 = .ok (.return_, 1) := by decide +kernel
theorem dX11_upWork_92 : decode cX11_upWork 92 = .ok (.aload_n 0, 1) := by decide +kernel
theorem dX11_upWork_93 : decode cX11_upWork 93 = .ok (.getfield 128, 3) := by decide +kernel
theorem dX11_upWork_96 : decode cX11_upWork 96 = .ok (.istore 4, 2) := by decide +kernel
theorem dX11_upWork_98 : decode cX11_upWork 98 = .ok (.aload_n 0, 1) := by decide +kernel
theorem dX11_upWork_99 : decode cX11_upWork 99 = .ok (.getfield 37, 3) := by decide +kernel
theorem dX11_upWork_102 : decode cX11_upWork 102 = .ok (.iload 4, 2) := by decide +kernel
theorem dX11_upWork_104 : decode cX11_upWork 104 = .ok (.iaload, 1) := by decide +kernel
theorem dX11_upWork_105 : decode cX11_upWork 105 = .ok (.ifCond .ne 45, 3) := by decide +kernel
theorem dX11_upWork_108 : decode cX11_upWork 108 = .ok (.aload_n 0, 1) := by decide +kernel
theorem dX11_upWork_109 : decode cX11_upWork 109 = .ok (.getfield 37, 3) := by decide +kernel
theorem dX11_upWork_112 : decode cX11_upWork 112 = .ok (.iload 4, 2) := by decide +kernel
theorem dX11_upWork_114 : decode cX11_upWork 114 = .ok (.iconst 1, 1) := by decide +kernel
theorem dX11_upWork_115 : decode cX11_upWork 115 = .ok (.iastore, 1) := by decide +kernel
theorem dX11_upWork_116 : decode cX11_upWork 116 = .ok (.aload_n 0, 1) := by decide +kernel
theorem dX11_upWork_117 : decode cX11_upWork 117 = .ok (.getfield 82, 3) := by decide +kernel
theorem dX11_upWork_120 : decode cX11_upWork 120 = .ok (.iload_n 1, 1) := by decide +kernel
theorem dX11_upWork_121 : decode cX11_upWork 121 = .ok (.iload 4, 2) := by decide +kernel
theorem dX11_upWork_123 : decode cX11_upWork 123 = .ok (.iastore, 1) := by decide +kernel
theorem dX11_upWork_124 : decode cX11_upWork 124 = .ok (.aload_n 0, 1) := by decide +kernel
theorem dX11_upWork_125 : decode cX11_upWork 125 = .ok (.getfield 73, 3) := by decide +kernel
theorem dX11_upWork_128 : decode cX11_upWork 128 = .ok (.iload_n 1, 1) := by decide +kernel
theorem dX11_upWork_129 : decode cX11_upWork 129 = .ok (.iconst 1, 1) := by decide +kernel
theorem dX11_upWork_130 : decode cX11_upWork 130 = .ok (.iastore, 1) := by decide +kernel
theorem dX11_upWork_131 : decode cX11_upWork 131 = .ok (.aload_n 0, 1) := by decide +kernel
theorem dX11_upWork_132 : decode cX11_upWork 132 = .ok (.aload_n 0, 1) := by decide +kernel
theorem dX11_upWork_133 : decode cX11_upWork 133 = .ok (.getfield 31, 3) := by decide +kernel
theorem dX11_upWork_136 : decode cX11_upWork 136 = .ok (.iload 4, 2) := by decide +kernel
theorem dX11_upWork_138 : decode cX11_upWork 138 = .ok (.iaload, 1) := by decide +kernel
theorem dX11_upWork_139 : decode cX11_upWork 139 = .ok (.aload_n 0, 1) := by decide +kernel
theorem dX11_upWork_140 : decode cX11_upWork 140 = .ok (.getfield 34, 3) := by decide +kernel
theorem dX11_upWork_143 : decode cX11_upWork 143 = .ok (.iload 4, 2) := by decide +kernel
theorem dX11_upWork_145 : decode cX11_upWork 145 = .ok (.iaload, 1) := by decide +kernel
theorem dX11_upWork_146 : decode cX11_upWork 146 = .ok (.invokevirtual 177, 3) := by decide +kernel
theorem dX11_upWork_149 : decode cX11_upWork 149 = .ok (.return_, 1) := by decide +kernel
theorem dX11_upWork_150 : decode cX11_upWork 150 = .ok (.aload_n 0, 1) := by decide +kernel
theorem dX11_upWork_151 : decode cX11_upWork 151 = .ok (.dup, 1) := by decide +kernel
theorem dX11_upWork_152 : decode cX11_upWork 152 = .ok (.getfield 174, 3) := by decide +kernel
theorem dX11_upWork_155 : decode cX11_upWork 155 = .ok (.iconst 1, 1) := by decide +kernel
theorem dX11_upWork_156 : decode cX11_upWork 156 = .ok (.isub, 1) := by decide +kernel
theorem dX11_upWork_157 : decode cX11_upWork 157 = .ok (.putfield 174, 3) := by decide +kernel
theorem dX11_upWork_160 : decode cX11_upWork 160 = .ok (.aload_n 0, 1) := by decide +kernel
theorem dX11_upWork_161 : decode cX11_upWork 161 = .ok (.getfield 37, 3) := by decide +kernel
theorem dX11_upWork_164 : decode cX11_upWork 164 = .ok (.iload 4, 2) := by decide +kernel
theorem dX11_upWork_166 : decode cX11_upWork 166 = .ok (.iaload, 1) := by decide +kernel
theorem dX11_upWork_167 : decode cX11_upWork 167 = .ok (.iconst 1, 1) := by decide +kernel
theorem dX11_upWork_168 : decode cX11_upWork 168 = .ok (.if_icmp .ne 13, 3) := by decide +kernel
theorem dX11_upWork_171 : decode cX11_upWork 171 = .ok (.aload_n 0, 1) := by decide +kernel
theorem dX11_upWork_172 : decode cX11_upWork 172 = .ok (.bipush 8, 2) := by decide +kernel
theorem dX11_upWork_174 : decode cX11_upWork 174 = .ok (.iload_n 2, 1) := by decide +kernel
theorem dX11_upWork_175 : decode cX11_upWork 175 = .ok (.invokevirtual 243, 3) := by decide +kernel
theorem dX11_upWork_178 : decode cX11_upWork 178 = .ok (.goto 54, 3) := by decide +kernel
theorem dX11_upWork_181 : decode cX11_upWork 181 = .ok (.aload_n 0, 1) := by decide +kernel
theorem dX11_upWork_182 : decode cX11_upWork 182 = .ok (.getfield 37, 3) := by decide +kernel
theorem dX11_upWork_185 : decode cX11_upWork 185 = .ok (.iload 4, 2) := by decide +kernel
theorem dX11_upWork_187 : decode cX11_upWork 187 = .ok (.iaload, 1) := by decide +kernel
theorem dX11_upWork_188 : decode cX11_upWork 188 = .ok (.iconst 2, 1) := by decide +kernel
theorem dX11_upWork_189 : decode cX11_upWork 189 = .ok (.if_icmp .ne 24, 3) := by decide +kernel
theorem dX11_upWork_192 : decode cX11_upWork 192 = .ok (.aload_n 0, 1) := by decide +kernel
theorem dX11_upWork_193 : decode cX11_upWork 193 = .ok (.aload_n 0, 1) := by decide +kernel
theorem dX11_upWork_194 : decode cX11_upWork 194 = .ok (.getfield 40, 3) := by decide +kernel
theorem dX11_upWork_197 : decode cX11_upWork 197 = .ok (.iload 4, 2) := by decide +kernel
theorem dX11_upWork_199 : decode cX11_upWork 199 = .ok (.iaload, 1) := by decide +kernel
theorem dX11_upWork_200 : decode cX11_upWork 200 = .ok (.aload_n 0, 1) := by decide +kernel
theorem dX11_upWork_201 : decode cX11_upWork 201 = .ok (.getfield 43, 3) := by decide +kernel
theorem dX11_upWork_204 : decode cX11_upWork 204 = .ok (.iload 4, 2) := by decide +kernel
theorem dX11_upWork_206 : decode cX11_upWork 206 = .ok (.iaload, 1) := by decide +kernel
theorem dX11_upWork_207 : decode cX11_upWork 207 = .ok (.invokevirtual 168, 3) := by decide +kernel
theorem dX11_upWork_210 : decode cX11_upWork 210 = .ok (.goto 22, 3) := by decide +kernel
theorem dX11_upWork_213 : decode cX11_upWork 213 = .ok (.aload_n 0, 1) := by decide +kernel
theorem dX11_upWork_214 : decode cX11_upWork 214 = .ok (.aload_n 0, 1) := by decide +kernel
theorem dX11_upWork_215 : decode cX11_upWork 215 = .ok (.getfield 40, 3) := by decide +kernel
theorem dX11_upWork_218 : decode cX11_upWork 218 = .ok (.iload 4, 2) := by decide +kernel
theorem dX11_upWork_220 : decode cX11_upWork 220 = .ok (.iaload, 1) := by decide +kernel
theorem dX11_upWork_221 : decode cX11_upWork 221 = .ok (.aload_n 0, 1) := by decide +kernel
theorem dX11_upWork_222 : decode cX11_upWork 222 = .ok (.getfield 43, 3) := by decide +kernel
theorem dX11_upWork_225 : decode cX11_upWork 225 = .ok (.iload 4, 2) := by decide +kernel
theorem dX11_upWork_227 : decode cX11_upWork 227 = .ok (.iaload, 1) := by decide +kernel
theorem dX11_upWork_228 : decode cX11_upWork 228 = .ok (.iload_n 2, 1) := by decide +kernel
theorem dX11_upWork_229 : decode cX11_upWork 229 = .ok (.invokevirtual 180, 3) := by decide +kernel
theorem dX11_upWork_232 : decode cX11_upWork 232 = .ok (.return_, 1) := by decide +kernel
theorem dX11_reckon_0 : decode cX11_reckon 0 = .ok (.iload_n 2, 1) := by decide +kernel
theorem dX11_reckon_1 : decode cX11_reckon 1 = .ok (.bipush 9, 2) := by decide +kernel
theorem dX11_reckon_3 : decode cX11_reckon 3 = .ok (.if_icmp .ne 48, 3) := by decide +kernel
theorem dX11_reckon_6 : decode cX11_reckon 6 = .ok (.iload_n 3, 1) := by decide +kernel
theorem dX11_reckon_7 : decode cX11_reckon 7 = .ok (.aload_n 0, 1) := by decide +kernel
theorem dX11_reckon_8 : decode cX11_reckon 8 = .ok (.getfield 125, 3) := by decide +kernel
theorem dX11_reckon_11 : decode cX11_reckon 11 = .ok (.if_icmp .ne 21, 3) := by decide +kernel
theorem dX11_reckon_14 : decode cX11_reckon 14 = .ok (.iload_n 3, 1) := by decide +kernel
theorem dX11_reckon_15 : decode cX11_reckon 15 = .ok (.iconst 1, 1) := by decide +kernel
theorem dX11_reckon_16 : decode cX11_reckon 16 = .ok (.if_icmp .eq 12, 3) := by decide +kernel
theorem dX11_reckon_19 : decode cX11_reckon 19 = .ok (.iload 4, 2) := by decide +kernel
theorem dX11_reckon_21 : decode cX11_reckon 21 = .ok (.aload_n 0, 1) := by decide +kernel
theorem dX11_reckon_22 : decode cX11_reckon 22 = .ok (.getfield 128, 3) := by decide +kernel
theorem dX11_reckon_25 : decode cX11_reckon 25 = .ok (.if_icmp .ne 7, 3) := by decide +kernel
theorem dX11_reckon_28 : decode cX11_reckon 28 = .ok (.iconst 1, 1) := by decide +kernel
theorem dX11_reckon_29 : decode cX11_reckon 29 = .ok (.goto 4, 3) := by decide +kernel
theorem dX11_reckon_32 : decode cX11_reckon 32 = .ok (.iconst 0, 1) := by decide +kernel
theorem dX11_reckon_33 : decode cX11_reckon 33 = .ok (.istore 5, 2) := by decide +kernel
theorem dX11_reckon_35 : decode cX11_reckon 35 = .ok (.aload_n 0, 1) := by decide +kernel
theorem dX11_reckon_36 : decode cX11_reckon 36 = .ok (.iconst 0, 1) := by decide +kernel
theorem dX11_reckon_37 : decode cX11_reckon 37 = .ok (.iload 5, 2) := by decide +kernel
theorem dX11_reckon_39 : decode cX11_reckon 39 = .ok (.ifCond .eq 7, 3) := by decide +kernel
theorem dX11_reckon_42 : decode cX11_reckon 42 = .ok (.iconst 1, 1) := by decide +kernel
theorem dX11_reckon_43 : decode cX11_reckon 43 = .ok (.goto 4, 3) := by decide +kernel
theorem dX11_reckon_46 : decode cX11_reckon 46 = .ok (.iconst 0, 1) := by decide +kernel
theorem dX11_reckon_47 : decode cX11_reckon 47 = .ok (.invokevirtual 168, 3) := by decide +kernel
theorem dX11_reckon_50 : decode cX11_reckon 50 = .ok (.return_, 1) := by decide +kernel
theorem dX11_reckon_51 : decode cX11_reckon 51 = .ok (.aload_n 0, 1) := by decide +kernel
theorem dX11_reckon_52 : decode cX11_reckon 52 = .ok (.iload_n 3, 1) := by decide +kernel
theorem dX11_reckon_53 : decode cX11_reckon 53 = .ok (.iload_n 1, 1) := by decide +kernel
theorem dX11_reckon_54 : decode cX11_reckon 54 = .ok (.invokevirtual 218, 3) := by decide +kernel
theorem dX11_reckon_57 : decode cX11_reckon 57 = .ok (.ifCond .eq 15, 3) := by decide +kernel
theorem dX11_reckon_60 : decode cX11_reckon 60 = .ok (.aload_n 0, 1) := by decide +kernel
theorem dX11_reckon_61 : decode cX11_reckon 61 = .ok (.aload_n 0, 1) := by decide +kernel
theorem dX11_reckon_62 : decode cX11_reckon 62 = .ok (.getfield 125, 3) := by decide +kernel
theorem dX11_reckon_65 : decode cX11_reckon 65 = .ok (.iload_n 1, 1) := by decide +kernel
theorem dX11_reckon_66 : decode cX11_reckon 66 = .ok (.invokevirtual 218, 3) := by decide +kernel
theorem dX11_reckon_69 : decode cX11_reckon 69 = .ok (.ifCond .ne 4, 3) := by decide +kernel
theorem dX11_reckon_72 : decode cX11_reckon 72 = .ok (.return_, 1) := by decide +kernel
theorem dX11_reckon_73 : decode cX11_reckon 73 = .ok (.aload_n 0, 1) := by decide +kernel
theorem dX11_reckon_74 : decode cX11_reckon 74 = .ok (.getfield 128, 3) := by decide +kernel
theorem dX11_reckon_77 : decode cX11_reckon 77 = .ok (.istore 5, 2) := by decide +kernel
theorem dX11_reckon_79 : decode cX11_reckon 79 = .ok (.iload_n 2, 1) := by decide +kernel
theorem dX11_reckon_80 : decode cX11_reckon 80 = .ok (.bipush 7, 2) := by decide +kernel
theorem dX11_reckon_82 : decode cX11_reckon 82 = .ok (.if_icmp .ne 18, 3) := by decide +kernel
theorem dX11_reckon_85 : decode cX11_reckon 85 = .ok (.iload 5, 2) := by decide +kernel
theorem dX11_reckon_87 : decode cX11_reckon 87 = .ok (.ifCond .ne 13, 3) := by decide +kernel
theorem dX11_reckon_90 : decode cX11_reckon 90 = .ok (.aload_n 0, 1) := by decide +kernel
theorem dX11_reckon_91 : decode cX11_reckon 91 = .ok (.bipush 6, 2) := by decide +kernel
theorem dX11_reckon_93 : decode cX11_reckon 93 = .ok (.iload_n 1, 1) := by decide +kernel
theorem dX11_reckon_94 : decode cX11_reckon 94 = .ok (.invokevirtual 243, 3) := by decide +kernel
theorem dX11_reckon_97 : decode cX11_reckon 97 = .ok (.goto 78, 3) := by decide +kernel
theorem dX11_reckon_100 : decode cX11_reckon 100 = .ok (.iload_n 2, 1) := by decide +kernel
theorem dX11_reckon_101 : decode cX11_reckon 101 = .ok (.bipush 7, 2) := by decide +kernel
theorem dX11_reckon_103 : decode cX11_reckon 103 = .ok (.if_icmp .ne 28, 3) := by decide +kernel
theorem dX11_reckon_106 : decode cX11_reckon 106 = .ok (.aload_n 0, 1) := by decide +kernel
theorem dX11_reckon_107 : decode cX11_reckon 107 = .ok (.iconst 0, 1) := by decide +kernel
theorem dX11_reckon_108 : decode cX11_reckon 108 = .ok (.iload 5, 2) := by decide +kernel
theorem dX11_reckon_110 : decode cX11_reckon 110 = .ok (.iconst (-1), 1) := by decide +kernel
theorem dX11_reckon_111 : decode cX11_reckon 111 = .ok (.if_icmp .ne 9, 3) := by decide +kernel
theorem dX11_reckon_114 : decode cX11_reckon 114 = .ok (.iload 4, 2) := by decide +kernel
theorem dX11_reckon_116 : decode cX11_reckon 116 = .ok (.ineg, 1) := by decide +kernel
theorem dX11_reckon_117 : decode cX11_reckon 117 = .ok (.goto 8, 3) := by decide +kernel
theorem dX11_reckon_120 : decode cX11_reckon 120 = .ok (.iload 4, 2) := by decide +kernel
theorem dX11_reckon_122 : decode cX11_reckon 122 = .ok (.iload 5, 2) := by decide +kernel
theorem dX11_reckon_124 : decode cX11_reckon 124 = .ok (.idiv, 1) := by decide +kernel
theorem dX11_reckon_125 : decode cX11_reckon 125 = .ok (.invokevirtual 168, 3) := by decide +kernel
theorem dX11_reckon_128 : decode cX11_reckon 128 = .ok (.goto 47, 3) := by decide +kernel
theorem dX11_reckon_131 : decode cX11_reckon 131 = .ok (.aload_n 0, 1) := by decide +kernel
theorem dX11_reckon_132 : decode cX11_reckon 132 = .ok (.iconst 0, 1) := by decide +kernel
theorem dX11_reckon_133 : decode cX11_reckon 133 = .ok (.iload_n 2, 1) := by decide +kernel
theorem dX11_reckon_134 : decode cX11_reckon 134 = .ok (.iconst 5, 1) := by decide +kernel
theorem dX11_reckon_135 : decode cX11_reckon 135 = .ok (.if_icmp .ne 11, 3) := by decide +kernel
theorem dX11_reckon_138 : decode cX11_reckon 138 = .ok (.iload 4, 2) := by decide +kernel
theorem dX11_reckon_140 : decode cX11_reckon 140 = .ok (.iload 5, 2) := by decide +kernel
theorem dX11_reckon_142 : decode cX11_reckon 142 = .ok (.iadd, 1) := by decide +kernel
theorem dX11_reckon_143 : decode cX11_reckon 143 = .ok (.goto 29, 3) := by decide +kernel
theorem dX11_reckon_146 : decode cX11_reckon 146 = .ok (.iload_n 2, 1) := by decide +kernel
theorem dX11_reckon_147 : decode cX11_reckon 147 = .ok (.bipush 6, 2) := by decide +kernel
theorem dX11_reckon_149 : decode cX11_reckon 149 = .ok (.if_icmp .ne 11, 3) := by decide +kernel
theorem dX11_reckon_152 : decode cX11_reckon 152 = .ok (.iload 4, 2) := by decide +kernel
theorem dX11_reckon_154 : decode cX11_reckon 154 = .ok (.iload 5, 2) := by decide +kernel
theorem dX11_reckon_156 : decode cX11_reckon 156 = .ok (.imul, 1) := by decide +kernel
theorem dX11_reckon_157 : decode cX11_reckon 157 = .ok (.goto 15, 3) := by decide +kernel
theorem dX11_reckon_160 : decode cX11_reckon 160 = .ok (.iload 4, 2) := by decide +kernel
theorem dX11_reckon_162 : decode cX11_reckon 162 = .ok (.iload 5, 2) := by decide +kernel
theorem dX11_reckon_164 : decode cX11_reckon 164 = .ok (.if_icmp .ge 7, 3) := by decide +kernel
theorem dX11_reckon_167 : decode cX11_reckon 167 = .ok (.iconst 1, 1) := by decide +kernel
theorem dX11_reckon_168 : decode cX11_reckon 168 = .ok (.goto 4, 3) := by decide +kernel
theorem dX11_reckon_171 : decode cX11_reckon 171 = .ok (.iconst 0, 1) := by decide +kernel
theorem dX11_reckon_172 : decode cX11_reckon 172 = .ok (.invokevirtual 168, 3) := by decide +kernel
theorem dX11_reckon_175 : decode cX11_reckon 175 = .ok (.return_, 1) := by decide +kernel
theorem dX11_makeRow_0 : decode cX11_makeRow 0 = .ok (.aload_n 0, 1) := by decide +kernel
theorem dX11_makeRow_1 : decode cX11_makeRow 1 = .ok (.aload_n 0, 1) := by decide +kernel
theorem dX11_makeRow_2 : decode cX11_makeRow 2 = .ok (.getfield 125, 3) := by decide +kernel
theorem dX11_makeRow_5 : decode cX11_makeRow 5 = .ok (.iload_n 1, 1) := by decide +kernel
theorem dX11_makeRow_6 : decode cX11_makeRow 6 = .ok (.invokevirtual 218, 3) := by decide +kernel
theorem dX11_makeRow_9 : decode cX11_makeRow 9 = .ok (.ifCond .ne 4, 3) := by decide +kernel
theorem dX11_makeRow_12 : decode cX11_makeRow 12 = .ok (.return_, 1) := by decide +kernel
theorem dX11_makeRow_13 : decode cX11_makeRow 13 = .ok (.aload_n 0, 1) := by decide +kernel
theorem dX11_makeRow_14 : decode cX11_makeRow 14 = .ok (.getfield 128, 3) := by decide +kernel
theorem dX11_makeRow_17 : decode cX11_makeRow 17 = .ok (.istore_n 3, 1) := by decide +kernel
theorem dX11_makeRow_18 : decode cX11_makeRow 18 = .ok (.iload_n 3, 1) := by decide +kernel
theorem dX11_makeRow_19 : decode cX11_makeRow 19 = .ok (.ifCond .ge 12, 3) := by decide +kernel
theorem dX11_makeRow_22 : decode cX11_makeRow 22 = .ok (.aload_n 0, 1) := by decide +kernel
theorem dX11_makeRow_23 : decode cX11_makeRow 23 = .ok (.iconst 3, 1) := by decide +kernel
theorem dX11_makeRow_24 : decode cX11_makeRow 24 = .ok (.iload_n 1, 1) := by decide +kernel
theorem dX11_makeRow_25 : decode cX11_makeRow 25 = .ok (.invokevirtual 243, 3) := by decide +kernel
theorem dX11_makeRow_28 : decode cX11_makeRow 28 = .ok (.goto 88, 3) := by decide +kernel
theorem dX11_makeRow_31 : decode cX11_makeRow 31 = .ok (.iload_n 3, 1) := by decide +kernel
theorem dX11_makeRow_32 : decode cX11_makeRow 32 = .ok (.bipush 16, 2) := by decide +kernel
theorem dX11_makeRow_34 : decode cX11_makeRow 34 = .ok (.if_icmp .le 13, 3) := by decide +kernel
theorem dX11_makeRow_37 : decode cX11_makeRow 37 = .ok (.aload_n 0, 1) := by decide +kernel
theorem dX11_makeRow_38 : decode cX11_makeRow 38 = .ok (.bipush 12, 2) := by decide +kernel
theorem dX11_makeRow_40 : decode cX11_makeRow 40 = .ok (.iload_n 1, 1) := by decide +kernel
theorem dX11_makeRow_41 : decode cX11_makeRow 41 = .ok (.invokevirtual 149, 3) := by decide +kernel
theorem dX11_makeRow_44 : decode cX11_makeRow 44 = .ok (.goto 72, 3) := by decide +kernel
theorem dX11_makeRow_47 : decode cX11_makeRow 47 = .ok (.aload_n 0, 1) := by decide +kernel
theorem dX11_makeRow_48 : decode cX11_makeRow 48 = .ok (.iload_n 3, 1) := by decide +kernel
theorem dX11_makeRow_49 : decode cX11_makeRow 49 = .ok (.invokevirtual 171, 3) := by decide +kernel
theorem dX11_makeRow_52 : decode cX11_makeRow 52 = .ok (.istore 4, 2) := by decide +kernel
theorem dX11_makeRow_54 : decode cX11_makeRow 54 = .ok (.iconst 0, 1) := by decide +kernel
theorem dX11_makeRow_55 : decode cX11_makeRow 55 = .ok (.istore 5, 2) := by decide +kernel
theorem dX11_makeRow_57 : decode cX11_makeRow 57 = .ok (.iload 5, 2) := by decide +kernel
theorem dX11_makeRow_59 : decode cX11_makeRow 59 = .ok (.iload_n 3, 1) := by decide +kernel
theorem dX11_makeRow_60 : decode cX11_makeRow 60 = .ok (.if_icmp .ge 29, 3) := by decide +kernel
theorem dX11_makeRow_63 : decode cX11_makeRow 63 = .ok (.iload_n 2, 1) := by decide +kernel
theorem dX11_makeRow_64 : decode cX11_makeRow 64 = .ok (.bipush 10, 2) := by decide +kernel
theorem dX11_makeRow_66 : decode cX11_makeRow 66 = .ok (.if_icmp .ne 23, 3) := by decide +kernel
theorem dX11_makeRow_69 : decode cX11_makeRow 69 = .ok (.aload_n 0, 1) := by decide +kernel
theorem dX11_makeRow_70 : decode cX11_makeRow 70 = .ok (.getfield 25, 3) := by decide +kernel
theorem dX11_makeRow_73 : decode cX11_makeRow 73 = .ok (.bipush 16, 2) := by decide +kernel
theorem dX11_makeRow_75 : decode cX11_makeRow 75 = .ok (.iload 4, 2) := by decide +kernel
theorem dX11_makeRow_77 : decode cX11_makeRow 77 = .ok (.imul, 1) := by decide +kernel
theorem dX11_makeRow_78 : decode cX11_makeRow 78 = .ok (.iload 5, 2) := by decide +kernel
theorem dX11_makeRow_80 : decode cX11_makeRow 80 = .ok (.iadd, 1) := by decide +kernel
theorem dX11_makeRow_81 : decode cX11_makeRow 81 = .ok (.iconst 0, 1) := by decide +kernel
theorem dX11_makeRow_82 : decode cX11_makeRow 82 = .ok (.iastore, 1) := by decide +kernel
theorem dX11_makeRow_83 : decode cX11_makeRow 83 = .ok (.iinc 5 1, 3) := by decide +kernel
theorem dX11_makeRow_86 : decode cX11_makeRow 86 = .ok (.goto (-29), 3) := by decide +kernel
theorem dX11_makeRow_89 : decode cX11_makeRow 89 = .ok (.aload_n 0, 1) := by decide +kernel
theorem dX11_makeRow_90 : decode cX11_makeRow 90 = .ok (.iload_n 2, 1) := by decide +kernel
theorem dX11_makeRow_91 : decode cX11_makeRow 91 = .ok (.bipush 10, 2) := by decide +kernel
theorem dX11_makeRow_93 : decode cX11_makeRow 93 = .ok (.if_icmp .ne 7, 3) := by decide +kernel
theorem dX11_makeRow_96 : decode cX11_makeRow 96 = .ok (.iconst 2, 1) := by decide +kernel
theorem dX11_makeRow_97 : decode cX11_makeRow 97 = .ok (.goto 14, 3) := by decide +kernel
theorem dX11_makeRow_100 : decode cX11_makeRow 100 = .ok (.iload_n 2, 1) := by decide +kernel
theorem dX11_makeRow_101 : decode cX11_makeRow 101 = .ok (.bipush 11, 2) := by decide +kernel
theorem dX11_makeRow_103 : decode cX11_makeRow 103 = .ok (.if_icmp .ne 7, 3) := by decide +kernel
theorem dX11_makeRow_106 : decode cX11_makeRow 106 = .ok (.iconst 3, 1) := by decide +kernel
theorem dX11_makeRow_107 : decode cX11_makeRow 107 = .ok (.goto 4, 3) := by decide +kernel
theorem dX11_makeRow_110 : decode cX11_makeRow 110 = .ok (.iconst 4, 1) := by decide +kernel
theorem dX11_makeRow_111 : decode cX11_makeRow 111 = .ok (.iload 4, 2) := by decide +kernel
theorem dX11_makeRow_113 : decode cX11_makeRow 113 = .ok (.invokevirtual 168, 3) := by decide +kernel
theorem dX11_makeRow_116 : decode cX11_makeRow 116 = .ok (.return_, 1) := by decide +kernel
theorem dX11_isRow_0 : decode cX11_isRow 0 = .ok (.iload_n 0, 1) := by decide +kernel
theorem dX11_isRow_1 : decode cX11_isRow 1 = .ok (.iconst 2, 1) := by decide +kernel
theorem dX11_isRow_2 : decode cX11_isRow 2 = .ok (.iconst 4, 1) := by decide +kernel
theorem dX11_isRow_3 : decode cX11_isRow 3 = .ok (.invokestatic 107, 3) := by decide +kernel
theorem dX11_isRow_6 : decode cX11_isRow 6 = .ok (.ireturn, 1) := by decide +kernel
theorem dX11_isRowHere_0 : decode cX11_isRowHere 0 = .ok (.iload_n 1, 1) := by decide +kernel
theorem dX11_isRowHere_1 : decode cX11_isRowHere 1 = .ok (.invokestatic 246, 3) := by decide +kernel
theorem dX11_isRowHere_4 : decode cX11_isRowHere 4 = .ok (.ifCond .ne 18, 3) := by decide +kernel
theorem dX11_isRowHere_7 : decode cX11_isRowHere 7 = .ok (.aload_n 0, 1) := by decide +kernel
theorem dX11_isRowHere_8 : decode cX11_isRowHere 8 = .ok (.iload_n 1, 1) := by decide +kernel
theorem dX11_isRowHere_9 : decode cX11_isRowHere 9 = .ok (.iconst 1, 1) := by decide +kernel
theorem dX11_isRowHere_10 : decode cX11_isRowHere 10 = .ok (.if_icmp .ne 7, 3) := by decide +kernel
theorem dX11_isRowHere_13 : decode cX11_isRowHere 13 = .ok (.iconst 1, 1) := by decide +kernel
theorem dX11_isRowHere_14 : decode cX11_isRowHere 14 = .ok (.goto 4, 3) := by decide +kernel
theorem dX11_isRowHere_17 : decode cX11_isRowHere 17 = .ok (.iconst 4, 1) := by decide +kernel
theorem dX11_isRowHere_18 : decode cX11_isRowHere 18 = .ok (.iload_n 2, 1) := by decide +kernel
theorem dX11_isRowHere_19 : decode cX11_isRowHere 19 = .ok (.invokevirtual 243, 3) := by decide +kernel
theorem dX11_isRowHere_22 : decode cX11_isRowHere 22 = .ok (.iload_n 1, 1) := by decide +kernel
theorem dX11_isRowHere_23 : decode cX11_isRowHere 23 = .ok (.invokestatic 246, 3) := by decide +kernel
theorem dX11_isRowHere_26 : decode cX11_isRowHere 26 = .ok (.ireturn, 1) := by decide +kernel
theorem dX11_isLink_0 : decode cX11_isLink 0 = .ok (.iload_n 1, 1) := by decide +kernel
theorem dX11_isLink_1 : decode cX11_isLink 1 = .ok (.iconst 5, 1) := by decide +kernel
theorem dX11_isLink_2 : decode cX11_isLink 2 = .ok (.if_icmp .eq 9, 3) := by decide +kernel
theorem dX11_isLink_5 : decode cX11_isLink 5 = .ok (.iload_n 1, 1) := by decide +kernel
theorem dX11_isLink_6 : decode cX11_isLink 6 = .ok (.bipush 6, 2) := by decide +kernel
theorem dX11_isLink_8 : decode cX11_isLink 8 = .ok (.if_icmp .ne 7, 3) := by decide +kernel
theorem dX11_isLink_11 : decode cX11_isLink 11 = .ok (.iconst 1, 1) := by decide +kernel
theorem dX11_isLink_12 : decode cX11_isLink 12 = .ok (.goto 4, 3) := by decide +kernel
theorem dX11_isLink_15 : decode cX11_isLink 15 = .ok (.iconst 0, 1) := by decide +kernel
theorem dX11_isLink_16 : decode cX11_isLink 16 = .ok (.istore_n 3, 1) := by decide +kernel
theorem dX11_isLink_17 : decode cX11_isLink 17 = .ok (.iload_n 3, 1) := by decide +kernel
theorem dX11_isLink_18 : decode cX11_isLink 18 = .ok (.ifCond .ne 18, 3) := by decide +kernel
theorem dX11_isLink_21 : decode cX11_isLink 21 = .ok (.aload_n 0, 1) := by decide +kernel
theorem dX11_isLink_22 : decode cX11_isLink 22 = .ok (.iload_n 1, 1) := by decide +kernel
theorem dX11_isLink_23 : decode cX11_isLink 23 = .ok (.iconst 1, 1) := by decide +kernel
theorem dX11_isLink_24 : decode cX11_isLink 24 = .ok (.if_icmp .ne 7, 3) := by decide +kernel
theorem dX11_isLink_27 : decode cX11_isLink 27 = .ok (.iconst 1, 1) := by decide +kernel
theorem dX11_isLink_28 : decode cX11_isLink 28 = .ok (.goto 4, 3) := by decide +kernel
theorem dX11_isLink_31 : decode cX11_isLink 31 = .ok (.iconst 4, 1) := by decide +kernel
theorem dX11_isLink_32 : decode cX11_isLink 32 = .ok (.iload_n 2, 1) := by decide +kernel
theorem dX11_isLink_33 : decode cX11_isLink 33 = .ok (.invokevirtual 243, 3) := by decide +kernel
theorem dX11_isLink_36 : decode cX11_isLink 36 = .ok (.iload_n 3, 1) := by decide +kernel
theorem dX11_isLink_37 : decode cX11_isLink 37 = .ok (.ireturn, 1) := by decide +kernel
theorem dX11_readPlace_0 : decode cX11_readPlace 0 = .ok (.aload_n 0, 1) := by decide +kernel
theorem dX11_readPlace_1 : decode cX11_readPlace 1 = .ok (.aload_n 0, 1) := by decide +kernel
theorem dX11_readPlace_2 : decode cX11_readPlace 2 = .ok (.getfield 125, 3) := by decide +kernel
theorem dX11_readPlace_5 : decode cX11_readPlace 5 = .ok (.iload_n 1, 1) := by decide +kernel
theorem dX11_readPlace_6 : decode cX11_readPlace 6 = .ok (.invokevirtual 218, 3) := by decide +kernel
theorem dX11_readPlace_9 : decode cX11_readPlace 9 = .ok (.ifCond .eq 12, 3) := by decide +kernel
theorem dX11_readPlace_12 : decode cX11_readPlace 12 = .ok (.aload_n 0, 1) := by decide +kernel
theorem dX11_readPlace_13 : decode cX11_readPlace 13 = .ok (.iload_n 2, 1) := by decide +kernel
theorem dX11_readPlace_14 : decode cX11_readPlace 14 = .ok (.iload_n 1, 1) := by decide +kernel
theorem dX11_readPlace_15 : decode cX11_readPlace 15 = .ok (.invokevirtual 249, 3) := by decide +kernel
theorem dX11_readPlace_18 : decode cX11_readPlace 18 = .ok (.ifCond .ne 4, 3) := by decide +kernel
theorem dX11_readPlace_21 : decode cX11_readPlace 21 = .ok (.return_, 1) := by decide +kernel
theorem dX11_readPlace_22 : decode cX11_readPlace 22 = .ok (.aload_n 0, 1) := by decide +kernel
theorem dX11_readPlace_23 : decode cX11_readPlace 23 = .ok (.getfield 128, 3) := by decide +kernel
theorem dX11_readPlace_26 : decode cX11_readPlace 26 = .ok (.iconst 0, 1) := by decide +kernel
theorem dX11_readPlace_27 : decode cX11_readPlace 27 = .ok (.aload_n 0, 1) := by decide +kernel
theorem dX11_readPlace_28 : decode cX11_readPlace 28 = .ok (.getfield 22, 3) := by decide +kernel
theorem dX11_readPlace_31 : decode cX11_readPlace 31 = .ok (.iload_n 3, 1) := by decide +kernel
theorem dX11_readPlace_32 : decode cX11_readPlace 32 = .ok (.iaload, 1) := by decide +kernel
theorem dX11_readPlace_33 : decode cX11_readPlace 33 = .ok (.iconst 1, 1) := by decide +kernel
theorem dX11_readPlace_34 : decode cX11_readPlace 34 = .ok (.isub, 1) := by decide +kernel
theorem dX11_readPlace_35 : decode cX11_readPlace 35 = .ok (.invokestatic 107, 3) := by decide +kernel
theorem dX11_readPlace_38 : decode cX11_readPlace 38 = .ok (.ifCond .ne 12, 3) := by decide +kernel
theorem dX11_readPlace_41 : decode cX11_readPlace 41 = .ok (.aload_n 0, 1) := by decide +kernel
theorem dX11_readPlace_42 : decode cX11_readPlace 42 = .ok (.iconst 2, 1) := by decide +kernel
theorem dX11_readPlace_43 : decode cX11_readPlace 43 = .ok (.iload_n 1, 1) := by decide +kernel
theorem dX11_readPlace_44 : decode cX11_readPlace 44 = .ok (.invokevirtual 243, 3) := by decide +kernel
theorem dX11_readPlace_47 : decode cX11_readPlace 47 = .ok (.goto 32, 3) := by decide +kernel
theorem dX11_readPlace_50 : decode cX11_readPlace 50 = .ok (.bipush 16, 2) := by decide +kernel
theorem dX11_readPlace_52 : decode cX11_readPlace 52 = .ok (.iload_n 3, 1) := by decide +kernel
theorem dX11_readPlace_53 : decode cX11_readPlace 53 = .ok (.imul, 1) := by decide +kernel
theorem dX11_readPlace_54 : decode cX11_readPlace 54 = .ok (.aload_n 0, 1) := by decide +kernel
theorem dX11_readPlace_55 : decode cX11_readPlace 55 = .ok (.getfield 128, 3) := by decide +kernel
theorem dX11_readPlace_58 : decode cX11_readPlace 58 = .ok (.iadd, 1) := by decide +kernel
theorem dX11_readPlace_59 : decode cX11_readPlace 59 = .ok (.istore 4, 2) := by decide +kernel
theorem dX11_readPlace_61 : decode cX11_readPlace 61 = .ok (.aload_n 0, 1) := by decide +kernel
theorem dX11_readPlace_62 : decode cX11_readPlace 62 = .ok (.aload_n 0, 1) := by decide +kernel
theorem dX11_readPlace_63 : decode cX11_readPlace 63 = .ok (.getfield 25, 3) := by decide +kernel
theorem dX11_readPlace_66 : decode cX11_readPlace 66 = .ok (.iload 4, 2) := by decide +kernel
theorem dX11_readPlace_68 : decode cX11_readPlace 68 = .ok (.iaload, 1) := by decide +kernel
theorem dX11_readPlace_69 : decode cX11_readPlace 69 = .ok (.aload_n 0, 1) := by decide +kernel
theorem dX11_readPlace_70 : decode cX11_readPlace 70 = .ok (.getfield 28, 3) := by decide +kernel
theorem dX11_readPlace_73 : decode cX11_readPlace 73 = .ok (.iload 4, 2) := by decide +kernel
theorem dX11_readPlace_75 : decode cX11_readPlace 75 = .ok (.iaload, 1) := by decide +kernel
theorem dX11_readPlace_76 : decode cX11_readPlace 76 = .ok (.invokevirtual 168, 3) := by decide +kernel
theorem dX11_readPlace_79 : decode cX11_readPlace 79 = .ok (.return_, 1) := by decide +kernel
theorem dX11_writePlace_0 : decode cX11_writePlace 0 = .ok (.aload_n 0, 1) := by decide +kernel
theorem dX11_writePlace_1 : decode cX11_writePlace 1 = .ok (.getfield 79, 3) := by decide +kernel
theorem dX11_writePlace_4 : decode cX11_writePlace 4 = .ok (.iload_n 2, 1) := by decide +kernel
theorem dX11_writePlace_5 : decode cX11_writePlace 5 = .ok (.iaload, 1) := by decide +kernel
theorem dX11_writePlace_6 : decode cX11_writePlace 6 = .ok (.istore_n 3, 1) := by decide +kernel
theorem dX11_writePlace_7 : decode cX11_writePlace 7 = .ok (.iload_n 3, 1) := by decide +kernel
theorem dX11_writePlace_8 : decode cX11_writePlace 8 = .ok (.iconst 3, 1) := by decide +kernel
theorem dX11_writePlace_9 : decode cX11_writePlace 9 = .ok (.if_icmp .eq 8, 3) := by decide +kernel
theorem dX11_writePlace_12 : decode cX11_writePlace 12 = .ok (.iload_n 3, 1) := by decide +kernel
theorem dX11_writePlace_13 : decode cX11_writePlace 13 = .ok (.iconst 4, 1) := by decide +kernel
theorem dX11_writePlace_14 : decode cX11_writePlace 14 = .ok (.if_icmp .ne 7, 3) := by decide +kernel
theorem dX11_writePlace_17 : decode cX11_writePlace 17 = .ok (.iconst 1, 1) := by decide +kernel
theorem dX11_writePlace_18 : decode cX11_writePlace 18 = .ok (.goto 4, 3) := by decide +kernel
theorem dX11_writePlace_21 : decode cX11_writePlace 21 = .ok (.iconst 0, 1) := by decide +kernel
theorem dX11_writePlace_22 : decode cX11_writePlace 22 = .ok (.istore 4, 2) := by decide +kernel
theorem dX11_writePlace_24 : decode cX11_writePlace 24 = .ok (.aload_n 0, 1) := by decide +kernel
theorem dX11_writePlace_25 : decode cX11_writePlace 25 = .ok (.aload_n 0, 1) := by decide +kernel
theorem dX11_writePlace_26 : decode cX11_writePlace 26 = .ok (.getfield 85, 3) := by decide +kernel
theorem dX11_writePlace_29 : decode cX11_writePlace 29 = .ok (.iload_n 2, 1) := by decide +kernel
theorem dX11_writePlace_30 : decode cX11_writePlace 30 = .ok (.iaload, 1) := by decide +kernel
theorem dX11_writePlace_31 : decode cX11_writePlace 31 = .ok (.iload_n 1, 1) := by decide +kernel
theorem dX11_writePlace_32 : decode cX11_writePlace 32 = .ok (.invokevirtual 218, 3) := by decide +kernel
theorem dX11_writePlace_35 : decode cX11_writePlace 35 = .ok (.ifCond .ne 4, 3) := by decide +kernel
theorem dX11_writePlace_38 : decode cX11_writePlace 38 = .ok (.return_, 1) := by decide +kernel
theorem dX11_writePlace_39 : decode cX11_writePlace 39 = .ok (.iload 4, 2) := by decide +kernel
theorem dX11_writePlace_41 : decode cX11_writePlace 41 = .ok (.ifCond .eq 35, 3) := by decide +kernel
theorem dX11_writePlace_44 : decode cX11_writePlace 44 = .ok (.aload_n 0, 1) := by decide +kernel
theorem dX11_writePlace_45 : decode cX11_writePlace 45 = .ok (.getfield 125, 3) := by decide +kernel
theorem dX11_writePlace_48 : decode cX11_writePlace 48 = .ok (.iconst 1, 1) := by decide +kernel
theorem dX11_writePlace_49 : decode cX11_writePlace 49 = .ok (.if_icmp .eq 27, 3) := by decide +kernel
theorem dX11_writePlace_52 : decode cX11_writePlace 52 = .ok (.aload_n 0, 1) := by decide +kernel
theorem dX11_writePlace_53 : decode cX11_writePlace 53 = .ok (.getfield 125, 3) := by decide +kernel
theorem dX11_writePlace_56 : decode cX11_writePlace 56 = .ok (.iconst 5, 1) := by decide +kernel
theorem dX11_writePlace_57 : decode cX11_writePlace 57 = .ok (.if_icmp .eq 19, 3) := by decide +kernel
theorem dX11_writePlace_60 : decode cX11_writePlace 60 = .ok (.aload_n 0, 1) := by decide +kernel
theorem dX11_writePlace_61 : decode cX11_writePlace 61 = .ok (.getfield 125, 3) := by decide +kernel
theorem dX11_writePlace_64 : decode cX11_writePlace 64 = .ok (.bipush 6, 2) := by decide +kernel
theorem dX11_writePlace_66 : decode cX11_writePlace 66 = .ok (.if_icmp .eq 10, 3) := by decide +kernel
theorem dX11_writePlace_69 : decode cX11_writePlace 69 = .ok (.aload_n 0, 1) := by decide +kernel
theorem dX11_writePlace_70 : decode cX11_writePlace 70 = .ok (.iconst 4, 1) := by decide +kernel
theorem dX11_writePlace_71 : decode cX11_writePlace 71 = .ok (.iload_n 1, 1) := by decide +kernel
theorem dX11_writePlace_72 : decode cX11_writePlace 72 = .ok (.invokevirtual 243, 3) := by decide +kernel
theorem dX11_writePlace_75 : decode cX11_writePlace 75 = .ok (.return_, 1) := by decide +kernel
theorem dX11_writePlace_76 : decode cX11_writePlace 76 = .ok (.iload 4, 2) := by decide +kernel
theorem dX11_writePlace_78 : decode cX11_writePlace 78 = .ok (.ifCond .ne 15, 3) := by decide +kernel
theorem dX11_writePlace_81 : decode cX11_writePlace 81 = .ok (.aload_n 0, 1) := by decide +kernel
end
section
theorem dX11_writePlace_82 : decode cX11_writePlace 82 = .ok (.aload_n 0, 1) := by decide +kernel
theorem dX11_writePlace_83 : decode cX11_writePlace 83 = .ok (.getfield 125, 3) := by decide +kernel
theorem dX11_writePlace_86 : decode cX11_writePlace 86 = .ok (.iload_n 1, 1) := by decide +kernel
theorem dX11_writePlace_87 : decode cX11_writePlace 87 = .ok (.invokevirtual 218, 3) := by decide +kernel
theorem dX11_writePlace_90 : decode cX11_writePlace 90 = .ok (.ifCond .eq 12, 3) := by decide +kernel
theorem dX11_writePlace_93 : decode cX11_writePlace 93 = .ok (.aload_n 0, 1) := by decide +kernel
theorem dX11_writePlace_94 : decode cX11_writePlace 94 = .ok (.iload_n 3, 1) := by decide +kernel
theorem dX11_writePlace_95 : decode cX11_writePlace 95 = .ok (.iload_n 1, 1) := by decide +kernel
theorem dX11_writePlace_96 : decode cX11_writePlace 96 = .ok (.invokevirtual 249, 3) := by decide +kernel
theorem dX11_writePlace_99 : decode cX11_writePlace 99 = .ok (.ifCond .ne 4, 3) := by decide +kernel
theorem dX11_writePlace_102 : decode cX11_writePlace 102 = .ok (.return_, 1) := by decide +kernel
theorem dX11_writePlace_103 : decode cX11_writePlace 103 = .ok (.aload_n 0, 1) := by decide +kernel
theorem dX11_writePlace_104 : decode cX11_writePlace 104 = .ok (.getfield 82, 3) := by decide +kernel
theorem dX11_writePlace_107 : decode cX11_writePlace 107 = .ok (.iload_n 2, 1) := by decide +kernel
theorem dX11_writePlace_108 : decode cX11_writePlace 108 = .ok (.iaload, 1) := by decide +kernel
theorem dX11_writePlace_109 : decode cX11_writePlace 109 = .ok (.istore 5, 2) := by decide +kernel
theorem dX11_writePlace_111 : decode cX11_writePlace 111 = .ok (.aload_n 0, 1) := by decide +kernel
theorem dX11_writePlace_112 : decode cX11_writePlace 112 = .ok (.getfield 88, 3) := by decide +kernel
theorem dX11_writePlace_115 : decode cX11_writePlace 115 = .ok (.iload_n 2, 1) := by decide +kernel
theorem dX11_writePlace_116 : decode cX11_writePlace 116 = .ok (.iaload, 1) := by decide +kernel
theorem dX11_writePlace_117 : decode cX11_writePlace 117 = .ok (.iconst 0, 1) := by decide +kernel
theorem dX11_writePlace_118 : decode cX11_writePlace 118 = .ok (.aload_n 0, 1) := by decide +kernel
theorem dX11_writePlace_119 : decode cX11_writePlace 119 = .ok (.getfield 22, 3) := by decide +kernel
theorem dX11_writePlace_122 : decode cX11_writePlace 122 = .ok (.iload 5, 2) := by decide +kernel
theorem dX11_writePlace_124 : decode cX11_writePlace 124 = .ok (.iaload, 1) := by decide +kernel
theorem dX11_writePlace_125 : decode cX11_writePlace 125 = .ok (.iconst 1, 1) := by decide +kernel
theorem dX11_writePlace_126 : decode cX11_writePlace 126 = .ok (.isub, 1) := by decide +kernel
theorem dX11_writePlace_127 : decode cX11_writePlace 127 = .ok (.invokestatic 107, 3) := by decide +kernel
theorem dX11_writePlace_130 : decode cX11_writePlace 130 = .ok (.ifCond .ne 12, 3) := by decide +kernel
theorem dX11_writePlace_133 : decode cX11_writePlace 133 = .ok (.aload_n 0, 1) := by decide +kernel
theorem dX11_writePlace_134 : decode cX11_writePlace 134 = .ok (.iconst 2, 1) := by decide +kernel
theorem dX11_writePlace_135 : decode cX11_writePlace 135 = .ok (.iload_n 1, 1) := by decide +kernel
theorem dX11_writePlace_136 : decode cX11_writePlace 136 = .ok (.invokevirtual 243, 3) := by decide +kernel
theorem dX11_writePlace_139 : decode cX11_writePlace 139 = .ok (.goto 52, 3) := by decide +kernel
theorem dX11_writePlace_142 : decode cX11_writePlace 142 = .ok (.iload_n 3, 1) := by decide +kernel
theorem dX11_writePlace_143 : decode cX11_writePlace 143 = .ok (.iconst 4, 1) := by decide +kernel
theorem dX11_writePlace_144 : decode cX11_writePlace 144 = .ok (.if_icmp .ne 20, 3) := by decide +kernel
theorem dX11_writePlace_147 : decode cX11_writePlace 147 = .ok (.aload_n 0, 1) := by decide +kernel
theorem dX11_writePlace_148 : decode cX11_writePlace 148 = .ok (.getfield 125, 3) := by decide +kernel
theorem dX11_writePlace_151 : decode cX11_writePlace 151 = .ok (.iconst 5, 1) := by decide +kernel
theorem dX11_writePlace_152 : decode cX11_writePlace 152 = .ok (.if_icmp .ne 12, 3) := by decide +kernel
theorem dX11_writePlace_155 : decode cX11_writePlace 155 = .ok (.aload_n 0, 1) := by decide +kernel
theorem dX11_writePlace_156 : decode cX11_writePlace 156 = .ok (.iconst 5, 1) := by decide +kernel
theorem dX11_writePlace_157 : decode cX11_writePlace 157 = .ok (.iload_n 1, 1) := by decide +kernel
theorem dX11_writePlace_158 : decode cX11_writePlace 158 = .ok (.invokevirtual 243, 3) := by decide +kernel
theorem dX11_writePlace_161 : decode cX11_writePlace 161 = .ok (.goto 30, 3) := by decide +kernel
theorem dX11_writePlace_164 : decode cX11_writePlace 164 = .ok (.aload_n 0, 1) := by decide +kernel
theorem dX11_writePlace_165 : decode cX11_writePlace 165 = .ok (.bipush 8, 2) := by decide +kernel
theorem dX11_writePlace_167 : decode cX11_writePlace 167 = .ok (.bipush 16, 2) := by decide +kernel
theorem dX11_writePlace_169 : decode cX11_writePlace 169 = .ok (.iload 5, 2) := by decide +kernel
theorem dX11_writePlace_171 : decode cX11_writePlace 171 = .ok (.imul, 1) := by decide +kernel
theorem dX11_writePlace_172 : decode cX11_writePlace 172 = .ok (.iadd, 1) := by decide +kernel
theorem dX11_writePlace_173 : decode cX11_writePlace 173 = .ok (.aload_n 0, 1) := by decide +kernel
theorem dX11_writePlace_174 : decode cX11_writePlace 174 = .ok (.getfield 88, 3) := by decide +kernel
theorem dX11_writePlace_177 : decode cX11_writePlace 177 = .ok (.iload_n 2, 1) := by decide +kernel
theorem dX11_writePlace_178 : decode cX11_writePlace 178 = .ok (.iaload, 1) := by decide +kernel
theorem dX11_writePlace_179 : decode cX11_writePlace 179 = .ok (.iadd, 1) := by decide +kernel
theorem dX11_writePlace_180 : decode cX11_writePlace 180 = .ok (.aload_n 0, 1) := by decide +kernel
theorem dX11_writePlace_181 : decode cX11_writePlace 181 = .ok (.getfield 125, 3) := by decide +kernel
theorem dX11_writePlace_184 : decode cX11_writePlace 184 = .ok (.aload_n 0, 1) := by decide +kernel
theorem dX11_writePlace_185 : decode cX11_writePlace 185 = .ok (.getfield 128, 3) := by decide +kernel
theorem dX11_writePlace_188 : decode cX11_writePlace 188 = .ok (.invokevirtual 212, 3) := by decide +kernel
theorem dX11_writePlace_191 : decode cX11_writePlace 191 = .ok (.return_, 1) := by decide +kernel
theorem dX11_copyPlaces_0 : decode cX11_copyPlaces 0 = .ok (.aload_n 0, 1) := by decide +kernel
theorem dX11_copyPlaces_1 : decode cX11_copyPlaces 1 = .ok (.aload_n 0, 1) := by decide +kernel
theorem dX11_copyPlaces_2 : decode cX11_copyPlaces 2 = .ok (.getfield 125, 3) := by decide +kernel
theorem dX11_copyPlaces_5 : decode cX11_copyPlaces 5 = .ok (.iload_n 1, 1) := by decide +kernel
theorem dX11_copyPlaces_6 : decode cX11_copyPlaces 6 = .ok (.invokevirtual 218, 3) := by decide +kernel
theorem dX11_copyPlaces_9 : decode cX11_copyPlaces 9 = .ok (.ifCond .ne 4, 3) := by decide +kernel
theorem dX11_copyPlaces_12 : decode cX11_copyPlaces 12 = .ok (.return_, 1) := by decide +kernel
theorem dX11_copyPlaces_13 : decode cX11_copyPlaces 13 = .ok (.aload_n 0, 1) := by decide +kernel
theorem dX11_copyPlaces_14 : decode cX11_copyPlaces 14 = .ok (.getfield 79, 3) := by decide +kernel
theorem dX11_copyPlaces_17 : decode cX11_copyPlaces 17 = .ok (.iload_n 2, 1) := by decide +kernel
theorem dX11_copyPlaces_18 : decode cX11_copyPlaces 18 = .ok (.iaload, 1) := by decide +kernel
theorem dX11_copyPlaces_19 : decode cX11_copyPlaces 19 = .ok (.istore_n 3, 1) := by decide +kernel
theorem dX11_copyPlaces_20 : decode cX11_copyPlaces 20 = .ok (.aload_n 0, 1) := by decide +kernel
theorem dX11_copyPlaces_21 : decode cX11_copyPlaces 21 = .ok (.getfield 85, 3) := by decide +kernel
theorem dX11_copyPlaces_24 : decode cX11_copyPlaces 24 = .ok (.iload_n 2, 1) := by decide +kernel
theorem dX11_copyPlaces_25 : decode cX11_copyPlaces 25 = .ok (.iaload, 1) := by decide +kernel
theorem dX11_copyPlaces_26 : decode cX11_copyPlaces 26 = .ok (.istore 4, 2) := by decide +kernel
theorem dX11_copyPlaces_28 : decode cX11_copyPlaces 28 = .ok (.iload_n 3, 1) := by decide +kernel
theorem dX11_copyPlaces_29 : decode cX11_copyPlaces 29 = .ok (.iconst 1, 1) := by decide +kernel
theorem dX11_copyPlaces_30 : decode cX11_copyPlaces 30 = .ok (.if_icmp .eq 9, 3) := by decide +kernel
theorem dX11_copyPlaces_33 : decode cX11_copyPlaces 33 = .ok (.iload 4, 2) := by decide +kernel
theorem dX11_copyPlaces_35 : decode cX11_copyPlaces 35 = .ok (.iconst 1, 1) := by decide +kernel
theorem dX11_copyPlaces_36 : decode cX11_copyPlaces 36 = .ok (.if_icmp .ne 10, 3) := by decide +kernel
theorem dX11_copyPlaces_39 : decode cX11_copyPlaces 39 = .ok (.aload_n 0, 1) := by decide +kernel
theorem dX11_copyPlaces_40 : decode cX11_copyPlaces 40 = .ok (.iconst 1, 1) := by decide +kernel
theorem dX11_copyPlaces_41 : decode cX11_copyPlaces 41 = .ok (.iload_n 1, 1) := by decide +kernel
theorem dX11_copyPlaces_42 : decode cX11_copyPlaces 42 = .ok (.invokevirtual 243, 3) := by decide +kernel
theorem dX11_copyPlaces_45 : decode cX11_copyPlaces 45 = .ok (.return_, 1) := by decide +kernel
theorem dX11_copyPlaces_46 : decode cX11_copyPlaces 46 = .ok (.iload_n 3, 1) := by decide +kernel
theorem dX11_copyPlaces_47 : decode cX11_copyPlaces 47 = .ok (.invokestatic 246, 3) := by decide +kernel
theorem dX11_copyPlaces_50 : decode cX11_copyPlaces 50 = .ok (.ifCond .eq 35, 3) := by decide +kernel
theorem dX11_copyPlaces_53 : decode cX11_copyPlaces 53 = .ok (.iload 4, 2) := by decide +kernel
theorem dX11_copyPlaces_55 : decode cX11_copyPlaces 55 = .ok (.invokestatic 246, 3) := by decide +kernel
theorem dX11_copyPlaces_58 : decode cX11_copyPlaces 58 = .ok (.ifCond .eq 27, 3) := by decide +kernel
theorem dX11_copyPlaces_61 : decode cX11_copyPlaces 61 = .ok (.iload_n 3, 1) := by decide +kernel
theorem dX11_copyPlaces_62 : decode cX11_copyPlaces 62 = .ok (.iconst 2, 1) := by decide +kernel
theorem dX11_copyPlaces_63 : decode cX11_copyPlaces 63 = .ok (.if_icmp .ne 7, 3) := by decide +kernel
theorem dX11_copyPlaces_66 : decode cX11_copyPlaces 66 = .ok (.iconst 1, 1) := by decide +kernel
theorem dX11_copyPlaces_67 : decode cX11_copyPlaces 67 = .ok (.goto 4, 3) := by decide +kernel
theorem dX11_copyPlaces_70 : decode cX11_copyPlaces 70 = .ok (.iconst 0, 1) := by decide +kernel
theorem dX11_copyPlaces_71 : decode cX11_copyPlaces 71 = .ok (.iload 4, 2) := by decide +kernel
theorem dX11_copyPlaces_73 : decode cX11_copyPlaces 73 = .ok (.iconst 2, 1) := by decide +kernel
theorem dX11_copyPlaces_74 : decode cX11_copyPlaces 74 = .ok (.if_icmp .ne 7, 3) := by decide +kernel
theorem dX11_copyPlaces_77 : decode cX11_copyPlaces 77 = .ok (.iconst 1, 1) := by decide +kernel
theorem dX11_copyPlaces_78 : decode cX11_copyPlaces 78 = .ok (.goto 4, 3) := by decide +kernel
theorem dX11_copyPlaces_81 : decode cX11_copyPlaces 81 = .ok (.iconst 0, 1) := by decide +kernel
theorem dX11_copyPlaces_82 : decode cX11_copyPlaces 82 = .ok (.if_icmp .eq 10, 3) := by decide +kernel
theorem dX11_copyPlaces_85 : decode cX11_copyPlaces 85 = .ok (.aload_n 0, 1) := by decide +kernel
theorem dX11_copyPlaces_86 : decode cX11_copyPlaces 86 = .ok (.iconst 5, 1) := by decide +kernel
theorem dX11_copyPlaces_87 : decode cX11_copyPlaces 87 = .ok (.iload_n 1, 1) := by decide +kernel
theorem dX11_copyPlaces_88 : decode cX11_copyPlaces 88 = .ok (.invokevirtual 243, 3) := by decide +kernel
theorem dX11_copyPlaces_91 : decode cX11_copyPlaces 91 = .ok (.return_, 1) := by decide +kernel
theorem dX11_copyPlaces_92 : decode cX11_copyPlaces 92 = .ok (.aload_n 0, 1) := by decide +kernel
theorem dX11_copyPlaces_93 : decode cX11_copyPlaces 93 = .ok (.getfield 82, 3) := by decide +kernel
theorem dX11_copyPlaces_96 : decode cX11_copyPlaces 96 = .ok (.iload_n 2, 1) := by decide +kernel
theorem dX11_copyPlaces_97 : decode cX11_copyPlaces 97 = .ok (.iaload, 1) := by decide +kernel
theorem dX11_copyPlaces_98 : decode cX11_copyPlaces 98 = .ok (.istore 5, 2) := by decide +kernel
theorem dX11_copyPlaces_100 : decode cX11_copyPlaces 100 = .ok (.aload_n 0, 1) := by decide +kernel
theorem dX11_copyPlaces_101 : decode cX11_copyPlaces 101 = .ok (.getfield 88, 3) := by decide +kernel
theorem dX11_copyPlaces_104 : decode cX11_copyPlaces 104 = .ok (.iload_n 2, 1) := by decide +kernel
theorem dX11_copyPlaces_105 : decode cX11_copyPlaces 105 = .ok (.iaload, 1) := by decide +kernel
theorem dX11_copyPlaces_106 : decode cX11_copyPlaces 106 = .ok (.istore 6, 2) := by decide +kernel
theorem dX11_copyPlaces_108 : decode cX11_copyPlaces 108 = .ok (.aload_n 0, 1) := by decide +kernel
theorem dX11_copyPlaces_109 : decode cX11_copyPlaces 109 = .ok (.getfield 128, 3) := by decide +kernel
theorem dX11_copyPlaces_112 : decode cX11_copyPlaces 112 = .ok (.ifCond .lt 31, 3) := by decide +kernel
theorem dX11_copyPlaces_115 : decode cX11_copyPlaces 115 = .ok (.aload_n 0, 1) := by decide +kernel
theorem dX11_copyPlaces_116 : decode cX11_copyPlaces 116 = .ok (.getfield 128, 3) := by decide +kernel
theorem dX11_copyPlaces_119 : decode cX11_copyPlaces 119 = .ok (.aload_n 0, 1) := by decide +kernel
theorem dX11_copyPlaces_120 : decode cX11_copyPlaces 120 = .ok (.getfield 22, 3) := by decide +kernel
theorem dX11_copyPlaces_123 : decode cX11_copyPlaces 123 = .ok (.iload 5, 2) := by decide +kernel
theorem dX11_copyPlaces_125 : decode cX11_copyPlaces 125 = .ok (.iaload, 1) := by decide +kernel
theorem dX11_copyPlaces_126 : decode cX11_copyPlaces 126 = .ok (.if_icmp .gt 17, 3) := by decide +kernel
theorem dX11_copyPlaces_129 : decode cX11_copyPlaces 129 = .ok (.aload_n 0, 1) := by decide +kernel
theorem dX11_copyPlaces_130 : decode cX11_copyPlaces 130 = .ok (.getfield 128, 3) := by decide +kernel
theorem dX11_copyPlaces_133 : decode cX11_copyPlaces 133 = .ok (.aload_n 0, 1) := by decide +kernel
theorem dX11_copyPlaces_134 : decode cX11_copyPlaces 134 = .ok (.getfield 22, 3) := by decide +kernel
theorem dX11_copyPlaces_137 : decode cX11_copyPlaces 137 = .ok (.iload 6, 2) := by decide +kernel
theorem dX11_copyPlaces_139 : decode cX11_copyPlaces 139 = .ok (.iaload, 1) := by decide +kernel
theorem dX11_copyPlaces_140 : decode cX11_copyPlaces 140 = .ok (.if_icmp .le 10, 3) := by decide +kernel
theorem dX11_copyPlaces_143 : decode cX11_copyPlaces 143 = .ok (.aload_n 0, 1) := by decide +kernel
theorem dX11_copyPlaces_144 : decode cX11_copyPlaces 144 = .ok (.iconst 2, 1) := by decide +kernel
theorem dX11_copyPlaces_145 : decode cX11_copyPlaces 145 = .ok (.iload_n 1, 1) := by decide +kernel
theorem dX11_copyPlaces_146 : decode cX11_copyPlaces 146 = .ok (.invokevirtual 243, 3) := by decide +kernel
theorem dX11_copyPlaces_149 : decode cX11_copyPlaces 149 = .ok (.return_, 1) := by decide +kernel
theorem dX11_copyPlaces_150 : decode cX11_copyPlaces 150 = .ok (.iconst 0, 1) := by decide +kernel
theorem dX11_copyPlaces_151 : decode cX11_copyPlaces 151 = .ok (.istore 7, 2) := by decide +kernel
theorem dX11_copyPlaces_153 : decode cX11_copyPlaces 153 = .ok (.iload 7, 2) := by decide +kernel
theorem dX11_copyPlaces_155 : decode cX11_copyPlaces 155 = .ok (.aload_n 0, 1) := by decide +kernel
theorem dX11_copyPlaces_156 : decode cX11_copyPlaces 156 = .ok (.getfield 128, 3) := by decide +kernel
theorem dX11_copyPlaces_159 : decode cX11_copyPlaces 159 = .ok (.if_icmp .ge 72, 3) := by decide +kernel
theorem dX11_copyPlaces_162 : decode cX11_copyPlaces 162 = .ok (.bipush 16, 2) := by decide +kernel
theorem dX11_copyPlaces_164 : decode cX11_copyPlaces 164 = .ok (.iload 5, 2) := by decide +kernel
theorem dX11_copyPlaces_166 : decode cX11_copyPlaces 166 = .ok (.imul, 1) := by decide +kernel
theorem dX11_copyPlaces_167 : decode cX11_copyPlaces 167 = .ok (.iload 7, 2) := by decide +kernel
theorem dX11_copyPlaces_169 : decode cX11_copyPlaces 169 = .ok (.iadd, 1) := by decide +kernel
theorem dX11_copyPlaces_170 : decode cX11_copyPlaces 170 = .ok (.istore 8, 2) := by decide +kernel
theorem dX11_copyPlaces_172 : decode cX11_copyPlaces 172 = .ok (.iload 4, 2) := by decide +kernel
theorem dX11_copyPlaces_174 : decode cX11_copyPlaces 174 = .ok (.iconst 4, 1) := by decide +kernel
theorem dX11_copyPlaces_175 : decode cX11_copyPlaces 175 = .ok (.if_icmp .ne 21, 3) := by decide +kernel
theorem dX11_copyPlaces_178 : decode cX11_copyPlaces 178 = .ok (.aload_n 0, 1) := by decide +kernel
theorem dX11_copyPlaces_179 : decode cX11_copyPlaces 179 = .ok (.getfield 25, 3) := by decide +kernel
theorem dX11_copyPlaces_182 : decode cX11_copyPlaces 182 = .ok (.iload 8, 2) := by decide +kernel
theorem dX11_copyPlaces_184 : decode cX11_copyPlaces 184 = .ok (.iaload, 1) := by decide +kernel
theorem dX11_copyPlaces_185 : decode cX11_copyPlaces 185 = .ok (.iconst 5, 1) := by decide +kernel
theorem dX11_copyPlaces_186 : decode cX11_copyPlaces 186 = .ok (.if_icmp .ne 10, 3) := by decide +kernel
theorem dX11_copyPlaces_189 : decode cX11_copyPlaces 189 = .ok (.aload_n 0, 1) := by decide +kernel
theorem dX11_copyPlaces_190 : decode cX11_copyPlaces 190 = .ok (.iconst 5, 1) := by decide +kernel
theorem dX11_copyPlaces_191 : decode cX11_copyPlaces 191 = .ok (.iload_n 1, 1) := by decide +kernel
theorem dX11_copyPlaces_192 : decode cX11_copyPlaces 192 = .ok (.invokevirtual 243, 3) := by decide +kernel
theorem dX11_copyPlaces_195 : decode cX11_copyPlaces 195 = .ok (.return_, 1) := by decide +kernel
theorem dX11_copyPlaces_196 : decode cX11_copyPlaces 196 = .ok (.aload_n 0, 1) := by decide +kernel
theorem dX11_copyPlaces_197 : decode cX11_copyPlaces 197 = .ok (.bipush 8, 2) := by decide +kernel
theorem dX11_copyPlaces_199 : decode cX11_copyPlaces 199 = .ok (.bipush 16, 2) := by decide +kernel
theorem dX11_copyPlaces_201 : decode cX11_copyPlaces 201 = .ok (.iload 6, 2) := by decide +kernel
theorem dX11_copyPlaces_203 : decode cX11_copyPlaces 203 = .ok (.imul, 1) := by decide +kernel
theorem dX11_copyPlaces_204 : decode cX11_copyPlaces 204 = .ok (.iadd, 1) := by decide +kernel
theorem dX11_copyPlaces_205 : decode cX11_copyPlaces 205 = .ok (.iload 7, 2) := by decide +kernel
theorem dX11_copyPlaces_207 : decode cX11_copyPlaces 207 = .ok (.iadd, 1) := by decide +kernel
theorem dX11_copyPlaces_208 : decode cX11_copyPlaces 208 = .ok (.aload_n 0, 1) := by decide +kernel
theorem dX11_copyPlaces_209 : decode cX11_copyPlaces 209 = .ok (.getfield 25, 3) := by decide +kernel
theorem dX11_copyPlaces_212 : decode cX11_copyPlaces 212 = .ok (.iload 8, 2) := by decide +kernel
theorem dX11_copyPlaces_214 : decode cX11_copyPlaces 214 = .ok (.iaload, 1) := by decide +kernel
theorem dX11_copyPlaces_215 : decode cX11_copyPlaces 215 = .ok (.aload_n 0, 1) := by decide +kernel
theorem dX11_copyPlaces_216 : decode cX11_copyPlaces 216 = .ok (.getfield 28, 3) := by decide +kernel
theorem dX11_copyPlaces_219 : decode cX11_copyPlaces 219 = .ok (.iload 8, 2) := by decide +kernel
theorem dX11_copyPlaces_221 : decode cX11_copyPlaces 221 = .ok (.iaload, 1) := by decide +kernel
theorem dX11_copyPlaces_222 : decode cX11_copyPlaces 222 = .ok (.invokevirtual 212, 3) := by decide +kernel
theorem dX11_copyPlaces_225 : decode cX11_copyPlaces 225 = .ok (.iinc 7 1, 3) := by decide +kernel
theorem dX11_copyPlaces_228 : decode cX11_copyPlaces 228 = .ok (.goto (-75), 3) := by decide +kernel
theorem dX11_copyPlaces_231 : decode cX11_copyPlaces 231 = .ok (.return_, 1) := by decide +kernel
theorem dX11_upFailure_0 : decode cX11_upFailure 0 = .ok (.aload_n 0, 1) := by decide +kernel
theorem dX11_upFailure_1 : decode cX11_upFailure 1 = .ok (.getfield 174, 3) := by decide +kernel
theorem dX11_upFailure_4 : decode cX11_upFailure 4 = .ok (.iconst 1, 1) := by decide +kernel
theorem dX11_upFailure_5 : decode cX11_upFailure 5 = .ok (.isub, 1) := by decide +kernel
theorem dX11_upFailure_6 : decode cX11_upFailure 6 = .ok (.istore_n 1, 1) := by decide +kernel
theorem dX11_upFailure_7 : decode cX11_upFailure 7 = .ok (.aload_n 0, 1) := by decide +kernel
theorem dX11_upFailure_8 : decode cX11_upFailure 8 = .ok (.getfield 70, 3) := by decide +kernel
theorem dX11_upFailure_11 : decode cX11_upFailure 11 = .ok (.iload_n 1, 1) := by decide +kernel
theorem dX11_upFailure_12 : decode cX11_upFailure 12 = .ok (.iaload, 1) := by decide +kernel
theorem dX11_upFailure_13 : decode cX11_upFailure 13 = .ok (.istore_n 2, 1) := by decide +kernel
theorem dX11_upFailure_14 : decode cX11_upFailure 14 = .ok (.aload_n 0, 1) := by decide +kernel
theorem dX11_upFailure_15 : decode cX11_upFailure 15 = .ok (.getfield 7, 3) := by decide +kernel
theorem dX11_upFailure_18 : decode cX11_upFailure 18 = .ok (.iload_n 2, 1) := by decide +kernel
theorem dX11_upFailure_19 : decode cX11_upFailure 19 = .ok (.iaload, 1) := by decide +kernel
theorem dX11_upFailure_20 : decode cX11_upFailure 20 = .ok (.istore_n 3, 1) := by decide +kernel
theorem dX11_upFailure_21 : decode cX11_upFailure 21 = .ok (.aload_n 0, 1) := by decide +kernel
theorem dX11_upFailure_22 : decode cX11_upFailure 22 = .ok (.getfield 73, 3) := by decide +kernel
theorem dX11_upFailure_25 : decode cX11_upFailure 25 = .ok (.iload_n 1, 1) := by decide +kernel
theorem dX11_upFailure_26 : decode cX11_upFailure 26 = .ok (.iaload, 1) := by decide +kernel
theorem dX11_upFailure_27 : decode cX11_upFailure 27 = .ok (.istore 4, 2) := by decide +kernel
theorem dX11_upFailure_29 : decode cX11_upFailure 29 = .ok (.iload_n 3, 1) := by decide +kernel
theorem dX11_upFailure_30 : decode cX11_upFailure 30 = .ok (.bipush 21, 2) := by decide +kernel
theorem dX11_upFailure_32 : decode cX11_upFailure 32 = .ok (.if_icmp .ne 89, 3) := by decide +kernel
theorem dX11_upFailure_35 : decode cX11_upFailure 35 = .ok (.iload 4, 2) := by decide +kernel
theorem dX11_upFailure_37 : decode cX11_upFailure 37 = .ok (.ifCond .ne 84, 3) := by decide +kernel
theorem dX11_upFailure_40 : decode cX11_upFailure 40 = .ok (.aload_n 0, 1) := by decide +kernel
theorem dX11_upFailure_41 : decode cX11_upFailure 41 = .ok (.getfield 16, 3) := by decide +kernel
theorem dX11_upFailure_44 : decode cX11_upFailure 44 = .ok (.iload_n 2, 1) := by decide +kernel
theorem dX11_upFailure_45 : decode cX11_upFailure 45 = .ok (.iaload, 1) := by decide +kernel
theorem dX11_upFailure_46 : decode cX11_upFailure 46 = .ok (.ifCond .eq 16, 3) := by decide +kernel
theorem dX11_upFailure_49 : decode cX11_upFailure 49 = .ok (.aload_n 0, 1) := by decide +kernel
theorem dX11_upFailure_50 : decode cX11_upFailure 50 = .ok (.getfield 16, 3) := by decide +kernel
theorem dX11_upFailure_53 : decode cX11_upFailure 53 = .ok (.iload_n 2, 1) := by decide +kernel
theorem dX11_upFailure_54 : decode cX11_upFailure 54 = .ok (.iaload, 1) := by decide +kernel
theorem dX11_upFailure_55 : decode cX11_upFailure 55 = .ok (.aload_n 0, 1) := by decide +kernel
theorem dX11_upFailure_56 : decode cX11_upFailure 56 = .ok (.getfield 137, 3) := by decide +kernel
theorem dX11_upFailure_59 : decode cX11_upFailure 59 = .ok (.if_icmp .ne 62, 3) := by decide +kernel
theorem dX11_upFailure_62 : decode cX11_upFailure 62 = .ok (.bipush 8, 2) := by decide +kernel
theorem dX11_upFailure_64 : decode cX11_upFailure 64 = .ok (.aload_n 0, 1) := by decide +kernel
theorem dX11_upFailure_65 : decode cX11_upFailure 65 = .ok (.getfield 76, 3) := by decide +kernel
theorem dX11_upFailure_68 : decode cX11_upFailure 68 = .ok (.iload_n 1, 1) := by decide +kernel
theorem dX11_upFailure_69 : decode cX11_upFailure 69 = .ok (.iaload, 1) := by decide +kernel
theorem dX11_upFailure_70 : decode cX11_upFailure 70 = .ok (.imul, 1) := by decide +kernel
theorem dX11_upFailure_71 : decode cX11_upFailure 71 = .ok (.bipush 7, 2) := by decide +kernel
theorem dX11_upFailure_73 : decode cX11_upFailure 73 = .ok (.iadd, 1) := by decide +kernel
theorem dX11_upFailure_74 : decode cX11_upFailure 74 = .ok (.istore 5, 2) := by decide +kernel
theorem dX11_upFailure_76 : decode cX11_upFailure 76 = .ok (.aload_n 0, 1) := by decide +kernel
theorem dX11_upFailure_77 : decode cX11_upFailure 77 = .ok (.getfield 46, 3) := by decide +kernel
theorem dX11_upFailure_80 : decode cX11_upFailure 80 = .ok (.iload 5, 2) := by decide +kernel
theorem dX11_upFailure_82 : decode cX11_upFailure 82 = .ok (.iconst 0, 1) := by decide +kernel
theorem dX11_upFailure_83 : decode cX11_upFailure 83 = .ok (.iastore, 1) := by decide +kernel
theorem dX11_upFailure_84 : decode cX11_upFailure 84 = .ok (.aload_n 0, 1) := by decide +kernel
theorem dX11_upFailure_85 : decode cX11_upFailure 85 = .ok (.getfield 49, 3) := by decide +kernel
theorem dX11_upFailure_88 : decode cX11_upFailure 88 = .ok (.iload 5, 2) := by decide +kernel
theorem dX11_upFailure_90 : decode cX11_upFailure 90 = .ok (.aload_n 0, 1) := by decide +kernel
theorem dX11_upFailure_91 : decode cX11_upFailure 91 = .ok (.getfield 140, 3) := by decide +kernel
theorem dX11_upFailure_94 : decode cX11_upFailure 94 = .ok (.iastore, 1) := by decide +kernel
theorem dX11_upFailure_95 : decode cX11_upFailure 95 = .ok (.aload_n 0, 1) := by decide +kernel
theorem dX11_upFailure_96 : decode cX11_upFailure 96 = .ok (.getfield 73, 3) := by decide +kernel
theorem dX11_upFailure_99 : decode cX11_upFailure 99 = .ok (.iload_n 1, 1) := by decide +kernel
theorem dX11_upFailure_100 : decode cX11_upFailure 100 = .ok (.iconst 1, 1) := by decide +kernel
theorem dX11_upFailure_101 : decode cX11_upFailure 101 = .ok (.iastore, 1) := by decide +kernel
theorem dX11_upFailure_102 : decode cX11_upFailure 102 = .ok (.aload_n 0, 1) := by decide +kernel
theorem dX11_upFailure_103 : decode cX11_upFailure 103 = .ok (.aload_n 0, 1) := by decide +kernel
theorem dX11_upFailure_104 : decode cX11_upFailure 104 = .ok (.getfield 19, 3) := by decide +kernel
theorem dX11_upFailure_107 : decode cX11_upFailure 107 = .ok (.iload_n 2, 1) := by decide +kernel
theorem dX11_upFailure_108 : decode cX11_upFailure 108 = .ok (.iaload, 1) := by decide +kernel
theorem dX11_upFailure_109 : decode cX11_upFailure 109 = .ok (.aload_n 0, 1) := by decide +kernel
theorem dX11_upFailure_110 : decode cX11_upFailure 110 = .ok (.getfield 76, 3) := by decide +kernel
theorem dX11_upFailure_113 : decode cX11_upFailure 113 = .ok (.iload_n 1, 1) := by decide +kernel
theorem dX11_upFailure_114 : decode cX11_upFailure 114 = .ok (.iaload, 1) := by decide +kernel
theorem dX11_upFailure_115 : decode cX11_upFailure 115 = .ok (.invokevirtual 177, 3) := by decide +kernel
theorem dX11_upFailure_118 : decode cX11_upFailure 118 = .ok (.goto 143, 3) := by decide +kernel
theorem dX11_upFailure_121 : decode cX11_upFailure 121 = .ok (.iload_n 3, 1) := by decide +kernel
theorem dX11_upFailure_122 : decode cX11_upFailure 122 = .ok (.bipush 22, 2) := by decide +kernel
theorem dX11_upFailure_124 : decode cX11_upFailure 124 = .ok (.if_icmp .ne 64, 3) := by decide +kernel
theorem dX11_upFailure_127 : decode cX11_upFailure 127 = .ok (.iload 4, 2) := by decide +kernel
theorem dX11_upFailure_129 : decode cX11_upFailure 129 = .ok (.ifCond .ne 59, 3) := by decide +kernel
theorem dX11_upFailure_132 : decode cX11_upFailure 132 = .ok (.aload_n 0, 1) := by decide +kernel
theorem dX11_upFailure_133 : decode cX11_upFailure 133 = .ok (.getfield 79, 3) := by decide +kernel
theorem dX11_upFailure_136 : decode cX11_upFailure 136 = .ok (.iload_n 1, 1) := by decide +kernel
theorem dX11_upFailure_137 : decode cX11_upFailure 137 = .ok (.aload_n 0, 1) := by decide +kernel
theorem dX11_upFailure_138 : decode cX11_upFailure 138 = .ok (.getfield 137, 3) := by decide +kernel
theorem dX11_upFailure_141 : decode cX11_upFailure 141 = .ok (.iastore, 1) := by decide +kernel
theorem dX11_upFailure_142 : decode cX11_upFailure 142 = .ok (.aload_n 0, 1) := by decide +kernel
theorem dX11_upFailure_143 : decode cX11_upFailure 143 = .ok (.getfield 82, 3) := by decide +kernel
theorem dX11_upFailure_146 : decode cX11_upFailure 146 = .ok (.iload_n 1, 1) := by decide +kernel
theorem dX11_upFailure_147 : decode cX11_upFailure 147 = .ok (.aload_n 0, 1) := by decide +kernel
theorem dX11_upFailure_148 : decode cX11_upFailure 148 = .ok (.getfield 140, 3) := by decide +kernel
theorem dX11_upFailure_151 : decode cX11_upFailure 151 = .ok (.iastore, 1) := by decide +kernel
theorem dX11_upFailure_152 : decode cX11_upFailure 152 = .ok (.aload_n 0, 1) := by decide +kernel
theorem dX11_upFailure_153 : decode cX11_upFailure 153 = .ok (.getfield 94, 3) := by decide +kernel
theorem dX11_upFailure_156 : decode cX11_upFailure 156 = .ok (.iload_n 1, 1) := by decide +kernel
theorem dX11_upFailure_157 : decode cX11_upFailure 157 = .ok (.aload_n 0, 1) := by decide +kernel
theorem dX11_upFailure_158 : decode cX11_upFailure 158 = .ok (.getfield 143, 3) := by decide +kernel
theorem dX11_upFailure_161 : decode cX11_upFailure 161 = .ok (.iastore, 1) := by decide +kernel
theorem dX11_upFailure_162 : decode cX11_upFailure 162 = .ok (.aload_n 0, 1) := by decide +kernel
theorem dX11_upFailure_163 : decode cX11_upFailure 163 = .ok (.getfield 73, 3) := by decide +kernel
theorem dX11_upFailure_166 : decode cX11_upFailure 166 = .ok (.iload_n 1, 1) := by decide +kernel
theorem dX11_upFailure_167 : decode cX11_upFailure 167 = .ok (.iconst 2, 1) := by decide +kernel
theorem dX11_upFailure_168 : decode cX11_upFailure 168 = .ok (.iastore, 1) := by decide +kernel
theorem dX11_upFailure_169 : decode cX11_upFailure 169 = .ok (.aload_n 0, 1) := by decide +kernel
theorem dX11_upFailure_170 : decode cX11_upFailure 170 = .ok (.aload_n 0, 1) := by decide +kernel
theorem dX11_upFailure_171 : decode cX11_upFailure 171 = .ok (.getfield 16, 3) := by decide +kernel
theorem dX11_upFailure_174 : decode cX11_upFailure 174 = .ok (.iload_n 2, 1) := by decide +kernel
theorem dX11_upFailure_175 : decode cX11_upFailure 175 = .ok (.iaload, 1) := by decide +kernel
theorem dX11_upFailure_176 : decode cX11_upFailure 176 = .ok (.aload_n 0, 1) := by decide +kernel
theorem dX11_upFailure_177 : decode cX11_upFailure 177 = .ok (.getfield 76, 3) := by decide +kernel
theorem dX11_upFailure_180 : decode cX11_upFailure 180 = .ok (.iload_n 1, 1) := by decide +kernel
theorem dX11_upFailure_181 : decode cX11_upFailure 181 = .ok (.iaload, 1) := by decide +kernel
theorem dX11_upFailure_182 : decode cX11_upFailure 182 = .ok (.invokevirtual 177, 3) := by decide +kernel
theorem dX11_upFailure_185 : decode cX11_upFailure 185 = .ok (.goto 76, 3) := by decide +kernel
theorem dX11_upFailure_188 : decode cX11_upFailure 188 = .ok (.aload_n 0, 1) := by decide +kernel
theorem dX11_upFailure_189 : decode cX11_upFailure 189 = .ok (.dup, 1) := by decide +kernel
theorem dX11_upFailure_190 : decode cX11_upFailure 190 = .ok (.getfield 174, 3) := by decide +kernel
theorem dX11_upFailure_193 : decode cX11_upFailure 193 = .ok (.iconst 1, 1) := by decide +kernel
theorem dX11_upFailure_194 : decode cX11_upFailure 194 = .ok (.isub, 1) := by decide +kernel
theorem dX11_upFailure_195 : decode cX11_upFailure 195 = .ok (.putfield 174, 3) := by decide +kernel
theorem dX11_upFailure_198 : decode cX11_upFailure 198 = .ok (.aload_n 0, 1) := by decide +kernel
theorem dX11_upFailure_199 : decode cX11_upFailure 199 = .ok (.iload_n 1, 1) := by decide +kernel
theorem dX11_upFailure_200 : decode cX11_upFailure 200 = .ok (.iload_n 2, 1) := by decide +kernel
theorem dX11_upFailure_201 : decode cX11_upFailure 201 = .ok (.iload_n 3, 1) := by decide +kernel
theorem dX11_upFailure_202 : decode cX11_upFailure 202 = .ok (.iload 4, 2) := by decide +kernel
theorem dX11_upFailure_204 : decode cX11_upFailure 204 = .ok (.invokevirtual 252, 3) := by decide +kernel
theorem dX11_upFailure_207 : decode cX11_upFailure 207 = .ok (.iload_n 3, 1) := by decide +kernel
theorem dX11_upFailure_208 : decode cX11_upFailure 208 = .ok (.bipush 28, 2) := by decide +kernel
theorem dX11_upFailure_210 : decode cX11_upFailure 210 = .ok (.if_icmp .ne 51, 3) := by decide +kernel
theorem dX11_upFailure_213 : decode cX11_upFailure 213 = .ok (.iload 4, 2) := by decide +kernel
theorem dX11_upFailure_215 : decode cX11_upFailure 215 = .ok (.iconst 1, 1) := by decide +kernel
theorem dX11_upFailure_216 : decode cX11_upFailure 216 = .ok (.if_icmp .ne 45, 3) := by decide +kernel
theorem dX11_upFailure_219 : decode cX11_upFailure 219 = .ok (.aload_n 0, 1) := by decide +kernel
theorem dX11_upFailure_220 : decode cX11_upFailure 220 = .ok (.getfield 37, 3) := by decide +kernel
theorem dX11_upFailure_223 : decode cX11_upFailure 223 = .ok (.aload_n 0, 1) := by decide +kernel
theorem dX11_upFailure_224 : decode cX11_upFailure 224 = .ok (.getfield 82, 3) := by decide +kernel
theorem dX11_upFailure_227 : decode cX11_upFailure 227 = .ok (.iload_n 1, 1) := by decide +kernel
theorem dX11_upFailure_228 : decode cX11_upFailure 228 = .ok (.iaload, 1) := by decide +kernel
theorem dX11_upFailure_229 : decode cX11_upFailure 229 = .ok (.iconst 3, 1) := by decide +kernel
theorem dX11_upFailure_230 : decode cX11_upFailure 230 = .ok (.iastore, 1) := by decide +kernel
theorem dX11_upFailure_231 : decode cX11_upFailure 231 = .ok (.aload_n 0, 1) := by decide +kernel
theorem dX11_upFailure_232 : decode cX11_upFailure 232 = .ok (.getfield 40, 3) := by decide +kernel
theorem dX11_upFailure_235 : decode cX11_upFailure 235 = .ok (.aload_n 0, 1) := by decide +kernel
theorem dX11_upFailure_236 : decode cX11_upFailure 236 = .ok (.getfield 82, 3) := by decide +kernel
theorem dX11_upFailure_239 : decode cX11_upFailure 239 = .ok (.iload_n 1, 1) := by decide +kernel
theorem dX11_upFailure_240 : decode cX11_upFailure 240 = .ok (.iaload, 1) := by decide +kernel
theorem dX11_upFailure_241 : decode cX11_upFailure 241 = .ok (.aload_n 0, 1) := by decide +kernel
theorem dX11_upFailure_242 : decode cX11_upFailure 242 = .ok (.getfield 137, 3) := by decide +kernel
theorem dX11_upFailure_245 : decode cX11_upFailure 245 = .ok (.iastore, 1) := by decide +kernel
theorem dX11_upFailure_246 : decode cX11_upFailure 246 = .ok (.aload_n 0, 1) := by decide +kernel
theorem dX11_upFailure_247 : decode cX11_upFailure 247 = .ok (.getfield 43, 3) := by decide +kernel
theorem dX11_upFailure_250 : decode cX11_upFailure 250 = .ok (.aload_n 0, 1) := by decide +kernel
theorem dX11_upFailure_251 : decode cX11_upFailure 251 = .ok (.getfield 82, 3) := by decide +kernel
theorem dX11_upFailure_254 : decode cX11_upFailure 254 = .ok (.iload_n 1, 1) := by decide +kernel
theorem dX11_upFailure_255 : decode cX11_upFailure 255 = .ok (.iaload, 1) := by decide +kernel
theorem dX11_upFailure_256 : decode cX11_upFailure 256 = .ok (.aload_n 0, 1) := by decide +kernel
theorem dX11_upFailure_257 : decode cX11_upFailure 257 = .ok (.getfield 140, 3) := by decide +kernel
theorem dX11_upFailure_260 : decode cX11_upFailure 260 = .ok (.iastore, 1) := by decide +kernel
theorem dX11_upFailure_261 : decode cX11_upFailure 261 = .ok (.return_, 1) := by decide +kernel
theorem dX11_leave_0 : decode cX11_leave 0 = .ok (.iload_n 3, 1) := by decide +kernel
theorem dX11_leave_1 : decode cX11_leave 1 = .ok (.bipush 29, 2) := by decide +kernel
theorem dX11_leave_3 : decode cX11_leave 3 = .ok (.if_icmp .ne 13, 3) := by decide +kernel
theorem dX11_leave_6 : decode cX11_leave 6 = .ok (.aload_n 0, 1) := by decide +kernel
theorem dX11_leave_7 : decode cX11_leave 7 = .ok (.aload_n 0, 1) := by decide +kernel
theorem dX11_leave_8 : decode cX11_leave 8 = .ok (.getfield 91, 3) := by decide +kernel
theorem dX11_leave_11 : decode cX11_leave 11 = .ok (.iload_n 1, 1) := by decide +kernel
theorem dX11_leave_12 : decode cX11_leave 12 = .ok (.iaload, 1) := by decide +kernel
theorem dX11_leave_13 : decode cX11_leave 13 = .ok (.invokevirtual 255, 3) := by decide +kernel
theorem dX11_leave_16 : decode cX11_leave 16 = .ok (.iload_n 3, 1) := by decide +kernel
theorem dX11_leave_17 : decode cX11_leave 17 = .ok (.bipush 25, 2) := by decide +kernel
theorem dX11_leave_19 : decode cX11_leave 19 = .ok (.if_icmp .ne 19, 3) := by decide +kernel
theorem dX11_leave_22 : decode cX11_leave 22 = .ok (.iload 4, 2) := by decide +kernel
theorem dX11_leave_24 : decode cX11_leave 24 = .ok (.iconst 1, 1) := by decide +kernel
theorem dX11_leave_25 : decode cX11_leave 25 = .ok (.if_icmp .ne 13, 3) := by decide +kernel
theorem dX11_leave_28 : decode cX11_leave 28 = .ok (.aload_n 0, 1) := by decide +kernel
theorem dX11_leave_29 : decode cX11_leave 29 = .ok (.dup, 1) := by decide +kernel
theorem dX11_leave_30 : decode cX11_leave 30 = .ok (.getfield 236, 3) := by decide +kernel
theorem dX11_leave_33 : decode cX11_leave 33 = .ok (.iconst 1, 1) := by decide +kernel
theorem dX11_leave_34 : decode cX11_leave 34 = .ok (.isub, 1) := by decide +kernel
theorem dX11_leave_35 : decode cX11_leave 35 = .ok (.putfield 236, 3) := by decide +kernel
theorem dX11_leave_38 : decode cX11_leave 38 = .ok (.iload_n 3, 1) := by decide +kernel
theorem dX11_leave_39 : decode cX11_leave 39 = .ok (.bipush 28, 2) := by decide +kernel
theorem dX11_leave_41 : decode cX11_leave 41 = .ok (.if_icmp .ne 21, 3) := by decide +kernel
theorem dX11_leave_44 : decode cX11_leave 44 = .ok (.iload 4, 2) := by decide +kernel
theorem dX11_leave_46 : decode cX11_leave 46 = .ok (.iconst 1, 1) := by decide +kernel
theorem dX11_leave_47 : decode cX11_leave 47 = .ok (.if_icmp .ne 15, 3) := by decide +kernel
theorem dX11_leave_50 : decode cX11_leave 50 = .ok (.aload_n 0, 1) := by decide +kernel
theorem dX11_leave_51 : decode cX11_leave 51 = .ok (.getfield 37, 3) := by decide +kernel
theorem dX11_leave_54 : decode cX11_leave 54 = .ok (.aload_n 0, 1) := by decide +kernel
theorem dX11_leave_55 : decode cX11_leave 55 = .ok (.getfield 82, 3) := by decide +kernel
theorem dX11_leave_58 : decode cX11_leave 58 = .ok (.iload_n 1, 1) := by decide +kernel
theorem dX11_leave_59 : decode cX11_leave 59 = .ok (.iaload, 1) := by decide +kernel
theorem dX11_leave_60 : decode cX11_leave 60 = .ok (.iconst 0, 1) := by decide +kernel
theorem dX11_leave_61 : decode cX11_leave 61 = .ok (.iastore, 1) := by decide +kernel
theorem dX11_leave_62 : decode cX11_leave 62 = .ok (.return_, 1) := by decide +kernel
theorem dX11_run_0 : decode cX11_run 0 = .ok (.aload_n 0, 1) := by decide +kernel
theorem dX11_run_1 : decode cX11_run 1 = .ok (.iconst 0, 1) := by decide +kernel
theorem dX11_run_2 : decode cX11_run 2 = .ok (.putfield 111, 3) := by decide +kernel
theorem dX11_run_5 : decode cX11_run 5 = .ok (.aload_n 0, 1) := by decide +kernel
theorem dX11_run_6 : decode cX11_run 6 = .ok (.iload_n 1, 1) := by decide +kernel
theorem dX11_run_7 : decode cX11_run 7 = .ok (.invokevirtual 118, 3) := by decide +kernel
theorem dX11_run_10 : decode cX11_run 10 = .ok (.ifCond .eq 6, 3) := by decide +kernel
theorem dX11_run_13 : decode cX11_run 13 = .ok (.bipush (-101), 2) := by decide +kernel
theorem dX11_run_15 : decode cX11_run 15 = .ok (.ireturn, 1) := by decide +kernel
theorem dX11_run_16 : decode cX11_run 16 = .ok (.iload_n 2, 1) := by decide +kernel
theorem dX11_run_17 : decode cX11_run 17 = .ok (.iconst 1, 1) := by decide +kernel
theorem dX11_run_18 : decode cX11_run 18 = .ok (.sipush 200, 3) := by decide +kernel
theorem dX11_run_21 : decode cX11_run 21 = .ok (.invokestatic 107, 3) := by decide +kernel
theorem dX11_run_24 : decode cX11_run 24 = .ok (.ifCond .ne 6, 3) := by decide +kernel
theorem dX11_run_27 : decode cX11_run 27 = .ok (.bipush (-102), 2) := by decide +kernel
theorem dX11_run_29 : decode cX11_run 29 = .ok (.ireturn, 1) := by decide +kernel
theorem dX11_run_30 : decode cX11_run 30 = .ok (.aload_n 0, 1) := by decide +kernel
theorem dX11_run_31 : decode cX11_run 31 = .ok (.getfield 258, 3) := by decide +kernel
theorem dX11_run_34 : decode cX11_run 34 = .ok (.sipush 400, 3) := by decide +kernel
theorem dX11_run_37 : decode cX11_run 37 = .ok (.if_icmp .ne 6, 3) := by decide +kernel
theorem dX11_run_40 : decode cX11_run 40 = .ok (.bipush (-104), 2) := by decide +kernel
theorem dX11_run_42 : decode cX11_run 42 = .ok (.ireturn, 1) := by decide +kernel
theorem dX11_run_43 : decode cX11_run 43 = .ok (.aload_n 0, 1) := by decide +kernel
theorem dX11_run_44 : decode cX11_run 44 = .ok (.dup, 1) := by decide +kernel
theorem dX11_run_45 : decode cX11_run 45 = .ok (.getfield 258, 3) := by decide +kernel
theorem dX11_run_48 : decode cX11_run 48 = .ok (.iconst 1, 1) := by decide +kernel
theorem dX11_run_49 : decode cX11_run 49 = .ok (.iadd, 1) := by decide +kernel
theorem dX11_run_50 : decode cX11_run 50 = .ok (.putfield 258, 3) := by decide +kernel
theorem dX11_run_53 : decode cX11_run 53 = .ok (.aload_n 0, 1) := by decide +kernel
theorem dX11_run_54 : decode cX11_run 54 = .ok (.iconst 0, 1) := by decide +kernel
theorem dX11_run_55 : decode cX11_run 55 = .ok (.putfield 153, 3) := by decide +kernel
theorem dX11_run_58 : decode cX11_run 58 = .ok (.aload_n 0, 1) := by decide +kernel
theorem dX11_run_59 : decode cX11_run 59 = .ok (.iconst 0, 1) := by decide +kernel
theorem dX11_run_60 : decode cX11_run 60 = .ok (.putfield 156, 3) := by decide +kernel
theorem dX11_run_63 : decode cX11_run 63 = .ok (.aload_n 0, 1) := by decide +kernel
theorem dX11_run_64 : decode cX11_run 64 = .ok (.iconst 0, 1) := by decide +kernel
theorem dX11_run_65 : decode cX11_run 65 = .ok (.putfield 159, 3) := by decide +kernel
theorem dX11_run_68 : decode cX11_run 68 = .ok (.aload_n 0, 1) := by decide +kernel
theorem dX11_run_69 : decode cX11_run 69 = .ok (.iconst 0, 1) := by decide +kernel
theorem dX11_run_70 : decode cX11_run 70 = .ok (.putfield 230, 3) := by decide +kernel
theorem dX11_run_73 : decode cX11_run 73 = .ok (.aload_n 0, 1) := by decide +kernel
theorem dX11_run_74 : decode cX11_run 74 = .ok (.iconst 0, 1) := by decide +kernel
theorem dX11_run_75 : decode cX11_run 75 = .ok (.putfield 174, 3) := by decide +kernel
theorem dX11_run_78 : decode cX11_run 78 = .ok (.aload_n 0, 1) := by decide +kernel
theorem dX11_run_79 : decode cX11_run 79 = .ok (.iconst 0, 1) := by decide +kernel
theorem dX11_run_80 : decode cX11_run 80 = .ok (.putfield 146, 3) := by decide +kernel
theorem dX11_run_83 : decode cX11_run 83 = .ok (.aload_n 0, 1) := by decide +kernel
theorem dX11_run_84 : decode cX11_run 84 = .ok (.iconst 0, 1) := by decide +kernel
theorem dX11_run_85 : decode cX11_run 85 = .ok (.putfield 162, 3) := by decide +kernel
theorem dX11_run_88 : decode cX11_run 88 = .ok (.aload_n 0, 1) := by decide +kernel
theorem dX11_run_89 : decode cX11_run 89 = .ok (.iload_n 2, 1) := by decide +kernel
theorem dX11_run_90 : decode cX11_run 90 = .ok (.putfield 165, 3) := by decide +kernel
theorem dX11_run_93 : decode cX11_run 93 = .ok (.aload_n 0, 1) := by decide +kernel
theorem dX11_run_94 : decode cX11_run 94 = .ok (.iconst 0, 1) := by decide +kernel
theorem dX11_run_95 : decode cX11_run 95 = .ok (.putfield 236, 3) := by decide +kernel
theorem dX11_run_98 : decode cX11_run 98 = .ok (.iconst 0, 1) := by decide +kernel
theorem dX11_run_99 : decode cX11_run 99 = .ok (.istore_n 3, 1) := by decide +kernel
theorem dX11_run_100 : decode cX11_run 100 = .ok (.iload_n 3, 1) := by decide +kernel
theorem dX11_run_101 : decode cX11_run 101 = .ok (.bipush 8, 2) := by decide +kernel
theorem dX11_run_103 : decode cX11_run 103 = .ok (.if_icmp .ge 23, 3) := by decide +kernel
theorem dX11_run_106 : decode cX11_run 106 = .ok (.aload_n 0, 1) := by decide +kernel
theorem dX11_run_107 : decode cX11_run 107 = .ok (.getfield 52, 3) := by decide +kernel
theorem dX11_run_110 : decode cX11_run 110 = .ok (.iload_n 3, 1) := by decide +kernel
theorem dX11_run_111 : decode cX11_run 111 = .ok (.iconst 1, 1) := by decide +kernel
theorem dX11_run_112 : decode cX11_run 112 = .ok (.iastore, 1) := by decide +kernel
theorem dX11_run_113 : decode cX11_run 113 = .ok (.aload_n 0, 1) := by decide +kernel
theorem dX11_run_114 : decode cX11_run 114 = .ok (.getfield 55, 3) := by decide +kernel
theorem dX11_run_117 : decode cX11_run 117 = .ok (.iload_n 3, 1) := by decide +kernel
theorem dX11_run_118 : decode cX11_run 118 = .ok (.iconst 0, 1) := by decide +kernel
theorem dX11_run_119 : decode cX11_run 119 = .ok (.iastore, 1) := by decide +kernel
theorem dX11_run_120 : decode cX11_run 120 = .ok (.iinc 3 1, 3) := by decide +kernel
theorem dX11_run_123 : decode cX11_run 123 = .ok (.goto (-23), 3) := by decide +kernel
theorem dX11_run_126 : decode cX11_run 126 = .ok (.aload_n 0, 1) := by decide +kernel
theorem dX11_run_127 : decode cX11_run 127 = .ok (.iload_n 1, 1) := by decide +kernel
theorem dX11_run_128 : decode cX11_run 128 = .ok (.aload_n 0, 1) := by decide +kernel
theorem dX11_run_129 : decode cX11_run 129 = .ok (.invokevirtual 239, 3) := by decide +kernel
theorem dX11_run_132 : decode cX11_run 132 = .ok (.invokevirtual 177, 3) := by decide +kernel
theorem dX11_run_135 : decode cX11_run 135 = .ok (.iconst 1, 1) := by decide +kernel
theorem dX11_run_136 : decode cX11_run 136 = .ok (.istore_n 3, 1) := by decide +kernel
theorem dX11_run_137 : decode cX11_run 137 = .ok (.iload_n 3, 1) := by decide +kernel
theorem dX11_run_138 : decode cX11_run 138 = .ok (.ifCond .eq 112, 3) := by decide +kernel
theorem dX11_run_141 : decode cX11_run 141 = .ok (.aload_n 0, 1) := by decide +kernel
theorem dX11_run_142 : decode cX11_run 142 = .ok (.getfield 122, 3) := by decide +kernel
theorem dX11_run_145 : decode cX11_run 145 = .ok (.ifCond .ne 10, 3) := by decide +kernel
theorem dX11_run_148 : decode cX11_run 148 = .ok (.aload_n 0, 1) := by decide +kernel
theorem dX11_run_149 : decode cX11_run 149 = .ok (.invokevirtual 261, 3) := by decide +kernel
theorem dX11_run_152 : decode cX11_run 152 = .ok (.goto (-15), 3) := by decide +kernel
theorem dX11_run_155 : decode cX11_run 155 = .ok (.aload_n 0, 1) := by decide +kernel
theorem dX11_run_156 : decode cX11_run 156 = .ok (.getfield 174, 3) := by decide +kernel
theorem dX11_run_159 : decode cX11_run 159 = .ok (.ifCond .ne 8, 3) := by decide +kernel
theorem dX11_run_162 : decode cX11_run 162 = .ok (.iconst 0, 1) := by decide +kernel
theorem dX11_run_163 : decode cX11_run 163 = .ok (.istore_n 3, 1) := by decide +kernel
theorem dX11_run_164 : decode cX11_run 164 = .ok (.goto (-27), 3) := by decide +kernel
theorem dX11_run_167 : decode cX11_run 167 = .ok (.aload_n 0, 1) := by decide +kernel
theorem dX11_run_168 : decode cX11_run 168 = .ok (.getfield 122, 3) := by decide +kernel
theorem dX11_run_171 : decode cX11_run 171 = .ok (.iconst 1, 1) := by decide +kernel
theorem dX11_run_172 : decode cX11_run 172 = .ok (.if_icmp .ne 10, 3) := by decide +kernel
theorem dX11_run_175 : decode cX11_run 175 = .ok (.aload_n 0, 1) := by decide +kernel
theorem dX11_run_176 : decode cX11_run 176 = .ok (.invokevirtual 264, 3) := by decide +kernel
theorem dX11_run_179 : decode cX11_run 179 = .ok (.goto (-42), 3) := by decide +kernel
theorem dX11_run_182 : decode cX11_run 182 = .ok (.aload_n 0, 1) := by decide +kernel
theorem dX11_run_183 : decode cX11_run 183 = .ok (.getfield 122, 3) := by decide +kernel
theorem dX11_run_186 : decode cX11_run 186 = .ok (.iconst 2, 1) := by decide +kernel
theorem dX11_run_187 : decode cX11_run 187 = .ok (.if_icmp .ne 10, 3) := by decide +kernel
theorem dX11_run_190 : decode cX11_run 190 = .ok (.aload_n 0, 1) := by decide +kernel
theorem dX11_run_191 : decode cX11_run 191 = .ok (.invokevirtual 267, 3) := by decide +kernel
theorem dX11_run_194 : decode cX11_run 194 = .ok (.goto (-57), 3) := by decide +kernel
theorem dX11_run_197 : decode cX11_run 197 = .ok (.aload_n 0, 1) := by decide +kernel
theorem dX11_run_198 : decode cX11_run 198 = .ok (.dup, 1) := by decide +kernel
theorem dX11_run_199 : decode cX11_run 199 = .ok (.getfield 174, 3) := by decide +kernel
theorem dX11_run_202 : decode cX11_run 202 = .ok (.iconst 1, 1) := by decide +kernel
theorem dX11_run_203 : decode cX11_run 203 = .ok (.isub, 1) := by decide +kernel
theorem dX11_run_204 : decode cX11_run 204 = .ok (.putfield 174, 3) := by decide +kernel
theorem dX11_run_207 : decode cX11_run 207 = .ok (.aload_n 0, 1) := by decide +kernel
theorem dX11_run_208 : decode cX11_run 208 = .ok (.aload_n 0, 1) := by decide +kernel
theorem dX11_run_209 : decode cX11_run 209 = .ok (.getfield 174, 3) := by decide +kernel
theorem dX11_run_212 : decode cX11_run 212 = .ok (.aload_n 0, 1) := by decide +kernel
theorem dX11_run_213 : decode cX11_run 213 = .ok (.getfield 70, 3) := by decide +kernel
theorem dX11_run_216 : decode cX11_run 216 = .ok (.aload_n 0, 1) := by decide +kernel
theorem dX11_run_217 : decode cX11_run 217 = .ok (.getfield 174, 3) := by decide +kernel
theorem dX11_run_220 : decode cX11_run 220 = .ok (.iaload, 1) := by decide +kernel
theorem dX11_run_221 : decode cX11_run 221 = .ok (.aload_n 0, 1) := by decide +kernel
theorem dX11_run_222 : decode cX11_run 222 = .ok (.getfield 7, 3) := by decide +kernel
theorem dX11_run_225 : decode cX11_run 225 = .ok (.aload_n 0, 1) := by decide +kernel
theorem dX11_run_226 : decode cX11_run 226 = .ok (.getfield 70, 3) := by decide +kernel
theorem dX11_run_229 : decode cX11_run 229 = .ok (.aload_n 0, 1) := by decide +kernel
theorem dX11_run_230 : decode cX11_run 230 = .ok (.getfield 174, 3) := by decide +kernel
theorem dX11_run_233 : decode cX11_run 233 = .ok (.iaload, 1) := by decide +kernel
theorem dX11_run_234 : decode cX11_run 234 = .ok (.iaload, 1) := by decide +kernel
theorem dX11_run_235 : decode cX11_run 235 = .ok (.aload_n 0, 1) := by decide +kernel
theorem dX11_run_236 : decode cX11_run 236 = .ok (.getfield 73, 3) := by decide +kernel
theorem dX11_run_239 : decode cX11_run 239 = .ok (.aload_n 0, 1) := by decide +kernel
theorem dX11_run_240 : decode cX11_run 240 = .ok (.getfield 174, 3) := by decide +kernel
theorem dX11_run_243 : decode cX11_run 243 = .ok (.iaload, 1) := by decide +kernel
theorem dX11_run_244 : decode cX11_run 244 = .ok (.invokevirtual 252, 3) := by decide +kernel
theorem dX11_run_247 : decode cX11_run 247 = .ok (.goto (-110), 3) := by decide +kernel
theorem dX11_run_250 : decode cX11_run 250 = .ok (.aload_n 0, 1) := by decide +kernel
theorem dX11_run_251 : decode cX11_run 251 = .ok (.aload_n 0, 1) := by decide +kernel
theorem dX11_run_252 : decode cX11_run 252 = .ok (.getfield 162, 3) := by decide +kernel
theorem dX11_run_255 : decode cX11_run 255 = .ok (.putfield 270, 3) := by decide +kernel
theorem dX11_run_258 : decode cX11_run 258 = .ok (.aload_n 0, 1) := by decide +kernel
theorem dX11_run_259 : decode cX11_run 259 = .ok (.aload_n 0, 1) := by decide +kernel
theorem dX11_run_260 : decode cX11_run 260 = .ok (.getfield 146, 3) := by decide +kernel
theorem dX11_run_263 : decode cX11_run 263 = .ok (.putfield 273, 3) := by decide +kernel
theorem dX11_run_266 : decode cX11_run 266 = .ok (.aload_n 0, 1) := by decide +kernel
theorem dX11_run_267 : decode cX11_run 267 = .ok (.getfield 122, 3) := by decide +kernel
theorem dX11_run_270 : decode cX11_run 270 = .ok (.iconst 1, 1) := by decide +kernel
theorem dX11_run_271 : decode cX11_run 271 = .ok (.if_icmp .ne 7, 3) := by decide +kernel
theorem dX11_run_274 : decode cX11_run 274 = .ok (.iconst 1, 1) := by decide +kernel
theorem dX11_run_275 : decode cX11_run 275 = .ok (.goto 4, 3) := by decide +kernel
theorem dX11_run_278 : decode cX11_run 278 = .ok (.iconst 0, 1) := by decide +kernel
theorem dX11_run_279 : decode cX11_run 279 = .ok (.istore 4, 2) := by decide +kernel
theorem dX11_run_281 : decode cX11_run 281 = .ok (.aload_n 0, 1) := by decide +kernel
theorem dX11_run_282 : decode cX11_run 282 = .ok (.iload 4, 2) := by decide +kernel
theorem dX11_run_284 : decode cX11_run 284 = .ok (.ifCond .eq 10, 3) := by decide +kernel
theorem dX11_run_287 : decode cX11_run 287 = .ok (.aload_n 0, 1) := by decide +kernel
theorem dX11_run_288 : decode cX11_run 288 = .ok (.getfield 125, 3) := by decide +kernel
theorem dX11_run_291 : decode cX11_run 291 = .ok (.goto 4, 3) := by decide +kernel
theorem dX11_run_294 : decode cX11_run 294 = .ok (.iconst 1, 1) := by decide +kernel
theorem dX11_run_295 : decode cX11_run 295 = .ok (.putfield 101, 3) := by decide +kernel
theorem dX11_run_298 : decode cX11_run 298 = .ok (.aload_n 0, 1) := by decide +kernel
theorem dX11_run_299 : decode cX11_run 299 = .ok (.iload 4, 2) := by decide +kernel
theorem dX11_run_301 : decode cX11_run 301 = .ok (.ifCond .eq 10, 3) := by decide +kernel
theorem dX11_run_304 : decode cX11_run 304 = .ok (.aload_n 0, 1) := by decide +kernel
theorem dX11_run_305 : decode cX11_run 305 = .ok (.getfield 128, 3) := by decide +kernel
theorem dX11_run_308 : decode cX11_run 308 = .ok (.goto 4, 3) := by decide +kernel
theorem dX11_run_311 : decode cX11_run 311 = .ok (.iconst 0, 1) := by decide +kernel
theorem dX11_run_312 : decode cX11_run 312 = .ok (.putfield 276, 3) := by decide +kernel
theorem dX11_run_315 : decode cX11_run 315 = .ok (.aload_n 0, 1) := by decide +kernel
theorem dX11_run_316 : decode cX11_run 316 = .ok (.iload 4, 2) := by decide +kernel
theorem dX11_run_318 : decode cX11_run 318 = .ok (.ifCond .eq 7, 3) := by decide +kernel
theorem dX11_run_321 : decode cX11_run 321 = .ok (.iconst 0, 1) := by decide +kernel
theorem dX11_run_322 : decode cX11_run 322 = .ok (.goto 7, 3) := by decide +kernel
theorem dX11_run_325 : decode cX11_run 325 = .ok (.aload_n 0, 1) := by decide +kernel
theorem dX11_run_326 : decode cX11_run 326 = .ok (.getfield 137, 3) := by decide +kernel
theorem dX11_run_329 : decode cX11_run 329 = .ok (.putfield 279, 3) := by decide +kernel
theorem dX11_run_332 : decode cX11_run 332 = .ok (.aload_n 0, 1) := by decide +kernel
theorem dX11_run_333 : decode cX11_run 333 = .ok (.iload 4, 2) := by decide +kernel
theorem dX11_run_335 : decode cX11_run 335 = .ok (.ifCond .eq 7, 3) := by decide +kernel
theorem dX11_run_338 : decode cX11_run 338 = .ok (.iconst 0, 1) := by decide +kernel
theorem dX11_run_339 : decode cX11_run 339 = .ok (.goto 7, 3) := by decide +kernel
theorem dX11_run_342 : decode cX11_run 342 = .ok (.aload_n 0, 1) := by decide +kernel
theorem dX11_run_343 : decode cX11_run 343 = .ok (.getfield 140, 3) := by decide +kernel
theorem dX11_run_346 : decode cX11_run 346 = .ok (.putfield 282, 3) := by decide +kernel
theorem dX11_run_349 : decode cX11_run 349 = .ok (.aload_n 0, 1) := by decide +kernel
theorem dX11_run_350 : decode cX11_run 350 = .ok (.iload 4, 2) := by decide +kernel
theorem dX11_run_352 : decode cX11_run 352 = .ok (.ifCond .eq 7, 3) := by decide +kernel
theorem dX11_run_355 : decode cX11_run 355 = .ok (.iconst (-1), 1) := by decide +kernel
theorem dX11_run_356 : decode cX11_run 356 = .ok (.goto 7, 3) := by decide +kernel
theorem dX11_run_359 : decode cX11_run 359 = .ok (.aload_n 0, 1) := by decide +kernel
theorem dX11_run_360 : decode cX11_run 360 = .ok (.getfield 143, 3) := by decide +kernel
theorem dX11_run_363 : decode cX11_run 363 = .ok (.putfield 97, 3) := by decide +kernel
theorem dX11_run_366 : decode cX11_run 366 = .ok (.iload 4, 2) := by decide +kernel
theorem dX11_run_368 : decode cX11_run 368 = .ok (.ifCond .eq 10, 3) := by decide +kernel
theorem dX11_run_371 : decode cX11_run 371 = .ok (.aload_n 0, 1) := by decide +kernel
theorem dX11_run_372 : decode cX11_run 372 = .ok (.getfield 125, 3) := by decide +kernel
theorem dX11_run_375 : decode cX11_run 375 = .ok (.goto 10, 3) := by decide +kernel
theorem dX11_run_378 : decode cX11_run 378 = .ok (.bipush (-10), 2) := by decide +kernel
theorem dX11_run_380 : decode cX11_run 380 = .ok (.aload_n 0, 1) := by decide +kernel
theorem dX11_run_381 : decode cX11_run 381 = .ok (.getfield 137, 3) := by decide +kernel
theorem dX11_run_384 : decode cX11_run 384 = .ok (.isub, 1) := by decide +kernel
theorem dX11_run_385 : decode cX11_run 385 = .ok (.ireturn, 1) := by decide +kernel
theorem dX11_ended_0 : decode cX11_ended 0 = .ok (.aload_n 0, 1) := by decide +kernel
theorem dX11_ended_1 : decode cX11_ended 1 = .ok (.iconst 0, 1) := by decide +kernel
theorem dX11_ended_2 : decode cX11_ended 2 = .ok (.putfield 111, 3) := by decide +kernel
theorem dX11_ended_5 : decode cX11_ended 5 = .ok (.iload_n 1, 1) := by decide +kernel
theorem dX11_ended_6 : decode cX11_ended 6 = .ok (.tableswitch 59 0 4 #[34, 39, 44, 49, 54], 34) := by decide +kernel
theorem dX11_ended_40 : decode cX11_ended 40 = .ok (.aload_n 0, 1) := by decide +kernel
theorem dX11_ended_41 : decode cX11_ended 41 = .ok (.getfield 279, 3) := by decide +kernel
theorem dX11_ended_44 : decode cX11_ended 44 = .ok (.ireturn, 1) := by decide +kernel
theorem dX11_ended_45 : decode cX11_ended 45 = .ok (.aload_n 0, 1) := by decide +kernel
theorem dX11_ended_46 : decode cX11_ended 46 = .ok (.getfield 282, 3) := by decide +kernel
theorem dX11_ended_49 : decode cX11_ended 49 = .ok (.ireturn, 1) := by decide +kernel
theorem dX11_ended_50 : decode cX11_ended 50 = .ok (.aload_n 0, 1) := by decide +kernel
theorem dX11_ended_51 : decode cX11_ended 51 = .ok (.getfield 97, 3) := by decide +kernel
theorem dX11_ended_54 : decode cX11_ended 54 = .ok (.ireturn, 1) := by decide +kernel
theorem dX11_ended_55 : decode cX11_ended 55 = .ok (.aload_n 0, 1) := by decide +kernel
theorem dX11_ended_56 : decode cX11_ended 56 = .ok (.getfield 270, 3) := by decide +kernel
theorem dX11_ended_59 : decode cX11_ended 59 = .ok (.ireturn, 1) := by decide +kernel
theorem dX11_ended_60 : decode cX11_ended 60 = .ok (.aload_n 0, 1) := by decide +kernel
theorem dX11_ended_61 : decode cX11_ended 61 = .ok (.getfield 273, 3) := by decide +kernel
theorem dX11_ended_64 : decode cX11_ended 64 = .ok (.ireturn, 1) := by decide +kernel
theorem dX11_ended_65 : decode cX11_ended 65 = .ok (.bipush (-102), 2) := by decide +kernel
theorem dX11_ended_67 : decode cX11_ended 67 = .ok (.ireturn, 1) := by decide +kernel
theorem dX11_numberOf_0 : decode cX11_numberOf 0 = .ok (.iload_n 1, 1) := by decide +kernel
theorem dX11_numberOf_1 : decode cX11_numberOf 1 = .ok (.ifCond .ne 7, 3) := by decide +kernel
theorem dX11_numberOf_4 : decode cX11_numberOf 4 = .ok (.iload_n 2, 1) := by decide +kernel
theorem dX11_numberOf_5 : decode cX11_numberOf 5 = .ok (.goto 20, 3) := by decide +kernel
theorem dX11_numberOf_8 : decode cX11_numberOf 8 = .ok (.iload_n 1, 1) := by decide +kernel
theorem dX11_numberOf_9 : decode cX11_numberOf 9 = .ok (.invokestatic 246, 3) := by decide +kernel
theorem dX11_numberOf_12 : decode cX11_numberOf 12 = .ok (.ifCond .eq 12, 3) := by decide +kernel
theorem dX11_numberOf_15 : decode cX11_numberOf 15 = .ok (.aload_n 0, 1) := by decide +kernel
theorem dX11_numberOf_16 : decode cX11_numberOf 16 = .ok (.getfield 22, 3) := by decide +kernel
theorem dX11_numberOf_19 : decode cX11_numberOf 19 = .ok (.iload_n 2, 1) := by decide +kernel
theorem dX11_numberOf_20 : decode cX11_numberOf 20 = .ok (.iaload, 1) := by decide +kernel
theorem dX11_numberOf_21 : decode cX11_numberOf 21 = .ok (.goto 4, 3) := by decide +kernel
theorem dX11_numberOf_24 : decode cX11_numberOf 24 = .ok (.iconst 0, 1) := by decide +kernel
theorem dX11_numberOf_25 : decode cX11_numberOf 25 = .ok (.ireturn, 1) := by decide +kernel
theorem dX11_gave_0 : decode cX11_gave 0 = .ok (.aload_n 0, 1) := by decide +kernel
theorem dX11_gave_1 : decode cX11_gave 1 = .ok (.iconst 0, 1) := by decide +kernel
theorem dX11_gave_2 : decode cX11_gave 2 = .ok (.putfield 111, 3) := by decide +kernel
theorem dX11_gave_5 : decode cX11_gave 5 = .ok (.aload_n 0, 1) := by decide +kernel
theorem dX11_gave_6 : decode cX11_gave 6 = .ok (.aload_n 0, 1) := by decide +kernel
theorem dX11_gave_7 : decode cX11_gave 7 = .ok (.getfield 101, 3) := by decide +kernel
theorem dX11_gave_10 : decode cX11_gave 10 = .ok (.aload_n 0, 1) := by decide +kernel
theorem dX11_gave_11 : decode cX11_gave 11 = .ok (.getfield 276, 3) := by decide +kernel
theorem dX11_gave_14 : decode cX11_gave 14 = .ok (.invokevirtual 285, 3) := by decide +kernel
theorem dX11_gave_17 : decode cX11_gave 17 = .ok (.ireturn, 1) := by decide +kernel
theorem dX11_thrown_0 : decode cX11_thrown 0 = .ok (.aload_n 0, 1) := by decide +kernel
theorem dX11_thrown_1 : decode cX11_thrown 1 = .ok (.getfield 111, 3) := by decide +kernel
theorem dX11_thrown_4 : decode cX11_thrown 4 = .ok (.ireturn, 1) := by decide +kernel
theorem dX11_place_0 : decode cX11_place 0 = .ok (.aload_n 0, 1) := by decide +kernel
theorem dX11_place_1 : decode cX11_place 1 = .ok (.iconst 0, 1) := by decide +kernel
theorem dX11_place_2 : decode cX11_place 2 = .ok (.putfield 111, 3) := by decide +kernel
theorem dX11_place_5 : decode cX11_place 5 = .ok (.aload_n 0, 1) := by decide +kernel
theorem dX11_place_6 : decode cX11_place 6 = .ok (.getfield 101, 3) := by decide +kernel
theorem dX11_place_9 : decode cX11_place 9 = .ok (.invokestatic 246, 3) := by decide +kernel
theorem dX11_place_12 : decode cX11_place 12 = .ok (.ifCond .ne 5, 3) := by decide +kernel
theorem dX11_place_15 : decode cX11_place 15 = .ok (.iconst 0, 1) := by decide +kernel
theorem dX11_place_16 : decode cX11_place 16 = .ok (.ireturn, 1) := by decide +kernel
theorem dX11_place_17 : decode cX11_place 17 = .ok (.iload_n 1, 1) := by decide +kernel
theorem dX11_place_18 : decode cX11_place 18 = .ok (.iconst 0, 1) := by decide +kernel
theorem dX11_place_19 : decode cX11_place 19 = .ok (.aload_n 0, 1) := by decide +kernel
theorem dX11_place_20 : decode cX11_place 20 = .ok (.getfield 22, 3) := by decide +kernel
theorem dX11_place_23 : decode cX11_place 23 = .ok (.aload_n 0, 1) := by decide +kernel
theorem dX11_place_24 : decode cX11_place 24 = .ok (.getfield 276, 3) := by decide +kernel
theorem dX11_place_27 : decode cX11_place 27 = .ok (.iaload, 1) := by decide +kernel
theorem dX11_place_28 : decode cX11_place 28 = .ok (.iconst 1, 1) := by decide +kernel
theorem dX11_place_29 : decode cX11_place 29 = .ok (.isub, 1) := by decide +kernel
theorem dX11_place_30 : decode cX11_place 30 = .ok (.invokestatic 107, 3) := by decide +kernel
theorem dX11_place_33 : decode cX11_place 33 = .ok (.ifCond .ne 10, 3) := by decide +kernel
theorem dX11_place_36 : decode cX11_place 36 = .ok (.aload_n 0, 1) := by decide +kernel
theorem dX11_place_37 : decode cX11_place 37 = .ok (.iconst 1, 1) := by decide +kernel
theorem dX11_place_38 : decode cX11_place 38 = .ok (.putfield 111, 3) := by decide +kernel
theorem dX11_place_41 : decode cX11_place 41 = .ok (.iconst 0, 1) := by decide +kernel
theorem dX11_place_42 : decode cX11_place 42 = .ok (.ireturn, 1) := by decide +kernel
theorem dX11_place_43 : decode cX11_place 43 = .ok (.bipush 16, 2) := by decide +kernel
theorem dX11_place_45 : decode cX11_place 45 = .ok (.aload_n 0, 1) := by decide +kernel
theorem dX11_place_46 : decode cX11_place 46 = .ok (.getfield 276, 3) := by decide +kernel
theorem dX11_place_49 : decode cX11_place 49 = .ok (.imul, 1) := by decide +kernel
theorem dX11_place_50 : decode cX11_place 50 = .ok (.iload_n 1, 1) := by decide +kernel
theorem dX11_place_51 : decode cX11_place 51 = .ok (.iadd, 1) := by decide +kernel
theorem dX11_place_52 : decode cX11_place 52 = .ok (.istore_n 2, 1) := by decide +kernel
theorem dX11_place_53 : decode cX11_place 53 = .ok (.aload_n 0, 1) := by decide +kernel
theorem dX11_place_54 : decode cX11_place 54 = .ok (.getfield 101, 3) := by decide +kernel
theorem dX11_place_57 : decode cX11_place 57 = .ok (.iconst 2, 1) := by decide +kernel
theorem dX11_place_58 : decode cX11_place 58 = .ok (.if_icmp .ne 10, 3) := by decide +kernel
theorem dX11_place_61 : decode cX11_place 61 = .ok (.aload_n 0, 1) := by decide +kernel
theorem dX11_place_62 : decode cX11_place 62 = .ok (.getfield 28, 3) := by decide +kernel
theorem dX11_place_65 : decode cX11_place 65 = .ok (.iload_n 2, 1) := by decide +kernel
theorem dX11_place_66 : decode cX11_place 66 = .ok (.iaload, 1) := by decide +kernel
theorem dX11_place_67 : decode cX11_place 67 = .ok (.ireturn, 1) := by decide +kernel
theorem dX11_place_68 : decode cX11_place 68 = .ok (.aload_n 0, 1) := by decide +kernel
theorem dX11_place_69 : decode cX11_place 69 = .ok (.getfield 25, 3) := by decide +kernel
theorem dX11_place_72 : decode cX11_place 72 = .ok (.iload_n 2, 1) := by decide +kernel
theorem dX11_place_73 : decode cX11_place 73 = .ok (.iaload, 1) := by decide +kernel
theorem dX11_place_74 : decode cX11_place 74 = .ok (.iconst 1, 1) := by decide +kernel
theorem dX11_place_75 : decode cX11_place 75 = .ok (.if_icmp .ne 7, 3) := by decide +kernel
theorem dX11_place_78 : decode cX11_place 78 = .ok (.iconst 0, 1) := by decide +kernel
theorem dX11_place_79 : decode cX11_place 79 = .ok (.goto 18, 3) := by decide +kernel
theorem dX11_place_82 : decode cX11_place 82 = .ok (.aload_n 0, 1) := by decide +kernel
theorem dX11_place_83 : decode cX11_place 83 = .ok (.getfield 25, 3) := by decide +kernel
theorem dX11_place_86 : decode cX11_place 86 = .ok (.iload_n 2, 1) := by decide +kernel
theorem dX11_place_87 : decode cX11_place 87 = .ok (.iaload, 1) := by decide +kernel
theorem dX11_place_88 : decode cX11_place 88 = .ok (.iconst 5, 1) := by decide +kernel
theorem dX11_place_89 : decode cX11_place 89 = .ok (.if_icmp .ne 7, 3) := by decide +kernel
theorem dX11_place_92 : decode cX11_place 92 = .ok (.iconst 1, 1) := by decide +kernel
theorem dX11_place_93 : decode cX11_place 93 = .ok (.goto 4, 3) := by decide +kernel
theorem dX11_place_96 : decode cX11_place 96 = .ok (.iconst 2, 1) := by decide +kernel
theorem dX11_place_97 : decode cX11_place 97 = .ok (.ireturn, 1) := by decide +kernel
theorem dX11_box_0 : decode cX11_box 0 = .ok (.aload_n 0, 1) := by decide +kernel
theorem dX11_box_1 : decode cX11_box 1 = .ok (.iconst 0, 1) := by decide +kernel
theorem dX11_box_2 : decode cX11_box 2 = .ok (.putfield 111, 3) := by decide +kernel
theorem dX11_box_5 : decode cX11_box 5 = .ok (.iload_n 1, 1) := by decide +kernel
theorem dX11_box_6 : decode cX11_box 6 = .ok (.iconst 0, 1) := by decide +kernel
theorem dX11_box_7 : decode cX11_box 7 = .ok (.bipush 7, 2) := by decide +kernel
theorem dX11_box_9 : decode cX11_box 9 = .ok (.invokestatic 107, 3) := by decide +kernel
theorem dX11_box_12 : decode cX11_box 12 = .ok (.ifCond .eq 12, 3) := by decide +kernel
theorem dX11_box_15 : decode cX11_box 15 = .ok (.aload_n 0, 1) := by decide +kernel
theorem dX11_box_16 : decode cX11_box 16 = .ok (.getfield 52, 3) := by decide +kernel
theorem dX11_box_19 : decode cX11_box 19 = .ok (.iload_n 1, 1) := by decide +kernel
theorem dX11_box_20 : decode cX11_box 20 = .ok (.iaload, 1) := by decide +kernel
theorem dX11_box_21 : decode cX11_box 21 = .ok (.goto 5, 3) := by decide +kernel
theorem dX11_box_24 : decode cX11_box 24 = .ok (.bipush (-102), 2) := by decide +kernel
theorem dX11_box_26 : decode cX11_box 26 = .ok (.ireturn, 1) := by decide +kernel
theorem dX11_boxed_0 : decode cX11_boxed 0 = .ok (.aload_n 0, 1) := by decide +kernel
theorem dX11_boxed_1 : decode cX11_boxed 1 = .ok (.iconst 0, 1) := by decide +kernel
theorem dX11_boxed_2 : decode cX11_boxed 2 = .ok (.putfield 111, 3) := by decide +kernel
theorem dX11_boxed_5 : decode cX11_boxed 5 = .ok (.iload_n 1, 1) := by decide +kernel
theorem dX11_boxed_6 : decode cX11_boxed 6 = .ok (.iconst 0, 1) := by decide +kernel
theorem dX11_boxed_7 : decode cX11_boxed 7 = .ok (.bipush 7, 2) := by decide +kernel
theorem dX11_boxed_9 : decode cX11_boxed 9 = .ok (.invokestatic 107, 3) := by decide +kernel
theorem dX11_boxed_12 : decode cX11_boxed 12 = .ok (.ifCond .eq 22, 3) := by decide +kernel
theorem dX11_boxed_15 : decode cX11_boxed 15 = .ok (.aload_n 0, 1) := by decide +kernel
theorem dX11_boxed_16 : decode cX11_boxed 16 = .ok (.aload_n 0, 1) := by decide +kernel
theorem dX11_boxed_17 : decode cX11_boxed 17 = .ok (.getfield 52, 3) := by decide +kernel
theorem dX11_boxed_20 : decode cX11_boxed 20 = .ok (.iload_n 1, 1) := by decide +kernel
theorem dX11_boxed_21 : decode cX11_boxed 21 = .ok (.iaload, 1) := by decide +kernel
theorem dX11_boxed_22 : decode cX11_boxed 22 = .ok (.aload_n 0, 1) := by decide +kernel
theorem dX11_boxed_23 : decode cX11_boxed 23 = .ok (.getfield 55, 3) := by decide +kernel
theorem dX11_boxed_26 : decode cX11_boxed 26 = .ok (.iload_n 1, 1) := by decide +kernel
theorem dX11_boxed_27 : decode cX11_boxed 27 = .ok (.iaload, 1) := by decide +kernel
theorem dX11_boxed_28 : decode cX11_boxed 28 = .ok (.invokevirtual 285, 3) := by decide +kernel
theorem dX11_boxed_31 : decode cX11_boxed 31 = .ok (.goto 4, 3) := by decide +kernel
theorem dX11_boxed_34 : decode cX11_boxed 34 = .ok (.iconst 0, 1) := by decide +kernel
theorem dX11_boxed_35 : decode cX11_boxed 35 = .ok (.ireturn, 1) := by decide +kernel
theorem dX11_same_0 : decode cX11_same 0 = .ok (.aload_n 0, 1) := by decide +kernel
theorem dX11_same_1 : decode cX11_same 1 = .ok (.iconst 0, 1) := by decide +kernel
theorem dX11_same_2 : decode cX11_same 2 = .ok (.putfield 111, 3) := by decide +kernel
theorem dX11_same_5 : decode cX11_same 5 = .ok (.iload_n 1, 1) := by decide +kernel
theorem dX11_same_6 : decode cX11_same 6 = .ok (.iconst 0, 1) := by decide +kernel
theorem dX11_same_7 : decode cX11_same 7 = .ok (.bipush 7, 2) := by decide +kernel
theorem dX11_same_9 : decode cX11_same 9 = .ok (.invokestatic 107, 3) := by decide +kernel
theorem dX11_same_12 : decode cX11_same 12 = .ok (.ifCond .eq 13, 3) := by decide +kernel
theorem dX11_same_15 : decode cX11_same 15 = .ok (.iload_n 2, 1) := by decide +kernel
theorem dX11_same_16 : decode cX11_same 16 = .ok (.iconst 0, 1) := by decide +kernel
theorem dX11_same_17 : decode cX11_same 17 = .ok (.bipush 7, 2) := by decide +kernel
theorem dX11_same_19 : decode cX11_same 19 = .ok (.invokestatic 107, 3) := by decide +kernel
theorem dX11_same_22 : decode cX11_same 22 = .ok (.ifCond .ne 6, 3) := by decide +kernel
theorem dX11_same_25 : decode cX11_same 25 = .ok (.bipush (-102), 2) := by decide +kernel
theorem dX11_same_27 : decode cX11_same 27 = .ok (.ireturn, 1) := by decide +kernel
theorem dX11_same_28 : decode cX11_same 28 = .ok (.aload_n 0, 1) := by decide +kernel
theorem dX11_same_29 : decode cX11_same 29 = .ok (.getfield 52, 3) := by decide +kernel
theorem dX11_same_32 : decode cX11_same 32 = .ok (.iload_n 1, 1) := by decide +kernel
theorem dX11_same_33 : decode cX11_same 33 = .ok (.iaload, 1) := by decide +kernel
theorem dX11_same_34 : decode cX11_same 34 = .ok (.aload_n 0, 1) := by decide +kernel
theorem dX11_same_35 : decode cX11_same 35 = .ok (.getfield 52, 3) := by decide +kernel
theorem dX11_same_38 : decode cX11_same 38 = .ok (.iload_n 2, 1) := by decide +kernel
theorem dX11_same_39 : decode cX11_same 39 = .ok (.iaload, 1) := by decide +kernel
theorem dX11_same_40 : decode cX11_same 40 = .ok (.if_icmp .ne 32, 3) := by decide +kernel
theorem dX11_same_43 : decode cX11_same 43 = .ok (.aload_n 0, 1) := by decide +kernel
theorem dX11_same_44 : decode cX11_same 44 = .ok (.getfield 52, 3) := by decide +kernel
theorem dX11_same_47 : decode cX11_same 47 = .ok (.iload_n 1, 1) := by decide +kernel
theorem dX11_same_48 : decode cX11_same 48 = .ok (.iaload, 1) := by decide +kernel
theorem dX11_same_49 : decode cX11_same 49 = .ok (.iconst 1, 1) := by decide +kernel
theorem dX11_same_50 : decode cX11_same 50 = .ok (.if_icmp .eq 18, 3) := by decide +kernel
theorem dX11_same_53 : decode cX11_same 53 = .ok (.aload_n 0, 1) := by decide +kernel
theorem dX11_same_54 : decode cX11_same 54 = .ok (.getfield 55, 3) := by decide +kernel
theorem dX11_same_57 : decode cX11_same 57 = .ok (.iload_n 1, 1) := by decide +kernel
theorem dX11_same_58 : decode cX11_same 58 = .ok (.iaload, 1) := by decide +kernel
theorem dX11_same_59 : decode cX11_same 59 = .ok (.aload_n 0, 1) := by decide +kernel
theorem dX11_same_60 : decode cX11_same 60 = .ok (.getfield 55, 3) := by decide +kernel
theorem dX11_same_63 : decode cX11_same 63 = .ok (.iload_n 2, 1) := by decide +kernel
theorem dX11_same_64 : decode cX11_same 64 = .ok (.iaload, 1) := by decide +kernel
theorem dX11_same_65 : decode cX11_same 65 = .ok (.if_icmp .ne 7, 3) := by decide +kernel
theorem dX11_same_68 : decode cX11_same 68 = .ok (.iconst 1, 1) := by decide +kernel
theorem dX11_same_69 : decode cX11_same 69 = .ok (.goto 4, 3) := by decide +kernel
theorem dX11_same_72 : decode cX11_same 72 = .ok (.iconst 0, 1) := by decide +kernel
theorem dX11_same_73 : decode cX11_same 73 = .ok (.ireturn, 1) := by decide +kernel
theorem dX11_out_0 : decode cX11_out 0 = .ok (.aload_n 0, 1) := by decide +kernel
theorem dX11_out_1 : decode cX11_out 1 = .ok (.iconst 0, 1) := by decide +kernel
theorem dX11_out_2 : decode cX11_out 2 = .ok (.putfield 111, 3) := by decide +kernel
theorem dX11_out_5 : decode cX11_out 5 = .ok (.iload_n 1, 1) := by decide +kernel
theorem dX11_out_6 : decode cX11_out 6 = .ok (.iconst 0, 1) := by decide +kernel
theorem dX11_out_7 : decode cX11_out 7 = .ok (.aload_n 0, 1) := by decide +kernel
theorem dX11_out_8 : decode cX11_out 8 = .ok (.getfield 230, 3) := by decide +kernel
theorem dX11_out_11 : decode cX11_out 11 = .ok (.iconst 1, 1) := by decide +kernel
theorem dX11_out_12 : decode cX11_out 12 = .ok (.isub, 1) := by decide +kernel
theorem dX11_out_13 : decode cX11_out 13 = .ok (.invokestatic 107, 3) := by decide +kernel
theorem dX11_out_16 : decode cX11_out 16 = .ok (.ifCond .eq 12, 3) := by decide +kernel
theorem dX11_out_19 : decode cX11_out 19 = .ok (.aload_n 0, 1) := by decide +kernel
theorem dX11_out_20 : decode cX11_out 20 = .ok (.getfield 67, 3) := by decide +kernel
theorem dX11_out_23 : decode cX11_out 23 = .ok (.iload_n 1, 1) := by decide +kernel
theorem dX11_out_24 : decode cX11_out 24 = .ok (.iaload, 1) := by decide +kernel
theorem dX11_out_25 : decode cX11_out 25 = .ok (.goto 5, 3) := by decide +kernel
theorem dX11_out_28 : decode cX11_out 28 = .ok (.bipush (-102), 2) := by decide +kernel
theorem dX11_out_30 : decode cX11_out 30 = .ok (.ireturn, 1) := by decide +kernel
theorem dX11_count_0 : decode cX11_count 0 = .ok (.aload_n 0, 1) := by decide +kernel
theorem dX11_count_1 : decode cX11_count 1 = .ok (.iconst 0, 1) := by decide +kernel
theorem dX11_count_2 : decode cX11_count 2 = .ok (.putfield 111, 3) := by decide +kernel
theorem dX11_count_5 : decode cX11_count 5 = .ok (.iload_n 1, 1) := by decide +kernel
theorem dX11_count_6 : decode cX11_count 6 = .ok (.ifCond .ne 10, 3) := by decide +kernel
theorem dX11_count_9 : decode cX11_count 9 = .ok (.aload_n 0, 1) := by decide +kernel
theorem dX11_count_10 : decode cX11_count 10 = .ok (.getfield 104, 3) := by decide +kernel
theorem dX11_count_13 : decode cX11_count 13 = .ok (.goto 29, 3) := by decide +kernel
theorem dX11_count_16 : decode cX11_count 16 = .ok (.iload_n 1, 1) := by decide +kernel
theorem dX11_count_17 : decode cX11_count 17 = .ok (.iconst 1, 1) := by decide +kernel
theorem dX11_count_18 : decode cX11_count 18 = .ok (.if_icmp .ne 10, 3) := by decide +kernel
theorem dX11_count_21 : decode cX11_count 21 = .ok (.aload_n 0, 1) := by decide +kernel
theorem dX11_count_22 : decode cX11_count 22 = .ok (.getfield 230, 3) := by decide +kernel
theorem dX11_count_25 : decode cX11_count 25 = .ok (.goto 17, 3) := by decide +kernel
theorem dX11_count_28 : decode cX11_count 28 = .ok (.iload_n 1, 1) := by decide +kernel
theorem dX11_count_29 : decode cX11_count 29 = .ok (.iconst 2, 1) := by decide +kernel
theorem dX11_count_30 : decode cX11_count 30 = .ok (.if_icmp .ne 10, 3) := by decide +kernel
theorem dX11_count_33 : decode cX11_count 33 = .ok (.aload_n 0, 1) := by decide +kernel
theorem dX11_count_34 : decode cX11_count 34 = .ok (.getfield 258, 3) := by decide +kernel
theorem dX11_count_37 : decode cX11_count 37 = .ok (.goto 5, 3) := by decide +kernel
theorem dX11_count_40 : decode cX11_count 40 = .ok (.bipush (-102), 2) := by decide +kernel
theorem dX11_count_42 : decode cX11_count 42 = .ok (.ireturn, 1) := by decide +kernel
theorem dX11_clear_0 : decode cX11_clear 0 = .ok (.aload_n 0, 1) := by decide +kernel
theorem dX11_clear_1 : decode cX11_clear 1 = .ok (.iconst 0, 1) := by decide +kernel
theorem dX11_clear_2 : decode cX11_clear 2 = .ok (.putfield 111, 3) := by decide +kernel
theorem dX11_clear_5 : decode cX11_clear 5 = .ok (.aload_n 0, 1) := by decide +kernel
theorem dX11_clear_6 : decode cX11_clear 6 = .ok (.getfield 104, 3) := by decide +kernel
theorem dX11_clear_9 : decode cX11_clear 9 = .ok (.istore_n 1, 1) := by decide +kernel
theorem dX11_clear_10 : decode cX11_clear 10 = .ok (.aload_n 0, 1) := by decide +kernel
theorem dX11_clear_11 : decode cX11_clear 11 = .ok (.iconst 0, 1) := by decide +kernel
theorem dX11_clear_12 : decode cX11_clear 12 = .ok (.putfield 104, 3) := by decide +kernel
theorem dX11_clear_15 : decode cX11_clear 15 = .ok (.aload_n 0, 1) := by decide +kernel
theorem dX11_clear_16 : decode cX11_clear 16 = .ok (.iconst 0, 1) := by decide +kernel
theorem dX11_clear_17 : decode cX11_clear 17 = .ok (.putfield 230, 3) := by decide +kernel
theorem dX11_clear_20 : decode cX11_clear 20 = .ok (.iconst 0, 1) := by decide +kernel
theorem dX11_clear_21 : decode cX11_clear 21 = .ok (.istore_n 2, 1) := by decide +kernel
theorem dX11_clear_22 : decode cX11_clear 22 = .ok (.iload_n 2, 1) := by decide +kernel
theorem dX11_clear_23 : decode cX11_clear 23 = .ok (.bipush 8, 2) := by decide +kernel
theorem dX11_clear_25 : decode cX11_clear 25 = .ok (.if_icmp .ge 23, 3) := by decide +kernel
theorem dX11_clear_28 : decode cX11_clear 28 = .ok (.aload_n 0, 1) := by decide +kernel
theorem dX11_clear_29 : decode cX11_clear 29 = .ok (.getfield 52, 3) := by decide +kernel
theorem dX11_clear_32 : decode cX11_clear 32 = .ok (.iload_n 2, 1) := by decide +kernel
theorem dX11_clear_33 : decode cX11_clear 33 = .ok (.iconst 1, 1) := by decide +kernel
theorem dX11_clear_34 : decode cX11_clear 34 = .ok (.iastore, 1) := by decide +kernel
theorem dX11_clear_35 : decode cX11_clear 35 = .ok (.aload_n 0, 1) := by decide +kernel
theorem dX11_clear_36 : decode cX11_clear 36 = .ok (.getfield 55, 3) := by decide +kernel
theorem dX11_clear_39 : decode cX11_clear 39 = .ok (.iload_n 2, 1) := by decide +kernel
theorem dX11_clear_40 : decode cX11_clear 40 = .ok (.iconst 0, 1) := by decide +kernel
theorem dX11_clear_41 : decode cX11_clear 41 = .ok (.iastore, 1) := by decide +kernel
theorem dX11_clear_42 : decode cX11_clear 42 = .ok (.iinc 2 1, 3) := by decide +kernel
theorem dX11_clear_45 : decode cX11_clear 45 = .ok (.goto (-23), 3) := by decide +kernel
theorem dX11_clear_48 : decode cX11_clear 48 = .ok (.aload_n 0, 1) := by decide +kernel
theorem dX11_clear_49 : decode cX11_clear 49 = .ok (.iconst 1, 1) := by decide +kernel
theorem dX11_clear_50 : decode cX11_clear 50 = .ok (.putfield 101, 3) := by decide +kernel
theorem dX11_clear_53 : decode cX11_clear 53 = .ok (.aload_n 0, 1) := by decide +kernel
theorem dX11_clear_54 : decode cX11_clear 54 = .ok (.iconst 0, 1) := by decide +kernel
theorem dX11_clear_55 : decode cX11_clear 55 = .ok (.putfield 276, 3) := by decide +kernel
theorem dX11_clear_58 : decode cX11_clear 58 = .ok (.aload_n 0, 1) := by decide +kernel
theorem dX11_clear_59 : decode cX11_clear 59 = .ok (.iconst 0, 1) := by decide +kernel
theorem dX11_clear_60 : decode cX11_clear 60 = .ok (.putfield 279, 3) := by decide +kernel
theorem dX11_clear_63 : decode cX11_clear 63 = .ok (.aload_n 0, 1) := by decide +kernel
theorem dX11_clear_64 : decode cX11_clear 64 = .ok (.iconst 0, 1) := by decide +kernel
theorem dX11_clear_65 : decode cX11_clear 65 = .ok (.putfield 282, 3) := by decide +kernel
theorem dX11_clear_68 : decode cX11_clear 68 = .ok (.aload_n 0, 1) := by decide +kernel
theorem dX11_clear_69 : decode cX11_clear 69 = .ok (.iconst (-1), 1) := by decide +kernel
theorem dX11_clear_70 : decode cX11_clear 70 = .ok (.putfield 97, 3) := by decide +kernel
theorem dX11_clear_73 : decode cX11_clear 73 = .ok (.aload_n 0, 1) := by decide +kernel
theorem dX11_clear_74 : decode cX11_clear 74 = .ok (.iconst 0, 1) := by decide +kernel
theorem dX11_clear_75 : decode cX11_clear 75 = .ok (.putfield 270, 3) := by decide +kernel
theorem dX11_clear_78 : decode cX11_clear 78 = .ok (.aload_n 0, 1) := by decide +kernel
theorem dX11_clear_79 : decode cX11_clear 79 = .ok (.iconst 0, 1) := by decide +kernel
theorem dX11_clear_80 : decode cX11_clear 80 = .ok (.putfield 273, 3) := by decide +kernel
theorem dX11_clear_83 : decode cX11_clear 83 = .ok (.iload_n 1, 1) := by decide +kernel
theorem dX11_clear_84 : decode cX11_clear 84 = .ok (.ireturn, 1) := by decide +kernel
theorem dL_place_0 : decode cL_place 0 = .ok (.aload_n 2, 1) := by decide +kernel
theorem dL_place_1 : decode cL_place 1 = .ok (.iconst 0, 1) := by decide +kernel
theorem dL_place_2 : decode cL_place 2 = .ok (.aload_n 0, 1) := by decide +kernel
theorem dL_place_3 : decode cL_place 3 = .ok (.iload_n 1, 1) := by decide +kernel
theorem dL_place_4 : decode cL_place 4 = .ok (.invokevirtual 7, 3) := by decide +kernel
theorem dL_place_7 : decode cL_place 7 = .ok (.i2l, 1) := by decide +kernel
theorem dL_place_8 : decode cL_place 8 = .ok (.lastore, 1) := by decide +kernel
theorem dL_place_9 : decode cL_place 9 = .ok (.goto 6, 3) := by decide +kernel
theorem dL_place_12 : decode cL_place 12 = .ok (.astore_n 3, 1) := by decide +kernel
theorem dL_place_13 : decode cL_place 13 = .ok (.iconst 1, 1) := by decide +kernel
theorem dL_place_14 : decode cL_place 14 = .ok (.ireturn, 1) := by decide +kernel
theorem dL_place_15 : decode cL_place 15 = .ok (.iconst 0, 1) := by decide +kernel
theorem dL_place_16 : decode cL_place 16 = .ok (.ireturn, 1) := by decide +kernel
theorem dL_law_0 : decode cL_law 0 = .ok (.new 8, 3) := by decide +kernel
theorem dL_law_3 : decode cL_law 3 = .ok (.dup, 1) := by decide +kernel
theorem dL_law_4 : decode cL_law 4 = .ok (.invokespecial 15, 3) := by decide +kernel
theorem dL_law_7 : decode cL_law 7 = .ok (.astore_n 1, 1) := by decide +kernel
theorem dL_law_8 : decode cL_law 8 = .ok (.new 16, 3) := by decide +kernel
theorem dL_law_11 : decode cL_law 11 = .ok (.dup, 1) := by decide +kernel
theorem dL_law_12 : decode cL_law 12 = .ok (.invokespecial 18, 3) := by decide +kernel
theorem dL_law_15 : decode cL_law 15 = .ok (.astore_n 2, 1) := by decide +kernel
theorem dL_law_16 : decode cL_law 16 = .ok (.iconst 1, 1) := by decide +kernel
theorem dL_law_17 : decode cL_law 17 = .ok (.newarray .long, 2) := by decide +kernel
theorem dL_law_19 : decode cL_law 19 = .ok (.astore_n 3, 1) := by decide +kernel
theorem dL_law_20 : decode cL_law 20 = .ok (.iconst 0, 1) := by decide +kernel
theorem dL_law_21 : decode cL_law 21 = .ok (.istore 4, 2) := by decide +kernel
theorem dL_law_23 : decode cL_law 23 = .ok (.iload 4, 2) := by decide +kernel
theorem dL_law_25 : decode cL_law 25 = .ok (.aload_n 0, 1) := by decide +kernel
theorem dL_law_26 : decode cL_law 26 = .ok (.arraylength, 1) := by decide +kernel
theorem dL_law_27 : decode cL_law 27 = .ok (.iconst 5, 1) := by decide +kernel
theorem dL_law_28 : decode cL_law 28 = .ok (.isub, 1) := by decide +kernel
theorem dL_law_29 : decode cL_law 29 = .ok (.if_icmp .gt 456, 3) := by decide +kernel
theorem dL_law_32 : decode cL_law 32 = .ok (.aload_n 0, 1) := by decide +kernel
theorem dL_law_33 : decode cL_law 33 = .ok (.iload 4, 2) := by decide +kernel
theorem dL_law_35 : decode cL_law 35 = .ok (.iaload, 1) := by decide +kernel
theorem dL_law_36 : decode cL_law 36 = .ok (.bipush 15, 2) := by decide +kernel
theorem dL_law_38 : decode cL_law 38 = .ok (.iand, 1) := by decide +kernel
theorem dL_law_39 : decode cL_law 39 = .ok (.tableswitch 440 0 11 #[61, 122, 159, 196, 221, 234, 290, 315, 340, 377, 402, 427], 61) := by decide +kernel
theorem dL_law_100 : decode cL_law 100 = .ok (.aload_n 1, 1) := by decide +kernel
theorem dL_law_101 : decode cL_law 101 = .ok (.aload_n 0, 1) := by decide +kernel
theorem dL_law_102 : decode cL_law 102 = .ok (.iload 4, 2) := by decide +kernel
theorem dL_law_104 : decode cL_law 104 = .ok (.iconst 1, 1) := by decide +kernel
theorem dL_law_105 : decode cL_law 105 = .ok (.iadd, 1) := by decide +kernel
theorem dL_law_106 : decode cL_law 106 = .ok (.iaload, 1) := by decide +kernel
theorem dL_law_107 : decode cL_law 107 = .ok (.aload_n 0, 1) := by decide +kernel
theorem dL_law_108 : decode cL_law 108 = .ok (.iload 4, 2) := by decide +kernel
theorem dL_law_110 : decode cL_law 110 = .ok (.iconst 2, 1) := by decide +kernel
theorem dL_law_111 : decode cL_law 111 = .ok (.iadd, 1) := by decide +kernel
theorem dL_law_112 : decode cL_law 112 = .ok (.iaload, 1) := by decide +kernel
theorem dL_law_113 : decode cL_law 113 = .ok (.aload_n 0, 1) := by decide +kernel
theorem dL_law_114 : decode cL_law 114 = .ok (.iload 4, 2) := by decide +kernel
theorem dL_law_116 : decode cL_law 116 = .ok (.iconst 3, 1) := by decide +kernel
theorem dL_law_117 : decode cL_law 117 = .ok (.iadd, 1) := by decide +kernel
theorem dL_law_118 : decode cL_law 118 = .ok (.iaload, 1) := by decide +kernel
theorem dL_law_119 : decode cL_law 119 = .ok (.aload_n 0, 1) := by decide +kernel
theorem dL_law_120 : decode cL_law 120 = .ok (.iload 4, 2) := by decide +kernel
theorem dL_law_122 : decode cL_law 122 = .ok (.iconst 4, 1) := by decide +kernel
theorem dL_law_123 : decode cL_law 123 = .ok (.iadd, 1) := by decide +kernel
theorem dL_law_124 : decode cL_law 124 = .ok (.iaload, 1) := by decide +kernel
theorem dL_law_125 : decode cL_law 125 = .ok (.invokevirtual 19, 3) := by decide +kernel
theorem dL_law_128 : decode cL_law 128 = .ok (.aload_n 2, 1) := by decide +kernel
theorem dL_law_129 : decode cL_law 129 = .ok (.aload_n 0, 1) := by decide +kernel
theorem dL_law_130 : decode cL_law 130 = .ok (.iload 4, 2) := by decide +kernel
theorem dL_law_132 : decode cL_law 132 = .ok (.iconst 1, 1) := by decide +kernel
theorem dL_law_133 : decode cL_law 133 = .ok (.iadd, 1) := by decide +kernel
theorem dL_law_134 : decode cL_law 134 = .ok (.iaload, 1) := by decide +kernel
theorem dL_law_135 : decode cL_law 135 = .ok (.aload_n 0, 1) := by decide +kernel
theorem dL_law_136 : decode cL_law 136 = .ok (.iload 4, 2) := by decide +kernel
theorem dL_law_138 : decode cL_law 138 = .ok (.iconst 2, 1) := by decide +kernel
theorem dL_law_139 : decode cL_law 139 = .ok (.iadd, 1) := by decide +kernel
theorem dL_law_140 : decode cL_law 140 = .ok (.iaload, 1) := by decide +kernel
theorem dL_law_141 : decode cL_law 141 = .ok (.aload_n 0, 1) := by decide +kernel
theorem dL_law_142 : decode cL_law 142 = .ok (.iload 4, 2) := by decide +kernel
theorem dL_law_144 : decode cL_law 144 = .ok (.iconst 3, 1) := by decide +kernel
theorem dL_law_145 : decode cL_law 145 = .ok (.iadd, 1) := by decide +kernel
theorem dL_law_146 : decode cL_law 146 = .ok (.iaload, 1) := by decide +kernel
theorem dL_law_147 : decode cL_law 147 = .ok (.aload_n 0, 1) := by decide +kernel
theorem dL_law_148 : decode cL_law 148 = .ok (.iload 4, 2) := by decide +kernel
theorem dL_law_150 : decode cL_law 150 = .ok (.iconst 4, 1) := by decide +kernel
theorem dL_law_151 : decode cL_law 151 = .ok (.iadd, 1) := by decide +kernel
theorem dL_law_152 : decode cL_law 152 = .ok (.iaload, 1) := by decide +kernel
theorem dL_law_153 : decode cL_law 153 = .ok (.invokevirtual 23, 3) := by decide +kernel
theorem dL_law_156 : decode cL_law 156 = .ok (.if_icmp .eq 323, 3) := by decide +kernel
theorem dL_law_159 : decode cL_law 159 = .ok (.iconst 0, 1) := by decide +kernel
theorem dL_law_160 : decode cL_law 160 = .ok (.ireturn, 1) := by decide +kernel
theorem dL_law_161 : decode cL_law 161 = .ok (.aload_n 1, 1) := by decide +kernel
theorem dL_law_162 : decode cL_law 162 = .ok (.aload_n 0, 1) := by decide +kernel
theorem dL_law_163 : decode cL_law 163 = .ok (.iload 4, 2) := by decide +kernel
theorem dL_law_165 : decode cL_law 165 = .ok (.iconst 1, 1) := by decide +kernel
theorem dL_law_166 : decode cL_law 166 = .ok (.iadd, 1) := by decide +kernel
theorem dL_law_167 : decode cL_law 167 = .ok (.iaload, 1) := by decide +kernel
theorem dL_law_168 : decode cL_law 168 = .ok (.aload_n 0, 1) := by decide +kernel
theorem dL_law_169 : decode cL_law 169 = .ok (.iload 4, 2) := by decide +kernel
theorem dL_law_171 : decode cL_law 171 = .ok (.iconst 2, 1) := by decide +kernel
theorem dL_law_172 : decode cL_law 172 = .ok (.iadd, 1) := by decide +kernel
theorem dL_law_173 : decode cL_law 173 = .ok (.iaload, 1) := by decide +kernel
theorem dL_law_174 : decode cL_law 174 = .ok (.invokevirtual 24, 3) := by decide +kernel
theorem dL_law_177 : decode cL_law 177 = .ok (.aload_n 2, 1) := by decide +kernel
theorem dL_law_178 : decode cL_law 178 = .ok (.aload_n 0, 1) := by decide +kernel
theorem dL_law_179 : decode cL_law 179 = .ok (.iload 4, 2) := by decide +kernel
theorem dL_law_181 : decode cL_law 181 = .ok (.iconst 1, 1) := by decide +kernel
theorem dL_law_182 : decode cL_law 182 = .ok (.iadd, 1) := by decide +kernel
theorem dL_law_183 : decode cL_law 183 = .ok (.iaload, 1) := by decide +kernel
theorem dL_law_184 : decode cL_law 184 = .ok (.aload_n 0, 1) := by decide +kernel
theorem dL_law_185 : decode cL_law 185 = .ok (.iload 4, 2) := by decide +kernel
theorem dL_law_187 : decode cL_law 187 = .ok (.iconst 2, 1) := by decide +kernel
theorem dL_law_188 : decode cL_law 188 = .ok (.iadd, 1) := by decide +kernel
theorem dL_law_189 : decode cL_law 189 = .ok (.iaload, 1) := by decide +kernel
theorem dL_law_190 : decode cL_law 190 = .ok (.invokevirtual 28, 3) := by decide +kernel
theorem dL_law_193 : decode cL_law 193 = .ok (.if_icmp .eq 286, 3) := by decide +kernel
theorem dL_law_196 : decode cL_law 196 = .ok (.iconst 0, 1) := by decide +kernel
theorem dL_law_197 : decode cL_law 197 = .ok (.ireturn, 1) := by decide +kernel
theorem dL_law_198 : decode cL_law 198 = .ok (.aload_n 1, 1) := by decide +kernel
theorem dL_law_199 : decode cL_law 199 = .ok (.aload_n 0, 1) := by decide +kernel
theorem dL_law_200 : decode cL_law 200 = .ok (.iload 4, 2) := by decide +kernel
theorem dL_law_202 : decode cL_law 202 = .ok (.iconst 1, 1) := by decide +kernel
theorem dL_law_203 : decode cL_law 203 = .ok (.iadd, 1) := by decide +kernel
theorem dL_law_204 : decode cL_law 204 = .ok (.iaload, 1) := by decide +kernel
theorem dL_law_205 : decode cL_law 205 = .ok (.aload_n 0, 1) := by decide +kernel
theorem dL_law_206 : decode cL_law 206 = .ok (.iload 4, 2) := by decide +kernel
theorem dL_law_208 : decode cL_law 208 = .ok (.iconst 2, 1) := by decide +kernel
theorem dL_law_209 : decode cL_law 209 = .ok (.iadd, 1) := by decide +kernel
theorem dL_law_210 : decode cL_law 210 = .ok (.iaload, 1) := by decide +kernel
theorem dL_law_211 : decode cL_law 211 = .ok (.invokevirtual 29, 3) := by decide +kernel
theorem dL_law_214 : decode cL_law 214 = .ok (.aload_n 2, 1) := by decide +kernel
theorem dL_law_215 : decode cL_law 215 = .ok (.aload_n 0, 1) := by decide +kernel
theorem dL_law_216 : decode cL_law 216 = .ok (.iload 4, 2) := by decide +kernel
theorem dL_law_218 : decode cL_law 218 = .ok (.iconst 1, 1) := by decide +kernel
theorem dL_law_219 : decode cL_law 219 = .ok (.iadd, 1) := by decide +kernel
theorem dL_law_220 : decode cL_law 220 = .ok (.iaload, 1) := by decide +kernel
theorem dL_law_221 : decode cL_law 221 = .ok (.aload_n 0, 1) := by decide +kernel
theorem dL_law_222 : decode cL_law 222 = .ok (.iload 4, 2) := by decide +kernel
theorem dL_law_224 : decode cL_law 224 = .ok (.iconst 2, 1) := by decide +kernel
theorem dL_law_225 : decode cL_law 225 = .ok (.iadd, 1) := by decide +kernel
theorem dL_law_226 : decode cL_law 226 = .ok (.iaload, 1) := by decide +kernel
theorem dL_law_227 : decode cL_law 227 = .ok (.invokevirtual 32, 3) := by decide +kernel
theorem dL_law_230 : decode cL_law 230 = .ok (.if_icmp .eq 249, 3) := by decide +kernel
theorem dL_law_233 : decode cL_law 233 = .ok (.iconst 0, 1) := by decide +kernel
theorem dL_law_234 : decode cL_law 234 = .ok (.ireturn, 1) := by decide +kernel
theorem dL_law_235 : decode cL_law 235 = .ok (.aload_n 1, 1) := by decide +kernel
theorem dL_law_236 : decode cL_law 236 = .ok (.aload_n 0, 1) := by decide +kernel
theorem dL_law_237 : decode cL_law 237 = .ok (.iload 4, 2) := by decide +kernel
theorem dL_law_239 : decode cL_law 239 = .ok (.iconst 1, 1) := by decide +kernel
theorem dL_law_240 : decode cL_law 240 = .ok (.iadd, 1) := by decide +kernel
theorem dL_law_241 : decode cL_law 241 = .ok (.iaload, 1) := by decide +kernel
theorem dL_law_242 : decode cL_law 242 = .ok (.invokevirtual 33, 3) := by decide +kernel
theorem dL_law_245 : decode cL_law 245 = .ok (.aload_n 2, 1) := by decide +kernel
theorem dL_law_246 : decode cL_law 246 = .ok (.aload_n 0, 1) := by decide +kernel
theorem dL_law_247 : decode cL_law 247 = .ok (.iload 4, 2) := by decide +kernel
theorem dL_law_249 : decode cL_law 249 = .ok (.iconst 1, 1) := by decide +kernel
theorem dL_law_250 : decode cL_law 250 = .ok (.iadd, 1) := by decide +kernel
theorem dL_law_251 : decode cL_law 251 = .ok (.iaload, 1) := by decide +kernel
theorem dL_law_252 : decode cL_law 252 = .ok (.invokevirtual 36, 3) := by decide +kernel
theorem dL_law_255 : decode cL_law 255 = .ok (.if_icmp .eq 224, 3) := by decide +kernel
theorem dL_law_258 : decode cL_law 258 = .ok (.iconst 0, 1) := by decide +kernel
theorem dL_law_259 : decode cL_law 259 = .ok (.ireturn, 1) := by decide +kernel
theorem dL_law_260 : decode cL_law 260 = .ok (.aload_n 1, 1) := by decide +kernel
theorem dL_law_261 : decode cL_law 261 = .ok (.invokevirtual 37, 3) := by decide +kernel
theorem dL_law_264 : decode cL_law 264 = .ok (.aload_n 2, 1) := by decide +kernel
theorem dL_law_265 : decode cL_law 265 = .ok (.invokevirtual 41, 3) := by decide +kernel
theorem dL_law_268 : decode cL_law 268 = .ok (.if_icmp .eq 211, 3) := by decide +kernel
theorem dL_law_271 : decode cL_law 271 = .ok (.iconst 0, 1) := by decide +kernel
theorem dL_law_272 : decode cL_law 272 = .ok (.ireturn, 1) := by decide +kernel
theorem dL_law_273 : decode cL_law 273 = .ok (.aload_n 1, 1) := by decide +kernel
theorem dL_law_274 : decode cL_law 274 = .ok (.aload_n 0, 1) := by decide +kernel
theorem dL_law_275 : decode cL_law 275 = .ok (.iload 4, 2) := by decide +kernel
theorem dL_law_277 : decode cL_law 277 = .ok (.iconst 1, 1) := by decide +kernel
theorem dL_law_278 : decode cL_law 278 = .ok (.iadd, 1) := by decide +kernel
theorem dL_law_279 : decode cL_law 279 = .ok (.iaload, 1) := by decide +kernel
theorem dL_law_280 : decode cL_law 280 = .ok (.aload_n 3, 1) := by decide +kernel
theorem dL_law_281 : decode cL_law 281 = .ok (.invokestatic 42, 3) := by decide +kernel
theorem dL_law_284 : decode cL_law 284 = .ok (.istore 5, 2) := by decide +kernel
theorem dL_law_286 : decode cL_law 286 = .ok (.aload_n 2, 1) := by decide +kernel
theorem dL_law_287 : decode cL_law 287 = .ok (.aload_n 0, 1) := by decide +kernel
theorem dL_law_288 : decode cL_law 288 = .ok (.iload 4, 2) := by decide +kernel
theorem dL_law_290 : decode cL_law 290 = .ok (.iconst 1, 1) := by decide +kernel
theorem dL_law_291 : decode cL_law 291 = .ok (.iadd, 1) := by decide +kernel
theorem dL_law_292 : decode cL_law 292 = .ok (.iaload, 1) := by decide +kernel
theorem dL_law_293 : decode cL_law 293 = .ok (.invokevirtual 47, 3) := by decide +kernel
theorem dL_law_296 : decode cL_law 296 = .ok (.istore 6, 2) := by decide +kernel
theorem dL_law_298 : decode cL_law 298 = .ok (.aload_n 2, 1) := by decide +kernel
theorem dL_law_299 : decode cL_law 299 = .ok (.invokevirtual 48, 3) := by decide +kernel
theorem dL_law_302 : decode cL_law 302 = .ok (.iload 5, 2) := by decide +kernel
theorem dL_law_304 : decode cL_law 304 = .ok (.if_icmp .eq 5, 3) := by decide +kernel
theorem dL_law_307 : decode cL_law 307 = .ok (.iconst 0, 1) := by decide +kernel
theorem dL_law_308 : decode cL_law 308 = .ok (.ireturn, 1) := by decide +kernel
theorem dL_law_309 : decode cL_law 309 = .ok (.iload 5, 2) := by decide +kernel
theorem dL_law_311 : decode cL_law 311 = .ok (.ifCond .ne 15, 3) := by decide +kernel
theorem dL_law_314 : decode cL_law 314 = .ok (.aload_n 3, 1) := by decide +kernel
theorem dL_law_315 : decode cL_law 315 = .ok (.iconst 0, 1) := by decide +kernel
theorem dL_law_316 : decode cL_law 316 = .ok (.laload, 1) := by decide +kernel
theorem dL_law_317 : decode cL_law 317 = .ok (.iload 6, 2) := by decide +kernel
theorem dL_law_319 : decode cL_law 319 = .ok (.i2l, 1) := by decide +kernel
theorem dL_law_320 : decode cL_law 320 = .ok (.lcmp, 1) := by decide +kernel
theorem dL_law_321 : decode cL_law 321 = .ok (.ifCond .eq 5, 3) := by decide +kernel
theorem dL_law_324 : decode cL_law 324 = .ok (.iconst 0, 1) := by decide +kernel
theorem dL_law_325 : decode cL_law 325 = .ok (.ireturn, 1) := by decide +kernel
theorem dL_law_326 : decode cL_law 326 = .ok (.goto 153, 3) := by decide +kernel
theorem dL_law_329 : decode cL_law 329 = .ok (.aload_n 1, 1) := by decide +kernel
theorem dL_law_330 : decode cL_law 330 = .ok (.aload_n 0, 1) := by decide +kernel
theorem dL_law_331 : decode cL_law 331 = .ok (.iload 4, 2) := by decide +kernel
theorem dL_law_333 : decode cL_law 333 = .ok (.iconst 1, 1) := by decide +kernel
theorem dL_law_334 : decode cL_law 334 = .ok (.iadd, 1) := by decide +kernel
theorem dL_law_335 : decode cL_law 335 = .ok (.iaload, 1) := by decide +kernel
theorem dL_law_336 : decode cL_law 336 = .ok (.invokevirtual 51, 3) := by decide +kernel
theorem dL_law_339 : decode cL_law 339 = .ok (.aload_n 2, 1) := by decide +kernel
theorem dL_law_340 : decode cL_law 340 = .ok (.aload_n 0, 1) := by decide +kernel
theorem dL_law_341 : decode cL_law 341 = .ok (.iload 4, 2) := by decide +kernel
theorem dL_law_343 : decode cL_law 343 = .ok (.iconst 1, 1) := by decide +kernel
theorem dL_law_344 : decode cL_law 344 = .ok (.iadd, 1) := by decide +kernel
theorem dL_law_345 : decode cL_law 345 = .ok (.iaload, 1) := by decide +kernel
theorem dL_law_346 : decode cL_law 346 = .ok (.invokevirtual 54, 3) := by decide +kernel
theorem dL_law_349 : decode cL_law 349 = .ok (.if_icmp .eq 130, 3) := by decide +kernel
theorem dL_law_352 : decode cL_law 352 = .ok (.iconst 0, 1) := by decide +kernel
theorem dL_law_353 : decode cL_law 353 = .ok (.ireturn, 1) := by decide +kernel
theorem dL_law_354 : decode cL_law 354 = .ok (.aload_n 1, 1) := by decide +kernel
theorem dL_law_355 : decode cL_law 355 = .ok (.aload_n 0, 1) := by decide +kernel
theorem dL_law_356 : decode cL_law 356 = .ok (.iload 4, 2) := by decide +kernel
theorem dL_law_358 : decode cL_law 358 = .ok (.iconst 1, 1) := by decide +kernel
theorem dL_law_359 : decode cL_law 359 = .ok (.iadd, 1) := by decide +kernel
theorem dL_law_360 : decode cL_law 360 = .ok (.iaload, 1) := by decide +kernel
theorem dL_law_361 : decode cL_law 361 = .ok (.invokevirtual 55, 3) := by decide +kernel
theorem dL_law_364 : decode cL_law 364 = .ok (.aload_n 2, 1) := by decide +kernel
theorem dL_law_365 : decode cL_law 365 = .ok (.aload_n 0, 1) := by decide +kernel
theorem dL_law_366 : decode cL_law 366 = .ok (.iload 4, 2) := by decide +kernel
theorem dL_law_368 : decode cL_law 368 = .ok (.iconst 1, 1) := by decide +kernel
theorem dL_law_369 : decode cL_law 369 = .ok (.iadd, 1) := by decide +kernel
theorem dL_law_370 : decode cL_law 370 = .ok (.iaload, 1) := by decide +kernel
theorem dL_law_371 : decode cL_law 371 = .ok (.invokevirtual 58, 3) := by decide +kernel
theorem dL_law_374 : decode cL_law 374 = .ok (.if_icmp .eq 105, 3) := by decide +kernel
theorem dL_law_377 : decode cL_law 377 = .ok (.iconst 0, 1) := by decide +kernel
theorem dL_law_378 : decode cL_law 378 = .ok (.ireturn, 1) := by decide +kernel
theorem dL_law_379 : decode cL_law 379 = .ok (.aload_n 1, 1) := by decide +kernel
theorem dL_law_380 : decode cL_law 380 = .ok (.aload_n 0, 1) := by decide +kernel
theorem dL_law_381 : decode cL_law 381 = .ok (.iload 4, 2) := by decide +kernel
theorem dL_law_383 : decode cL_law 383 = .ok (.iconst 1, 1) := by decide +kernel
theorem dL_law_384 : decode cL_law 384 = .ok (.iadd, 1) := by decide +kernel
theorem dL_law_385 : decode cL_law 385 = .ok (.iaload, 1) := by decide +kernel
theorem dL_law_386 : decode cL_law 386 = .ok (.aload_n 0, 1) := by decide +kernel
theorem dL_law_387 : decode cL_law 387 = .ok (.iload 4, 2) := by decide +kernel
theorem dL_law_389 : decode cL_law 389 = .ok (.iconst 2, 1) := by decide +kernel
theorem dL_law_390 : decode cL_law 390 = .ok (.iadd, 1) := by decide +kernel
theorem dL_law_391 : decode cL_law 391 = .ok (.iaload, 1) := by decide +kernel
theorem dL_law_392 : decode cL_law 392 = .ok (.invokevirtual 59, 3) := by decide +kernel
theorem dL_law_395 : decode cL_law 395 = .ok (.aload_n 2, 1) := by decide +kernel
theorem dL_law_396 : decode cL_law 396 = .ok (.aload_n 0, 1) := by decide +kernel
theorem dL_law_397 : decode cL_law 397 = .ok (.iload 4, 2) := by decide +kernel
theorem dL_law_399 : decode cL_law 399 = .ok (.iconst 1, 1) := by decide +kernel
theorem dL_law_400 : decode cL_law 400 = .ok (.iadd, 1) := by decide +kernel
theorem dL_law_401 : decode cL_law 401 = .ok (.iaload, 1) := by decide +kernel
theorem dL_law_402 : decode cL_law 402 = .ok (.aload_n 0, 1) := by decide +kernel
theorem dL_law_403 : decode cL_law 403 = .ok (.iload 4, 2) := by decide +kernel
theorem dL_law_405 : decode cL_law 405 = .ok (.iconst 2, 1) := by decide +kernel
theorem dL_law_406 : decode cL_law 406 = .ok (.iadd, 1) := by decide +kernel
theorem dL_law_407 : decode cL_law 407 = .ok (.iaload, 1) := by decide +kernel
theorem dL_law_408 : decode cL_law 408 = .ok (.invokevirtual 62, 3) := by decide +kernel
theorem dL_law_411 : decode cL_law 411 = .ok (.if_icmp .eq 68, 3) := by decide +kernel
theorem dL_law_414 : decode cL_law 414 = .ok (.iconst 0, 1) := by decide +kernel
theorem dL_law_415 : decode cL_law 415 = .ok (.ireturn, 1) := by decide +kernel
theorem dL_law_416 : decode cL_law 416 = .ok (.aload_n 1, 1) := by decide +kernel
theorem dL_law_417 : decode cL_law 417 = .ok (.aload_n 0, 1) := by decide +kernel
theorem dL_law_418 : decode cL_law 418 = .ok (.iload 4, 2) := by decide +kernel
theorem dL_law_420 : decode cL_law 420 = .ok (.iconst 1, 1) := by decide +kernel
theorem dL_law_421 : decode cL_law 421 = .ok (.iadd, 1) := by decide +kernel
theorem dL_law_422 : decode cL_law 422 = .ok (.iaload, 1) := by decide +kernel
theorem dL_law_423 : decode cL_law 423 = .ok (.invokevirtual 63, 3) := by decide +kernel
theorem dL_law_426 : decode cL_law 426 = .ok (.aload_n 2, 1) := by decide +kernel
theorem dL_law_427 : decode cL_law 427 = .ok (.aload_n 0, 1) := by decide +kernel
theorem dL_law_428 : decode cL_law 428 = .ok (.iload 4, 2) := by decide +kernel
theorem dL_law_430 : decode cL_law 430 = .ok (.iconst 1, 1) := by decide +kernel
theorem dL_law_431 : decode cL_law 431 = .ok (.iadd, 1) := by decide +kernel
theorem dL_law_432 : decode cL_law 432 = .ok (.iaload, 1) := by decide +kernel
theorem dL_law_433 : decode cL_law 433 = .ok (.invokevirtual 66, 3) := by decide +kernel
theorem dL_law_436 : decode cL_law 436 = .ok (.if_icmp .eq 43, 3) := by decide +kernel
theorem dL_law_439 : decode cL_law 439 = .ok (.iconst 0, 1) := by decide +kernel
theorem dL_law_440 : decode cL_law 440 = .ok (.ireturn, 1) := by decide +kernel
theorem dL_law_441 : decode cL_law 441 = .ok (.aload_n 1, 1) := by decide +kernel
theorem dL_law_442 : decode cL_law 442 = .ok (.aload_n 0, 1) := by decide +kernel
theorem dL_law_443 : decode cL_law 443 = .ok (.iload 4, 2) := by decide +kernel
theorem dL_law_445 : decode cL_law 445 = .ok (.iconst 1, 1) := by decide +kernel
theorem dL_law_446 : decode cL_law 446 = .ok (.iadd, 1) := by decide +kernel
theorem dL_law_447 : decode cL_law 447 = .ok (.iaload, 1) := by decide +kernel
theorem dL_law_448 : decode cL_law 448 = .ok (.invokevirtual 67, 3) := by decide +kernel
theorem dL_law_451 : decode cL_law 451 = .ok (.aload_n 2, 1) := by decide +kernel
theorem dL_law_452 : decode cL_law 452 = .ok (.aload_n 0, 1) := by decide +kernel
theorem dL_law_453 : decode cL_law 453 = .ok (.iload 4, 2) := by decide +kernel
theorem dL_law_455 : decode cL_law 455 = .ok (.iconst 1, 1) := by decide +kernel
theorem dL_law_456 : decode cL_law 456 = .ok (.iadd, 1) := by decide +kernel
theorem dL_law_457 : decode cL_law 457 = .ok (.iaload, 1) := by decide +kernel
theorem dL_law_458 : decode cL_law 458 = .ok (.invokevirtual 70, 3) := by decide +kernel
theorem dL_law_461 : decode cL_law 461 = .ok (.if_icmp .eq 18, 3) := by decide +kernel
theorem dL_law_464 : decode cL_law 464 = .ok (.iconst 0, 1) := by decide +kernel
theorem dL_law_465 : decode cL_law 465 = .ok (.ireturn, 1) := by decide +kernel
theorem dL_law_466 : decode cL_law 466 = .ok (.aload_n 1, 1) := by decide +kernel
theorem dL_law_467 : decode cL_law 467 = .ok (.invokevirtual 71, 3) := by decide +kernel
theorem dL_law_470 : decode cL_law 470 = .ok (.aload_n 2, 1) := by decide +kernel
theorem dL_law_471 : decode cL_law 471 = .ok (.invokevirtual 74, 3) := by decide +kernel
theorem dL_law_474 : decode cL_law 474 = .ok (.if_icmp .eq 5, 3) := by decide +kernel
theorem dL_law_477 : decode cL_law 477 = .ok (.iconst 0, 1) := by decide +kernel
theorem dL_law_478 : decode cL_law 478 = .ok (.ireturn, 1) := by decide +kernel
theorem dL_law_479 : decode cL_law 479 = .ok (.iinc 4 5, 3) := by decide +kernel
theorem dL_law_482 : decode cL_law 482 = .ok (.goto (-459), 3) := by decide +kernel
theorem dL_law_485 : decode cL_law 485 = .ok (.iconst 1, 1) := by decide +kernel
theorem dL_law_486 : decode cL_law 486 = .ok (.ireturn, 1) := by decide +kernel
end
section
abbrev vwCl : List vw_C := [(RJ0, TJ0, 2), (RJx00060, TJx00060, 6), (RX0, TX0, 4), (RX1, TX1, 7), (RX3, TX3, 2), (RX5, TX5, 7), (RX6, TX6, 9), (RX7, TX7, 5), (RX8, TX8, 10), (RX10, TX10, 3), (RX11, TX11, 56)]
/-! A STATE of a fixed set of cells: place o, slot j holds an int (sI) or a long (sL). A layout says what the places are: (0, class, kinds of its fields: 0 int, 1 long, p + 2 the place p), (1, n, _) a row of n ints, (2, n, _) a row of n longs. -/
abbrev Sg : Type := (Nat → Nat → Int32) × (Nat → Nat → Int64)
def sI (σ : Sg) (o j : Nat) : Int32 := σ.1 o j
def sL (σ : Sg) (o j : Nat) : Int64 := σ.2 o j
def wI (σ : Sg) (o j : Nat) (v : Int32) : Sg := (fun a b => if a = o ∧ b = j then v else σ.1 a b, σ.2)
def wL (σ : Sg) (o j : Nat) (v : Int64) : Sg := (σ.1, fun a b => if a = o ∧ b = j then v else σ.2 a b)
abbrev Ds : Type := Nat × Nat × List Nat
def fV (ad : Nat → Nat) (σ : Sg) (i j t : Nat) : Value := match t with
  | 0 => .int (σ.1 i j)
  | 1 => .long (σ.2 i j)
  | p + 2 => .ref (ad p)
def cE (ad : Nat → Nat) (cA : Nat → ClassId) (σ : Sg) (i : Nat) (d : Ds) : va_E := match d.1 with
  | 0 => .inr (d.2.1, d.2.2.mapIdx (fun j t => fV ad σ i j t))
  | 1 => .inl (cA i, d.2.1, .inl (σ.1 i))
  | _ => .inl (cA i, d.2.1, .inr (.inl (σ.2 i)))
def pic (Ly : List Ds) (ad : Nat → Nat) (cA : Nat → ClassId) (σ : Sg) : va_W := Ly.mapIdx (fun i d => (ad i, cE ad cA σ i d))
def tys (Ly : List Ds) (cA : Nat → ClassId) : List (ClassId × FieldType) := Ly.mapIdx (fun i d => (cA i, if d.1 = 1 then .int else .long))
theorem pic_at {Ly : List Ds} {ad : Nat → Nat} {cA : Nat → ClassId} {σ : Sg} {i : Nat} {d : Ds} (h : Ly[i]? = some d) : (pic Ly ad cA σ)[i]? = some (ad i, cE ad cA σ i d) := by simp [pic, h]
theorem tys_at {Ly : List Ds} {cA : Nat → ClassId} {i : Nat} {d : Ds} (h : Ly[i]? = some d) : (tys Ly cA)[i]? = some (cA i, if d.1 = 1 then .int else .long) := by simp [tys, h]
theorem wI_row (σ : Sg) (o j : Nat) (v : Int32) : (wI σ o j v).1 o = upd (σ.1 o) j v := by
  funext b
  simp [wI, upd]
theorem wL_row (σ : Sg) (o j : Nat) (v : Int64) : (wL σ o j v).2 o = vp_updL (σ.2 o) j v := by
  funext b
  simp [wL, vp_updL]
theorem cE_wI_ne {ad : Nat → Nat} {cA : Nat → ClassId} {σ : Sg} {o j k : Nat} {v : Int32} {d : Ds} (h : k ≠ o) : cE ad cA (wI σ o j v) k d = cE ad cA σ k d := by
  have h1 : (wI σ o j v).1 k = σ.1 k := by funext b; simp [wI, h]
  unfold cE fV
  rw [h1]
  rfl
theorem cE_wL_ne {ad : Nat → Nat} {cA : Nat → ClassId} {σ : Sg} {o j k : Nat} {v : Int64} {d : Ds} (h : k ≠ o) : cE ad cA (wL σ o j v) k d = cE ad cA σ k d := by
  have h1 : (wL σ o j v).2 k = σ.2 k := by funext b; simp [wL, h]
  unfold cE fV
  rw [h1]
  rfl
theorem pic_set {Ly : List Ds} {ad : Nat → Nat} {cA : Nat → ClassId} {σ σ' : Sg} {o : Nat} {d : Ds} {x : va_E} (h : Ly[o]? = some d) (he : x = cE ad cA σ' o d) (hn : ∀ k d', k ≠ o → cE ad cA σ' k d' = cE ad cA σ k d') : (pic Ly ad cA σ).set o (ad o, x) = pic Ly ad cA σ' := by
  subst he
  have hl : o < (pic Ly ad cA σ).length := by simp only [pic, List.length_mapIdx]; exact (List.getElem?_eq_some_iff.mp h).1
  apply List.ext_getElem?
  intro k
  by_cases hk : k = o
  · subst hk
    rw [List.getElem?_set_self hl, pic_at h]
  · rw [List.getElem?_set_ne (Ne.symm hk)]
    simp only [pic, List.getElem?_mapIdx]
    cases Ly[k]? with
    | none => rfl
    | some d' => simp only [Option.map_some, hn k d' hk]
theorem pic_aI {Ly : List Ds} {ad : Nat → Nat} {cA : Nat → ClassId} {σ : Sg} {o n j : Nat} {x : List Nat} {v : Int32} (h : Ly[o]? = some (1, n, x)) : (pic Ly ad cA σ).set o (ad o, .inl (cA o, n, .inl (upd (σ.1 o) j v))) = pic Ly ad cA (wI σ o j v) :=
  pic_set h (by simp only [cE, wI_row]) (fun k d' hk => cE_wI_ne hk)
theorem pic_aL {Ly : List Ds} {ad : Nat → Nat} {cA : Nat → ClassId} {σ : Sg} {o n j : Nat} {x : List Nat} {v : Int64} (h : Ly[o]? = some (2, n, x)) : (pic Ly ad cA σ).set o (ad o, .inl (cA o, n, .inr (.inl (vp_updL (σ.2 o) j v)))) = pic Ly ad cA (wL σ o j v) :=
  pic_set h (by simp only [cE, wL_row]) (fun k d' hk => cE_wL_ne hk)
theorem fs_at {ad : Nat → Nat} {σ : Sg} {o f t : Nat} {ts : List Nat} (h : ts[f]? = some t) : (ts.mapIdx (fun j t => fV ad σ o j t))[f]? = some (fV ad σ o f t) := by simp [h]
theorem fs_set {ad : Nat → Nat} {σ σ' : Sg} {o f t : Nat} {ts : List Nat} {v : Value} (h : ts[f]? = some t) (hv : fV ad σ' o f t = v) (hn : ∀ j t', j ≠ f → fV ad σ' o j t' = fV ad σ o j t') : (ts.mapIdx (fun j t => fV ad σ o j t)).set f v = ts.mapIdx (fun j t => fV ad σ' o j t) := by
  subst hv
  have hl : f < (ts.mapIdx (fun j t => fV ad σ o j t)).length := by simp only [List.length_mapIdx]; exact (List.getElem?_eq_some_iff.mp h).1
  apply List.ext_getElem?
  intro k
  by_cases hk : k = f
  · subst hk
    rw [List.getElem?_set_self hl, fs_at h]
  · rw [List.getElem?_set_ne (Ne.symm hk)]
    simp only [List.getElem?_mapIdx]
    cases ts[k]? with
    | none => rfl
    | some t' => simp only [Option.map_some, hn k t' hk]
theorem fV_wI {ad : Nat → Nat} {σ : Sg} {o f j t : Nat} {v : Int32} (h : j ≠ f) : fV ad (wI σ o f v) o j t = fV ad σ o j t := by
  unfold fV
  split <;> simp [wI, h]
theorem fV_wL {ad : Nat → Nat} {σ : Sg} {o f j t : Nat} {v : Int64} (h : j ≠ f) : fV ad (wL σ o f v) o j t = fV ad σ o j t := by
  unfold fV
  split <;> simp [wL, h]
theorem pic_fI {Ly : List Ds} {ad : Nat → Nat} {cA : Nat → ClassId} {σ : Sg} {o ci f : Nat} {ts : List Nat} {v : Int32} (h : Ly[o]? = some (0, ci, ts)) (hf : ts[f]? = some 0) : (pic Ly ad cA σ).set o (ad o, .inr (ci, (ts.mapIdx (fun j t => fV ad σ o j t)).set f (.int v))) = pic Ly ad cA (wI σ o f v) :=
  pic_set h (by simp only [cE]; rw [fs_set hf (σ' := wI σ o f v) (by simp [fV, wI]) (fun j t' hj => fV_wI hj)]) (fun k d' hk => cE_wI_ne hk)
theorem pic_fL {Ly : List Ds} {ad : Nat → Nat} {cA : Nat → ClassId} {σ : Sg} {o ci f : Nat} {ts : List Nat} {v : Int64} (h : Ly[o]? = some (0, ci, ts)) (hf : ts[f]? = some 1) : (pic Ly ad cA σ).set o (ad o, .inr (ci, (ts.mapIdx (fun j t => fV ad σ o j t)).set f (.long v))) = pic Ly ad cA (wL σ o f v) :=
  pic_set h (by simp only [cE]; rw [fs_set hf (σ' := wL σ o f v) (by simp [fV, wL]) (fun j t' hj => fV_wL hj)]) (fun k d' hk => cE_wL_ne hk)
/-! the words that every method has, the rooms by depth -/
def wsG : List Cond := lw_tbl.filter goodWord
theorem wsG_of {w : Cond} (h : w ∈ lw_tbl) (g : goodWord w = true) : w ∈ wsG := List.mem_filter.mpr ⟨h, g⟩
theorem wsG_in {w : Cond} (h : w ∈ wsG) : w ∈ lw_tbl ∧ goodWord w = true := List.mem_filter.mp h
def rmd (d : Nat) : Room := { frames := d, cells := 0, slots := 0, locals := 60 * d }
/-- a method: its name, code, number of locals, what it returns -/
abbrev Mi : Type := MethodName × ByteArray × Nat × Option FieldType
/-- what is fixed: the launch, the tables' numbers, the addresses, the rows' array kinds, the two tables of Acts, the layout -/
abbrev Gx : Type := Launch × va_G × (Nat → Nat) × (Nat → ClassId) × (Nat × Nat) × List Ds
def gad (G : Gx) : Nat → Nat := G.2.2.1
def gcA (G : Gx) : Nat → ClassId := G.2.2.2.1
def gtM (G : Gx) : Nat := G.2.2.2.2.1.1
def gtG (G : Gx) : Nat := G.2.2.2.2.1.2
def gLy (G : Gx) : List Ds := G.2.2.2.2.2
abbrev gpic (G : Gx) (σ : Sg) : va_W := pic (gLy G) (gad G) (gcA G) σ
abbrev gtys (G : Gx) : List (ClassId × FieldType) := tys (gLy G) (gcA G)

def tbM : Nat → Int32 := fun j => ([0, 0, 0, 3, 0, 0, 0, 0, 0, 1, 1, 0, 1, 3, 2, 1, 1, 0, 1, 1, 0, 1, 1, 0, 1, 1, 0, 1, 1, 0, 1, 0, 0, 1, 0, 0, 1, 0, 0, 1, 0, 0, 1, 0, 0, 1, 1, 0, 1, 1, 1, 1, 0, 0, 1, 1, 0, 1, 1, 1, 1, 0, 0, 1, 5, 2, 1, 2, 0, 1, 2, 2, 1, 2, 0, 6, 1, 0, 1, 0, 0, 2, 0, 0, 1, 0, 0, 1, 0, 0, 4, 0, 0, 4, 1, 0] : List Int32).getD j 0
def tbG : Nat → Int32 := fun j => ([0, 0, 0, 7, 7, 8, 59] : List Int32).getD j 0
/-- the two tables of Acts, where nobody writes -/
def sMG (G : Gx) (A : Nat → Prop) (U : State) (H : Heap) : Prop := va_Z "SideWork$Acts" "MEANINGS" "[I" (.ref (gtM G)) A U H ∧ va_T .int (gtM G) 96 (fun j => .int (tbM j)) A U H ∧ va_Z "SideWork$Acts" "GREATEST" "[I" (.ref (gtG G)) A U H ∧ va_T .int (gtG G) 7 (fun j => .int (tbG j)) A U H
theorem sMG.moved {G : Gx} {A : Nat → Prop} {u U : State} {H : Heap} (hvm : u.vm.Alike U.vm) (h : sMG G A u H) : sMG G A U H := ⟨va_Z.moved hvm h.1, va_T.moved hvm h.2.1, va_Z.moved hvm h.2.2.1, va_T.moved hvm h.2.2.2⟩
theorem sMG.kept {G : Gx} {A : Nat → Prop} {U : State} {H H1 : Heap} (h : sMG G A U H) (hq : ∀ a : Nat, a < H.size → ¬ A a → H1[a]? = H[a]?) : sMG G A U H1 := ⟨h.1.kept hq, h.2.1.kept hq, h.2.2.1.kept hq, h.2.2.2.kept hq⟩
theorem sMG.narrow {G : Gx} {A B : Nat → Prop} {U : State} {H : Heap} (h : sMG G A U H) (hAB : ∀ q, B q → A q) : sMG G B U H := ⟨h.1.narrow hAB, h.2.1.narrow hAB, h.2.2.1.narrow hAB, h.2.2.2.narrow hAB⟩
/-- what holds of the machine all through a method -/
def XC (G : Gx) (M : Mi) (p : Program) (s : State) (m : MethodId) (args : Array Value) (meth : Method) (c : Code) (A : Nat → Prop) : Prop :=
  p.tables.exec = Jvm.exec ∧ c.code = M.2.1 ∧ c.maxLocals = M.2.2.1 ∧ meth.sig.returnType = M.2.2.2 ∧ meth.locks = false ∧ s.vm.findClass M.1.cls = some m.cls ∧ (∀ w ∈ wsG, w.before args s = true) ∧ va_K G.2.1 vwCl (gtys G) s ∧ (∀ q : Nat, s.heap.size ≤ q → A q) ∧ sMG G A s s.heap
/-- a method's end: its answer and its state as Q says -/
def Qx (G : Gx) (Q : Option Value → Sg → Prop) (A : Nat → Prop) : Array Value → State → Outcome → State → Prop := fun _ st oc t =>
  (∃ (v : Option Value) (σ : Sg), oc = .returned v ∧ Q v σ ∧ va_P G.2.1 vwCl (gpic G σ) t.heap ∧ va_K G.2.1 vwCl (gtys G) t ∧ va_D A (gpic G σ)) ∧ va_F A st t
/-- the machine, in the method M at pc, with these locals, this stack and this state, comes to the method's end, and Q holds there -/
def X (G : Gx) (M : Mi) (d pc : Nat) (lv : List (Nat × Value)) (st : List Value) (σ : Sg) (Q : Option Value → Sg → Prop) : Prop :=
  ∀ (p : Program) (e : Env) (s : State) (m : MethodId) (args : Array Value) (below : List Frame) (meth : Method) (c : Code) (A : Nat → Prop), XC G M p s m args meth c A →
    ∀ (H : Heap) (locs : List Loc) (ls : Array Slot), va_P G.2.1 vwCl (gpic G σ) H → va_D A (gpic G σ) → va_S A s.heap H locs → lv_has ls M.2.2.1 lv →
      W p G.1 e (rmd d) s m args below meth c H locs 0 0 (MQ below (Qx G Q A) args s 0 0 A) (F0 m pc ls st)
/-- the method M, called with av in the state σ, returns, and Q holds of its answer and its state -/
def CT (G : Gx) (M : Mi) (d : Nat) (av : List Value) (σ : Sg) (Q : Option Value → Sg → Prop) : Prop :=
  ∀ sz : Nat, Met G.1 M.1 (.code M.1 M.2.1 M.2.2.1 M.2.2.2 :: wsG) (rmd d)
    (va_Pc av (fun U => U.heap.size = sz ∧ va_P G.2.1 vwCl (gpic G σ) U.heap ∧ va_K G.2.1 vwCl (gtys G) U ∧ va_D (fun _ => True) (gpic G σ) ∧ sMG G (va_A (gpic G σ) sz) U U.heap))
    (Qx G Q (va_A (gpic G σ) sz)) 0 0 (va_A (gpic G σ) sz)
section XR
variable {G : Gx} {M : Mi} {d pc : Nat} {lv lv' : List (Nat × Value)} {st : List Value} {σ : Sg} {Q : Option Value → Sg → Prop}
theorem ct_of {av : List Value} (hpl : plainName M.1.cls = true) (hn : (lg_sl av).length ≤ M.2.2.1) (hl : lv_args 0 av = lv) (h : X G M d 0 lv [] σ Q) : CT G M d av σ Q := by
  subst hl
  intro sz
  refine Met.ofW (cc := M.2.1) (maxL := M.2.2.1) (ret := M.2.2.2) hpl rfl ?_
  intro p e s m args below meth c s₁ B hml hv
  obtain ⟨rfl, hsz, hP, hK, hD0, hT⟩ := hv
  have hts := atoms_spec (ws := .code M.1 M.2.1 M.2.2.1 M.2.2.2 :: wsG) B.pre
  subst hsz
  rw [lg_entry_eq]
  exact h p e s m _ below meth c (va_A (gpic G σ) s.heap.size) ⟨B.exec, B.bytes, hml, B.returns, B.notSynchronized, findClass_of_methodNamed B.named, fun w hw => hts w (List.mem_cons_of_mem _ hw), hK, fun q hq => Or.inr hq, hT⟩ s.heap [] _ hP hD0.self va_S.rf (lv_entry av hn)
theorem X.mono {Q' : Option Value → Sg → Prop} (h : X G M d pc lv st σ Q') (hq : ∀ v σ, Q' v σ → Q v σ) : X G M d pc lv st σ Q := by
  intro p e s m args below meth c A C H locs ls hP hD hS hl T hT XX
  obtain ⟨t, a, o, b1, b2, ⟨⟨v, σ', c1, c2, c3⟩, c4⟩, b4⟩ := h p e s m args below meth c A C H locs ls hP hD hS hl T hT XX
  exact ⟨t, a, o, b1, b2, ⟨⟨v, σ', c1, hq v σ' c2, c3⟩, c4⟩, b4⟩
theorem x_sub (ks : List Nat) (hk : lv_pick lv ks = lv') (h : X G M d pc lv' st σ Q) : X G M d pc lv st σ Q := by
  intro p e s m args below meth c A C H locs ls hP hD hS hl
  exact h p e s m args below meth c A C H locs ls hP hD hS (lv_sub hl ks hk)

theorem x_iconst {n : Int} {v : Int32} (hd : decode M.2.1 pc = .ok (.iconst n, 1)) (hv : Int32.ofInt n = v) (k : X G M d (pc + 1) lv (.int v :: st) σ Q) : X G M d pc lv (st) σ Q := by
  intro p e s m args below meth c A C H locs ls hP hD hS hl
  exact lv_iconst C.1 C.2.1 hd hv (k p e s m args below meth c A C H locs ls hP hD hS hl)
theorem x_bipush {n : Int} {v : Int32} (hd : decode M.2.1 pc = .ok (.bipush n, 2)) (hv : (Int8.ofInt n).toInt32 = v) (k : X G M d (pc + 2) lv (.int v :: st) σ Q) : X G M d pc lv (st) σ Q := by
  intro p e s m args below meth c A C H locs ls hP hD hS hl
  exact lv_bipush C.1 C.2.1 hd hv (k p e s m args below meth c A C H locs ls hP hD hS hl)
theorem x_sipush {n : Int} {v : Int32} (hd : decode M.2.1 pc = .ok (.sipush n, 3)) (hv : (Int16.ofInt n).toInt32 = v) (k : X G M d (pc + 3) lv (.int v :: st) σ Q) : X G M d pc lv (st) σ Q := by
  intro p e s m args below meth c A C H locs ls hP hD hS hl
  exact lv_sipush C.1 C.2.1 hd hv (k p e s m args below meth c A C H locs ls hP hD hS hl)
theorem x_lconst {n : Fin 2} {v : Int64} (hd : decode M.2.1 pc = .ok (.lconst n, 1)) (hv : Int64.ofNat (n : Nat) = v) (k : X G M d (pc + 1) lv (.long v :: st) σ Q) : X G M d pc lv (st) σ Q := by
  intro p e s m args below meth c A C H locs ls hP hD hS hl
  exact lv_lconst C.1 C.2.1 hd hv (k p e s m args below meth c A C H locs ls hP hD hS hl)
theorem x_iload_n {kk : Fin 4} {i : Nat} {x : Int32} (hd : decode M.2.1 pc = .ok (.iload_n kk, 1)) (hi : (kk : Nat) = i) (j : Nat) (hj : lv[j]? = some (i, .int x)) (k : X G M d (pc + 1) lv (.int x :: st) σ Q) : X G M d pc lv (st) σ Q := by
  intro p e s m args below meth c A C H locs ls hP hD hS hl
  exact lv_iload_n C.1 C.2.1 hd hi (lv_at hl j hj) (k p e s m args below meth c A C H locs ls hP hD hS hl)
theorem x_iload {i : Nat} {x : Int32} (hd : decode M.2.1 pc = .ok (.iload i, 2)) (j : Nat) (hj : lv[j]? = some (i, .int x)) (k : X G M d (pc + 2) lv (.int x :: st) σ Q) : X G M d pc lv (st) σ Q := by
  intro p e s m args below meth c A C H locs ls hP hD hS hl
  exact lv_iload C.1 C.2.1 hd (lv_at hl j hj) (k p e s m args below meth c A C H locs ls hP hD hS hl)
theorem x_lload_n {kk : Fin 4} {i : Nat} {x : Int64} (hd : decode M.2.1 pc = .ok (.lload_n kk, 1)) (hi : (kk : Nat) = i) (j : Nat) (hj : lv[j]? = some (i, .long x)) (k : X G M d (pc + 1) lv (.long x :: st) σ Q) : X G M d pc lv (st) σ Q := by
  intro p e s m args below meth c A C H locs ls hP hD hS hl
  exact lv_lload_n C.1 C.2.1 hd hi (lv_at hl j hj) (k p e s m args below meth c A C H locs ls hP hD hS hl)
theorem x_lload {i : Nat} {x : Int64} (hd : decode M.2.1 pc = .ok (.lload i, 2)) (j : Nat) (hj : lv[j]? = some (i, .long x)) (k : X G M d (pc + 2) lv (.long x :: st) σ Q) : X G M d pc lv (st) σ Q := by
  intro p e s m args below meth c A C H locs ls hP hD hS hl
  exact lv_lload C.1 C.2.1 hd (lv_at hl j hj) (k p e s m args below meth c A C H locs ls hP hD hS hl)
theorem x_aload_n {kk : Fin 4} {i : Nat} {x : Nat} (hd : decode M.2.1 pc = .ok (.aload_n kk, 1)) (hi : (kk : Nat) = i) (j : Nat) (hj : lv[j]? = some (i, .ref x)) (k : X G M d (pc + 1) lv (.ref x :: st) σ Q) : X G M d pc lv (st) σ Q := by
  intro p e s m args below meth c A C H locs ls hP hD hS hl
  exact lv_aload_n C.1 C.2.1 hd hi (lv_at hl j hj) (k p e s m args below meth c A C H locs ls hP hD hS hl)
theorem x_aload {i : Nat} {x : Nat} (hd : decode M.2.1 pc = .ok (.aload i, 2)) (j : Nat) (hj : lv[j]? = some (i, .ref x)) (k : X G M d (pc + 2) lv (.ref x :: st) σ Q) : X G M d pc lv (st) σ Q := by
  intro p e s m args below meth c A C H locs ls hP hD hS hl
  exact lv_aload C.1 C.2.1 hd (lv_at hl j hj) (k p e s m args below meth c A C H locs ls hP hD hS hl)
theorem x_istore_n {kk : Fin 4} {i : Nat} {x : Int32} (hd : decode M.2.1 pc = .ok (.istore_n kk, 1)) (hi : (kk : Nat) = i) (hn : i < M.2.2.1) (hl' : (i, Value.int x) :: lv.filter (fun q => !(q.1 == i) && !(q.1 + 1 == i && q.2.category == 2)) = lv') (k : X G M d (pc + 1) lv' st σ Q) : X G M d pc lv (.int x :: st) σ Q := by
  intro p e s m args below meth c A C H locs ls hP hD hS hl
  exact lv_istore_n C.1 C.2.1 hd hi hl hn hl' (fun ls' h' => k p e s m args below meth c A C H locs ls' hP hD hS h')
theorem x_istore {i : Nat} {x : Int32} (hd : decode M.2.1 pc = .ok (.istore i, 2)) (hn : i < M.2.2.1) (hl' : (i, Value.int x) :: lv.filter (fun q => !(q.1 == i) && !(q.1 + 1 == i && q.2.category == 2)) = lv') (k : X G M d (pc + 2) lv' st σ Q) : X G M d pc lv (.int x :: st) σ Q := by
  intro p e s m args below meth c A C H locs ls hP hD hS hl
  exact lv_istore C.1 C.2.1 hd hl hn hl' (fun ls' h' => k p e s m args below meth c A C H locs ls' hP hD hS h')
theorem x_astore_n {kk : Fin 4} {i : Nat} {x : Nat} (hd : decode M.2.1 pc = .ok (.astore_n kk, 1)) (hi : (kk : Nat) = i) (hn : i < M.2.2.1) (hl' : (i, Value.ref x) :: lv.filter (fun q => !(q.1 == i) && !(q.1 + 1 == i && q.2.category == 2)) = lv') (k : X G M d (pc + 1) lv' st σ Q) : X G M d pc lv (.ref x :: st) σ Q := by
  intro p e s m args below meth c A C H locs ls hP hD hS hl
  exact lv_astore_n C.1 C.2.1 hd hi hl hn hl' (fun ls' h' => k p e s m args below meth c A C H locs ls' hP hD hS h')
theorem x_astore {i : Nat} {x : Nat} (hd : decode M.2.1 pc = .ok (.astore i, 2)) (hn : i < M.2.2.1) (hl' : (i, Value.ref x) :: lv.filter (fun q => !(q.1 == i) && !(q.1 + 1 == i && q.2.category == 2)) = lv') (k : X G M d (pc + 2) lv' st σ Q) : X G M d pc lv (.ref x :: st) σ Q := by
  intro p e s m args below meth c A C H locs ls hP hD hS hl
  exact lv_astore C.1 C.2.1 hd hl hn hl' (fun ls' h' => k p e s m args below meth c A C H locs ls' hP hD hS h')
theorem x_lstore_n {kk : Fin 4} {i : Nat} {x : Int64} (hd : decode M.2.1 pc = .ok (.lstore_n kk, 1)) (hi : (kk : Nat) = i) (hn : i + 1 < M.2.2.1) (hl' : (i, Value.long x) :: lv.filter (fun q => !(q.1 == i) && (!(q.1 == i + 1) && !(q.1 + 1 == i && q.2.category == 2))) = lv') (k : X G M d (pc + 1) lv' st σ Q) : X G M d pc lv (.long x :: st) σ Q := by
  intro p e s m args below meth c A C H locs ls hP hD hS hl
  exact lv_lstore_n C.1 C.2.1 hd hi hl hn hl' (fun ls' h' => k p e s m args below meth c A C H locs ls' hP hD hS h')
theorem x_lstore {i : Nat} {x : Int64} (hd : decode M.2.1 pc = .ok (.lstore i, 2)) (hn : i + 1 < M.2.2.1) (hl' : (i, Value.long x) :: lv.filter (fun q => !(q.1 == i) && (!(q.1 == i + 1) && !(q.1 + 1 == i && q.2.category == 2))) = lv') (k : X G M d (pc + 2) lv' st σ Q) : X G M d pc lv (.long x :: st) σ Q := by
  intro p e s m args below meth c A C H locs ls hP hD hS hl
  exact lv_lstore C.1 C.2.1 hd hl hn hl' (fun ls' h' => k p e s m args below meth c A C H locs ls' hP hD hS h')
theorem x_iinc {i : Nat} {n : Int} {x v : Int32} (hd : decode M.2.1 pc = .ok (.iinc i n, 3)) (j : Nat) (hj : lv[j]? = some (i, .int x)) (hv : x + Int32.ofInt n = v) (hn : i < M.2.2.1) (hl' : (i, Value.int v) :: lv.filter (fun q => !(q.1 == i) && !(q.1 + 1 == i && q.2.category == 2)) = lv') (k : X G M d (pc + 3) lv' st σ Q) : X G M d pc lv st σ Q := by
  intro p e s m args below meth c A C H locs ls hP hD hS hl
  exact lv_iinc C.1 C.2.1 hd hl hj hv hn hl' (fun ls' h' => k p e s m args below meth c A C H locs ls' hP hD hS h')
theorem x_iadd {x y : Int32} (hd : decode M.2.1 pc = .ok (.iadd, 1)) (k : X G M d (pc + 1) lv (.int (x + y) :: st) σ Q) : X G M d pc lv (.int y :: .int x :: st) σ Q := by
  intro p e s m args below meth c A C H locs ls hP hD hS hl
  exact lv_iadd C.1 C.2.1 hd (k p e s m args below meth c A C H locs ls hP hD hS hl)
theorem x_isub {x y : Int32} (hd : decode M.2.1 pc = .ok (.isub, 1)) (k : X G M d (pc + 1) lv (.int (x - y) :: st) σ Q) : X G M d pc lv (.int y :: .int x :: st) σ Q := by
  intro p e s m args below meth c A C H locs ls hP hD hS hl
  exact lv_isub C.1 C.2.1 hd (k p e s m args below meth c A C H locs ls hP hD hS hl)
theorem x_imul {x y : Int32} (hd : decode M.2.1 pc = .ok (.imul, 1)) (k : X G M d (pc + 1) lv (.int (x * y) :: st) σ Q) : X G M d pc lv (.int y :: .int x :: st) σ Q := by
  intro p e s m args below meth c A C H locs ls hP hD hS hl
  exact lv_imul C.1 C.2.1 hd (k p e s m args below meth c A C H locs ls hP hD hS hl)
theorem x_iand {x y : Int32} (hd : decode M.2.1 pc = .ok (.iand, 1)) (k : X G M d (pc + 1) lv (.int (x &&& y) :: st) σ Q) : X G M d pc lv (.int y :: .int x :: st) σ Q := by
  intro p e s m args below meth c A C H locs ls hP hD hS hl
  exact lv_iand C.1 C.2.1 hd (k p e s m args below meth c A C H locs ls hP hD hS hl)
theorem x_idiv {x y : Int32} (hd : decode M.2.1 pc = .ok (.idiv, 1)) (hne : ¬ y = 0) (k : X G M d (pc + 1) lv (.int (x / y) :: st) σ Q) : X G M d pc lv (.int y :: .int x :: st) σ Q := by
  intro p e s m args below meth c A C H locs ls hP hD hS hl
  exact lv_idiv C.1 C.2.1 hd hne (k p e s m args below meth c A C H locs ls hP hD hS hl)
theorem x_irem {x y : Int32} (hd : decode M.2.1 pc = .ok (.irem, 1)) (hne : ¬ y = 0) (k : X G M d (pc + 1) lv (.int (x - x / y * y) :: st) σ Q) : X G M d pc lv (.int y :: .int x :: st) σ Q := by
  intro p e s m args below meth c A C H locs ls hP hD hS hl
  exact lv_irem C.1 C.2.1 hd hne (k p e s m args below meth c A C H locs ls hP hD hS hl)
theorem x_ineg {x : Int32} (hd : decode M.2.1 pc = .ok (.ineg, 1)) (k : X G M d (pc + 1) lv (.int (-x) :: st) σ Q) : X G M d pc lv (.int x :: st) σ Q := by
  intro p e s m args below meth c A C H locs ls hP hD hS hl
  exact lv_ineg C.1 C.2.1 hd (k p e s m args below meth c A C H locs ls hP hD hS hl)
theorem x_land {x y : Int64} (hd : decode M.2.1 pc = .ok (.land, 1)) (k : X G M d (pc + 1) lv (.long (x &&& y) :: st) σ Q) : X G M d pc lv (.long y :: .long x :: st) σ Q := by
  intro p e s m args below meth c A C H locs ls hP hD hS hl
  exact lv_land C.1 C.2.1 hd (k p e s m args below meth c A C H locs ls hP hD hS hl)
theorem x_lor {x y : Int64} (hd : decode M.2.1 pc = .ok (.lor, 1)) (k : X G M d (pc + 1) lv (.long (x ||| y) :: st) σ Q) : X G M d pc lv (.long y :: .long x :: st) σ Q := by
  intro p e s m args below meth c A C H locs ls hP hD hS hl
  exact lv_lor C.1 C.2.1 hd (k p e s m args below meth c A C H locs ls hP hD hS hl)
theorem x_ladd {x y : Int64} (hd : decode M.2.1 pc = .ok (.ladd, 1)) (k : X G M d (pc + 1) lv (.long (x + y) :: st) σ Q) : X G M d pc lv (.long y :: .long x :: st) σ Q := by
  intro p e s m args below meth c A C H locs ls hP hD hS hl
  exact lv_ladd C.1 C.2.1 hd (k p e s m args below meth c A C H locs ls hP hD hS hl)
theorem x_lsub {x y : Int64} (hd : decode M.2.1 pc = .ok (.lsub, 1)) (k : X G M d (pc + 1) lv (.long (x - y) :: st) σ Q) : X G M d pc lv (.long y :: .long x :: st) σ Q := by
  intro p e s m args below meth c A C H locs ls hP hD hS hl
  exact lv_lsub C.1 C.2.1 hd (k p e s m args below meth c A C H locs ls hP hD hS hl)
theorem x_lshl {x : Int64} {y : Int32} (hd : decode M.2.1 pc = .ok (.lshl, 1)) (k : X G M d (pc + 1) lv (.long (x <<< (y.toInt64 &&& 63)) :: st) σ Q) : X G M d pc lv (.int y :: .long x :: st) σ Q := by
  intro p e s m args below meth c A C H locs ls hP hD hS hl
  exact lv_lshl C.1 C.2.1 hd rfl (k p e s m args below meth c A C H locs ls hP hD hS hl)
theorem x_lshr {x : Int64} {y : Int32} (hd : decode M.2.1 pc = .ok (.lshr, 1)) (k : X G M d (pc + 1) lv (.long (x >>> (y.toInt64 &&& 63)) :: st) σ Q) : X G M d pc lv (.int y :: .long x :: st) σ Q := by
  intro p e s m args below meth c A C H locs ls hP hD hS hl
  exact lv_lshr C.1 C.2.1 hd rfl (k p e s m args below meth c A C H locs ls hP hD hS hl)
theorem x_i2l {x : Int32} (hd : decode M.2.1 pc = .ok (.i2l, 1)) (k : X G M d (pc + 1) lv (.long x.toInt64 :: st) σ Q) : X G M d pc lv (.int x :: st) σ Q := by
  intro p e s m args below meth c A C H locs ls hP hD hS hl
  exact lv_i2l C.1 C.2.1 hd rfl (k p e s m args below meth c A C H locs ls hP hD hS hl)
theorem x_l2i {x : Int64} (hd : decode M.2.1 pc = .ok (.l2i, 1)) (k : X G M d (pc + 1) lv (.int x.toInt32 :: st) σ Q) : X G M d pc lv (.long x :: st) σ Q := by
  intro p e s m args below meth c A C H locs ls hP hD hS hl
  exact lv_l2i C.1 C.2.1 hd rfl (k p e s m args below meth c A C H locs ls hP hD hS hl)
theorem x_lcmp {x y : Int64} (hd : decode M.2.1 pc = .ok (.lcmp, 1)) (k : X G M d (pc + 1) lv (.int (lg_cmp x y) :: st) σ Q) : X G M d pc lv (.long y :: .long x :: st) σ Q := by
  intro p e s m args below meth c A C H locs ls hP hD hS hl
  exact W.lcmp C.1 C.2.1 hd (k p e s m args below meth c A C H locs ls hP hD hS hl)
theorem x_dup {va : Value} (hd : decode M.2.1 pc = .ok (.dup, 1)) (hva : va.category = 1) (k : X G M d (pc + 1) lv (va :: va :: st) σ Q) : X G M d pc lv (va :: st) σ Q := by
  intro p e s m args below meth c A C H locs ls hP hD hS hl
  exact lv_dup C.1 C.2.1 hd hva (k p e s m args below meth c A C H locs ls hP hD hS hl)
theorem x_dup_x1 {va vb : Value} (hd : decode M.2.1 pc = .ok (.dup_x1, 1)) (hva : va.category = 1) (hvb : vb.category = 1) (k : X G M d (pc + 1) lv (va :: vb :: va :: st) σ Q) : X G M d pc lv (va :: vb :: st) σ Q := by
  intro p e s m args below meth c A C H locs ls hP hD hS hl
  exact lv_dup_x1 C.1 C.2.1 hd hva hvb (k p e s m args below meth c A C H locs ls hP hD hS hl)
theorem x_dup2 {va vb : Value} (hd : decode M.2.1 pc = .ok (.dup2, 1)) (hva : va.category = 1) (hvb : vb.category = 1) (k : X G M d (pc + 1) lv (va :: vb :: va :: vb :: st) σ Q) : X G M d pc lv (va :: vb :: st) σ Q := by
  intro p e s m args below meth c A C H locs ls hP hD hS hl
  exact lv_dup2_11 C.1 C.2.1 hd hva hvb (k p e s m args below meth c A C H locs ls hP hD hS hl)
theorem x_pop {va : Value} (hd : decode M.2.1 pc = .ok (.pop, 1)) (hva : va.category = 1) (k : X G M d (pc + 1) lv (st) σ Q) : X G M d pc lv (va :: st) σ Q := by
  intro p e s m args below meth c A C H locs ls hP hD hS hl
  exact lv_pop C.1 C.2.1 hd hva (k p e s m args below meth c A C H locs ls hP hD hS hl)
theorem x_ldc2 {idx : Nat} {v : Int64} (hd : decode M.2.1 pc = .ok (.ldc2_w idx, 3)) (hw : Cond.constantLong M.1.cls idx v ∈ wsG) (k : X G M d (pc + 3) lv (.long v :: st) σ Q) : X G M d pc lv (st) σ Q := by
  intro p e s m args below meth c A C H locs ls hP hD hS hl
  exact lv_ldc2 C.1 C.2.1 C.2.2.2.2.2.1 (C.2.2.2.2.2.2.1 _ hw) hd (k p e s m args below meth c A C H locs ls hP hD hS hl)
theorem x_ldc {idx : Nat} {v : Int32} (hd : decode M.2.1 pc = .ok (.ldc idx, 2)) (hw : Cond.constant M.1.cls idx v ∈ wsG) (k : X G M d (pc + 2) lv (.int v :: st) σ Q) : X G M d pc lv (st) σ Q := by
  intro p e s m args below meth c A C H locs ls hP hD hS hl
  exact lv_ldc C.1 C.2.1 C.2.2.2.2.2.1 (C.2.2.2.2.2.2.1 _ hw) hd (k p e s m args below meth c A C H locs ls hP hD hS hl)
theorem x_if_eq {x : Int32} {off : Int} (hd : decode M.2.1 pc = .ok (.ifCond .eq off, 3)) (tgt : Nat) (ht : (pc : Int) + off = (tgt : Int)) (kt : x = 0 → X G M d (tgt) lv st σ Q) (kf : ¬ x = 0 → X G M d (pc + 3) lv st σ Q) : X G M d pc lv (.int x :: st) σ Q := by
  intro p e s m args below meth c A C H locs ls hP hD hS hl
  exact lv_if_eq C.1 C.2.1 hd ht (fun h => kt h p e s m args below meth c A C H locs ls hP hD hS hl) (fun h => kf h p e s m args below meth c A C H locs ls hP hD hS hl)
theorem x_if_ne {x : Int32} {off : Int} (hd : decode M.2.1 pc = .ok (.ifCond .ne off, 3)) (tgt : Nat) (ht : (pc : Int) + off = (tgt : Int)) (kt : x = 0 → X G M d (pc + 3) lv st σ Q) (kf : ¬ x = 0 → X G M d (tgt) lv st σ Q) : X G M d pc lv (.int x :: st) σ Q := by
  intro p e s m args below meth c A C H locs ls hP hD hS hl
  exact lv_if_ne C.1 C.2.1 hd ht (fun h => kf (by simpa using h) p e s m args below meth c A C H locs ls hP hD hS hl) (fun h => kt (by simpa using h) p e s m args below meth c A C H locs ls hP hD hS hl)
theorem x_if_lt {x : Int32} {off : Int} (hd : decode M.2.1 pc = .ok (.ifCond .lt off, 3)) (tgt : Nat) (ht : (pc : Int) + off = (tgt : Int)) (kt : x < 0 → X G M d (tgt) lv st σ Q) (kf : ¬ x < 0 → X G M d (pc + 3) lv st σ Q) : X G M d pc lv (.int x :: st) σ Q := by
  intro p e s m args below meth c A C H locs ls hP hD hS hl
  exact lv_if_lt C.1 C.2.1 hd ht (fun h => kt h p e s m args below meth c A C H locs ls hP hD hS hl) (fun h => kf h p e s m args below meth c A C H locs ls hP hD hS hl)
theorem x_if_ge {x : Int32} {off : Int} (hd : decode M.2.1 pc = .ok (.ifCond .ge off, 3)) (tgt : Nat) (ht : (pc : Int) + off = (tgt : Int)) (kt : x < 0 → X G M d (pc + 3) lv st σ Q) (kf : ¬ x < 0 → X G M d (tgt) lv st σ Q) : X G M d pc lv (.int x :: st) σ Q := by
  intro p e s m args below meth c A C H locs ls hP hD hS hl
  exact lv_if_ge C.1 C.2.1 hd ht (fun h => kf (by simpa using h) p e s m args below meth c A C H locs ls hP hD hS hl) (fun h => kt (by simpa using h) p e s m args below meth c A C H locs ls hP hD hS hl)
theorem x_if_gt {x : Int32} {off : Int} (hd : decode M.2.1 pc = .ok (.ifCond .gt off, 3)) (tgt : Nat) (ht : (pc : Int) + off = (tgt : Int)) (kt : 0 < x → X G M d (tgt) lv st σ Q) (kf : ¬ 0 < x → X G M d (pc + 3) lv st σ Q) : X G M d pc lv (.int x :: st) σ Q := by
  intro p e s m args below meth c A C H locs ls hP hD hS hl
  exact lv_if_gt C.1 C.2.1 hd ht (fun h => kt h p e s m args below meth c A C H locs ls hP hD hS hl) (fun h => kf h p e s m args below meth c A C H locs ls hP hD hS hl)
theorem x_if_le {x : Int32} {off : Int} (hd : decode M.2.1 pc = .ok (.ifCond .le off, 3)) (tgt : Nat) (ht : (pc : Int) + off = (tgt : Int)) (kt : 0 < x → X G M d (pc + 3) lv st σ Q) (kf : ¬ 0 < x → X G M d (tgt) lv st σ Q) : X G M d pc lv (.int x :: st) σ Q := by
  intro p e s m args below meth c A C H locs ls hP hD hS hl
  exact lv_if_le C.1 C.2.1 hd ht (fun h => kf (by simpa using h) p e s m args below meth c A C H locs ls hP hD hS hl) (fun h => kt (by simpa using h) p e s m args below meth c A C H locs ls hP hD hS hl)
theorem x_icmp_eq {x y : Int32} {off : Int} (hd : decode M.2.1 pc = .ok (.if_icmp .eq off, 3)) (tgt : Nat) (ht : (pc : Int) + off = (tgt : Int)) (kt : x = y → X G M d (tgt) lv st σ Q) (kf : ¬ x = y → X G M d (pc + 3) lv st σ Q) : X G M d pc lv (.int y :: .int x :: st) σ Q := by
  intro p e s m args below meth c A C H locs ls hP hD hS hl
  exact lv_icmp_eq C.1 C.2.1 hd ht (fun h => kt h p e s m args below meth c A C H locs ls hP hD hS hl) (fun h => kf h p e s m args below meth c A C H locs ls hP hD hS hl)
theorem x_icmp_ne {x y : Int32} {off : Int} (hd : decode M.2.1 pc = .ok (.if_icmp .ne off, 3)) (tgt : Nat) (ht : (pc : Int) + off = (tgt : Int)) (kt : x = y → X G M d (pc + 3) lv st σ Q) (kf : ¬ x = y → X G M d (tgt) lv st σ Q) : X G M d pc lv (.int y :: .int x :: st) σ Q := by
  intro p e s m args below meth c A C H locs ls hP hD hS hl
  exact lv_icmp_ne C.1 C.2.1 hd ht (fun h => kf (by simpa using h) p e s m args below meth c A C H locs ls hP hD hS hl) (fun h => kt (by simpa using h) p e s m args below meth c A C H locs ls hP hD hS hl)
theorem x_icmp_lt {x y : Int32} {off : Int} (hd : decode M.2.1 pc = .ok (.if_icmp .lt off, 3)) (tgt : Nat) (ht : (pc : Int) + off = (tgt : Int)) (kt : x < y → X G M d (tgt) lv st σ Q) (kf : ¬ x < y → X G M d (pc + 3) lv st σ Q) : X G M d pc lv (.int y :: .int x :: st) σ Q := by
  intro p e s m args below meth c A C H locs ls hP hD hS hl
  exact lv_icmp_lt C.1 C.2.1 hd ht (fun h => kt h p e s m args below meth c A C H locs ls hP hD hS hl) (fun h => kf h p e s m args below meth c A C H locs ls hP hD hS hl)
theorem x_icmp_ge {x y : Int32} {off : Int} (hd : decode M.2.1 pc = .ok (.if_icmp .ge off, 3)) (tgt : Nat) (ht : (pc : Int) + off = (tgt : Int)) (kt : x < y → X G M d (pc + 3) lv st σ Q) (kf : ¬ x < y → X G M d (tgt) lv st σ Q) : X G M d pc lv (.int y :: .int x :: st) σ Q := by
  intro p e s m args below meth c A C H locs ls hP hD hS hl
  exact lv_icmp_ge C.1 C.2.1 hd ht (fun h => kf (by simpa using h) p e s m args below meth c A C H locs ls hP hD hS hl) (fun h => kt (by simpa using h) p e s m args below meth c A C H locs ls hP hD hS hl)
theorem x_icmp_gt {x y : Int32} {off : Int} (hd : decode M.2.1 pc = .ok (.if_icmp .gt off, 3)) (tgt : Nat) (ht : (pc : Int) + off = (tgt : Int)) (kt : y < x → X G M d (tgt) lv st σ Q) (kf : ¬ y < x → X G M d (pc + 3) lv st σ Q) : X G M d pc lv (.int y :: .int x :: st) σ Q := by
  intro p e s m args below meth c A C H locs ls hP hD hS hl
  exact lv_icmp_gt C.1 C.2.1 hd ht (fun h => kt h p e s m args below meth c A C H locs ls hP hD hS hl) (fun h => kf h p e s m args below meth c A C H locs ls hP hD hS hl)
theorem x_icmp_le {x y : Int32} {off : Int} (hd : decode M.2.1 pc = .ok (.if_icmp .le off, 3)) (tgt : Nat) (ht : (pc : Int) + off = (tgt : Int)) (kt : y < x → X G M d (pc + 3) lv st σ Q) (kf : ¬ y < x → X G M d (tgt) lv st σ Q) : X G M d pc lv (.int y :: .int x :: st) σ Q := by
  intro p e s m args below meth c A C H locs ls hP hD hS hl
  exact lv_icmp_le C.1 C.2.1 hd ht (fun h => kf (by simpa using h) p e s m args below meth c A C H locs ls hP hD hS hl) (fun h => kt (by simpa using h) p e s m args below meth c A C H locs ls hP hD hS hl)
theorem x_goto {off : Int} (hd : decode M.2.1 pc = .ok (.goto off, 3)) (tgt : Nat) (ht : (pc : Int) + off = (tgt : Int)) (k : X G M d tgt lv st σ Q) : X G M d pc lv st σ Q := by
  intro p e s m args below meth c A C H locs ls hP hD hS hl
  exact lv_goto C.1 C.2.1 hd ht (k p e s m args below meth c A C H locs ls hP hD hS hl)
theorem x_tblIn {x : Int32} {dflt lo hi off : Int} {offs : Array Int} {len : Nat} (v : Int32) (tgt : Nat) (hx : x = v) (hd : decode M.2.1 pc = .ok (.tableswitch dflt lo hi offs, len)) (h1 : ¬ v.toInt < lo) (h2 : ¬ hi < v.toInt) (ho : offs[(v.toInt - lo).toNat]? = some off) (ht : (pc : Int) + off = (tgt : Int)) (k : X G M d tgt lv st σ Q) : X G M d pc lv (.int x :: st) σ Q := by
  subst hx
  intro p e s m args below meth c A C H locs ls hP hD hS hl
  exact lv_tableIn C.1 C.2.1 hd h1 h2 ho ht (k p e s m args below meth c A C H locs ls hP hD hS hl)
theorem tbl_out {x : Int32} {lo hi : Int} (vs : List Int32) (hv : ∀ i : Int, lo ≤ i → i ≤ hi → Int32.ofInt i ∈ vs) (h : ∀ v ∈ vs, ¬ x = v) : x.toInt < lo ∨ hi < x.toInt := by
  by_cases h1 : x.toInt < lo
  · exact Or.inl h1
  · by_cases h2 : hi < x.toInt
    · exact Or.inr h2
    · have := hv x.toInt (by omega) (by omega)
      rw [Int32.ofInt_toInt] at this
      exact absurd rfl (h x this)
theorem tbl_vs {lo hi : Int} {vs : List Int32} (n : Nat) (hn : lo + n = hi + 1) (h : (List.range n).all (fun k => decide (Int32.ofInt (lo + k) ∈ vs)) = true) : ∀ i : Int, lo ≤ i → i ≤ hi → Int32.ofInt i ∈ vs := by
  intro i h1 h2
  have := List.all_eq_true.mp h (i - lo).toNat (List.mem_range.mpr (by omega))
  have e : lo + ((i - lo).toNat : Int) = i := by omega
  have this := of_decide_eq_true this
  rwa [e] at this
theorem x_tblOut {x : Int32} {dflt lo hi : Int} {offs : Array Int} {len : Nat} (vs : List Int32) (n tgt : Nat) (hn : lo + n = hi + 1) (hv : (List.range n).all (fun k => decide (Int32.ofInt (lo + k) ∈ vs)) = true) (hx : ∀ v ∈ vs, ¬ x = v) (hd : decode M.2.1 pc = .ok (.tableswitch dflt lo hi offs, len)) (ht : (pc : Int) + dflt = (tgt : Int)) (k : X G M d tgt lv st σ Q) : X G M d pc lv (.int x :: st) σ Q := by
  intro p e s m args below meth c A C H locs ls hP hD hS hl
  exact lv_tableOut C.1 C.2.1 hd (tbl_out vs (tbl_vs n hn hv) hx) ht (k p e s m args below meth c A C H locs ls hP hD hS hl)
theorem x_lookIn {x : Int32} {dflt off : Int} {ps : Array (Int × Int)} {len : Nat} (v : Int32) (tgt : Nat) (hx : x = v) (hd : decode M.2.1 pc = .ok (.lookupswitch dflt ps, len)) (hp : (ps.toList.zip (ps.toList.drop 1)).all (fun (a, next) => a.1 < next.1) = true) (ho : Op.lookupswitch.offset ps.toList dflt v.toInt = off) (ht : (pc : Int) + off = (tgt : Int)) (k : X G M d tgt lv st σ Q) : X G M d pc lv (.int x :: st) σ Q := by
  subst hx
  intro p e s m args below meth c A C H locs ls hP hD hS hl
  exact lv_lookup C.1 C.2.1 hd hp ho ht (k p e s m args below meth c A C H locs ls hP hD hS hl)
theorem x_lookOut {x : Int32} {dflt : Int} {ps : Array (Int × Int)} {len : Nat} (tgt : Nat) (hd : decode M.2.1 pc = .ok (.lookupswitch dflt ps, len)) (hp : (ps.toList.zip (ps.toList.drop 1)).all (fun (a, next) => a.1 < next.1) = true) (ho : Op.lookupswitch.offset ps.toList dflt x.toInt = dflt) (ht : (pc : Int) + dflt = (tgt : Int)) (k : X G M d tgt lv st σ Q) : X G M d pc lv (.int x :: st) σ Q := by
  intro p e s m args below meth c A C H locs ls hP hD hS hl
  exact lv_lookup C.1 C.2.1 hd hp ho ht (k p e s m args below meth c A C H locs ls hP hD hS hl)
/-- a class of the layout: its place in vwCl, its fields' words, types, names -/
def KC (ci : Nat) (C : String) (T : u_T) (N : Nat) (ty : Nat → FieldType) : Prop := vwCl[ci]? = some (C, T, N) ∧ (∀ w ∈ u_ws C T N, w ∈ wsG) ∧ (∀ k, k < N → parseFieldDescriptor (T k).2.2.1 = some (ty k)) ∧ (∀ a, a < N → ∀ b, b < N → a ≠ b → (T a).2.1 ≠ (T b).2.1)
/-- the field f, of kind t, of the object at o, as the entry idx of own names it -/
def FG (Ly : List Ds) (own : String) (idx o f t : Nat) : Prop := ∃ (ci : Nat) (C : String) (T : u_T) (N : Nat) (ty : Nat → FieldType) (ts : List Nat), KC ci C T N ty ∧ Ly[o]? = some (0, ci, ts) ∧ ts[f]? = some t ∧ f < N ∧ Cond.fieldLink own idx (T f).1 (T f).2.1 (T f).2.2.1 ∈ wsG
def FP (Ly : List Ds) (own : String) (idx o f t : Nat) : Prop := ∃ (ci : Nat) (C : String) (T : u_T) (N : Nat) (ty : Nat → FieldType) (ts : List Nat), KC ci C T N ty ∧ Ly[o]? = some (0, ci, ts) ∧ ts[f]? = some t ∧ f < N ∧ Cond.fieldLink own idx (T f).1 (T f).2.1 (T f).2.2.1 ∈ wsG ∧ (T f).2.2.2 = false ∧ ty f = (if t = 0 then .int else .long)
theorem x_get {Ly : List Ds} {idx o f t : Nat} (hG : gLy G = Ly) (hs : FG Ly M.1.cls idx o f t) (hd : decode M.2.1 pc = .ok (.getfield idx, 3)) (k : X G M d (pc + 3) lv (fV (gad G) σ o f t :: st) σ Q) : X G M d pc lv (.ref (gad G o) :: st) σ Q := by
  obtain ⟨ci, C', T, N, ty, ts, ⟨k1, k2, k3, k4⟩, h1, h2, h3, h4⟩ := hs
  subst hG
  intro p e s m args below meth c A C H locs ls hP hD hS hl
  exact va_get C.1 C.2.1 C.2.2.2.2.2.2.1 k2 C.2.2.2.2.2.1 C.2.2.2.2.2.2.2.1 hP o (pic_at h1) k1 f h3 (C.2.2.2.2.2.2.1 _ h4) (fun _ h => h) (fs_at h2) hd (k p e s m args below meth c A C H locs ls hP hD hS hl)
theorem x_getI {Ly : List Ds} {idx o f : Nat} (hG : gLy G = Ly) (hs : FG Ly M.1.cls idx o f 0) (hd : decode M.2.1 pc = .ok (.getfield idx, 3)) (k : X G M d (pc + 3) lv (.int (sI σ o f) :: st) σ Q) : X G M d pc lv (.ref (gad G o) :: st) σ Q := x_get hG hs hd k
theorem x_getL {Ly : List Ds} {idx o f : Nat} (hG : gLy G = Ly) (hs : FG Ly M.1.cls idx o f 1) (hd : decode M.2.1 pc = .ok (.getfield idx, 3)) (k : X G M d (pc + 3) lv (.long (sL σ o f) :: st) σ Q) : X G M d pc lv (.ref (gad G o) :: st) σ Q := x_get hG hs hd k
theorem x_getR {Ly : List Ds} {idx o f q : Nat} (hG : gLy G = Ly) (hs : FG Ly M.1.cls idx o f (q + 2)) (hd : decode M.2.1 pc = .ok (.getfield idx, 3)) (k : X G M d (pc + 3) lv (.ref (gad G q) :: st) σ Q) : X G M d pc lv (.ref (gad G o) :: st) σ Q := x_get hG hs hd k
theorem x_putI {Ly : List Ds} {idx o f : Nat} {v : Int32} (hG : gLy G = Ly) (hs : FP Ly M.1.cls idx o f 0) (hd : decode M.2.1 pc = .ok (.putfield idx, 3)) (k : X G M d (pc + 3) lv st (wI σ o f v) Q) : X G M d pc lv (.int v :: .ref (gad G o) :: st) σ Q := by
  obtain ⟨ci, C', T, N, ty, ts, ⟨k1, k2, k3, k4⟩, h1, h2, h3, h4, h5, h6⟩ := hs
  subst hG
  intro p e s m args below meth c A C H locs ls hP hD hS hl
  refine va_put C.1 C.2.1 C.2.2.2.2.2.2.1 k2 ty k3 k4 C.2.2.2.2.2.1 C.2.2.2.2.2.2.2.1 hP hD hS o (pic_at h1) k1 f h3 (C.2.2.2.2.2.2.1 _ h4) (fun _ h => h) h5 (ty := .int) (by rw [k3 f h3, h6]; rfl) rfl rfl (by rw [List.length_mapIdx]; exact (List.getElem?_eq_some_iff.mp h2).1) hd (fun H1 locs1 hP1 hD1 hS1 => ?_)
  rw [pic_fI h1 h2] at hP1 hD1
  exact k p e s m args below meth c A C H1 locs1 ls hP1 hD1 hS1 hl
theorem x_putL {Ly : List Ds} {idx o f : Nat} {v : Int64} (hG : gLy G = Ly) (hs : FP Ly M.1.cls idx o f 1) (hd : decode M.2.1 pc = .ok (.putfield idx, 3)) (k : X G M d (pc + 3) lv st (wL σ o f v) Q) : X G M d pc lv (.long v :: .ref (gad G o) :: st) σ Q := by
  obtain ⟨ci, C', T, N, ty, ts, ⟨k1, k2, k3, k4⟩, h1, h2, h3, h4, h5, h6⟩ := hs
  subst hG
  intro p e s m args below meth c A C H locs ls hP hD hS hl
  refine va_put C.1 C.2.1 C.2.2.2.2.2.2.1 k2 ty k3 k4 C.2.2.2.2.2.1 C.2.2.2.2.2.2.2.1 hP hD hS o (pic_at h1) k1 f h3 (C.2.2.2.2.2.2.1 _ h4) (fun _ h => h) h5 (ty := .long) (by rw [k3 f h3, h6]; rfl) rfl rfl (by rw [List.length_mapIdx]; exact (List.getElem?_eq_some_iff.mp h2).1) hd (fun H1 locs1 hP1 hD1 hS1 => ?_)
  rw [pic_fL h1 h2] at hP1 hD1
  exact k p e s m args below meth c A C H1 locs1 ls hP1 hD1 hS1 hl
theorem x_iald {Ly : List Ds} {o n : Nat} {x : List Nat} {i : Int32} (hG : gLy G = Ly) (ho : Ly[o]? = some (1, n, x)) (hd : decode M.2.1 pc = .ok (.iaload, 1)) (hin : vp_in i n) (k : X G M d (pc + 1) lv (.int (sI σ o i.toNatClampNeg) :: st) σ Q) : X G M d pc lv (.int i :: .ref (gad G o) :: st) σ Q := by
  subst hG
  intro p e s m args below meth c A C H locs ls hP hD hS hl
  exact va_iald C.1 C.2.1 C.2.2.2.2.2.2.2.1 hP o o (pic_at ho) (tys_at ho) hin hd (k p e s m args below meth c A C H locs ls hP hD hS hl)
theorem x_lald {Ly : List Ds} {o n : Nat} {x : List Nat} {i : Int32} (hG : gLy G = Ly) (ho : Ly[o]? = some (2, n, x)) (hd : decode M.2.1 pc = .ok (.laload, 1)) (hin : vp_in i n) (k : X G M d (pc + 1) lv (.long (sL σ o i.toNatClampNeg) :: st) σ Q) : X G M d pc lv (.int i :: .ref (gad G o) :: st) σ Q := by
  subst hG
  intro p e s m args below meth c A C H locs ls hP hD hS hl
  exact va_lald C.1 C.2.1 C.2.2.2.2.2.2.2.1 hP o o (pic_at ho) (tys_at ho) hin hd (k p e s m args below meth c A C H locs ls hP hD hS hl)
theorem x_iast {Ly : List Ds} {o n : Nat} {x : List Nat} {i v : Int32} (hG : gLy G = Ly) (ho : Ly[o]? = some (1, n, x)) (hd : decode M.2.1 pc = .ok (.iastore, 1)) (hin : vp_in i n) (k : X G M d (pc + 1) lv st (wI σ o i.toNatClampNeg v) Q) : X G M d pc lv (.int v :: .int i :: .ref (gad G o) :: st) σ Q := by
  subst hG
  intro p e s m args below meth c A C H locs ls hP hD hS hl
  refine va_iast C.1 C.2.1 C.2.2.2.2.2.2.2.1 hP hD hS o o (pic_at ho) (tys_at ho) hin hd (fun H1 locs1 hP1 hD1 hS1 => ?_)
  rw [pic_aI ho] at hP1 hD1
  exact k p e s m args below meth c A C H1 locs1 ls hP1 hD1 hS1 hl
theorem x_last {Ly : List Ds} {o n : Nat} {x : List Nat} {i : Int32} {v : Int64} (hG : gLy G = Ly) (ho : Ly[o]? = some (2, n, x)) (hd : decode M.2.1 pc = .ok (.lastore, 1)) (hin : vp_in i n) (k : X G M d (pc + 1) lv st (wL σ o i.toNatClampNeg v) Q) : X G M d pc lv (.long v :: .int i :: .ref (gad G o) :: st) σ Q := by
  subst hG
  intro p e s m args below meth c A C H locs ls hP hD hS hl
  refine va_last C.1 C.2.1 C.2.2.2.2.2.2.2.1 hP hD hS o o (pic_at ho) (tys_at ho) hin hd (fun H1 locs1 hP1 hD1 hS1 => ?_)
  rw [pic_aL ho] at hP1 hD1
  exact k p e s m args below meth c A C H1 locs1 ls hP1 hD1 hS1 hl
theorem x_alenI {Ly : List Ds} {o n : Nat} {x : List Nat} {v : Int32} (hG : gLy G = Ly) (ho : Ly[o]? = some (1, n, x)) (hv : Int32.ofNat n = v) (hd : decode M.2.1 pc = .ok (.arraylength, 1)) (k : X G M d (pc + 1) lv (.int v :: st) σ Q) : X G M d pc lv (.ref (gad G o) :: st) σ Q := by
  subst hG
  intro p e s m args below meth c A C H locs ls hP hD hS hl
  exact va_alen C.1 C.2.1 C.2.2.2.2.2.2.2.1 hP o o (pic_at ho) (tys_at ho) hv hd (k p e s m args below meth c A C H locs ls hP hD hS hl)
theorem x_alenL {Ly : List Ds} {o n : Nat} {x : List Nat} {v : Int32} (hG : gLy G = Ly) (ho : Ly[o]? = some (2, n, x)) (hv : Int32.ofNat n = v) (hd : decode M.2.1 pc = .ok (.arraylength, 1)) (k : X G M d (pc + 1) lv (.int v :: st) σ Q) : X G M d pc lv (.ref (gad G o) :: st) σ Q := by
  subst hG
  intro p e s m args below meth c A C H locs ls hP hD hS hl
  exact va_alen C.1 C.2.1 C.2.2.2.2.2.2.2.1 hP o o (pic_at ho) (tys_at ho) hv hd (k p e s m args below meth c A C H locs ls hP hD hS hl)
theorem x_getsM {idx : Nat} (hw : Cond.fieldLink M.1.cls idx "SideWork$Acts" "MEANINGS" "[I" ∈ wsG) (hd : decode M.2.1 pc = .ok (.getstatic idx, 3)) (k : X G M d (pc + 3) lv (.ref (gtM G) :: st) σ Q) : X G M d pc lv st σ Q := by
  intro p e s m args below meth c A C H locs ls hP hD hS hl
  exact va_gets C.1 C.2.1 C.2.2.2.2.2.2.2.2.2.1 hS C.2.2.2.2.2.1 (C.2.2.2.2.2.2.1 _ hw) (fun _ h => h) hd (k p e s m args below meth c A C H locs ls hP hD hS hl)
theorem x_getsG {idx : Nat} (hw : Cond.fieldLink M.1.cls idx "SideWork$Acts" "GREATEST" "[I" ∈ wsG) (hd : decode M.2.1 pc = .ok (.getstatic idx, 3)) (k : X G M d (pc + 3) lv (.ref (gtG G) :: st) σ Q) : X G M d pc lv st σ Q := by
  intro p e s m args below meth c A C H locs ls hP hD hS hl
  exact va_gets C.1 C.2.1 C.2.2.2.2.2.2.2.2.2.2.2.1 hS C.2.2.2.2.2.1 (C.2.2.2.2.2.2.1 _ hw) (fun _ h => h) hd (k p e s m args below meth c A C H locs ls hP hD hS hl)
theorem x_tbM {i : Int32} (hd : decode M.2.1 pc = .ok (.iaload, 1)) (hin : vp_in i 96) (k : X G M d (pc + 1) lv (.int (tbM i.toNatClampNeg) :: st) σ Q) : X G M d pc lv (.int i :: .ref (gtM G) :: st) σ Q := by
  intro p e s m args below meth c A C H locs ls hP hD hS hl
  exact va_ti C.1 C.2.1 C.2.2.2.2.2.2.2.2.2.2.1 hS hin rfl hd (k p e s m args below meth c A C H locs ls hP hD hS hl)
theorem x_tbG {i : Int32} (hd : decode M.2.1 pc = .ok (.iaload, 1)) (hin : vp_in i 7) (k : X G M d (pc + 1) lv (.int (tbG i.toNatClampNeg) :: st) σ Q) : X G M d pc lv (.int i :: .ref (gtG G) :: st) σ Q := by
  intro p e s m args below meth c A C H locs ls hP hD hS hl
  exact va_ti C.1 C.2.1 C.2.2.2.2.2.2.2.2.2.2.2.2 hS hin rfl hd (k p e s m args below meth c A C H locs ls hP hD hS hl)
theorem x_iret {v : Int32} (hr : M.2.2.2 = some .int) (hd : decode M.2.1 pc = .ok (.ireturn, 1)) (hq : Q (some (.int v)) σ) : X G M d pc lv [.int v] σ Q := by
  intro p e s m args below meth c A C H locs ls hP hD hS hl
  exact W.iret C.1 C.2.1 (C.2.2.2.1.trans hr) (fun t ht hw => ⟨⟨_, σ, rfl, hq, by rw [ht]; exact hP, va_K.moved hw.alike C.2.2.2.2.2.2.2.1, hD⟩, hS.F ht⟩) hS.2.2 hd C.2.2.2.2.1
theorem x_zret {v : Int32} (hr : M.2.2.2 = some .boolean) (hn : narrow .boolean (.int v) = .int v) (hd : decode M.2.1 pc = .ok (.ireturn, 1)) (hq : Q (some (.int v)) σ) : X G M d pc lv [.int v] σ Q := by
  intro p e s m args below meth c A C H locs ls hP hD hS hl
  exact W.zret C.1 C.2.1 (C.2.2.2.1.trans hr) hn (fun t ht hw => ⟨⟨_, σ, rfl, hq, by rw [ht]; exact hP, va_K.moved hw.alike C.2.2.2.2.2.2.2.1, hD⟩, hS.F ht⟩) hS.2.2 hd C.2.2.2.2.1
theorem x_lret {v : Int64} (hr : M.2.2.2 = some .long) (hd : decode M.2.1 pc = .ok (.lreturn, 1)) (hq : Q (some (.long v)) σ) : X G M d pc lv [.long v] σ Q := by
  intro p e s m args below meth c A C H locs ls hP hD hS hl
  exact W.lret C.1 C.2.1 (C.2.2.2.1.trans hr) (fun t ht hw => ⟨⟨_, σ, rfl, hq, by rw [ht]; exact hP, va_K.moved hw.alike C.2.2.2.2.2.2.2.1, hD⟩, hS.F ht⟩) hS.2.2 hd C.2.2.2.2.1
theorem x_vret (hr : M.2.2.2 = none) (hd : decode M.2.1 pc = .ok (.return_, 1)) (hq : Q none σ) : X G M d pc lv [] σ Q := by
  intro p e s m args below meth c A C H locs ls hP hD hS hl
  exact W.vret C.1 C.2.1 (C.2.2.2.1.trans hr) (fun t ht hw => ⟨⟨_, σ, rfl, hq, by rw [ht]; exact hP, va_K.moved hw.alike C.2.2.2.2.2.2.2.1, hD⟩, hS.F ht⟩) hS.2.2 hd C.2.2.2.2.1
/-! calls -/
def MK (M' : Mi) (n : Nat) : Prop := (M'.1.cls ≠ "java/lang/invoke/MethodHandle" ∧ M'.1.cls ≠ "java/lang/invoke/VarHandle" ∧ (parseMethodDescriptor M'.1.desc).map (fun d => d.parameters.length) = some n) ∧ Cond.code M'.1 M'.2.1 M'.2.2.1 M'.2.2.2 ∈ wsG ∧ Cond.initialized M'.1.cls ∈ wsG
def MV (M' : Mi) (n : Nat) : Prop := MK M' n ∧ Cond.instanceMethod M'.1 ∈ wsG ∧ Cond.selects M'.1.cls M'.1 M'.1 ∈ wsG
def MS (M' : Mi) (n : Nat) : Prop := MK M' n ∧ Cond.static M'.1 ∈ wsG
theorem goodG {ws : List Cond} (h : ∀ w ∈ ws, w ∈ wsG) : GoodIn wsG ws := fun w hw => ⟨h w hw, good_of_word (wsG_in (h w hw)).2⟩
theorem x_back {p : Program} {e : Env} {s : State} {m : MethodId} {args : Array Value} {below : List Frame} {meth : Method} {c : Code} {A : Nat → Prop} {H : Heap} {locs : List Loc} {ls : Array Slot} {Q' : Option Value → Sg → Prop} {a : Array Value} {rest stk : List Value}
    (C : XC G M p s m args meth c A) (hP : va_P G.2.1 vwCl (gpic G σ) H) (hD : va_D A (gpic G σ)) (hS : va_S A s.heap H locs) (hl : lv_has ls M.2.2.1 lv)
    (hr : va_Run p G.1 e (rmd d) s m args below meth c H locs 0 0 0 0 (F0 m pc ls stk) rest (Qx G Q' (va_A (gpic G σ) H.size) a) (va_A (gpic G σ) H.size))
    (k : ∀ (v : Option Value) (σ' : Sg), Q' v σ' → X G M d (pc + 3) lv (v.toList ++ rest) σ' Q) :
    W p G.1 e (rmd d) s m args below meth c H locs 0 0 (MQ below (Qx G Q A) args s 0 0 A) (F0 m pc ls stk) := by
  have hF : ∀ q, va_A (gpic G σ) H.size q → A q := by
    intro q h
    rcases h with ⟨i, e', h⟩ | h
    · exact hD.2 i (q, e') h
    · exact C.2.2.2.2.2.2.2.2.1 q (Nat.le_trans hS.1 h)
  intro T hT XX
  obtain ⟨v, st₀, t, T', L, h0, X', hL, e1, e2, ⟨⟨v', σ', hv, hq, hP1, hK1, hD1⟩, hz, hk⟩, stp⟩ := hr T hT XX
  cases hv
  rw [h0] at hz hk
  have hS1 : va_S A s.heap T'.heap (locs ++ L) := ⟨Nat.le_trans hS.1 (by rw [e1]; exact hz), fun q h1 h2 => by rw [e1, hk q (Nat.lt_of_lt_of_le h1 hS.1) (fun z => h2 (hF q z))]; exact hS.2.1 q h1 h2, fun q hq => by
      rcases List.mem_append.mp hq with h | h
      · exact hS.2.2 q h
      · exact hF _ (hL q h)⟩
  obtain ⟨t2, a1, b1⟩ := k v σ' hq p e s m args below meth c A C T'.heap (locs ++ L) ls (by rw [e1]; exact hP1) (hD1.weaken (fun i q _ h => hF _ h)) hS1 hl T' rfl X'
  exact ⟨t2, stp t2 a1, b1⟩
theorem x_pre {p : Program} {s : State} {m : MethodId} {args : Array Value} {meth : Method} {c : Code} {A : Nat → Prop} {H : Heap} {locs : List Loc} {av : List Value} (C : XC G M p s m args meth c A) (hP : va_P G.2.1 vwCl (gpic G σ) H) (hD : va_D A (gpic G σ)) (hS : va_S A s.heap H locs) :
    PreS s H (va_Pc av (fun U => U.heap.size = H.size ∧ va_P G.2.1 vwCl (gpic G σ) U.heap ∧ va_K G.2.1 vwCl (gtys G) U ∧ va_D (fun _ => True) (gpic G σ) ∧ sMG G (va_A (gpic G σ) H.size) U U.heap)) av := by
  refine ⟨fun a U g mk q => ?_, fun U hU hW => ⟨rfl, by rw [hU], by rw [hU]; exact hP, va_K.moved hW.alike C.2.2.2.2.2.2.2.1, hD.weaken (fun _ _ _ _ => trivial), ?_⟩⟩
  · obtain ⟨q0, q1, qP, qK, qD, qS⟩ := q
    exact ⟨q0, q1, qP, va_K.moved (u := U) (U := U.calling g mk a) (Vm.Alike.refl U.vm) qK, qD, sMG.moved (u := U) (U := U.calling g mk a) (Vm.Alike.refl U.vm) qS⟩
  · have hF : ∀ q, va_A (gpic G σ) H.size q → A q := by
      intro q h
      rcases h with ⟨i, e', h⟩ | h
      · exact hD.2 i (q, e') h
      · exact C.2.2.2.2.2.2.2.2.1 q (Nat.le_trans hS.1 h)
    rw [hU]
    exact ((C.2.2.2.2.2.2.2.2.2.kept (H1 := H) (fun a h1 h2 => hS.2.1 a h1 h2)).narrow hF).moved hW.alike
theorem x_callV {Ly : List Ds} {M' : Mi} {o ci idx n d' : Nat} {ts : List Nat} (av : List Value) {rest stk : List Value} {Q' : Option Value → Sg → Prop} (hG : gLy G = Ly) (hs : MV M' n) (hlk : Cond.methodLink M.1.cls idx M'.1 ∈ wsG) (hob : Ly[o]? = some (0, ci, ts)) (hcl : (vwCl[ci]?).map (fun q => q.1) = some M'.1.cls) (hn : av.length = n) (hR : d' + 1 ≤ d ∧ M'.2.2.1 ≤ 41) (hst : stk = av.reverse ++ .ref (gad G o) :: rest) (hW : (rest.map fun v => v.category).sum ≤ 8)
    (hd : decode M.2.1 pc = .ok (.invokevirtual idx, 3)) (hct : CT G M' d' (.ref (gad G o) :: av) σ Q') (k : ∀ (v : Option Value) (σ' : Sg), Q' v σ' → X G M d (pc + 3) lv (v.toList ++ rest) σ' Q) : X G M d pc lv stk σ Q := by
  obtain ⟨⟨hk1, hk2, hk3⟩, hk4, hk5⟩ := hs
  subst hG
  subst hst
  intro p e s m args below meth c A C H locs ls hP hD hS hl
  obtain ⟨q, hq1, hq2⟩ := Option.map_eq_some_iff.mp hcl
  have hp := x_pre (av := .ref (gad G o) :: av) C hP hD hS
  refine x_back C hP hD hS hl (va_runV (As := av) (rest := rest) (nL := M.2.2.1) (own := M.1.cls) (C := M'.1.cls) (Ts := wsG) ⟨C.1, C.2.1, C.2.2.1, C.2.2.2.2.2.1, C.2.2.2.2.2.2.1⟩ (hct H.size) (cwV (ws' := wsG) n C.2.2.2.2.2.2.1 (goodG (fun w hw => ?_)) rfl rfl rfl ⟨rfl, hk1⟩ ⟨hR.1, ?_⟩) ⟨hp.1, hq2 ▸ va_recv C.2.2.2.2.2.2.2.1 hP hq1 (pic_at hob), hp.2⟩ rfl hn hl.1 rfl (lv_room hW) hd ⟨Nat.le_refl 0, Nat.le_refl 0⟩) k
  · simp only [wsV, List.mem_append, List.mem_cons, List.not_mem_nil, or_false] at hw
    rcases hw with (rfl | rfl | rfl | rfl) | rfl | hw
    · exact hlk
    · exact hk4
    · exact hk5
    · exact hk3
    · exact hk2
    · exact hw
  · show 8 + (M'.2.2.1 + 11) + 60 * d' ≤ 60 * d
    omega
theorem x_callS {M' : Mi} {idx n d' : Nat} (av : List Value) {rest stk : List Value} {Q' : Option Value → Sg → Prop} (hs : MS M' n) (hlk : Cond.methodLink M.1.cls idx M'.1 ∈ wsG) (hn : av.length = n) (hR : d' + 1 ≤ d ∧ M'.2.2.1 ≤ 41) (hst : stk = av.reverse ++ rest) (hW : (rest.map fun v => v.category).sum ≤ 8)
    (hd : decode M.2.1 pc = .ok (.invokestatic idx, 3)) (hct : CT G M' d' av σ Q') (k : ∀ (v : Option Value) (σ' : Sg), Q' v σ' → X G M d (pc + 3) lv (v.toList ++ rest) σ' Q) : X G M d pc lv stk σ Q := by
  obtain ⟨⟨hk1, hk2, hk3⟩, hk4⟩ := hs
  subst hst
  intro p e s m args below meth c A C H locs ls hP hD hS hl
  have hp := x_pre (av := av) C hP hD hS
  refine x_back C hP hD hS hl (va_runS (As := av) (rest := rest) (nL := M.2.2.1) (own := M.1.cls) (Ts := wsG) ⟨C.1, C.2.1, C.2.2.1, C.2.2.2.2.2.1, C.2.2.2.2.2.2.1⟩ (hct H.size) (va_cwS (ws' := wsG) n C.2.2.2.2.2.2.1 (goodG (fun w hw => ?_)) rfl rfl rfl hk1 ⟨hR.1, ?_⟩) hp rfl hn hl.1 rfl (lv_room hW) hd ⟨Nat.le_refl 0, Nat.le_refl 0⟩) k
  · simp only [va_wsS, List.mem_append, List.mem_cons, List.not_mem_nil, or_false] at hw
    rcases hw with (rfl | rfl | rfl) | rfl | hw
    · exact hlk
    · exact hk4
    · exact hk3
    · exact hk2
    · exact hw
  · show 8 + (M'.2.2.1 + 11) + 60 * d' ≤ 60 * d
    omega
theorem x_getIv {Ly : List Ds} {idx o f : Nat} {v : Int32} (hG : gLy G = Ly) (hs : FG Ly M.1.cls idx o f 0) (hd : decode M.2.1 pc = .ok (.getfield idx, 3)) (hv : sI σ o f = v) (k : X G M d (pc + 3) lv (.int v :: st) σ Q) : X G M d pc lv (.ref (gad G o) :: st) σ Q := by
  subst hv
  exact x_get hG hs hd k
theorem x_getLv {Ly : List Ds} {idx o f : Nat} {v : Int64} (hG : gLy G = Ly) (hs : FG Ly M.1.cls idx o f 1) (hd : decode M.2.1 pc = .ok (.getfield idx, 3)) (hv : sL σ o f = v) (k : X G M d (pc + 3) lv (.long v :: st) σ Q) : X G M d pc lv (.ref (gad G o) :: st) σ Q := by
  subst hv
  exact x_get hG hs hd k
theorem x_ialdv {Ly : List Ds} {o n : Nat} {x : List Nat} {i v : Int32} (hG : gLy G = Ly) (ho : Ly[o]? = some (1, n, x)) (hd : decode M.2.1 pc = .ok (.iaload, 1)) (hin : vp_in i n) (hv : sI σ o i.toNatClampNeg = v) (k : X G M d (pc + 1) lv (.int v :: st) σ Q) : X G M d pc lv (.int i :: .ref (gad G o) :: st) σ Q := by
  subst hv
  exact x_iald hG ho hd hin k
theorem x_laldv {Ly : List Ds} {o n : Nat} {x : List Nat} {i : Int32} {v : Int64} (hG : gLy G = Ly) (ho : Ly[o]? = some (2, n, x)) (hd : decode M.2.1 pc = .ok (.laload, 1)) (hin : vp_in i n) (hv : sL σ o i.toNatClampNeg = v) (k : X G M d (pc + 1) lv (.long v :: st) σ Q) : X G M d pc lv (.int i :: .ref (gad G o) :: st) σ Q := by
  subst hv
  exact x_lald hG ho hd hin k
theorem x_case {x : Int32} (v : Int32) (k1 : x = v → X G M d pc lv (.int x :: st) σ Q) (k2 : ¬ x = v → X G M d pc lv (.int x :: st) σ Q) : X G M d pc lv (.int x :: st) σ Q := by
  by_cases h : x = v
  · exact k1 h
  · exact k2 h
theorem x_mmin {idx : Nat} {x y : Int32} (h1 : Cond.methodLink M.1.cls idx Lib.Math.min.name ∈ wsG) (h2 : Cond.static Lib.Math.min.name ∈ wsG) (h3 : Cond.initialized "java/lang/Math" ∈ wsG) (h4 : Cond.code Lib.Math.min.name Lib.Math.min.code 2 (some .int) ∈ wsG) (hR : 1 ≤ d) (hW : (st.map fun v => v.category).sum ≤ 8) (hd : decode M.2.1 pc = .ok (.invokestatic idx, 3)) (k : X G M d (pc + 3) lv (.int (if y < x then y else x) :: st) σ Q) : X G M d pc lv (.int y :: .int x :: st) σ Q := by
  intro p e s m args below meth c A C H locs ls hP hD hS hl
  exact va_mmin C.1 C.2.1 (C.2.2.1.trans hl.1.symm) C.2.2.2.2.2.1 (C.2.2.2.2.2.2.1 _ h1) (C.2.2.2.2.2.2.1 _ h2) (C.2.2.2.2.2.2.1 _ h3) (C.2.2.2.2.2.2.1 _ h4) hR (by show _ + 13 ≤ 60 * d; omega) (Nat.le_refl 0) (Nat.le_refl 0) hd (k p e s m args below meth c A C H locs ls hP hD hS hl)
end XR
/-! answers: an int, a long, none -/
def qi (Q : Int32 → Sg → Prop) : Option Value → Sg → Prop := fun v σ => ∃ r : Int32, v = some (.int r) ∧ Q r σ
def ql (Q : Int64 → Sg → Prop) : Option Value → Sg → Prop := fun v σ => ∃ r : Int64, v = some (.long r) ∧ Q r σ
def qv (Q : Sg → Prop) : Option Value → Sg → Prop := fun v σ => v = none ∧ Q σ
theorem rd_hit {σ : Sg} {o j : Nat} {v : Int32} : sI (wI σ o j v) o j = v := by simp [sI, wI]
theorem rd_no {σ : Sg} {o j a b : Nat} {v w : Int32} (h : o ≠ a) (hv : sI σ o j = v) : sI (wI σ a b w) o j = v := by subst hv; simp [sI, wI, h]
theorem rd_nj {σ : Sg} {o j a b : Nat} {v w : Int32} (h : j ≠ b) (hv : sI σ o j = v) : sI (wI σ a b w) o j = v := by subst hv; simp [sI, wI, h]
theorem rd_L {σ : Sg} {o j a b : Nat} {v : Int32} {w : Int64} (hv : sI σ o j = v) : sI (wL σ a b w) o j = v := hv
theorem rl_hit {σ : Sg} {o j : Nat} {v : Int64} : sL (wL σ o j v) o j = v := by simp [sL, wL]
theorem rl_no {σ : Sg} {o j a b : Nat} {v w : Int64} (h : o ≠ a) (hv : sL σ o j = v) : sL (wL σ a b w) o j = v := by subst hv; simp [sL, wL, h]
theorem rl_nj {σ : Sg} {o j a b : Nat} {v w : Int64} (h : j ≠ b) (hv : sL σ o j = v) : sL (wL σ a b w) o j = v := by subst hv; simp [sL, wL, h]
theorem rl_I {σ : Sg} {o j a b : Nat} {v : Int64} {w : Int32} (hv : sL σ o j = v) : sL (wI σ a b w) o j = v := hv
section XQ
variable {G : Gx} {M : Mi} {d pc : Nat} {lv : List (Nat × Value)} {σ : Sg} {Q : Option Value → Sg → Prop}
theorem x_callVi {Ly : List Ds} {M' : Mi} {o ci idx n d' : Nat} {ts : List Nat} (av : List Value) {rest stk : List Value} {Q' : Int32 → Sg → Prop} (hG : gLy G = Ly) (hs : MV M' n) (hlk : Cond.methodLink M.1.cls idx M'.1 ∈ wsG) (hob : Ly[o]? = some (0, ci, ts)) (hcl : (vwCl[ci]?).map (fun q => q.1) = some M'.1.cls) (hn : av.length = n) (hR : d' + 1 ≤ d ∧ M'.2.2.1 ≤ 41) (hst : stk = av.reverse ++ .ref (gad G o) :: rest) (hW : (rest.map fun v => v.category).sum ≤ 8)
    (hd : decode M.2.1 pc = .ok (.invokevirtual idx, 3)) (hct : CT G M' d' (.ref (gad G o) :: av) σ (qi Q')) (k : ∀ (r : Int32) (σ' : Sg), Q' r σ' → X G M d (pc + 3) lv (.int r :: rest) σ' Q) : X G M d pc lv stk σ Q :=
  x_callV av hG hs hlk hob hcl hn hR hst hW hd hct (fun v σ' hv => by obtain ⟨r, rfl, hq⟩ := hv; exact k r σ' hq)
theorem x_callSi {M' : Mi} {idx n d' : Nat} (av : List Value) {rest stk : List Value} {Q' : Int32 → Sg → Prop} (hs : MS M' n) (hlk : Cond.methodLink M.1.cls idx M'.1 ∈ wsG) (hn : av.length = n) (hR : d' + 1 ≤ d ∧ M'.2.2.1 ≤ 41) (hst : stk = av.reverse ++ rest) (hW : (rest.map fun v => v.category).sum ≤ 8)
    (hd : decode M.2.1 pc = .ok (.invokestatic idx, 3)) (hct : CT G M' d' av σ (qi Q')) (k : ∀ (r : Int32) (σ' : Sg), Q' r σ' → X G M d (pc + 3) lv (.int r :: rest) σ' Q) : X G M d pc lv stk σ Q :=
  x_callS av hs hlk hn hR hst hW hd hct (fun v σ' hv => by obtain ⟨r, rfl, hq⟩ := hv; exact k r σ' hq)
theorem x_callVl {Ly : List Ds} {M' : Mi} {o ci idx n d' : Nat} {ts : List Nat} (av : List Value) {rest stk : List Value} {Q' : Int64 → Sg → Prop} (hG : gLy G = Ly) (hs : MV M' n) (hlk : Cond.methodLink M.1.cls idx M'.1 ∈ wsG) (hob : Ly[o]? = some (0, ci, ts)) (hcl : (vwCl[ci]?).map (fun q => q.1) = some M'.1.cls) (hn : av.length = n) (hR : d' + 1 ≤ d ∧ M'.2.2.1 ≤ 41) (hst : stk = av.reverse ++ .ref (gad G o) :: rest) (hW : (rest.map fun v => v.category).sum ≤ 8)
    (hd : decode M.2.1 pc = .ok (.invokevirtual idx, 3)) (hct : CT G M' d' (.ref (gad G o) :: av) σ (ql Q')) (k : ∀ (r : Int64) (σ' : Sg), Q' r σ' → X G M d (pc + 3) lv (.long r :: rest) σ' Q) : X G M d pc lv stk σ Q :=
  x_callV av hG hs hlk hob hcl hn hR hst hW hd hct (fun v σ' hv => by obtain ⟨r, rfl, hq⟩ := hv; exact k r σ' hq)
theorem x_callSl {M' : Mi} {idx n d' : Nat} (av : List Value) {rest stk : List Value} {Q' : Int64 → Sg → Prop} (hs : MS M' n) (hlk : Cond.methodLink M.1.cls idx M'.1 ∈ wsG) (hn : av.length = n) (hR : d' + 1 ≤ d ∧ M'.2.2.1 ≤ 41) (hst : stk = av.reverse ++ rest) (hW : (rest.map fun v => v.category).sum ≤ 8)
    (hd : decode M.2.1 pc = .ok (.invokestatic idx, 3)) (hct : CT G M' d' av σ (ql Q')) (k : ∀ (r : Int64) (σ' : Sg), Q' r σ' → X G M d (pc + 3) lv (.long r :: rest) σ' Q) : X G M d pc lv stk σ Q :=
  x_callS av hs hlk hn hR hst hW hd hct (fun v σ' hv => by obtain ⟨r, rfl, hq⟩ := hv; exact k r σ' hq)
theorem x_callVv {Ly : List Ds} {M' : Mi} {o ci idx n d' : Nat} {ts : List Nat} (av : List Value) {rest stk : List Value} {Q' : Sg → Prop} (hG : gLy G = Ly) (hs : MV M' n) (hlk : Cond.methodLink M.1.cls idx M'.1 ∈ wsG) (hob : Ly[o]? = some (0, ci, ts)) (hcl : (vwCl[ci]?).map (fun q => q.1) = some M'.1.cls) (hn : av.length = n) (hR : d' + 1 ≤ d ∧ M'.2.2.1 ≤ 41) (hst : stk = av.reverse ++ .ref (gad G o) :: rest) (hW : (rest.map fun v => v.category).sum ≤ 8)
    (hd : decode M.2.1 pc = .ok (.invokevirtual idx, 3)) (hct : CT G M' d' (.ref (gad G o) :: av) σ (qv Q')) (k : ∀ (σ' : Sg), Q' σ' → X G M d (pc + 3) lv (rest) σ' Q) : X G M d pc lv stk σ Q :=
  x_callV av hG hs hlk hob hcl hn hR hst hW hd hct (fun v σ' hv => by obtain ⟨rfl, hq⟩ := hv; exact k σ' hq)
theorem x_callSv {M' : Mi} {idx n d' : Nat} (av : List Value) {rest stk : List Value} {Q' : Sg → Prop} (hs : MS M' n) (hlk : Cond.methodLink M.1.cls idx M'.1 ∈ wsG) (hn : av.length = n) (hR : d' + 1 ≤ d ∧ M'.2.2.1 ≤ 41) (hst : stk = av.reverse ++ rest) (hW : (rest.map fun v => v.category).sum ≤ 8)
    (hd : decode M.2.1 pc = .ok (.invokestatic idx, 3)) (hct : CT G M' d' av σ (qv Q')) (k : ∀ (σ' : Sg), Q' σ' → X G M d (pc + 3) lv (rest) σ' Q) : X G M d pc lv stk σ Q :=
  x_callS av hs hlk hn hR hst hW hd hct (fun v σ' hv => by obtain ⟨rfl, hq⟩ := hv; exact k σ' hq)
end XQ
def bz (v : Int32) : Prop := narrow .boolean (.int v) = .int v
theorem bz_0 : bz 0 := rfl
theorem bz_1 : bz 1 := rfl
end
section
def LyC : List Ds := [(0, 9, [3, 7, 0]), (0, 2, [4, 5, 6, 0]), (1, 240, []), (1, 180, []), (1, 60, []), (0, 6, [3, 8, 12, 13, 0, 14, 16, 23, 0]), (0, 7, [9, 10, 11, 0, 0]), (2, 3408, []), (1, 3200, []), (2, 3200, []), (0, 3, [0, 0, 0, 0, 0, 0, 1]), (1, 40, []), (0, 4, [15, 0]), (2, 1608, []), (0, 5, [17, 18, 19, 20, 21, 22, 0]), (1, 200, []), (1, 200, []), (1, 200, []), (1, 200, []), (1, 200, []), (2, 200, []), (0, 8, [24, 25, 26, 27, 28, 29, 30, 31, 0, 0]), (1, 200, []), (1, 200, []), (1, 200, []), (2, 600, []), (1, 200, []), (1, 200, []), (1, 200, []), (1, 200, [])]
def LyM : List Ds := [(0, 10, [0, 3, 4, 5, 6, 0, 0, 7, 8, 9, 10, 11, 12, 13, 14, 0, 15, 16, 17, 18, 0, 19, 20, 21, 0, 22, 0, 23, 24, 25, 26, 27, 28, 29, 30, 31, 0, 0, 0, 0, 0, 0, 0, 0, 0, 0, 0, 0, 0, 0, 0, 0, 0, 0, 0, 0]), (1, 60, []), (1, 60, []), (1, 60, []), (1, 60, []), (1, 220, []), (1, 3520, []), (1, 3520, []), (1, 220, []), (1, 220, []), (1, 220, []), (1, 220, []), (1, 220, []), (1, 1760, []), (1, 1760, []), (1, 8, []), (1, 8, []), (1, 3600, []), (1, 3600, []), (1, 3600, []), (1, 40, []), (1, 220, []), (1, 220, []), (1, 220, []), (1, 220, []), (1, 220, []), (1, 220, []), (1, 220, []), (1, 220, []), (1, 220, [])]
theorem inT1 {w : Cond} (h : w ∈ tables_1_1) (g : goodWord w = true) : w ∈ wsG := wsG_of (List.mem_append_right (k2_sels lw_privs) (show w ∈ tables_1 from List.mem_append_left _ h)) g
theorem inT2 {w : Cond} (h : w ∈ tables_1_2) (g : goodWord w = true) : w ∈ wsG := wsG_of (List.mem_append_right (k2_sels lw_privs) (show w ∈ tables_1 from List.mem_append_right _ (List.mem_append_left _ h))) g
theorem inT3 {w : Cond} (h : w ∈ tables_1_3) (g : goodWord w = true) : w ∈ wsG := wsG_of (List.mem_append_right (k2_sels lw_privs) (show w ∈ tables_1 from List.mem_append_right _ (List.mem_append_right _ (List.mem_append_left _ h)))) g
theorem inT4 {w : Cond} (h : w ∈ tables_1_4) (g : goodWord w = true) : w ∈ wsG := wsG_of (List.mem_append_right (k2_sels lw_privs) (show w ∈ tables_1 from List.mem_append_right _ (List.mem_append_right _ (List.mem_append_right _ (List.mem_append_left _ h))))) g
theorem inT5 {w : Cond} (h : w ∈ tables_1_5) (g : goodWord w = true) : w ∈ wsG := wsG_of (List.mem_append_right (k2_sels lw_privs) (show w ∈ tables_1 from List.mem_append_right _ (List.mem_append_right _ (List.mem_append_right _ (List.mem_append_right _ (h)))))) g
theorem inP1 {q : MethodName × Nat} (h : q ∈ lw_privs_1) : Cond.selects q.1.cls q.1 q.1 ∈ wsG := wsG_of (List.mem_append_left tables_1 (List.mem_map_of_mem (show q ∈ lw_privs from List.mem_append_left _ h))) rfl
theorem inP2 {q : MethodName × Nat} (h : q ∈ lw_privs_2) : Cond.selects q.1.cls q.1 q.1 ∈ wsG := wsG_of (List.mem_append_left tables_1 (List.mem_map_of_mem (show q ∈ lw_privs from List.mem_append_right _ (List.mem_append_left _ h)))) rfl
theorem inP3 {q : MethodName × Nat} (h : q ∈ lw_privs_3) : Cond.selects q.1.cls q.1 q.1 ∈ wsG := wsG_of (List.mem_append_left tables_1 (List.mem_map_of_mem (show q ∈ lw_privs from List.mem_append_right _ (List.mem_append_right _ (List.mem_append_left _ h))))) rfl
theorem inP4 {q : MethodName × Nat} (h : q ∈ lw_privs_4) : Cond.selects q.1.cls q.1 q.1 ∈ wsG := wsG_of (List.mem_append_left tables_1 (List.mem_map_of_mem (show q ∈ lw_privs from List.mem_append_right _ (List.mem_append_right _ (List.mem_append_right _ (h)))))) rfl
set_option maxRecDepth 100000 in
theorem inF_X0 : ∀ w ∈ u_ws RX0 TX0 4, w ∈ wsG := List.forall_mem_cons.mpr ⟨inT1 (List.mem_of_getElem? (i := 38) rfl) rfl, List.forall_mem_cons.mpr ⟨inT1 (List.mem_of_getElem? (i := 40) rfl) rfl, List.forall_mem_cons.mpr ⟨inT1 (List.mem_of_getElem? (i := 42) rfl) rfl, List.forall_mem_cons.mpr ⟨inT1 (List.mem_of_getElem? (i := 44) rfl) rfl, fun _ h => absurd h List.not_mem_nil⟩⟩⟩⟩
theorem KC_X0 : KC 2 RX0 TX0 4 tyX0 := ⟨rfl, inF_X0, tyX0_ok, nmX0⟩
set_option maxRecDepth 100000 in
theorem inF_X1 : ∀ w ∈ u_ws RX1 TX1 7, w ∈ wsG := List.forall_mem_cons.mpr ⟨inT1 (List.mem_of_getElem? (i := 120) rfl) rfl, List.forall_mem_cons.mpr ⟨inT1 (List.mem_of_getElem? (i := 122) rfl) rfl, List.forall_mem_cons.mpr ⟨inT1 (List.mem_of_getElem? (i := 124) rfl) rfl, List.forall_mem_cons.mpr ⟨inT1 (List.mem_of_getElem? (i := 126) rfl) rfl, List.forall_mem_cons.mpr ⟨inT1 (List.mem_of_getElem? (i := 128) rfl) rfl, List.forall_mem_cons.mpr ⟨inT1 (List.mem_of_getElem? (i := 130) rfl) rfl, List.forall_mem_cons.mpr ⟨inT1 (List.mem_of_getElem? (i := 132) rfl) rfl, fun _ h => absurd h List.not_mem_nil⟩⟩⟩⟩⟩⟩⟩
theorem KC_X1 : KC 3 RX1 TX1 7 tyX1 := ⟨rfl, inF_X1, tyX1_ok, nmX1⟩
set_option maxRecDepth 100000 in
theorem inF_X3 : ∀ w ∈ u_ws RX3 TX3 2, w ∈ wsG := List.forall_mem_cons.mpr ⟨inT1 (List.mem_of_getElem? (i := 143) rfl) rfl, List.forall_mem_cons.mpr ⟨inT1 (List.mem_of_getElem? (i := 145) rfl) rfl, fun _ h => absurd h List.not_mem_nil⟩⟩
theorem KC_X3 : KC 4 RX3 TX3 2 tyX3 := ⟨rfl, inF_X3, tyX3_ok, nmX3⟩
set_option maxRecDepth 100000 in
theorem inF_X5 : ∀ w ∈ u_ws RX5 TX5 7, w ∈ wsG := List.forall_mem_cons.mpr ⟨inT1 (List.mem_of_getElem? (i := 161) rfl) rfl, List.forall_mem_cons.mpr ⟨inT1 (List.mem_of_getElem? (i := 163) rfl) rfl, List.forall_mem_cons.mpr ⟨inT1 (List.mem_of_getElem? (i := 165) rfl) rfl, List.forall_mem_cons.mpr ⟨inT1 (List.mem_of_getElem? (i := 167) rfl) rfl, List.forall_mem_cons.mpr ⟨inT1 (List.mem_of_getElem? (i := 169) rfl) rfl, List.forall_mem_cons.mpr ⟨inT1 (List.mem_of_getElem? (i := 171) rfl) rfl, List.forall_mem_cons.mpr ⟨inT1 (List.mem_of_getElem? (i := 173) rfl) rfl, fun _ h => absurd h List.not_mem_nil⟩⟩⟩⟩⟩⟩⟩
theorem KC_X5 : KC 5 RX5 TX5 7 tyX5 := ⟨rfl, inF_X5, tyX5_ok, nmX5⟩
set_option maxRecDepth 100000 in
theorem inF_X6 : ∀ w ∈ u_ws RX6 TX6 9, w ∈ wsG := List.forall_mem_cons.mpr ⟨inT1 (List.mem_of_getElem? (i := 226) rfl) rfl, List.forall_mem_cons.mpr ⟨inT1 (List.mem_of_getElem? (i := 228) rfl) rfl, List.forall_mem_cons.mpr ⟨inT1 (List.mem_of_getElem? (i := 230) rfl) rfl, List.forall_mem_cons.mpr ⟨inT1 (List.mem_of_getElem? (i := 232) rfl) rfl, List.forall_mem_cons.mpr ⟨inT1 (List.mem_of_getElem? (i := 234) rfl) rfl, List.forall_mem_cons.mpr ⟨inT1 (List.mem_of_getElem? (i := 236) rfl) rfl, List.forall_mem_cons.mpr ⟨inT1 (List.mem_of_getElem? (i := 238) rfl) rfl, List.forall_mem_cons.mpr ⟨inT2 (List.mem_of_getElem? (i := 0) rfl) rfl, List.forall_mem_cons.mpr ⟨inT2 (List.mem_of_getElem? (i := 2) rfl) rfl, fun _ h => absurd h List.not_mem_nil⟩⟩⟩⟩⟩⟩⟩⟩⟩
theorem KC_X6 : KC 6 RX6 TX6 9 tyX6 := ⟨rfl, inF_X6, tyX6_ok, nmX6⟩
set_option maxRecDepth 100000 in
theorem inF_X7 : ∀ w ∈ u_ws RX7 TX7 5, w ∈ wsG := List.forall_mem_cons.mpr ⟨inT1 (List.mem_of_getElem? (i := 70) rfl) rfl, List.forall_mem_cons.mpr ⟨inT1 (List.mem_of_getElem? (i := 72) rfl) rfl, List.forall_mem_cons.mpr ⟨inT1 (List.mem_of_getElem? (i := 74) rfl) rfl, List.forall_mem_cons.mpr ⟨inT1 (List.mem_of_getElem? (i := 76) rfl) rfl, List.forall_mem_cons.mpr ⟨inT1 (List.mem_of_getElem? (i := 78) rfl) rfl, fun _ h => absurd h List.not_mem_nil⟩⟩⟩⟩⟩
theorem KC_X7 : KC 7 RX7 TX7 5 tyX7 := ⟨rfl, inF_X7, tyX7_ok, nmX7⟩
set_option maxRecDepth 100000 in
theorem inF_X8 : ∀ w ∈ u_ws RX8 TX8 10, w ∈ wsG := List.forall_mem_cons.mpr ⟨inT1 (List.mem_of_getElem? (i := 192) rfl) rfl, List.forall_mem_cons.mpr ⟨inT1 (List.mem_of_getElem? (i := 194) rfl) rfl, List.forall_mem_cons.mpr ⟨inT1 (List.mem_of_getElem? (i := 196) rfl) rfl, List.forall_mem_cons.mpr ⟨inT1 (List.mem_of_getElem? (i := 198) rfl) rfl, List.forall_mem_cons.mpr ⟨inT1 (List.mem_of_getElem? (i := 200) rfl) rfl, List.forall_mem_cons.mpr ⟨inT1 (List.mem_of_getElem? (i := 202) rfl) rfl, List.forall_mem_cons.mpr ⟨inT1 (List.mem_of_getElem? (i := 204) rfl) rfl, List.forall_mem_cons.mpr ⟨inT1 (List.mem_of_getElem? (i := 206) rfl) rfl, List.forall_mem_cons.mpr ⟨inT1 (List.mem_of_getElem? (i := 208) rfl) rfl, List.forall_mem_cons.mpr ⟨inT1 (List.mem_of_getElem? (i := 210) rfl) rfl, fun _ h => absurd h List.not_mem_nil⟩⟩⟩⟩⟩⟩⟩⟩⟩⟩
theorem KC_X8 : KC 8 RX8 TX8 10 tyX8 := ⟨rfl, inF_X8, tyX8_ok, nmX8⟩
set_option maxRecDepth 100000 in
theorem inF_X10 : ∀ w ∈ u_ws RX10 TX10 3, w ∈ wsG := List.forall_mem_cons.mpr ⟨inT2 (List.mem_of_getElem? (i := 8) rfl) rfl, List.forall_mem_cons.mpr ⟨inT2 (List.mem_of_getElem? (i := 10) rfl) rfl, List.forall_mem_cons.mpr ⟨inT2 (List.mem_of_getElem? (i := 12) rfl) rfl, fun _ h => absurd h List.not_mem_nil⟩⟩⟩
theorem KC_X10 : KC 9 RX10 TX10 3 tyX10 := ⟨rfl, inF_X10, tyX10_ok, nmX10⟩
set_option maxRecDepth 100000 in
theorem inF_X11 : ∀ w ∈ u_ws RX11 TX11 56, w ∈ wsG := List.forall_mem_cons.mpr ⟨inT4 (List.mem_of_getElem? (i := 157) rfl) rfl, List.forall_mem_cons.mpr ⟨inT4 (List.mem_of_getElem? (i := 159) rfl) rfl, List.forall_mem_cons.mpr ⟨inT4 (List.mem_of_getElem? (i := 161) rfl) rfl, List.forall_mem_cons.mpr ⟨inT4 (List.mem_of_getElem? (i := 163) rfl) rfl, List.forall_mem_cons.mpr ⟨inT4 (List.mem_of_getElem? (i := 165) rfl) rfl, List.forall_mem_cons.mpr ⟨inT4 (List.mem_of_getElem? (i := 167) rfl) rfl, List.forall_mem_cons.mpr ⟨inT4 (List.mem_of_getElem? (i := 169) rfl) rfl, List.forall_mem_cons.mpr ⟨inT4 (List.mem_of_getElem? (i := 171) rfl) rfl, List.forall_mem_cons.mpr ⟨inT4 (List.mem_of_getElem? (i := 173) rfl) rfl, List.forall_mem_cons.mpr ⟨inT4 (List.mem_of_getElem? (i := 175) rfl) rfl, List.forall_mem_cons.mpr ⟨inT4 (List.mem_of_getElem? (i := 177) rfl) rfl, List.forall_mem_cons.mpr ⟨inT4 (List.mem_of_getElem? (i := 179) rfl) rfl, List.forall_mem_cons.mpr ⟨inT4 (List.mem_of_getElem? (i := 181) rfl) rfl, List.forall_mem_cons.mpr ⟨inT4 (List.mem_of_getElem? (i := 183) rfl) rfl, List.forall_mem_cons.mpr ⟨inT4 (List.mem_of_getElem? (i := 185) rfl) rfl, List.forall_mem_cons.mpr ⟨inT4 (List.mem_of_getElem? (i := 187) rfl) rfl, List.forall_mem_cons.mpr ⟨inT4 (List.mem_of_getElem? (i := 189) rfl) rfl, List.forall_mem_cons.mpr ⟨inT4 (List.mem_of_getElem? (i := 191) rfl) rfl, List.forall_mem_cons.mpr ⟨inT4 (List.mem_of_getElem? (i := 193) rfl) rfl, List.forall_mem_cons.mpr ⟨inT4 (List.mem_of_getElem? (i := 195) rfl) rfl, List.forall_mem_cons.mpr ⟨inT4 (List.mem_of_getElem? (i := 197) rfl) rfl, List.forall_mem_cons.mpr ⟨inT4 (List.mem_of_getElem? (i := 199) rfl) rfl, List.forall_mem_cons.mpr ⟨inT4 (List.mem_of_getElem? (i := 201) rfl) rfl, List.forall_mem_cons.mpr ⟨inT4 (List.mem_of_getElem? (i := 203) rfl) rfl, List.forall_mem_cons.mpr ⟨inT4 (List.mem_of_getElem? (i := 205) rfl) rfl, List.forall_mem_cons.mpr ⟨inT4 (List.mem_of_getElem? (i := 207) rfl) rfl, List.forall_mem_cons.mpr ⟨inT4 (List.mem_of_getElem? (i := 209) rfl) rfl, List.forall_mem_cons.mpr ⟨inT4 (List.mem_of_getElem? (i := 211) rfl) rfl, List.forall_mem_cons.mpr ⟨inT4 (List.mem_of_getElem? (i := 213) rfl) rfl, List.forall_mem_cons.mpr ⟨inT4 (List.mem_of_getElem? (i := 215) rfl) rfl, List.forall_mem_cons.mpr ⟨inT4 (List.mem_of_getElem? (i := 217) rfl) rfl, List.forall_mem_cons.mpr ⟨inT4 (List.mem_of_getElem? (i := 219) rfl) rfl, List.forall_mem_cons.mpr ⟨inT4 (List.mem_of_getElem? (i := 221) rfl) rfl, List.forall_mem_cons.mpr ⟨inT4 (List.mem_of_getElem? (i := 223) rfl) rfl, List.forall_mem_cons.mpr ⟨inT4 (List.mem_of_getElem? (i := 225) rfl) rfl, List.forall_mem_cons.mpr ⟨inT4 (List.mem_of_getElem? (i := 227) rfl) rfl, List.forall_mem_cons.mpr ⟨inT4 (List.mem_of_getElem? (i := 229) rfl) rfl, List.forall_mem_cons.mpr ⟨inT4 (List.mem_of_getElem? (i := 231) rfl) rfl, List.forall_mem_cons.mpr ⟨inT4 (List.mem_of_getElem? (i := 233) rfl) rfl, List.forall_mem_cons.mpr ⟨inT4 (List.mem_of_getElem? (i := 235) rfl) rfl, List.forall_mem_cons.mpr ⟨inT4 (List.mem_of_getElem? (i := 237) rfl) rfl, List.forall_mem_cons.mpr ⟨inT4 (List.mem_of_getElem? (i := 239) rfl) rfl, List.forall_mem_cons.mpr ⟨inT5 (List.mem_of_getElem? (i := 1) rfl) rfl, List.forall_mem_cons.mpr ⟨inT5 (List.mem_of_getElem? (i := 3) rfl) rfl, List.forall_mem_cons.mpr ⟨inT5 (List.mem_of_getElem? (i := 5) rfl) rfl, List.forall_mem_cons.mpr ⟨inT5 (List.mem_of_getElem? (i := 7) rfl) rfl, List.forall_mem_cons.mpr ⟨inT5 (List.mem_of_getElem? (i := 9) rfl) rfl, List.forall_mem_cons.mpr ⟨inT5 (List.mem_of_getElem? (i := 11) rfl) rfl, List.forall_mem_cons.mpr ⟨inT5 (List.mem_of_getElem? (i := 13) rfl) rfl, List.forall_mem_cons.mpr ⟨inT5 (List.mem_of_getElem? (i := 15) rfl) rfl, List.forall_mem_cons.mpr ⟨inT5 (List.mem_of_getElem? (i := 17) rfl) rfl, List.forall_mem_cons.mpr ⟨inT5 (List.mem_of_getElem? (i := 19) rfl) rfl, List.forall_mem_cons.mpr ⟨inT5 (List.mem_of_getElem? (i := 21) rfl) rfl, List.forall_mem_cons.mpr ⟨inT5 (List.mem_of_getElem? (i := 23) rfl) rfl, List.forall_mem_cons.mpr ⟨inT5 (List.mem_of_getElem? (i := 25) rfl) rfl, List.forall_mem_cons.mpr ⟨inT5 (List.mem_of_getElem? (i := 27) rfl) rfl, fun _ h => absurd h List.not_mem_nil⟩⟩⟩⟩⟩⟩⟩⟩⟩⟩⟩⟩⟩⟩⟩⟩⟩⟩⟩⟩⟩⟩⟩⟩⟩⟩⟩⟩⟩⟩⟩⟩⟩⟩⟩⟩⟩⟩⟩⟩⟩⟩⟩⟩⟩⟩⟩⟩⟩⟩⟩⟩⟩⟩⟩⟩
theorem KC_X11 : KC 10 RX11 TX11 56 tyX11 := ⟨rfl, inF_X11, tyX11_ok, nmX11⟩
theorem fl_X10_10 : Cond.fieldLink RX10 10 "SideWork" "acts" "LSideWork$Acts;" ∈ wsG := inT2 (List.mem_of_getElem? (i := 5) rfl) rfl
theorem fg_X10_10 : FG LyC RX10 10 0 0 3 := ⟨9, RX10, TX10, 3, tyX10, _, KC_X10, rfl, rfl, by decide, fl_X10_10⟩
theorem fl_X10_21 : Cond.fieldLink RX10 21 "SideWork" "machine" "LSideWork$Machine;" ∈ wsG := inT2 (List.mem_of_getElem? (i := 6) rfl) rfl
theorem fg_X10_21 : FG LyC RX10 21 0 1 7 := ⟨9, RX10, TX10, 3, tyX10, _, KC_X10, rfl, rfl, by decide, fl_X10_21⟩
theorem fl_X10_25 : Cond.fieldLink RX10 25 "SideWork" "runs" "I" ∈ wsG := inT2 (List.mem_of_getElem? (i := 7) rfl) rfl
theorem fg_X10_25 : FG LyC RX10 25 0 2 0 := ⟨9, RX10, TX10, 3, tyX10, _, KC_X10, rfl, rfl, by decide, fl_X10_25⟩
theorem fp_X10_25 : FP LyC RX10 25 0 2 0 := ⟨9, RX10, TX10, 3, tyX10, _, KC_X10, rfl, rfl, by decide, fl_X10_25, rfl, rfl⟩
theorem fl_X10_48 : Cond.fieldLink RX10 48 "SideWork$Machine" "course" "LSideWork$Course;" ∈ wsG := inT1 (List.mem_of_getElem? (i := 217) rfl) rfl
theorem fg_X10_48 : FG LyC RX10 48 5 2 12 := ⟨6, RX6, TX6, 9, tyX6, _, KC_X6, rfl, rfl, by decide, fl_X10_48⟩
theorem fl_X10_52 : Cond.fieldLink RX10 52 "SideWork$Course" "ending" "I" ∈ wsG := inT1 (List.mem_of_getElem? (i := 108) rfl) rfl
theorem fg_X10_52 : FG LyC RX10 52 10 3 0 := ⟨3, RX1, TX1, 7, tyX1, _, KC_X1, rfl, rfl, by decide, fl_X10_52⟩
theorem fp_X10_52 : FP LyC RX10 52 10 3 0 := ⟨3, RX1, TX1, 7, tyX1, _, KC_X1, rfl, rfl, by decide, fl_X10_52, rfl, rfl⟩
theorem fl_X10_57 : Cond.fieldLink RX10 57 "SideWork$Course" "value" "J" ∈ wsG := inT1 (List.mem_of_getElem? (i := 118) rfl) rfl
theorem fg_X10_57 : FG LyC RX10 57 10 6 1 := ⟨3, RX1, TX1, 7, tyX1, _, KC_X1, rfl, rfl, by decide, fl_X10_57⟩
theorem fp_X10_57 : FP LyC RX10 57 10 6 1 := ⟨3, RX1, TX1, 7, tyX1, _, KC_X1, rfl, rfl, by decide, fl_X10_57, rfl, rfl⟩
theorem fl_X10_67 : Cond.fieldLink RX10 67 "SideWork$Course" "code" "I" ∈ wsG := inT1 (List.mem_of_getElem? (i := 111) rfl) rfl
theorem fg_X10_67 : FG LyC RX10 67 10 4 0 := ⟨3, RX1, TX1, 7, tyX1, _, KC_X1, rfl, rfl, by decide, fl_X10_67⟩
theorem fp_X10_67 : FP LyC RX10 67 10 4 0 := ⟨3, RX1, TX1, 7, tyX1, _, KC_X1, rfl, rfl, by decide, fl_X10_67, rfl, rfl⟩
theorem fl_X10_70 : Cond.fieldLink RX10 70 "SideWork$Course" "at" "I" ∈ wsG := inT1 (List.mem_of_getElem? (i := 115) rfl) rfl
theorem fg_X10_70 : FG LyC RX10 70 10 5 0 := ⟨3, RX1, TX1, 7, tyX1, _, KC_X1, rfl, rfl, by decide, fl_X10_70⟩
theorem fp_X10_70 : FP LyC RX10 70 10 5 0 := ⟨3, RX1, TX1, 7, tyX1, _, KC_X1, rfl, rfl, by decide, fl_X10_70, rfl, rfl⟩
theorem fl_X10_73 : Cond.fieldLink RX10 73 "SideWork$Course" "steps" "I" ∈ wsG := inT1 (List.mem_of_getElem? (i := 103) rfl) rfl
theorem fg_X10_73 : FG LyC RX10 73 10 1 0 := ⟨3, RX1, TX1, 7, tyX1, _, KC_X1, rfl, rfl, by decide, fl_X10_73⟩
theorem fp_X10_73 : FP LyC RX10 73 10 1 0 := ⟨3, RX1, TX1, 7, tyX1, _, KC_X1, rfl, rfl, by decide, fl_X10_73, rfl, rfl⟩
theorem fl_X10_76 : Cond.fieldLink RX10 76 "SideWork$Course" "failures" "I" ∈ wsG := inT1 (List.mem_of_getElem? (i := 105) rfl) rfl
theorem fg_X10_76 : FG LyC RX10 76 10 2 0 := ⟨3, RX1, TX1, 7, tyX1, _, KC_X1, rfl, rfl, by decide, fl_X10_76⟩
theorem fp_X10_76 : FP LyC RX10 76 10 2 0 := ⟨3, RX1, TX1, 7, tyX1, _, KC_X1, rfl, rfl, by decide, fl_X10_76, rfl, rfl⟩
theorem fl_X10_79 : Cond.fieldLink RX10 79 "SideWork$Machine" "memory" "LSideWork$Memory;" ∈ wsG := inT1 (List.mem_of_getElem? (i := 215) rfl) rfl
theorem fg_X10_79 : FG LyC RX10 79 5 1 8 := ⟨6, RX6, TX6, 9, tyX6, _, KC_X6, rfl, rfl, by decide, fl_X10_79⟩
theorem fl_X10_116 : Cond.fieldLink RX10 116 "SideWork$Machine" "outSize" "I" ∈ wsG := inT1 (List.mem_of_getElem? (i := 221) rfl) rfl
theorem fg_X10_116 : FG LyC RX10 116 5 4 0 := ⟨6, RX6, TX6, 9, tyX6, _, KC_X6, rfl, rfl, by decide, fl_X10_116⟩
theorem fp_X10_116 : FP LyC RX10 116 5 4 0 := ⟨6, RX6, TX6, 9, tyX6, _, KC_X6, rfl, rfl, by decide, fl_X10_116, rfl, rfl⟩
theorem fl_X10_119 : Cond.fieldLink RX10 119 "SideWork$Machine" "outRow" "[I" ∈ wsG := inT1 (List.mem_of_getElem? (i := 219) rfl) rfl
theorem fg_X10_119 : FG LyC RX10 119 5 3 13 := ⟨6, RX6, TX6, 9, tyX6, _, KC_X6, rfl, rfl, by decide, fl_X10_119⟩
theorem fl_X10_123 : Cond.fieldLink RX10 123 "SideWork$Acts" "size" "I" ∈ wsG := inT1 (List.mem_of_getElem? (i := 37) rfl) rfl
theorem fg_X10_123 : FG LyC RX10 123 1 3 0 := ⟨2, RX0, TX0, 4, tyX0, _, KC_X0, rfl, rfl, by decide, fl_X10_123⟩
theorem fp_X10_123 : FP LyC RX10 123 1 3 0 := ⟨2, RX0, TX0, 4, tyX0, _, KC_X0, rfl, rfl, by decide, fl_X10_123, rfl, rfl⟩
theorem fl_X11_7 : Cond.fieldLink RX11 7 "SideWorkModel" "kind" "[I" ∈ wsG := inT4 (List.mem_of_getElem? (i := 102) rfl) rfl
theorem fg_X11_7 : FG LyM RX11 7 0 1 3 := ⟨10, RX11, TX11, 56, tyX11, _, KC_X11, rfl, rfl, by decide, fl_X11_7⟩
theorem fl_X11_13 : Cond.fieldLink RX11 13 "SideWorkModel" "argA" "[I" ∈ wsG := inT4 (List.mem_of_getElem? (i := 103) rfl) rfl
theorem fg_X11_13 : FG LyM RX11 13 0 2 4 := ⟨10, RX11, TX11, 56, tyX11, _, KC_X11, rfl, rfl, by decide, fl_X11_13⟩
theorem fl_X11_16 : Cond.fieldLink RX11 16 "SideWorkModel" "argB" "[I" ∈ wsG := inT4 (List.mem_of_getElem? (i := 104) rfl) rfl
theorem fg_X11_16 : FG LyM RX11 16 0 3 5 := ⟨10, RX11, TX11, 56, tyX11, _, KC_X11, rfl, rfl, by decide, fl_X11_16⟩
theorem fl_X11_19 : Cond.fieldLink RX11 19 "SideWorkModel" "argC" "[I" ∈ wsG := inT4 (List.mem_of_getElem? (i := 105) rfl) rfl
theorem fg_X11_19 : FG LyM RX11 19 0 4 6 := ⟨10, RX11, TX11, 56, tyX11, _, KC_X11, rfl, rfl, by decide, fl_X11_19⟩
theorem fl_X11_22 : Cond.fieldLink RX11 22 "SideWorkModel" "thingSize" "[I" ∈ wsG := inT4 (List.mem_of_getElem? (i := 108) rfl) rfl
theorem fg_X11_22 : FG LyM RX11 22 0 7 7 := ⟨10, RX11, TX11, 56, tyX11, _, KC_X11, rfl, rfl, by decide, fl_X11_22⟩
theorem fl_X11_25 : Cond.fieldLink RX11 25 "SideWorkModel" "placeType" "[I" ∈ wsG := inT4 (List.mem_of_getElem? (i := 109) rfl) rfl
theorem fg_X11_25 : FG LyM RX11 25 0 8 8 := ⟨10, RX11, TX11, 56, tyX11, _, KC_X11, rfl, rfl, by decide, fl_X11_25⟩
theorem fl_X11_28 : Cond.fieldLink RX11 28 "SideWorkModel" "placeNumber" "[I" ∈ wsG := inT4 (List.mem_of_getElem? (i := 110) rfl) rfl
theorem fg_X11_28 : FG LyM RX11 28 0 9 9 := ⟨10, RX11, TX11, 56, tyX11, _, KC_X11, rfl, rfl, by decide, fl_X11_28⟩
theorem fl_X11_31 : Cond.fieldLink RX11 31 "SideWorkModel" "laterAct" "[I" ∈ wsG := inT4 (List.mem_of_getElem? (i := 111) rfl) rfl
theorem fg_X11_31 : FG LyM RX11 31 0 10 10 := ⟨10, RX11, TX11, 56, tyX11, _, KC_X11, rfl, rfl, by decide, fl_X11_31⟩
theorem fl_X11_34 : Cond.fieldLink RX11 34 "SideWorkModel" "laterFrame" "[I" ∈ wsG := inT4 (List.mem_of_getElem? (i := 112) rfl) rfl
theorem fg_X11_34 : FG LyM RX11 34 0 11 11 := ⟨10, RX11, TX11, 56, tyX11, _, KC_X11, rfl, rfl, by decide, fl_X11_34⟩
theorem fl_X11_37 : Cond.fieldLink RX11 37 "SideWorkModel" "laterState" "[I" ∈ wsG := inT4 (List.mem_of_getElem? (i := 113) rfl) rfl
theorem fg_X11_37 : FG LyM RX11 37 0 12 12 := ⟨10, RX11, TX11, 56, tyX11, _, KC_X11, rfl, rfl, by decide, fl_X11_37⟩
theorem fl_X11_40 : Cond.fieldLink RX11 40 "SideWorkModel" "laterType" "[I" ∈ wsG := inT4 (List.mem_of_getElem? (i := 114) rfl) rfl
theorem fg_X11_40 : FG LyM RX11 40 0 13 13 := ⟨10, RX11, TX11, 56, tyX11, _, KC_X11, rfl, rfl, by decide, fl_X11_40⟩
theorem fl_X11_43 : Cond.fieldLink RX11 43 "SideWorkModel" "laterNumber" "[I" ∈ wsG := inT4 (List.mem_of_getElem? (i := 115) rfl) rfl
theorem fg_X11_43 : FG LyM RX11 43 0 14 14 := ⟨10, RX11, TX11, 56, tyX11, _, KC_X11, rfl, rfl, by decide, fl_X11_43⟩
theorem fl_X11_46 : Cond.fieldLink RX11 46 "SideWorkModel" "slotType" "[I" ∈ wsG := inT4 (List.mem_of_getElem? (i := 117) rfl) rfl
theorem fg_X11_46 : FG LyM RX11 46 0 16 15 := ⟨10, RX11, TX11, 56, tyX11, _, KC_X11, rfl, rfl, by decide, fl_X11_46⟩
theorem fl_X11_49 : Cond.fieldLink RX11 49 "SideWorkModel" "slotNumber" "[I" ∈ wsG := inT4 (List.mem_of_getElem? (i := 118) rfl) rfl
theorem fg_X11_49 : FG LyM RX11 49 0 17 16 := ⟨10, RX11, TX11, 56, tyX11, _, KC_X11, rfl, rfl, by decide, fl_X11_49⟩
theorem fl_X11_52 : Cond.fieldLink RX11 52 "SideWorkModel" "boxType" "[I" ∈ wsG := inT4 (List.mem_of_getElem? (i := 119) rfl) rfl
theorem fg_X11_52 : FG LyM RX11 52 0 18 17 := ⟨10, RX11, TX11, 56, tyX11, _, KC_X11, rfl, rfl, by decide, fl_X11_52⟩
theorem fl_X11_55 : Cond.fieldLink RX11 55 "SideWorkModel" "boxNumber" "[I" ∈ wsG := inT4 (List.mem_of_getElem? (i := 120) rfl) rfl
theorem fg_X11_55 : FG LyM RX11 55 0 19 18 := ⟨10, RX11, TX11, 56, tyX11, _, KC_X11, rfl, rfl, by decide, fl_X11_55⟩
theorem fl_X11_58 : Cond.fieldLink RX11 58 "SideWorkModel" "changed" "[I" ∈ wsG := inT4 (List.mem_of_getElem? (i := 122) rfl) rfl
theorem fg_X11_58 : FG LyM RX11 58 0 21 19 := ⟨10, RX11, TX11, 56, tyX11, _, KC_X11, rfl, rfl, by decide, fl_X11_58⟩
theorem fl_X11_61 : Cond.fieldLink RX11 61 "SideWorkModel" "wasType" "[I" ∈ wsG := inT4 (List.mem_of_getElem? (i := 123) rfl) rfl
theorem fg_X11_61 : FG LyM RX11 61 0 22 20 := ⟨10, RX11, TX11, 56, tyX11, _, KC_X11, rfl, rfl, by decide, fl_X11_61⟩
theorem fl_X11_64 : Cond.fieldLink RX11 64 "SideWorkModel" "wasNumber" "[I" ∈ wsG := inT4 (List.mem_of_getElem? (i := 124) rfl) rfl
theorem fg_X11_64 : FG LyM RX11 64 0 23 21 := ⟨10, RX11, TX11, 56, tyX11, _, KC_X11, rfl, rfl, by decide, fl_X11_64⟩
theorem fl_X11_67 : Cond.fieldLink RX11 67 "SideWorkModel" "toldRow" "[I" ∈ wsG := inT4 (List.mem_of_getElem? (i := 126) rfl) rfl
theorem fg_X11_67 : FG LyM RX11 67 0 25 22 := ⟨10, RX11, TX11, 56, tyX11, _, KC_X11, rfl, rfl, by decide, fl_X11_67⟩
theorem fl_X11_70 : Cond.fieldLink RX11 70 "SideWorkModel" "sAct" "[I" ∈ wsG := inT4 (List.mem_of_getElem? (i := 128) rfl) rfl
theorem fg_X11_70 : FG LyM RX11 70 0 27 23 := ⟨10, RX11, TX11, 56, tyX11, _, KC_X11, rfl, rfl, by decide, fl_X11_70⟩
theorem fl_X11_73 : Cond.fieldLink RX11 73 "SideWorkModel" "sPhase" "[I" ∈ wsG := inT4 (List.mem_of_getElem? (i := 129) rfl) rfl
theorem fg_X11_73 : FG LyM RX11 73 0 28 24 := ⟨10, RX11, TX11, 56, tyX11, _, KC_X11, rfl, rfl, by decide, fl_X11_73⟩
theorem fl_X11_76 : Cond.fieldLink RX11 76 "SideWorkModel" "sFrame" "[I" ∈ wsG := inT4 (List.mem_of_getElem? (i := 130) rfl) rfl
theorem fg_X11_76 : FG LyM RX11 76 0 29 25 := ⟨10, RX11, TX11, 56, tyX11, _, KC_X11, rfl, rfl, by decide, fl_X11_76⟩
theorem fl_X11_79 : Cond.fieldLink RX11 79 "SideWorkModel" "sTypeX" "[I" ∈ wsG := inT4 (List.mem_of_getElem? (i := 131) rfl) rfl
theorem fg_X11_79 : FG LyM RX11 79 0 30 26 := ⟨10, RX11, TX11, 56, tyX11, _, KC_X11, rfl, rfl, by decide, fl_X11_79⟩
theorem fl_X11_82 : Cond.fieldLink RX11 82 "SideWorkModel" "sNumberX" "[I" ∈ wsG := inT4 (List.mem_of_getElem? (i := 132) rfl) rfl
theorem fg_X11_82 : FG LyM RX11 82 0 31 27 := ⟨10, RX11, TX11, 56, tyX11, _, KC_X11, rfl, rfl, by decide, fl_X11_82⟩
theorem fl_X11_85 : Cond.fieldLink RX11 85 "SideWorkModel" "sTypeY" "[I" ∈ wsG := inT4 (List.mem_of_getElem? (i := 133) rfl) rfl
theorem fg_X11_85 : FG LyM RX11 85 0 32 28 := ⟨10, RX11, TX11, 56, tyX11, _, KC_X11, rfl, rfl, by decide, fl_X11_85⟩
theorem fl_X11_88 : Cond.fieldLink RX11 88 "SideWorkModel" "sNumberY" "[I" ∈ wsG := inT4 (List.mem_of_getElem? (i := 134) rfl) rfl
theorem fg_X11_88 : FG LyM RX11 88 0 33 29 := ⟨10, RX11, TX11, 56, tyX11, _, KC_X11, rfl, rfl, by decide, fl_X11_88⟩
theorem fl_X11_91 : Cond.fieldLink RX11 91 "SideWorkModel" "sMark" "[I" ∈ wsG := inT4 (List.mem_of_getElem? (i := 135) rfl) rfl
theorem fg_X11_91 : FG LyM RX11 91 0 34 30 := ⟨10, RX11, TX11, 56, tyX11, _, KC_X11, rfl, rfl, by decide, fl_X11_91⟩
theorem fl_X11_94 : Cond.fieldLink RX11 94 "SideWorkModel" "sAt" "[I" ∈ wsG := inT4 (List.mem_of_getElem? (i := 136) rfl) rfl
theorem fg_X11_94 : FG LyM RX11 94 0 35 31 := ⟨10, RX11, TX11, 56, tyX11, _, KC_X11, rfl, rfl, by decide, fl_X11_94⟩
theorem fl_X11_97 : Cond.fieldLink RX11 97 "SideWorkModel" "endAt" "I" ∈ wsG := inT4 (List.mem_of_getElem? (i := 153) rfl) rfl
theorem fg_X11_97 : FG LyM RX11 97 0 52 0 := ⟨10, RX11, TX11, 56, tyX11, _, KC_X11, rfl, rfl, by decide, fl_X11_97⟩
theorem fp_X11_97 : FP LyM RX11 97 0 52 0 := ⟨10, RX11, TX11, 56, tyX11, _, KC_X11, rfl, rfl, by decide, fl_X11_97, rfl, rfl⟩
theorem fl_X11_101 : Cond.fieldLink RX11 101 "SideWorkModel" "gaveType" "I" ∈ wsG := inT4 (List.mem_of_getElem? (i := 149) rfl) rfl
theorem fg_X11_101 : FG LyM RX11 101 0 48 0 := ⟨10, RX11, TX11, 56, tyX11, _, KC_X11, rfl, rfl, by decide, fl_X11_101⟩
theorem fp_X11_101 : FP LyM RX11 101 0 48 0 := ⟨10, RX11, TX11, 56, tyX11, _, KC_X11, rfl, rfl, by decide, fl_X11_101, rfl, rfl⟩
theorem fl_X11_104 : Cond.fieldLink RX11 104 "SideWorkModel" "acts" "I" ∈ wsG := inT4 (List.mem_of_getElem? (i := 101) rfl) rfl
theorem fg_X11_104 : FG LyM RX11 104 0 0 0 := ⟨10, RX11, TX11, 56, tyX11, _, KC_X11, rfl, rfl, by decide, fl_X11_104⟩
theorem fp_X11_104 : FP LyM RX11 104 0 0 0 := ⟨10, RX11, TX11, 56, tyX11, _, KC_X11, rfl, rfl, by decide, fl_X11_104, rfl, rfl⟩
theorem fl_X11_111 : Cond.fieldLink RX11 111 "SideWorkModel" "thrown" "I" ∈ wsG := inT4 (List.mem_of_getElem? (i := 156) rfl) rfl
theorem fg_X11_111 : FG LyM RX11 111 0 55 0 := ⟨10, RX11, TX11, 56, tyX11, _, KC_X11, rfl, rfl, by decide, fl_X11_111⟩
theorem fp_X11_111 : FP LyM RX11 111 0 55 0 := ⟨10, RX11, TX11, 56, tyX11, _, KC_X11, rfl, rfl, by decide, fl_X11_111, rfl, rfl⟩
theorem fl_X11_122 : Cond.fieldLink RX11 122 "SideWorkModel" "mode" "I" ∈ wsG := inT4 (List.mem_of_getElem? (i := 137) rfl) rfl
theorem fg_X11_122 : FG LyM RX11 122 0 36 0 := ⟨10, RX11, TX11, 56, tyX11, _, KC_X11, rfl, rfl, by decide, fl_X11_122⟩
theorem fp_X11_122 : FP LyM RX11 122 0 36 0 := ⟨10, RX11, TX11, 56, tyX11, _, KC_X11, rfl, rfl, by decide, fl_X11_122, rfl, rfl⟩
theorem fl_X11_125 : Cond.fieldLink RX11 125 "SideWorkModel" "vType" "I" ∈ wsG := inT4 (List.mem_of_getElem? (i := 140) rfl) rfl
theorem fg_X11_125 : FG LyM RX11 125 0 39 0 := ⟨10, RX11, TX11, 56, tyX11, _, KC_X11, rfl, rfl, by decide, fl_X11_125⟩
theorem fp_X11_125 : FP LyM RX11 125 0 39 0 := ⟨10, RX11, TX11, 56, tyX11, _, KC_X11, rfl, rfl, by decide, fl_X11_125, rfl, rfl⟩
theorem fl_X11_128 : Cond.fieldLink RX11 128 "SideWorkModel" "vNumber" "I" ∈ wsG := inT4 (List.mem_of_getElem? (i := 141) rfl) rfl
theorem fg_X11_128 : FG LyM RX11 128 0 40 0 := ⟨10, RX11, TX11, 56, tyX11, _, KC_X11, rfl, rfl, by decide, fl_X11_128⟩
theorem fp_X11_128 : FP LyM RX11 128 0 40 0 := ⟨10, RX11, TX11, 56, tyX11, _, KC_X11, rfl, rfl, by decide, fl_X11_128, rfl, rfl⟩
theorem fl_X11_131 : Cond.fieldLink RX11 131 "SideWorkModel" "nowAct" "I" ∈ wsG := inT4 (List.mem_of_getElem? (i := 138) rfl) rfl
theorem fg_X11_131 : FG LyM RX11 131 0 37 0 := ⟨10, RX11, TX11, 56, tyX11, _, KC_X11, rfl, rfl, by decide, fl_X11_131⟩
theorem fp_X11_131 : FP LyM RX11 131 0 37 0 := ⟨10, RX11, TX11, 56, tyX11, _, KC_X11, rfl, rfl, by decide, fl_X11_131, rfl, rfl⟩
theorem fl_X11_134 : Cond.fieldLink RX11 134 "SideWorkModel" "nowFrame" "I" ∈ wsG := inT4 (List.mem_of_getElem? (i := 139) rfl) rfl
theorem fg_X11_134 : FG LyM RX11 134 0 38 0 := ⟨10, RX11, TX11, 56, tyX11, _, KC_X11, rfl, rfl, by decide, fl_X11_134⟩
theorem fp_X11_134 : FP LyM RX11 134 0 38 0 := ⟨10, RX11, TX11, 56, tyX11, _, KC_X11, rfl, rfl, by decide, fl_X11_134, rfl, rfl⟩
theorem fl_X11_137 : Cond.fieldLink RX11 137 "SideWorkModel" "fKind" "I" ∈ wsG := inT4 (List.mem_of_getElem? (i := 142) rfl) rfl
theorem fg_X11_137 : FG LyM RX11 137 0 41 0 := ⟨10, RX11, TX11, 56, tyX11, _, KC_X11, rfl, rfl, by decide, fl_X11_137⟩
theorem fp_X11_137 : FP LyM RX11 137 0 41 0 := ⟨10, RX11, TX11, 56, tyX11, _, KC_X11, rfl, rfl, by decide, fl_X11_137, rfl, rfl⟩
theorem fl_X11_140 : Cond.fieldLink RX11 140 "SideWorkModel" "fCode" "I" ∈ wsG := inT4 (List.mem_of_getElem? (i := 143) rfl) rfl
theorem fg_X11_140 : FG LyM RX11 140 0 42 0 := ⟨10, RX11, TX11, 56, tyX11, _, KC_X11, rfl, rfl, by decide, fl_X11_140⟩
theorem fp_X11_140 : FP LyM RX11 140 0 42 0 := ⟨10, RX11, TX11, 56, tyX11, _, KC_X11, rfl, rfl, by decide, fl_X11_140, rfl, rfl⟩
theorem fl_X11_143 : Cond.fieldLink RX11 143 "SideWorkModel" "fAt" "I" ∈ wsG := inT4 (List.mem_of_getElem? (i := 144) rfl) rfl
theorem fg_X11_143 : FG LyM RX11 143 0 43 0 := ⟨10, RX11, TX11, 56, tyX11, _, KC_X11, rfl, rfl, by decide, fl_X11_143⟩
theorem fp_X11_143 : FP LyM RX11 143 0 43 0 := ⟨10, RX11, TX11, 56, tyX11, _, KC_X11, rfl, rfl, by decide, fl_X11_143, rfl, rfl⟩
theorem fl_X11_146 : Cond.fieldLink RX11 146 "SideWorkModel" "failures" "I" ∈ wsG := inT4 (List.mem_of_getElem? (i := 145) rfl) rfl
theorem fg_X11_146 : FG LyM RX11 146 0 44 0 := ⟨10, RX11, TX11, 56, tyX11, _, KC_X11, rfl, rfl, by decide, fl_X11_146⟩
theorem fp_X11_146 : FP LyM RX11 146 0 44 0 := ⟨10, RX11, TX11, 56, tyX11, _, KC_X11, rfl, rfl, by decide, fl_X11_146, rfl, rfl⟩
theorem fl_X11_153 : Cond.fieldLink RX11 153 "SideWorkModel" "things" "I" ∈ wsG := inT4 (List.mem_of_getElem? (i := 107) rfl) rfl
theorem fg_X11_153 : FG LyM RX11 153 0 6 0 := ⟨10, RX11, TX11, 56, tyX11, _, KC_X11, rfl, rfl, by decide, fl_X11_153⟩
theorem fp_X11_153 : FP LyM RX11 153 0 6 0 := ⟨10, RX11, TX11, 56, tyX11, _, KC_X11, rfl, rfl, by decide, fl_X11_153, rfl, rfl⟩
theorem fl_X11_156 : Cond.fieldLink RX11 156 "SideWorkModel" "frames" "I" ∈ wsG := inT4 (List.mem_of_getElem? (i := 116) rfl) rfl
theorem fg_X11_156 : FG LyM RX11 156 0 15 0 := ⟨10, RX11, TX11, 56, tyX11, _, KC_X11, rfl, rfl, by decide, fl_X11_156⟩
theorem fp_X11_156 : FP LyM RX11 156 0 15 0 := ⟨10, RX11, TX11, 56, tyX11, _, KC_X11, rfl, rfl, by decide, fl_X11_156, rfl, rfl⟩
theorem fl_X11_159 : Cond.fieldLink RX11 159 "SideWorkModel" "changes" "I" ∈ wsG := inT4 (List.mem_of_getElem? (i := 121) rfl) rfl
theorem fg_X11_159 : FG LyM RX11 159 0 20 0 := ⟨10, RX11, TX11, 56, tyX11, _, KC_X11, rfl, rfl, by decide, fl_X11_159⟩
theorem fp_X11_159 : FP LyM RX11 159 0 20 0 := ⟨10, RX11, TX11, 56, tyX11, _, KC_X11, rfl, rfl, by decide, fl_X11_159, rfl, rfl⟩
theorem fl_X11_162 : Cond.fieldLink RX11 162 "SideWorkModel" "steps" "I" ∈ wsG := inT4 (List.mem_of_getElem? (i := 146) rfl) rfl
theorem fg_X11_162 : FG LyM RX11 162 0 45 0 := ⟨10, RX11, TX11, 56, tyX11, _, KC_X11, rfl, rfl, by decide, fl_X11_162⟩
theorem fp_X11_162 : FP LyM RX11 162 0 45 0 := ⟨10, RX11, TX11, 56, tyX11, _, KC_X11, rfl, rfl, by decide, fl_X11_162, rfl, rfl⟩
theorem fl_X11_165 : Cond.fieldLink RX11 165 "SideWorkModel" "most" "I" ∈ wsG := inT4 (List.mem_of_getElem? (i := 147) rfl) rfl
theorem fg_X11_165 : FG LyM RX11 165 0 46 0 := ⟨10, RX11, TX11, 56, tyX11, _, KC_X11, rfl, rfl, by decide, fl_X11_165⟩
theorem fp_X11_165 : FP LyM RX11 165 0 46 0 := ⟨10, RX11, TX11, 56, tyX11, _, KC_X11, rfl, rfl, by decide, fl_X11_165, rfl, rfl⟩
theorem fl_X11_174 : Cond.fieldLink RX11 174 "SideWorkModel" "top" "I" ∈ wsG := inT4 (List.mem_of_getElem? (i := 127) rfl) rfl
theorem fg_X11_174 : FG LyM RX11 174 0 26 0 := ⟨10, RX11, TX11, 56, tyX11, _, KC_X11, rfl, rfl, by decide, fl_X11_174⟩
theorem fp_X11_174 : FP LyM RX11 174 0 26 0 := ⟨10, RX11, TX11, 56, tyX11, _, KC_X11, rfl, rfl, by decide, fl_X11_174, rfl, rfl⟩
theorem fl_X11_230 : Cond.fieldLink RX11 230 "SideWorkModel" "tolds" "I" ∈ wsG := inT4 (List.mem_of_getElem? (i := 125) rfl) rfl
theorem fg_X11_230 : FG LyM RX11 230 0 24 0 := ⟨10, RX11, TX11, 56, tyX11, _, KC_X11, rfl, rfl, by decide, fl_X11_230⟩
theorem fp_X11_230 : FP LyM RX11 230 0 24 0 := ⟨10, RX11, TX11, 56, tyX11, _, KC_X11, rfl, rfl, by decide, fl_X11_230, rfl, rfl⟩
theorem fl_X11_236 : Cond.fieldLink RX11 236 "SideWorkModel" "deep" "I" ∈ wsG := inT4 (List.mem_of_getElem? (i := 148) rfl) rfl
theorem fg_X11_236 : FG LyM RX11 236 0 47 0 := ⟨10, RX11, TX11, 56, tyX11, _, KC_X11, rfl, rfl, by decide, fl_X11_236⟩
theorem fp_X11_236 : FP LyM RX11 236 0 47 0 := ⟨10, RX11, TX11, 56, tyX11, _, KC_X11, rfl, rfl, by decide, fl_X11_236, rfl, rfl⟩
theorem fl_X11_258 : Cond.fieldLink RX11 258 "SideWorkModel" "runs" "I" ∈ wsG := inT4 (List.mem_of_getElem? (i := 106) rfl) rfl
theorem fg_X11_258 : FG LyM RX11 258 0 5 0 := ⟨10, RX11, TX11, 56, tyX11, _, KC_X11, rfl, rfl, by decide, fl_X11_258⟩
theorem fp_X11_258 : FP LyM RX11 258 0 5 0 := ⟨10, RX11, TX11, 56, tyX11, _, KC_X11, rfl, rfl, by decide, fl_X11_258, rfl, rfl⟩
theorem fl_X11_270 : Cond.fieldLink RX11 270 "SideWorkModel" "endSteps" "I" ∈ wsG := inT4 (List.mem_of_getElem? (i := 154) rfl) rfl
theorem fg_X11_270 : FG LyM RX11 270 0 53 0 := ⟨10, RX11, TX11, 56, tyX11, _, KC_X11, rfl, rfl, by decide, fl_X11_270⟩
theorem fp_X11_270 : FP LyM RX11 270 0 53 0 := ⟨10, RX11, TX11, 56, tyX11, _, KC_X11, rfl, rfl, by decide, fl_X11_270, rfl, rfl⟩
theorem fl_X11_273 : Cond.fieldLink RX11 273 "SideWorkModel" "endFailures" "I" ∈ wsG := inT4 (List.mem_of_getElem? (i := 155) rfl) rfl
theorem fg_X11_273 : FG LyM RX11 273 0 54 0 := ⟨10, RX11, TX11, 56, tyX11, _, KC_X11, rfl, rfl, by decide, fl_X11_273⟩
theorem fp_X11_273 : FP LyM RX11 273 0 54 0 := ⟨10, RX11, TX11, 56, tyX11, _, KC_X11, rfl, rfl, by decide, fl_X11_273, rfl, rfl⟩
theorem fl_X11_276 : Cond.fieldLink RX11 276 "SideWorkModel" "gaveNumber" "I" ∈ wsG := inT4 (List.mem_of_getElem? (i := 150) rfl) rfl
theorem fg_X11_276 : FG LyM RX11 276 0 49 0 := ⟨10, RX11, TX11, 56, tyX11, _, KC_X11, rfl, rfl, by decide, fl_X11_276⟩
theorem fp_X11_276 : FP LyM RX11 276 0 49 0 := ⟨10, RX11, TX11, 56, tyX11, _, KC_X11, rfl, rfl, by decide, fl_X11_276, rfl, rfl⟩
theorem fl_X11_279 : Cond.fieldLink RX11 279 "SideWorkModel" "endKind" "I" ∈ wsG := inT4 (List.mem_of_getElem? (i := 151) rfl) rfl
theorem fg_X11_279 : FG LyM RX11 279 0 50 0 := ⟨10, RX11, TX11, 56, tyX11, _, KC_X11, rfl, rfl, by decide, fl_X11_279⟩
theorem fp_X11_279 : FP LyM RX11 279 0 50 0 := ⟨10, RX11, TX11, 56, tyX11, _, KC_X11, rfl, rfl, by decide, fl_X11_279, rfl, rfl⟩
theorem fl_X11_282 : Cond.fieldLink RX11 282 "SideWorkModel" "endCode" "I" ∈ wsG := inT4 (List.mem_of_getElem? (i := 152) rfl) rfl
theorem fg_X11_282 : FG LyM RX11 282 0 51 0 := ⟨10, RX11, TX11, 56, tyX11, _, KC_X11, rfl, rfl, by decide, fl_X11_282⟩
theorem fp_X11_282 : FP LyM RX11 282 0 51 0 := ⟨10, RX11, TX11, 56, tyX11, _, KC_X11, rfl, rfl, by decide, fl_X11_282, rfl, rfl⟩
theorem fl_X0_11 : Cond.fieldLink RX0 11 "SideWork$Acts" "givens" "[I" ∈ wsG := inT1 (List.mem_of_getElem? (i := 33) rfl) rfl
theorem fg_X0_11 : FG LyC RX0 11 1 0 4 := ⟨2, RX0, TX0, 4, tyX0, _, KC_X0, rfl, rfl, by decide, fl_X0_11⟩
theorem fl_X0_15 : Cond.fieldLink RX0 15 "SideWork$Acts" "parts" "[I" ∈ wsG := inT1 (List.mem_of_getElem? (i := 34) rfl) rfl
theorem fg_X0_15 : FG LyC RX0 15 1 1 5 := ⟨2, RX0, TX0, 4, tyX0, _, KC_X0, rfl, rfl, by decide, fl_X0_15⟩
theorem fl_X0_18 : Cond.fieldLink RX0 18 "SideWork$Acts" "aheads" "[I" ∈ wsG := inT1 (List.mem_of_getElem? (i := 35) rfl) rfl
theorem fg_X0_18 : FG LyC RX0 18 1 2 6 := ⟨2, RX0, TX0, 4, tyX0, _, KC_X0, rfl, rfl, by decide, fl_X0_18⟩
theorem fl_X0_21 : Cond.fieldLink RX0 21 "SideWork$Acts" "size" "I" ∈ wsG := inT1 (List.mem_of_getElem? (i := 36) rfl) rfl
theorem fg_X0_21 : FG LyC RX0 21 1 3 0 := ⟨2, RX0, TX0, 4, tyX0, _, KC_X0, rfl, rfl, by decide, fl_X0_21⟩
theorem fp_X0_21 : FP LyC RX0 21 1 3 0 := ⟨2, RX0, TX0, 4, tyX0, _, KC_X0, rfl, rfl, by decide, fl_X0_21, rfl, rfl⟩
theorem fl_X0_31 : Cond.fieldLink RX0 31 "SideWork$Acts" "MEANINGS" "[I" ∈ wsG := inT2 (List.mem_of_getElem? (i := 23) rfl) rfl
theorem fl_X0_41 : Cond.fieldLink RX0 41 "SideWork$Acts" "GREATEST" "[I" ∈ wsG := inT2 (List.mem_of_getElem? (i := 37) rfl) rfl
theorem fl_X1_13 : Cond.fieldLink RX1 13 "SideWork$Course" "limit" "I" ∈ wsG := inT1 (List.mem_of_getElem? (i := 101) rfl) rfl
theorem fg_X1_13 : FG LyC RX1 13 10 0 0 := ⟨3, RX1, TX1, 7, tyX1, _, KC_X1, rfl, rfl, by decide, fl_X1_13⟩
theorem fp_X1_13 : FP LyC RX1 13 10 0 0 := ⟨3, RX1, TX1, 7, tyX1, _, KC_X1, rfl, rfl, by decide, fl_X1_13, rfl, rfl⟩
theorem fl_X1_17 : Cond.fieldLink RX1 17 "SideWork$Course" "steps" "I" ∈ wsG := inT1 (List.mem_of_getElem? (i := 102) rfl) rfl
theorem fg_X1_17 : FG LyC RX1 17 10 1 0 := ⟨3, RX1, TX1, 7, tyX1, _, KC_X1, rfl, rfl, by decide, fl_X1_17⟩
theorem fp_X1_17 : FP LyC RX1 17 10 1 0 := ⟨3, RX1, TX1, 7, tyX1, _, KC_X1, rfl, rfl, by decide, fl_X1_17, rfl, rfl⟩
theorem fl_X1_20 : Cond.fieldLink RX1 20 "SideWork$Course" "failures" "I" ∈ wsG := inT1 (List.mem_of_getElem? (i := 104) rfl) rfl
theorem fg_X1_20 : FG LyC RX1 20 10 2 0 := ⟨3, RX1, TX1, 7, tyX1, _, KC_X1, rfl, rfl, by decide, fl_X1_20⟩
theorem fp_X1_20 : FP LyC RX1 20 10 2 0 := ⟨3, RX1, TX1, 7, tyX1, _, KC_X1, rfl, rfl, by decide, fl_X1_20, rfl, rfl⟩
theorem fl_X1_27 : Cond.fieldLink RX1 27 "SideWork$Course" "value" "J" ∈ wsG := inT1 (List.mem_of_getElem? (i := 117) rfl) rfl
theorem fg_X1_27 : FG LyC RX1 27 10 6 1 := ⟨3, RX1, TX1, 7, tyX1, _, KC_X1, rfl, rfl, by decide, fl_X1_27⟩
theorem fp_X1_27 : FP LyC RX1 27 10 6 1 := ⟨3, RX1, TX1, 7, tyX1, _, KC_X1, rfl, rfl, by decide, fl_X1_27, rfl, rfl⟩
theorem fl_X1_38 : Cond.fieldLink RX1 38 "SideWork$Course" "ending" "I" ∈ wsG := inT1 (List.mem_of_getElem? (i := 107) rfl) rfl
theorem fg_X1_38 : FG LyC RX1 38 10 3 0 := ⟨3, RX1, TX1, 7, tyX1, _, KC_X1, rfl, rfl, by decide, fl_X1_38⟩
theorem fp_X1_38 : FP LyC RX1 38 10 3 0 := ⟨3, RX1, TX1, 7, tyX1, _, KC_X1, rfl, rfl, by decide, fl_X1_38, rfl, rfl⟩
theorem fl_X1_41 : Cond.fieldLink RX1 41 "SideWork$Course" "code" "I" ∈ wsG := inT1 (List.mem_of_getElem? (i := 110) rfl) rfl
theorem fg_X1_41 : FG LyC RX1 41 10 4 0 := ⟨3, RX1, TX1, 7, tyX1, _, KC_X1, rfl, rfl, by decide, fl_X1_41⟩
theorem fp_X1_41 : FP LyC RX1 41 10 4 0 := ⟨3, RX1, TX1, 7, tyX1, _, KC_X1, rfl, rfl, by decide, fl_X1_41, rfl, rfl⟩
theorem fl_X1_44 : Cond.fieldLink RX1 44 "SideWork$Course" "at" "I" ∈ wsG := inT1 (List.mem_of_getElem? (i := 114) rfl) rfl
theorem fg_X1_44 : FG LyC RX1 44 10 5 0 := ⟨3, RX1, TX1, 7, tyX1, _, KC_X1, rfl, rfl, by decide, fl_X1_44⟩
theorem fp_X1_44 : FP LyC RX1 44 10 5 0 := ⟨3, RX1, TX1, 7, tyX1, _, KC_X1, rfl, rfl, by decide, fl_X1_44, rfl, rfl⟩
theorem fl_X3_11 : Cond.fieldLink RX3 11 "SideWork$Frames" "slots" "[J" ∈ wsG := inT1 (List.mem_of_getElem? (i := 141) rfl) rfl
theorem fg_X3_11 : FG LyC RX3 11 12 0 15 := ⟨4, RX3, TX3, 2, tyX3, _, KC_X3, rfl, rfl, by decide, fl_X3_11⟩
theorem fl_X3_15 : Cond.fieldLink RX3 15 "SideWork$Frames" "made" "I" ∈ wsG := inT1 (List.mem_of_getElem? (i := 142) rfl) rfl
theorem fg_X3_15 : FG LyC RX3 15 12 1 0 := ⟨4, RX3, TX3, 2, tyX3, _, KC_X3, rfl, rfl, by decide, fl_X3_15⟩
theorem fp_X3_15 : FP LyC RX3 15 12 1 0 := ⟨4, RX3, TX3, 2, tyX3, _, KC_X3, rfl, rfl, by decide, fl_X3_15, rfl, rfl⟩
theorem fl_X5_9 : Cond.fieldLink RX5 9 "SideWork$Laters" "acts" "[I" ∈ wsG := inT1 (List.mem_of_getElem? (i := 154) rfl) rfl
theorem fg_X5_9 : FG LyC RX5 9 14 0 17 := ⟨5, RX5, TX5, 7, tyX5, _, KC_X5, rfl, rfl, by decide, fl_X5_9⟩
theorem fl_X5_15 : Cond.fieldLink RX5 15 "SideWork$Laters" "frames" "[I" ∈ wsG := inT1 (List.mem_of_getElem? (i := 155) rfl) rfl
theorem fg_X5_15 : FG LyC RX5 15 14 1 18 := ⟨5, RX5, TX5, 7, tyX5, _, KC_X5, rfl, rfl, by decide, fl_X5_15⟩
theorem fl_X5_18 : Cond.fieldLink RX5 18 "SideWork$Laters" "states" "[I" ∈ wsG := inT1 (List.mem_of_getElem? (i := 156) rfl) rfl
theorem fg_X5_18 : FG LyC RX5 18 14 2 19 := ⟨5, RX5, TX5, 7, tyX5, _, KC_X5, rfl, rfl, by decide, fl_X5_18⟩
theorem fl_X5_21 : Cond.fieldLink RX5 21 "SideWork$Laters" "failures" "[I" ∈ wsG := inT1 (List.mem_of_getElem? (i := 157) rfl) rfl
theorem fg_X5_21 : FG LyC RX5 21 14 3 20 := ⟨5, RX5, TX5, 7, tyX5, _, KC_X5, rfl, rfl, by decide, fl_X5_21⟩
theorem fl_X5_24 : Cond.fieldLink RX5 24 "SideWork$Laters" "codes" "[I" ∈ wsG := inT1 (List.mem_of_getElem? (i := 158) rfl) rfl
theorem fg_X5_24 : FG LyC RX5 24 14 4 21 := ⟨5, RX5, TX5, 7, tyX5, _, KC_X5, rfl, rfl, by decide, fl_X5_24⟩
theorem fl_X5_27 : Cond.fieldLink RX5 27 "SideWork$Laters" "values" "[J" ∈ wsG := inT1 (List.mem_of_getElem? (i := 159) rfl) rfl
theorem fg_X5_27 : FG LyC RX5 27 14 5 22 := ⟨5, RX5, TX5, 7, tyX5, _, KC_X5, rfl, rfl, by decide, fl_X5_27⟩
theorem fl_X5_31 : Cond.fieldLink RX5 31 "SideWork$Laters" "made" "I" ∈ wsG := inT1 (List.mem_of_getElem? (i := 160) rfl) rfl
theorem fg_X5_31 : FG LyC RX5 31 14 6 0 := ⟨5, RX5, TX5, 7, tyX5, _, KC_X5, rfl, rfl, by decide, fl_X5_31⟩
theorem fp_X5_31 : FP LyC RX5 31 14 6 0 := ⟨5, RX5, TX5, 7, tyX5, _, KC_X5, rfl, rfl, by decide, fl_X5_31, rfl, rfl⟩
theorem fl_X6_7 : Cond.fieldLink RX6 7 "SideWork$Machine" "acts" "LSideWork$Acts;" ∈ wsG := inT1 (List.mem_of_getElem? (i := 213) rfl) rfl
theorem fg_X6_7 : FG LyC RX6 7 5 0 3 := ⟨6, RX6, TX6, 9, tyX6, _, KC_X6, rfl, rfl, by decide, fl_X6_7⟩
theorem fl_X6_16 : Cond.fieldLink RX6 16 "SideWork$Machine" "memory" "LSideWork$Memory;" ∈ wsG := inT1 (List.mem_of_getElem? (i := 214) rfl) rfl
theorem fg_X6_16 : FG LyC RX6 16 5 1 8 := ⟨6, RX6, TX6, 9, tyX6, _, KC_X6, rfl, rfl, by decide, fl_X6_16⟩
theorem fl_X6_23 : Cond.fieldLink RX6 23 "SideWork$Machine" "course" "LSideWork$Course;" ∈ wsG := inT1 (List.mem_of_getElem? (i := 216) rfl) rfl
theorem fg_X6_23 : FG LyC RX6 23 5 2 12 := ⟨6, RX6, TX6, 9, tyX6, _, KC_X6, rfl, rfl, by decide, fl_X6_23⟩
theorem fl_X6_27 : Cond.fieldLink RX6 27 "SideWork$Machine" "outRow" "[I" ∈ wsG := inT1 (List.mem_of_getElem? (i := 218) rfl) rfl
theorem fg_X6_27 : FG LyC RX6 27 5 3 13 := ⟨6, RX6, TX6, 9, tyX6, _, KC_X6, rfl, rfl, by decide, fl_X6_27⟩
theorem fl_X6_31 : Cond.fieldLink RX6 31 "SideWork$Machine" "outSize" "I" ∈ wsG := inT1 (List.mem_of_getElem? (i := 220) rfl) rfl
theorem fg_X6_31 : FG LyC RX6 31 5 4 0 := ⟨6, RX6, TX6, 9, tyX6, _, KC_X6, rfl, rfl, by decide, fl_X6_31⟩
theorem fp_X6_31 : FP LyC RX6 31 5 4 0 := ⟨6, RX6, TX6, 9, tyX6, _, KC_X6, rfl, rfl, by decide, fl_X6_31, rfl, rfl⟩
theorem fl_X6_38 : Cond.fieldLink RX6 38 "SideWork$Machine" "frames" "LSideWork$Frames;" ∈ wsG := inT1 (List.mem_of_getElem? (i := 222) rfl) rfl
theorem fg_X6_38 : FG LyC RX6 38 5 5 14 := ⟨6, RX6, TX6, 9, tyX6, _, KC_X6, rfl, rfl, by decide, fl_X6_38⟩
theorem fl_X6_45 : Cond.fieldLink RX6 45 "SideWork$Machine" "laters" "LSideWork$Laters;" ∈ wsG := inT1 (List.mem_of_getElem? (i := 223) rfl) rfl
theorem fg_X6_45 : FG LyC RX6 45 5 6 16 := ⟨6, RX6, TX6, 9, tyX6, _, KC_X6, rfl, rfl, by decide, fl_X6_45⟩
theorem fl_X6_52 : Cond.fieldLink RX6 52 "SideWork$Machine" "stack" "LSideWork$Stack;" ∈ wsG := inT1 (List.mem_of_getElem? (i := 224) rfl) rfl
theorem fg_X6_52 : FG LyC RX6 52 5 7 23 := ⟨6, RX6, TX6, 9, tyX6, _, KC_X6, rfl, rfl, by decide, fl_X6_52⟩
theorem fl_X6_56 : Cond.fieldLink RX6 56 "SideWork$Machine" "calls" "I" ∈ wsG := inT1 (List.mem_of_getElem? (i := 225) rfl) rfl
theorem fg_X6_56 : FG LyC RX6 56 5 8 0 := ⟨6, RX6, TX6, 9, tyX6, _, KC_X6, rfl, rfl, by decide, fl_X6_56⟩
theorem fp_X6_56 : FP LyC RX6 56 5 8 0 := ⟨6, RX6, TX6, 9, tyX6, _, KC_X6, rfl, rfl, by decide, fl_X6_56, rfl, rfl⟩
theorem fl_X6_82 : Cond.fieldLink RX6 82 "SideWork$Course" "ending" "I" ∈ wsG := inT1 (List.mem_of_getElem? (i := 106) rfl) rfl
theorem fg_X6_82 : FG LyC RX6 82 10 3 0 := ⟨3, RX1, TX1, 7, tyX1, _, KC_X1, rfl, rfl, by decide, fl_X6_82⟩
theorem fp_X6_82 : FP LyC RX6 82 10 3 0 := ⟨3, RX1, TX1, 7, tyX1, _, KC_X1, rfl, rfl, by decide, fl_X6_82, rfl, rfl⟩
theorem fl_X6_120 : Cond.fieldLink RX6 120 "SideWork$Course" "value" "J" ∈ wsG := inT1 (List.mem_of_getElem? (i := 119) rfl) rfl
theorem fg_X6_120 : FG LyC RX6 120 10 6 1 := ⟨3, RX1, TX1, 7, tyX1, _, KC_X1, rfl, rfl, by decide, fl_X6_120⟩
theorem fp_X6_120 : FP LyC RX6 120 10 6 1 := ⟨3, RX1, TX1, 7, tyX1, _, KC_X1, rfl, rfl, by decide, fl_X6_120, rfl, rfl⟩
theorem fl_X6_331 : Cond.fieldLink RX6 331 "SideWork$Course" "code" "I" ∈ wsG := inT1 (List.mem_of_getElem? (i := 113) rfl) rfl
theorem fg_X6_331 : FG LyC RX6 331 10 4 0 := ⟨3, RX1, TX1, 7, tyX1, _, KC_X1, rfl, rfl, by decide, fl_X6_331⟩
theorem fp_X6_331 : FP LyC RX6 331 10 4 0 := ⟨3, RX1, TX1, 7, tyX1, _, KC_X1, rfl, rfl, by decide, fl_X6_331, rfl, rfl⟩
theorem fl_X7_11 : Cond.fieldLink RX7 11 "SideWork$Memory" "cells" "[J" ∈ wsG := inT1 (List.mem_of_getElem? (i := 65) rfl) rfl
theorem fg_X7_11 : FG LyC RX7 11 6 0 9 := ⟨7, RX7, TX7, 5, tyX7, _, KC_X7, rfl, rfl, by decide, fl_X7_11⟩
theorem fl_X7_15 : Cond.fieldLink RX7 15 "SideWork$Memory" "changedCells" "[I" ∈ wsG := inT1 (List.mem_of_getElem? (i := 66) rfl) rfl
theorem fg_X7_15 : FG LyC RX7 15 6 1 10 := ⟨7, RX7, TX7, 5, tyX7, _, KC_X7, rfl, rfl, by decide, fl_X7_15⟩
theorem fl_X7_19 : Cond.fieldLink RX7 19 "SideWork$Memory" "changedFrom" "[J" ∈ wsG := inT1 (List.mem_of_getElem? (i := 67) rfl) rfl
theorem fg_X7_19 : FG LyC RX7 19 6 2 11 := ⟨7, RX7, TX7, 5, tyX7, _, KC_X7, rfl, rfl, by decide, fl_X7_19⟩
theorem fl_X7_33 : Cond.fieldLink RX7 33 "SideWork$Memory" "used" "I" ∈ wsG := inT1 (List.mem_of_getElem? (i := 68) rfl) rfl
theorem fg_X7_33 : FG LyC RX7 33 6 3 0 := ⟨7, RX7, TX7, 5, tyX7, _, KC_X7, rfl, rfl, by decide, fl_X7_33⟩
theorem fp_X7_33 : FP LyC RX7 33 6 3 0 := ⟨7, RX7, TX7, 5, tyX7, _, KC_X7, rfl, rfl, by decide, fl_X7_33, rfl, rfl⟩
theorem fl_X7_37 : Cond.fieldLink RX7 37 "SideWork$Memory" "changes" "I" ∈ wsG := inT1 (List.mem_of_getElem? (i := 69) rfl) rfl
theorem fg_X7_37 : FG LyC RX7 37 6 4 0 := ⟨7, RX7, TX7, 5, tyX7, _, KC_X7, rfl, rfl, by decide, fl_X7_37⟩
theorem fp_X7_37 : FP LyC RX7 37 6 4 0 := ⟨7, RX7, TX7, 5, tyX7, _, KC_X7, rfl, rfl, by decide, fl_X7_37, rfl, rfl⟩
theorem fl_X8_9 : Cond.fieldLink RX8 9 "SideWork$Stack" "acts" "[I" ∈ wsG := inT1 (List.mem_of_getElem? (i := 182) rfl) rfl
theorem fg_X8_9 : FG LyC RX8 9 21 0 24 := ⟨8, RX8, TX8, 10, tyX8, _, KC_X8, rfl, rfl, by decide, fl_X8_9⟩
theorem fl_X8_15 : Cond.fieldLink RX8 15 "SideWork$Stack" "frames" "[I" ∈ wsG := inT1 (List.mem_of_getElem? (i := 183) rfl) rfl
theorem fg_X8_15 : FG LyC RX8 15 21 1 25 := ⟨8, RX8, TX8, 10, tyX8, _, KC_X8, rfl, rfl, by decide, fl_X8_15⟩
theorem fl_X8_18 : Cond.fieldLink RX8 18 "SideWork$Stack" "stages" "[I" ∈ wsG := inT1 (List.mem_of_getElem? (i := 184) rfl) rfl
theorem fg_X8_18 : FG LyC RX8 18 21 2 26 := ⟨8, RX8, TX8, 10, tyX8, _, KC_X8, rfl, rfl, by decide, fl_X8_18⟩
theorem fl_X8_21 : Cond.fieldLink RX8 21 "SideWork$Stack" "partValues" "[J" ∈ wsG := inT1 (List.mem_of_getElem? (i := 185) rfl) rfl
theorem fg_X8_21 : FG LyC RX8 21 21 3 27 := ⟨8, RX8, TX8, 10, tyX8, _, KC_X8, rfl, rfl, by decide, fl_X8_21⟩
theorem fl_X8_25 : Cond.fieldLink RX8 25 "SideWork$Stack" "marks" "[I" ∈ wsG := inT1 (List.mem_of_getElem? (i := 186) rfl) rfl
theorem fg_X8_25 : FG LyC RX8 25 21 4 28 := ⟨8, RX8, TX8, 10, tyX8, _, KC_X8, rfl, rfl, by decide, fl_X8_25⟩
theorem fl_X8_28 : Cond.fieldLink RX8 28 "SideWork$Stack" "heldFailures" "[I" ∈ wsG := inT1 (List.mem_of_getElem? (i := 187) rfl) rfl
theorem fg_X8_28 : FG LyC RX8 28 21 5 29 := ⟨8, RX8, TX8, 10, tyX8, _, KC_X8, rfl, rfl, by decide, fl_X8_28⟩
theorem fl_X8_31 : Cond.fieldLink RX8 31 "SideWork$Stack" "heldCodes" "[I" ∈ wsG := inT1 (List.mem_of_getElem? (i := 188) rfl) rfl
theorem fg_X8_31 : FG LyC RX8 31 21 6 30 := ⟨8, RX8, TX8, 10, tyX8, _, KC_X8, rfl, rfl, by decide, fl_X8_31⟩
theorem fl_X8_34 : Cond.fieldLink RX8 34 "SideWork$Stack" "heldAts" "[I" ∈ wsG := inT1 (List.mem_of_getElem? (i := 189) rfl) rfl
theorem fg_X8_34 : FG LyC RX8 34 21 7 31 := ⟨8, RX8, TX8, 10, tyX8, _, KC_X8, rfl, rfl, by decide, fl_X8_34⟩
theorem fl_X8_37 : Cond.fieldLink RX8 37 "SideWork$Stack" "height" "I" ∈ wsG := inT1 (List.mem_of_getElem? (i := 190) rfl) rfl
theorem fg_X8_37 : FG LyC RX8 37 21 8 0 := ⟨8, RX8, TX8, 10, tyX8, _, KC_X8, rfl, rfl, by decide, fl_X8_37⟩
theorem fp_X8_37 : FP LyC RX8 37 21 8 0 := ⟨8, RX8, TX8, 10, tyX8, _, KC_X8, rfl, rfl, by decide, fl_X8_37, rfl, rfl⟩
theorem fl_X8_41 : Cond.fieldLink RX8 41 "SideWork$Stack" "top" "I" ∈ wsG := inT1 (List.mem_of_getElem? (i := 191) rfl) rfl
theorem fg_X8_41 : FG LyC RX8 41 21 9 0 := ⟨8, RX8, TX8, 10, tyX8, _, KC_X8, rfl, rfl, by decide, fl_X8_41⟩
theorem fp_X8_41 : FP LyC RX8 41 21 9 0 := ⟨8, RX8, TX8, 10, tyX8, _, KC_X8, rfl, rfl, by decide, fl_X8_41, rfl, rfl⟩
theorem fl_X8_48 : Cond.fieldLink RX8 48 "SideWork$Course" "ending" "I" ∈ wsG := inT1 (List.mem_of_getElem? (i := 109) rfl) rfl
theorem fg_X8_48 : FG LyC RX8 48 10 3 0 := ⟨3, RX1, TX1, 7, tyX1, _, KC_X1, rfl, rfl, by decide, fl_X8_48⟩
theorem fp_X8_48 : FP LyC RX8 48 10 3 0 := ⟨3, RX1, TX1, 7, tyX1, _, KC_X1, rfl, rfl, by decide, fl_X8_48, rfl, rfl⟩
theorem fl_X8_53 : Cond.fieldLink RX8 53 "SideWork$Course" "code" "I" ∈ wsG := inT1 (List.mem_of_getElem? (i := 112) rfl) rfl
theorem fg_X8_53 : FG LyC RX8 53 10 4 0 := ⟨3, RX1, TX1, 7, tyX1, _, KC_X1, rfl, rfl, by decide, fl_X8_53⟩
theorem fp_X8_53 : FP LyC RX8 53 10 4 0 := ⟨3, RX1, TX1, 7, tyX1, _, KC_X1, rfl, rfl, by decide, fl_X8_53, rfl, rfl⟩
theorem fl_X8_56 : Cond.fieldLink RX8 56 "SideWork$Course" "at" "I" ∈ wsG := inT1 (List.mem_of_getElem? (i := 116) rfl) rfl
theorem fg_X8_56 : FG LyC RX8 56 10 5 0 := ⟨3, RX1, TX1, 7, tyX1, _, KC_X1, rfl, rfl, by decide, fl_X8_56⟩
theorem fp_X8_56 : FP LyC RX8 56 10 5 0 := ⟨3, RX1, TX1, 7, tyX1, _, KC_X1, rfl, rfl, by decide, fl_X8_56, rfl, rfl⟩
theorem cl_X1_25 : Cond.constantLong RX1 25 (4294967296 : Int64) ∈ wsG := inT1 (List.mem_of_getElem? (i := 92) rfl) rfl
theorem cl_X2_56 : Cond.constantLong RX2 56 (4294967296 : Int64) ∈ wsG := inT2 (List.mem_of_getElem? (i := 239) rfl) rfl
theorem cl_X3_21 : Cond.constantLong RX3 21 (4294967296 : Int64) ∈ wsG := inT2 (List.mem_of_getElem? (i := 86) rfl) rfl
theorem cl_X5_37 : Cond.constantLong RX5 37 (4294967296 : Int64) ∈ wsG := inT3 (List.mem_of_getElem? (i := 107) rfl) rfl
theorem ci_X6_77 : Cond.constant RX6 77 (100000 : Int32) ∈ wsG := inT2 (List.mem_of_getElem? (i := 103) rfl) rfl
theorem cl_X6_218 : Cond.constantLong RX6 218 (4294967296 : Int64) ∈ wsG := inT3 (List.mem_of_getElem? (i := 89) rfl) rfl
theorem cl_X7_31 : Cond.constantLong RX7 31 (4294967296 : Int64) ∈ wsG := inT1 (List.mem_of_getElem? (i := 64) rfl) rfl
theorem cl_X8_46 : Cond.constantLong RX8 46 (4294967296 : Int64) ∈ wsG := inT2 (List.mem_of_getElem? (i := 170) rfl) rfl
theorem cl_X9_7 : Cond.constantLong RX9 7 (4294967295 : Int64) ∈ wsG := inT2 (List.mem_of_getElem? (i := 140) rfl) rfl
abbrev mX0_init : Mi := (yX0_init, cX0_init, 1, none)
theorem mk_X0_init : MK mX0_init 0 := ⟨⟨by decide +kernel, by decide +kernel, by decide +kernel⟩, inT1 (List.mem_of_getElem? (i := 31) rfl) rfl, inT1 (List.mem_of_getElem? (i := 2) rfl) rfl⟩
abbrev mX0_has : Mi := (yX0_has, cX0_has, 2, (some .boolean))
theorem mk_X0_has : MK mX0_has 1 := ⟨⟨by decide +kernel, by decide +kernel, by decide +kernel⟩, inT2 (List.mem_of_getElem? (i := 32) rfl) rfl, inT1 (List.mem_of_getElem? (i := 2) rfl) rfl⟩
theorem mv_X0_has : MV mX0_has 1 := ⟨mk_X0_has, inT2 (List.mem_of_getElem? (i := 30) rfl) rfl, inT2 (List.mem_of_getElem? (i := 31) rfl) rfl⟩
abbrev mX0_given : Mi := (yX0_given, cX0_given, 3, (some .int))
theorem mk_X0_given : MK mX0_given 2 := ⟨⟨by decide +kernel, by decide +kernel, by decide +kernel⟩, inT2 (List.mem_of_getElem? (i := 55) rfl) rfl, inT1 (List.mem_of_getElem? (i := 2) rfl) rfl⟩
theorem mv_X0_given : MV mX0_given 2 := ⟨mk_X0_given, inT2 (List.mem_of_getElem? (i := 53) rfl) rfl, inT2 (List.mem_of_getElem? (i := 54) rfl) rfl⟩
abbrev mX0_part : Mi := (yX0_part, cX0_part, 3, (some .int))
theorem mk_X0_part : MK mX0_part 2 := ⟨⟨by decide +kernel, by decide +kernel, by decide +kernel⟩, inT2 (List.mem_of_getElem? (i := 161) rfl) rfl, inT1 (List.mem_of_getElem? (i := 2) rfl) rfl⟩
theorem mv_X0_part : MV mX0_part 2 := ⟨mk_X0_part, inT2 (List.mem_of_getElem? (i := 159) rfl) rfl, inT2 (List.mem_of_getElem? (i := 160) rfl) rfl⟩
abbrev mX0_partsAhead : Mi := (yX0_partsAhead, cX0_partsAhead, 2, (some .int))
theorem mk_X0_partsAhead : MK mX0_partsAhead 1 := ⟨⟨by decide +kernel, by decide +kernel, by decide +kernel⟩, inT2 (List.mem_of_getElem? (i := 209) rfl) rfl, inT1 (List.mem_of_getElem? (i := 2) rfl) rfl⟩
theorem mv_X0_partsAhead : MV mX0_partsAhead 1 := ⟨mk_X0_partsAhead, inT2 (List.mem_of_getElem? (i := 207) rfl) rfl, inT2 (List.mem_of_getElem? (i := 208) rfl) rfl⟩
abbrev mX0_refusalOf : Mi := (yX0_refusalOf, cX0_refusalOf, 6, (some .int))
theorem mk_X0_refusalOf : MK mX0_refusalOf 4 := ⟨⟨by decide +kernel, by decide +kernel, by decide +kernel⟩, inT2 (List.mem_of_getElem? (i := 22) rfl) rfl, inT1 (List.mem_of_getElem? (i := 2) rfl) rfl⟩
theorem mv_X0_refusalOf : MV mX0_refusalOf 4 := ⟨mk_X0_refusalOf, inT2 (List.mem_of_getElem? (i := 20) rfl) rfl, inT2 (List.mem_of_getElem? (i := 21) rfl) rfl⟩
abbrev mX0_isUnknown : Mi := (yX0_isUnknown, cX0_isUnknown, 3, (some .boolean))
theorem mk_X0_isUnknown : MK mX0_isUnknown 2 := ⟨⟨by decide +kernel, by decide +kernel, by decide +kernel⟩, inT2 (List.mem_of_getElem? (i := 28) rfl) rfl, inT1 (List.mem_of_getElem? (i := 2) rfl) rfl⟩
theorem mv_X0_isUnknown : MV mX0_isUnknown 2 := ⟨mk_X0_isUnknown, inT2 (List.mem_of_getElem? (i := 27) rfl) rfl, inP1 (List.mem_of_getElem? (i := 0) rfl)⟩
abbrev mX0_isOutside : Mi := (yX0_isOutside, cX0_isOutside, 3, (some .boolean))
theorem mk_X0_isOutside : MK mX0_isOutside 2 := ⟨⟨by decide +kernel, by decide +kernel, by decide +kernel⟩, inT2 (List.mem_of_getElem? (i := 36) rfl) rfl, inT1 (List.mem_of_getElem? (i := 2) rfl) rfl⟩
theorem mv_X0_isOutside : MV mX0_isOutside 2 := ⟨mk_X0_isOutside, inT2 (List.mem_of_getElem? (i := 35) rfl) rfl, inP1 (List.mem_of_getElem? (i := 1) rfl)⟩
abbrev mX0_add : Mi := (yX0_add, cX0_add, 6, (some .int))
theorem mk_X0_add : MK mX0_add 4 := ⟨⟨by decide +kernel, by decide +kernel, by decide +kernel⟩, inT2 (List.mem_of_getElem? (i := 42) rfl) rfl, inT1 (List.mem_of_getElem? (i := 2) rfl) rfl⟩
theorem mv_X0_add : MV mX0_add 4 := ⟨mk_X0_add, inT2 (List.mem_of_getElem? (i := 40) rfl) rfl, inT2 (List.mem_of_getElem? (i := 41) rfl) rfl⟩
abbrev mX0_sortParts : Mi := (yX0_sortParts, cX0_sortParts, 7, none)
theorem mk_X0_sortParts : MK mX0_sortParts 2 := ⟨⟨by decide +kernel, by decide +kernel, by decide +kernel⟩, inT2 (List.mem_of_getElem? (i := 46) rfl) rfl, inT1 (List.mem_of_getElem? (i := 2) rfl) rfl⟩
theorem mv_X0_sortParts : MV mX0_sortParts 2 := ⟨mk_X0_sortParts, inT2 (List.mem_of_getElem? (i := 45) rfl) rfl, inP1 (List.mem_of_getElem? (i := 2) rfl)⟩
abbrev mX1_init : Mi := (yX1_init, cX1_init, 1, none)
theorem mk_X1_init : MK mX1_init 0 := ⟨⟨by decide +kernel, by decide +kernel, by decide +kernel⟩, inT1 (List.mem_of_getElem? (i := 86) rfl) rfl, inT1 (List.mem_of_getElem? (i := 5) rfl) rfl⟩
abbrev mX1_restart : Mi := (yX1_restart, cX1_restart, 2, none)
theorem mk_X1_restart : MK mX1_restart 1 := ⟨⟨by decide +kernel, by decide +kernel, by decide +kernel⟩, inT1 (List.mem_of_getElem? (i := 91) rfl) rfl, inT1 (List.mem_of_getElem? (i := 5) rfl) rfl⟩
theorem mv_X1_restart : MV mX1_restart 1 := ⟨mk_X1_restart, inT1 (List.mem_of_getElem? (i := 89) rfl) rfl, inT1 (List.mem_of_getElem? (i := 90) rfl) rfl⟩
abbrev mX1_settle : Mi := (yX1_settle, cX1_settle, 1, none)
theorem mk_X1_settle : MK mX1_settle 0 := ⟨⟨by decide +kernel, by decide +kernel, by decide +kernel⟩, inT1 (List.mem_of_getElem? (i := 96) rfl) rfl, inT1 (List.mem_of_getElem? (i := 5) rfl) rfl⟩
theorem mv_X1_settle : MV mX1_settle 0 := ⟨mk_X1_settle, inT1 (List.mem_of_getElem? (i := 94) rfl) rfl, inT1 (List.mem_of_getElem? (i := 95) rfl) rfl⟩
abbrev mX1_goOn : Mi := (yX1_goOn, cX1_goOn, 4, none)
theorem mk_X1_goOn : MK mX1_goOn 3 := ⟨⟨by decide +kernel, by decide +kernel, by decide +kernel⟩, inT1 (List.mem_of_getElem? (i := 100) rfl) rfl, inT1 (List.mem_of_getElem? (i := 5) rfl) rfl⟩
theorem mv_X1_goOn : MV mX1_goOn 3 := ⟨mk_X1_goOn, inT1 (List.mem_of_getElem? (i := 98) rfl) rfl, inT1 (List.mem_of_getElem? (i := 99) rfl) rfl⟩
abbrev mX1_end : Mi := (yX1_end, cX1_end, 3, none)
theorem mk_X1_end : MK mX1_end 2 := ⟨⟨by decide +kernel, by decide +kernel, by decide +kernel⟩, inT3 (List.mem_of_getElem? (i := 39) rfl) rfl, inT1 (List.mem_of_getElem? (i := 5) rfl) rfl⟩
theorem mv_X1_end : MV mX1_end 2 := ⟨mk_X1_end, inT3 (List.mem_of_getElem? (i := 37) rfl) rfl, inT3 (List.mem_of_getElem? (i := 38) rfl) rfl⟩
abbrev mX1_arise : Mi := (yX1_arise, cX1_arise, 5, none)
theorem mk_X1_arise : MK mX1_arise 3 := ⟨⟨by decide +kernel, by decide +kernel, by decide +kernel⟩, inT3 (List.mem_of_getElem? (i := 47) rfl) rfl, inT1 (List.mem_of_getElem? (i := 5) rfl) rfl⟩
theorem mv_X1_arise : MV mX1_arise 3 := ⟨mk_X1_arise, inT3 (List.mem_of_getElem? (i := 45) rfl) rfl, inT3 (List.mem_of_getElem? (i := 46) rfl) rfl⟩
abbrev mX1_takesStep : Mi := (yX1_takesStep, cX1_takesStep, 2, (some .boolean))
theorem mk_X1_takesStep : MK mX1_takesStep 1 := ⟨⟨by decide +kernel, by decide +kernel, by decide +kernel⟩, inT2 (List.mem_of_getElem? (i := 94) rfl) rfl, inT1 (List.mem_of_getElem? (i := 5) rfl) rfl⟩
theorem mv_X1_takesStep : MV mX1_takesStep 1 := ⟨mk_X1_takesStep, inT2 (List.mem_of_getElem? (i := 92) rfl) rfl, inT2 (List.mem_of_getElem? (i := 93) rfl) rfl⟩
abbrev mX1_isFailing : Mi := (yX1_isFailing, cX1_isFailing, 1, (some .boolean))
theorem mk_X1_isFailing : MK mX1_isFailing 0 := ⟨⟨by decide +kernel, by decide +kernel, by decide +kernel⟩, inT2 (List.mem_of_getElem? (i := 124) rfl) rfl, inT1 (List.mem_of_getElem? (i := 5) rfl) rfl⟩
theorem mv_X1_isFailing : MV mX1_isFailing 0 := ⟨mk_X1_isFailing, inT2 (List.mem_of_getElem? (i := 122) rfl) rfl, inT2 (List.mem_of_getElem? (i := 123) rfl) rfl⟩
abbrev mX2_of : Mi := (yX2_of, cX2_of, 9, (some .int))
theorem mk_X2_of : MK mX2_of 6 := ⟨⟨by decide +kernel, by decide +kernel, by decide +kernel⟩, inT2 (List.mem_of_getElem? (i := 231) rfl) rfl, inT1 (List.mem_of_getElem? (i := 11) rfl) rfl⟩
theorem ms_X2_of : MS mX2_of 6 := ⟨mk_X2_of, inT2 (List.mem_of_getElem? (i := 230) rfl) rfl⟩
abbrev mX2_firstOf : Mi := (yX2_firstOf, cX2_firstOf, 3, (some .int))
theorem mk_X2_firstOf : MK mX2_firstOf 3 := ⟨⟨by decide +kernel, by decide +kernel, by decide +kernel⟩, inT3 (List.mem_of_getElem? (i := 2) rfl) rfl, inT1 (List.mem_of_getElem? (i := 11) rfl) rfl⟩
theorem ms_X2_firstOf : MS mX2_firstOf 3 := ⟨mk_X2_firstOf, inT3 (List.mem_of_getElem? (i := 1) rfl) rfl⟩
abbrev mX2_ofThing : Mi := (yX2_ofThing, cX2_ofThing, 3, (some .int))
theorem mk_X2_ofThing : MK mX2_ofThing 2 := ⟨⟨by decide +kernel, by decide +kernel, by decide +kernel⟩, inT2 (List.mem_of_getElem? (i := 238) rfl) rfl, inT1 (List.mem_of_getElem? (i := 11) rfl) rfl⟩
theorem ms_X2_ofThing : MS mX2_ofThing 2 := ⟨mk_X2_ofThing, inT2 (List.mem_of_getElem? (i := 237) rfl) rfl⟩
abbrev mX2_ofWhole : Mi := (yX2_ofWhole, cX2_ofWhole, 2, (some .int))
theorem mk_X2_ofWhole : MK mX2_ofWhole 1 := ⟨⟨by decide +kernel, by decide +kernel, by decide +kernel⟩, inT2 (List.mem_of_getElem? (i := 234) rfl) rfl, inT1 (List.mem_of_getElem? (i := 11) rfl) rfl⟩
theorem ms_X2_ofWhole : MS mX2_ofWhole 1 := ⟨mk_X2_ofWhole, inT2 (List.mem_of_getElem? (i := 233) rfl) rfl⟩
abbrev mX2_ofLength : Mi := (yX2_ofLength, cX2_ofLength, 1, (some .int))
theorem mk_X2_ofLength : MK mX2_ofLength 1 := ⟨⟨by decide +kernel, by decide +kernel, by decide +kernel⟩, inT3 (List.mem_of_getElem? (i := 6) rfl) rfl, inT1 (List.mem_of_getElem? (i := 11) rfl) rfl⟩
theorem ms_X2_ofLength : MS mX2_ofLength 1 := ⟨mk_X2_ofLength, inT3 (List.mem_of_getElem? (i := 5) rfl) rfl⟩
abbrev mX2_ofPlace : Mi := (yX2_ofPlace, cX2_ofPlace, 2, (some .int))
theorem mk_X2_ofPlace : MK mX2_ofPlace 2 := ⟨⟨by decide +kernel, by decide +kernel, by decide +kernel⟩, inT3 (List.mem_of_getElem? (i := 10) rfl) rfl, inT1 (List.mem_of_getElem? (i := 11) rfl) rfl⟩
theorem ms_X2_ofPlace : MS mX2_ofPlace 2 := ⟨mk_X2_ofPlace, inT3 (List.mem_of_getElem? (i := 9) rfl) rfl⟩
abbrev mX2_ofWrite : Mi := (yX2_ofWrite, cX2_ofWrite, 9, (some .int))
theorem mk_X2_ofWrite : MK mX2_ofWrite 4 := ⟨⟨by decide +kernel, by decide +kernel, by decide +kernel⟩, inT3 (List.mem_of_getElem? (i := 13) rfl) rfl, inT1 (List.mem_of_getElem? (i := 11) rfl) rfl⟩
theorem ms_X2_ofWrite : MS mX2_ofWrite 4 := ⟨mk_X2_ofWrite, inT3 (List.mem_of_getElem? (i := 12) rfl) rfl⟩
abbrev mX2_ofCopy : Mi := (yX2_ofCopy, cX2_ofCopy, 7, (some .int))
theorem mk_X2_ofCopy : MK mX2_ofCopy 4 := ⟨⟨by decide +kernel, by decide +kernel, by decide +kernel⟩, inT3 (List.mem_of_getElem? (i := 31) rfl) rfl, inT1 (List.mem_of_getElem? (i := 11) rfl) rfl⟩
theorem ms_X2_ofCopy : MS mX2_ofCopy 4 := ⟨mk_X2_ofCopy, inT3 (List.mem_of_getElem? (i := 30) rfl) rfl⟩
abbrev mX3_init : Mi := (yX3_init, cX3_init, 1, none)
theorem mk_X3_init : MK mX3_init 0 := ⟨⟨by decide +kernel, by decide +kernel, by decide +kernel⟩, inT1 (List.mem_of_getElem? (i := 139) rfl) rfl, inT1 (List.mem_of_getElem? (i := 6) rfl) rfl⟩
abbrev mX3_restart : Mi := (yX3_restart, cX3_restart, 1, none)
theorem mk_X3_restart : MK mX3_restart 0 := ⟨⟨by decide +kernel, by decide +kernel, by decide +kernel⟩, inT2 (List.mem_of_getElem? (i := 73) rfl) rfl, inT1 (List.mem_of_getElem? (i := 6) rfl) rfl⟩
theorem mv_X3_restart : MV mX3_restart 0 := ⟨mk_X3_restart, inT2 (List.mem_of_getElem? (i := 71) rfl) rfl, inT2 (List.mem_of_getElem? (i := 72) rfl) rfl⟩
abbrev mX3_open : Mi := (yX3_open, cX3_open, 3, (some .int))
theorem mk_X3_open : MK mX3_open 0 := ⟨⟨by decide +kernel, by decide +kernel, by decide +kernel⟩, inT2 (List.mem_of_getElem? (i := 85) rfl) rfl, inT1 (List.mem_of_getElem? (i := 6) rfl) rfl⟩
theorem mv_X3_open : MV mX3_open 0 := ⟨mk_X3_open, inT2 (List.mem_of_getElem? (i := 83) rfl) rfl, inT2 (List.mem_of_getElem? (i := 84) rfl) rfl⟩
abbrev mX3_read : Mi := (yX3_read, cX3_read, 3, (some .long))
theorem mk_X3_read : MK mX3_read 2 := ⟨⟨by decide +kernel, by decide +kernel, by decide +kernel⟩, inT3 (List.mem_of_getElem? (i := 174) rfl) rfl, inT1 (List.mem_of_getElem? (i := 6) rfl) rfl⟩
theorem mv_X3_read : MV mX3_read 2 := ⟨mk_X3_read, inT3 (List.mem_of_getElem? (i := 172) rfl) rfl, inT3 (List.mem_of_getElem? (i := 173) rfl) rfl⟩
abbrev mX3_write : Mi := (yX3_write, cX3_write, 5, none)
theorem mk_X3_write : MK mX3_write 3 := ⟨⟨by decide +kernel, by decide +kernel, by decide +kernel⟩, inT2 (List.mem_of_getElem? (i := 144) rfl) rfl, inT1 (List.mem_of_getElem? (i := 6) rfl) rfl⟩
theorem mv_X3_write : MV mX3_write 3 := ⟨mk_X3_write, inT2 (List.mem_of_getElem? (i := 142) rfl) rfl, inT2 (List.mem_of_getElem? (i := 143) rfl) rfl⟩
abbrev mX3_has : Mi := (yX3_has, cX3_has, 3, (some .boolean))
theorem mk_X3_has : MK mX3_has 2 := ⟨⟨by decide +kernel, by decide +kernel, by decide +kernel⟩, inT2 (List.mem_of_getElem? (i := 148) rfl) rfl, inT1 (List.mem_of_getElem? (i := 6) rfl) rfl⟩
theorem mv_X3_has : MV mX3_has 2 := ⟨mk_X3_has, inT2 (List.mem_of_getElem? (i := 147) rfl) rfl, inP1 (List.mem_of_getElem? (i := 7) rfl)⟩
abbrev mX5_init : Mi := (yX5_init, cX5_init, 1, none)
theorem mk_X5_init : MK mX5_init 0 := ⟨⟨by decide +kernel, by decide +kernel, by decide +kernel⟩, inT1 (List.mem_of_getElem? (i := 152) rfl) rfl, inT1 (List.mem_of_getElem? (i := 7) rfl) rfl⟩
abbrev mX5_restart : Mi := (yX5_restart, cX5_restart, 1, none)
theorem mk_X5_restart : MK mX5_restart 0 := ⟨⟨by decide +kernel, by decide +kernel, by decide +kernel⟩, inT2 (List.mem_of_getElem? (i := 77) rfl) rfl, inT1 (List.mem_of_getElem? (i := 7) rfl) rfl⟩
theorem mv_X5_restart : MV mX5_restart 0 := ⟨mk_X5_restart, inT2 (List.mem_of_getElem? (i := 75) rfl) rfl, inT2 (List.mem_of_getElem? (i := 76) rfl) rfl⟩
abbrev mX5_add : Mi := (yX5_add, cX5_add, 4, (some .long))
theorem mk_X5_add : MK mX5_add 2 := ⟨⟨by decide +kernel, by decide +kernel, by decide +kernel⟩, inT3 (List.mem_of_getElem? (i := 106) rfl) rfl, inT1 (List.mem_of_getElem? (i := 7) rfl) rfl⟩
theorem mv_X5_add : MV mX5_add 2 := ⟨mk_X5_add, inT3 (List.mem_of_getElem? (i := 104) rfl) rfl, inT3 (List.mem_of_getElem? (i := 105) rfl) rfl⟩
abbrev mX5_has : Mi := (yX5_has, cX5_has, 2, (some .boolean))
theorem mk_X5_has : MK mX5_has 1 := ⟨⟨by decide +kernel, by decide +kernel, by decide +kernel⟩, inT2 (List.mem_of_getElem? (i := 185) rfl) rfl, inT1 (List.mem_of_getElem? (i := 7) rfl) rfl⟩
theorem mv_X5_has : MV mX5_has 1 := ⟨mk_X5_has, inT2 (List.mem_of_getElem? (i := 184) rfl) rfl, inP1 (List.mem_of_getElem? (i := 10) rfl)⟩
abbrev mX5_actOf : Mi := (yX5_actOf, cX5_actOf, 2, (some .int))
theorem mk_X5_actOf : MK mX5_actOf 1 := ⟨⟨by decide +kernel, by decide +kernel, by decide +kernel⟩, inT3 (List.mem_of_getElem? (i := 138) rfl) rfl, inT1 (List.mem_of_getElem? (i := 7) rfl) rfl⟩
theorem mv_X5_actOf : MV mX5_actOf 1 := ⟨mk_X5_actOf, inT3 (List.mem_of_getElem? (i := 136) rfl) rfl, inT3 (List.mem_of_getElem? (i := 137) rfl) rfl⟩
abbrev mX5_frameOf : Mi := (yX5_frameOf, cX5_frameOf, 2, (some .int))
theorem mk_X5_frameOf : MK mX5_frameOf 1 := ⟨⟨by decide +kernel, by decide +kernel, by decide +kernel⟩, inT3 (List.mem_of_getElem? (i := 142) rfl) rfl, inT1 (List.mem_of_getElem? (i := 7) rfl) rfl⟩
theorem mv_X5_frameOf : MV mX5_frameOf 1 := ⟨mk_X5_frameOf, inT3 (List.mem_of_getElem? (i := 140) rfl) rfl, inT3 (List.mem_of_getElem? (i := 141) rfl) rfl⟩
abbrev mX5_stateOf : Mi := (yX5_stateOf, cX5_stateOf, 2, (some .int))
theorem mk_X5_stateOf : MK mX5_stateOf 1 := ⟨⟨by decide +kernel, by decide +kernel, by decide +kernel⟩, inT3 (List.mem_of_getElem? (i := 122) rfl) rfl, inT1 (List.mem_of_getElem? (i := 7) rfl) rfl⟩
theorem mv_X5_stateOf : MV mX5_stateOf 1 := ⟨mk_X5_stateOf, inT3 (List.mem_of_getElem? (i := 120) rfl) rfl, inT3 (List.mem_of_getElem? (i := 121) rfl) rfl⟩
abbrev mX5_failureOf : Mi := (yX5_failureOf, cX5_failureOf, 2, (some .int))
theorem mk_X5_failureOf : MK mX5_failureOf 1 := ⟨⟨by decide +kernel, by decide +kernel, by decide +kernel⟩, inT3 (List.mem_of_getElem? (i := 130) rfl) rfl, inT1 (List.mem_of_getElem? (i := 7) rfl) rfl⟩
theorem mv_X5_failureOf : MV mX5_failureOf 1 := ⟨mk_X5_failureOf, inT3 (List.mem_of_getElem? (i := 128) rfl) rfl, inT3 (List.mem_of_getElem? (i := 129) rfl) rfl⟩
abbrev mX5_codeOf : Mi := (yX5_codeOf, cX5_codeOf, 2, (some .int))
theorem mk_X5_codeOf : MK mX5_codeOf 1 := ⟨⟨by decide +kernel, by decide +kernel, by decide +kernel⟩, inT3 (List.mem_of_getElem? (i := 134) rfl) rfl, inT1 (List.mem_of_getElem? (i := 7) rfl) rfl⟩
theorem mv_X5_codeOf : MV mX5_codeOf 1 := ⟨mk_X5_codeOf, inT3 (List.mem_of_getElem? (i := 132) rfl) rfl, inT3 (List.mem_of_getElem? (i := 133) rfl) rfl⟩
abbrev mX5_valueOf : Mi := (yX5_valueOf, cX5_valueOf, 2, (some .long))
theorem mk_X5_valueOf : MK mX5_valueOf 1 := ⟨⟨by decide +kernel, by decide +kernel, by decide +kernel⟩, inT3 (List.mem_of_getElem? (i := 126) rfl) rfl, inT1 (List.mem_of_getElem? (i := 7) rfl) rfl⟩
theorem mv_X5_valueOf : MV mX5_valueOf 1 := ⟨mk_X5_valueOf, inT3 (List.mem_of_getElem? (i := 124) rfl) rfl, inT3 (List.mem_of_getElem? (i := 125) rfl) rfl⟩
abbrev mX5_setState : Mi := (yX5_setState, cX5_setState, 3, none)
theorem mk_X5_setState : MK mX5_setState 2 := ⟨⟨by decide +kernel, by decide +kernel, by decide +kernel⟩, inT2 (List.mem_of_getElem? (i := 189) rfl) rfl, inT1 (List.mem_of_getElem? (i := 7) rfl) rfl⟩
theorem mv_X5_setState : MV mX5_setState 2 := ⟨mk_X5_setState, inT2 (List.mem_of_getElem? (i := 187) rfl) rfl, inT2 (List.mem_of_getElem? (i := 188) rfl) rfl⟩
abbrev mX5_finish : Mi := (yX5_finish, cX5_finish, 4, none)
theorem mk_X5_finish : MK mX5_finish 2 := ⟨⟨by decide +kernel, by decide +kernel, by decide +kernel⟩, inT3 (List.mem_of_getElem? (i := 146) rfl) rfl, inT1 (List.mem_of_getElem? (i := 7) rfl) rfl⟩
theorem mv_X5_finish : MV mX5_finish 2 := ⟨mk_X5_finish, inT3 (List.mem_of_getElem? (i := 144) rfl) rfl, inT3 (List.mem_of_getElem? (i := 145) rfl) rfl⟩
abbrev mX5_giveUp : Mi := (yX5_giveUp, cX5_giveUp, 4, none)
theorem mk_X5_giveUp : MK mX5_giveUp 3 := ⟨⟨by decide +kernel, by decide +kernel, by decide +kernel⟩, inT2 (List.mem_of_getElem? (i := 181) rfl) rfl, inT1 (List.mem_of_getElem? (i := 7) rfl) rfl⟩
theorem mv_X5_giveUp : MV mX5_giveUp 3 := ⟨mk_X5_giveUp, inT2 (List.mem_of_getElem? (i := 179) rfl) rfl, inT2 (List.mem_of_getElem? (i := 180) rfl) rfl⟩
abbrev mX6_init : Mi := (yX6_init, cX6_init, 2, none)
theorem mk_X6_init : MK mX6_init 1 := ⟨⟨by decide +kernel, by decide +kernel, by decide +kernel⟩, inT1 (List.mem_of_getElem? (i := 52) rfl) rfl, inT1 (List.mem_of_getElem? (i := 3) rfl) rfl⟩
abbrev mX6_restart : Mi := (yX6_restart, cX6_restart, 2, none)
theorem mk_X6_restart : MK mX6_restart 1 := ⟨⟨by decide +kernel, by decide +kernel, by decide +kernel⟩, inT2 (List.mem_of_getElem? (i := 67) rfl) rfl, inT1 (List.mem_of_getElem? (i := 3) rfl) rfl⟩
theorem mv_X6_restart : MV mX6_restart 1 := ⟨mk_X6_restart, inT2 (List.mem_of_getElem? (i := 65) rfl) rfl, inT2 (List.mem_of_getElem? (i := 66) rfl) rfl⟩
abbrev mX6_perform : Mi := (yX6_perform, cX6_perform, 4, none)
theorem mk_X6_perform : MK mX6_perform 2 := ⟨⟨by decide +kernel, by decide +kernel, by decide +kernel⟩, inT2 (List.mem_of_getElem? (i := 63) rfl) rfl, inT1 (List.mem_of_getElem? (i := 3) rfl) rfl⟩
theorem mv_X6_perform : MV mX6_perform 2 := ⟨mk_X6_perform, inT2 (List.mem_of_getElem? (i := 61) rfl) rfl, inT2 (List.mem_of_getElem? (i := 62) rfl) rfl⟩
abbrev mX6_begin : Mi := (yX6_begin, cX6_begin, 3, none)
theorem mk_X6_begin : MK mX6_begin 2 := ⟨⟨by decide +kernel, by decide +kernel, by decide +kernel⟩, inT2 (List.mem_of_getElem? (i := 90) rfl) rfl, inT1 (List.mem_of_getElem? (i := 3) rfl) rfl⟩
theorem mv_X6_begin : MV mX6_begin 2 := ⟨mk_X6_begin, inT2 (List.mem_of_getElem? (i := 89) rfl) rfl, inP1 (List.mem_of_getElem? (i := 3) rfl)⟩
abbrev mX6_beginPart : Mi := (yX6_beginPart, cX6_beginPart, 2, none)
theorem mk_X6_beginPart : MK mX6_beginPart 1 := ⟨⟨by decide +kernel, by decide +kernel, by decide +kernel⟩, inT2 (List.mem_of_getElem? (i := 157) rfl) rfl, inT1 (List.mem_of_getElem? (i := 3) rfl) rfl⟩
theorem mv_X6_beginPart : MV mX6_beginPart 1 := ⟨mk_X6_beginPart, inT2 (List.mem_of_getElem? (i := 156) rfl) rfl, inP1 (List.mem_of_getElem? (i := 8) rfl)⟩
abbrev mX6_give : Mi := (yX6_give, cX6_give, 3, none)
theorem mk_X6_give : MK mX6_give 1 := ⟨⟨by decide +kernel, by decide +kernel, by decide +kernel⟩, inT3 (List.mem_of_getElem? (i := 59) rfl) rfl, inT1 (List.mem_of_getElem? (i := 3) rfl) rfl⟩
theorem mv_X6_give : MV mX6_give 1 := ⟨mk_X6_give, inT3 (List.mem_of_getElem? (i := 58) rfl) rfl, inP2 (List.mem_of_getElem? (i := 1) rfl)⟩
abbrev mX6_fail : Mi := (yX6_fail, cX6_fail, 4, none)
theorem mk_X6_fail : MK mX6_fail 2 := ⟨⟨by decide +kernel, by decide +kernel, by decide +kernel⟩, inT3 (List.mem_of_getElem? (i := 43) rfl) rfl, inT1 (List.mem_of_getElem? (i := 3) rfl) rfl⟩
theorem mv_X6_fail : MV mX6_fail 2 := ⟨mk_X6_fail, inT3 (List.mem_of_getElem? (i := 42) rfl) rfl, inP1 (List.mem_of_getElem? (i := 14) rfl)⟩
abbrev mX6_endRun : Mi := (yX6_endRun, cX6_endRun, 3, none)
theorem mk_X6_endRun : MK mX6_endRun 1 := ⟨⟨by decide +kernel, by decide +kernel, by decide +kernel⟩, inT3 (List.mem_of_getElem? (i := 35) rfl) rfl, inT1 (List.mem_of_getElem? (i := 3) rfl) rfl⟩
theorem mv_X6_endRun : MV mX6_endRun 1 := ⟨mk_X6_endRun, inT3 (List.mem_of_getElem? (i := 34) rfl) rfl, inP1 (List.mem_of_getElem? (i := 13) rfl)⟩
abbrev mX6_comesToWork : Mi := (yX6_comesToWork, cX6_comesToWork, 3, (some .boolean))
theorem mk_X6_comesToWork : MK mX6_comesToWork 0 := ⟨⟨by decide +kernel, by decide +kernel, by decide +kernel⟩, inT2 (List.mem_of_getElem? (i := 205) rfl) rfl, inT1 (List.mem_of_getElem? (i := 3) rfl) rfl⟩
theorem mv_X6_comesToWork : MV mX6_comesToWork 0 := ⟨mk_X6_comesToWork, inT2 (List.mem_of_getElem? (i := 204) rfl) rfl, inP1 (List.mem_of_getElem? (i := 11) rfl)⟩
abbrev mX6_isStopped : Mi := (yX6_isStopped, cX6_isStopped, 7, (some .boolean))
theorem mk_X6_isStopped : MK mX6_isStopped 1 := ⟨⟨by decide +kernel, by decide +kernel, by decide +kernel⟩, inT2 (List.mem_of_getElem? (i := 213) rfl) rfl, inT1 (List.mem_of_getElem? (i := 3) rfl) rfl⟩
theorem mv_X6_isStopped : MV mX6_isStopped 1 := ⟨mk_X6_isStopped, inT2 (List.mem_of_getElem? (i := 212) rfl) rfl, inP1 (List.mem_of_getElem? (i := 12) rfl)⟩
abbrev mX6_work : Mi := (yX6_work, cX6_work, 2, none)
theorem mk_X6_work : MK mX6_work 0 := ⟨⟨by decide +kernel, by decide +kernel, by decide +kernel⟩, inT3 (List.mem_of_getElem? (i := 51) rfl) rfl, inT1 (List.mem_of_getElem? (i := 3) rfl) rfl⟩
theorem mv_X6_work : MV mX6_work 0 := ⟨mk_X6_work, inT3 (List.mem_of_getElem? (i := 50) rfl) rfl, inP1 (List.mem_of_getElem? (i := 15) rfl)⟩
abbrev mX6_keep : Mi := (yX6_keep, cX6_keep, 1, none)
theorem mk_X6_keep : MK mX6_keep 0 := ⟨⟨by decide +kernel, by decide +kernel, by decide +kernel⟩, inT3 (List.mem_of_getElem? (i := 55) rfl) rfl, inT1 (List.mem_of_getElem? (i := 3) rfl) rfl⟩
theorem mv_X6_keep : MV mX6_keep 0 := ⟨mk_X6_keep, inT3 (List.mem_of_getElem? (i := 54) rfl) rfl, inP2 (List.mem_of_getElem? (i := 0) rfl)⟩
abbrev mX6_doAlways : Mi := (yX6_doAlways, cX6_doAlways, 1, none)
theorem mk_X6_doAlways : MK mX6_doAlways 0 := ⟨⟨by decide +kernel, by decide +kernel, by decide +kernel⟩, inT3 (List.mem_of_getElem? (i := 67) rfl) rfl, inT1 (List.mem_of_getElem? (i := 3) rfl) rfl⟩
theorem mv_X6_doAlways : MV mX6_doAlways 0 := ⟨mk_X6_doAlways, inT3 (List.mem_of_getElem? (i := 66) rfl) rfl, inP2 (List.mem_of_getElem? (i := 2) rfl)⟩
abbrev mX6_choose : Mi := (yX6_choose, cX6_choose, 1, none)
theorem mk_X6_choose : MK mX6_choose 0 := ⟨⟨by decide +kernel, by decide +kernel, by decide +kernel⟩, inT3 (List.mem_of_getElem? (i := 80) rfl) rfl, inT1 (List.mem_of_getElem? (i := 3) rfl) rfl⟩
theorem mv_X6_choose : MV mX6_choose 0 := ⟨mk_X6_choose, inT3 (List.mem_of_getElem? (i := 79) rfl) rfl, inP2 (List.mem_of_getElem? (i := 3) rfl)⟩
abbrev mX6_loop : Mi := (yX6_loop, cX6_loop, 1, none)
theorem mk_X6_loop : MK mX6_loop 0 := ⟨⟨by decide +kernel, by decide +kernel, by decide +kernel⟩, inT3 (List.mem_of_getElem? (i := 84) rfl) rfl, inT1 (List.mem_of_getElem? (i := 3) rfl) rfl⟩
theorem mv_X6_loop : MV mX6_loop 0 := ⟨mk_X6_loop, inT3 (List.mem_of_getElem? (i := 83) rfl) rfl, inP2 (List.mem_of_getElem? (i := 4) rfl)⟩
abbrev mX6_askAgain : Mi := (yX6_askAgain, cX6_askAgain, 1, none)
theorem mk_X6_askAgain : MK mX6_askAgain 0 := ⟨⟨by decide +kernel, by decide +kernel, by decide +kernel⟩, inT3 (List.mem_of_getElem? (i := 88) rfl) rfl, inT1 (List.mem_of_getElem? (i := 3) rfl) rfl⟩
theorem mv_X6_askAgain : MV mX6_askAgain 0 := ⟨mk_X6_askAgain, inT3 (List.mem_of_getElem? (i := 87) rfl) rfl, inP2 (List.mem_of_getElem? (i := 5) rfl)⟩
abbrev mX6_call : Mi := (yX6_call, cX6_call, 1, none)
theorem mk_X6_call : MK mX6_call 0 := ⟨⟨by decide +kernel, by decide +kernel, by decide +kernel⟩, inT3 (List.mem_of_getElem? (i := 93) rfl) rfl, inT1 (List.mem_of_getElem? (i := 3) rfl) rfl⟩
theorem mv_X6_call : MV mX6_call 0 := ⟨mk_X6_call, inT3 (List.mem_of_getElem? (i := 92) rfl) rfl, inP2 (List.mem_of_getElem? (i := 6) rfl)⟩
abbrev mX6_enter : Mi := (yX6_enter, cX6_enter, 3, none)
theorem mk_X6_enter : MK mX6_enter 1 := ⟨⟨by decide +kernel, by decide +kernel, by decide +kernel⟩, inT3 (List.mem_of_getElem? (i := 97) rfl) rfl, inT1 (List.mem_of_getElem? (i := 3) rfl) rfl⟩
theorem mv_X6_enter : MV mX6_enter 1 := ⟨mk_X6_enter, inT3 (List.mem_of_getElem? (i := 96) rfl) rfl, inP2 (List.mem_of_getElem? (i := 7) rfl)⟩
abbrev mX6_delay : Mi := (yX6_delay, cX6_delay, 1, none)
theorem mk_X6_delay : MK mX6_delay 0 := ⟨⟨by decide +kernel, by decide +kernel, by decide +kernel⟩, inT3 (List.mem_of_getElem? (i := 102) rfl) rfl, inT1 (List.mem_of_getElem? (i := 3) rfl) rfl⟩
theorem mv_X6_delay : MV mX6_delay 0 := ⟨mk_X6_delay, inT3 (List.mem_of_getElem? (i := 101) rfl) rfl, inP2 (List.mem_of_getElem? (i := 8) rfl)⟩
abbrev mX6_force : Mi := (yX6_force, cX6_force, 2, none)
theorem mk_X6_force : MK mX6_force 1 := ⟨⟨by decide +kernel, by decide +kernel, by decide +kernel⟩, inT3 (List.mem_of_getElem? (i := 114) rfl) rfl, inT1 (List.mem_of_getElem? (i := 3) rfl) rfl⟩
theorem mv_X6_force : MV mX6_force 1 := ⟨mk_X6_force, inT3 (List.mem_of_getElem? (i := 113) rfl) rfl, inP2 (List.mem_of_getElem? (i := 9) rfl)⟩
abbrev mX6_workLater : Mi := (yX6_workLater, cX6_workLater, 2, none)
theorem mk_X6_workLater : MK mX6_workLater 1 := ⟨⟨by decide +kernel, by decide +kernel, by decide +kernel⟩, inT3 (List.mem_of_getElem? (i := 118) rfl) rfl, inT1 (List.mem_of_getElem? (i := 3) rfl) rfl⟩
theorem mv_X6_workLater : MV mX6_workLater 1 := ⟨mk_X6_workLater, inT3 (List.mem_of_getElem? (i := 117) rfl) rfl, inP2 (List.mem_of_getElem? (i := 10) rfl)⟩
abbrev mX6_copy : Mi := (yX6_copy, cX6_copy, 3, none)
theorem mk_X6_copy : MK mX6_copy 0 := ⟨⟨by decide +kernel, by decide +kernel, by decide +kernel⟩, inT3 (List.mem_of_getElem? (i := 150) rfl) rfl, inT1 (List.mem_of_getElem? (i := 3) rfl) rfl⟩
theorem mv_X6_copy : MV mX6_copy 0 := ⟨mk_X6_copy, inT3 (List.mem_of_getElem? (i := 149) rfl) rfl, inP2 (List.mem_of_getElem? (i := 11) rfl)⟩
abbrev mX6_workPlainly : Mi := (yX6_workPlainly, cX6_workPlainly, 7, none)
theorem mk_X6_workPlainly : MK mX6_workPlainly 1 := ⟨⟨by decide +kernel, by decide +kernel, by decide +kernel⟩, inT3 (List.mem_of_getElem? (i := 166) rfl) rfl, inT1 (List.mem_of_getElem? (i := 3) rfl) rfl⟩
theorem mv_X6_workPlainly : MV mX6_workPlainly 1 := ⟨mk_X6_workPlainly, inT3 (List.mem_of_getElem? (i := 165) rfl) rfl, inP2 (List.mem_of_getElem? (i := 12) rfl)⟩
abbrev mX6_reckon : Mi := (yX6_reckon, cX6_reckon, 9, (some .long))
theorem mk_X6_reckon : MK mX6_reckon 4 := ⟨⟨by decide +kernel, by decide +kernel, by decide +kernel⟩, inT3 (List.mem_of_getElem? (i := 170) rfl) rfl, inT1 (List.mem_of_getElem? (i := 3) rfl) rfl⟩
theorem mv_X6_reckon : MV mX6_reckon 4 := ⟨mk_X6_reckon, inT3 (List.mem_of_getElem? (i := 169) rfl) rfl, inP2 (List.mem_of_getElem? (i := 13) rfl)⟩
abbrev mX6_change : Mi := (yX6_change, cX6_change, 9, (some .long))
theorem mk_X6_change : MK mX6_change 5 := ⟨⟨by decide +kernel, by decide +kernel, by decide +kernel⟩, inT3 (List.mem_of_getElem? (i := 181) rfl) rfl, inT1 (List.mem_of_getElem? (i := 3) rfl) rfl⟩
theorem mv_X6_change : MV mX6_change 5 := ⟨mk_X6_change, inT3 (List.mem_of_getElem? (i := 180) rfl) rfl, inP2 (List.mem_of_getElem? (i := 14) rfl)⟩
abbrev mX6_put : Mi := (yX6_put, cX6_put, 4, (some .long))
theorem mk_X6_put : MK mX6_put 2 := ⟨⟨by decide +kernel, by decide +kernel, by decide +kernel⟩, inT3 (List.mem_of_getElem? (i := 197) rfl) rfl, inT1 (List.mem_of_getElem? (i := 3) rfl) rfl⟩
theorem mv_X6_put : MV mX6_put 2 := ⟨mk_X6_put, inT3 (List.mem_of_getElem? (i := 196) rfl) rfl, inP2 (List.mem_of_getElem? (i := 15) rfl)⟩
abbrev mX6_tell : Mi := (yX6_tell, cX6_tell, 3, (some .long))
theorem mk_X6_tell : MK mX6_tell 1 := ⟨⟨by decide +kernel, by decide +kernel, by decide +kernel⟩, inT3 (List.mem_of_getElem? (i := 202) rfl) rfl, inT1 (List.mem_of_getElem? (i := 3) rfl) rfl⟩
theorem mv_X6_tell : MV mX6_tell 1 := ⟨mk_X6_tell, inT3 (List.mem_of_getElem? (i := 201) rfl) rfl, inP3 (List.mem_of_getElem? (i := 0) rfl)⟩
abbrev mX6_leave : Mi := (yX6_leave, cX6_leave, 3, none)
theorem mk_X6_leave : MK mX6_leave 0 := ⟨⟨by decide +kernel, by decide +kernel, by decide +kernel⟩, inT2 (List.mem_of_getElem? (i := 111) rfl) rfl, inT1 (List.mem_of_getElem? (i := 3) rfl) rfl⟩
theorem mv_X6_leave : MV mX6_leave 0 := ⟨mk_X6_leave, inT2 (List.mem_of_getElem? (i := 110) rfl) rfl, inP1 (List.mem_of_getElem? (i := 4) rfl)⟩
abbrev mX6_isCaught : Mi := (yX6_isCaught, cX6_isCaught, 2, (some .boolean))
theorem mk_X6_isCaught : MK mX6_isCaught 0 := ⟨⟨by decide +kernel, by decide +kernel, by decide +kernel⟩, inT2 (List.mem_of_getElem? (i := 128) rfl) rfl, inT1 (List.mem_of_getElem? (i := 3) rfl) rfl⟩
theorem mv_X6_isCaught : MV mX6_isCaught 0 := ⟨mk_X6_isCaught, inT2 (List.mem_of_getElem? (i := 127) rfl) rfl, inP1 (List.mem_of_getElem? (i := 5) rfl)⟩
abbrev mX6_takeUp : Mi := (yX6_takeUp, cX6_takeUp, 1, none)
theorem mk_X6_takeUp : MK mX6_takeUp 0 := ⟨⟨by decide +kernel, by decide +kernel, by decide +kernel⟩, inT2 (List.mem_of_getElem? (i := 132) rfl) rfl, inT1 (List.mem_of_getElem? (i := 3) rfl) rfl⟩
theorem mv_X6_takeUp : MV mX6_takeUp 0 := ⟨mk_X6_takeUp, inT2 (List.mem_of_getElem? (i := 131) rfl) rfl, inP1 (List.mem_of_getElem? (i := 6) rfl)⟩
abbrev mX6_leaveLater : Mi := (yX6_leaveLater, cX6_leaveLater, 2, none)
theorem mk_X6_leaveLater : MK mX6_leaveLater 1 := ⟨⟨by decide +kernel, by decide +kernel, by decide +kernel⟩, inT2 (List.mem_of_getElem? (i := 177) rfl) rfl, inT1 (List.mem_of_getElem? (i := 3) rfl) rfl⟩
theorem mv_X6_leaveLater : MV mX6_leaveLater 1 := ⟨mk_X6_leaveLater, inT2 (List.mem_of_getElem? (i := 176) rfl) rfl, inP1 (List.mem_of_getElem? (i := 9) rfl)⟩
abbrev mX7_init : Mi := (yX7_init, cX7_init, 1, none)
theorem mk_X7_init : MK mX7_init 0 := ⟨⟨by decide +kernel, by decide +kernel, by decide +kernel⟩, inT1 (List.mem_of_getElem? (i := 58) rfl) rfl, inT1 (List.mem_of_getElem? (i := 4) rfl) rfl⟩
abbrev mX7_isBox : Mi := (yX7_isBox, cX7_isBox, 1, (some .boolean))
theorem mk_X7_isBox : MK mX7_isBox 1 := ⟨⟨by decide +kernel, by decide +kernel, by decide +kernel⟩, inT3 (List.mem_of_getElem? (i := 224) rfl) rfl, inT1 (List.mem_of_getElem? (i := 4) rfl) rfl⟩
theorem ms_X7_isBox : MS mX7_isBox 1 := ⟨mk_X7_isBox, inT3 (List.mem_of_getElem? (i := 223) rfl) rfl⟩
abbrev mX7_cellOf : Mi := (yX7_cellOf, cX7_cellOf, 3, (some .int))
theorem mk_X7_cellOf : MK mX7_cellOf 2 := ⟨⟨by decide +kernel, by decide +kernel, by decide +kernel⟩, inT3 (List.mem_of_getElem? (i := 157) rfl) rfl, inT1 (List.mem_of_getElem? (i := 4) rfl) rfl⟩
theorem ms_X7_cellOf : MS mX7_cellOf 2 := ⟨mk_X7_cellOf, inT3 (List.mem_of_getElem? (i := 156) rfl) rfl⟩
abbrev mX7_restart : Mi := (yX7_restart, cX7_restart, 2, none)
theorem mk_X7_restart : MK mX7_restart 0 := ⟨⟨by decide +kernel, by decide +kernel, by decide +kernel⟩, inT1 (List.mem_of_getElem? (i := 63) rfl) rfl, inT1 (List.mem_of_getElem? (i := 4) rfl) rfl⟩
theorem mv_X7_restart : MV mX7_restart 0 := ⟨mk_X7_restart, inT1 (List.mem_of_getElem? (i := 61) rfl) rfl, inT1 (List.mem_of_getElem? (i := 62) rfl) rfl⟩
abbrev mX7_newRow : Mi := (yX7_newRow, cX7_newRow, 7, (some .long))
theorem mk_X7_newRow : MK mX7_newRow 2 := ⟨⟨by decide +kernel, by decide +kernel, by decide +kernel⟩, inT3 (List.mem_of_getElem? (i := 185) rfl) rfl, inT1 (List.mem_of_getElem? (i := 4) rfl) rfl⟩
theorem mv_X7_newRow : MV mX7_newRow 2 := ⟨mk_X7_newRow, inT3 (List.mem_of_getElem? (i := 183) rfl) rfl, inT3 (List.mem_of_getElem? (i := 184) rfl) rfl⟩
abbrev mX7_newLink : Mi := (yX7_newLink, cX7_newLink, 5, (some .long))
theorem mk_X7_newLink : MK mX7_newLink 2 := ⟨⟨by decide +kernel, by decide +kernel, by decide +kernel⟩, inT3 (List.mem_of_getElem? (i := 191) rfl) rfl, inT1 (List.mem_of_getElem? (i := 4) rfl) rfl⟩
theorem mv_X7_newLink : MV mX7_newLink 2 := ⟨mk_X7_newLink, inT3 (List.mem_of_getElem? (i := 189) rfl) rfl, inT3 (List.mem_of_getElem? (i := 190) rfl) rfl⟩
abbrev mX7_read : Mi := (yX7_read, cX7_read, 2, (some .long))
theorem mk_X7_read : MK mX7_read 1 := ⟨⟨by decide +kernel, by decide +kernel, by decide +kernel⟩, inT2 (List.mem_of_getElem? (i := 228) rfl) rfl, inT1 (List.mem_of_getElem? (i := 4) rfl) rfl⟩
theorem mv_X7_read : MV mX7_read 1 := ⟨mk_X7_read, inT2 (List.mem_of_getElem? (i := 226) rfl) rfl, inT2 (List.mem_of_getElem? (i := 227) rfl) rfl⟩
abbrev mX7_write : Mi := (yX7_write, cX7_write, 4, none)
theorem mk_X7_write : MK mX7_write 2 := ⟨⟨by decide +kernel, by decide +kernel, by decide +kernel⟩, inT3 (List.mem_of_getElem? (i := 162) rfl) rfl, inT1 (List.mem_of_getElem? (i := 4) rfl) rfl⟩
theorem mv_X7_write : MV mX7_write 2 := ⟨mk_X7_write, inT3 (List.mem_of_getElem? (i := 160) rfl) rfl, inT3 (List.mem_of_getElem? (i := 161) rfl) rfl⟩
abbrev mX7_copied : Mi := (yX7_copied, cX7_copied, 9, (some .boolean))
theorem mk_X7_copied : MK mX7_copied 3 := ⟨⟨by decide +kernel, by decide +kernel, by decide +kernel⟩, inT3 (List.mem_of_getElem? (i := 154) rfl) rfl, inT1 (List.mem_of_getElem? (i := 4) rfl) rfl⟩
theorem mv_X7_copied : MV mX7_copied 3 := ⟨mk_X7_copied, inT3 (List.mem_of_getElem? (i := 152) rfl) rfl, inT3 (List.mem_of_getElem? (i := 153) rfl) rfl⟩
abbrev mX7_changesSoFar : Mi := (yX7_changesSoFar, cX7_changesSoFar, 1, (some .int))
theorem mk_X7_changesSoFar : MK mX7_changesSoFar 0 := ⟨⟨by decide +kernel, by decide +kernel, by decide +kernel⟩, inT2 (List.mem_of_getElem? (i := 98) rfl) rfl, inT1 (List.mem_of_getElem? (i := 4) rfl) rfl⟩
theorem mv_X7_changesSoFar : MV mX7_changesSoFar 0 := ⟨mk_X7_changesSoFar, inT2 (List.mem_of_getElem? (i := 96) rfl) rfl, inT2 (List.mem_of_getElem? (i := 97) rfl) rfl⟩
abbrev mX7_undoBackTo : Mi := (yX7_undoBackTo, cX7_undoBackTo, 2, none)
theorem mk_X7_undoBackTo : MK mX7_undoBackTo 1 := ⟨⟨by decide +kernel, by decide +kernel, by decide +kernel⟩, inT2 (List.mem_of_getElem? (i := 197) rfl) rfl, inT1 (List.mem_of_getElem? (i := 4) rfl) rfl⟩
theorem mv_X7_undoBackTo : MV mX7_undoBackTo 1 := ⟨mk_X7_undoBackTo, inT2 (List.mem_of_getElem? (i := 195) rfl) rfl, inT2 (List.mem_of_getElem? (i := 196) rfl) rfl⟩
abbrev mX7_lengthOf : Mi := (yX7_lengthOf, cX7_lengthOf, 3, (some .int))
theorem mk_X7_lengthOf : MK mX7_lengthOf 1 := ⟨⟨by decide +kernel, by decide +kernel, by decide +kernel⟩, inT2 (List.mem_of_getElem? (i := 217) rfl) rfl, inT1 (List.mem_of_getElem? (i := 4) rfl) rfl⟩
theorem mv_X7_lengthOf : MV mX7_lengthOf 1 := ⟨mk_X7_lengthOf, inT2 (List.mem_of_getElem? (i := 215) rfl) rfl, inT2 (List.mem_of_getElem? (i := 216) rfl) rfl⟩
abbrev mX7_measure : Mi := (yX7_measure, cX7_measure, 3, (some .int))
theorem mk_X7_measure : MK mX7_measure 1 := ⟨⟨by decide +kernel, by decide +kernel, by decide +kernel⟩, inT3 (List.mem_of_getElem? (i := 215) rfl) rfl, inT1 (List.mem_of_getElem? (i := 4) rfl) rfl⟩
theorem mv_X7_measure : MV mX7_measure 1 := ⟨mk_X7_measure, inT3 (List.mem_of_getElem? (i := 213) rfl) rfl, inT3 (List.mem_of_getElem? (i := 214) rfl) rfl⟩
abbrev mX8_init : Mi := (yX8_init, cX8_init, 1, none)
theorem mk_X8_init : MK mX8_init 0 := ⟨⟨by decide +kernel, by decide +kernel, by decide +kernel⟩, inT1 (List.mem_of_getElem? (i := 180) rfl) rfl, inT1 (List.mem_of_getElem? (i := 8) rfl) rfl⟩
abbrev mX8_restart : Mi := (yX8_restart, cX8_restart, 1, none)
theorem mk_X8_restart : MK mX8_restart 0 := ⟨⟨by decide +kernel, by decide +kernel, by decide +kernel⟩, inT2 (List.mem_of_getElem? (i := 81) rfl) rfl, inT1 (List.mem_of_getElem? (i := 8) rfl) rfl⟩
theorem mv_X8_restart : MV mX8_restart 0 := ⟨mk_X8_restart, inT2 (List.mem_of_getElem? (i := 79) rfl) rfl, inT2 (List.mem_of_getElem? (i := 80) rfl) rfl⟩
abbrev mX8_isEmpty : Mi := (yX8_isEmpty, cX8_isEmpty, 1, (some .boolean))
theorem mk_X8_isEmpty : MK mX8_isEmpty 0 := ⟨⟨by decide +kernel, by decide +kernel, by decide +kernel⟩, inT2 (List.mem_of_getElem? (i := 107) rfl) rfl, inT1 (List.mem_of_getElem? (i := 8) rfl) rfl⟩
theorem mv_X8_isEmpty : MV mX8_isEmpty 0 := ⟨mk_X8_isEmpty, inT2 (List.mem_of_getElem? (i := 105) rfl) rfl, inT2 (List.mem_of_getElem? (i := 106) rfl) rfl⟩
abbrev mX8_push : Mi := (yX8_push, cX8_push, 4, none)
theorem mk_X8_push : MK mX8_push 3 := ⟨⟨by decide +kernel, by decide +kernel, by decide +kernel⟩, inT2 (List.mem_of_getElem? (i := 102) rfl) rfl, inT1 (List.mem_of_getElem? (i := 8) rfl) rfl⟩
theorem mv_X8_push : MV mX8_push 3 := ⟨mk_X8_push, inT2 (List.mem_of_getElem? (i := 100) rfl) rfl, inT2 (List.mem_of_getElem? (i := 101) rfl) rfl⟩
abbrev mX8_pop : Mi := (yX8_pop, cX8_pop, 1, none)
theorem mk_X8_pop : MK mX8_pop 0 := ⟨⟨by decide +kernel, by decide +kernel, by decide +kernel⟩, inT2 (List.mem_of_getElem? (i := 201) rfl) rfl, inT1 (List.mem_of_getElem? (i := 8) rfl) rfl⟩
theorem mv_X8_pop : MV mX8_pop 0 := ⟨mk_X8_pop, inT2 (List.mem_of_getElem? (i := 199) rfl) rfl, inT2 (List.mem_of_getElem? (i := 200) rfl) rfl⟩
abbrev mX8_actOnTop : Mi := (yX8_actOnTop, cX8_actOnTop, 1, (some .int))
theorem mk_X8_actOnTop : MK mX8_actOnTop 0 := ⟨⟨by decide +kernel, by decide +kernel, by decide +kernel⟩, inT2 (List.mem_of_getElem? (i := 115) rfl) rfl, inT1 (List.mem_of_getElem? (i := 8) rfl) rfl⟩
theorem mv_X8_actOnTop : MV mX8_actOnTop 0 := ⟨mk_X8_actOnTop, inT2 (List.mem_of_getElem? (i := 113) rfl) rfl, inT2 (List.mem_of_getElem? (i := 114) rfl) rfl⟩
abbrev mX8_frame : Mi := (yX8_frame, cX8_frame, 1, (some .int))
theorem mk_X8_frame : MK mX8_frame 0 := ⟨⟨by decide +kernel, by decide +kernel, by decide +kernel⟩, inT2 (List.mem_of_getElem? (i := 136) rfl) rfl, inT1 (List.mem_of_getElem? (i := 8) rfl) rfl⟩
theorem mv_X8_frame : MV mX8_frame 0 := ⟨mk_X8_frame, inT2 (List.mem_of_getElem? (i := 134) rfl) rfl, inT2 (List.mem_of_getElem? (i := 135) rfl) rfl⟩
abbrev mX8_stage : Mi := (yX8_stage, cX8_stage, 1, (some .int))
theorem mk_X8_stage : MK mX8_stage 0 := ⟨⟨by decide +kernel, by decide +kernel, by decide +kernel⟩, inT2 (List.mem_of_getElem? (i := 120) rfl) rfl, inT1 (List.mem_of_getElem? (i := 8) rfl) rfl⟩
theorem mv_X8_stage : MV mX8_stage 0 := ⟨mk_X8_stage, inT2 (List.mem_of_getElem? (i := 118) rfl) rfl, inT2 (List.mem_of_getElem? (i := 119) rfl) rfl⟩
abbrev mX8_setStage : Mi := (yX8_setStage, cX8_setStage, 2, none)
theorem mk_X8_setStage : MK mX8_setStage 1 := ⟨⟨by decide +kernel, by decide +kernel, by decide +kernel⟩, inT2 (List.mem_of_getElem? (i := 153) rfl) rfl, inT1 (List.mem_of_getElem? (i := 8) rfl) rfl⟩
theorem mv_X8_setStage : MV mX8_setStage 1 := ⟨mk_X8_setStage, inT2 (List.mem_of_getElem? (i := 151) rfl) rfl, inT2 (List.mem_of_getElem? (i := 152) rfl) rfl⟩
abbrev mX8_take : Mi := (yX8_take, cX8_take, 4, none)
theorem mk_X8_take : MK mX8_take 1 := ⟨⟨by decide +kernel, by decide +kernel, by decide +kernel⟩, inT3 (List.mem_of_getElem? (i := 63) rfl) rfl, inT1 (List.mem_of_getElem? (i := 8) rfl) rfl⟩
theorem mv_X8_take : MV mX8_take 1 := ⟨mk_X8_take, inT3 (List.mem_of_getElem? (i := 61) rfl) rfl, inT3 (List.mem_of_getElem? (i := 62) rfl) rfl⟩
abbrev mX8_value : Mi := (yX8_value, cX8_value, 2, (some .long))
theorem mk_X8_value : MK mX8_value 1 := ⟨⟨by decide +kernel, by decide +kernel, by decide +kernel⟩, inT2 (List.mem_of_getElem? (i := 169) rfl) rfl, inT1 (List.mem_of_getElem? (i := 8) rfl) rfl⟩
theorem mv_X8_value : MV mX8_value 1 := ⟨mk_X8_value, inT2 (List.mem_of_getElem? (i := 167) rfl) rfl, inT2 (List.mem_of_getElem? (i := 168) rfl) rfl⟩
abbrev mX8_mark : Mi := (yX8_mark, cX8_mark, 1, (some .int))
theorem mk_X8_mark : MK mX8_mark 0 := ⟨⟨by decide +kernel, by decide +kernel, by decide +kernel⟩, inT2 (List.mem_of_getElem? (i := 193) rfl) rfl, inT1 (List.mem_of_getElem? (i := 8) rfl) rfl⟩
theorem mv_X8_mark : MV mX8_mark 0 := ⟨mk_X8_mark, inT2 (List.mem_of_getElem? (i := 191) rfl) rfl, inT2 (List.mem_of_getElem? (i := 192) rfl) rfl⟩
abbrev mX8_hold : Mi := (yX8_hold, cX8_hold, 2, none)
theorem mk_X8_hold : MK mX8_hold 1 := ⟨⟨by decide +kernel, by decide +kernel, by decide +kernel⟩, inT2 (List.mem_of_getElem? (i := 165) rfl) rfl, inT1 (List.mem_of_getElem? (i := 8) rfl) rfl⟩
theorem mv_X8_hold : MV mX8_hold 1 := ⟨mk_X8_hold, inT2 (List.mem_of_getElem? (i := 163) rfl) rfl, inT2 (List.mem_of_getElem? (i := 164) rfl) rfl⟩
abbrev mX8_holdsFailure : Mi := (yX8_holdsFailure, cX8_holdsFailure, 1, (some .boolean))
theorem mk_X8_holdsFailure : MK mX8_holdsFailure 0 := ⟨⟨by decide +kernel, by decide +kernel, by decide +kernel⟩, inT3 (List.mem_of_getElem? (i := 71) rfl) rfl, inT1 (List.mem_of_getElem? (i := 8) rfl) rfl⟩
theorem mv_X8_holdsFailure : MV mX8_holdsFailure 0 := ⟨mk_X8_holdsFailure, inT3 (List.mem_of_getElem? (i := 69) rfl) rfl, inT3 (List.mem_of_getElem? (i := 70) rfl) rfl⟩
abbrev mX8_letGo : Mi := (yX8_letGo, cX8_letGo, 2, none)
theorem mk_X8_letGo : MK mX8_letGo 1 := ⟨⟨by decide +kernel, by decide +kernel, by decide +kernel⟩, inT3 (List.mem_of_getElem? (i := 75) rfl) rfl, inT1 (List.mem_of_getElem? (i := 8) rfl) rfl⟩
theorem mv_X8_letGo : MV mX8_letGo 1 := ⟨mk_X8_letGo, inT3 (List.mem_of_getElem? (i := 73) rfl) rfl, inT3 (List.mem_of_getElem? (i := 74) rfl) rfl⟩
abbrev mX9_of : Mi := (yX9_of, cX9_of, 2, (some .long))
theorem mk_X9_of : MK mX9_of 2 := ⟨⟨by decide +kernel, by decide +kernel, by decide +kernel⟩, inT3 (List.mem_of_getElem? (i := 110) rfl) rfl, inT1 (List.mem_of_getElem? (i := 10) rfl) rfl⟩
theorem ms_X9_of : MS mX9_of 2 := ⟨mk_X9_of, inT3 (List.mem_of_getElem? (i := 109) rfl) rfl⟩
abbrev mX9_whole : Mi := (yX9_whole, cX9_whole, 1, (some .long))
theorem mk_X9_whole : MK mX9_whole 1 := ⟨⟨by decide +kernel, by decide +kernel, by decide +kernel⟩, inT2 (List.mem_of_getElem? (i := 139) rfl) rfl, inT1 (List.mem_of_getElem? (i := 10) rfl) rfl⟩
theorem ms_X9_whole : MS mX9_whole 1 := ⟨mk_X9_whole, inT2 (List.mem_of_getElem? (i := 138) rfl) rfl⟩
abbrev mX9_truth : Mi := (yX9_truth, cX9_truth, 1, (some .long))
theorem mk_X9_truth : MK mX9_truth 1 := ⟨⟨by decide +kernel, by decide +kernel, by decide +kernel⟩, inT3 (List.mem_of_getElem? (i := 177) rfl) rfl, inT1 (List.mem_of_getElem? (i := 10) rfl) rfl⟩
theorem ms_X9_truth : MS mX9_truth 1 := ⟨mk_X9_truth, inT3 (List.mem_of_getElem? (i := 176) rfl) rfl⟩
abbrev mX9_sort : Mi := (yX9_sort, cX9_sort, 2, (some .int))
theorem mk_X9_sort : MK mX9_sort 1 := ⟨⟨by decide +kernel, by decide +kernel, by decide +kernel⟩, inT2 (List.mem_of_getElem? (i := 223) rfl) rfl, inT1 (List.mem_of_getElem? (i := 10) rfl) rfl⟩
theorem ms_X9_sort : MS mX9_sort 1 := ⟨mk_X9_sort, inT2 (List.mem_of_getElem? (i := 222) rfl) rfl⟩
abbrev mX9_number : Mi := (yX9_number, cX9_number, 2, (some .int))
theorem mk_X9_number : MK mX9_number 1 := ⟨⟨by decide +kernel, by decide +kernel, by decide +kernel⟩, inT2 (List.mem_of_getElem? (i := 173) rfl) rfl, inT1 (List.mem_of_getElem? (i := 10) rfl) rfl⟩
theorem ms_X9_number : MS mX9_number 1 := ⟨mk_X9_number, inT2 (List.mem_of_getElem? (i := 172) rfl) rfl⟩
abbrev mX9_isRow : Mi := (yX9_isRow, cX9_isRow, 3, (some .boolean))
theorem mk_X9_isRow : MK mX9_isRow 1 := ⟨⟨by decide +kernel, by decide +kernel, by decide +kernel⟩, inT2 (List.mem_of_getElem? (i := 220) rfl) rfl, inT1 (List.mem_of_getElem? (i := 10) rfl) rfl⟩
theorem ms_X9_isRow : MS mX9_isRow 1 := ⟨mk_X9_isRow, inT2 (List.mem_of_getElem? (i := 219) rfl) rfl⟩
abbrev mX9_isRowForLinks : Mi := (yX9_isRowForLinks, cX9_isRowForLinks, 3, (some .boolean))
theorem mk_X9_isRowForLinks : MK mX9_isRowForLinks 1 := ⟨⟨by decide +kernel, by decide +kernel, by decide +kernel⟩, inT3 (List.mem_of_getElem? (i := 16) rfl) rfl, inT1 (List.mem_of_getElem? (i := 10) rfl) rfl⟩
theorem ms_X9_isRowForLinks : MS mX9_isRowForLinks 1 := ⟨mk_X9_isRowForLinks, inT3 (List.mem_of_getElem? (i := 15) rfl) rfl⟩
abbrev mX9_isLink : Mi := (yX9_isLink, cX9_isLink, 3, (some .boolean))
theorem mk_X9_isLink : MK mX9_isLink 1 := ⟨⟨by decide +kernel, by decide +kernel, by decide +kernel⟩, inT3 (List.mem_of_getElem? (i := 25) rfl) rfl, inT1 (List.mem_of_getElem? (i := 10) rfl) rfl⟩
theorem ms_X9_isLink : MS mX9_isLink 1 := ⟨mk_X9_isLink, inT3 (List.mem_of_getElem? (i := 24) rfl) rfl⟩
abbrev mX9_isLinkOrNothing : Mi := (yX9_isLinkOrNothing, cX9_isLinkOrNothing, 3, (some .boolean))
theorem mk_X9_isLinkOrNothing : MK mX9_isLinkOrNothing 1 := ⟨⟨by decide +kernel, by decide +kernel, by decide +kernel⟩, inT3 (List.mem_of_getElem? (i := 19) rfl) rfl, inT1 (List.mem_of_getElem? (i := 10) rfl) rfl⟩
theorem ms_X9_isLinkOrNothing : MS mX9_isLinkOrNothing 1 := ⟨mk_X9_isLinkOrNothing, inT3 (List.mem_of_getElem? (i := 18) rfl) rfl⟩
abbrev mX9_isStrange : Mi := (yX9_isStrange, cX9_isStrange, 4, (some .boolean))
theorem mk_X9_isStrange : MK mX9_isStrange 2 := ⟨⟨by decide +kernel, by decide +kernel, by decide +kernel⟩, inT3 (List.mem_of_getElem? (i := 22) rfl) rfl, inT1 (List.mem_of_getElem? (i := 10) rfl) rfl⟩
theorem ms_X9_isStrange : MS mX9_isStrange 2 := ⟨mk_X9_isStrange, inT3 (List.mem_of_getElem? (i := 21) rfl) rfl⟩
abbrev mX10_init : Mi := (yX10_init, cX10_init, 1, none)
theorem mk_X10_init : MK mX10_init 0 := ⟨⟨by decide +kernel, by decide +kernel, by decide +kernel⟩, inT1 (List.mem_of_getElem? (i := 23) rfl) rfl, inT1 (List.mem_of_getElem? (i := 1) rfl) rfl⟩
abbrev mX10_act : Mi := (yX10_act, cX10_act, 6, (some .int))
theorem mk_X10_act : MK mX10_act 4 := ⟨⟨by decide +kernel, by decide +kernel, by decide +kernel⟩, inT2 (List.mem_of_getElem? (i := 18) rfl) rfl, inT1 (List.mem_of_getElem? (i := 1) rfl) rfl⟩
theorem mv_X10_act : MV mX10_act 4 := ⟨mk_X10_act, inT2 (List.mem_of_getElem? (i := 16) rfl) rfl, inT2 (List.mem_of_getElem? (i := 17) rfl) rfl⟩
abbrev mX10_told : Mi := (yX10_told, cX10_told, 3, (some .int))
theorem mk_X10_told : MK mX10_told 2 := ⟨⟨by decide +kernel, by decide +kernel, by decide +kernel⟩, inT2 (List.mem_of_getElem? (i := 50) rfl) rfl, inT1 (List.mem_of_getElem? (i := 1) rfl) rfl⟩
theorem mv_X10_told : MV mX10_told 2 := ⟨mk_X10_told, inT2 (List.mem_of_getElem? (i := 48) rfl) rfl, inT2 (List.mem_of_getElem? (i := 49) rfl) rfl⟩
abbrev mX10_run : Mi := (yX10_run, cX10_run, 4, (some .int))
theorem mk_X10_run : MK mX10_run 2 := ⟨⟨by decide +kernel, by decide +kernel, by decide +kernel⟩, inT2 (List.mem_of_getElem? (i := 59) rfl) rfl, inT1 (List.mem_of_getElem? (i := 1) rfl) rfl⟩
theorem mv_X10_run : MV mX10_run 2 := ⟨mk_X10_run, inT2 (List.mem_of_getElem? (i := 57) rfl) rfl, inT2 (List.mem_of_getElem? (i := 58) rfl) rfl⟩
abbrev mX10_ended : Mi := (yX10_ended, cX10_ended, 3, (some .int))
theorem mk_X10_ended : MK mX10_ended 1 := ⟨⟨by decide +kernel, by decide +kernel, by decide +kernel⟩, inT3 (List.mem_of_getElem? (i := 207) rfl) rfl, inT1 (List.mem_of_getElem? (i := 1) rfl) rfl⟩
theorem mv_X10_ended : MV mX10_ended 1 := ⟨mk_X10_ended, inT3 (List.mem_of_getElem? (i := 205) rfl) rfl, inT3 (List.mem_of_getElem? (i := 206) rfl) rfl⟩
abbrev mX10_gave : Mi := (yX10_gave, cX10_gave, 1, (some .int))
theorem mk_X10_gave : MK mX10_gave 0 := ⟨⟨by decide +kernel, by decide +kernel, by decide +kernel⟩, inT3 (List.mem_of_getElem? (i := 211) rfl) rfl, inT1 (List.mem_of_getElem? (i := 1) rfl) rfl⟩
theorem mv_X10_gave : MV mX10_gave 0 := ⟨mk_X10_gave, inT3 (List.mem_of_getElem? (i := 209) rfl) rfl, inT3 (List.mem_of_getElem? (i := 210) rfl) rfl⟩
abbrev mX10_place : Mi := (yX10_place, cX10_place, 6, (some .int))
theorem mk_X10_place : MK mX10_place 1 := ⟨⟨by decide +kernel, by decide +kernel, by decide +kernel⟩, inT4 (List.mem_of_getElem? (i := 87) rfl) rfl, inT1 (List.mem_of_getElem? (i := 1) rfl) rfl⟩
theorem mv_X10_place : MV mX10_place 1 := ⟨mk_X10_place, inT4 (List.mem_of_getElem? (i := 85) rfl) rfl, inT4 (List.mem_of_getElem? (i := 86) rfl) rfl⟩
abbrev mX10_box : Mi := (yX10_box, cX10_box, 2, (some .int))
theorem mk_X10_box : MK mX10_box 1 := ⟨⟨by decide +kernel, by decide +kernel, by decide +kernel⟩, inT3 (List.mem_of_getElem? (i := 221) rfl) rfl, inT1 (List.mem_of_getElem? (i := 1) rfl) rfl⟩
theorem mv_X10_box : MV mX10_box 1 := ⟨mk_X10_box, inT3 (List.mem_of_getElem? (i := 219) rfl) rfl, inT3 (List.mem_of_getElem? (i := 220) rfl) rfl⟩
abbrev mX10_boxed : Mi := (yX10_boxed, cX10_boxed, 2, (some .int))
theorem mk_X10_boxed : MK mX10_boxed 1 := ⟨⟨by decide +kernel, by decide +kernel, by decide +kernel⟩, inT3 (List.mem_of_getElem? (i := 229) rfl) rfl, inT1 (List.mem_of_getElem? (i := 1) rfl) rfl⟩
theorem mv_X10_boxed : MV mX10_boxed 1 := ⟨mk_X10_boxed, inT3 (List.mem_of_getElem? (i := 227) rfl) rfl, inT3 (List.mem_of_getElem? (i := 228) rfl) rfl⟩
abbrev mX10_same : Mi := (yX10_same, cX10_same, 3, (some .int))
theorem mk_X10_same : MK mX10_same 2 := ⟨⟨by decide +kernel, by decide +kernel, by decide +kernel⟩, inT3 (List.mem_of_getElem? (i := 233) rfl) rfl, inT1 (List.mem_of_getElem? (i := 1) rfl) rfl⟩
theorem mv_X10_same : MV mX10_same 2 := ⟨mk_X10_same, inT3 (List.mem_of_getElem? (i := 231) rfl) rfl, inT3 (List.mem_of_getElem? (i := 232) rfl) rfl⟩
abbrev mX10_out : Mi := (yX10_out, cX10_out, 2, (some .int))
theorem mk_X10_out : MK mX10_out 1 := ⟨⟨by decide +kernel, by decide +kernel, by decide +kernel⟩, inT3 (List.mem_of_getElem? (i := 237) rfl) rfl, inT1 (List.mem_of_getElem? (i := 1) rfl) rfl⟩
theorem mv_X10_out : MV mX10_out 1 := ⟨mk_X10_out, inT3 (List.mem_of_getElem? (i := 235) rfl) rfl, inT3 (List.mem_of_getElem? (i := 236) rfl) rfl⟩
abbrev mX10_count : Mi := (yX10_count, cX10_count, 2, (some .int))
theorem mk_X10_count : MK mX10_count 1 := ⟨⟨by decide +kernel, by decide +kernel, by decide +kernel⟩, inT4 (List.mem_of_getElem? (i := 1) rfl) rfl, inT1 (List.mem_of_getElem? (i := 1) rfl) rfl⟩
theorem mv_X10_count : MV mX10_count 1 := ⟨mk_X10_count, inT3 (List.mem_of_getElem? (i := 239) rfl) rfl, inT4 (List.mem_of_getElem? (i := 0) rfl) rfl⟩
abbrev mX10_clear : Mi := (yX10_clear, cX10_clear, 2, (some .int))
theorem mk_X10_clear : MK mX10_clear 0 := ⟨⟨by decide +kernel, by decide +kernel, by decide +kernel⟩, inT4 (List.mem_of_getElem? (i := 5) rfl) rfl, inT1 (List.mem_of_getElem? (i := 1) rfl) rfl⟩
theorem mv_X10_clear : MV mX10_clear 0 := ⟨mk_X10_clear, inT4 (List.mem_of_getElem? (i := 3) rfl) rfl, inT4 (List.mem_of_getElem? (i := 4) rfl) rfl⟩
abbrev mX11_init : Mi := (yX11_init, cX11_init, 2, none)
theorem mk_X11_init : MK mX11_init 0 := ⟨⟨by decide +kernel, by decide +kernel, by decide +kernel⟩, inT4 (List.mem_of_getElem? (i := 99) rfl) rfl, inT1 (List.mem_of_getElem? (i := 9) rfl) rfl⟩
abbrev mX11_in : Mi := (yX11_in, cX11_in, 3, (some .boolean))
theorem mk_X11_in : MK mX11_in 3 := ⟨⟨by decide +kernel, by decide +kernel, by decide +kernel⟩, inT5 (List.mem_of_getElem? (i := 36) rfl) rfl, inT1 (List.mem_of_getElem? (i := 9) rfl) rfl⟩
theorem ms_X11_in : MS mX11_in 3 := ⟨mk_X11_in, inT5 (List.mem_of_getElem? (i := 35) rfl) rfl⟩
abbrev mX11_noAct : Mi := (yX11_noAct, cX11_noAct, 2, (some .boolean))
theorem mk_X11_noAct : MK mX11_noAct 1 := ⟨⟨by decide +kernel, by decide +kernel, by decide +kernel⟩, inT5 (List.mem_of_getElem? (i := 43) rfl) rfl, inT1 (List.mem_of_getElem? (i := 9) rfl) rfl⟩
theorem mv_X11_noAct : MV mX11_noAct 1 := ⟨mk_X11_noAct, inT5 (List.mem_of_getElem? (i := 42) rfl) rfl, inP3 (List.mem_of_getElem? (i := 2) rfl)⟩
abbrev mX11_actsOf : Mi := (yX11_actsOf, cX11_actsOf, 1, (some .int))
theorem mk_X11_actsOf : MK mX11_actsOf 1 := ⟨⟨by decide +kernel, by decide +kernel, by decide +kernel⟩, inT5 (List.mem_of_getElem? (i := 39) rfl) rfl, inT1 (List.mem_of_getElem? (i := 9) rfl) rfl⟩
theorem ms_X11_actsOf : MS mX11_actsOf 1 := ⟨mk_X11_actsOf, inT5 (List.mem_of_getElem? (i := 38) rfl) rfl⟩
abbrev mX11_act : Mi := (yX11_act, cX11_act, 7, (some .int))
theorem mk_X11_act : MK mX11_act 4 := ⟨⟨by decide +kernel, by decide +kernel, by decide +kernel⟩, inT5 (List.mem_of_getElem? (i := 33) rfl) rfl, inT1 (List.mem_of_getElem? (i := 9) rfl) rfl⟩
theorem mv_X11_act : MV mX11_act 4 := ⟨mk_X11_act, inT5 (List.mem_of_getElem? (i := 31) rfl) rfl, inT5 (List.mem_of_getElem? (i := 32) rfl) rfl⟩
abbrev mX11_told : Mi := (yX11_told, cX11_told, 3, (some .int))
theorem mk_X11_told : MK mX11_told 2 := ⟨⟨by decide +kernel, by decide +kernel, by decide +kernel⟩, inT5 (List.mem_of_getElem? (i := 47) rfl) rfl, inT1 (List.mem_of_getElem? (i := 9) rfl) rfl⟩
theorem mv_X11_told : MV mX11_told 2 := ⟨mk_X11_told, inT5 (List.mem_of_getElem? (i := 45) rfl) rfl, inT5 (List.mem_of_getElem? (i := 46) rfl) rfl⟩
abbrev mX11_value : Mi := (yX11_value, cX11_value, 3, none)
theorem mk_X11_value : MK mX11_value 2 := ⟨⟨by decide +kernel, by decide +kernel, by decide +kernel⟩, inT5 (List.mem_of_getElem? (i := 71) rfl) rfl, inT1 (List.mem_of_getElem? (i := 9) rfl) rfl⟩
theorem mv_X11_value : MV mX11_value 2 := ⟨mk_X11_value, inT5 (List.mem_of_getElem? (i := 70) rfl) rfl, inP3 (List.mem_of_getElem? (i := 7) rfl)⟩
abbrev mX11_start : Mi := (yX11_start, cX11_start, 3, none)
theorem mk_X11_start : MK mX11_start 2 := ⟨⟨by decide +kernel, by decide +kernel, by decide +kernel⟩, inT5 (List.mem_of_getElem? (i := 59) rfl) rfl, inT1 (List.mem_of_getElem? (i := 9) rfl) rfl⟩
theorem mv_X11_start : MV mX11_start 2 := ⟨mk_X11_start, inT5 (List.mem_of_getElem? (i := 58) rfl) rfl, inP3 (List.mem_of_getElem? (i := 4) rfl)⟩
abbrev mX11_finish : Mi := (yX11_finish, cX11_finish, 3, none)
theorem mk_X11_finish : MK mX11_finish 2 := ⟨⟨by decide +kernel, by decide +kernel, by decide +kernel⟩, inT5 (List.mem_of_getElem? (i := 67) rfl) rfl, inT1 (List.mem_of_getElem? (i := 9) rfl) rfl⟩
theorem mv_X11_finish : MV mX11_finish 2 := ⟨mk_X11_finish, inT5 (List.mem_of_getElem? (i := 66) rfl) rfl, inP3 (List.mem_of_getElem? (i := 6) rfl)⟩
abbrev mX11_fail : Mi := (yX11_fail, cX11_fail, 4, none)
theorem mk_X11_fail : MK mX11_fail 3 := ⟨⟨by decide +kernel, by decide +kernel, by decide +kernel⟩, inT5 (List.mem_of_getElem? (i := 103) rfl) rfl, inT1 (List.mem_of_getElem? (i := 9) rfl) rfl⟩
theorem mv_X11_fail : MV mX11_fail 3 := ⟨mk_X11_fail, inT5 (List.mem_of_getElem? (i := 102) rfl) rfl, inP3 (List.mem_of_getElem? (i := 15) rfl)⟩
abbrev mX11_newThing : Mi := (yX11_newThing, cX11_newThing, 4, (some .int))
theorem mk_X11_newThing : MK mX11_newThing 1 := ⟨⟨by decide +kernel, by decide +kernel, by decide +kernel⟩, inT5 (List.mem_of_getElem? (i := 75) rfl) rfl, inT1 (List.mem_of_getElem? (i := 9) rfl) rfl⟩
theorem mv_X11_newThing : MV mX11_newThing 1 := ⟨mk_X11_newThing, inT5 (List.mem_of_getElem? (i := 74) rfl) rfl, inP3 (List.mem_of_getElem? (i := 8) rfl)⟩
abbrev mX11_newFrame : Mi := (yX11_newFrame, cX11_newFrame, 3, (some .int))
theorem mk_X11_newFrame : MK mX11_newFrame 0 := ⟨⟨by decide +kernel, by decide +kernel, by decide +kernel⟩, inT5 (List.mem_of_getElem? (i := 55) rfl) rfl, inT1 (List.mem_of_getElem? (i := 9) rfl) rfl⟩
theorem mv_X11_newFrame : MV mX11_newFrame 0 := ⟨mk_X11_newFrame, inT5 (List.mem_of_getElem? (i := 54) rfl) rfl, inP3 (List.mem_of_getElem? (i := 3) rfl)⟩
abbrev mX11_write : Mi := (yX11_write, cX11_write, 4, none)
theorem mk_X11_write : MK mX11_write 3 := ⟨⟨by decide +kernel, by decide +kernel, by decide +kernel⟩, inT5 (List.mem_of_getElem? (i := 130) rfl) rfl, inT1 (List.mem_of_getElem? (i := 9) rfl) rfl⟩
theorem mv_X11_write : MV mX11_write 3 := ⟨mk_X11_write, inT5 (List.mem_of_getElem? (i := 129) rfl) rfl, inP4 (List.mem_of_getElem? (i := 5) rfl)⟩
abbrev mX11_back : Mi := (yX11_back, cX11_back, 3, none)
theorem mk_X11_back : MK mX11_back 1 := ⟨⟨by decide +kernel, by decide +kernel, by decide +kernel⟩, inT5 (List.mem_of_getElem? (i := 166) rfl) rfl, inT1 (List.mem_of_getElem? (i := 9) rfl) rfl⟩
theorem mv_X11_back : MV mX11_back 1 := ⟨mk_X11_back, inT5 (List.mem_of_getElem? (i := 165) rfl) rfl, inP4 (List.mem_of_getElem? (i := 14) rfl)⟩
abbrev mX11_begin : Mi := (yX11_begin, cX11_begin, 4, none)
theorem mk_X11_begin : MK mX11_begin 0 := ⟨⟨by decide +kernel, by decide +kernel, by decide +kernel⟩, inT5 (List.mem_of_getElem? (i := 63) rfl) rfl, inT1 (List.mem_of_getElem? (i := 9) rfl) rfl⟩
theorem mv_X11_begin : MV mX11_begin 0 := ⟨mk_X11_begin, inT5 (List.mem_of_getElem? (i := 62) rfl) rfl, inP3 (List.mem_of_getElem? (i := 5) rfl)⟩
abbrev mX11_keepX : Mi := (yX11_keepX, cX11_keepX, 2, none)
theorem mk_X11_keepX : MK mX11_keepX 1 := ⟨⟨by decide +kernel, by decide +kernel, by decide +kernel⟩, inT5 (List.mem_of_getElem? (i := 83) rfl) rfl, inT1 (List.mem_of_getElem? (i := 9) rfl) rfl⟩
theorem mv_X11_keepX : MV mX11_keepX 1 := ⟨mk_X11_keepX, inT5 (List.mem_of_getElem? (i := 82) rfl) rfl, inP3 (List.mem_of_getElem? (i := 10) rfl)⟩
abbrev mX11_keepY : Mi := (yX11_keepY, cX11_keepY, 2, none)
theorem mk_X11_keepY : MK mX11_keepY 1 := ⟨⟨by decide +kernel, by decide +kernel, by decide +kernel⟩, inT5 (List.mem_of_getElem? (i := 87) rfl) rfl, inT1 (List.mem_of_getElem? (i := 9) rfl) rfl⟩
theorem mv_X11_keepY : MV mX11_keepY 1 := ⟨mk_X11_keepY, inT5 (List.mem_of_getElem? (i := 86) rfl) rfl, inP3 (List.mem_of_getElem? (i := 11) rfl)⟩
abbrev mX11_isWhole : Mi := (yX11_isWhole, cX11_isWhole, 4, (some .boolean))
theorem mk_X11_isWhole : MK mX11_isWhole 2 := ⟨⟨by decide +kernel, by decide +kernel, by decide +kernel⟩, inT5 (List.mem_of_getElem? (i := 99) rfl) rfl, inT1 (List.mem_of_getElem? (i := 9) rfl) rfl⟩
theorem mv_X11_isWhole : MV mX11_isWhole 2 := ⟨mk_X11_isWhole, inT5 (List.mem_of_getElem? (i := 98) rfl) rfl, inP3 (List.mem_of_getElem? (i := 14) rfl)⟩
abbrev mX11_failBy : Mi := (yX11_failBy, cX11_failBy, 3, none)
theorem mk_X11_failBy : MK mX11_failBy 2 := ⟨⟨by decide +kernel, by decide +kernel, by decide +kernel⟩, inT5 (List.mem_of_getElem? (i := 107) rfl) rfl, inT1 (List.mem_of_getElem? (i := 9) rfl) rfl⟩
theorem mv_X11_failBy : MV mX11_failBy 2 := ⟨mk_X11_failBy, inT5 (List.mem_of_getElem? (i := 106) rfl) rfl, inP4 (List.mem_of_getElem? (i := 0) rfl)⟩
abbrev mX11_up : Mi := (yX11_up, cX11_up, 7, none)
theorem mk_X11_up : MK mX11_up 0 := ⟨⟨by decide +kernel, by decide +kernel, by decide +kernel⟩, inT5 (List.mem_of_getElem? (i := 79) rfl) rfl, inT1 (List.mem_of_getElem? (i := 9) rfl) rfl⟩
theorem mv_X11_up : MV mX11_up 0 := ⟨mk_X11_up, inT5 (List.mem_of_getElem? (i := 78) rfl) rfl, inP3 (List.mem_of_getElem? (i := 9) rfl)⟩
abbrev mX11_upOf : Mi := (yX11_upOf, cX11_upOf, 7, none)
theorem mk_X11_upOf : MK mX11_upOf 5 := ⟨⟨by decide +kernel, by decide +kernel, by decide +kernel⟩, inT5 (List.mem_of_getElem? (i := 91) rfl) rfl, inT1 (List.mem_of_getElem? (i := 9) rfl) rfl⟩
theorem mv_X11_upOf : MV mX11_upOf 5 := ⟨mk_X11_upOf, inT5 (List.mem_of_getElem? (i := 90) rfl) rfl, inP3 (List.mem_of_getElem? (i := 12) rfl)⟩
abbrev mX11_upLater : Mi := (yX11_upLater, cX11_upLater, 6, none)
theorem mk_X11_upLater : MK mX11_upLater 5 := ⟨⟨by decide +kernel, by decide +kernel, by decide +kernel⟩, inT5 (List.mem_of_getElem? (i := 142) rfl) rfl, inT1 (List.mem_of_getElem? (i := 9) rfl) rfl⟩
theorem mv_X11_upLater : MV mX11_upLater 5 := ⟨mk_X11_upLater, inT5 (List.mem_of_getElem? (i := 141) rfl) rfl, inP4 (List.mem_of_getElem? (i := 8) rfl)⟩
abbrev mX11_upLoop : Mi := (yX11_upLoop, cX11_upLoop, 5, none)
theorem mk_X11_upLoop : MK mX11_upLoop 4 := ⟨⟨by decide +kernel, by decide +kernel, by decide +kernel⟩, inT5 (List.mem_of_getElem? (i := 146) rfl) rfl, inT1 (List.mem_of_getElem? (i := 9) rfl) rfl⟩
theorem mv_X11_upLoop : MV mX11_upLoop 4 := ⟨mk_X11_upLoop, inT5 (List.mem_of_getElem? (i := 145) rfl) rfl, inP4 (List.mem_of_getElem? (i := 9) rfl)⟩
abbrev mX11_upCall : Mi := (yX11_upCall, cX11_upCall, 5, none)
theorem mk_X11_upCall : MK mX11_upCall 3 := ⟨⟨by decide +kernel, by decide +kernel, by decide +kernel⟩, inT5 (List.mem_of_getElem? (i := 150) rfl) rfl, inT1 (List.mem_of_getElem? (i := 9) rfl) rfl⟩
theorem mv_X11_upCall : MV mX11_upCall 3 := ⟨mk_X11_upCall, inT5 (List.mem_of_getElem? (i := 149) rfl) rfl, inP4 (List.mem_of_getElem? (i := 10) rfl)⟩
abbrev mX11_upWork : Mi := (yX11_upWork, cX11_upWork, 5, none)
theorem mk_X11_upWork : MK mX11_upWork 3 := ⟨⟨by decide +kernel, by decide +kernel, by decide +kernel⟩, inT5 (List.mem_of_getElem? (i := 154) rfl) rfl, inT1 (List.mem_of_getElem? (i := 9) rfl) rfl⟩
theorem mv_X11_upWork : MV mX11_upWork 3 := ⟨mk_X11_upWork, inT5 (List.mem_of_getElem? (i := 153) rfl) rfl, inP4 (List.mem_of_getElem? (i := 11) rfl)⟩
abbrev mX11_reckon : Mi := (yX11_reckon, cX11_reckon, 6, none)
theorem mk_X11_reckon : MK mX11_reckon 4 := ⟨⟨by decide +kernel, by decide +kernel, by decide +kernel⟩, inT5 (List.mem_of_getElem? (i := 95) rfl) rfl, inT1 (List.mem_of_getElem? (i := 9) rfl) rfl⟩
theorem mv_X11_reckon : MV mX11_reckon 4 := ⟨mk_X11_reckon, inT5 (List.mem_of_getElem? (i := 94) rfl) rfl, inP3 (List.mem_of_getElem? (i := 13) rfl)⟩
abbrev mX11_makeRow : Mi := (yX11_makeRow, cX11_makeRow, 6, none)
theorem mk_X11_makeRow : MK mX11_makeRow 2 := ⟨⟨by decide +kernel, by decide +kernel, by decide +kernel⟩, inT5 (List.mem_of_getElem? (i := 111) rfl) rfl, inT1 (List.mem_of_getElem? (i := 9) rfl) rfl⟩
theorem mv_X11_makeRow : MV mX11_makeRow 2 := ⟨mk_X11_makeRow, inT5 (List.mem_of_getElem? (i := 110) rfl) rfl, inP4 (List.mem_of_getElem? (i := 1) rfl)⟩
abbrev mX11_isRow : Mi := (yX11_isRow, cX11_isRow, 1, (some .boolean))
theorem mk_X11_isRow : MK mX11_isRow 1 := ⟨⟨by decide +kernel, by decide +kernel, by decide +kernel⟩, inT5 (List.mem_of_getElem? (i := 122) rfl) rfl, inT1 (List.mem_of_getElem? (i := 9) rfl) rfl⟩
theorem ms_X11_isRow : MS mX11_isRow 1 := ⟨mk_X11_isRow, inT5 (List.mem_of_getElem? (i := 121) rfl) rfl⟩
abbrev mX11_isRowHere : Mi := (yX11_isRowHere, cX11_isRowHere, 3, (some .boolean))
theorem mk_X11_isRowHere : MK mX11_isRowHere 2 := ⟨⟨by decide +kernel, by decide +kernel, by decide +kernel⟩, inT5 (List.mem_of_getElem? (i := 119) rfl) rfl, inT1 (List.mem_of_getElem? (i := 9) rfl) rfl⟩
theorem mv_X11_isRowHere : MV mX11_isRowHere 2 := ⟨mk_X11_isRowHere, inT5 (List.mem_of_getElem? (i := 118) rfl) rfl, inP4 (List.mem_of_getElem? (i := 3) rfl)⟩
abbrev mX11_isLink : Mi := (yX11_isLink, cX11_isLink, 4, (some .boolean))
theorem mk_X11_isLink : MK mX11_isLink 2 := ⟨⟨by decide +kernel, by decide +kernel, by decide +kernel⟩, inT5 (List.mem_of_getElem? (i := 134) rfl) rfl, inT1 (List.mem_of_getElem? (i := 9) rfl) rfl⟩
theorem mv_X11_isLink : MV mX11_isLink 2 := ⟨mk_X11_isLink, inT5 (List.mem_of_getElem? (i := 133) rfl) rfl, inP4 (List.mem_of_getElem? (i := 6) rfl)⟩
abbrev mX11_readPlace : Mi := (yX11_readPlace, cX11_readPlace, 5, none)
theorem mk_X11_readPlace : MK mX11_readPlace 3 := ⟨⟨by decide +kernel, by decide +kernel, by decide +kernel⟩, inT5 (List.mem_of_getElem? (i := 115) rfl) rfl, inT1 (List.mem_of_getElem? (i := 9) rfl) rfl⟩
theorem mv_X11_readPlace : MV mX11_readPlace 3 := ⟨mk_X11_readPlace, inT5 (List.mem_of_getElem? (i := 114) rfl) rfl, inP4 (List.mem_of_getElem? (i := 2) rfl)⟩
abbrev mX11_writePlace : Mi := (yX11_writePlace, cX11_writePlace, 6, none)
theorem mk_X11_writePlace : MK mX11_writePlace 2 := ⟨⟨by decide +kernel, by decide +kernel, by decide +kernel⟩, inT5 (List.mem_of_getElem? (i := 126) rfl) rfl, inT1 (List.mem_of_getElem? (i := 9) rfl) rfl⟩
theorem mv_X11_writePlace : MV mX11_writePlace 2 := ⟨mk_X11_writePlace, inT5 (List.mem_of_getElem? (i := 125) rfl) rfl, inP4 (List.mem_of_getElem? (i := 4) rfl)⟩
abbrev mX11_copyPlaces : Mi := (yX11_copyPlaces, cX11_copyPlaces, 9, none)
theorem mk_X11_copyPlaces : MK mX11_copyPlaces 2 := ⟨⟨by decide +kernel, by decide +kernel, by decide +kernel⟩, inT5 (List.mem_of_getElem? (i := 138) rfl) rfl, inT1 (List.mem_of_getElem? (i := 9) rfl) rfl⟩
theorem mv_X11_copyPlaces : MV mX11_copyPlaces 2 := ⟨mk_X11_copyPlaces, inT5 (List.mem_of_getElem? (i := 137) rfl) rfl, inP4 (List.mem_of_getElem? (i := 7) rfl)⟩
abbrev mX11_upFailure : Mi := (yX11_upFailure, cX11_upFailure, 6, none)
theorem mk_X11_upFailure : MK mX11_upFailure 0 := ⟨⟨by decide +kernel, by decide +kernel, by decide +kernel⟩, inT5 (List.mem_of_getElem? (i := 158) rfl) rfl, inT1 (List.mem_of_getElem? (i := 9) rfl) rfl⟩
theorem mv_X11_upFailure : MV mX11_upFailure 0 := ⟨mk_X11_upFailure, inT5 (List.mem_of_getElem? (i := 157) rfl) rfl, inP4 (List.mem_of_getElem? (i := 12) rfl)⟩
abbrev mX11_leave : Mi := (yX11_leave, cX11_leave, 5, none)
theorem mk_X11_leave : MK mX11_leave 4 := ⟨⟨by decide +kernel, by decide +kernel, by decide +kernel⟩, inT5 (List.mem_of_getElem? (i := 162) rfl) rfl, inT1 (List.mem_of_getElem? (i := 9) rfl) rfl⟩
theorem mv_X11_leave : MV mX11_leave 4 := ⟨mk_X11_leave, inT5 (List.mem_of_getElem? (i := 161) rfl) rfl, inP4 (List.mem_of_getElem? (i := 13) rfl)⟩
abbrev mX11_run : Mi := (yX11_run, cX11_run, 5, (some .int))
theorem mk_X11_run : MK mX11_run 2 := ⟨⟨by decide +kernel, by decide +kernel, by decide +kernel⟩, inT5 (List.mem_of_getElem? (i := 51) rfl) rfl, inT1 (List.mem_of_getElem? (i := 9) rfl) rfl⟩
theorem mv_X11_run : MV mX11_run 2 := ⟨mk_X11_run, inT5 (List.mem_of_getElem? (i := 49) rfl) rfl, inT5 (List.mem_of_getElem? (i := 50) rfl) rfl⟩
abbrev mX11_ended : Mi := (yX11_ended, cX11_ended, 2, (some .int))
theorem mk_X11_ended : MK mX11_ended 1 := ⟨⟨by decide +kernel, by decide +kernel, by decide +kernel⟩, inT5 (List.mem_of_getElem? (i := 170) rfl) rfl, inT1 (List.mem_of_getElem? (i := 9) rfl) rfl⟩
theorem mv_X11_ended : MV mX11_ended 1 := ⟨mk_X11_ended, inT5 (List.mem_of_getElem? (i := 168) rfl) rfl, inT5 (List.mem_of_getElem? (i := 169) rfl) rfl⟩
abbrev mX11_numberOf : Mi := (yX11_numberOf, cX11_numberOf, 3, (some .int))
theorem mk_X11_numberOf : MK mX11_numberOf 2 := ⟨⟨by decide +kernel, by decide +kernel, by decide +kernel⟩, inT5 (List.mem_of_getElem? (i := 178) rfl) rfl, inT1 (List.mem_of_getElem? (i := 9) rfl) rfl⟩
theorem mv_X11_numberOf : MV mX11_numberOf 2 := ⟨mk_X11_numberOf, inT5 (List.mem_of_getElem? (i := 177) rfl) rfl, inP4 (List.mem_of_getElem? (i := 15) rfl)⟩
abbrev mX11_gave : Mi := (yX11_gave, cX11_gave, 1, (some .int))
theorem mk_X11_gave : MK mX11_gave 0 := ⟨⟨by decide +kernel, by decide +kernel, by decide +kernel⟩, inT5 (List.mem_of_getElem? (i := 174) rfl) rfl, inT1 (List.mem_of_getElem? (i := 9) rfl) rfl⟩
theorem mv_X11_gave : MV mX11_gave 0 := ⟨mk_X11_gave, inT5 (List.mem_of_getElem? (i := 172) rfl) rfl, inT5 (List.mem_of_getElem? (i := 173) rfl) rfl⟩
abbrev mX11_thrown : Mi := (yX11_thrown, cX11_thrown, 1, (some .int))
theorem mk_X11_thrown : MK mX11_thrown 0 := ⟨⟨by decide +kernel, by decide +kernel, by decide +kernel⟩, inT5 (List.mem_of_getElem? (i := 182) rfl) rfl, inT1 (List.mem_of_getElem? (i := 9) rfl) rfl⟩
theorem mv_X11_thrown : MV mX11_thrown 0 := ⟨mk_X11_thrown, inT5 (List.mem_of_getElem? (i := 180) rfl) rfl, inT5 (List.mem_of_getElem? (i := 181) rfl) rfl⟩
abbrev mX11_place : Mi := (yX11_place, cX11_place, 3, (some .int))
theorem mk_X11_place : MK mX11_place 1 := ⟨⟨by decide +kernel, by decide +kernel, by decide +kernel⟩, inT5 (List.mem_of_getElem? (i := 186) rfl) rfl, inT1 (List.mem_of_getElem? (i := 9) rfl) rfl⟩
theorem mv_X11_place : MV mX11_place 1 := ⟨mk_X11_place, inT5 (List.mem_of_getElem? (i := 184) rfl) rfl, inT5 (List.mem_of_getElem? (i := 185) rfl) rfl⟩
abbrev mX11_box : Mi := (yX11_box, cX11_box, 2, (some .int))
theorem mk_X11_box : MK mX11_box 1 := ⟨⟨by decide +kernel, by decide +kernel, by decide +kernel⟩, inT5 (List.mem_of_getElem? (i := 190) rfl) rfl, inT1 (List.mem_of_getElem? (i := 9) rfl) rfl⟩
theorem mv_X11_box : MV mX11_box 1 := ⟨mk_X11_box, inT5 (List.mem_of_getElem? (i := 188) rfl) rfl, inT5 (List.mem_of_getElem? (i := 189) rfl) rfl⟩
abbrev mX11_boxed : Mi := (yX11_boxed, cX11_boxed, 2, (some .int))
theorem mk_X11_boxed : MK mX11_boxed 1 := ⟨⟨by decide +kernel, by decide +kernel, by decide +kernel⟩, inT5 (List.mem_of_getElem? (i := 194) rfl) rfl, inT1 (List.mem_of_getElem? (i := 9) rfl) rfl⟩
theorem mv_X11_boxed : MV mX11_boxed 1 := ⟨mk_X11_boxed, inT5 (List.mem_of_getElem? (i := 192) rfl) rfl, inT5 (List.mem_of_getElem? (i := 193) rfl) rfl⟩
abbrev mX11_same : Mi := (yX11_same, cX11_same, 3, (some .int))
theorem mk_X11_same : MK mX11_same 2 := ⟨⟨by decide +kernel, by decide +kernel, by decide +kernel⟩, inT5 (List.mem_of_getElem? (i := 198) rfl) rfl, inT1 (List.mem_of_getElem? (i := 9) rfl) rfl⟩
theorem mv_X11_same : MV mX11_same 2 := ⟨mk_X11_same, inT5 (List.mem_of_getElem? (i := 196) rfl) rfl, inT5 (List.mem_of_getElem? (i := 197) rfl) rfl⟩
abbrev mX11_out : Mi := (yX11_out, cX11_out, 2, (some .int))
theorem mk_X11_out : MK mX11_out 1 := ⟨⟨by decide +kernel, by decide +kernel, by decide +kernel⟩, inT5 (List.mem_of_getElem? (i := 202) rfl) rfl, inT1 (List.mem_of_getElem? (i := 9) rfl) rfl⟩
theorem mv_X11_out : MV mX11_out 1 := ⟨mk_X11_out, inT5 (List.mem_of_getElem? (i := 200) rfl) rfl, inT5 (List.mem_of_getElem? (i := 201) rfl) rfl⟩
abbrev mX11_count : Mi := (yX11_count, cX11_count, 2, (some .int))
theorem mk_X11_count : MK mX11_count 1 := ⟨⟨by decide +kernel, by decide +kernel, by decide +kernel⟩, inT5 (List.mem_of_getElem? (i := 206) rfl) rfl, inT1 (List.mem_of_getElem? (i := 9) rfl) rfl⟩
theorem mv_X11_count : MV mX11_count 1 := ⟨mk_X11_count, inT5 (List.mem_of_getElem? (i := 204) rfl) rfl, inT5 (List.mem_of_getElem? (i := 205) rfl) rfl⟩
abbrev mX11_clear : Mi := (yX11_clear, cX11_clear, 3, (some .int))
theorem mk_X11_clear : MK mX11_clear 0 := ⟨⟨by decide +kernel, by decide +kernel, by decide +kernel⟩, inT5 (List.mem_of_getElem? (i := 210) rfl) rfl, inT1 (List.mem_of_getElem? (i := 9) rfl) rfl⟩
theorem mv_X11_clear : MV mX11_clear 0 := ⟨mk_X11_clear, inT5 (List.mem_of_getElem? (i := 208) rfl) rfl, inT5 (List.mem_of_getElem? (i := 209) rfl) rfl⟩
theorem lk_X10_9 : Cond.methodLink RX10 9 yX0_init ∈ wsG := inT1 (List.mem_of_getElem? (i := 29) rfl) rfl
theorem lk_X10_18 : Cond.methodLink RX10 18 yX6_init ∈ wsG := inT1 (List.mem_of_getElem? (i := 50) rfl) rfl
theorem lk_X10_29 : Cond.methodLink RX10 29 yX0_refusalOf ∈ wsG := inT2 (List.mem_of_getElem? (i := 19) rfl) rfl
theorem lk_X10_33 : Cond.methodLink RX10 33 yX0_add ∈ wsG := inT2 (List.mem_of_getElem? (i := 39) rfl) rfl
theorem lk_X10_36 : Cond.methodLink RX10 36 yX0_has ∈ wsG := inT2 (List.mem_of_getElem? (i := 51) rfl) rfl
theorem lk_X10_40 : Cond.methodLink RX10 40 yX0_given ∈ wsG := inT2 (List.mem_of_getElem? (i := 52) rfl) rfl
theorem lk_X10_44 : Cond.methodLink RX10 44 yX6_perform ∈ wsG := inT2 (List.mem_of_getElem? (i := 60) rfl) rfl
theorem lk_X10_61 : Cond.methodLink RX10 61 yX9_sort ∈ wsG := inT3 (List.mem_of_getElem? (i := 203) rfl) rfl
theorem lk_X10_83 : Cond.methodLink RX10 83 yX7_measure ∈ wsG := inT3 (List.mem_of_getElem? (i := 212) rfl) rfl
theorem lk_X10_88 : Cond.methodLink RX10 88 yX9_isRow ∈ wsG := inT4 (List.mem_of_getElem? (i := 88) rfl) rfl
theorem lk_X10_92 : Cond.methodLink RX10 92 yX7_lengthOf ∈ wsG := inT4 (List.mem_of_getElem? (i := 89) rfl) rfl
theorem lk_X10_102 : Cond.methodLink RX10 102 yX7_cellOf ∈ wsG := inT4 (List.mem_of_getElem? (i := 93) rfl) rfl
theorem lk_X10_106 : Cond.methodLink RX10 106 yX7_read ∈ wsG := inT3 (List.mem_of_getElem? (i := 225) rfl) rfl
theorem lk_X10_110 : Cond.methodLink RX10 110 yX9_number ∈ wsG := inT4 (List.mem_of_getElem? (i := 94) rfl) rfl
theorem lk_X10_113 : Cond.methodLink RX10 113 yX7_isBox ∈ wsG := inT3 (List.mem_of_getElem? (i := 222) rfl) rfl
theorem lk_X10_126 : Cond.methodLink RX10 126 yX6_restart ∈ wsG := inT4 (List.mem_of_getElem? (i := 6) rfl) rfl
theorem lk_X11_107 : Cond.methodLink RX11 107 yX11_in ∈ wsG := inT5 (List.mem_of_getElem? (i := 34) rfl) rfl
theorem lk_X11_114 : Cond.methodLink RX11 114 yX11_actsOf ∈ wsG := inT5 (List.mem_of_getElem? (i := 37) rfl) rfl
theorem lk_X11_118 : Cond.methodLink RX11 118 yX11_noAct ∈ wsG := inT5 (List.mem_of_getElem? (i := 40) rfl) rfl
theorem lk_X11_149 : Cond.methodLink RX11 149 yX11_finish ∈ wsG := inT5 (List.mem_of_getElem? (i := 64) rfl) rfl
theorem lk_X11_168 : Cond.methodLink RX11 168 yX11_value ∈ wsG := inT5 (List.mem_of_getElem? (i := 68) rfl) rfl
theorem lk_X11_171 : Cond.methodLink RX11 171 yX11_newThing ∈ wsG := inT5 (List.mem_of_getElem? (i := 72) rfl) rfl
theorem lk_X11_177 : Cond.methodLink RX11 177 yX11_start ∈ wsG := inT5 (List.mem_of_getElem? (i := 56) rfl) rfl
theorem lk_X11_180 : Cond.methodLink RX11 180 yX11_fail ∈ wsG := inT5 (List.mem_of_getElem? (i := 100) rfl) rfl
theorem lk_X11_184 : Cond.methodLink RX11 184 yX11_keepX ∈ wsG := inT5 (List.mem_of_getElem? (i := 80) rfl) rfl
theorem lk_X11_188 : Cond.methodLink RX11 188 yX11_keepY ∈ wsG := inT5 (List.mem_of_getElem? (i := 84) rfl) rfl
theorem lk_X11_191 : Cond.methodLink RX11 191 yX11_upOf ∈ wsG := inT5 (List.mem_of_getElem? (i := 88) rfl) rfl
theorem lk_X11_195 : Cond.methodLink RX11 195 yX11_reckon ∈ wsG := inT5 (List.mem_of_getElem? (i := 92) rfl) rfl
theorem lk_X11_199 : Cond.methodLink RX11 199 yX11_makeRow ∈ wsG := inT5 (List.mem_of_getElem? (i := 108) rfl) rfl
theorem lk_X11_202 : Cond.methodLink RX11 202 yX11_readPlace ∈ wsG := inT5 (List.mem_of_getElem? (i := 112) rfl) rfl
theorem lk_X11_205 : Cond.methodLink RX11 205 yX11_writePlace ∈ wsG := inT5 (List.mem_of_getElem? (i := 123) rfl) rfl
theorem lk_X11_208 : Cond.methodLink RX11 208 yX11_isLink ∈ wsG := inT5 (List.mem_of_getElem? (i := 131) rfl) rfl
theorem lk_X11_212 : Cond.methodLink RX11 212 yX11_write ∈ wsG := inT5 (List.mem_of_getElem? (i := 127) rfl) rfl
theorem lk_X11_215 : Cond.methodLink RX11 215 yX11_copyPlaces ∈ wsG := inT5 (List.mem_of_getElem? (i := 135) rfl) rfl
theorem lk_X11_218 : Cond.methodLink RX11 218 yX11_isWhole ∈ wsG := inT5 (List.mem_of_getElem? (i := 96) rfl) rfl
theorem lk_X11_221 : Cond.methodLink RX11 221 yX11_upLater ∈ wsG := inT5 (List.mem_of_getElem? (i := 139) rfl) rfl
theorem lk_X11_224 : Cond.methodLink RX11 224 yX11_upLoop ∈ wsG := inT5 (List.mem_of_getElem? (i := 143) rfl) rfl
theorem lk_X11_227 : Cond.methodLink RX11 227 yX11_upCall ∈ wsG := inT5 (List.mem_of_getElem? (i := 147) rfl) rfl
theorem lk_X11_233 : Cond.methodLink RX11 233 yX11_upWork ∈ wsG := inT5 (List.mem_of_getElem? (i := 151) rfl) rfl
theorem lk_X11_239 : Cond.methodLink RX11 239 yX11_newFrame ∈ wsG := inT5 (List.mem_of_getElem? (i := 52) rfl) rfl
theorem lk_X11_243 : Cond.methodLink RX11 243 yX11_failBy ∈ wsG := inT5 (List.mem_of_getElem? (i := 104) rfl) rfl
theorem lk_X11_246 : Cond.methodLink RX11 246 yX11_isRow ∈ wsG := inT5 (List.mem_of_getElem? (i := 120) rfl) rfl
theorem lk_X11_249 : Cond.methodLink RX11 249 yX11_isRowHere ∈ wsG := inT5 (List.mem_of_getElem? (i := 116) rfl) rfl
theorem lk_X11_252 : Cond.methodLink RX11 252 yX11_leave ∈ wsG := inT5 (List.mem_of_getElem? (i := 159) rfl) rfl
theorem lk_X11_255 : Cond.methodLink RX11 255 yX11_back ∈ wsG := inT5 (List.mem_of_getElem? (i := 163) rfl) rfl
theorem lk_X11_261 : Cond.methodLink RX11 261 yX11_begin ∈ wsG := inT5 (List.mem_of_getElem? (i := 60) rfl) rfl
theorem lk_X11_264 : Cond.methodLink RX11 264 yX11_up ∈ wsG := inT5 (List.mem_of_getElem? (i := 76) rfl) rfl
theorem lk_X11_267 : Cond.methodLink RX11 267 yX11_upFailure ∈ wsG := inT5 (List.mem_of_getElem? (i := 155) rfl) rfl
theorem lk_X11_285 : Cond.methodLink RX11 285 yX11_numberOf ∈ wsG := inT5 (List.mem_of_getElem? (i := 175) rfl) rfl
theorem lk_X0_25 : Cond.methodLink RX0 25 yX0_has ∈ wsG := inT2 (List.mem_of_getElem? (i := 29) rfl) rfl
theorem lk_X0_34 : Cond.methodLink RX0 34 yX0_isUnknown ∈ wsG := inT2 (List.mem_of_getElem? (i := 25) rfl) rfl
theorem lk_X0_38 : Cond.methodLink RX0 38 yX0_isOutside ∈ wsG := inT2 (List.mem_of_getElem? (i := 33) rfl) rfl
theorem lk_X0_44 : Cond.methodLink RX0 44 yX0_sortParts ∈ wsG := inT2 (List.mem_of_getElem? (i := 43) rfl) rfl
theorem lk_X1_7 : Cond.methodLink RX1 7 yX1_restart ∈ wsG := inT1 (List.mem_of_getElem? (i := 88) rfl) rfl
theorem lk_X1_31 : Cond.methodLink RX1 31 yX1_settle ∈ wsG := inT1 (List.mem_of_getElem? (i := 93) rfl) rfl
theorem lk_X1_34 : Cond.methodLink RX1 34 yX1_goOn ∈ wsG := inT1 (List.mem_of_getElem? (i := 97) rfl) rfl
theorem lk_X2_7 : Cond.methodLink RX2 7 yX2_ofWhole ∈ wsG := inT2 (List.mem_of_getElem? (i := 232) rfl) rfl
theorem lk_X2_13 : Cond.methodLink RX2 13 yX2_firstOf ∈ wsG := inT3 (List.mem_of_getElem? (i := 0) rfl) rfl
theorem lk_X2_17 : Cond.methodLink RX2 17 yX9_number ∈ wsG := inT3 (List.mem_of_getElem? (i := 3) rfl) rfl
theorem lk_X2_22 : Cond.methodLink RX2 22 yX2_ofLength ∈ wsG := inT3 (List.mem_of_getElem? (i := 4) rfl) rfl
theorem lk_X2_26 : Cond.methodLink RX2 26 yX9_isRow ∈ wsG := inT3 (List.mem_of_getElem? (i := 7) rfl) rfl
theorem lk_X2_30 : Cond.methodLink RX2 30 yX2_ofThing ∈ wsG := inT2 (List.mem_of_getElem? (i := 236) rfl) rfl
theorem lk_X2_34 : Cond.methodLink RX2 34 yX2_ofPlace ∈ wsG := inT3 (List.mem_of_getElem? (i := 8) rfl) rfl
theorem lk_X2_38 : Cond.methodLink RX2 38 yX2_ofWrite ∈ wsG := inT3 (List.mem_of_getElem? (i := 11) rfl) rfl
theorem lk_X2_42 : Cond.methodLink RX2 42 yX9_isLink ∈ wsG := inT3 (List.mem_of_getElem? (i := 23) rfl) rfl
theorem lk_X2_45 : Cond.methodLink RX2 45 Lib.Math.min.name ∈ wsG := inT3 (List.mem_of_getElem? (i := 26) rfl) rfl
theorem mm_1 : Cond.static Lib.Math.min.name ∈ wsG := inT3 (List.mem_of_getElem? (i := 27) rfl) rfl
theorem mm_2 : Cond.initialized "java/lang/Math" ∈ wsG := inT1 (List.mem_of_getElem? (i := 12) rfl) rfl
theorem mm_3 : Cond.code Lib.Math.min.name Lib.Math.min.code 2 (some .int) ∈ wsG := inT3 (List.mem_of_getElem? (i := 28) rfl) rfl
theorem lk_X2_50 : Cond.methodLink RX2 50 yX2_ofCopy ∈ wsG := inT3 (List.mem_of_getElem? (i := 29) rfl) rfl
theorem lk_X2_53 : Cond.methodLink RX2 53 yX9_sort ∈ wsG := inT2 (List.mem_of_getElem? (i := 235) rfl) rfl
theorem lk_X2_60 : Cond.methodLink RX2 60 yX9_isRowForLinks ∈ wsG := inT3 (List.mem_of_getElem? (i := 14) rfl) rfl
theorem lk_X2_63 : Cond.methodLink RX2 63 yX9_isLinkOrNothing ∈ wsG := inT3 (List.mem_of_getElem? (i := 17) rfl) rfl
theorem lk_X2_66 : Cond.methodLink RX2 66 yX9_isStrange ∈ wsG := inT3 (List.mem_of_getElem? (i := 20) rfl) rfl
theorem lk_X3_23 : Cond.methodLink RX3 23 yX3_has ∈ wsG := inT2 (List.mem_of_getElem? (i := 145) rfl) rfl
theorem lk_X5_39 : Cond.methodLink RX5 39 yX9_of ∈ wsG := inT3 (List.mem_of_getElem? (i := 108) rfl) rfl
theorem lk_X5_43 : Cond.methodLink RX5 43 yX5_has ∈ wsG := inT2 (List.mem_of_getElem? (i := 182) rfl) rfl
theorem lk_X6_15 : Cond.methodLink RX6 15 yX7_init ∈ wsG := inT1 (List.mem_of_getElem? (i := 56) rfl) rfl
theorem lk_X6_22 : Cond.methodLink RX6 22 yX1_init ∈ wsG := inT1 (List.mem_of_getElem? (i := 84) rfl) rfl
theorem lk_X6_37 : Cond.methodLink RX6 37 yX3_init ∈ wsG := inT1 (List.mem_of_getElem? (i := 137) rfl) rfl
theorem lk_X6_44 : Cond.methodLink RX6 44 yX5_init ∈ wsG := inT1 (List.mem_of_getElem? (i := 150) rfl) rfl
theorem lk_X6_51 : Cond.methodLink RX6 51 yX8_init ∈ wsG := inT1 (List.mem_of_getElem? (i := 178) rfl) rfl
theorem lk_X6_59 : Cond.methodLink RX6 59 yX7_restart ∈ wsG := inT2 (List.mem_of_getElem? (i := 68) rfl) rfl
theorem lk_X6_62 : Cond.methodLink RX6 62 yX1_restart ∈ wsG := inT2 (List.mem_of_getElem? (i := 69) rfl) rfl
theorem lk_X6_65 : Cond.methodLink RX6 65 yX3_restart ∈ wsG := inT2 (List.mem_of_getElem? (i := 70) rfl) rfl
theorem lk_X6_66 : Cond.methodLink RX6 66 yX5_restart ∈ wsG := inT2 (List.mem_of_getElem? (i := 74) rfl) rfl
theorem lk_X6_67 : Cond.methodLink RX6 67 yX8_restart ∈ wsG := inT2 (List.mem_of_getElem? (i := 78) rfl) rfl
theorem lk_X6_68 : Cond.methodLink RX6 68 yX6_restart ∈ wsG := inT2 (List.mem_of_getElem? (i := 64) rfl) rfl
theorem lk_X6_69 : Cond.methodLink RX6 69 yX3_open ∈ wsG := inT2 (List.mem_of_getElem? (i := 82) rfl) rfl
theorem lk_X6_73 : Cond.methodLink RX6 73 yX6_begin ∈ wsG := inT2 (List.mem_of_getElem? (i := 87) rfl) rfl
theorem lk_X6_78 : Cond.methodLink RX6 78 yX8_isEmpty ∈ wsG := inT2 (List.mem_of_getElem? (i := 104) rfl) rfl
theorem lk_X6_85 : Cond.methodLink RX6 85 yX6_leave ∈ wsG := inT2 (List.mem_of_getElem? (i := 108) rfl) rfl
theorem lk_X6_88 : Cond.methodLink RX6 88 yX6_comesToWork ∈ wsG := inT2 (List.mem_of_getElem? (i := 202) rfl) rfl
theorem lk_X6_91 : Cond.methodLink RX6 91 yX6_work ∈ wsG := inT3 (List.mem_of_getElem? (i := 48) rfl) rfl
theorem lk_X6_94 : Cond.methodLink RX6 94 yX1_takesStep ∈ wsG := inT2 (List.mem_of_getElem? (i := 91) rfl) rfl
theorem lk_X6_98 : Cond.methodLink RX6 98 yX7_changesSoFar ∈ wsG := inT2 (List.mem_of_getElem? (i := 95) rfl) rfl
theorem lk_X6_101 : Cond.methodLink RX6 101 yX8_push ∈ wsG := inT2 (List.mem_of_getElem? (i := 99) rfl) rfl
theorem lk_X6_105 : Cond.methodLink RX6 105 yX8_actOnTop ∈ wsG := inT2 (List.mem_of_getElem? (i := 112) rfl) rfl
theorem lk_X6_108 : Cond.methodLink RX6 108 yX0_part ∈ wsG := inT2 (List.mem_of_getElem? (i := 158) rfl) rfl
theorem lk_X6_114 : Cond.methodLink RX6 114 yX8_frame ∈ wsG := inT2 (List.mem_of_getElem? (i := 133) rfl) rfl
theorem lk_X6_117 : Cond.methodLink RX6 117 yX8_pop ∈ wsG := inT2 (List.mem_of_getElem? (i := 198) rfl) rfl
theorem lk_X6_124 : Cond.methodLink RX6 124 yX8_take ∈ wsG := inT3 (List.mem_of_getElem? (i := 60) rfl) rfl
theorem lk_X6_128 : Cond.methodLink RX6 128 yX1_arise ∈ wsG := inT3 (List.mem_of_getElem? (i := 44) rfl) rfl
theorem lk_X6_131 : Cond.methodLink RX6 131 yX1_end ∈ wsG := inT3 (List.mem_of_getElem? (i := 36) rfl) rfl
theorem lk_X6_134 : Cond.methodLink RX6 134 yX0_partsAhead ∈ wsG := inT2 (List.mem_of_getElem? (i := 206) rfl) rfl
theorem lk_X6_138 : Cond.methodLink RX6 138 yX8_stage ∈ wsG := inT2 (List.mem_of_getElem? (i := 117) rfl) rfl
theorem lk_X6_141 : Cond.methodLink RX6 141 yX6_beginPart ∈ wsG := inT2 (List.mem_of_getElem? (i := 154) rfl) rfl
theorem lk_X6_144 : Cond.methodLink RX6 144 yX0_given ∈ wsG := inT2 (List.mem_of_getElem? (i := 116) rfl) rfl
theorem lk_X6_147 : Cond.methodLink RX6 147 yX6_isStopped ∈ wsG := inT2 (List.mem_of_getElem? (i := 210) rfl) rfl
theorem lk_X6_150 : Cond.methodLink RX6 150 yX8_value ∈ wsG := inT2 (List.mem_of_getElem? (i := 166) rfl) rfl
theorem lk_X6_153 : Cond.methodLink RX6 153 yX7_lengthOf ∈ wsG := inT2 (List.mem_of_getElem? (i := 214) rfl) rfl
theorem lk_X6_157 : Cond.methodLink RX6 157 yX2_of ∈ wsG := inT2 (List.mem_of_getElem? (i := 229) rfl) rfl
theorem lk_X6_163 : Cond.methodLink RX6 163 yX6_endRun ∈ wsG := inT3 (List.mem_of_getElem? (i := 32) rfl) rfl
theorem lk_X6_166 : Cond.methodLink RX6 166 yX9_number ∈ wsG := inT2 (List.mem_of_getElem? (i := 171) rfl) rfl
theorem lk_X6_171 : Cond.methodLink RX6 171 yX6_fail ∈ wsG := inT3 (List.mem_of_getElem? (i := 40) rfl) rfl
theorem lk_X6_174 : Cond.methodLink RX6 174 yX6_keep ∈ wsG := inT3 (List.mem_of_getElem? (i := 52) rfl) rfl
theorem lk_X6_177 : Cond.methodLink RX6 177 yX6_give ∈ wsG := inT3 (List.mem_of_getElem? (i := 56) rfl) rfl
theorem lk_X6_180 : Cond.methodLink RX6 180 yX6_doAlways ∈ wsG := inT3 (List.mem_of_getElem? (i := 64) rfl) rfl
theorem lk_X6_183 : Cond.methodLink RX6 183 yX6_choose ∈ wsG := inT3 (List.mem_of_getElem? (i := 77) rfl) rfl
theorem lk_X6_186 : Cond.methodLink RX6 186 yX6_loop ∈ wsG := inT3 (List.mem_of_getElem? (i := 81) rfl) rfl
theorem lk_X6_189 : Cond.methodLink RX6 189 yX6_call ∈ wsG := inT3 (List.mem_of_getElem? (i := 90) rfl) rfl
theorem lk_X6_192 : Cond.methodLink RX6 192 yX6_delay ∈ wsG := inT3 (List.mem_of_getElem? (i := 99) rfl) rfl
theorem lk_X6_195 : Cond.methodLink RX6 195 yX6_force ∈ wsG := inT3 (List.mem_of_getElem? (i := 111) rfl) rfl
theorem lk_X6_198 : Cond.methodLink RX6 198 yX6_copy ∈ wsG := inT3 (List.mem_of_getElem? (i := 147) rfl) rfl
theorem lk_X6_201 : Cond.methodLink RX6 201 yX6_workPlainly ∈ wsG := inT3 (List.mem_of_getElem? (i := 163) rfl) rfl
theorem lk_X6_204 : Cond.methodLink RX6 204 yX3_write ∈ wsG := inT2 (List.mem_of_getElem? (i := 141) rfl) rfl
theorem lk_X6_208 : Cond.methodLink RX6 208 yX8_holdsFailure ∈ wsG := inT3 (List.mem_of_getElem? (i := 68) rfl) rfl
theorem lk_X6_211 : Cond.methodLink RX6 211 yX8_letGo ∈ wsG := inT3 (List.mem_of_getElem? (i := 72) rfl) rfl
theorem lk_X6_215 : Cond.methodLink RX6 215 yX6_askAgain ∈ wsG := inT3 (List.mem_of_getElem? (i := 85) rfl) rfl
theorem lk_X6_220 : Cond.methodLink RX6 220 yX8_setStage ∈ wsG := inT2 (List.mem_of_getElem? (i := 150) rfl) rfl
theorem lk_X6_223 : Cond.methodLink RX6 223 yX6_enter ∈ wsG := inT3 (List.mem_of_getElem? (i := 94) rfl) rfl
theorem lk_X6_226 : Cond.methodLink RX6 226 yX0_has ∈ wsG := inT3 (List.mem_of_getElem? (i := 98) rfl) rfl
theorem lk_X6_229 : Cond.methodLink RX6 229 yX5_add ∈ wsG := inT3 (List.mem_of_getElem? (i := 103) rfl) rfl
theorem lk_X6_233 : Cond.methodLink RX6 233 yX6_workLater ∈ wsG := inT3 (List.mem_of_getElem? (i := 115) rfl) rfl
theorem lk_X6_236 : Cond.methodLink RX6 236 yX5_finish ∈ wsG := inT3 (List.mem_of_getElem? (i := 143) rfl) rfl
theorem lk_X6_240 : Cond.methodLink RX6 240 yX5_stateOf ∈ wsG := inT3 (List.mem_of_getElem? (i := 119) rfl) rfl
theorem lk_X6_243 : Cond.methodLink RX6 243 yX5_valueOf ∈ wsG := inT3 (List.mem_of_getElem? (i := 123) rfl) rfl
theorem lk_X6_246 : Cond.methodLink RX6 246 yX5_failureOf ∈ wsG := inT3 (List.mem_of_getElem? (i := 127) rfl) rfl
theorem lk_X6_249 : Cond.methodLink RX6 249 yX5_codeOf ∈ wsG := inT3 (List.mem_of_getElem? (i := 131) rfl) rfl
theorem lk_X6_252 : Cond.methodLink RX6 252 yX5_setState ∈ wsG := inT2 (List.mem_of_getElem? (i := 186) rfl) rfl
theorem lk_X6_255 : Cond.methodLink RX6 255 yX5_actOf ∈ wsG := inT3 (List.mem_of_getElem? (i := 135) rfl) rfl
theorem lk_X6_258 : Cond.methodLink RX6 258 yX5_frameOf ∈ wsG := inT3 (List.mem_of_getElem? (i := 139) rfl) rfl
theorem lk_X6_261 : Cond.methodLink RX6 261 yX7_copied ∈ wsG := inT3 (List.mem_of_getElem? (i := 151) rfl) rfl
theorem lk_X6_267 : Cond.methodLink RX6 267 yX6_reckon ∈ wsG := inT3 (List.mem_of_getElem? (i := 167) rfl) rfl
theorem lk_X6_271 : Cond.methodLink RX6 271 yX6_change ∈ wsG := inT3 (List.mem_of_getElem? (i := 178) rfl) rfl
theorem lk_X6_275 : Cond.methodLink RX6 275 yX9_whole ∈ wsG := inT2 (List.mem_of_getElem? (i := 137) rfl) rfl
theorem lk_X6_278 : Cond.methodLink RX6 278 yX3_read ∈ wsG := inT3 (List.mem_of_getElem? (i := 171) rfl) rfl
theorem lk_X6_281 : Cond.methodLink RX6 281 yX9_truth ∈ wsG := inT3 (List.mem_of_getElem? (i := 175) rfl) rfl
theorem lk_X6_285 : Cond.methodLink RX6 285 yX7_newRow ∈ wsG := inT3 (List.mem_of_getElem? (i := 182) rfl) rfl
theorem lk_X6_288 : Cond.methodLink RX6 288 yX7_newLink ∈ wsG := inT3 (List.mem_of_getElem? (i := 188) rfl) rfl
theorem lk_X6_292 : Cond.methodLink RX6 292 yX7_cellOf ∈ wsG := inT3 (List.mem_of_getElem? (i := 192) rfl) rfl
theorem lk_X6_296 : Cond.methodLink RX6 296 yX7_read ∈ wsG := inT3 (List.mem_of_getElem? (i := 193) rfl) rfl
theorem lk_X6_298 : Cond.methodLink RX6 298 yX6_put ∈ wsG := inT3 (List.mem_of_getElem? (i := 194) rfl) rfl
theorem lk_X6_301 : Cond.methodLink RX6 301 yX6_tell ∈ wsG := inT3 (List.mem_of_getElem? (i := 199) rfl) rfl
theorem lk_X6_305 : Cond.methodLink RX6 305 yX7_write ∈ wsG := inT3 (List.mem_of_getElem? (i := 198) rfl) rfl
theorem lk_X6_307 : Cond.methodLink RX6 307 yX1_isFailing ∈ wsG := inT2 (List.mem_of_getElem? (i := 121) rfl) rfl
theorem lk_X6_310 : Cond.methodLink RX6 310 yX6_isCaught ∈ wsG := inT2 (List.mem_of_getElem? (i := 125) rfl) rfl
theorem lk_X6_313 : Cond.methodLink RX6 313 yX6_takeUp ∈ wsG := inT2 (List.mem_of_getElem? (i := 129) rfl) rfl
theorem lk_X6_316 : Cond.methodLink RX6 316 yX8_hold ∈ wsG := inT2 (List.mem_of_getElem? (i := 162) rfl) rfl
theorem lk_X6_319 : Cond.methodLink RX6 319 yX1_settle ∈ wsG := inT2 (List.mem_of_getElem? (i := 149) rfl) rfl
theorem lk_X6_322 : Cond.methodLink RX6 322 yX6_leaveLater ∈ wsG := inT2 (List.mem_of_getElem? (i := 174) rfl) rfl
theorem lk_X6_325 : Cond.methodLink RX6 325 yX8_mark ∈ wsG := inT2 (List.mem_of_getElem? (i := 190) rfl) rfl
theorem lk_X6_328 : Cond.methodLink RX6 328 yX7_undoBackTo ∈ wsG := inT2 (List.mem_of_getElem? (i := 194) rfl) rfl
theorem lk_X6_334 : Cond.methodLink RX6 334 yX5_giveUp ∈ wsG := inT2 (List.mem_of_getElem? (i := 178) rfl) rfl
theorem lk_X7_22 : Cond.methodLink RX7 22 yX7_restart ∈ wsG := inT1 (List.mem_of_getElem? (i := 60) rfl) rfl
theorem lk_X7_25 : Cond.methodLink RX7 25 yX9_number ∈ wsG := inT2 (List.mem_of_getElem? (i := 224) rfl) rfl
theorem lk_X7_40 : Cond.methodLink RX7 40 yX9_whole ∈ wsG := inT3 (List.mem_of_getElem? (i := 186) rfl) rfl
theorem lk_X7_44 : Cond.methodLink RX7 44 yX9_of ∈ wsG := inT3 (List.mem_of_getElem? (i := 187) rfl) rfl
theorem lk_X7_48 : Cond.methodLink RX7 48 yX7_cellOf ∈ wsG := inT3 (List.mem_of_getElem? (i := 155) rfl) rfl
theorem lk_X7_52 : Cond.methodLink RX7 52 yX7_read ∈ wsG := inT2 (List.mem_of_getElem? (i := 225) rfl) rfl
theorem lk_X7_55 : Cond.methodLink RX7 55 yX9_isStrange ∈ wsG := inT3 (List.mem_of_getElem? (i := 158) rfl) rfl
theorem lk_X7_59 : Cond.methodLink RX7 59 yX7_write ∈ wsG := inT3 (List.mem_of_getElem? (i := 159) rfl) rfl
theorem lk_X7_63 : Cond.methodLink RX7 63 yX9_isRow ∈ wsG := inT2 (List.mem_of_getElem? (i := 218) rfl) rfl
theorem lk_X7_67 : Cond.methodLink RX7 67 yX9_sort ∈ wsG := inT3 (List.mem_of_getElem? (i := 216) rfl) rfl
theorem lk_X7_70 : Cond.methodLink RX7 70 yX7_lengthOf ∈ wsG := inT3 (List.mem_of_getElem? (i := 217) rfl) rfl
theorem lk_X8_59 : Cond.methodLink RX8 59 yX1_goOn ∈ wsG := inT3 (List.mem_of_getElem? (i := 76) rfl) rfl
theorem lk_X9_9 : Cond.methodLink RX9 9 yX9_sort ∈ wsG := inT2 (List.mem_of_getElem? (i := 221) rfl) rfl
theorem lk_L_7 : Cond.methodLink RL 7 yX10_place ∈ wsG := inT4 (List.mem_of_getElem? (i := 84) rfl) rfl
theorem lk_L_15 : Cond.methodLink RL 15 yX10_init ∈ wsG := inT1 (List.mem_of_getElem? (i := 21) rfl) rfl
theorem lk_L_18 : Cond.methodLink RL 18 yX11_init ∈ wsG := inT4 (List.mem_of_getElem? (i := 97) rfl) rfl
theorem lk_L_19 : Cond.methodLink RL 19 yX10_act ∈ wsG := inT2 (List.mem_of_getElem? (i := 15) rfl) rfl
theorem lk_L_23 : Cond.methodLink RL 23 yX11_act ∈ wsG := inT5 (List.mem_of_getElem? (i := 30) rfl) rfl
theorem lk_L_24 : Cond.methodLink RL 24 yX10_told ∈ wsG := inT2 (List.mem_of_getElem? (i := 47) rfl) rfl
theorem lk_L_28 : Cond.methodLink RL 28 yX11_told ∈ wsG := inT5 (List.mem_of_getElem? (i := 44) rfl) rfl
theorem lk_L_29 : Cond.methodLink RL 29 yX10_run ∈ wsG := inT2 (List.mem_of_getElem? (i := 56) rfl) rfl
theorem lk_L_32 : Cond.methodLink RL 32 yX11_run ∈ wsG := inT5 (List.mem_of_getElem? (i := 48) rfl) rfl
theorem lk_L_33 : Cond.methodLink RL 33 yX10_ended ∈ wsG := inT3 (List.mem_of_getElem? (i := 204) rfl) rfl
theorem lk_L_36 : Cond.methodLink RL 36 yX11_ended ∈ wsG := inT5 (List.mem_of_getElem? (i := 167) rfl) rfl
theorem lk_L_37 : Cond.methodLink RL 37 yX10_gave ∈ wsG := inT3 (List.mem_of_getElem? (i := 208) rfl) rfl
theorem lk_L_41 : Cond.methodLink RL 41 yX11_gave ∈ wsG := inT5 (List.mem_of_getElem? (i := 171) rfl) rfl
theorem lk_L_42 : Cond.methodLink RL 42 yL_place ∈ wsG := inT4 (List.mem_of_getElem? (i := 7) rfl) rfl
theorem lk_L_47 : Cond.methodLink RL 47 yX11_place ∈ wsG := inT5 (List.mem_of_getElem? (i := 183) rfl) rfl
theorem lk_L_48 : Cond.methodLink RL 48 yX11_thrown ∈ wsG := inT5 (List.mem_of_getElem? (i := 179) rfl) rfl
theorem lk_L_51 : Cond.methodLink RL 51 yX10_box ∈ wsG := inT3 (List.mem_of_getElem? (i := 218) rfl) rfl
theorem lk_L_54 : Cond.methodLink RL 54 yX11_box ∈ wsG := inT5 (List.mem_of_getElem? (i := 187) rfl) rfl
theorem lk_L_55 : Cond.methodLink RL 55 yX10_boxed ∈ wsG := inT3 (List.mem_of_getElem? (i := 226) rfl) rfl
theorem lk_L_58 : Cond.methodLink RL 58 yX11_boxed ∈ wsG := inT5 (List.mem_of_getElem? (i := 191) rfl) rfl
theorem lk_L_59 : Cond.methodLink RL 59 yX10_same ∈ wsG := inT3 (List.mem_of_getElem? (i := 230) rfl) rfl
theorem lk_L_62 : Cond.methodLink RL 62 yX11_same ∈ wsG := inT5 (List.mem_of_getElem? (i := 195) rfl) rfl
theorem lk_L_63 : Cond.methodLink RL 63 yX10_out ∈ wsG := inT3 (List.mem_of_getElem? (i := 234) rfl) rfl
theorem lk_L_66 : Cond.methodLink RL 66 yX11_out ∈ wsG := inT5 (List.mem_of_getElem? (i := 199) rfl) rfl
theorem lk_L_67 : Cond.methodLink RL 67 yX10_count ∈ wsG := inT3 (List.mem_of_getElem? (i := 238) rfl) rfl
theorem lk_L_70 : Cond.methodLink RL 70 yX11_count ∈ wsG := inT5 (List.mem_of_getElem? (i := 203) rfl) rfl
theorem lk_L_71 : Cond.methodLink RL 71 yX10_clear ∈ wsG := inT4 (List.mem_of_getElem? (i := 2) rfl) rfl
theorem lk_L_74 : Cond.methodLink RL 74 yX11_clear ∈ wsG := inT5 (List.mem_of_getElem? (i := 207) rfl) rfl
end
section
/-! X9_sort sort -/
def wX9_sort (σ : Sg) (l0 : Int64) (Q : Int32 → Sg → Prop) : Prop :=
  Q ((l0 >>> (((32 : Int32)).toInt64 &&& 63))).toInt32 σ
set_option maxRecDepth 100000 in
set_option maxHeartbeats 4000000 in
theorem xX9_sort {G : Gx} (hG : gLy G = LyC) {σ : Sg} {l0 : Int64} {Q : Int32 → Sg → Prop} (h : wX9_sort σ l0 Q) : X G mX9_sort 1 0 [(0, .long l0)] [] σ (qi Q) := by
  unfold wX9_sort at h
  refine x_lload_n dX9_sort_0 rfl 0 rfl ?_
  refine x_bipush (v := (32 : Int32)) dX9_sort_1 rfl ?_
  refine x_lshr dX9_sort_3 ?_
  refine x_l2i dX9_sort_4 ?_
  exact x_iret rfl dX9_sort_5 ⟨_, rfl, h⟩
theorem ct_X9_sort {G : Gx} (hG : gLy G = LyC) {σ : Sg} {l0 : Int64} {Q : Int32 → Sg → Prop} (h : wX9_sort σ l0 Q) : CT G mX9_sort 1 [.long l0] σ (qi Q) := ct_of rfl (Nat.le_of_ble_eq_true rfl) rfl (xX9_sort hG h)
/-! X9_number number -/
def wX9_number (σ : Sg) (l0 : Int64) (Q : Int32 → Sg → Prop) : Prop :=
  Q (l0).toInt32 σ
set_option maxRecDepth 100000 in
set_option maxHeartbeats 4000000 in
theorem xX9_number {G : Gx} (hG : gLy G = LyC) {σ : Sg} {l0 : Int64} {Q : Int32 → Sg → Prop} (h : wX9_number σ l0 Q) : X G mX9_number 1 0 [(0, .long l0)] [] σ (qi Q) := by
  unfold wX9_number at h
  refine x_lload_n dX9_number_0 rfl 0 rfl ?_
  refine x_l2i dX9_number_1 ?_
  exact x_iret rfl dX9_number_2 ⟨_, rfl, h⟩
theorem ct_X9_number {G : Gx} (hG : gLy G = LyC) {σ : Sg} {l0 : Int64} {Q : Int32 → Sg → Prop} (h : wX9_number σ l0 Q) : CT G mX9_number 1 [.long l0] σ (qi Q) := ct_of rfl (Nat.le_of_ble_eq_true rfl) rfl (xX9_number hG h)
/-! X9_isRow isRow -/
def wX9_isRow_20 (σ : Sg) (Q : Int32 → Sg → Prop) : Prop :=
  Q (1 : Int32) σ
set_option maxRecDepth 100000 in
set_option maxHeartbeats 4000000 in
theorem xX9_isRow_20 {G : Gx} (hG : gLy G = LyC) {σ : Sg} {Q : Int32 → Sg → Prop} (h : wX9_isRow_20 σ Q) : X G mX9_isRow 2 20 [] [] σ (qi Q) := by
  unfold wX9_isRow_20 at h
  refine x_iconst (v := (1 : Int32)) dX9_isRow_20 rfl ?_
  refine x_goto dX9_isRow_21 25 (by decide) ?_
  exact x_zret rfl bz_1 dX9_isRow_25 ⟨_, rfl, h⟩
def wX9_isRow (σ : Sg) (l0 : Int64) (Q : Int32 → Sg → Prop) : Prop :=
  wX9_sort σ l0 (fun r2 σ1 =>
  (r2 = (2 : Int32) → (
    wX9_isRow_20 σ1 Q
  )) ∧ (¬ r2 = (2 : Int32) → (
    (r2 = (3 : Int32) → (
      wX9_isRow_20 σ1 Q
    )) ∧ (¬ r2 = (3 : Int32) → (
      (r2 = (4 : Int32) → (
        wX9_isRow_20 σ1 Q
      )) ∧ (¬ r2 = (4 : Int32) → (
        Q (0 : Int32) σ1
      ))
    ))
  ))
  )
set_option maxRecDepth 100000 in
set_option maxHeartbeats 4000000 in
theorem xX9_isRow {G : Gx} (hG : gLy G = LyC) {σ : Sg} {l0 : Int64} {Q : Int32 → Sg → Prop} (h : wX9_isRow σ l0 Q) : X G mX9_isRow 2 0 [(0, .long l0)] [] σ (qi Q) := by
  unfold wX9_isRow at h
  refine x_lload_n dX9_isRow_0 rfl 0 rfl ?_
  refine x_callSi [_] ms_X9_sort lk_X9_9 rfl ⟨by decide, by decide⟩ rfl (Nat.le_of_ble_eq_true rfl) dX9_isRow_1 (ct_X9_sort hG h) (fun r2 σ1 h => ?_)
  refine x_istore_n dX9_isRow_4 rfl (Nat.le_of_ble_eq_true rfl) (lv' := [(2, _), (0, _)]) rfl ?_
  refine x_iload_n dX9_isRow_5 rfl 0 rfl ?_
  refine x_iconst (v := (2 : Int32)) dX9_isRow_6 rfl ?_
  refine x_icmp_eq dX9_isRow_7 20 (by decide) (fun c => ?_) (fun c => ?_)
  · replace h := h.1 c
    exact x_sub [] rfl (xX9_isRow_20 hG h)
  · replace h := h.2 c
    refine x_iload_n dX9_isRow_10 rfl 0 rfl ?_
    refine x_iconst (v := (3 : Int32)) dX9_isRow_11 rfl ?_
    refine x_icmp_eq dX9_isRow_12 20 (by decide) (fun c => ?_) (fun c => ?_)
    · replace h := h.1 c
      exact x_sub [] rfl (xX9_isRow_20 hG h)
    · replace h := h.2 c
      refine x_iload_n dX9_isRow_15 rfl 0 rfl ?_
      refine x_iconst (v := (4 : Int32)) dX9_isRow_16 rfl ?_
      refine x_icmp_ne dX9_isRow_17 24 (by decide) (fun c => ?_) (fun c => ?_)
      · replace h := h.1 c
        exact x_sub [] rfl (xX9_isRow_20 hG h)
      · replace h := h.2 c
        refine x_iconst (v := (0 : Int32)) dX9_isRow_24 rfl ?_
        exact x_zret rfl bz_0 dX9_isRow_25 ⟨_, rfl, h⟩
theorem ct_X9_isRow {G : Gx} (hG : gLy G = LyC) {σ : Sg} {l0 : Int64} {Q : Int32 → Sg → Prop} (h : wX9_isRow σ l0 Q) : CT G mX9_isRow 2 [.long l0] σ (qi Q) := ct_of rfl (Nat.le_of_ble_eq_true rfl) rfl (xX9_isRow hG h)
/-! X9_isRowForLinks isRowForLinks -/
def wX9_isRowForLinks_15 (σ : Sg) (Q : Int32 → Sg → Prop) : Prop :=
  Q (1 : Int32) σ
set_option maxRecDepth 100000 in
set_option maxHeartbeats 4000000 in
theorem xX9_isRowForLinks_15 {G : Gx} (hG : gLy G = LyC) {σ : Sg} {Q : Int32 → Sg → Prop} (h : wX9_isRowForLinks_15 σ Q) : X G mX9_isRowForLinks 2 15 [] [] σ (qi Q) := by
  unfold wX9_isRowForLinks_15 at h
  refine x_iconst (v := (1 : Int32)) dX9_isRowForLinks_15 rfl ?_
  refine x_goto dX9_isRowForLinks_16 20 (by decide) ?_
  exact x_zret rfl bz_1 dX9_isRowForLinks_20 ⟨_, rfl, h⟩
def wX9_isRowForLinks (σ : Sg) (l0 : Int64) (Q : Int32 → Sg → Prop) : Prop :=
  wX9_sort σ l0 (fun r2 σ1 =>
  (r2 = (3 : Int32) → (
    wX9_isRowForLinks_15 σ1 Q
  )) ∧ (¬ r2 = (3 : Int32) → (
    (r2 = (4 : Int32) → (
      wX9_isRowForLinks_15 σ1 Q
    )) ∧ (¬ r2 = (4 : Int32) → (
      Q (0 : Int32) σ1
    ))
  ))
  )
set_option maxRecDepth 100000 in
set_option maxHeartbeats 4000000 in
theorem xX9_isRowForLinks {G : Gx} (hG : gLy G = LyC) {σ : Sg} {l0 : Int64} {Q : Int32 → Sg → Prop} (h : wX9_isRowForLinks σ l0 Q) : X G mX9_isRowForLinks 2 0 [(0, .long l0)] [] σ (qi Q) := by
  unfold wX9_isRowForLinks at h
  refine x_lload_n dX9_isRowForLinks_0 rfl 0 rfl ?_
  refine x_callSi [_] ms_X9_sort lk_X9_9 rfl ⟨by decide, by decide⟩ rfl (Nat.le_of_ble_eq_true rfl) dX9_isRowForLinks_1 (ct_X9_sort hG h) (fun r2 σ1 h => ?_)
  refine x_istore_n dX9_isRowForLinks_4 rfl (Nat.le_of_ble_eq_true rfl) (lv' := [(2, _), (0, _)]) rfl ?_
  refine x_iload_n dX9_isRowForLinks_5 rfl 0 rfl ?_
  refine x_iconst (v := (3 : Int32)) dX9_isRowForLinks_6 rfl ?_
  refine x_icmp_eq dX9_isRowForLinks_7 15 (by decide) (fun c => ?_) (fun c => ?_)
  · replace h := h.1 c
    exact x_sub [] rfl (xX9_isRowForLinks_15 hG h)
  · replace h := h.2 c
    refine x_iload_n dX9_isRowForLinks_10 rfl 0 rfl ?_
    refine x_iconst (v := (4 : Int32)) dX9_isRowForLinks_11 rfl ?_
    refine x_icmp_ne dX9_isRowForLinks_12 19 (by decide) (fun c => ?_) (fun c => ?_)
    · replace h := h.1 c
      exact x_sub [] rfl (xX9_isRowForLinks_15 hG h)
    · replace h := h.2 c
      refine x_iconst (v := (0 : Int32)) dX9_isRowForLinks_19 rfl ?_
      exact x_zret rfl bz_0 dX9_isRowForLinks_20 ⟨_, rfl, h⟩
theorem ct_X9_isRowForLinks {G : Gx} (hG : gLy G = LyC) {σ : Sg} {l0 : Int64} {Q : Int32 → Sg → Prop} (h : wX9_isRowForLinks σ l0 Q) : CT G mX9_isRowForLinks 2 [.long l0] σ (qi Q) := ct_of rfl (Nat.le_of_ble_eq_true rfl) rfl (xX9_isRowForLinks hG h)
/-! X9_isLinkOrNothing isLinkOrNothing -/
def wX9_isLinkOrNothing_21 (σ : Sg) (Q : Int32 → Sg → Prop) : Prop :=
  Q (1 : Int32) σ
set_option maxRecDepth 100000 in
set_option maxHeartbeats 4000000 in
theorem xX9_isLinkOrNothing_21 {G : Gx} (hG : gLy G = LyC) {σ : Sg} {Q : Int32 → Sg → Prop} (h : wX9_isLinkOrNothing_21 σ Q) : X G mX9_isLinkOrNothing 2 21 [] [] σ (qi Q) := by
  unfold wX9_isLinkOrNothing_21 at h
  refine x_iconst (v := (1 : Int32)) dX9_isLinkOrNothing_21 rfl ?_
  refine x_goto dX9_isLinkOrNothing_22 26 (by decide) ?_
  exact x_zret rfl bz_1 dX9_isLinkOrNothing_26 ⟨_, rfl, h⟩
def wX9_isLinkOrNothing (σ : Sg) (l0 : Int64) (Q : Int32 → Sg → Prop) : Prop :=
  wX9_sort σ l0 (fun r2 σ1 =>
  (r2 = (5 : Int32) → (
    wX9_isLinkOrNothing_21 σ1 Q
  )) ∧ (¬ r2 = (5 : Int32) → (
    (r2 = (6 : Int32) → (
      wX9_isLinkOrNothing_21 σ1 Q
    )) ∧ (¬ r2 = (6 : Int32) → (
      (r2 = (1 : Int32) → (
        wX9_isLinkOrNothing_21 σ1 Q
      )) ∧ (¬ r2 = (1 : Int32) → (
        Q (0 : Int32) σ1
      ))
    ))
  ))
  )
set_option maxRecDepth 100000 in
set_option maxHeartbeats 4000000 in
theorem xX9_isLinkOrNothing {G : Gx} (hG : gLy G = LyC) {σ : Sg} {l0 : Int64} {Q : Int32 → Sg → Prop} (h : wX9_isLinkOrNothing σ l0 Q) : X G mX9_isLinkOrNothing 2 0 [(0, .long l0)] [] σ (qi Q) := by
  unfold wX9_isLinkOrNothing at h
  refine x_lload_n dX9_isLinkOrNothing_0 rfl 0 rfl ?_
  refine x_callSi [_] ms_X9_sort lk_X9_9 rfl ⟨by decide, by decide⟩ rfl (Nat.le_of_ble_eq_true rfl) dX9_isLinkOrNothing_1 (ct_X9_sort hG h) (fun r2 σ1 h => ?_)
  refine x_istore_n dX9_isLinkOrNothing_4 rfl (Nat.le_of_ble_eq_true rfl) (lv' := [(2, _), (0, _)]) rfl ?_
  refine x_iload_n dX9_isLinkOrNothing_5 rfl 0 rfl ?_
  refine x_iconst (v := (5 : Int32)) dX9_isLinkOrNothing_6 rfl ?_
  refine x_icmp_eq dX9_isLinkOrNothing_7 21 (by decide) (fun c => ?_) (fun c => ?_)
  · replace h := h.1 c
    exact x_sub [] rfl (xX9_isLinkOrNothing_21 hG h)
  · replace h := h.2 c
    refine x_iload_n dX9_isLinkOrNothing_10 rfl 0 rfl ?_
    refine x_bipush (v := (6 : Int32)) dX9_isLinkOrNothing_11 rfl ?_
    refine x_icmp_eq dX9_isLinkOrNothing_13 21 (by decide) (fun c => ?_) (fun c => ?_)
    · replace h := h.1 c
      exact x_sub [] rfl (xX9_isLinkOrNothing_21 hG h)
    · replace h := h.2 c
      refine x_iload_n dX9_isLinkOrNothing_16 rfl 0 rfl ?_
      refine x_iconst (v := (1 : Int32)) dX9_isLinkOrNothing_17 rfl ?_
      refine x_icmp_ne dX9_isLinkOrNothing_18 25 (by decide) (fun c => ?_) (fun c => ?_)
      · replace h := h.1 c
        exact x_sub [] rfl (xX9_isLinkOrNothing_21 hG h)
      · replace h := h.2 c
        refine x_iconst (v := (0 : Int32)) dX9_isLinkOrNothing_25 rfl ?_
        exact x_zret rfl bz_0 dX9_isLinkOrNothing_26 ⟨_, rfl, h⟩
theorem ct_X9_isLinkOrNothing {G : Gx} (hG : gLy G = LyC) {σ : Sg} {l0 : Int64} {Q : Int32 → Sg → Prop} (h : wX9_isLinkOrNothing σ l0 Q) : CT G mX9_isLinkOrNothing 2 [.long l0] σ (qi Q) := ct_of rfl (Nat.le_of_ble_eq_true rfl) rfl (xX9_isLinkOrNothing hG h)
/-! X9_isStrange isStrange -/
def wX9_isStrange (σ : Sg) (l0 : Int64) (l2 : Int64) (Q : Int32 → Sg → Prop) : Prop :=
  wX9_sort σ l0 (fun r2 σ1 =>
  (r2 = (4 : Int32) → (
    wX9_sort σ1 l2 (fun r4 σ3 =>
    (r4 = (5 : Int32) → (
      Q (1 : Int32) σ3
    )) ∧ (¬ r4 = (5 : Int32) → (
      Q (0 : Int32) σ3
    ))
    )
  )) ∧ (¬ r2 = (4 : Int32) → (
    Q (0 : Int32) σ1
  ))
  )
set_option maxRecDepth 100000 in
set_option maxHeartbeats 4000000 in
theorem xX9_isStrange {G : Gx} (hG : gLy G = LyC) {σ : Sg} {l0 : Int64} {l2 : Int64} {Q : Int32 → Sg → Prop} (h : wX9_isStrange σ l0 l2 Q) : X G mX9_isStrange 2 0 [(0, .long l0), (2, .long l2)] [] σ (qi Q) := by
  unfold wX9_isStrange at h
  refine x_lload_n dX9_isStrange_0 rfl 0 rfl ?_
  refine x_callSi [_] ms_X9_sort lk_X9_9 rfl ⟨by decide, by decide⟩ rfl (Nat.le_of_ble_eq_true rfl) dX9_isStrange_1 (ct_X9_sort hG h) (fun r2 σ1 h => ?_)
  refine x_iconst (v := (4 : Int32)) dX9_isStrange_4 rfl ?_
  refine x_icmp_ne dX9_isStrange_5 20 (by decide) (fun c => ?_) (fun c => ?_)
  · replace h := h.1 c
    refine x_lload_n dX9_isStrange_8 rfl 1 rfl ?_
    refine x_callSi [_] ms_X9_sort lk_X9_9 rfl ⟨by decide, by decide⟩ rfl (Nat.le_of_ble_eq_true rfl) dX9_isStrange_9 (ct_X9_sort hG h) (fun r4 σ3 h => ?_)
    refine x_iconst (v := (5 : Int32)) dX9_isStrange_12 rfl ?_
    refine x_icmp_ne dX9_isStrange_13 20 (by decide) (fun c => ?_) (fun c => ?_)
    · replace h := h.1 c
      refine x_iconst (v := (1 : Int32)) dX9_isStrange_16 rfl ?_
      refine x_goto dX9_isStrange_17 21 (by decide) ?_
      exact x_zret rfl bz_1 dX9_isStrange_21 ⟨_, rfl, h⟩
    · replace h := h.2 c
      refine x_iconst (v := (0 : Int32)) dX9_isStrange_20 rfl ?_
      exact x_zret rfl bz_0 dX9_isStrange_21 ⟨_, rfl, h⟩
  · replace h := h.2 c
    refine x_iconst (v := (0 : Int32)) dX9_isStrange_20 rfl ?_
    exact x_zret rfl bz_0 dX9_isStrange_21 ⟨_, rfl, h⟩
theorem ct_X9_isStrange {G : Gx} (hG : gLy G = LyC) {σ : Sg} {l0 : Int64} {l2 : Int64} {Q : Int32 → Sg → Prop} (h : wX9_isStrange σ l0 l2 Q) : CT G mX9_isStrange 2 [.long l0, .long l2] σ (qi Q) := ct_of rfl (Nat.le_of_ble_eq_true rfl) rfl (xX9_isStrange hG h)
/-! X9_isLink isLink -/
def wX9_isLink_16 (σ : Sg) (Q : Int32 → Sg → Prop) : Prop :=
  Q (1 : Int32) σ
set_option maxRecDepth 100000 in
set_option maxHeartbeats 4000000 in
theorem xX9_isLink_16 {G : Gx} (hG : gLy G = LyC) {σ : Sg} {Q : Int32 → Sg → Prop} (h : wX9_isLink_16 σ Q) : X G mX9_isLink 2 16 [] [] σ (qi Q) := by
  unfold wX9_isLink_16 at h
  refine x_iconst (v := (1 : Int32)) dX9_isLink_16 rfl ?_
  refine x_goto dX9_isLink_17 21 (by decide) ?_
  exact x_zret rfl bz_1 dX9_isLink_21 ⟨_, rfl, h⟩
def wX9_isLink (σ : Sg) (l0 : Int64) (Q : Int32 → Sg → Prop) : Prop :=
  wX9_sort σ l0 (fun r2 σ1 =>
  (r2 = (5 : Int32) → (
    wX9_isLink_16 σ1 Q
  )) ∧ (¬ r2 = (5 : Int32) → (
    (r2 = (6 : Int32) → (
      wX9_isLink_16 σ1 Q
    )) ∧ (¬ r2 = (6 : Int32) → (
      Q (0 : Int32) σ1
    ))
  ))
  )
set_option maxRecDepth 100000 in
set_option maxHeartbeats 4000000 in
theorem xX9_isLink {G : Gx} (hG : gLy G = LyC) {σ : Sg} {l0 : Int64} {Q : Int32 → Sg → Prop} (h : wX9_isLink σ l0 Q) : X G mX9_isLink 2 0 [(0, .long l0)] [] σ (qi Q) := by
  unfold wX9_isLink at h
  refine x_lload_n dX9_isLink_0 rfl 0 rfl ?_
  refine x_callSi [_] ms_X9_sort lk_X9_9 rfl ⟨by decide, by decide⟩ rfl (Nat.le_of_ble_eq_true rfl) dX9_isLink_1 (ct_X9_sort hG h) (fun r2 σ1 h => ?_)
  refine x_istore_n dX9_isLink_4 rfl (Nat.le_of_ble_eq_true rfl) (lv' := [(2, _), (0, _)]) rfl ?_
  refine x_iload_n dX9_isLink_5 rfl 0 rfl ?_
  refine x_iconst (v := (5 : Int32)) dX9_isLink_6 rfl ?_
  refine x_icmp_eq dX9_isLink_7 16 (by decide) (fun c => ?_) (fun c => ?_)
  · replace h := h.1 c
    exact x_sub [] rfl (xX9_isLink_16 hG h)
  · replace h := h.2 c
    refine x_iload_n dX9_isLink_10 rfl 0 rfl ?_
    refine x_bipush (v := (6 : Int32)) dX9_isLink_11 rfl ?_
    refine x_icmp_ne dX9_isLink_13 20 (by decide) (fun c => ?_) (fun c => ?_)
    · replace h := h.1 c
      exact x_sub [] rfl (xX9_isLink_16 hG h)
    · replace h := h.2 c
      refine x_iconst (v := (0 : Int32)) dX9_isLink_20 rfl ?_
      exact x_zret rfl bz_0 dX9_isLink_21 ⟨_, rfl, h⟩
theorem ct_X9_isLink {G : Gx} (hG : gLy G = LyC) {σ : Sg} {l0 : Int64} {Q : Int32 → Sg → Prop} (h : wX9_isLink σ l0 Q) : CT G mX9_isLink 2 [.long l0] σ (qi Q) := ct_of rfl (Nat.le_of_ble_eq_true rfl) rfl (xX9_isLink hG h)
/-! X9_of of -/
def wX9_of (σ : Sg) (l0 : Int32) (l1 : Int32) (Q : Int64 → Sg → Prop) : Prop :=
  Q (((l0).toInt64 <<< (((32 : Int32)).toInt64 &&& 63)) ||| ((l1).toInt64 &&& (4294967295 : Int64))) σ
set_option maxRecDepth 100000 in
set_option maxHeartbeats 4000000 in
theorem xX9_of {G : Gx} (hG : gLy G = LyC) {σ : Sg} {l0 : Int32} {l1 : Int32} {Q : Int64 → Sg → Prop} (h : wX9_of σ l0 l1 Q) : X G mX9_of 1 0 [(0, .int l0), (1, .int l1)] [] σ (ql Q) := by
  unfold wX9_of at h
  refine x_iload_n dX9_of_0 rfl 0 rfl ?_
  refine x_i2l dX9_of_1 ?_
  refine x_bipush (v := (32 : Int32)) dX9_of_2 rfl ?_
  refine x_lshl dX9_of_4 ?_
  refine x_iload_n dX9_of_5 rfl 1 rfl ?_
  refine x_i2l dX9_of_6 ?_
  refine x_ldc2 dX9_of_7 cl_X9_7 ?_
  refine x_land dX9_of_10 ?_
  refine x_lor dX9_of_11 ?_
  exact x_lret rfl dX9_of_12 ⟨_, rfl, h⟩
theorem ct_X9_of {G : Gx} (hG : gLy G = LyC) {σ : Sg} {l0 : Int32} {l1 : Int32} {Q : Int64 → Sg → Prop} (h : wX9_of σ l0 l1 Q) : CT G mX9_of 1 [.int l0, .int l1] σ (ql Q) := ct_of rfl (Nat.le_of_ble_eq_true rfl) rfl (xX9_of hG h)
/-! X9_whole whole -/
def wX9_whole (σ : Sg) (l0 : Int32) (Q : Int64 → Sg → Prop) : Prop :=
  Q ((l0).toInt64 &&& (4294967295 : Int64)) σ
set_option maxRecDepth 100000 in
set_option maxHeartbeats 4000000 in
theorem xX9_whole {G : Gx} (hG : gLy G = LyC) {σ : Sg} {l0 : Int32} {Q : Int64 → Sg → Prop} (h : wX9_whole σ l0 Q) : X G mX9_whole 1 0 [(0, .int l0)] [] σ (ql Q) := by
  unfold wX9_whole at h
  refine x_iload_n dX9_whole_0 rfl 0 rfl ?_
  refine x_i2l dX9_whole_1 ?_
  refine x_ldc2 dX9_whole_2 cl_X9_7 ?_
  refine x_land dX9_whole_5 ?_
  exact x_lret rfl dX9_whole_6 ⟨_, rfl, h⟩
theorem ct_X9_whole {G : Gx} (hG : gLy G = LyC) {σ : Sg} {l0 : Int32} {Q : Int64 → Sg → Prop} (h : wX9_whole σ l0 Q) : CT G mX9_whole 1 [.int l0] σ (ql Q) := ct_of rfl (Nat.le_of_ble_eq_true rfl) rfl (xX9_whole hG h)
/-! X9_truth truth -/
def wX9_truth (σ : Sg) (l0 : Int32) (Q : Int64 → Sg → Prop) : Prop :=
  (l0 = 0 → (
    Q (0 : Int64) σ
  )) ∧ (¬ l0 = 0 → (
    Q (1 : Int64) σ
  ))
set_option maxRecDepth 100000 in
set_option maxHeartbeats 4000000 in
theorem xX9_truth {G : Gx} (hG : gLy G = LyC) {σ : Sg} {l0 : Int32} {Q : Int64 → Sg → Prop} (h : wX9_truth σ l0 Q) : X G mX9_truth 1 0 [(0, .int l0)] [] σ (ql Q) := by
  unfold wX9_truth at h
  refine x_iload_n dX9_truth_0 rfl 0 rfl ?_
  refine x_if_eq dX9_truth_1 8 (by decide) (fun c => ?_) (fun c => ?_)
  · replace h := h.1 c
    refine x_lconst (v := (0 : Int64)) dX9_truth_8 rfl ?_
    exact x_lret rfl dX9_truth_9 ⟨_, rfl, h⟩
  · replace h := h.2 c
    refine x_lconst (v := (1 : Int64)) dX9_truth_4 rfl ?_
    refine x_goto dX9_truth_5 9 (by decide) ?_
    exact x_lret rfl dX9_truth_9 ⟨_, rfl, h⟩
theorem ct_X9_truth {G : Gx} (hG : gLy G = LyC) {σ : Sg} {l0 : Int32} {Q : Int64 → Sg → Prop} (h : wX9_truth σ l0 Q) : CT G mX9_truth 1 [.int l0] σ (ql Q) := ct_of rfl (Nat.le_of_ble_eq_true rfl) rfl (xX9_truth hG h)
end
section
/-! X3_restart restart -/
def wX3_restart (σ : Sg) (Q : Sg → Prop) : Prop :=
  let σ1 := wI σ 12 1 (0 : Int32)
  Q σ1
set_option maxRecDepth 100000 in
set_option maxHeartbeats 4000000 in
theorem xX3_restart {G : Gx} (hG : gLy G = LyC) {σ : Sg} {Q : Sg → Prop} (h : wX3_restart σ Q) : X G mX3_restart 1 0 [(0, .ref (gad G 12))] [] σ (qv Q) := by
  unfold wX3_restart at h
  refine x_aload_n dX3_restart_0 rfl 0 rfl ?_
  refine x_iconst (v := (0 : Int32)) dX3_restart_1 rfl ?_
  refine x_putI hG fp_X3_15 dX3_restart_2 ?_
  exact x_vret rfl dX3_restart_5 ⟨rfl, h⟩
theorem ct_X3_restart {G : Gx} (hG : gLy G = LyC) {σ : Sg} {Q : Sg → Prop} (h : wX3_restart σ Q) : CT G mX3_restart 1 [.ref (gad G 12)] σ (qv Q) := ct_of rfl (Nat.le_of_ble_eq_true rfl) rfl (xX3_restart hG h)
/-! X3_open open -/
def wX3_open_33 : Nat → Sg → Int32 → Int32 → (Int32 → Sg → Prop) → Prop
  | 0 => fun _ _ _ _ => False
  | n + 1 => fun σ l1 l2 Q =>
  (l2 < ((8 : Int32) * (sI σ 12 1)) → (
    vp_in l2 1608 ∧
    let σ1 := wL σ 13 (l2).toNatClampNeg (4294967296 : Int64)
    wX3_open_33 n σ1 l1 (l2 + (1 : Int32)) Q
  )) ∧ (¬ l2 < ((8 : Int32) * (sI σ 12 1)) → (
    Q l1 σ
  ))
set_option maxRecDepth 100000 in
set_option maxHeartbeats 4000000 in
theorem xX3_open_33 {G : Gx} (hG : gLy G = LyC) {Q : Int32 → Sg → Prop} (n : Nat) : ∀ {σ : Sg} {l1 : Int32} {l2 : Int32}, wX3_open_33 n σ l1 l2 Q → X G mX3_open 1 33 [(0, .ref (gad G 12)), (1, .int l1), (2, .int l2)] [] σ (qi Q) := by
  induction n with
  | zero => intro σ l1 l2 h; exact False.elim h
  | succ n ih =>
  intro σ l1 l2 h
  unfold wX3_open_33 at h
  refine x_iload_n dX3_open_33 rfl 2 rfl ?_
  refine x_bipush (v := (8 : Int32)) dX3_open_34 rfl ?_
  refine x_aload_n dX3_open_36 rfl 0 rfl ?_
  refine x_getIv hG fg_X3_15 dX3_open_37 rfl ?_
  refine x_imul dX3_open_40 ?_
  refine x_icmp_ge dX3_open_41 59 (by decide) (fun c => ?_) (fun c => ?_)
  · replace h := h.1 c
    refine x_aload_n dX3_open_44 rfl 0 rfl ?_
    refine x_getR (q := 13) hG fg_X3_11 dX3_open_45 ?_
    refine x_iload_n dX3_open_48 rfl 2 rfl ?_
    refine x_ldc2 dX3_open_49 cl_X3_21 ?_
    refine x_last hG rfl dX3_open_52 h.1 ?_
    replace h := h.2
    refine x_iinc dX3_open_53 2 rfl (v := _ + (1 : Int32)) rfl (Nat.le_of_ble_eq_true rfl) (lv' := [(2, _), (0, _), (1, _)]) rfl ?_
    refine x_goto dX3_open_56 33 (by decide) ?_
    exact x_sub [1, 2, 0] rfl (ih h)
  · replace h := h.2 c
    refine x_iload_n dX3_open_59 rfl 1 rfl ?_
    exact x_iret rfl dX3_open_60 ⟨_, rfl, h⟩
def wX3_open_20 (σ : Sg) (s0 : Int32) (Q : Int32 → Sg → Prop) : Prop :=
  let σ1 := wI σ 12 1 (s0 + (1 : Int32))
  ∃ n, wX3_open_33 n σ1 s0 ((8 : Int32) * s0) Q
set_option maxRecDepth 100000 in
set_option maxHeartbeats 4000000 in
theorem xX3_open_20 {G : Gx} (hG : gLy G = LyC) {σ : Sg} {s0 : Int32} {Q : Int32 → Sg → Prop} (h : wX3_open_20 σ s0 Q) : X G mX3_open 1 20 [(0, .ref (gad G 12))] [.int s0] σ (qi Q) := by
  unfold wX3_open_20 at h
  refine x_istore_n dX3_open_20 rfl (Nat.le_of_ble_eq_true rfl) (lv' := [(1, _), (0, _)]) rfl ?_
  refine x_aload_n dX3_open_21 rfl 1 rfl ?_
  refine x_iload_n dX3_open_22 rfl 0 rfl ?_
  refine x_iconst (v := (1 : Int32)) dX3_open_23 rfl ?_
  refine x_iadd dX3_open_24 ?_
  refine x_putI hG fp_X3_15 dX3_open_25 ?_
  refine x_bipush (v := (8 : Int32)) dX3_open_28 rfl ?_
  refine x_iload_n dX3_open_30 rfl 0 rfl ?_
  refine x_imul dX3_open_31 ?_
  refine x_istore_n dX3_open_32 rfl (Nat.le_of_ble_eq_true rfl) (lv' := [(2, _), (1, _), (0, _)]) rfl ?_
  obtain ⟨n, h⟩ := h
  exact x_sub [2, 1, 0] rfl (xX3_open_33 hG n h)
def wX3_open (σ : Sg) (Q : Int32 → Sg → Prop) : Prop :=
  ((sI σ 12 1) < (201 : Int32) → (
    wX3_open_20 σ (sI σ 12 1) Q
  )) ∧ (¬ (sI σ 12 1) < (201 : Int32) → (
    wX3_open_20 σ (200 : Int32) Q
  ))
set_option maxRecDepth 100000 in
set_option maxHeartbeats 4000000 in
theorem xX3_open {G : Gx} (hG : gLy G = LyC) {σ : Sg} {Q : Int32 → Sg → Prop} (h : wX3_open σ Q) : X G mX3_open 1 0 [(0, .ref (gad G 12))] [] σ (qi Q) := by
  unfold wX3_open at h
  refine x_aload_n dX3_open_0 rfl 0 rfl ?_
  refine x_getIv hG fg_X3_15 dX3_open_1 rfl ?_
  refine x_sipush (v := (201 : Int32)) dX3_open_4 rfl ?_
  refine x_icmp_ge dX3_open_7 17 (by decide) (fun c => ?_) (fun c => ?_)
  · replace h := h.1 c
    refine x_aload_n dX3_open_10 rfl 0 rfl ?_
    refine x_getIv hG fg_X3_15 dX3_open_11 rfl ?_
    refine x_goto dX3_open_14 20 (by decide) ?_
    exact x_sub [0] rfl (xX3_open_20 hG h)
  · replace h := h.2 c
    refine x_sipush (v := (200 : Int32)) dX3_open_17 rfl ?_
    exact x_sub [0] rfl (xX3_open_20 hG h)
theorem ct_X3_open {G : Gx} (hG : gLy G = LyC) {σ : Sg} {Q : Int32 → Sg → Prop} (h : wX3_open σ Q) : CT G mX3_open 1 [.ref (gad G 12)] σ (qi Q) := ct_of rfl (Nat.le_of_ble_eq_true rfl) rfl (xX3_open hG h)
/-! X3_has has -/
def wX3_has (σ : Sg) (l1 : Int32) (l2 : Int32) (Q : Int32 → Sg → Prop) : Prop :=
  (l1 < 0 → (
    Q (0 : Int32) σ
  )) ∧ (¬ l1 < 0 → (
    (l1 < (sI σ 12 1) → (
      (l2 < 0 → (
        Q (0 : Int32) σ
      )) ∧ (¬ l2 < 0 → (
        (l2 < (8 : Int32) → (
          Q (1 : Int32) σ
        )) ∧ (¬ l2 < (8 : Int32) → (
          Q (0 : Int32) σ
        ))
      ))
    )) ∧ (¬ l1 < (sI σ 12 1) → (
      Q (0 : Int32) σ
    ))
  ))
set_option maxRecDepth 100000 in
set_option maxHeartbeats 4000000 in
theorem xX3_has {G : Gx} (hG : gLy G = LyC) {σ : Sg} {l1 : Int32} {l2 : Int32} {Q : Int32 → Sg → Prop} (h : wX3_has σ l1 l2 Q) : X G mX3_has 1 0 [(0, .ref (gad G 12)), (1, .int l1), (2, .int l2)] [] σ (qi Q) := by
  unfold wX3_has at h
  refine x_iload_n dX3_has_0 rfl 1 rfl ?_
  refine x_if_lt dX3_has_1 26 (by decide) (fun c => ?_) (fun c => ?_)
  · replace h := h.1 c
    refine x_iconst (v := (0 : Int32)) dX3_has_26 rfl ?_
    exact x_zret rfl bz_0 dX3_has_27 ⟨_, rfl, h⟩
  · replace h := h.2 c
    refine x_iload_n dX3_has_4 rfl 1 rfl ?_
    refine x_aload_n dX3_has_5 rfl 0 rfl ?_
    refine x_getIv hG fg_X3_15 dX3_has_6 rfl ?_
    refine x_icmp_ge dX3_has_9 26 (by decide) (fun c => ?_) (fun c => ?_)
    · replace h := h.1 c
      refine x_iload_n dX3_has_12 rfl 2 rfl ?_
      refine x_if_lt dX3_has_13 26 (by decide) (fun c => ?_) (fun c => ?_)
      · replace h := h.1 c
        refine x_iconst (v := (0 : Int32)) dX3_has_26 rfl ?_
        exact x_zret rfl bz_0 dX3_has_27 ⟨_, rfl, h⟩
      · replace h := h.2 c
        refine x_iload_n dX3_has_16 rfl 2 rfl ?_
        refine x_bipush (v := (8 : Int32)) dX3_has_17 rfl ?_
        refine x_icmp_ge dX3_has_19 26 (by decide) (fun c => ?_) (fun c => ?_)
        · replace h := h.1 c
          refine x_iconst (v := (1 : Int32)) dX3_has_22 rfl ?_
          refine x_goto dX3_has_23 27 (by decide) ?_
          exact x_zret rfl bz_1 dX3_has_27 ⟨_, rfl, h⟩
        · replace h := h.2 c
          refine x_iconst (v := (0 : Int32)) dX3_has_26 rfl ?_
          exact x_zret rfl bz_0 dX3_has_27 ⟨_, rfl, h⟩
    · replace h := h.2 c
      refine x_iconst (v := (0 : Int32)) dX3_has_26 rfl ?_
      exact x_zret rfl bz_0 dX3_has_27 ⟨_, rfl, h⟩
theorem ct_X3_has {G : Gx} (hG : gLy G = LyC) {σ : Sg} {l1 : Int32} {l2 : Int32} {Q : Int32 → Sg → Prop} (h : wX3_has σ l1 l2 Q) : CT G mX3_has 1 [.ref (gad G 12), .int l1, .int l2] σ (qi Q) := ct_of rfl (Nat.le_of_ble_eq_true rfl) rfl (xX3_has hG h)
/-! X3_read read -/
def wX3_read (σ : Sg) (l1 : Int32) (l2 : Int32) (Q : Int64 → Sg → Prop) : Prop :=
  wX3_has σ l1 l2 (fun r2 σ1 =>
  (r2 = 0 → (
    Q (4294967296 : Int64) σ1
  )) ∧ (¬ r2 = 0 → (
    vp_in (((8 : Int32) * l1) + l2) 1608 ∧
    Q (sL σ1 13 ((((8 : Int32) * l1) + l2)).toNatClampNeg) σ1
  ))
  )
set_option maxRecDepth 100000 in
set_option maxHeartbeats 4000000 in
theorem xX3_read {G : Gx} (hG : gLy G = LyC) {σ : Sg} {l1 : Int32} {l2 : Int32} {Q : Int64 → Sg → Prop} (h : wX3_read σ l1 l2 Q) : X G mX3_read 2 0 [(0, .ref (gad G 12)), (1, .int l1), (2, .int l2)] [] σ (ql Q) := by
  unfold wX3_read at h
  refine x_aload_n dX3_read_0 rfl 0 rfl ?_
  refine x_iload_n dX3_read_1 rfl 1 rfl ?_
  refine x_iload_n dX3_read_2 rfl 2 rfl ?_
  refine x_callVi [_, _] hG mv_X3_has lk_X3_23 rfl rfl rfl ⟨by decide, by decide⟩ rfl (Nat.le_of_ble_eq_true rfl) dX3_read_3 (ct_X3_has hG h) (fun r2 σ1 h => ?_)
  refine x_if_eq dX3_read_6 23 (by decide) (fun c => ?_) (fun c => ?_)
  · replace h := h.1 c
    refine x_ldc2 dX3_read_23 cl_X3_21 ?_
    exact x_lret rfl dX3_read_26 ⟨_, rfl, h⟩
  · replace h := h.2 c
    refine x_aload_n dX3_read_9 rfl 0 rfl ?_
    refine x_getR (q := 13) hG fg_X3_11 dX3_read_10 ?_
    refine x_bipush (v := (8 : Int32)) dX3_read_13 rfl ?_
    refine x_iload_n dX3_read_15 rfl 1 rfl ?_
    refine x_imul dX3_read_16 ?_
    refine x_iload_n dX3_read_17 rfl 2 rfl ?_
    refine x_iadd dX3_read_18 ?_
    refine x_laldv hG rfl dX3_read_19 h.1 rfl ?_
    replace h := h.2
    refine x_goto dX3_read_20 26 (by decide) ?_
    exact x_lret rfl dX3_read_26 ⟨_, rfl, h⟩
theorem ct_X3_read {G : Gx} (hG : gLy G = LyC) {σ : Sg} {l1 : Int32} {l2 : Int32} {Q : Int64 → Sg → Prop} (h : wX3_read σ l1 l2 Q) : CT G mX3_read 2 [.ref (gad G 12), .int l1, .int l2] σ (ql Q) := ct_of rfl (Nat.le_of_ble_eq_true rfl) rfl (xX3_read hG h)
/-! X3_write write -/
def wX3_write (σ : Sg) (l1 : Int32) (l2 : Int32) (l3 : Int64) (Q : Sg → Prop) : Prop :=
  wX3_has σ l1 l2 (fun r2 σ1 =>
  (r2 = 0 → (
    Q σ1
  )) ∧ (¬ r2 = 0 → (
    vp_in (((8 : Int32) * l1) + l2) 1608 ∧
    let σ3 := wL σ1 13 ((((8 : Int32) * l1) + l2)).toNatClampNeg l3
    Q σ3
  ))
  )
set_option maxRecDepth 100000 in
set_option maxHeartbeats 4000000 in
theorem xX3_write {G : Gx} (hG : gLy G = LyC) {σ : Sg} {l1 : Int32} {l2 : Int32} {l3 : Int64} {Q : Sg → Prop} (h : wX3_write σ l1 l2 l3 Q) : X G mX3_write 2 0 [(0, .ref (gad G 12)), (1, .int l1), (2, .int l2), (3, .long l3)] [] σ (qv Q) := by
  unfold wX3_write at h
  refine x_aload_n dX3_write_0 rfl 0 rfl ?_
  refine x_iload_n dX3_write_1 rfl 1 rfl ?_
  refine x_iload_n dX3_write_2 rfl 2 rfl ?_
  refine x_callVi [_, _] hG mv_X3_has lk_X3_23 rfl rfl rfl ⟨by decide, by decide⟩ rfl (Nat.le_of_ble_eq_true rfl) dX3_write_3 (ct_X3_has hG h) (fun r2 σ1 h => ?_)
  refine x_if_eq dX3_write_6 21 (by decide) (fun c => ?_) (fun c => ?_)
  · replace h := h.1 c
    exact x_vret rfl dX3_write_21 ⟨rfl, h⟩
  · replace h := h.2 c
    refine x_aload_n dX3_write_9 rfl 0 rfl ?_
    refine x_getR (q := 13) hG fg_X3_11 dX3_write_10 ?_
    refine x_bipush (v := (8 : Int32)) dX3_write_13 rfl ?_
    refine x_iload_n dX3_write_15 rfl 1 rfl ?_
    refine x_imul dX3_write_16 ?_
    refine x_iload_n dX3_write_17 rfl 2 rfl ?_
    refine x_iadd dX3_write_18 ?_
    refine x_lload_n dX3_write_19 rfl 3 rfl ?_
    refine x_last hG rfl dX3_write_20 h.1 ?_
    replace h := h.2
    exact x_vret rfl dX3_write_21 ⟨rfl, h⟩
theorem ct_X3_write {G : Gx} (hG : gLy G = LyC) {σ : Sg} {l1 : Int32} {l2 : Int32} {l3 : Int64} {Q : Sg → Prop} (h : wX3_write σ l1 l2 l3 Q) : CT G mX3_write 2 [.ref (gad G 12), .int l1, .int l2, .long l3] σ (qv Q) := ct_of rfl (Nat.le_of_ble_eq_true rfl) rfl (xX3_write hG h)
end
