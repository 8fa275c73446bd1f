section
-- ===== PART A: goes FIRST, ahead of the names: the tables' words, and 'selects' of the private methods out of them =====
/-- a private method of a class that the tables say can be made, by its rows of tables_1 -/
def lw_okq (q : MethodName × Nat) : Prop := (q.1.cls ≠ "java/lang/invoke/MethodHandle" ∧ q.1.cls ≠ "java/lang/invoke/VarHandle") ∧ Cond.instantiable q.1.cls q.2 ∈ tables_1 ∧ Cond.privateMethod q.1 ∈ tables_1 ∧ Cond.instanceMethod q.1 ∈ tables_1
theorem lw_p0 : lw_okq (⟨"SideWork$Acts", "isUnknown", "(II)Z"⟩, 4) := ⟨⟨by decide +kernel, by decide +kernel⟩, List.mem_of_getElem? (i := 28) (by decide +kernel), List.mem_of_getElem? (i := 266) (by decide +kernel), List.mem_of_getElem? (i := 267) (by decide +kernel)⟩
theorem lw_p1 : lw_okq (⟨"SideWork$Acts", "isOutside", "(II)Z"⟩, 4) := ⟨⟨by decide +kernel, by decide +kernel⟩, List.mem_of_getElem? (i := 28) (by decide +kernel), List.mem_of_getElem? (i := 274) (by decide +kernel), List.mem_of_getElem? (i := 275) (by decide +kernel)⟩
theorem lw_p2 : lw_okq (⟨"SideWork$Acts", "sortParts", "(II)V"⟩, 4) := ⟨⟨by decide +kernel, by decide +kernel⟩, List.mem_of_getElem? (i := 28) (by decide +kernel), List.mem_of_getElem? (i := 284) (by decide +kernel), List.mem_of_getElem? (i := 285) (by decide +kernel)⟩
theorem lw_p3 : lw_okq (⟨"SideWork$Machine", "begin", "(II)V"⟩, 9) := ⟨⟨by decide +kernel, by decide +kernel⟩, List.mem_of_getElem? (i := 49) (by decide +kernel), List.mem_of_getElem? (i := 328) (by decide +kernel), List.mem_of_getElem? (i := 329) (by decide +kernel)⟩
theorem lw_p4 : lw_okq (⟨"SideWork$Machine", "leave", "()V"⟩, 9) := ⟨⟨by decide +kernel, by decide +kernel⟩, List.mem_of_getElem? (i := 49) (by decide +kernel), List.mem_of_getElem? (i := 349) (by decide +kernel), List.mem_of_getElem? (i := 350) (by decide +kernel)⟩
theorem lw_p5 : lw_okq (⟨"SideWork$Machine", "isCaught", "()Z"⟩, 9) := ⟨⟨by decide +kernel, by decide +kernel⟩, List.mem_of_getElem? (i := 49) (by decide +kernel), List.mem_of_getElem? (i := 366) (by decide +kernel), List.mem_of_getElem? (i := 367) (by decide +kernel)⟩
theorem lw_p6 : lw_okq (⟨"SideWork$Machine", "takeUp", "()V"⟩, 9) := ⟨⟨by decide +kernel, by decide +kernel⟩, List.mem_of_getElem? (i := 49) (by decide +kernel), List.mem_of_getElem? (i := 370) (by decide +kernel), List.mem_of_getElem? (i := 371) (by decide +kernel)⟩
theorem lw_p7 : lw_okq (⟨"SideWork$Frames", "has", "(II)Z"⟩, 2) := ⟨⟨by decide +kernel, by decide +kernel⟩, List.mem_of_getElem? (i := 136) (by decide +kernel), List.mem_of_getElem? (i := 386) (by decide +kernel), List.mem_of_getElem? (i := 387) (by decide +kernel)⟩
theorem lw_p8 : lw_okq (⟨"SideWork$Machine", "beginPart", "(I)V"⟩, 9) := ⟨⟨by decide +kernel, by decide +kernel⟩, List.mem_of_getElem? (i := 49) (by decide +kernel), List.mem_of_getElem? (i := 395) (by decide +kernel), List.mem_of_getElem? (i := 396) (by decide +kernel)⟩
theorem lw_p9 : lw_okq (⟨"SideWork$Machine", "leaveLater", "(I)V"⟩, 9) := ⟨⟨by decide +kernel, by decide +kernel⟩, List.mem_of_getElem? (i := 49) (by decide +kernel), List.mem_of_getElem? (i := 415) (by decide +kernel), List.mem_of_getElem? (i := 416) (by decide +kernel)⟩
theorem lw_p10 : lw_okq (⟨"SideWork$Laters", "has", "(I)Z"⟩, 7) := ⟨⟨by decide +kernel, by decide +kernel⟩, List.mem_of_getElem? (i := 149) (by decide +kernel), List.mem_of_getElem? (i := 423) (by decide +kernel), List.mem_of_getElem? (i := 424) (by decide +kernel)⟩
theorem lw_p11 : lw_okq (⟨"SideWork$Machine", "comesToWork", "()Z"⟩, 9) := ⟨⟨by decide +kernel, by decide +kernel⟩, List.mem_of_getElem? (i := 49) (by decide +kernel), List.mem_of_getElem? (i := 443) (by decide +kernel), List.mem_of_getElem? (i := 444) (by decide +kernel)⟩
theorem lw_p12 : lw_okq (⟨"SideWork$Machine", "isStopped", "(I)Z"⟩, 9) := ⟨⟨by decide +kernel, by decide +kernel⟩, List.mem_of_getElem? (i := 49) (by decide +kernel), List.mem_of_getElem? (i := 451) (by decide +kernel), List.mem_of_getElem? (i := 452) (by decide +kernel)⟩
theorem lw_p13 : lw_okq (⟨"SideWork$Machine", "endRun", "(I)V"⟩, 9) := ⟨⟨by decide +kernel, by decide +kernel⟩, List.mem_of_getElem? (i := 49) (by decide +kernel), List.mem_of_getElem? (i := 513) (by decide +kernel), List.mem_of_getElem? (i := 514) (by decide +kernel)⟩
theorem lw_p14 : lw_okq (⟨"SideWork$Machine", "fail", "(II)V"⟩, 9) := ⟨⟨by decide +kernel, by decide +kernel⟩, List.mem_of_getElem? (i := 49) (by decide +kernel), List.mem_of_getElem? (i := 521) (by decide +kernel), List.mem_of_getElem? (i := 522) (by decide +kernel)⟩
theorem lw_p15 : lw_okq (⟨"SideWork$Machine", "work", "()V"⟩, 9) := ⟨⟨by decide +kernel, by decide +kernel⟩, List.mem_of_getElem? (i := 49) (by decide +kernel), List.mem_of_getElem? (i := 529) (by decide +kernel), List.mem_of_getElem? (i := 530) (by decide +kernel)⟩
def lw_privs_1 : List (MethodName × Nat) := [(⟨"SideWork$Acts", "isUnknown", "(II)Z"⟩, 4), (⟨"SideWork$Acts", "isOutside", "(II)Z"⟩, 4), (⟨"SideWork$Acts", "sortParts", "(II)V"⟩, 4), (⟨"SideWork$Machine", "begin", "(II)V"⟩, 9), (⟨"SideWork$Machine", "leave", "()V"⟩, 9), (⟨"SideWork$Machine", "isCaught", "()Z"⟩, 9), (⟨"SideWork$Machine", "takeUp", "()V"⟩, 9), (⟨"SideWork$Frames", "has", "(II)Z"⟩, 2), (⟨"SideWork$Machine", "beginPart", "(I)V"⟩, 9), (⟨"SideWork$Machine", "leaveLater", "(I)V"⟩, 9), (⟨"SideWork$Laters", "has", "(I)Z"⟩, 7), (⟨"SideWork$Machine", "comesToWork", "()Z"⟩, 9), (⟨"SideWork$Machine", "isStopped", "(I)Z"⟩, 9), (⟨"SideWork$Machine", "endRun", "(I)V"⟩, 9), (⟨"SideWork$Machine", "fail", "(II)V"⟩, 9), (⟨"SideWork$Machine", "work", "()V"⟩, 9)]
theorem lw_r1 : ∀ q ∈ lw_privs_1, lw_okq q := List.forall_mem_cons.mpr ⟨lw_p0, List.forall_mem_cons.mpr ⟨lw_p1, List.forall_mem_cons.mpr ⟨lw_p2, List.forall_mem_cons.mpr ⟨lw_p3, List.forall_mem_cons.mpr ⟨lw_p4, List.forall_mem_cons.mpr ⟨lw_p5, List.forall_mem_cons.mpr ⟨lw_p6, List.forall_mem_cons.mpr ⟨lw_p7, List.forall_mem_cons.mpr ⟨lw_p8, List.forall_mem_cons.mpr ⟨lw_p9, List.forall_mem_cons.mpr ⟨lw_p10, List.forall_mem_cons.mpr ⟨lw_p11, List.forall_mem_cons.mpr ⟨lw_p12, List.forall_mem_cons.mpr ⟨lw_p13, List.forall_mem_cons.mpr ⟨lw_p14, List.forall_mem_cons.mpr ⟨lw_p15, fun _ h => absurd h List.not_mem_nil⟩⟩⟩⟩⟩⟩⟩⟩⟩⟩⟩⟩⟩⟩⟩⟩
theorem lw_p16 : lw_okq (⟨"SideWork$Machine", "keep", "()V"⟩, 9) := ⟨⟨by decide +kernel, by decide +kernel⟩, List.mem_of_getElem? (i := 49) (by decide +kernel), List.mem_of_getElem? (i := 533) (by decide +kernel), List.mem_of_getElem? (i := 534) (by decide +kernel)⟩
theorem lw_p17 : lw_okq (⟨"SideWork$Machine", "give", "(J)V"⟩, 9) := ⟨⟨by decide +kernel, by decide +kernel⟩, List.mem_of_getElem? (i := 49) (by decide +kernel), List.mem_of_getElem? (i := 537) (by decide +kernel), List.mem_of_getElem? (i := 538) (by decide +kernel)⟩
theorem lw_p18 : lw_okq (⟨"SideWork$Machine", "doAlways", "()V"⟩, 9) := ⟨⟨by decide +kernel, by decide +kernel⟩, List.mem_of_getElem? (i := 49) (by decide +kernel), List.mem_of_getElem? (i := 545) (by decide +kernel), List.mem_of_getElem? (i := 546) (by decide +kernel)⟩
theorem lw_p19 : lw_okq (⟨"SideWork$Machine", "choose", "()V"⟩, 9) := ⟨⟨by decide +kernel, by decide +kernel⟩, List.mem_of_getElem? (i := 49) (by decide +kernel), List.mem_of_getElem? (i := 558) (by decide +kernel), List.mem_of_getElem? (i := 559) (by decide +kernel)⟩
theorem lw_p20 : lw_okq (⟨"SideWork$Machine", "loop", "()V"⟩, 9) := ⟨⟨by decide +kernel, by decide +kernel⟩, List.mem_of_getElem? (i := 49) (by decide +kernel), List.mem_of_getElem? (i := 562) (by decide +kernel), List.mem_of_getElem? (i := 563) (by decide +kernel)⟩
theorem lw_p21 : lw_okq (⟨"SideWork$Machine", "askAgain", "()V"⟩, 9) := ⟨⟨by decide +kernel, by decide +kernel⟩, List.mem_of_getElem? (i := 49) (by decide +kernel), List.mem_of_getElem? (i := 566) (by decide +kernel), List.mem_of_getElem? (i := 567) (by decide +kernel)⟩
theorem lw_p22 : lw_okq (⟨"SideWork$Machine", "call", "()V"⟩, 9) := ⟨⟨by decide +kernel, by decide +kernel⟩, List.mem_of_getElem? (i := 49) (by decide +kernel), List.mem_of_getElem? (i := 571) (by decide +kernel), List.mem_of_getElem? (i := 572) (by decide +kernel)⟩
theorem lw_p23 : lw_okq (⟨"SideWork$Machine", "enter", "(I)V"⟩, 9) := ⟨⟨by decide +kernel, by decide +kernel⟩, List.mem_of_getElem? (i := 49) (by decide +kernel), List.mem_of_getElem? (i := 575) (by decide +kernel), List.mem_of_getElem? (i := 576) (by decide +kernel)⟩
theorem lw_p24 : lw_okq (⟨"SideWork$Machine", "delay", "()V"⟩, 9) := ⟨⟨by decide +kernel, by decide +kernel⟩, List.mem_of_getElem? (i := 49) (by decide +kernel), List.mem_of_getElem? (i := 580) (by decide +kernel), List.mem_of_getElem? (i := 581) (by decide +kernel)⟩
theorem lw_p25 : lw_okq (⟨"SideWork$Machine", "force", "(I)V"⟩, 9) := ⟨⟨by decide +kernel, by decide +kernel⟩, List.mem_of_getElem? (i := 49) (by decide +kernel), List.mem_of_getElem? (i := 592) (by decide +kernel), List.mem_of_getElem? (i := 593) (by decide +kernel)⟩
theorem lw_p26 : lw_okq (⟨"SideWork$Machine", "workLater", "(I)V"⟩, 9) := ⟨⟨by decide +kernel, by decide +kernel⟩, List.mem_of_getElem? (i := 49) (by decide +kernel), List.mem_of_getElem? (i := 596) (by decide +kernel), List.mem_of_getElem? (i := 597) (by decide +kernel)⟩
theorem lw_p27 : lw_okq (⟨"SideWork$Machine", "copy", "()V"⟩, 9) := ⟨⟨by decide +kernel, by decide +kernel⟩, List.mem_of_getElem? (i := 49) (by decide +kernel), List.mem_of_getElem? (i := 628) (by decide +kernel), List.mem_of_getElem? (i := 629) (by decide +kernel)⟩
theorem lw_p28 : lw_okq (⟨"SideWork$Machine", "workPlainly", "(I)V"⟩, 9) := ⟨⟨by decide +kernel, by decide +kernel⟩, List.mem_of_getElem? (i := 49) (by decide +kernel), List.mem_of_getElem? (i := 644) (by decide +kernel), List.mem_of_getElem? (i := 645) (by decide +kernel)⟩
theorem lw_p29 : lw_okq (⟨"SideWork$Machine", "reckon", "(IIJJ)J"⟩, 9) := ⟨⟨by decide +kernel, by decide +kernel⟩, List.mem_of_getElem? (i := 49) (by decide +kernel), List.mem_of_getElem? (i := 648) (by decide +kernel), List.mem_of_getElem? (i := 649) (by decide +kernel)⟩
theorem lw_p30 : lw_okq (⟨"SideWork$Machine", "change", "(IIJJJ)J"⟩, 9) := ⟨⟨by decide +kernel, by decide +kernel⟩, List.mem_of_getElem? (i := 49) (by decide +kernel), List.mem_of_getElem? (i := 659) (by decide +kernel), List.mem_of_getElem? (i := 660) (by decide +kernel)⟩
theorem lw_p31 : lw_okq (⟨"SideWork$Machine", "put", "(IJ)J"⟩, 9) := ⟨⟨by decide +kernel, by decide +kernel⟩, List.mem_of_getElem? (i := 49) (by decide +kernel), List.mem_of_getElem? (i := 675) (by decide +kernel), List.mem_of_getElem? (i := 676) (by decide +kernel)⟩
def lw_privs_2 : List (MethodName × Nat) := [(⟨"SideWork$Machine", "keep", "()V"⟩, 9), (⟨"SideWork$Machine", "give", "(J)V"⟩, 9), (⟨"SideWork$Machine", "doAlways", "()V"⟩, 9), (⟨"SideWork$Machine", "choose", "()V"⟩, 9), (⟨"SideWork$Machine", "loop", "()V"⟩, 9), (⟨"SideWork$Machine", "askAgain", "()V"⟩, 9), (⟨"SideWork$Machine", "call", "()V"⟩, 9), (⟨"SideWork$Machine", "enter", "(I)V"⟩, 9), (⟨"SideWork$Machine", "delay", "()V"⟩, 9), (⟨"SideWork$Machine", "force", "(I)V"⟩, 9), (⟨"SideWork$Machine", "workLater", "(I)V"⟩, 9), (⟨"SideWork$Machine", "copy", "()V"⟩, 9), (⟨"SideWork$Machine", "workPlainly", "(I)V"⟩, 9), (⟨"SideWork$Machine", "reckon", "(IIJJ)J"⟩, 9), (⟨"SideWork$Machine", "change", "(IIJJJ)J"⟩, 9), (⟨"SideWork$Machine", "put", "(IJ)J"⟩, 9)]
theorem lw_r2 : ∀ q ∈ lw_privs_2, lw_okq q := List.forall_mem_cons.mpr ⟨lw_p16, List.forall_mem_cons.mpr ⟨lw_p17, List.forall_mem_cons.mpr ⟨lw_p18, List.forall_mem_cons.mpr ⟨lw_p19, List.forall_mem_cons.mpr ⟨lw_p20, List.forall_mem_cons.mpr ⟨lw_p21, List.forall_mem_cons.mpr ⟨lw_p22, List.forall_mem_cons.mpr ⟨lw_p23, List.forall_mem_cons.mpr ⟨lw_p24, List.forall_mem_cons.mpr ⟨lw_p25, List.forall_mem_cons.mpr ⟨lw_p26, List.forall_mem_cons.mpr ⟨lw_p27, List.forall_mem_cons.mpr ⟨lw_p28, List.forall_mem_cons.mpr ⟨lw_p29, List.forall_mem_cons.mpr ⟨lw_p30, List.forall_mem_cons.mpr ⟨lw_p31, fun _ h => absurd h List.not_mem_nil⟩⟩⟩⟩⟩⟩⟩⟩⟩⟩⟩⟩⟩⟩⟩⟩
theorem lw_p32 : lw_okq (⟨"SideWork$Machine", "tell", "(J)J"⟩, 9) := ⟨⟨by decide +kernel, by decide +kernel⟩, List.mem_of_getElem? (i := 49) (by decide +kernel), List.mem_of_getElem? (i := 680) (by decide +kernel), List.mem_of_getElem? (i := 681) (by decide +kernel)⟩
theorem lw_p33 : lw_okq (⟨"java/lang/Throwable", "fillInStackTrace", "(I)Ljava/lang/Throwable;"⟩, 6) := ⟨⟨by decide +kernel, by decide +kernel⟩, List.mem_of_getElem? (i := 759) (by decide +kernel), List.mem_of_getElem? (i := 757) (by decide +kernel), List.mem_of_getElem? (i := 758) (by decide +kernel)⟩
theorem lw_p34 : lw_okq (⟨"SideWorkModel", "noAct", "(I)Z"⟩, 56) := ⟨⟨by decide +kernel, by decide +kernel⟩, List.mem_of_getElem? (i := 816) (by decide +kernel), List.mem_of_getElem? (i := 1001) (by decide +kernel), List.mem_of_getElem? (i := 1002) (by decide +kernel)⟩
theorem lw_p35 : lw_okq (⟨"SideWorkModel", "newFrame", "()I"⟩, 56) := ⟨⟨by decide +kernel, by decide +kernel⟩, List.mem_of_getElem? (i := 816) (by decide +kernel), List.mem_of_getElem? (i := 1013) (by decide +kernel), List.mem_of_getElem? (i := 1014) (by decide +kernel)⟩
theorem lw_p36 : lw_okq (⟨"SideWorkModel", "start", "(II)V"⟩, 56) := ⟨⟨by decide +kernel, by decide +kernel⟩, List.mem_of_getElem? (i := 816) (by decide +kernel), List.mem_of_getElem? (i := 1017) (by decide +kernel), List.mem_of_getElem? (i := 1018) (by decide +kernel)⟩
theorem lw_p37 : lw_okq (⟨"SideWorkModel", "begin", "()V"⟩, 56) := ⟨⟨by decide +kernel, by decide +kernel⟩, List.mem_of_getElem? (i := 816) (by decide +kernel), List.mem_of_getElem? (i := 1021) (by decide +kernel), List.mem_of_getElem? (i := 1022) (by decide +kernel)⟩
theorem lw_p38 : lw_okq (⟨"SideWorkModel", "finish", "(II)V"⟩, 56) := ⟨⟨by decide +kernel, by decide +kernel⟩, List.mem_of_getElem? (i := 816) (by decide +kernel), List.mem_of_getElem? (i := 1025) (by decide +kernel), List.mem_of_getElem? (i := 1026) (by decide +kernel)⟩
theorem lw_p39 : lw_okq (⟨"SideWorkModel", "value", "(II)V"⟩, 56) := ⟨⟨by decide +kernel, by decide +kernel⟩, List.mem_of_getElem? (i := 816) (by decide +kernel), List.mem_of_getElem? (i := 1029) (by decide +kernel), List.mem_of_getElem? (i := 1030) (by decide +kernel)⟩
theorem lw_p40 : lw_okq (⟨"SideWorkModel", "newThing", "(I)I"⟩, 56) := ⟨⟨by decide +kernel, by decide +kernel⟩, List.mem_of_getElem? (i := 816) (by decide +kernel), List.mem_of_getElem? (i := 1033) (by decide +kernel), List.mem_of_getElem? (i := 1034) (by decide +kernel)⟩
theorem lw_p41 : lw_okq (⟨"SideWorkModel", "up", "()V"⟩, 56) := ⟨⟨by decide +kernel, by decide +kernel⟩, List.mem_of_getElem? (i := 816) (by decide +kernel), List.mem_of_getElem? (i := 1037) (by decide +kernel), List.mem_of_getElem? (i := 1038) (by decide +kernel)⟩
theorem lw_p42 : lw_okq (⟨"SideWorkModel", "keepX", "(I)V"⟩, 56) := ⟨⟨by decide +kernel, by decide +kernel⟩, List.mem_of_getElem? (i := 816) (by decide +kernel), List.mem_of_getElem? (i := 1041) (by decide +kernel), List.mem_of_getElem? (i := 1042) (by decide +kernel)⟩
theorem lw_p43 : lw_okq (⟨"SideWorkModel", "keepY", "(I)V"⟩, 56) := ⟨⟨by decide +kernel, by decide +kernel⟩, List.mem_of_getElem? (i := 816) (by decide +kernel), List.mem_of_getElem? (i := 1045) (by decide +kernel), List.mem_of_getElem? (i := 1046) (by decide +kernel)⟩
theorem lw_p44 : lw_okq (⟨"SideWorkModel", "upOf", "(IIIII)V"⟩, 56) := ⟨⟨by decide +kernel, by decide +kernel⟩, List.mem_of_getElem? (i := 816) (by decide +kernel), List.mem_of_getElem? (i := 1049) (by decide +kernel), List.mem_of_getElem? (i := 1050) (by decide +kernel)⟩
theorem lw_p45 : lw_okq (⟨"SideWorkModel", "reckon", "(IIII)V"⟩, 56) := ⟨⟨by decide +kernel, by decide +kernel⟩, List.mem_of_getElem? (i := 816) (by decide +kernel), List.mem_of_getElem? (i := 1053) (by decide +kernel), List.mem_of_getElem? (i := 1054) (by decide +kernel)⟩
theorem lw_p46 : lw_okq (⟨"SideWorkModel", "isWhole", "(II)Z"⟩, 56) := ⟨⟨by decide +kernel, by decide +kernel⟩, List.mem_of_getElem? (i := 816) (by decide +kernel), List.mem_of_getElem? (i := 1057) (by decide +kernel), List.mem_of_getElem? (i := 1058) (by decide +kernel)⟩
theorem lw_p47 : lw_okq (⟨"SideWorkModel", "fail", "(III)V"⟩, 56) := ⟨⟨by decide +kernel, by decide +kernel⟩, List.mem_of_getElem? (i := 816) (by decide +kernel), List.mem_of_getElem? (i := 1061) (by decide +kernel), List.mem_of_getElem? (i := 1062) (by decide +kernel)⟩
def lw_privs_3 : List (MethodName × Nat) := [(⟨"SideWork$Machine", "tell", "(J)J"⟩, 9), (⟨"java/lang/Throwable", "fillInStackTrace", "(I)Ljava/lang/Throwable;"⟩, 6), (⟨"SideWorkModel", "noAct", "(I)Z"⟩, 56), (⟨"SideWorkModel", "newFrame", "()I"⟩, 56), (⟨"SideWorkModel", "start", "(II)V"⟩, 56), (⟨"SideWorkModel", "begin", "()V"⟩, 56), (⟨"SideWorkModel", "finish", "(II)V"⟩, 56), (⟨"SideWorkModel", "value", "(II)V"⟩, 56), (⟨"SideWorkModel", "newThing", "(I)I"⟩, 56), (⟨"SideWorkModel", "up", "()V"⟩, 56), (⟨"SideWorkModel", "keepX", "(I)V"⟩, 56), (⟨"SideWorkModel", "keepY", "(I)V"⟩, 56), (⟨"SideWorkModel", "upOf", "(IIIII)V"⟩, 56), (⟨"SideWorkModel", "reckon", "(IIII)V"⟩, 56), (⟨"SideWorkModel", "isWhole", "(II)Z"⟩, 56), (⟨"SideWorkModel", "fail", "(III)V"⟩, 56)]
theorem lw_r3 : ∀ q ∈ lw_privs_3, lw_okq q := List.forall_mem_cons.mpr ⟨lw_p32, List.forall_mem_cons.mpr ⟨lw_p33, List.forall_mem_cons.mpr ⟨lw_p34, List.forall_mem_cons.mpr ⟨lw_p35, List.forall_mem_cons.mpr ⟨lw_p36, List.forall_mem_cons.mpr ⟨lw_p37, List.forall_mem_cons.mpr ⟨lw_p38, List.forall_mem_cons.mpr ⟨lw_p39, List.forall_mem_cons.mpr ⟨lw_p40, List.forall_mem_cons.mpr ⟨lw_p41, List.forall_mem_cons.mpr ⟨lw_p42, List.forall_mem_cons.mpr ⟨lw_p43, List.forall_mem_cons.mpr ⟨lw_p44, List.forall_mem_cons.mpr ⟨lw_p45, List.forall_mem_cons.mpr ⟨lw_p46, List.forall_mem_cons.mpr ⟨lw_p47, fun _ h => absurd h List.not_mem_nil⟩⟩⟩⟩⟩⟩⟩⟩⟩⟩⟩⟩⟩⟩⟩⟩
theorem lw_p48 : lw_okq (⟨"SideWorkModel", "failBy", "(II)V"⟩, 56) := ⟨⟨by decide +kernel, by decide +kernel⟩, List.mem_of_getElem? (i := 816) (by decide +kernel), List.mem_of_getElem? (i := 1065) (by decide +kernel), List.mem_of_getElem? (i := 1066) (by decide +kernel)⟩
theorem lw_p49 : lw_okq (⟨"SideWorkModel", "makeRow", "(II)V"⟩, 56) := ⟨⟨by decide +kernel, by decide +kernel⟩, List.mem_of_getElem? (i := 816) (by decide +kernel), List.mem_of_getElem? (i := 1069) (by decide +kernel), List.mem_of_getElem? (i := 1070) (by decide +kernel)⟩
theorem lw_p50 : lw_okq (⟨"SideWorkModel", "readPlace", "(III)V"⟩, 56) := ⟨⟨by decide +kernel, by decide +kernel⟩, List.mem_of_getElem? (i := 816) (by decide +kernel), List.mem_of_getElem? (i := 1073) (by decide +kernel), List.mem_of_getElem? (i := 1074) (by decide +kernel)⟩
theorem lw_p51 : lw_okq (⟨"SideWorkModel", "isRowHere", "(II)Z"⟩, 56) := ⟨⟨by decide +kernel, by decide +kernel⟩, List.mem_of_getElem? (i := 816) (by decide +kernel), List.mem_of_getElem? (i := 1077) (by decide +kernel), List.mem_of_getElem? (i := 1078) (by decide +kernel)⟩
theorem lw_p52 : lw_okq (⟨"SideWorkModel", "writePlace", "(II)V"⟩, 56) := ⟨⟨by decide +kernel, by decide +kernel⟩, List.mem_of_getElem? (i := 816) (by decide +kernel), List.mem_of_getElem? (i := 1084) (by decide +kernel), List.mem_of_getElem? (i := 1085) (by decide +kernel)⟩
theorem lw_p53 : lw_okq (⟨"SideWorkModel", "write", "(III)V"⟩, 56) := ⟨⟨by decide +kernel, by decide +kernel⟩, List.mem_of_getElem? (i := 816) (by decide +kernel), List.mem_of_getElem? (i := 1088) (by decide +kernel), List.mem_of_getElem? (i := 1089) (by decide +kernel)⟩
theorem lw_p54 : lw_okq (⟨"SideWorkModel", "isLink", "(II)Z"⟩, 56) := ⟨⟨by decide +kernel, by decide +kernel⟩, List.mem_of_getElem? (i := 816) (by decide +kernel), List.mem_of_getElem? (i := 1092) (by decide +kernel), List.mem_of_getElem? (i := 1093) (by decide +kernel)⟩
theorem lw_p55 : lw_okq (⟨"SideWorkModel", "copyPlaces", "(II)V"⟩, 56) := ⟨⟨by decide +kernel, by decide +kernel⟩, List.mem_of_getElem? (i := 816) (by decide +kernel), List.mem_of_getElem? (i := 1096) (by decide +kernel), List.mem_of_getElem? (i := 1097) (by decide +kernel)⟩
theorem lw_p56 : lw_okq (⟨"SideWorkModel", "upLater", "(IIIII)V"⟩, 56) := ⟨⟨by decide +kernel, by decide +kernel⟩, List.mem_of_getElem? (i := 816) (by decide +kernel), List.mem_of_getElem? (i := 1100) (by decide +kernel), List.mem_of_getElem? (i := 1101) (by decide +kernel)⟩
theorem lw_p57 : lw_okq (⟨"SideWorkModel", "upLoop", "(IIII)V"⟩, 56) := ⟨⟨by decide +kernel, by decide +kernel⟩, List.mem_of_getElem? (i := 816) (by decide +kernel), List.mem_of_getElem? (i := 1104) (by decide +kernel), List.mem_of_getElem? (i := 1105) (by decide +kernel)⟩
theorem lw_p58 : lw_okq (⟨"SideWorkModel", "upCall", "(III)V"⟩, 56) := ⟨⟨by decide +kernel, by decide +kernel⟩, List.mem_of_getElem? (i := 816) (by decide +kernel), List.mem_of_getElem? (i := 1108) (by decide +kernel), List.mem_of_getElem? (i := 1109) (by decide +kernel)⟩
theorem lw_p59 : lw_okq (⟨"SideWorkModel", "upWork", "(III)V"⟩, 56) := ⟨⟨by decide +kernel, by decide +kernel⟩, List.mem_of_getElem? (i := 816) (by decide +kernel), List.mem_of_getElem? (i := 1112) (by decide +kernel), List.mem_of_getElem? (i := 1113) (by decide +kernel)⟩
theorem lw_p60 : lw_okq (⟨"SideWorkModel", "upFailure", "()V"⟩, 56) := ⟨⟨by decide +kernel, by decide +kernel⟩, List.mem_of_getElem? (i := 816) (by decide +kernel), List.mem_of_getElem? (i := 1116) (by decide +kernel), List.mem_of_getElem? (i := 1117) (by decide +kernel)⟩
theorem lw_p61 : lw_okq (⟨"SideWorkModel", "leave", "(IIII)V"⟩, 56) := ⟨⟨by decide +kernel, by decide +kernel⟩, List.mem_of_getElem? (i := 816) (by decide +kernel), List.mem_of_getElem? (i := 1120) (by decide +kernel), List.mem_of_getElem? (i := 1121) (by decide +kernel)⟩
theorem lw_p62 : lw_okq (⟨"SideWorkModel", "back", "(I)V"⟩, 56) := ⟨⟨by decide +kernel, by decide +kernel⟩, List.mem_of_getElem? (i := 816) (by decide +kernel), List.mem_of_getElem? (i := 1124) (by decide +kernel), List.mem_of_getElem? (i := 1125) (by decide +kernel)⟩
theorem lw_p63 : lw_okq (⟨"SideWorkModel", "numberOf", "(II)I"⟩, 56) := ⟨⟨by decide +kernel, by decide +kernel⟩, List.mem_of_getElem? (i := 816) (by decide +kernel), List.mem_of_getElem? (i := 1136) (by decide +kernel), List.mem_of_getElem? (i := 1137) (by decide +kernel)⟩
def lw_privs_4 : List (MethodName × Nat) := [(⟨"SideWorkModel", "failBy", "(II)V"⟩, 56), (⟨"SideWorkModel", "makeRow", "(II)V"⟩, 56), (⟨"SideWorkModel", "readPlace", "(III)V"⟩, 56), (⟨"SideWorkModel", "isRowHere", "(II)Z"⟩, 56), (⟨"SideWorkModel", "writePlace", "(II)V"⟩, 56), (⟨"SideWorkModel", "write", "(III)V"⟩, 56), (⟨"SideWorkModel", "isLink", "(II)Z"⟩, 56), (⟨"SideWorkModel", "copyPlaces", "(II)V"⟩, 56), (⟨"SideWorkModel", "upLater", "(IIIII)V"⟩, 56), (⟨"SideWorkModel", "upLoop", "(IIII)V"⟩, 56), (⟨"SideWorkModel", "upCall", "(III)V"⟩, 56), (⟨"SideWorkModel", "upWork", "(III)V"⟩, 56), (⟨"SideWorkModel", "upFailure", "()V"⟩, 56), (⟨"SideWorkModel", "leave", "(IIII)V"⟩, 56), (⟨"SideWorkModel", "back", "(I)V"⟩, 56), (⟨"SideWorkModel", "numberOf", "(II)I"⟩, 56)]
theorem lw_r4 : ∀ q ∈ lw_privs_4, lw_okq q := List.forall_mem_cons.mpr ⟨lw_p48, List.forall_mem_cons.mpr ⟨lw_p49, List.forall_mem_cons.mpr ⟨lw_p50, List.forall_mem_cons.mpr ⟨lw_p51, List.forall_mem_cons.mpr ⟨lw_p52, List.forall_mem_cons.mpr ⟨lw_p53, List.forall_mem_cons.mpr ⟨lw_p54, List.forall_mem_cons.mpr ⟨lw_p55, List.forall_mem_cons.mpr ⟨lw_p56, List.forall_mem_cons.mpr ⟨lw_p57, List.forall_mem_cons.mpr ⟨lw_p58, List.forall_mem_cons.mpr ⟨lw_p59, List.forall_mem_cons.mpr ⟨lw_p60, List.forall_mem_cons.mpr ⟨lw_p61, List.forall_mem_cons.mpr ⟨lw_p62, List.forall_mem_cons.mpr ⟨lw_p63, fun _ h => absurd h List.not_mem_nil⟩⟩⟩⟩⟩⟩⟩⟩⟩⟩⟩⟩⟩⟩⟩⟩
def lw_privs : List (MethodName × Nat) := lw_privs_1 ++ (lw_privs_2 ++ (lw_privs_3 ++ (lw_privs_4)))
def lw_tbl : List Cond := k2_sels lw_privs ++ tables_1
theorem lw_privs_ok : ∀ q ∈ lw_privs, lw_okq q := by
  show ∀ q ∈ lw_privs_1 ++ (lw_privs_2 ++ (lw_privs_3 ++ (lw_privs_4))), lw_okq q
  exact List.forall_mem_append.mpr ⟨lw_r1, List.forall_mem_append.mpr ⟨lw_r2, List.forall_mem_append.mpr ⟨lw_r3, lw_r4⟩⟩⟩
def RX0 : String := "SideWork$Acts"
def TX0 : u_T := fun k => match k with
  | 0 => ("SideWork$Acts", "givens", "[I", true)
  | 1 => ("SideWork$Acts", "parts", "[I", true)
  | 2 => ("SideWork$Acts", "aheads", "[I", true)
  | _ => ("SideWork$Acts", "size", "I", false)
def tyX0 : Nat → FieldType := fun k => match k with
  | 0 => .array .int
  | 1 => .array .int
  | 2 => .array .int
  | _ => .int
abbrev wsX00 : List Cond := u_ws RX0 TX0 4
theorem nmX0 : ∀ a, a < 4 → ∀ b, b < 4 → a ≠ b → (TX0 a).2.1 ≠ (TX0 b).2.1 := by decide +kernel
theorem tyX0_ok : ∀ k, k < 4 → parseFieldDescriptor (TX0 k).2.2.1 = some (tyX0 k) := by decide +kernel
abbrev cX0_init : ByteArray := prog_2_method_1_code
def yX0_init : MethodName := ⟨RX0, "<init>", "()V"⟩
abbrev cX0_has : ByteArray := prog_2_method_2_code
def yX0_has : MethodName := ⟨RX0, "has", "(I)Z"⟩
abbrev cX0_given : ByteArray := prog_2_method_3_code
def yX0_given : MethodName := ⟨RX0, "given", "(II)I"⟩
abbrev cX0_part : ByteArray := prog_2_method_4_code
def yX0_part : MethodName := ⟨RX0, "part", "(II)I"⟩
abbrev cX0_partsAhead : ByteArray := prog_2_method_5_code
def yX0_partsAhead : MethodName := ⟨RX0, "partsAhead", "(I)I"⟩
abbrev cX0_refusalOf : ByteArray := prog_2_method_6_code
def yX0_refusalOf : MethodName := ⟨RX0, "refusalOf", "(IIII)I"⟩
abbrev cX0_isUnknown : ByteArray := prog_2_method_7_code
def yX0_isUnknown : MethodName := ⟨RX0, "isUnknown", "(II)Z"⟩
abbrev cX0_isOutside : ByteArray := prog_2_method_8_code
def yX0_isOutside : MethodName := ⟨RX0, "isOutside", "(II)Z"⟩
abbrev cX0_add : ByteArray := prog_2_method_9_code
def yX0_add : MethodName := ⟨RX0, "add", "(IIII)I"⟩
abbrev cX0_sortParts : ByteArray := prog_2_method_10_code
def yX0_sortParts : MethodName := ⟨RX0, "sortParts", "(II)V"⟩
def RX1 : String := "SideWork$Course"
def TX1 : u_T := fun k => match k with
  | 0 => ("SideWork$Course", "limit", "I", false)
  | 1 => ("SideWork$Course", "steps", "I", false)
  | 2 => ("SideWork$Course", "failures", "I", false)
  | 3 => ("SideWork$Course", "ending", "I", false)
  | 4 => ("SideWork$Course", "code", "I", false)
  | 5 => ("SideWork$Course", "at", "I", false)
  | _ => ("SideWork$Course", "value", "J", false)
def tyX1 : Nat → FieldType := fun k => match k with
  | 0 => .int
  | 1 => .int
  | 2 => .int
  | 3 => .int
  | 4 => .int
  | 5 => .int
  | _ => .long
abbrev wsX10 : List Cond := u_ws RX1 TX1 7
theorem nmX1 : ∀ a, a < 7 → ∀ b, b < 7 → a ≠ b → (TX1 a).2.1 ≠ (TX1 b).2.1 := by decide +kernel
theorem tyX1_ok : ∀ k, k < 7 → parseFieldDescriptor (TX1 k).2.2.1 = some (tyX1 k) := by decide +kernel
abbrev cX1_init : ByteArray := prog_3_method_1_code
def yX1_init : MethodName := ⟨RX1, "<init>", "()V"⟩
abbrev cX1_restart : ByteArray := prog_3_method_2_code
def yX1_restart : MethodName := ⟨RX1, "restart", "(I)V"⟩
abbrev cX1_settle : ByteArray := prog_3_method_3_code
def yX1_settle : MethodName := ⟨RX1, "settle", "()V"⟩
abbrev cX1_goOn : ByteArray := prog_3_method_4_code
def yX1_goOn : MethodName := ⟨RX1, "goOn", "(III)V"⟩
abbrev cX1_end : ByteArray := prog_3_method_5_code
def yX1_end : MethodName := ⟨RX1, "end", "(II)V"⟩
abbrev cX1_arise : ByteArray := prog_3_method_6_code
def yX1_arise : MethodName := ⟨RX1, "arise", "(III)V"⟩
abbrev cX1_takesStep : ByteArray := prog_3_method_7_code
def yX1_takesStep : MethodName := ⟨RX1, "takesStep", "(I)Z"⟩
abbrev cX1_isFailing : ByteArray := prog_3_method_8_code
def yX1_isFailing : MethodName := ⟨RX1, "isFailing", "()Z"⟩
def RX2 : String := "SideWork$Fault"
def TX2 : u_T := fun k => match k with
  | _ => ("", "", "", false)
def tyX2 : Nat → FieldType := fun k => match k with
  | _ => .int
abbrev wsX20 : List Cond := u_ws RX2 TX2 0
theorem nmX2 : ∀ a, a < 0 → ∀ b, b < 0 → a ≠ b → (TX2 a).2.1 ≠ (TX2 b).2.1 := by decide +kernel
theorem tyX2_ok : ∀ k, k < 0 → parseFieldDescriptor (TX2 k).2.2.1 = some (tyX2 k) := by decide +kernel
abbrev cX2_of : ByteArray := prog_4_method_2_code
def yX2_of : MethodName := ⟨RX2, "of", "(IJJJII)I"⟩
abbrev cX2_firstOf : ByteArray := prog_4_method_3_code
def yX2_firstOf : MethodName := ⟨RX2, "firstOf", "(III)I"⟩
abbrev cX2_ofThing : ByteArray := prog_4_method_4_code
def yX2_ofThing : MethodName := ⟨RX2, "ofThing", "(JZ)I"⟩
abbrev cX2_ofWhole : ByteArray := prog_4_method_5_code
def yX2_ofWhole : MethodName := ⟨RX2, "ofWhole", "(J)I"⟩
abbrev cX2_ofLength : ByteArray := prog_4_method_6_code
def yX2_ofLength : MethodName := ⟨RX2, "ofLength", "(I)I"⟩
abbrev cX2_ofPlace : ByteArray := prog_4_method_7_code
def yX2_ofPlace : MethodName := ⟨RX2, "ofPlace", "(II)I"⟩
abbrev cX2_ofWrite : ByteArray := prog_4_method_8_code
def yX2_ofWrite : MethodName := ⟨RX2, "ofWrite", "(JJJI)I"⟩
abbrev cX2_ofCopy : ByteArray := prog_4_method_9_code
def yX2_ofCopy : MethodName := ⟨RX2, "ofCopy", "(JJJI)I"⟩
def RX3 : String := "SideWork$Frames"
def TX3 : u_T := fun k => match k with
  | 0 => ("SideWork$Frames", "slots", "[J", true)
  | _ => ("SideWork$Frames", "made", "I", false)
def tyX3 : Nat → FieldType := fun k => match k with
  | 0 => .array .long
  | _ => .int
abbrev wsX30 : List Cond := u_ws RX3 TX3 2
theorem nmX3 : ∀ a, a < 2 → ∀ b, b < 2 → a ≠ b → (TX3 a).2.1 ≠ (TX3 b).2.1 := by decide +kernel
theorem tyX3_ok : ∀ k, k < 2 → parseFieldDescriptor (TX3 k).2.2.1 = some (tyX3 k) := by decide +kernel
abbrev cX3_init : ByteArray := prog_5_method_1_code
def yX3_init : MethodName := ⟨RX3, "<init>", "()V"⟩
abbrev cX3_restart : ByteArray := prog_5_method_2_code
def yX3_restart : MethodName := ⟨RX3, "restart", "()V"⟩
abbrev cX3_open : ByteArray := prog_5_method_3_code
def yX3_open : MethodName := ⟨RX3, "open", "()I"⟩
abbrev cX3_read : ByteArray := prog_5_method_4_code
def yX3_read : MethodName := ⟨RX3, "read", "(II)J"⟩
abbrev cX3_write : ByteArray := prog_5_method_5_code
def yX3_write : MethodName := ⟨RX3, "write", "(IIJ)V"⟩
abbrev cX3_has : ByteArray := prog_5_method_6_code
def yX3_has : MethodName := ⟨RX3, "has", "(II)Z"⟩
def RX4 : String := "SideWork$Kind"
def TX4 : u_T := fun k => match k with
  | _ => ("", "", "", false)
def tyX4 : Nat → FieldType := fun k => match k with
  | _ => .int
abbrev wsX40 : List Cond := u_ws RX4 TX4 0
theorem nmX4 : ∀ a, a < 0 → ∀ b, b < 0 → a ≠ b → (TX4 a).2.1 ≠ (TX4 b).2.1 := by decide +kernel
theorem tyX4_ok : ∀ k, k < 0 → parseFieldDescriptor (TX4 k).2.2.1 = some (tyX4 k) := by decide +kernel
def RX5 : String := "SideWork$Laters"
def TX5 : u_T := fun k => match k with
  | 0 => ("SideWork$Laters", "acts", "[I", true)
  | 1 => ("SideWork$Laters", "frames", "[I", true)
  | 2 => ("SideWork$Laters", "states", "[I", true)
  | 3 => ("SideWork$Laters", "failures", "[I", true)
  | 4 => ("SideWork$Laters", "codes", "[I", true)
  | 5 => ("SideWork$Laters", "values", "[J", true)
  | _ => ("SideWork$Laters", "made", "I", false)
def tyX5 : Nat → FieldType := fun k => match k with
  | 0 => .array .int
  | 1 => .array .int
  | 2 => .array .int
  | 3 => .array .int
  | 4 => .array .int
  | 5 => .array .long
  | _ => .int
abbrev wsX50 : List Cond := u_ws RX5 TX5 7
theorem nmX5 : ∀ a, a < 7 → ∀ b, b < 7 → a ≠ b → (TX5 a).2.1 ≠ (TX5 b).2.1 := by decide +kernel
theorem tyX5_ok : ∀ k, k < 7 → parseFieldDescriptor (TX5 k).2.2.1 = some (tyX5 k) := by decide +kernel
abbrev cX5_init : ByteArray := prog_7_method_1_code
def yX5_init : MethodName := ⟨RX5, "<init>", "()V"⟩
abbrev cX5_restart : ByteArray := prog_7_method_2_code
def yX5_restart : MethodName := ⟨RX5, "restart", "()V"⟩
abbrev cX5_add : ByteArray := prog_7_method_3_code
def yX5_add : MethodName := ⟨RX5, "add", "(II)J"⟩
abbrev cX5_has : ByteArray := prog_7_method_4_code
def yX5_has : MethodName := ⟨RX5, "has", "(I)Z"⟩
abbrev cX5_actOf : ByteArray := prog_7_method_5_code
def yX5_actOf : MethodName := ⟨RX5, "actOf", "(I)I"⟩
abbrev cX5_frameOf : ByteArray := prog_7_method_6_code
def yX5_frameOf : MethodName := ⟨RX5, "frameOf", "(I)I"⟩
abbrev cX5_stateOf : ByteArray := prog_7_method_7_code
def yX5_stateOf : MethodName := ⟨RX5, "stateOf", "(I)I"⟩
abbrev cX5_failureOf : ByteArray := prog_7_method_8_code
def yX5_failureOf : MethodName := ⟨RX5, "failureOf", "(I)I"⟩
abbrev cX5_codeOf : ByteArray := prog_7_method_9_code
def yX5_codeOf : MethodName := ⟨RX5, "codeOf", "(I)I"⟩
abbrev cX5_valueOf : ByteArray := prog_7_method_10_code
def yX5_valueOf : MethodName := ⟨RX5, "valueOf", "(I)J"⟩
abbrev cX5_setState : ByteArray := prog_7_method_11_code
def yX5_setState : MethodName := ⟨RX5, "setState", "(II)V"⟩
abbrev cX5_finish : ByteArray := prog_7_method_12_code
def yX5_finish : MethodName := ⟨RX5, "finish", "(IJ)V"⟩
abbrev cX5_giveUp : ByteArray := prog_7_method_13_code
def yX5_giveUp : MethodName := ⟨RX5, "giveUp", "(III)V"⟩
def RX6 : String := "SideWork$Machine"
def TX6 : u_T := fun k => match k with
  | 0 => ("SideWork$Machine", "acts", "LSideWork$Acts;", true)
  | 1 => ("SideWork$Machine", "memory", "LSideWork$Memory;", true)
  | 2 => ("SideWork$Machine", "course", "LSideWork$Course;", true)
  | 3 => ("SideWork$Machine", "outRow", "[I", true)
  | 4 => ("SideWork$Machine", "outSize", "I", false)
  | 5 => ("SideWork$Machine", "frames", "LSideWork$Frames;", true)
  | 6 => ("SideWork$Machine", "laters", "LSideWork$Laters;", true)
  | 7 => ("SideWork$Machine", "stack", "LSideWork$Stack;", true)
  | _ => ("SideWork$Machine", "calls", "I", false)
def tyX6 : Nat → FieldType := fun k => match k with
  | 0 => .object "SideWork$Acts"
  | 1 => .object "SideWork$Memory"
  | 2 => .object "SideWork$Course"
  | 3 => .array .int
  | 4 => .int
  | 5 => .object "SideWork$Frames"
  | 6 => .object "SideWork$Laters"
  | 7 => .object "SideWork$Stack"
  | _ => .int
abbrev wsX60 : List Cond := u_ws RX6 TX6 9
theorem nmX6 : ∀ a, a < 9 → ∀ b, b < 9 → a ≠ b → (TX6 a).2.1 ≠ (TX6 b).2.1 := by decide +kernel
theorem tyX6_ok : ∀ k, k < 9 → parseFieldDescriptor (TX6 k).2.2.1 = some (tyX6 k) := by decide +kernel
abbrev cX6_init : ByteArray := prog_8_method_1_code
def yX6_init : MethodName := ⟨RX6, "<init>", "(LSideWork$Acts;)V"⟩
abbrev cX6_restart : ByteArray := prog_8_method_2_code
def yX6_restart : MethodName := ⟨RX6, "restart", "(I)V"⟩
abbrev cX6_perform : ByteArray := prog_8_method_3_code
def yX6_perform : MethodName := ⟨RX6, "perform", "(II)V"⟩
abbrev cX6_begin : ByteArray := prog_8_method_4_code
def yX6_begin : MethodName := ⟨RX6, "begin", "(II)V"⟩
abbrev cX6_beginPart : ByteArray := prog_8_method_5_code
def yX6_beginPart : MethodName := ⟨RX6, "beginPart", "(I)V"⟩
abbrev cX6_give : ByteArray := prog_8_method_6_code
def yX6_give : MethodName := ⟨RX6, "give", "(J)V"⟩
abbrev cX6_fail : ByteArray := prog_8_method_7_code
def yX6_fail : MethodName := ⟨RX6, "fail", "(II)V"⟩
abbrev cX6_endRun : ByteArray := prog_8_method_8_code
def yX6_endRun : MethodName := ⟨RX6, "endRun", "(I)V"⟩
abbrev cX6_comesToWork : ByteArray := prog_8_method_9_code
def yX6_comesToWork : MethodName := ⟨RX6, "comesToWork", "()Z"⟩
abbrev cX6_isStopped : ByteArray := prog_8_method_10_code
def yX6_isStopped : MethodName := ⟨RX6, "isStopped", "(I)Z"⟩
abbrev cX6_work : ByteArray := prog_8_method_11_code
def yX6_work : MethodName := ⟨RX6, "work", "()V"⟩
abbrev cX6_keep : ByteArray := prog_8_method_12_code
def yX6_keep : MethodName := ⟨RX6, "keep", "()V"⟩
abbrev cX6_doAlways : ByteArray := prog_8_method_13_code
def yX6_doAlways : MethodName := ⟨RX6, "doAlways", "()V"⟩
abbrev cX6_choose : ByteArray := prog_8_method_14_code
def yX6_choose : MethodName := ⟨RX6, "choose", "()V"⟩
abbrev cX6_loop : ByteArray := prog_8_method_15_code
def yX6_loop : MethodName := ⟨RX6, "loop", "()V"⟩
abbrev cX6_askAgain : ByteArray := prog_8_method_16_code
def yX6_askAgain : MethodName := ⟨RX6, "askAgain", "()V"⟩
abbrev cX6_call : ByteArray := prog_8_method_17_code
def yX6_call : MethodName := ⟨RX6, "call", "()V"⟩
abbrev cX6_enter : ByteArray := prog_8_method_18_code
def yX6_enter : MethodName := ⟨RX6, "enter", "(I)V"⟩
abbrev cX6_delay : ByteArray := prog_8_method_19_code
def yX6_delay : MethodName := ⟨RX6, "delay", "()V"⟩
abbrev cX6_force : ByteArray := prog_8_method_20_code
def yX6_force : MethodName := ⟨RX6, "force", "(I)V"⟩
abbrev cX6_workLater : ByteArray := prog_8_method_21_code
def yX6_workLater : MethodName := ⟨RX6, "workLater", "(I)V"⟩
abbrev cX6_copy : ByteArray := prog_8_method_22_code
def yX6_copy : MethodName := ⟨RX6, "copy", "()V"⟩
abbrev cX6_workPlainly : ByteArray := prog_8_method_23_code
def yX6_workPlainly : MethodName := ⟨RX6, "workPlainly", "(I)V"⟩
abbrev cX6_reckon : ByteArray := prog_8_method_24_code
def yX6_reckon : MethodName := ⟨RX6, "reckon", "(IIJJ)J"⟩
abbrev cX6_change : ByteArray := prog_8_method_25_code
def yX6_change : MethodName := ⟨RX6, "change", "(IIJJJ)J"⟩
abbrev cX6_put : ByteArray := prog_8_method_26_code
def yX6_put : MethodName := ⟨RX6, "put", "(IJ)J"⟩
abbrev cX6_tell : ByteArray := prog_8_method_27_code
def yX6_tell : MethodName := ⟨RX6, "tell", "(J)J"⟩
abbrev cX6_leave : ByteArray := prog_8_method_28_code
def yX6_leave : MethodName := ⟨RX6, "leave", "()V"⟩
abbrev cX6_isCaught : ByteArray := prog_8_method_29_code
def yX6_isCaught : MethodName := ⟨RX6, "isCaught", "()Z"⟩
abbrev cX6_takeUp : ByteArray := prog_8_method_30_code
def yX6_takeUp : MethodName := ⟨RX6, "takeUp", "()V"⟩
abbrev cX6_leaveLater : ByteArray := prog_8_method_31_code
def yX6_leaveLater : MethodName := ⟨RX6, "leaveLater", "(I)V"⟩
def RX7 : String := "SideWork$Memory"
def TX7 : u_T := fun k => match k with
  | 0 => ("SideWork$Memory", "cells", "[J", true)
  | 1 => ("SideWork$Memory", "changedCells", "[I", true)
  | 2 => ("SideWork$Memory", "changedFrom", "[J", true)
  | 3 => ("SideWork$Memory", "used", "I", false)
  | _ => ("SideWork$Memory", "changes", "I", false)
def tyX7 : Nat → FieldType := fun k => match k with
  | 0 => .array .long
  | 1 => .array .int
  | 2 => .array .long
  | 3 => .int
  | _ => .int
abbrev wsX70 : List Cond := u_ws RX7 TX7 5
theorem nmX7 : ∀ a, a < 5 → ∀ b, b < 5 → a ≠ b → (TX7 a).2.1 ≠ (TX7 b).2.1 := by decide +kernel
theorem tyX7_ok : ∀ k, k < 5 → parseFieldDescriptor (TX7 k).2.2.1 = some (tyX7 k) := by decide +kernel
abbrev cX7_init : ByteArray := prog_9_method_1_code
def yX7_init : MethodName := ⟨RX7, "<init>", "()V"⟩
abbrev cX7_isBox : ByteArray := prog_9_method_2_code
def yX7_isBox : MethodName := ⟨RX7, "isBox", "(I)Z"⟩
abbrev cX7_cellOf : ByteArray := prog_9_method_3_code
def yX7_cellOf : MethodName := ⟨RX7, "cellOf", "(JI)I"⟩
abbrev cX7_restart : ByteArray := prog_9_method_4_code
def yX7_restart : MethodName := ⟨RX7, "restart", "()V"⟩
abbrev cX7_newRow : ByteArray := prog_9_method_5_code
def yX7_newRow : MethodName := ⟨RX7, "newRow", "(II)J"⟩
abbrev cX7_newLink : ByteArray := prog_9_method_6_code
def yX7_newLink : MethodName := ⟨RX7, "newLink", "(IJ)J"⟩
abbrev cX7_read : ByteArray := prog_9_method_7_code
def yX7_read : MethodName := ⟨RX7, "read", "(I)J"⟩
abbrev cX7_write : ByteArray := prog_9_method_8_code
def yX7_write : MethodName := ⟨RX7, "write", "(IJ)V"⟩
abbrev cX7_copied : ByteArray := prog_9_method_9_code
def yX7_copied : MethodName := ⟨RX7, "copied", "(JJI)Z"⟩
abbrev cX7_changesSoFar : ByteArray := prog_9_method_10_code
def yX7_changesSoFar : MethodName := ⟨RX7, "changesSoFar", "()I"⟩
abbrev cX7_undoBackTo : ByteArray := prog_9_method_11_code
def yX7_undoBackTo : MethodName := ⟨RX7, "undoBackTo", "(I)V"⟩
abbrev cX7_lengthOf : ByteArray := prog_9_method_12_code
def yX7_lengthOf : MethodName := ⟨RX7, "lengthOf", "(J)I"⟩
abbrev cX7_measure : ByteArray := prog_9_method_13_code
def yX7_measure : MethodName := ⟨RX7, "measure", "(J)I"⟩
def RX8 : String := "SideWork$Stack"
def TX8 : u_T := fun k => match k with
  | 0 => ("SideWork$Stack", "acts", "[I", true)
  | 1 => ("SideWork$Stack", "frames", "[I", true)
  | 2 => ("SideWork$Stack", "stages", "[I", true)
  | 3 => ("SideWork$Stack", "partValues", "[J", true)
  | 4 => ("SideWork$Stack", "marks", "[I", true)
  | 5 => ("SideWork$Stack", "heldFailures", "[I", true)
  | 6 => ("SideWork$Stack", "heldCodes", "[I", true)
  | 7 => ("SideWork$Stack", "heldAts", "[I", true)
  | 8 => ("SideWork$Stack", "height", "I", false)
  | _ => ("SideWork$Stack", "top", "I", false)
def tyX8 : Nat → FieldType := fun k => match k with
  | 0 => .array .int
  | 1 => .array .int
  | 2 => .array .int
  | 3 => .array .long
  | 4 => .array .int
  | 5 => .array .int
  | 6 => .array .int
  | 7 => .array .int
  | 8 => .int
  | _ => .int
abbrev wsX80 : List Cond := u_ws RX8 TX8 10
theorem nmX8 : ∀ a, a < 10 → ∀ b, b < 10 → a ≠ b → (TX8 a).2.1 ≠ (TX8 b).2.1 := by decide +kernel
theorem tyX8_ok : ∀ k, k < 10 → parseFieldDescriptor (TX8 k).2.2.1 = some (tyX8 k) := by decide +kernel
abbrev cX8_init : ByteArray := prog_10_method_1_code
def yX8_init : MethodName := ⟨RX8, "<init>", "()V"⟩
abbrev cX8_restart : ByteArray := prog_10_method_2_code
def yX8_restart : MethodName := ⟨RX8, "restart", "()V"⟩
abbrev cX8_isEmpty : ByteArray := prog_10_method_3_code
def yX8_isEmpty : MethodName := ⟨RX8, "isEmpty", "()Z"⟩
abbrev cX8_push : ByteArray := prog_10_method_4_code
def yX8_push : MethodName := ⟨RX8, "push", "(III)V"⟩
abbrev cX8_pop : ByteArray := prog_10_method_5_code
def yX8_pop : MethodName := ⟨RX8, "pop", "()V"⟩
abbrev cX8_actOnTop : ByteArray := prog_10_method_6_code
def yX8_actOnTop : MethodName := ⟨RX8, "actOnTop", "()I"⟩
abbrev cX8_frame : ByteArray := prog_10_method_7_code
def yX8_frame : MethodName := ⟨RX8, "frame", "()I"⟩
abbrev cX8_stage : ByteArray := prog_10_method_8_code
def yX8_stage : MethodName := ⟨RX8, "stage", "()I"⟩
abbrev cX8_setStage : ByteArray := prog_10_method_9_code
def yX8_setStage : MethodName := ⟨RX8, "setStage", "(I)V"⟩
abbrev cX8_take : ByteArray := prog_10_method_10_code
def yX8_take : MethodName := ⟨RX8, "take", "(J)V"⟩
abbrev cX8_value : ByteArray := prog_10_method_11_code
def yX8_value : MethodName := ⟨RX8, "value", "(I)J"⟩
abbrev cX8_mark : ByteArray := prog_10_method_12_code
def yX8_mark : MethodName := ⟨RX8, "mark", "()I"⟩
abbrev cX8_hold : ByteArray := prog_10_method_13_code
def yX8_hold : MethodName := ⟨RX8, "hold", "(LSideWork$Course;)V"⟩
abbrev cX8_holdsFailure : ByteArray := prog_10_method_14_code
def yX8_holdsFailure : MethodName := ⟨RX8, "holdsFailure", "()Z"⟩
abbrev cX8_letGo : ByteArray := prog_10_method_15_code
def yX8_letGo : MethodName := ⟨RX8, "letGo", "(LSideWork$Course;)V"⟩
def RX9 : String := "SideWork$Value"
def TX9 : u_T := fun k => match k with
  | _ => ("", "", "", false)
def tyX9 : Nat → FieldType := fun k => match k with
  | _ => .int
abbrev wsX90 : List Cond := u_ws RX9 TX9 0
theorem nmX9 : ∀ a, a < 0 → ∀ b, b < 0 → a ≠ b → (TX9 a).2.1 ≠ (TX9 b).2.1 := by decide +kernel
theorem tyX9_ok : ∀ k, k < 0 → parseFieldDescriptor (TX9 k).2.2.1 = some (tyX9 k) := by decide +kernel
abbrev cX9_of : ByteArray := prog_11_method_2_code
def yX9_of : MethodName := ⟨RX9, "of", "(II)J"⟩
abbrev cX9_whole : ByteArray := prog_11_method_3_code
def yX9_whole : MethodName := ⟨RX9, "whole", "(I)J"⟩
abbrev cX9_truth : ByteArray := prog_11_method_4_code
def yX9_truth : MethodName := ⟨RX9, "truth", "(Z)J"⟩
abbrev cX9_sort : ByteArray := prog_11_method_5_code
def yX9_sort : MethodName := ⟨RX9, "sort", "(J)I"⟩
abbrev cX9_number : ByteArray := prog_11_method_6_code
def yX9_number : MethodName := ⟨RX9, "number", "(J)I"⟩
abbrev cX9_isRow : ByteArray := prog_11_method_7_code
def yX9_isRow : MethodName := ⟨RX9, "isRow", "(J)Z"⟩
abbrev cX9_isRowForLinks : ByteArray := prog_11_method_8_code
def yX9_isRowForLinks : MethodName := ⟨RX9, "isRowForLinks", "(J)Z"⟩
abbrev cX9_isLink : ByteArray := prog_11_method_9_code
def yX9_isLink : MethodName := ⟨RX9, "isLink", "(J)Z"⟩
abbrev cX9_isLinkOrNothing : ByteArray := prog_11_method_10_code
def yX9_isLinkOrNothing : MethodName := ⟨RX9, "isLinkOrNothing", "(J)Z"⟩
abbrev cX9_isStrange : ByteArray := prog_11_method_11_code
def yX9_isStrange : MethodName := ⟨RX9, "isStrange", "(JJ)Z"⟩
def RX10 : String := "SideWork"
def TX10 : u_T := fun k => match k with
  | 0 => ("SideWork", "acts", "LSideWork$Acts;", true)
  | 1 => ("SideWork", "machine", "LSideWork$Machine;", true)
  | _ => ("SideWork", "runs", "I", false)
def tyX10 : Nat → FieldType := fun k => match k with
  | 0 => .object "SideWork$Acts"
  | 1 => .object "SideWork$Machine"
  | _ => .int
abbrev wsX100 : List Cond := u_ws RX10 TX10 3
theorem nmX10 : ∀ a, a < 3 → ∀ b, b < 3 → a ≠ b → (TX10 a).2.1 ≠ (TX10 b).2.1 := by decide +kernel
theorem tyX10_ok : ∀ k, k < 3 → parseFieldDescriptor (TX10 k).2.2.1 = some (tyX10 k) := by decide +kernel
abbrev cX10_init : ByteArray := prog_1_method_1_code
def yX10_init : MethodName := ⟨RX10, "<init>", "()V"⟩
abbrev cX10_act : ByteArray := prog_1_method_2_code
def yX10_act : MethodName := ⟨RX10, "act", "(IIII)I"⟩
abbrev cX10_told : ByteArray := prog_1_method_3_code
def yX10_told : MethodName := ⟨RX10, "told", "(II)I"⟩
abbrev cX10_run : ByteArray := prog_1_method_4_code
def yX10_run : MethodName := ⟨RX10, "run", "(II)I"⟩
abbrev cX10_ended : ByteArray := prog_1_method_5_code
def yX10_ended : MethodName := ⟨RX10, "ended", "(I)I"⟩
abbrev cX10_gave : ByteArray := prog_1_method_6_code
def yX10_gave : MethodName := ⟨RX10, "gave", "()I"⟩
abbrev cX10_place : ByteArray := prog_1_method_7_code
def yX10_place : MethodName := ⟨RX10, "place", "(I)I"⟩
abbrev cX10_box : ByteArray := prog_1_method_8_code
def yX10_box : MethodName := ⟨RX10, "box", "(I)I"⟩
abbrev cX10_boxed : ByteArray := prog_1_method_9_code
def yX10_boxed : MethodName := ⟨RX10, "boxed", "(I)I"⟩
abbrev cX10_same : ByteArray := prog_1_method_10_code
def yX10_same : MethodName := ⟨RX10, "same", "(II)I"⟩
abbrev cX10_out : ByteArray := prog_1_method_11_code
def yX10_out : MethodName := ⟨RX10, "out", "(I)I"⟩
abbrev cX10_count : ByteArray := prog_1_method_12_code
def yX10_count : MethodName := ⟨RX10, "count", "(I)I"⟩
abbrev cX10_clear : ByteArray := prog_1_method_13_code
def yX10_clear : MethodName := ⟨RX10, "clear", "()I"⟩
def RX11 : String := "SideWorkModel"
def TX11 : u_T := fun k => match k with
  | 0 => ("SideWorkModel", "acts", "I", false)
  | 1 => ("SideWorkModel", "kind", "[I", true)
  | 2 => ("SideWorkModel", "argA", "[I", true)
  | 3 => ("SideWorkModel", "argB", "[I", true)
  | 4 => ("SideWorkModel", "argC", "[I", true)
  | 5 => ("SideWorkModel", "runs", "I", false)
  | 6 => ("SideWorkModel", "things", "I", false)
  | 7 => ("SideWorkModel", "thingSize", "[I", true)
  | 8 => ("SideWorkModel", "placeType", "[I", true)
  | 9 => ("SideWorkModel", "placeNumber", "[I", true)
  | 10 => ("SideWorkModel", "laterAct", "[I", true)
  | 11 => ("SideWorkModel", "laterFrame", "[I", true)
  | 12 => ("SideWorkModel", "laterState", "[I", true)
  | 13 => ("SideWorkModel", "laterType", "[I", true)
  | 14 => ("SideWorkModel", "laterNumber", "[I", true)
  | 15 => ("SideWorkModel", "frames", "I", false)
  | 16 => ("SideWorkModel", "slotType", "[I", true)
  | 17 => ("SideWorkModel", "slotNumber", "[I", true)
  | 18 => ("SideWorkModel", "boxType", "[I", true)
  | 19 => ("SideWorkModel", "boxNumber", "[I", true)
  | 20 => ("SideWorkModel", "changes", "I", false)
  | 21 => ("SideWorkModel", "changed", "[I", true)
  | 22 => ("SideWorkModel", "wasType", "[I", true)
  | 23 => ("SideWorkModel", "wasNumber", "[I", true)
  | 24 => ("SideWorkModel", "tolds", "I", false)
  | 25 => ("SideWorkModel", "toldRow", "[I", true)
  | 26 => ("SideWorkModel", "top", "I", false)
  | 27 => ("SideWorkModel", "sAct", "[I", true)
  | 28 => ("SideWorkModel", "sPhase", "[I", true)
  | 29 => ("SideWorkModel", "sFrame", "[I", true)
  | 30 => ("SideWorkModel", "sTypeX", "[I", true)
  | 31 => ("SideWorkModel", "sNumberX", "[I", true)
  | 32 => ("SideWorkModel", "sTypeY", "[I", true)
  | 33 => ("SideWorkModel", "sNumberY", "[I", true)
  | 34 => ("SideWorkModel", "sMark", "[I", true)
  | 35 => ("SideWorkModel", "sAt", "[I", true)
  | 36 => ("SideWorkModel", "mode", "I", false)
  | 37 => ("SideWorkModel", "nowAct", "I", false)
  | 38 => ("SideWorkModel", "nowFrame", "I", false)
  | 39 => ("SideWorkModel", "vType", "I", false)
  | 40 => ("SideWorkModel", "vNumber", "I", false)
  | 41 => ("SideWorkModel", "fKind", "I", false)
  | 42 => ("SideWorkModel", "fCode", "I", false)
  | 43 => ("SideWorkModel", "fAt", "I", false)
  | 44 => ("SideWorkModel", "failures", "I", false)
  | 45 => ("SideWorkModel", "steps", "I", false)
  | 46 => ("SideWorkModel", "most", "I", false)
  | 47 => ("SideWorkModel", "deep", "I", false)
  | 48 => ("SideWorkModel", "gaveType", "I", false)
  | 49 => ("SideWorkModel", "gaveNumber", "I", false)
  | 50 => ("SideWorkModel", "endKind", "I", false)
  | 51 => ("SideWorkModel", "endCode", "I", false)
  | 52 => ("SideWorkModel", "endAt", "I", false)
  | 53 => ("SideWorkModel", "endSteps", "I", false)
  | 54 => ("SideWorkModel", "endFailures", "I", false)
  | _ => ("SideWorkModel", "thrown", "I", false)
def tyX11 : Nat → FieldType := fun k => match k with
  | 0 => .int
  | 1 => .array .int
  | 2 => .array .int
  | 3 => .array .int
  | 4 => .array .int
  | 5 => .int
  | 6 => .int
  | 7 => .array .int
  | 8 => .array .int
  | 9 => .array .int
  | 10 => .array .int
  | 11 => .array .int
  | 12 => .array .int
  | 13 => .array .int
  | 14 => .array .int
  | 15 => .int
  | 16 => .array .int
  | 17 => .array .int
  | 18 => .array .int
  | 19 => .array .int
  | 20 => .int
  | 21 => .array .int
  | 22 => .array .int
  | 23 => .array .int
  | 24 => .int
  | 25 => .array .int
  | 26 => .int
  | 27 => .array .int
  | 28 => .array .int
  | 29 => .array .int
  | 30 => .array .int
  | 31 => .array .int
  | 32 => .array .int
  | 33 => .array .int
  | 34 => .array .int
  | 35 => .array .int
  | 36 => .int
  | 37 => .int
  | 38 => .int
  | 39 => .int
  | 40 => .int
  | 41 => .int
  | 42 => .int
  | 43 => .int
  | 44 => .int
  | 45 => .int
  | 46 => .int
  | 47 => .int
  | 48 => .int
  | 49 => .int
  | 50 => .int
  | 51 => .int
  | 52 => .int
  | 53 => .int
  | 54 => .int
  | _ => .int
abbrev wsX110 : List Cond := u_ws RX11 TX11 56
theorem nmX11 : ∀ a, a < 56 → ∀ b, b < 56 → a ≠ b → (TX11 a).2.1 ≠ (TX11 b).2.1 := by decide +kernel
theorem tyX11_ok : ∀ k, k < 56 → parseFieldDescriptor (TX11 k).2.2.1 = some (tyX11 k) := by decide +kernel
abbrev cX11_init : ByteArray := prog_13_method_1_code
def yX11_init : MethodName := ⟨RX11, "<init>", "()V"⟩
abbrev cX11_in : ByteArray := prog_13_method_2_code
def yX11_in : MethodName := ⟨RX11, "in", "(III)Z"⟩
abbrev cX11_noAct : ByteArray := prog_13_method_3_code
def yX11_noAct : MethodName := ⟨RX11, "noAct", "(I)Z"⟩
abbrev cX11_actsOf : ByteArray := prog_13_method_4_code
def yX11_actsOf : MethodName := ⟨RX11, "actsOf", "(I)I"⟩
abbrev cX11_act : ByteArray := prog_13_method_5_code
def yX11_act : MethodName := ⟨RX11, "act", "(IIII)I"⟩
abbrev cX11_told : ByteArray := prog_13_method_6_code
def yX11_told : MethodName := ⟨RX11, "told", "(II)I"⟩
abbrev cX11_value : ByteArray := prog_13_method_7_code
def yX11_value : MethodName := ⟨RX11, "value", "(II)V"⟩
abbrev cX11_start : ByteArray := prog_13_method_8_code
def yX11_start : MethodName := ⟨RX11, "start", "(II)V"⟩
abbrev cX11_finish : ByteArray := prog_13_method_9_code
def yX11_finish : MethodName := ⟨RX11, "finish", "(II)V"⟩
abbrev cX11_fail : ByteArray := prog_13_method_10_code
def yX11_fail : MethodName := ⟨RX11, "fail", "(III)V"⟩
abbrev cX11_newThing : ByteArray := prog_13_method_11_code
def yX11_newThing : MethodName := ⟨RX11, "newThing", "(I)I"⟩
abbrev cX11_newFrame : ByteArray := prog_13_method_12_code
def yX11_newFrame : MethodName := ⟨RX11, "newFrame", "()I"⟩
abbrev cX11_write : ByteArray := prog_13_method_13_code
def yX11_write : MethodName := ⟨RX11, "write", "(III)V"⟩
abbrev cX11_back : ByteArray := prog_13_method_14_code
def yX11_back : MethodName := ⟨RX11, "back", "(I)V"⟩
abbrev cX11_begin : ByteArray := prog_13_method_15_code
def yX11_begin : MethodName := ⟨RX11, "begin", "()V"⟩
abbrev cX11_keepX : ByteArray := prog_13_method_16_code
def yX11_keepX : MethodName := ⟨RX11, "keepX", "(I)V"⟩
abbrev cX11_keepY : ByteArray := prog_13_method_17_code
def yX11_keepY : MethodName := ⟨RX11, "keepY", "(I)V"⟩
abbrev cX11_isWhole : ByteArray := prog_13_method_18_code
def yX11_isWhole : MethodName := ⟨RX11, "isWhole", "(II)Z"⟩
abbrev cX11_failBy : ByteArray := prog_13_method_19_code
def yX11_failBy : MethodName := ⟨RX11, "failBy", "(II)V"⟩
abbrev cX11_up : ByteArray := prog_13_method_20_code
def yX11_up : MethodName := ⟨RX11, "up", "()V"⟩
abbrev cX11_upOf : ByteArray := prog_13_method_21_code
def yX11_upOf : MethodName := ⟨RX11, "upOf", "(IIIII)V"⟩
abbrev cX11_upLater : ByteArray := prog_13_method_22_code
def yX11_upLater : MethodName := ⟨RX11, "upLater", "(IIIII)V"⟩
abbrev cX11_upLoop : ByteArray := prog_13_method_23_code
def yX11_upLoop : MethodName := ⟨RX11, "upLoop", "(IIII)V"⟩
abbrev cX11_upCall : ByteArray := prog_13_method_24_code
def yX11_upCall : MethodName := ⟨RX11, "upCall", "(III)V"⟩
abbrev cX11_upWork : ByteArray := prog_13_method_25_code
def yX11_upWork : MethodName := ⟨RX11, "upWork", "(III)V"⟩
abbrev cX11_reckon : ByteArray := prog_13_method_26_code
def yX11_reckon : MethodName := ⟨RX11, "reckon", "(IIII)V"⟩
abbrev cX11_makeRow : ByteArray := prog_13_method_27_code
def yX11_makeRow : MethodName := ⟨RX11, "makeRow", "(II)V"⟩
abbrev cX11_isRow : ByteArray := prog_13_method_28_code
def yX11_isRow : MethodName := ⟨RX11, "isRow", "(I)Z"⟩
abbrev cX11_isRowHere : ByteArray := prog_13_method_29_code
def yX11_isRowHere : MethodName := ⟨RX11, "isRowHere", "(II)Z"⟩
abbrev cX11_isLink : ByteArray := prog_13_method_30_code
def yX11_isLink : MethodName := ⟨RX11, "isLink", "(II)Z"⟩
abbrev cX11_readPlace : ByteArray := prog_13_method_31_code
def yX11_readPlace : MethodName := ⟨RX11, "readPlace", "(III)V"⟩
abbrev cX11_writePlace : ByteArray := prog_13_method_32_code
def yX11_writePlace : MethodName := ⟨RX11, "writePlace", "(II)V"⟩
abbrev cX11_copyPlaces : ByteArray := prog_13_method_33_code
def yX11_copyPlaces : MethodName := ⟨RX11, "copyPlaces", "(II)V"⟩
abbrev cX11_upFailure : ByteArray := prog_13_method_34_code
def yX11_upFailure : MethodName := ⟨RX11, "upFailure", "()V"⟩
abbrev cX11_leave : ByteArray := prog_13_method_35_code
def yX11_leave : MethodName := ⟨RX11, "leave", "(IIII)V"⟩
abbrev cX11_run : ByteArray := prog_13_method_36_code
def yX11_run : MethodName := ⟨RX11, "run", "(II)I"⟩
abbrev cX11_ended : ByteArray := prog_13_method_37_code
def yX11_ended : MethodName := ⟨RX11, "ended", "(I)I"⟩
abbrev cX11_numberOf : ByteArray := prog_13_method_38_code
def yX11_numberOf : MethodName := ⟨RX11, "numberOf", "(II)I"⟩
abbrev cX11_gave : ByteArray := prog_13_method_39_code
def yX11_gave : MethodName := ⟨RX11, "gave", "()I"⟩
abbrev cX11_thrown : ByteArray := prog_13_method_40_code
def yX11_thrown : MethodName := ⟨RX11, "thrown", "()I"⟩
abbrev cX11_place : ByteArray := prog_13_method_41_code
def yX11_place : MethodName := ⟨RX11, "place", "(I)I"⟩
abbrev cX11_box : ByteArray := prog_13_method_42_code
def yX11_box : MethodName := ⟨RX11, "box", "(I)I"⟩
abbrev cX11_boxed : ByteArray := prog_13_method_43_code
def yX11_boxed : MethodName := ⟨RX11, "boxed", "(I)I"⟩
abbrev cX11_same : ByteArray := prog_13_method_44_code
def yX11_same : MethodName := ⟨RX11, "same", "(II)I"⟩
abbrev cX11_out : ByteArray := prog_13_method_45_code
def yX11_out : MethodName := ⟨RX11, "out", "(I)I"⟩
abbrev cX11_count : ByteArray := prog_13_method_46_code
def yX11_count : MethodName := ⟨RX11, "count", "(I)I"⟩
abbrev cX11_clear : ByteArray := prog_13_method_47_code
def yX11_clear : MethodName := ⟨RX11, "clear", "()I"⟩
def RJx00060 : String := "java/lang/ArrayIndexOutOfBoundsException"
def TJx00060 : u_T := fun k => match k with
  | 0 => ("java/lang/Throwable", "backtrace", "Ljava/lang/Object;", false)
  | 1 => ("java/lang/Throwable", "detailMessage", "Ljava/lang/String;", false)
  | 2 => ("java/lang/Throwable", "cause", "Ljava/lang/Throwable;", false)
  | 3 => ("java/lang/Throwable", "stackTrace", "[Ljava/lang/StackTraceElement;", false)
  | 4 => ("java/lang/Throwable", "depth", "I", false)
  | _ => ("java/lang/Throwable", "suppressedExceptions", "Ljava/util/List;", false)
def tyJx00060 : Nat → FieldType := fun k => match k with
  | 0 => .object "java/lang/Object"
  | 1 => .object "java/lang/String"
  | 2 => .object "java/lang/Throwable"
  | 3 => .array (.object "java/lang/StackTraceElement")
  | 4 => .int
  | _ => .object "java/util/List"
abbrev wsJx000600 : List Cond := u_ws RJx00060 TJx00060 6
theorem nmJx00060 : ∀ a, a < 6 → ∀ b, b < 6 → a ≠ b → (TJx00060 a).2.1 ≠ (TJx00060 b).2.1 := by decide +kernel
theorem tyJx00060_ok : ∀ k, k < 6 → parseFieldDescriptor (TJx00060 k).2.2.1 = some (tyJx00060 k) := by decide +kernel
abbrev cJx00060_init_a7421 : ByteArray := prog_14_method_2_code
def yJx00060_init_a7421 : MethodName := ⟨RJx00060, "<init>", "(Ljava/lang/String;)V"⟩
def RJ9 : String := "java/lang/Math"
def TJ9 : u_T := fun k => match k with
  | _ => ("", "", "", false)
def tyJ9 : Nat → FieldType := fun k => match k with
  | _ => .int
abbrev wsJ90 : List Cond := u_ws RJ9 TJ9 0
theorem nmJ9 : ∀ a, a < 0 → ∀ b, b < 0 → a ≠ b → (TJ9 a).2.1 ≠ (TJ9 b).2.1 := by decide +kernel
theorem tyJ9_ok : ∀ k, k < 0 → parseFieldDescriptor (TJ9 k).2.2.1 = some (tyJ9 k) := by decide +kernel
abbrev cJ9_min_7cf53 : ByteArray := prog_17_method_69_code
def yJ9_min_7cf53 : MethodName := ⟨RJ9, "min", "(II)I"⟩
def RJ0 : String := "java/lang/String"
def TJ0 : u_T := fun k => match k with
  | 0 => ("java/lang/String", "value", "[B", true)
  | _ => ("java/lang/String", "coder", "B", true)
def tyJ0 : Nat → FieldType := fun k => match k with
  | 0 => .array .byte
  | _ => .byte
abbrev wsJ00 : List Cond := u_ws RJ0 TJ0 2
theorem nmJ0 : ∀ a, a < 2 → ∀ b, b < 2 → a ≠ b → (TJ0 a).2.1 ≠ (TJ0 b).2.1 := by decide +kernel
theorem tyJ0_ok : ∀ k, k < 2 → parseFieldDescriptor (TJ0 k).2.2.1 = some (tyJ0 k) := by decide +kernel
def RL : String := "SideWorkLaw"
abbrev cL_place : ByteArray := method_3_code
def yL_place : MethodName := ⟨RL, "place", "(LSideWork;I[J)I"⟩
abbrev cL_law : ByteArray := code
def yL_law : MethodName := ⟨RL, "law", "([I)Z"⟩
end
section
abbrev vwCl : List vw_C := [(RJ0, TJ0, 2), (RJx00060, TJx00060, 6), (RX0, TX0, 4), (RX1, TX1, 7), (RX3, TX3, 2), (RX5, TX5, 7), (RX6, TX6, 9), (RX7, TX7, 5), (RX8, TX8, 10), (RX10, TX10, 3), (RX11, TX11, 56)]
/-! A STATE of a fixed set of cells: place o, slot j holds an int (sI) or a long (sL). A layout says what the places are: (0, class, kinds of its fields: 0 int, 1 long, p + 2 the place p), (1, n, _) a row of n ints, (2, n, _) a row of n longs. -/
abbrev Sg : Type := (Nat → Nat → Int32) × (Nat → Nat → Int64)
def sI (σ : Sg) (o j : Nat) : Int32 := σ.1 o j
def sL (σ : Sg) (o j : Nat) : Int64 := σ.2 o j
def wI (σ : Sg) (o j : Nat) (v : Int32) : Sg := (fun a b => if a = o ∧ b = j then v else σ.1 a b, σ.2)
def wL (σ : Sg) (o j : Nat) (v : Int64) : Sg := (σ.1, fun a b => if a = o ∧ b = j then v else σ.2 a b)
abbrev Ds : Type := Nat × Nat × List Nat
def fV (ad : Nat → Nat) (σ : Sg) (i j t : Nat) : Value := match t with
  | 0 => .int (σ.1 i j)
  | 1 => .long (σ.2 i j)
  | p + 2 => .ref (ad p)
def cE (ad : Nat → Nat) (cA : Nat → ClassId) (σ : Sg) (i : Nat) (d : Ds) : va_E := match d.1 with
  | 0 => .inr (d.2.1, d.2.2.mapIdx (fun j t => fV ad σ i j t))
  | 1 => .inl (cA i, d.2.1, .inl (σ.1 i))
  | _ => .inl (cA i, d.2.1, .inr (.inl (σ.2 i)))
def pic (Ly : List Ds) (ad : Nat → Nat) (cA : Nat → ClassId) (σ : Sg) : va_W := Ly.mapIdx (fun i d => (ad i, cE ad cA σ i d))
def tys (Ly : List Ds) (cA : Nat → ClassId) : List (ClassId × FieldType) := Ly.mapIdx (fun i d => (cA i, if d.1 = 1 then .int else .long))
theorem pic_at {Ly : List Ds} {ad : Nat → Nat} {cA : Nat → ClassId} {σ : Sg} {i : Nat} {d : Ds} (h : Ly[i]? = some d) : (pic Ly ad cA σ)[i]? = some (ad i, cE ad cA σ i d) := by simp [pic, h]
theorem tys_at {Ly : List Ds} {cA : Nat → ClassId} {i : Nat} {d : Ds} (h : Ly[i]? = some d) : (tys Ly cA)[i]? = some (cA i, if d.1 = 1 then .int else .long) := by simp [tys, h]
theorem wI_row (σ : Sg) (o j : Nat) (v : Int32) : (wI σ o j v).1 o = upd (σ.1 o) j v := by
  funext b
  simp [wI, upd]
theorem wL_row (σ : Sg) (o j : Nat) (v : Int64) : (wL σ o j v).2 o = vp_updL (σ.2 o) j v := by
  funext b
  simp [wL, vp_updL]
theorem cE_wI_ne {ad : Nat → Nat} {cA : Nat → ClassId} {σ : Sg} {o j k : Nat} {v : Int32} {d : Ds} (h : k ≠ o) : cE ad cA (wI σ o j v) k d = cE ad cA σ k d := by
  have h1 : (wI σ o j v).1 k = σ.1 k := by funext b; simp [wI, h]
  unfold cE fV
  rw [h1]
  rfl
theorem cE_wL_ne {ad : Nat → Nat} {cA : Nat → ClassId} {σ : Sg} {o j k : Nat} {v : Int64} {d : Ds} (h : k ≠ o) : cE ad cA (wL σ o j v) k d = cE ad cA σ k d := by
  have h1 : (wL σ o j v).2 k = σ.2 k := by funext b; simp [wL, h]
  unfold cE fV
  rw [h1]
  rfl
theorem pic_set {Ly : List Ds} {ad : Nat → Nat} {cA : Nat → ClassId} {σ σ' : Sg} {o : Nat} {d : Ds} {x : va_E} (h : Ly[o]? = some d) (he : x = cE ad cA σ' o d) (hn : ∀ k d', k ≠ o → cE ad cA σ' k d' = cE ad cA σ k d') : (pic Ly ad cA σ).set o (ad o, x) = pic Ly ad cA σ' := by
  subst he
  have hl : o < (pic Ly ad cA σ).length := by simp only [pic, List.length_mapIdx]; exact (List.getElem?_eq_some_iff.mp h).1
  apply List.ext_getElem?
  intro k
  by_cases hk : k = o
  · subst hk
    rw [List.getElem?_set_self hl, pic_at h]
  · rw [List.getElem?_set_ne (Ne.symm hk)]
    simp only [pic, List.getElem?_mapIdx]
    cases Ly[k]? with
    | none => rfl
    | some d' => simp only [Option.map_some, hn k d' hk]
theorem pic_aI {Ly : List Ds} {ad : Nat → Nat} {cA : Nat → ClassId} {σ : Sg} {o n j : Nat} {x : List Nat} {v : Int32} (h : Ly[o]? = some (1, n, x)) : (pic Ly ad cA σ).set o (ad o, .inl (cA o, n, .inl (upd (σ.1 o) j v))) = pic Ly ad cA (wI σ o j v) :=
  pic_set h (by simp only [cE, wI_row]) (fun k d' hk => cE_wI_ne hk)
theorem pic_aL {Ly : List Ds} {ad : Nat → Nat} {cA : Nat → ClassId} {σ : Sg} {o n j : Nat} {x : List Nat} {v : Int64} (h : Ly[o]? = some (2, n, x)) : (pic Ly ad cA σ).set o (ad o, .inl (cA o, n, .inr (.inl (vp_updL (σ.2 o) j v)))) = pic Ly ad cA (wL σ o j v) :=
  pic_set h (by simp only [cE, wL_row]) (fun k d' hk => cE_wL_ne hk)
theorem fs_at {ad : Nat → Nat} {σ : Sg} {o f t : Nat} {ts : List Nat} (h : ts[f]? = some t) : (ts.mapIdx (fun j t => fV ad σ o j t))[f]? = some (fV ad σ o f t) := by simp [h]
theorem fs_set {ad : Nat → Nat} {σ σ' : Sg} {o f t : Nat} {ts : List Nat} {v : Value} (h : ts[f]? = some t) (hv : fV ad σ' o f t = v) (hn : ∀ j t', j ≠ f → fV ad σ' o j t' = fV ad σ o j t') : (ts.mapIdx (fun j t => fV ad σ o j t)).set f v = ts.mapIdx (fun j t => fV ad σ' o j t) := by
  subst hv
  have hl : f < (ts.mapIdx (fun j t => fV ad σ o j t)).length := by simp only [List.length_mapIdx]; exact (List.getElem?_eq_some_iff.mp h).1
  apply List.ext_getElem?
  intro k
  by_cases hk : k = f
  · subst hk
    rw [List.getElem?_set_self hl, fs_at h]
  · rw [List.getElem?_set_ne (Ne.symm hk)]
    simp only [List.getElem?_mapIdx]
    cases ts[k]? with
    | none => rfl
    | some t' => simp only [Option.map_some, hn k t' hk]
theorem fV_wI {ad : Nat → Nat} {σ : Sg} {o f j t : Nat} {v : Int32} (h : j ≠ f) : fV ad (wI σ o f v) o j t = fV ad σ o j t := by
  unfold fV
  split <;> simp [wI, h]
theorem fV_wL {ad : Nat → Nat} {σ : Sg} {o f j t : Nat} {v : Int64} (h : j ≠ f) : fV ad (wL σ o f v) o j t = fV ad σ o j t := by
  unfold fV
  split <;> simp [wL, h]
theorem pic_fI {Ly : List Ds} {ad : Nat → Nat} {cA : Nat → ClassId} {σ : Sg} {o ci f : Nat} {ts : List Nat} {v : Int32} (h : Ly[o]? = some (0, ci, ts)) (hf : ts[f]? = some 0) : (pic Ly ad cA σ).set o (ad o, .inr (ci, (ts.mapIdx (fun j t => fV ad σ o j t)).set f (.int v))) = pic Ly ad cA (wI σ o f v) :=
  pic_set h (by simp only [cE]; rw [fs_set hf (σ' := wI σ o f v) (by simp [fV, wI]) (fun j t' hj => fV_wI hj)]) (fun k d' hk => cE_wI_ne hk)
theorem pic_fL {Ly : List Ds} {ad : Nat → Nat} {cA : Nat → ClassId} {σ : Sg} {o ci f : Nat} {ts : List Nat} {v : Int64} (h : Ly[o]? = some (0, ci, ts)) (hf : ts[f]? = some 1) : (pic Ly ad cA σ).set o (ad o, .inr (ci, (ts.mapIdx (fun j t => fV ad σ o j t)).set f (.long v))) = pic Ly ad cA (wL σ o f v) :=
  pic_set h (by simp only [cE]; rw [fs_set hf (σ' := wL σ o f v) (by simp [fV, wL]) (fun j t' hj => fV_wL hj)]) (fun k d' hk => cE_wL_ne hk)
/-! the words that every method has, the rooms by depth -/
def wsG : List Cond := lw_tbl.filter goodWord
theorem wsG_of {w : Cond} (h : w ∈ lw_tbl) (g : goodWord w = true) : w ∈ wsG := List.mem_filter.mpr ⟨h, g⟩
theorem wsG_in {w : Cond} (h : w ∈ wsG) : w ∈ lw_tbl ∧ goodWord w = true := List.mem_filter.mp h
def rmd (d : Nat) : Room := { frames := d, cells := 0, slots := 0, locals := 60 * d }
/-- a method: its name, code, number of locals, what it returns -/
abbrev Mi : Type := MethodName × ByteArray × Nat × Option FieldType
/-- what is fixed: the launch, the tables' numbers, the addresses, the rows' array kinds, the two tables of Acts, the layout -/
abbrev Gx : Type := Launch × va_G × (Nat → Nat) × (Nat → ClassId) × (Nat × Nat) × List Ds
def gad (G : Gx) : Nat → Nat := G.2.2.1
def gcA (G : Gx) : Nat → ClassId := G.2.2.2.1
def gtM (G : Gx) : Nat := G.2.2.2.2.1.1
def gtG (G : Gx) : Nat := G.2.2.2.2.1.2
def gLy (G : Gx) : List Ds := G.2.2.2.2.2
abbrev gpic (G : Gx) (σ : Sg) : va_W := pic (gLy G) (gad G) (gcA G) σ
abbrev gtys (G : Gx) : List (ClassId × FieldType) := tys (gLy G) (gcA G)

def tbM : Nat → Int32 := fun j => ([0, 0, 0, 3, 0, 0, 0, 0, 0, 1, 1, 0, 1, 3, 2, 1, 1, 0, 1, 1, 0, 1, 1, 0, 1, 1, 0, 1, 1, 0, 1, 0, 0, 1, 0, 0, 1, 0, 0, 1, 0, 0, 1, 0, 0, 1, 1, 0, 1, 1, 1, 1, 0, 0, 1, 1, 0, 1, 1, 1, 1, 0, 0, 1, 5, 2, 1, 2, 0, 1, 2, 2, 1, 2, 0, 6, 1, 0, 1, 0, 0, 2, 0, 0, 1, 0, 0, 1, 0, 0, 4, 0, 0, 4, 1, 0] : List Int32).getD j 0
def tbG : Nat → Int32 := fun j => ([0, 0, 0, 7, 7, 8, 59] : List Int32).getD j 0
/-- the two tables of Acts, where nobody writes -/
def sMG (G : Gx) (A : Nat → Prop) (U : State) (H : Heap) : Prop := va_Z "SideWork$Acts" "MEANINGS" "[I" (.ref (gtM G)) A U H ∧ va_T .int (gtM G) 96 (fun j => .int (tbM j)) A U H ∧ va_Z "SideWork$Acts" "GREATEST" "[I" (.ref (gtG G)) A U H ∧ va_T .int (gtG G) 7 (fun j => .int (tbG j)) A U H
theorem sMG.moved {G : Gx} {A : Nat → Prop} {u U : State} {H : Heap} (hvm : u.vm.Alike U.vm) (h : sMG G A u H) : sMG G A U H := ⟨va_Z.moved hvm h.1, va_T.moved hvm h.2.1, va_Z.moved hvm h.2.2.1, va_T.moved hvm h.2.2.2⟩
theorem sMG.kept {G : Gx} {A : Nat → Prop} {U : State} {H H1 : Heap} (h : sMG G A U H) (hq : ∀ a : Nat, a < H.size → ¬ A a → H1[a]? = H[a]?) : sMG G A U H1 := ⟨h.1.kept hq, h.2.1.kept hq, h.2.2.1.kept hq, h.2.2.2.kept hq⟩
theorem sMG.narrow {G : Gx} {A B : Nat → Prop} {U : State} {H : Heap} (h : sMG G A U H) (hAB : ∀ q, B q → A q) : sMG G B U H := ⟨h.1.narrow hAB, h.2.1.narrow hAB, h.2.2.1.narrow hAB, h.2.2.2.narrow hAB⟩
/-- what holds of the machine all through a method -/
def XC (G : Gx) (M : Mi) (p : Program) (s : State) (m : MethodId) (args : Array Value) (meth : Method) (c : Code) (A : Nat → Prop) : Prop :=
  p.tables.exec = Jvm.exec ∧ c.code = M.2.1 ∧ c.maxLocals = M.2.2.1 ∧ meth.sig.returnType = M.2.2.2 ∧ meth.locks = false ∧ s.vm.findClass M.1.cls = some m.cls ∧ (∀ w ∈ wsG, w.before args s = true) ∧ va_K G.2.1 vwCl (gtys G) s ∧ (∀ q : Nat, s.heap.size ≤ q → A q) ∧ sMG G A s s.heap
/-- a method's end: its answer and its state as Q says -/
def Qx (G : Gx) (Q : Option Value → Sg → Prop) (A : Nat → Prop) : Array Value → State → Outcome → State → Prop := fun _ st oc t =>
  (∃ (v : Option Value) (σ : Sg), oc = .returned v ∧ Q v σ ∧ va_P G.2.1 vwCl (gpic G σ) t.heap ∧ va_K G.2.1 vwCl (gtys G) t ∧ va_D A (gpic G σ)) ∧ va_F A st t
/-- the machine, in the method M at pc, with these locals, this stack and this state, comes to the method's end, and Q holds there -/
def X (G : Gx) (M : Mi) (d pc : Nat) (lv : List (Nat × Value)) (st : List Value) (σ : Sg) (Q : Option Value → Sg → Prop) : Prop :=
  ∀ (p : Program) (e : Env) (s : State) (m : MethodId) (args : Array Value) (below : List Frame) (meth : Method) (c : Code) (A : Nat → Prop), XC G M p s m args meth c A →
    ∀ (H : Heap) (locs : List Loc) (ls : Array Slot), va_P G.2.1 vwCl (gpic G σ) H → va_D A (gpic G σ) → va_S A s.heap H locs → lv_has ls M.2.2.1 lv →
      W p G.1 e (rmd d) s m args below meth c H locs 0 0 (MQ below (Qx G Q A) args s 0 0 A) (F0 m pc ls st)
/-- the method M, called with av in the state σ, returns, and Q holds of its answer and its state -/
def CT (G : Gx) (M : Mi) (d : Nat) (av : List Value) (σ : Sg) (Q : Option Value → Sg → Prop) : Prop :=
  ∀ sz : Nat, Met G.1 M.1 (.code M.1 M.2.1 M.2.2.1 M.2.2.2 :: wsG) (rmd d)
    (va_Pc av (fun U => U.heap.size = sz ∧ va_P G.2.1 vwCl (gpic G σ) U.heap ∧ va_K G.2.1 vwCl (gtys G) U ∧ va_D (fun _ => True) (gpic G σ) ∧ sMG G (va_A (gpic G σ) sz) U U.heap))
    (Qx G Q (va_A (gpic G σ) sz)) 0 0 (va_A (gpic G σ) sz)
section XR
variable {G : Gx} {M : Mi} {d pc : Nat} {lv lv' : List (Nat × Value)} {st : List Value} {σ : Sg} {Q : Option Value → Sg → Prop}
theorem ct_of {av : List Value} (hpl : plainName M.1.cls = true) (hn : (lg_sl av).length ≤ M.2.2.1) (hl : lv_args 0 av = lv) (h : X G M d 0 lv [] σ Q) : CT G M d av σ Q := by
  subst hl
  intro sz
  refine Met.ofW (cc := M.2.1) (maxL := M.2.2.1) (ret := M.2.2.2) hpl rfl ?_
  intro p e s m args below meth c s₁ B hml hv
  obtain ⟨rfl, hsz, hP, hK, hD0, hT⟩ := hv
  have hts := atoms_spec (ws := .code M.1 M.2.1 M.2.2.1 M.2.2.2 :: wsG) B.pre
  subst hsz
  rw [lg_entry_eq]
  exact h p e s m _ below meth c (va_A (gpic G σ) s.heap.size) ⟨B.exec, B.bytes, hml, B.returns, B.notSynchronized, findClass_of_methodNamed B.named, fun w hw => hts w (List.mem_cons_of_mem _ hw), hK, fun q hq => Or.inr hq, hT⟩ s.heap [] _ hP hD0.self va_S.rf (lv_entry av hn)
theorem X.mono {Q' : Option Value → Sg → Prop} (h : X G M d pc lv st σ Q') (hq : ∀ v σ, Q' v σ → Q v σ) : X G M d pc lv st σ Q := by
  intro p e s m args below meth c A C H locs ls hP hD hS hl T hT XX
  obtain ⟨t, a, o, b1, b2, ⟨⟨v, σ', c1, c2, c3⟩, c4⟩, b4⟩ := h p e s m args below meth c A C H locs ls hP hD hS hl T hT XX
  exact ⟨t, a, o, b1, b2, ⟨⟨v, σ', c1, hq v σ' c2, c3⟩, c4⟩, b4⟩
theorem x_sub (ks : List Nat) (hk : lv_pick lv ks = lv') (h : X G M d pc lv' st σ Q) : X G M d pc lv st σ Q := by
  intro p e s m args below meth c A C H locs ls hP hD hS hl
  exact h p e s m args below meth c A C H locs ls hP hD hS (lv_sub hl ks hk)

theorem x_iconst {n : Int} {v : Int32} (hv : Int32.ofInt n = v) (hd : decode M.2.1 pc = .ok (.iconst n, 1)) (k : X G M d (pc + 1) lv (.int v :: st) σ Q) : X G M d pc lv (st) σ Q := by
  intro p e s m args below meth c A C H locs ls hP hD hS hl
  exact lv_iconst C.1 C.2.1 hd hv (k p e s m args below meth c A C H locs ls hP hD hS hl)
theorem x_bipush {n : Int} {v : Int32} (hv : (Int8.ofInt n).toInt32 = v) (hd : decode M.2.1 pc = .ok (.bipush n, 2)) (k : X G M d (pc + 2) lv (.int v :: st) σ Q) : X G M d pc lv (st) σ Q := by
  intro p e s m args below meth c A C H locs ls hP hD hS hl
  exact lv_bipush C.1 C.2.1 hd hv (k p e s m args below meth c A C H locs ls hP hD hS hl)
theorem x_sipush {n : Int} {v : Int32} (hv : (Int16.ofInt n).toInt32 = v) (hd : decode M.2.1 pc = .ok (.sipush n, 3)) (k : X G M d (pc + 3) lv (.int v :: st) σ Q) : X G M d pc lv (st) σ Q := by
  intro p e s m args below meth c A C H locs ls hP hD hS hl
  exact lv_sipush C.1 C.2.1 hd hv (k p e s m args below meth c A C H locs ls hP hD hS hl)
theorem x_lconst {n : Fin 2} {v : Int64} (hv : Int64.ofNat (n : Nat) = v) (hd : decode M.2.1 pc = .ok (.lconst n, 1)) (k : X G M d (pc + 1) lv (.long v :: st) σ Q) : X G M d pc lv (st) σ Q := by
  intro p e s m args below meth c A C H locs ls hP hD hS hl
  exact lv_lconst C.1 C.2.1 hd hv (k p e s m args below meth c A C H locs ls hP hD hS hl)
theorem x_iload_n {kk : Fin 4} {i : Nat} {x : Int32} (hi : (kk : Nat) = i) (j : Nat) (hj : lv[j]? = some (i, .int x)) (hd : decode M.2.1 pc = .ok (.iload_n kk, 1)) (k : X G M d (pc + 1) lv (.int x :: st) σ Q) : X G M d pc lv (st) σ Q := by
  intro p e s m args below meth c A C H locs ls hP hD hS hl
  exact lv_iload_n C.1 C.2.1 hd hi (lv_at hl j hj) (k p e s m args below meth c A C H locs ls hP hD hS hl)
theorem x_iload {i : Nat} {x : Int32} (j : Nat) (hj : lv[j]? = some (i, .int x)) (hd : decode M.2.1 pc = .ok (.iload i, 2)) (k : X G M d (pc + 2) lv (.int x :: st) σ Q) : X G M d pc lv (st) σ Q := by
  intro p e s m args below meth c A C H locs ls hP hD hS hl
  exact lv_iload C.1 C.2.1 hd (lv_at hl j hj) (k p e s m args below meth c A C H locs ls hP hD hS hl)
theorem x_lload_n {kk : Fin 4} {i : Nat} {x : Int64} (hi : (kk : Nat) = i) (j : Nat) (hj : lv[j]? = some (i, .long x)) (hd : decode M.2.1 pc = .ok (.lload_n kk, 1)) (k : X G M d (pc + 1) lv (.long x :: st) σ Q) : X G M d pc lv (st) σ Q := by
  intro p e s m args below meth c A C H locs ls hP hD hS hl
  exact lv_lload_n C.1 C.2.1 hd hi (lv_at hl j hj) (k p e s m args below meth c A C H locs ls hP hD hS hl)
theorem x_lload {i : Nat} {x : Int64} (j : Nat) (hj : lv[j]? = some (i, .long x)) (hd : decode M.2.1 pc = .ok (.lload i, 2)) (k : X G M d (pc + 2) lv (.long x :: st) σ Q) : X G M d pc lv (st) σ Q := by
  intro p e s m args below meth c A C H locs ls hP hD hS hl
  exact lv_lload C.1 C.2.1 hd (lv_at hl j hj) (k p e s m args below meth c A C H locs ls hP hD hS hl)
theorem x_aload_n {kk : Fin 4} {i : Nat} {x : Nat} (hi : (kk : Nat) = i) (j : Nat) (hj : lv[j]? = some (i, .ref x)) (hd : decode M.2.1 pc = .ok (.aload_n kk, 1)) (k : X G M d (pc + 1) lv (.ref x :: st) σ Q) : X G M d pc lv (st) σ Q := by
  intro p e s m args below meth c A C H locs ls hP hD hS hl
  exact lv_aload_n C.1 C.2.1 hd hi (lv_at hl j hj) (k p e s m args below meth c A C H locs ls hP hD hS hl)
theorem x_aload {i : Nat} {x : Nat} (j : Nat) (hj : lv[j]? = some (i, .ref x)) (hd : decode M.2.1 pc = .ok (.aload i, 2)) (k : X G M d (pc + 2) lv (.ref x :: st) σ Q) : X G M d pc lv (st) σ Q := by
  intro p e s m args below meth c A C H locs ls hP hD hS hl
  exact lv_aload C.1 C.2.1 hd (lv_at hl j hj) (k p e s m args below meth c A C H locs ls hP hD hS hl)
theorem x_istore_n {kk : Fin 4} {i : Nat} {x : Int32} (hi : (kk : Nat) = i) (hn : i < M.2.2.1) (hl' : (i, Value.int x) :: lv.filter (fun q => !(q.1 == i) && !(q.1 + 1 == i && q.2.category == 2)) = lv') (hd : decode M.2.1 pc = .ok (.istore_n kk, 1)) (k : X G M d (pc + 1) lv' st σ Q) : X G M d pc lv (.int x :: st) σ Q := by
  intro p e s m args below meth c A C H locs ls hP hD hS hl
  exact lv_istore_n C.1 C.2.1 hd hi hl hn hl' (fun ls' h' => k p e s m args below meth c A C H locs ls' hP hD hS h')
theorem x_istore {i : Nat} {x : Int32} (hn : i < M.2.2.1) (hl' : (i, Value.int x) :: lv.filter (fun q => !(q.1 == i) && !(q.1 + 1 == i && q.2.category == 2)) = lv') (hd : decode M.2.1 pc = .ok (.istore i, 2)) (k : X G M d (pc + 2) lv' st σ Q) : X G M d pc lv (.int x :: st) σ Q := by
  intro p e s m args below meth c A C H locs ls hP hD hS hl
  exact lv_istore C.1 C.2.1 hd hl hn hl' (fun ls' h' => k p e s m args below meth c A C H locs ls' hP hD hS h')
theorem x_astore_n {kk : Fin 4} {i : Nat} {x : Nat} (hi : (kk : Nat) = i) (hn : i < M.2.2.1) (hl' : (i, Value.ref x) :: lv.filter (fun q => !(q.1 == i) && !(q.1 + 1 == i && q.2.category == 2)) = lv') (hd : decode M.2.1 pc = .ok (.astore_n kk, 1)) (k : X G M d (pc + 1) lv' st σ Q) : X G M d pc lv (.ref x :: st) σ Q := by
  intro p e s m args below meth c A C H locs ls hP hD hS hl
  exact lv_astore_n C.1 C.2.1 hd hi hl hn hl' (fun ls' h' => k p e s m args below meth c A C H locs ls' hP hD hS h')
theorem x_astore {i : Nat} {x : Nat} (hn : i < M.2.2.1) (hl' : (i, Value.ref x) :: lv.filter (fun q => !(q.1 == i) && !(q.1 + 1 == i && q.2.category == 2)) = lv') (hd : decode M.2.1 pc = .ok (.astore i, 2)) (k : X G M d (pc + 2) lv' st σ Q) : X G M d pc lv (.ref x :: st) σ Q := by
  intro p e s m args below meth c A C H locs ls hP hD hS hl
  exact lv_astore C.1 C.2.1 hd hl hn hl' (fun ls' h' => k p e s m args below meth c A C H locs ls' hP hD hS h')
theorem x_lstore_n {kk : Fin 4} {i : Nat} {x : Int64} (hi : (kk : Nat) = i) (hn : i + 1 < M.2.2.1) (hl' : (i, Value.long x) :: lv.filter (fun q => !(q.1 == i) && (!(q.1 == i + 1) && !(q.1 + 1 == i && q.2.category == 2))) = lv') (hd : decode M.2.1 pc = .ok (.lstore_n kk, 1)) (k : X G M d (pc + 1) lv' st σ Q) : X G M d pc lv (.long x :: st) σ Q := by
  intro p e s m args below meth c A C H locs ls hP hD hS hl
  exact lv_lstore_n C.1 C.2.1 hd hi hl hn hl' (fun ls' h' => k p e s m args below meth c A C H locs ls' hP hD hS h')
theorem x_lstore {i : Nat} {x : Int64} (hn : i + 1 < M.2.2.1) (hl' : (i, Value.long x) :: lv.filter (fun q => !(q.1 == i) && (!(q.1 == i + 1) && !(q.1 + 1 == i && q.2.category == 2))) = lv') (hd : decode M.2.1 pc = .ok (.lstore i, 2)) (k : X G M d (pc + 2) lv' st σ Q) : X G M d pc lv (.long x :: st) σ Q := by
  intro p e s m args below meth c A C H locs ls hP hD hS hl
  exact lv_lstore C.1 C.2.1 hd hl hn hl' (fun ls' h' => k p e s m args below meth c A C H locs ls' hP hD hS h')
theorem x_iinc {i : Nat} {n : Int} {x v : Int32} (j : Nat) (hj : lv[j]? = some (i, .int x)) (hv : x + Int32.ofInt n = v) (hn : i < M.2.2.1) (hl' : (i, Value.int v) :: lv.filter (fun q => !(q.1 == i) && !(q.1 + 1 == i && q.2.category == 2)) = lv') (hd : decode M.2.1 pc = .ok (.iinc i n, 3)) (k : X G M d (pc + 3) lv' st σ Q) : X G M d pc lv st σ Q := by
  intro p e s m args below meth c A C H locs ls hP hD hS hl
  exact lv_iinc C.1 C.2.1 hd hl hj hv hn hl' (fun ls' h' => k p e s m args below meth c A C H locs ls' hP hD hS h')
theorem x_iadd {x y : Int32} (hd : decode M.2.1 pc = .ok (.iadd, 1)) (k : X G M d (pc + 1) lv (.int (x + y) :: st) σ Q) : X G M d pc lv (.int y :: .int x :: st) σ Q := by
  intro p e s m args below meth c A C H locs ls hP hD hS hl
  exact lv_iadd C.1 C.2.1 hd (k p e s m args below meth c A C H locs ls hP hD hS hl)
theorem x_isub {x y : Int32} (hd : decode M.2.1 pc = .ok (.isub, 1)) (k : X G M d (pc + 1) lv (.int (x - y) :: st) σ Q) : X G M d pc lv (.int y :: .int x :: st) σ Q := by
  intro p e s m args below meth c A C H locs ls hP hD hS hl
  exact lv_isub C.1 C.2.1 hd (k p e s m args below meth c A C H locs ls hP hD hS hl)
theorem x_imul {x y : Int32} (hd : decode M.2.1 pc = .ok (.imul, 1)) (k : X G M d (pc + 1) lv (.int (x * y) :: st) σ Q) : X G M d pc lv (.int y :: .int x :: st) σ Q := by
  intro p e s m args below meth c A C H locs ls hP hD hS hl
  exact lv_imul C.1 C.2.1 hd (k p e s m args below meth c A C H locs ls hP hD hS hl)
theorem x_iand {x y : Int32} (hd : decode M.2.1 pc = .ok (.iand, 1)) (k : X G M d (pc + 1) lv (.int (x &&& y) :: st) σ Q) : X G M d pc lv (.int y :: .int x :: st) σ Q := by
  intro p e s m args below meth c A C H locs ls hP hD hS hl
  exact lv_iand C.1 C.2.1 hd (k p e s m args below meth c A C H locs ls hP hD hS hl)
theorem x_idiv {x y : Int32} (hne : ¬ y = 0) (hd : decode M.2.1 pc = .ok (.idiv, 1)) (k : X G M d (pc + 1) lv (.int (x / y) :: st) σ Q) : X G M d pc lv (.int y :: .int x :: st) σ Q := by
  intro p e s m args below meth c A C H locs ls hP hD hS hl
  exact lv_idiv C.1 C.2.1 hd hne (k p e s m args below meth c A C H locs ls hP hD hS hl)
theorem x_irem {x y : Int32} (hne : ¬ y = 0) (hd : decode M.2.1 pc = .ok (.irem, 1)) (k : X G M d (pc + 1) lv (.int (x - x / y * y) :: st) σ Q) : X G M d pc lv (.int y :: .int x :: st) σ Q := by
  intro p e s m args below meth c A C H locs ls hP hD hS hl
  exact lv_irem C.1 C.2.1 hd hne (k p e s m args below meth c A C H locs ls hP hD hS hl)
theorem x_ineg {x : Int32} (hd : decode M.2.1 pc = .ok (.ineg, 1)) (k : X G M d (pc + 1) lv (.int (-x) :: st) σ Q) : X G M d pc lv (.int x :: st) σ Q := by
  intro p e s m args below meth c A C H locs ls hP hD hS hl
  exact lv_ineg C.1 C.2.1 hd (k p e s m args below meth c A C H locs ls hP hD hS hl)
theorem x_land {x y : Int64} (hd : decode M.2.1 pc = .ok (.land, 1)) (k : X G M d (pc + 1) lv (.long (x &&& y) :: st) σ Q) : X G M d pc lv (.long y :: .long x :: st) σ Q := by
  intro p e s m args below meth c A C H locs ls hP hD hS hl
  exact lv_land C.1 C.2.1 hd (k p e s m args below meth c A C H locs ls hP hD hS hl)
theorem x_lor {x y : Int64} (hd : decode M.2.1 pc = .ok (.lor, 1)) (k : X G M d (pc + 1) lv (.long (x ||| y) :: st) σ Q) : X G M d pc lv (.long y :: .long x :: st) σ Q := by
  intro p e s m args below meth c A C H locs ls hP hD hS hl
  exact lv_lor C.1 C.2.1 hd (k p e s m args below meth c A C H locs ls hP hD hS hl)
theorem x_ladd {x y : Int64} (hd : decode M.2.1 pc = .ok (.ladd, 1)) (k : X G M d (pc + 1) lv (.long (x + y) :: st) σ Q) : X G M d pc lv (.long y :: .long x :: st) σ Q := by
  intro p e s m args below meth c A C H locs ls hP hD hS hl
  exact lv_ladd C.1 C.2.1 hd (k p e s m args below meth c A C H locs ls hP hD hS hl)
theorem x_lsub {x y : Int64} (hd : decode M.2.1 pc = .ok (.lsub, 1)) (k : X G M d (pc + 1) lv (.long (x - y) :: st) σ Q) : X G M d pc lv (.long y :: .long x :: st) σ Q := by
  intro p e s m args below meth c A C H locs ls hP hD hS hl
  exact lv_lsub C.1 C.2.1 hd (k p e s m args below meth c A C H locs ls hP hD hS hl)
theorem x_lshl {x : Int64} {y : Int32} (hd : decode M.2.1 pc = .ok (.lshl, 1)) (k : X G M d (pc + 1) lv (.long (x <<< (y.toInt64 &&& 63)) :: st) σ Q) : X G M d pc lv (.int y :: .long x :: st) σ Q := by
  intro p e s m args below meth c A C H locs ls hP hD hS hl
  exact lv_lshl C.1 C.2.1 hd rfl (k p e s m args below meth c A C H locs ls hP hD hS hl)
theorem x_lshr {x : Int64} {y : Int32} (hd : decode M.2.1 pc = .ok (.lshr, 1)) (k : X G M d (pc + 1) lv (.long (x >>> (y.toInt64 &&& 63)) :: st) σ Q) : X G M d pc lv (.int y :: .long x :: st) σ Q := by
  intro p e s m args below meth c A C H locs ls hP hD hS hl
  exact lv_lshr C.1 C.2.1 hd rfl (k p e s m args below meth c A C H locs ls hP hD hS hl)
theorem x_i2l {x : Int32} (hd : decode M.2.1 pc = .ok (.i2l, 1)) (k : X G M d (pc + 1) lv (.long x.toInt64 :: st) σ Q) : X G M d pc lv (.int x :: st) σ Q := by
  intro p e s m args below meth c A C H locs ls hP hD hS hl
  exact lv_i2l C.1 C.2.1 hd rfl (k p e s m args below meth c A C H locs ls hP hD hS hl)
theorem x_l2i {x : Int64} (hd : decode M.2.1 pc = .ok (.l2i, 1)) (k : X G M d (pc + 1) lv (.int x.toInt32 :: st) σ Q) : X G M d pc lv (.long x :: st) σ Q := by
  intro p e s m args below meth c A C H locs ls hP hD hS hl
  exact lv_l2i C.1 C.2.1 hd rfl (k p e s m args below meth c A C H locs ls hP hD hS hl)
theorem x_lcmp {x y : Int64} (hd : decode M.2.1 pc = .ok (.lcmp, 1)) (k : X G M d (pc + 1) lv (.int (lg_cmp x y) :: st) σ Q) : X G M d pc lv (.long y :: .long x :: st) σ Q := by
  intro p e s m args below meth c A C H locs ls hP hD hS hl
  exact W.lcmp C.1 C.2.1 hd (k p e s m args below meth c A C H locs ls hP hD hS hl)
theorem x_dup {va : Value} (hva : va.category = 1) (hd : decode M.2.1 pc = .ok (.dup, 1)) (k : X G M d (pc + 1) lv (va :: va :: st) σ Q) : X G M d pc lv (va :: st) σ Q := by
  intro p e s m args below meth c A C H locs ls hP hD hS hl
  exact lv_dup C.1 C.2.1 hd hva (k p e s m args below meth c A C H locs ls hP hD hS hl)
theorem x_dup_x1 {va vb : Value} (hva : va.category = 1) (hvb : vb.category = 1) (hd : decode M.2.1 pc = .ok (.dup_x1, 1)) (k : X G M d (pc + 1) lv (va :: vb :: va :: st) σ Q) : X G M d pc lv (va :: vb :: st) σ Q := by
  intro p e s m args below meth c A C H locs ls hP hD hS hl
  exact lv_dup_x1 C.1 C.2.1 hd hva hvb (k p e s m args below meth c A C H locs ls hP hD hS hl)
theorem x_dup2 {va vb : Value} (hva : va.category = 1) (hvb : vb.category = 1) (hd : decode M.2.1 pc = .ok (.dup2, 1)) (k : X G M d (pc + 1) lv (va :: vb :: va :: vb :: st) σ Q) : X G M d pc lv (va :: vb :: st) σ Q := by
  intro p e s m args below meth c A C H locs ls hP hD hS hl
  exact lv_dup2_11 C.1 C.2.1 hd hva hvb (k p e s m args below meth c A C H locs ls hP hD hS hl)
theorem x_pop {va : Value} (hva : va.category = 1) (hd : decode M.2.1 pc = .ok (.pop, 1)) (k : X G M d (pc + 1) lv (st) σ Q) : X G M d pc lv (va :: st) σ Q := by
  intro p e s m args below meth c A C H locs ls hP hD hS hl
  exact lv_pop C.1 C.2.1 hd hva (k p e s m args below meth c A C H locs ls hP hD hS hl)
theorem x_ldc2 {idx : Nat} {v : Int64} (hw : Cond.constantLong M.1.cls idx v ∈ wsG) (hd : decode M.2.1 pc = .ok (.ldc2_w idx, 3)) (k : X G M d (pc + 3) lv (.long v :: st) σ Q) : X G M d pc lv (st) σ Q := by
  intro p e s m args below meth c A C H locs ls hP hD hS hl
  exact lv_ldc2 C.1 C.2.1 C.2.2.2.2.2.1 (C.2.2.2.2.2.2.1 _ hw) hd (k p e s m args below meth c A C H locs ls hP hD hS hl)
theorem x_ldc {idx : Nat} {v : Int32} (hw : Cond.constant M.1.cls idx v ∈ wsG) (hd : decode M.2.1 pc = .ok (.ldc idx, 2)) (k : X G M d (pc + 2) lv (.int v :: st) σ Q) : X G M d pc lv (st) σ Q := by
  intro p e s m args below meth c A C H locs ls hP hD hS hl
  exact lv_ldc C.1 C.2.1 C.2.2.2.2.2.1 (C.2.2.2.2.2.2.1 _ hw) hd (k p e s m args below meth c A C H locs ls hP hD hS hl)
theorem x_if_eq {x : Int32} {off : Int} (tgt : Nat) (ht : (pc : Int) + off = (tgt : Int)) (hd : decode M.2.1 pc = .ok (.ifCond .eq off, 3)) (kt : x = 0 → X G M d tgt lv st σ Q) (kf : ¬ (x = 0) → X G M d (pc + 3) lv st σ Q) : X G M d pc lv (.int x :: st) σ Q := by
  intro p e s m args below meth c A C H locs ls hP hD hS hl
  exact lv_if_eq C.1 C.2.1 hd ht (fun h => kt (by first | exact h | simpa using h) p e s m args below meth c A C H locs ls hP hD hS hl) (fun h => kf (by first | exact h | simpa using h) p e s m args below meth c A C H locs ls hP hD hS hl)
theorem x_if_ne {x : Int32} {off : Int} (tgt : Nat) (ht : (pc : Int) + off = (tgt : Int)) (hd : decode M.2.1 pc = .ok (.ifCond .ne off, 3)) (kt : ¬ x = 0 → X G M d tgt lv st σ Q) (kf : ¬ (¬ x = 0) → X G M d (pc + 3) lv st σ Q) : X G M d pc lv (.int x :: st) σ Q := by
  intro p e s m args below meth c A C H locs ls hP hD hS hl
  exact lv_if_ne C.1 C.2.1 hd ht (fun h => kt (by first | exact h | simpa using h) p e s m args below meth c A C H locs ls hP hD hS hl) (fun h => kf (by first | exact h | simpa using h) p e s m args below meth c A C H locs ls hP hD hS hl)
theorem x_if_lt {x : Int32} {off : Int} (tgt : Nat) (ht : (pc : Int) + off = (tgt : Int)) (hd : decode M.2.1 pc = .ok (.ifCond .lt off, 3)) (kt : x < 0 → X G M d tgt lv st σ Q) (kf : ¬ (x < 0) → X G M d (pc + 3) lv st σ Q) : X G M d pc lv (.int x :: st) σ Q := by
  intro p e s m args below meth c A C H locs ls hP hD hS hl
  exact lv_if_lt C.1 C.2.1 hd ht (fun h => kt (by first | exact h | simpa using h) p e s m args below meth c A C H locs ls hP hD hS hl) (fun h => kf (by first | exact h | simpa using h) p e s m args below meth c A C H locs ls hP hD hS hl)
theorem x_if_ge {x : Int32} {off : Int} (tgt : Nat) (ht : (pc : Int) + off = (tgt : Int)) (hd : decode M.2.1 pc = .ok (.ifCond .ge off, 3)) (kt : 0 ≤ x → X G M d tgt lv st σ Q) (kf : ¬ (0 ≤ x) → X G M d (pc + 3) lv st σ Q) : X G M d pc lv (.int x :: st) σ Q := by
  intro p e s m args below meth c A C H locs ls hP hD hS hl
  exact lv_if_ge C.1 C.2.1 hd ht (fun h => kt (by first | exact h | simpa using h) p e s m args below meth c A C H locs ls hP hD hS hl) (fun h => kf (by first | exact h | simpa using h) p e s m args below meth c A C H locs ls hP hD hS hl)
theorem x_if_gt {x : Int32} {off : Int} (tgt : Nat) (ht : (pc : Int) + off = (tgt : Int)) (hd : decode M.2.1 pc = .ok (.ifCond .gt off, 3)) (kt : 0 < x → X G M d tgt lv st σ Q) (kf : ¬ (0 < x) → X G M d (pc + 3) lv st σ Q) : X G M d pc lv (.int x :: st) σ Q := by
  intro p e s m args below meth c A C H locs ls hP hD hS hl
  exact lv_if_gt C.1 C.2.1 hd ht (fun h => kt (by first | exact h | simpa using h) p e s m args below meth c A C H locs ls hP hD hS hl) (fun h => kf (by first | exact h | simpa using h) p e s m args below meth c A C H locs ls hP hD hS hl)
theorem x_if_le {x : Int32} {off : Int} (tgt : Nat) (ht : (pc : Int) + off = (tgt : Int)) (hd : decode M.2.1 pc = .ok (.ifCond .le off, 3)) (kt : x ≤ 0 → X G M d tgt lv st σ Q) (kf : ¬ (x ≤ 0) → X G M d (pc + 3) lv st σ Q) : X G M d pc lv (.int x :: st) σ Q := by
  intro p e s m args below meth c A C H locs ls hP hD hS hl
  exact lv_if_le C.1 C.2.1 hd ht (fun h => kt (by first | exact h | simpa using h) p e s m args below meth c A C H locs ls hP hD hS hl) (fun h => kf (by first | exact h | simpa using h) p e s m args below meth c A C H locs ls hP hD hS hl)
theorem x_icmp_eq {x y : Int32} {off : Int} (tgt : Nat) (ht : (pc : Int) + off = (tgt : Int)) (hd : decode M.2.1 pc = .ok (.if_icmp .eq off, 3)) (kt : x = y → X G M d tgt lv st σ Q) (kf : ¬ (x = y) → X G M d (pc + 3) lv st σ Q) : X G M d pc lv (.int y :: .int x :: st) σ Q := by
  intro p e s m args below meth c A C H locs ls hP hD hS hl
  exact lv_icmp_eq C.1 C.2.1 hd ht (fun h => kt (by first | exact h | simpa using h) p e s m args below meth c A C H locs ls hP hD hS hl) (fun h => kf (by first | exact h | simpa using h) p e s m args below meth c A C H locs ls hP hD hS hl)
theorem x_icmp_ne {x y : Int32} {off : Int} (tgt : Nat) (ht : (pc : Int) + off = (tgt : Int)) (hd : decode M.2.1 pc = .ok (.if_icmp .ne off, 3)) (kt : ¬ x = y → X G M d tgt lv st σ Q) (kf : ¬ (¬ x = y) → X G M d (pc + 3) lv st σ Q) : X G M d pc lv (.int y :: .int x :: st) σ Q := by
  intro p e s m args below meth c A C H locs ls hP hD hS hl
  exact lv_icmp_ne C.1 C.2.1 hd ht (fun h => kt (by first | exact h | simpa using h) p e s m args below meth c A C H locs ls hP hD hS hl) (fun h => kf (by first | exact h | simpa using h) p e s m args below meth c A C H locs ls hP hD hS hl)
theorem x_icmp_lt {x y : Int32} {off : Int} (tgt : Nat) (ht : (pc : Int) + off = (tgt : Int)) (hd : decode M.2.1 pc = .ok (.if_icmp .lt off, 3)) (kt : x < y → X G M d tgt lv st σ Q) (kf : ¬ (x < y) → X G M d (pc + 3) lv st σ Q) : X G M d pc lv (.int y :: .int x :: st) σ Q := by
  intro p e s m args below meth c A C H locs ls hP hD hS hl
  exact lv_icmp_lt C.1 C.2.1 hd ht (fun h => kt (by first | exact h | simpa using h) p e s m args below meth c A C H locs ls hP hD hS hl) (fun h => kf (by first | exact h | simpa using h) p e s m args below meth c A C H locs ls hP hD hS hl)
theorem x_icmp_ge {x y : Int32} {off : Int} (tgt : Nat) (ht : (pc : Int) + off = (tgt : Int)) (hd : decode M.2.1 pc = .ok (.if_icmp .ge off, 3)) (kt : y ≤ x → X G M d tgt lv st σ Q) (kf : ¬ (y ≤ x) → X G M d (pc + 3) lv st σ Q) : X G M d pc lv (.int y :: .int x :: st) σ Q := by
  intro p e s m args below meth c A C H locs ls hP hD hS hl
  exact lv_icmp_ge C.1 C.2.1 hd ht (fun h => kt (by first | exact h | simpa using h) p e s m args below meth c A C H locs ls hP hD hS hl) (fun h => kf (by first | exact h | simpa using h) p e s m args below meth c A C H locs ls hP hD hS hl)
theorem x_icmp_gt {x y : Int32} {off : Int} (tgt : Nat) (ht : (pc : Int) + off = (tgt : Int)) (hd : decode M.2.1 pc = .ok (.if_icmp .gt off, 3)) (kt : y < x → X G M d tgt lv st σ Q) (kf : ¬ (y < x) → X G M d (pc + 3) lv st σ Q) : X G M d pc lv (.int y :: .int x :: st) σ Q := by
  intro p e s m args below meth c A C H locs ls hP hD hS hl
  exact lv_icmp_gt C.1 C.2.1 hd ht (fun h => kt (by first | exact h | simpa using h) p e s m args below meth c A C H locs ls hP hD hS hl) (fun h => kf (by first | exact h | simpa using h) p e s m args below meth c A C H locs ls hP hD hS hl)
theorem x_icmp_le {x y : Int32} {off : Int} (tgt : Nat) (ht : (pc : Int) + off = (tgt : Int)) (hd : decode M.2.1 pc = .ok (.if_icmp .le off, 3)) (kt : x ≤ y → X G M d tgt lv st σ Q) (kf : ¬ (x ≤ y) → X G M d (pc + 3) lv st σ Q) : X G M d pc lv (.int y :: .int x :: st) σ Q := by
  intro p e s m args below meth c A C H locs ls hP hD hS hl
  exact lv_icmp_le C.1 C.2.1 hd ht (fun h => kt (by first | exact h | simpa using h) p e s m args below meth c A C H locs ls hP hD hS hl) (fun h => kf (by first | exact h | simpa using h) p e s m args below meth c A C H locs ls hP hD hS hl)
theorem x_goto {off : Int} (tgt : Nat) (ht : (pc : Int) + off = (tgt : Int)) (hd : decode M.2.1 pc = .ok (.goto off, 3)) (k : X G M d tgt lv st σ Q) : X G M d pc lv st σ Q := by
  intro p e s m args below meth c A C H locs ls hP hD hS hl
  exact lv_goto C.1 C.2.1 hd ht (k p e s m args below meth c A C H locs ls hP hD hS hl)
theorem x_tblIn {x : Int32} {dflt lo hi off : Int} {offs : Array Int} {len : Nat} (v : Int32) (tgt : Nat) (hx : x = v) (hd : decode M.2.1 pc = .ok (.tableswitch dflt lo hi offs, len)) (h1 : ¬ v.toInt < lo) (h2 : ¬ hi < v.toInt) (ho : offs[(v.toInt - lo).toNat]? = some off) (ht : (pc : Int) + off = (tgt : Int)) (k : X G M d tgt lv st σ Q) : X G M d pc lv (.int x :: st) σ Q := by
  subst hx
  intro p e s m args below meth c A C H locs ls hP hD hS hl
  exact lv_tableIn C.1 C.2.1 hd h1 h2 ho ht (k p e s m args below meth c A C H locs ls hP hD hS hl)
theorem tbl_out {x : Int32} {lo hi : Int} (vs : List Int32) (hv : ∀ i : Int, lo ≤ i → i ≤ hi → Int32.ofInt i ∈ vs) (h : ∀ v ∈ vs, ¬ x = v) : x.toInt < lo ∨ hi < x.toInt := by
  by_cases h1 : x.toInt < lo
  · exact Or.inl h1
  · by_cases h2 : hi < x.toInt
    · exact Or.inr h2
    · have := hv x.toInt (by omega) (by omega)
      rw [Int32.ofInt_toInt] at this
      exact absurd rfl (h x this)
theorem tbl_vs {lo hi : Int} {vs : List Int32} (n : Nat) (hn : lo + n = hi + 1) (h : (List.range n).all (fun k => decide (Int32.ofInt (lo + k) ∈ vs)) = true) : ∀ i : Int, lo ≤ i → i ≤ hi → Int32.ofInt i ∈ vs := by
  intro i h1 h2
  have := List.all_eq_true.mp h (i - lo).toNat (List.mem_range.mpr (by omega))
  have e : lo + ((i - lo).toNat : Int) = i := by omega
  have this := of_decide_eq_true this
  rwa [e] at this
theorem x_tblOut {x : Int32} {dflt lo hi : Int} {offs : Array Int} {len : Nat} (vs : List Int32) (n tgt : Nat) (hn : lo + n = hi + 1) (hv : (List.range n).all (fun k => decide (Int32.ofInt (lo + k) ∈ vs)) = true) (hx : ∀ v ∈ vs, ¬ x = v) (hd : decode M.2.1 pc = .ok (.tableswitch dflt lo hi offs, len)) (ht : (pc : Int) + dflt = (tgt : Int)) (k : X G M d tgt lv st σ Q) : X G M d pc lv (.int x :: st) σ Q := by
  intro p e s m args below meth c A C H locs ls hP hD hS hl
  exact lv_tableOut C.1 C.2.1 hd (tbl_out vs (tbl_vs n hn hv) hx) ht (k p e s m args below meth c A C H locs ls hP hD hS hl)
theorem x_lookIn {x : Int32} {dflt off : Int} {ps : Array (Int × Int)} {len : Nat} (v : Int32) (tgt : Nat) (hx : x = v) (hd : decode M.2.1 pc = .ok (.lookupswitch dflt ps, len)) (hp : (ps.toList.zip (ps.toList.drop 1)).all (fun (a, next) => a.1 < next.1) = true) (ho : Op.lookupswitch.offset ps.toList dflt v.toInt = off) (ht : (pc : Int) + off = (tgt : Int)) (k : X G M d tgt lv st σ Q) : X G M d pc lv (.int x :: st) σ Q := by
  subst hx
  intro p e s m args below meth c A C H locs ls hP hD hS hl
  exact lv_lookup C.1 C.2.1 hd hp ho ht (k p e s m args below meth c A C H locs ls hP hD hS hl)
theorem x_lookOut {x : Int32} {dflt : Int} {ps : Array (Int × Int)} {len : Nat} (tgt : Nat) (hd : decode M.2.1 pc = .ok (.lookupswitch dflt ps, len)) (hp : (ps.toList.zip (ps.toList.drop 1)).all (fun (a, next) => a.1 < next.1) = true) (ho : Op.lookupswitch.offset ps.toList dflt x.toInt = dflt) (ht : (pc : Int) + dflt = (tgt : Int)) (k : X G M d tgt lv st σ Q) : X G M d pc lv (.int x :: st) σ Q := by
  intro p e s m args below meth c A C H locs ls hP hD hS hl
  exact lv_lookup C.1 C.2.1 hd hp ho ht (k p e s m args below meth c A C H locs ls hP hD hS hl)
/-- a class of the layout: its place in vwCl, its fields' words, types, names -/
def KC (ci : Nat) (C : String) (T : u_T) (N : Nat) (ty : Nat → FieldType) : Prop := vwCl[ci]? = some (C, T, N) ∧ (∀ w ∈ u_ws C T N, w ∈ wsG) ∧ (∀ k, k < N → parseFieldDescriptor (T k).2.2.1 = some (ty k)) ∧ (∀ a, a < N → ∀ b, b < N → a ≠ b → (T a).2.1 ≠ (T b).2.1)
/-- the field f, of kind t, of the object at o, as the entry idx of own names it -/
def FG (Ly : List Ds) (own : String) (idx o f t : Nat) : Prop := ∃ (ci : Nat) (C : String) (T : u_T) (N : Nat) (ty : Nat → FieldType) (ts : List Nat), KC ci C T N ty ∧ Ly[o]? = some (0, ci, ts) ∧ ts[f]? = some t ∧ f < N ∧ Cond.fieldLink own idx (T f).1 (T f).2.1 (T f).2.2.1 ∈ wsG
def FP (Ly : List Ds) (own : String) (idx o f t : Nat) : Prop := ∃ (ci : Nat) (C : String) (T : u_T) (N : Nat) (ty : Nat → FieldType) (ts : List Nat), KC ci C T N ty ∧ Ly[o]? = some (0, ci, ts) ∧ ts[f]? = some t ∧ f < N ∧ Cond.fieldLink own idx (T f).1 (T f).2.1 (T f).2.2.1 ∈ wsG ∧ (T f).2.2.2 = false ∧ ty f = (if t = 0 then .int else .long)
theorem x_get {Ly : List Ds} {idx o f t : Nat} (hG : gLy G = Ly) (hs : FG Ly M.1.cls idx o f t) (hd : decode M.2.1 pc = .ok (.getfield idx, 3)) (k : X G M d (pc + 3) lv (fV (gad G) σ o f t :: st) σ Q) : X G M d pc lv (.ref (gad G o) :: st) σ Q := by
  obtain ⟨ci, C', T, N, ty, ts, ⟨k1, k2, k3, k4⟩, h1, h2, h3, h4⟩ := hs
  subst hG
  intro p e s m args below meth c A C H locs ls hP hD hS hl
  exact va_get C.1 C.2.1 C.2.2.2.2.2.2.1 k2 C.2.2.2.2.2.1 C.2.2.2.2.2.2.2.1 hP o (pic_at h1) k1 f h3 (C.2.2.2.2.2.2.1 _ h4) (fun _ h => h) (fs_at h2) hd (k p e s m args below meth c A C H locs ls hP hD hS hl)
theorem x_getI {Ly : List Ds} {idx o f : Nat} (hG : gLy G = Ly) (hs : FG Ly M.1.cls idx o f 0) (hd : decode M.2.1 pc = .ok (.getfield idx, 3)) (k : X G M d (pc + 3) lv (.int (sI σ o f) :: st) σ Q) : X G M d pc lv (.ref (gad G o) :: st) σ Q := x_get hG hs hd k
theorem x_getL {Ly : List Ds} {idx o f : Nat} (hG : gLy G = Ly) (hs : FG Ly M.1.cls idx o f 1) (hd : decode M.2.1 pc = .ok (.getfield idx, 3)) (k : X G M d (pc + 3) lv (.long (sL σ o f) :: st) σ Q) : X G M d pc lv (.ref (gad G o) :: st) σ Q := x_get hG hs hd k
theorem x_getR {Ly : List Ds} {idx o f q : Nat} (hG : gLy G = Ly) (hs : FG Ly M.1.cls idx o f (q + 2)) (hd : decode M.2.1 pc = .ok (.getfield idx, 3)) (k : X G M d (pc + 3) lv (.ref (gad G q) :: st) σ Q) : X G M d pc lv (.ref (gad G o) :: st) σ Q := x_get hG hs hd k
theorem x_putI {Ly : List Ds} {idx o f : Nat} {v : Int32} (hG : gLy G = Ly) (hs : FP Ly M.1.cls idx o f 0) (hd : decode M.2.1 pc = .ok (.putfield idx, 3)) (k : X G M d (pc + 3) lv st (wI σ o f v) Q) : X G M d pc lv (.int v :: .ref (gad G o) :: st) σ Q := by
  obtain ⟨ci, C', T, N, ty, ts, ⟨k1, k2, k3, k4⟩, h1, h2, h3, h4, h5, h6⟩ := hs
  subst hG
  intro p e s m args below meth c A C H locs ls hP hD hS hl
  refine va_put C.1 C.2.1 C.2.2.2.2.2.2.1 k2 ty k3 k4 C.2.2.2.2.2.1 C.2.2.2.2.2.2.2.1 hP hD hS o (pic_at h1) k1 f h3 (C.2.2.2.2.2.2.1 _ h4) (fun _ h => h) h5 (ty := .int) (by rw [k3 f h3, h6]; rfl) rfl rfl (by rw [List.length_mapIdx]; exact (List.getElem?_eq_some_iff.mp h2).1) hd (fun H1 locs1 hP1 hD1 hS1 => ?_)
  rw [pic_fI h1 h2] at hP1 hD1
  exact k p e s m args below meth c A C H1 locs1 ls hP1 hD1 hS1 hl
theorem x_putL {Ly : List Ds} {idx o f : Nat} {v : Int64} (hG : gLy G = Ly) (hs : FP Ly M.1.cls idx o f 1) (hd : decode M.2.1 pc = .ok (.putfield idx, 3)) (k : X G M d (pc + 3) lv st (wL σ o f v) Q) : X G M d pc lv (.long v :: .ref (gad G o) :: st) σ Q := by
  obtain ⟨ci, C', T, N, ty, ts, ⟨k1, k2, k3, k4⟩, h1, h2, h3, h4, h5, h6⟩ := hs
  subst hG
  intro p e s m args below meth c A C H locs ls hP hD hS hl
  refine va_put C.1 C.2.1 C.2.2.2.2.2.2.1 k2 ty k3 k4 C.2.2.2.2.2.1 C.2.2.2.2.2.2.2.1 hP hD hS o (pic_at h1) k1 f h3 (C.2.2.2.2.2.2.1 _ h4) (fun _ h => h) h5 (ty := .long) (by rw [k3 f h3, h6]; rfl) rfl rfl (by rw [List.length_mapIdx]; exact (List.getElem?_eq_some_iff.mp h2).1) hd (fun H1 locs1 hP1 hD1 hS1 => ?_)
  rw [pic_fL h1 h2] at hP1 hD1
  exact k p e s m args below meth c A C H1 locs1 ls hP1 hD1 hS1 hl
theorem x_iald {Ly : List Ds} {o n : Nat} {x : List Nat} {i : Int32} (hG : gLy G = Ly) (ho : Ly[o]? = some (1, n, x)) (hd : decode M.2.1 pc = .ok (.iaload, 1)) (hin : vp_in i n) (k : X G M d (pc + 1) lv (.int (sI σ o i.toNatClampNeg) :: st) σ Q) : X G M d pc lv (.int i :: .ref (gad G o) :: st) σ Q := by
  subst hG
  intro p e s m args below meth c A C H locs ls hP hD hS hl
  exact va_iald C.1 C.2.1 C.2.2.2.2.2.2.2.1 hP o o (pic_at ho) (tys_at ho) hin hd (k p e s m args below meth c A C H locs ls hP hD hS hl)
theorem x_lald {Ly : List Ds} {o n : Nat} {x : List Nat} {i : Int32} (hG : gLy G = Ly) (ho : Ly[o]? = some (2, n, x)) (hd : decode M.2.1 pc = .ok (.laload, 1)) (hin : vp_in i n) (k : X G M d (pc + 1) lv (.long (sL σ o i.toNatClampNeg) :: st) σ Q) : X G M d pc lv (.int i :: .ref (gad G o) :: st) σ Q := by
  subst hG
  intro p e s m args below meth c A C H locs ls hP hD hS hl
  exact va_lald C.1 C.2.1 C.2.2.2.2.2.2.2.1 hP o o (pic_at ho) (tys_at ho) hin hd (k p e s m args below meth c A C H locs ls hP hD hS hl)
theorem x_iast {Ly : List Ds} {o n : Nat} {x : List Nat} {i v : Int32} (hG : gLy G = Ly) (ho : Ly[o]? = some (1, n, x)) (hd : decode M.2.1 pc = .ok (.iastore, 1)) (hin : vp_in i n) (k : X G M d (pc + 1) lv st (wI σ o i.toNatClampNeg v) Q) : X G M d pc lv (.int v :: .int i :: .ref (gad G o) :: st) σ Q := by
  subst hG
  intro p e s m args below meth c A C H locs ls hP hD hS hl
  refine va_iast C.1 C.2.1 C.2.2.2.2.2.2.2.1 hP hD hS o o (pic_at ho) (tys_at ho) hin hd (fun H1 locs1 hP1 hD1 hS1 => ?_)
  rw [pic_aI ho] at hP1 hD1
  exact k p e s m args below meth c A C H1 locs1 ls hP1 hD1 hS1 hl
theorem x_last {Ly : List Ds} {o n : Nat} {x : List Nat} {i : Int32} {v : Int64} (hG : gLy G = Ly) (ho : Ly[o]? = some (2, n, x)) (hd : decode M.2.1 pc = .ok (.lastore, 1)) (hin : vp_in i n) (k : X G M d (pc + 1) lv st (wL σ o i.toNatClampNeg v) Q) : X G M d pc lv (.long v :: .int i :: .ref (gad G o) :: st) σ Q := by
  subst hG
  intro p e s m args below meth c A C H locs ls hP hD hS hl
  refine va_last C.1 C.2.1 C.2.2.2.2.2.2.2.1 hP hD hS o o (pic_at ho) (tys_at ho) hin hd (fun H1 locs1 hP1 hD1 hS1 => ?_)
  rw [pic_aL ho] at hP1 hD1
  exact k p e s m args below meth c A C H1 locs1 ls hP1 hD1 hS1 hl
theorem x_alenI {Ly : List Ds} {o n : Nat} {x : List Nat} {v : Int32} (hG : gLy G = Ly) (ho : Ly[o]? = some (1, n, x)) (hv : Int32.ofNat n = v) (hd : decode M.2.1 pc = .ok (.arraylength, 1)) (k : X G M d (pc + 1) lv (.int v :: st) σ Q) : X G M d pc lv (.ref (gad G o) :: st) σ Q := by
  subst hG
  intro p e s m args below meth c A C H locs ls hP hD hS hl
  exact va_alen C.1 C.2.1 C.2.2.2.2.2.2.2.1 hP o o (pic_at ho) (tys_at ho) hv hd (k p e s m args below meth c A C H locs ls hP hD hS hl)
theorem x_alenL {Ly : List Ds} {o n : Nat} {x : List Nat} {v : Int32} (hG : gLy G = Ly) (ho : Ly[o]? = some (2, n, x)) (hv : Int32.ofNat n = v) (hd : decode M.2.1 pc = .ok (.arraylength, 1)) (k : X G M d (pc + 1) lv (.int v :: st) σ Q) : X G M d pc lv (.ref (gad G o) :: st) σ Q := by
  subst hG
  intro p e s m args below meth c A C H locs ls hP hD hS hl
  exact va_alen C.1 C.2.1 C.2.2.2.2.2.2.2.1 hP o o (pic_at ho) (tys_at ho) hv hd (k p e s m args below meth c A C H locs ls hP hD hS hl)
theorem x_getsM {idx : Nat} (hw : Cond.fieldLink M.1.cls idx "SideWork$Acts" "MEANINGS" "[I" ∈ wsG) (hd : decode M.2.1 pc = .ok (.getstatic idx, 3)) (k : X G M d (pc + 3) lv (.ref (gtM G) :: st) σ Q) : X G M d pc lv st σ Q := by
  intro p e s m args below meth c A C H locs ls hP hD hS hl
  exact va_gets C.1 C.2.1 C.2.2.2.2.2.2.2.2.2.1 hS C.2.2.2.2.2.1 (C.2.2.2.2.2.2.1 _ hw) (fun _ h => h) hd (k p e s m args below meth c A C H locs ls hP hD hS hl)
theorem x_getsG {idx : Nat} (hw : Cond.fieldLink M.1.cls idx "SideWork$Acts" "GREATEST" "[I" ∈ wsG) (hd : decode M.2.1 pc = .ok (.getstatic idx, 3)) (k : X G M d (pc + 3) lv (.ref (gtG G) :: st) σ Q) : X G M d pc lv st σ Q := by
  intro p e s m args below meth c A C H locs ls hP hD hS hl
  exact va_gets C.1 C.2.1 C.2.2.2.2.2.2.2.2.2.2.2.1 hS C.2.2.2.2.2.1 (C.2.2.2.2.2.2.1 _ hw) (fun _ h => h) hd (k p e s m args below meth c A C H locs ls hP hD hS hl)
theorem x_tbM {i : Int32} (hd : decode M.2.1 pc = .ok (.iaload, 1)) (hin : vp_in i 96) (k : X G M d (pc + 1) lv (.int (tbM i.toNatClampNeg) :: st) σ Q) : X G M d pc lv (.int i :: .ref (gtM G) :: st) σ Q := by
  intro p e s m args below meth c A C H locs ls hP hD hS hl
  exact va_ti C.1 C.2.1 C.2.2.2.2.2.2.2.2.2.2.1 hS hin rfl hd (k p e s m args below meth c A C H locs ls hP hD hS hl)
theorem x_tbG {i : Int32} (hd : decode M.2.1 pc = .ok (.iaload, 1)) (hin : vp_in i 7) (k : X G M d (pc + 1) lv (.int (tbG i.toNatClampNeg) :: st) σ Q) : X G M d pc lv (.int i :: .ref (gtG G) :: st) σ Q := by
  intro p e s m args below meth c A C H locs ls hP hD hS hl
  exact va_ti C.1 C.2.1 C.2.2.2.2.2.2.2.2.2.2.2.2 hS hin rfl hd (k p e s m args below meth c A C H locs ls hP hD hS hl)
theorem x_iret {v : Int32} (hr : M.2.2.2 = some .int) (hd : decode M.2.1 pc = .ok (.ireturn, 1)) (hq : Q (some (.int v)) σ) : X G M d pc lv [.int v] σ Q := by
  intro p e s m args below meth c A C H locs ls hP hD hS hl
  exact W.iret C.1 C.2.1 (C.2.2.2.1.trans hr) (fun t ht hw => ⟨⟨_, σ, rfl, hq, by rw [ht]; exact hP, va_K.moved hw.alike C.2.2.2.2.2.2.2.1, hD⟩, hS.F ht⟩) hS.2.2 hd C.2.2.2.2.1
theorem x_zret {v : Int32} (hr : M.2.2.2 = some .boolean) (hn : narrow .boolean (.int v) = .int v) (hd : decode M.2.1 pc = .ok (.ireturn, 1)) (hq : Q (some (.int v)) σ) : X G M d pc lv [.int v] σ Q := by
  intro p e s m args below meth c A C H locs ls hP hD hS hl
  exact W.zret C.1 C.2.1 (C.2.2.2.1.trans hr) hn (fun t ht hw => ⟨⟨_, σ, rfl, hq, by rw [ht]; exact hP, va_K.moved hw.alike C.2.2.2.2.2.2.2.1, hD⟩, hS.F ht⟩) hS.2.2 hd C.2.2.2.2.1
theorem x_lret {v : Int64} (hr : M.2.2.2 = some .long) (hd : decode M.2.1 pc = .ok (.lreturn, 1)) (hq : Q (some (.long v)) σ) : X G M d pc lv [.long v] σ Q := by
  intro p e s m args below meth c A C H locs ls hP hD hS hl
  exact W.lret C.1 C.2.1 (C.2.2.2.1.trans hr) (fun t ht hw => ⟨⟨_, σ, rfl, hq, by rw [ht]; exact hP, va_K.moved hw.alike C.2.2.2.2.2.2.2.1, hD⟩, hS.F ht⟩) hS.2.2 hd C.2.2.2.2.1
theorem x_vret (hr : M.2.2.2 = none) (hd : decode M.2.1 pc = .ok (.return_, 1)) (hq : Q none σ) : X G M d pc lv [] σ Q := by
  intro p e s m args below meth c A C H locs ls hP hD hS hl
  exact W.vret C.1 C.2.1 (C.2.2.2.1.trans hr) (fun t ht hw => ⟨⟨_, σ, rfl, hq, by rw [ht]; exact hP, va_K.moved hw.alike C.2.2.2.2.2.2.2.1, hD⟩, hS.F ht⟩) hS.2.2 hd C.2.2.2.2.1
/-! calls -/
def MK (M' : Mi) (n : Nat) : Prop := (M'.1.cls ≠ "java/lang/invoke/MethodHandle" ∧ M'.1.cls ≠ "java/lang/invoke/VarHandle" ∧ (parseMethodDescriptor M'.1.desc).map (fun d => d.parameters.length) = some n) ∧ Cond.code M'.1 M'.2.1 M'.2.2.1 M'.2.2.2 ∈ wsG ∧ Cond.initialized M'.1.cls ∈ wsG
def MV (M' : Mi) (n : Nat) : Prop := MK M' n ∧ Cond.instanceMethod M'.1 ∈ wsG ∧ Cond.selects M'.1.cls M'.1 M'.1 ∈ wsG
def MS (M' : Mi) (n : Nat) : Prop := MK M' n ∧ Cond.static M'.1 ∈ wsG
theorem goodG {ws : List Cond} (h : ∀ w ∈ ws, w ∈ wsG) : GoodIn wsG ws := fun w hw => ⟨h w hw, good_of_word (wsG_in (h w hw)).2⟩
theorem x_back {p : Program} {e : Env} {s : State} {m : MethodId} {args : Array Value} {below : List Frame} {meth : Method} {c : Code} {A : Nat → Prop} {H : Heap} {locs : List Loc} {ls : Array Slot} {Q' : Option Value → Sg → Prop} {a : Array Value} {rest stk : List Value}
    (C : XC G M p s m args meth c A) (hP : va_P G.2.1 vwCl (gpic G σ) H) (hD : va_D A (gpic G σ)) (hS : va_S A s.heap H locs) (hl : lv_has ls M.2.2.1 lv)
    (hr : va_Run p G.1 e (rmd d) s m args below meth c H locs 0 0 0 0 (F0 m pc ls stk) rest (Qx G Q' (va_A (gpic G σ) H.size) a) (va_A (gpic G σ) H.size))
    (k : ∀ (v : Option Value) (σ' : Sg), Q' v σ' → X G M d (pc + 3) lv (v.toList ++ rest) σ' Q) :
    W p G.1 e (rmd d) s m args below meth c H locs 0 0 (MQ below (Qx G Q A) args s 0 0 A) (F0 m pc ls stk) := by
  have hF : ∀ q, va_A (gpic G σ) H.size q → A q := by
    intro q h
    rcases h with ⟨i, e', h⟩ | h
    · exact hD.2 i (q, e') h
    · exact C.2.2.2.2.2.2.2.2.1 q (Nat.le_trans hS.1 h)
  intro T hT XX
  obtain ⟨v, st₀, t, T', L, h0, X', hL, e1, e2, ⟨⟨v', σ', hv, hq, hP1, hK1, hD1⟩, hz, hk⟩, stp⟩ := hr T hT XX
  cases hv
  rw [h0] at hz hk
  have hS1 : va_S A s.heap T'.heap (locs ++ L) := ⟨Nat.le_trans hS.1 (by rw [e1]; exact hz), fun q h1 h2 => by rw [e1, hk q (Nat.lt_of_lt_of_le h1 hS.1) (fun z => h2 (hF q z))]; exact hS.2.1 q h1 h2, fun q hq => by
      rcases List.mem_append.mp hq with h | h
      · exact hS.2.2 q h
      · exact hF _ (hL q h)⟩
  obtain ⟨t2, a1, b1⟩ := k v σ' hq p e s m args below meth c A C T'.heap (locs ++ L) ls (by rw [e1]; exact hP1) (hD1.weaken (fun i q _ h => hF _ h)) hS1 hl T' rfl X'
  exact ⟨t2, stp t2 a1, b1⟩
theorem x_pre {p : Program} {s : State} {m : MethodId} {args : Array Value} {meth : Method} {c : Code} {A : Nat → Prop} {H : Heap} {locs : List Loc} {av : List Value} (C : XC G M p s m args meth c A) (hP : va_P G.2.1 vwCl (gpic G σ) H) (hD : va_D A (gpic G σ)) (hS : va_S A s.heap H locs) :
    PreS s H (va_Pc av (fun U => U.heap.size = H.size ∧ va_P G.2.1 vwCl (gpic G σ) U.heap ∧ va_K G.2.1 vwCl (gtys G) U ∧ va_D (fun _ => True) (gpic G σ) ∧ sMG G (va_A (gpic G σ) H.size) U U.heap)) av := by
  refine ⟨fun a U g mk q => ?_, fun U hU hW => ⟨rfl, by rw [hU], by rw [hU]; exact hP, va_K.moved hW.alike C.2.2.2.2.2.2.2.1, hD.weaken (fun _ _ _ _ => trivial), ?_⟩⟩
  · obtain ⟨q0, q1, qP, qK, qD, qS⟩ := q
    exact ⟨q0, q1, qP, va_K.moved (u := U) (U := U.calling g mk a) (Vm.Alike.refl U.vm) qK, qD, sMG.moved (u := U) (U := U.calling g mk a) (Vm.Alike.refl U.vm) qS⟩
  · have hF : ∀ q, va_A (gpic G σ) H.size q → A q := by
      intro q h
      rcases h with ⟨i, e', h⟩ | h
      · exact hD.2 i (q, e') h
      · exact C.2.2.2.2.2.2.2.2.1 q (Nat.le_trans hS.1 h)
    rw [hU]
    exact ((C.2.2.2.2.2.2.2.2.2.kept (H1 := H) (fun a h1 h2 => hS.2.1 a h1 h2)).narrow hF).moved hW.alike
theorem x_callV {Ly : List Ds} {M' : Mi} {o ci idx n d' : Nat} {ts : List Nat} (av : List Value) {rest stk : List Value} {Q' : Option Value → Sg → Prop} (hG : gLy G = Ly) (hs : MV M' n) (hlk : Cond.methodLink M.1.cls idx M'.1 ∈ wsG) (hob : Ly[o]? = some (0, ci, ts)) (hcl : (vwCl[ci]?).map (fun q => q.1) = some M'.1.cls) (hn : av.length = n) (hR : d' + 1 ≤ d ∧ M'.2.2.1 ≤ 41) (hst : stk = av.reverse ++ .ref (gad G o) :: rest) (hW : (rest.map fun v => v.category).sum ≤ 8)
    (hd : decode M.2.1 pc = .ok (.invokevirtual idx, 3)) (hct : CT G M' d' (.ref (gad G o) :: av) σ Q') (k : ∀ (v : Option Value) (σ' : Sg), Q' v σ' → X G M d (pc + 3) lv (v.toList ++ rest) σ' Q) : X G M d pc lv stk σ Q := by
  obtain ⟨⟨hk1, hk2, hk3⟩, hk4, hk5⟩ := hs
  subst hG
  subst hst
  intro p e s m args below meth c A C H locs ls hP hD hS hl
  obtain ⟨q, hq1, hq2⟩ := Option.map_eq_some_iff.mp hcl
  have hp := x_pre (av := .ref (gad G o) :: av) C hP hD hS
  refine x_back C hP hD hS hl (va_runV (As := av) (rest := rest) (nL := M.2.2.1) (own := M.1.cls) (C := M'.1.cls) (Ts := wsG) ⟨C.1, C.2.1, C.2.2.1, C.2.2.2.2.2.1, C.2.2.2.2.2.2.1⟩ (hct H.size) (cwV (ws' := wsG) n C.2.2.2.2.2.2.1 (goodG (fun w hw => ?_)) rfl rfl rfl ⟨rfl, hk1⟩ ⟨hR.1, ?_⟩) ⟨hp.1, hq2 ▸ va_recv C.2.2.2.2.2.2.2.1 hP hq1 (pic_at hob), hp.2⟩ rfl hn hl.1 rfl (lv_room hW) hd ⟨Nat.le_refl 0, Nat.le_refl 0⟩) k
  · simp only [wsV, List.mem_append, List.mem_cons, List.not_mem_nil, or_false] at hw
    rcases hw with (rfl | rfl | rfl | rfl) | rfl | hw
    · exact hlk
    · exact hk4
    · exact hk5
    · exact hk3
    · exact hk2
    · exact hw
  · show 8 + (M'.2.2.1 + 11) + 60 * d' ≤ 60 * d
    omega
theorem x_callS {M' : Mi} {idx n d' : Nat} (av : List Value) {rest stk : List Value} {Q' : Option Value → Sg → Prop} (hs : MS M' n) (hlk : Cond.methodLink M.1.cls idx M'.1 ∈ wsG) (hn : av.length = n) (hR : d' + 1 ≤ d ∧ M'.2.2.1 ≤ 41) (hst : stk = av.reverse ++ rest) (hW : (rest.map fun v => v.category).sum ≤ 8)
    (hd : decode M.2.1 pc = .ok (.invokestatic idx, 3)) (hct : CT G M' d' av σ Q') (k : ∀ (v : Option Value) (σ' : Sg), Q' v σ' → X G M d (pc + 3) lv (v.toList ++ rest) σ' Q) : X G M d pc lv stk σ Q := by
  obtain ⟨⟨hk1, hk2, hk3⟩, hk4⟩ := hs
  subst hst
  intro p e s m args below meth c A C H locs ls hP hD hS hl
  have hp := x_pre (av := av) C hP hD hS
  refine x_back C hP hD hS hl (va_runS (As := av) (rest := rest) (nL := M.2.2.1) (own := M.1.cls) (Ts := wsG) ⟨C.1, C.2.1, C.2.2.1, C.2.2.2.2.2.1, C.2.2.2.2.2.2.1⟩ (hct H.size) (va_cwS (ws' := wsG) n C.2.2.2.2.2.2.1 (goodG (fun w hw => ?_)) rfl rfl rfl hk1 ⟨hR.1, ?_⟩) hp rfl hn hl.1 rfl (lv_room hW) hd ⟨Nat.le_refl 0, Nat.le_refl 0⟩) k
  · simp only [va_wsS, List.mem_append, List.mem_cons, List.not_mem_nil, or_false] at hw
    rcases hw with (rfl | rfl | rfl) | rfl | hw
    · exact hlk
    · exact hk4
    · exact hk3
    · exact hk2
    · exact hw
  · show 8 + (M'.2.2.1 + 11) + 60 * d' ≤ 60 * d
    omega
theorem x_mmin {idx : Nat} {x y : Int32} (h1 : Cond.methodLink M.1.cls idx Lib.Math.min.name ∈ wsG) (h2 : Cond.static Lib.Math.min.name ∈ wsG) (h3 : Cond.initialized "java/lang/Math" ∈ wsG) (h4 : Cond.code Lib.Math.min.name Lib.Math.min.code 2 (some .int) ∈ wsG) (hR : 1 ≤ d) (hW : (st.map fun v => v.category).sum ≤ 8) (hd : decode M.2.1 pc = .ok (.invokestatic idx, 3)) (k : X G M d (pc + 3) lv (.int (if y < x then y else x) :: st) σ Q) : X G M d pc lv (.int y :: .int x :: st) σ Q := by
  intro p e s m args below meth c A C H locs ls hP hD hS hl
  exact va_mmin C.1 C.2.1 (C.2.2.1.trans hl.1.symm) C.2.2.2.2.2.1 (C.2.2.2.2.2.2.1 _ h1) (C.2.2.2.2.2.2.1 _ h2) (C.2.2.2.2.2.2.1 _ h3) (C.2.2.2.2.2.2.1 _ h4) hR (by show _ + 13 ≤ 60 * d; omega) (Nat.le_refl 0) (Nat.le_refl 0) hd (k p e s m args below meth c A C H locs ls hP hD hS hl)
end XR
/-! answers: an int, a long, none -/
def qi (Q : Int32 → Sg → Prop) : Option Value → Sg → Prop := fun v σ => ∃ r : Int32, v = some (.int r) ∧ Q r σ
def ql (Q : Int64 → Sg → Prop) : Option Value → Sg → Prop := fun v σ => ∃ r : Int64, v = some (.long r) ∧ Q r σ
def qv (Q : Sg → Prop) : Option Value → Sg → Prop := fun v σ => v = none ∧ Q σ
def bz (v : Int32) : Prop := narrow .boolean (.int v) = .int v
theorem bz_0 : bz 0 := rfl
theorem bz_1 : bz 1 := rfl
end
section
def LyC : List Ds := [(0, 9, [3, 7, 0]), (0, 2, [4, 5, 6, 0]), (1, 240, []), (1, 180, []), (1, 60, []), (0, 6, [3, 8, 12, 13, 0, 14, 16, 23, 0]), (0, 7, [9, 10, 11, 0, 0]), (2, 3408, []), (1, 3200, []), (2, 3200, []), (0, 3, [0, 0, 0, 0, 0, 0, 1]), (1, 40, []), (0, 4, [15, 0]), (2, 1608, []), (0, 5, [17, 18, 19, 20, 21, 22, 0]), (1, 200, []), (1, 200, []), (1, 200, []), (1, 200, []), (1, 200, []), (2, 200, []), (0, 8, [24, 25, 26, 27, 28, 29, 30, 31, 0, 0]), (1, 200, []), (1, 200, []), (1, 200, []), (2, 600, []), (1, 200, []), (1, 200, []), (1, 200, []), (1, 200, [])]
def LyM : List Ds := [(0, 10, [0, 3, 4, 5, 6, 0, 0, 7, 8, 9, 10, 11, 12, 13, 14, 0, 15, 16, 17, 18, 0, 19, 20, 21, 0, 22, 0, 23, 24, 25, 26, 27, 28, 29, 30, 31, 0, 0, 0, 0, 0, 0, 0, 0, 0, 0, 0, 0, 0, 0, 0, 0, 0, 0, 0, 0]), (1, 60, []), (1, 60, []), (1, 60, []), (1, 60, []), (1, 220, []), (1, 3520, []), (1, 3520, []), (1, 220, []), (1, 220, []), (1, 220, []), (1, 220, []), (1, 220, []), (1, 1760, []), (1, 1760, []), (1, 8, []), (1, 8, []), (1, 3600, []), (1, 3600, []), (1, 3600, []), (1, 40, []), (1, 220, []), (1, 220, []), (1, 220, []), (1, 220, []), (1, 220, []), (1, 220, []), (1, 220, []), (1, 220, []), (1, 220, [])]
theorem inT1 {w : Cond} (h : w ∈ tables_1_1) (g : goodWord w = true) : w ∈ wsG := wsG_of (List.mem_append_right (k2_sels lw_privs) (show w ∈ tables_1 from List.mem_append_left _ h)) g
theorem inT2 {w : Cond} (h : w ∈ tables_1_2) (g : goodWord w = true) : w ∈ wsG := wsG_of (List.mem_append_right (k2_sels lw_privs) (show w ∈ tables_1 from List.mem_append_right _ (List.mem_append_left _ h))) g
theorem inT3 {w : Cond} (h : w ∈ tables_1_3) (g : goodWord w = true) : w ∈ wsG := wsG_of (List.mem_append_right (k2_sels lw_privs) (show w ∈ tables_1 from List.mem_append_right _ (List.mem_append_right _ (List.mem_append_left _ h)))) g
theorem inT4 {w : Cond} (h : w ∈ tables_1_4) (g : goodWord w = true) : w ∈ wsG := wsG_of (List.mem_append_right (k2_sels lw_privs) (show w ∈ tables_1 from List.mem_append_right _ (List.mem_append_right _ (List.mem_append_right _ (List.mem_append_left _ h))))) g
theorem inT5 {w : Cond} (h : w ∈ tables_1_5) (g : goodWord w = true) : w ∈ wsG := wsG_of (List.mem_append_right (k2_sels lw_privs) (show w ∈ tables_1 from List.mem_append_right _ (List.mem_append_right _ (List.mem_append_right _ (List.mem_append_right _ (h)))))) g
theorem inP1 {q : MethodName × Nat} (h : q ∈ lw_privs_1) : Cond.selects q.1.cls q.1 q.1 ∈ wsG := wsG_of (List.mem_append_left tables_1 (List.mem_map_of_mem (show q ∈ lw_privs from List.mem_append_left _ h))) rfl
theorem inP2 {q : MethodName × Nat} (h : q ∈ lw_privs_2) : Cond.selects q.1.cls q.1 q.1 ∈ wsG := wsG_of (List.mem_append_left tables_1 (List.mem_map_of_mem (show q ∈ lw_privs from List.mem_append_right _ (List.mem_append_left _ h)))) rfl
theorem inP3 {q : MethodName × Nat} (h : q ∈ lw_privs_3) : Cond.selects q.1.cls q.1 q.1 ∈ wsG := wsG_of (List.mem_append_left tables_1 (List.mem_map_of_mem (show q ∈ lw_privs from List.mem_append_right _ (List.mem_append_right _ (List.mem_append_left _ h))))) rfl
theorem inP4 {q : MethodName × Nat} (h : q ∈ lw_privs_4) : Cond.selects q.1.cls q.1 q.1 ∈ wsG := wsG_of (List.mem_append_left tables_1 (List.mem_map_of_mem (show q ∈ lw_privs from List.mem_append_right _ (List.mem_append_right _ (List.mem_append_right _ (h)))))) rfl
set_option maxRecDepth 100000 in
theorem inF_X0 : ∀ w ∈ u_ws RX0 TX0 4, w ∈ wsG := List.forall_mem_cons.mpr ⟨inT1 (List.mem_of_getElem? (i := 38) rfl) rfl, List.forall_mem_cons.mpr ⟨inT1 (List.mem_of_getElem? (i := 40) rfl) rfl, List.forall_mem_cons.mpr ⟨inT1 (List.mem_of_getElem? (i := 42) rfl) rfl, List.forall_mem_cons.mpr ⟨inT1 (List.mem_of_getElem? (i := 44) rfl) rfl, fun _ h => absurd h List.not_mem_nil⟩⟩⟩⟩
theorem KC_X0 : KC 2 RX0 TX0 4 tyX0 := ⟨rfl, inF_X0, tyX0_ok, nmX0⟩
set_option maxRecDepth 100000 in
theorem inF_X1 : ∀ w ∈ u_ws RX1 TX1 7, w ∈ wsG := List.forall_mem_cons.mpr ⟨inT1 (List.mem_of_getElem? (i := 120) rfl) rfl, List.forall_mem_cons.mpr ⟨inT1 (List.mem_of_getElem? (i := 122) rfl) rfl, List.forall_mem_cons.mpr ⟨inT1 (List.mem_of_getElem? (i := 124) rfl) rfl, List.forall_mem_cons.mpr ⟨inT1 (List.mem_of_getElem? (i := 126) rfl) rfl, List.forall_mem_cons.mpr ⟨inT1 (List.mem_of_getElem? (i := 128) rfl) rfl, List.forall_mem_cons.mpr ⟨inT1 (List.mem_of_getElem? (i := 130) rfl) rfl, List.forall_mem_cons.mpr ⟨inT1 (List.mem_of_getElem? (i := 132) rfl) rfl, fun _ h => absurd h List.not_mem_nil⟩⟩⟩⟩⟩⟩⟩
theorem KC_X1 : KC 3 RX1 TX1 7 tyX1 := ⟨rfl, inF_X1, tyX1_ok, nmX1⟩
set_option maxRecDepth 100000 in
theorem inF_X3 : ∀ w ∈ u_ws RX3 TX3 2, w ∈ wsG := List.forall_mem_cons.mpr ⟨inT1 (List.mem_of_getElem? (i := 143) rfl) rfl, List.forall_mem_cons.mpr ⟨inT1 (List.mem_of_getElem? (i := 145) rfl) rfl, fun _ h => absurd h List.not_mem_nil⟩⟩
theorem KC_X3 : KC 4 RX3 TX3 2 tyX3 := ⟨rfl, inF_X3, tyX3_ok, nmX3⟩
set_option maxRecDepth 100000 in
theorem inF_X5 : ∀ w ∈ u_ws RX5 TX5 7, w ∈ wsG := List.forall_mem_cons.mpr ⟨inT1 (List.mem_of_getElem? (i := 161) rfl) rfl, List.forall_mem_cons.mpr ⟨inT1 (List.mem_of_getElem? (i := 163) rfl) rfl, List.forall_mem_cons.mpr ⟨inT1 (List.mem_of_getElem? (i := 165) rfl) rfl, List.forall_mem_cons.mpr ⟨inT1 (List.mem_of_getElem? (i := 167) rfl) rfl, List.forall_mem_cons.mpr ⟨inT1 (List.mem_of_getElem? (i := 169) rfl) rfl, List.forall_mem_cons.mpr ⟨inT1 (List.mem_of_getElem? (i := 171) rfl) rfl, List.forall_mem_cons.mpr ⟨inT1 (List.mem_of_getElem? (i := 173) rfl) rfl, fun _ h => absurd h List.not_mem_nil⟩⟩⟩⟩⟩⟩⟩
theorem KC_X5 : KC 5 RX5 TX5 7 tyX5 := ⟨rfl, inF_X5, tyX5_ok, nmX5⟩
set_option maxRecDepth 100000 in
theorem inF_X6 : ∀ w ∈ u_ws RX6 TX6 9, w ∈ wsG := List.forall_mem_cons.mpr ⟨inT1 (List.mem_of_getElem? (i := 226) rfl) rfl, List.forall_mem_cons.mpr ⟨inT1 (List.mem_of_getElem? (i := 228) rfl) rfl, List.forall_mem_cons.mpr ⟨inT1 (List.mem_of_getElem? (i := 230) rfl) rfl, List.forall_mem_cons.mpr ⟨inT1 (List.mem_of_getElem? (i := 232) rfl) rfl, List.forall_mem_cons.mpr ⟨inT1 (List.mem_of_getElem? (i := 234) rfl) rfl, List.forall_mem_cons.mpr ⟨inT1 (List.mem_of_getElem? (i := 236) rfl) rfl, List.forall_mem_cons.mpr ⟨inT1 (List.mem_of_getElem? (i := 238) rfl) rfl, List.forall_mem_cons.mpr ⟨inT2 (List.mem_of_getElem? (i := 0) rfl) rfl, List.forall_mem_cons.mpr ⟨inT2 (List.mem_of_getElem? (i := 2) rfl) rfl, fun _ h => absurd h List.not_mem_nil⟩⟩⟩⟩⟩⟩⟩⟩⟩
theorem KC_X6 : KC 6 RX6 TX6 9 tyX6 := ⟨rfl, inF_X6, tyX6_ok, nmX6⟩
set_option maxRecDepth 100000 in
theorem inF_X7 : ∀ w ∈ u_ws RX7 TX7 5, w ∈ wsG := List.forall_mem_cons.mpr ⟨inT1 (List.mem_of_getElem? (i := 70) rfl) rfl, List.forall_mem_cons.mpr ⟨inT1 (List.mem_of_getElem? (i := 72) rfl) rfl, List.forall_mem_cons.mpr ⟨inT1 (List.mem_of_getElem? (i := 74) rfl) rfl, List.forall_mem_cons.mpr ⟨inT1 (List.mem_of_getElem? (i := 76) rfl) rfl, List.forall_mem_cons.mpr ⟨inT1 (List.mem_of_getElem? (i := 78) rfl) rfl, fun _ h => absurd h List.not_mem_nil⟩⟩⟩⟩⟩
theorem KC_X7 : KC 7 RX7 TX7 5 tyX7 := ⟨rfl, inF_X7, tyX7_ok, nmX7⟩
set_option maxRecDepth 100000 in
theorem inF_X8 : ∀ w ∈ u_ws RX8 TX8 10, w ∈ wsG := List.forall_mem_cons.mpr ⟨inT1 (List.mem_of_getElem? (i := 192) rfl) rfl, List.forall_mem_cons.mpr ⟨inT1 (List.mem_of_getElem? (i := 194) rfl) rfl, List.forall_mem_cons.mpr ⟨inT1 (List.mem_of_getElem? (i := 196) rfl) rfl, List.forall_mem_cons.mpr ⟨inT1 (List.mem_of_getElem? (i := 198) rfl) rfl, List.forall_mem_cons.mpr ⟨inT1 (List.mem_of_getElem? (i := 200) rfl) rfl, List.forall_mem_cons.mpr ⟨inT1 (List.mem_of_getElem? (i := 202) rfl) rfl, List.forall_mem_cons.mpr ⟨inT1 (List.mem_of_getElem? (i := 204) rfl) rfl, List.forall_mem_cons.mpr ⟨inT1 (List.mem_of_getElem? (i := 206) rfl) rfl, List.forall_mem_cons.mpr ⟨inT1 (List.mem_of_getElem? (i := 208) rfl) rfl, List.forall_mem_cons.mpr ⟨inT1 (List.mem_of_getElem? (i := 210) rfl) rfl, fun _ h => absurd h List.not_mem_nil⟩⟩⟩⟩⟩⟩⟩⟩⟩⟩
theorem KC_X8 : KC 8 RX8 TX8 10 tyX8 := ⟨rfl, inF_X8, tyX8_ok, nmX8⟩
set_option maxRecDepth 100000 in
theorem inF_X10 : ∀ w ∈ u_ws RX10 TX10 3, w ∈ wsG := List.forall_mem_cons.mpr ⟨inT2 (List.mem_of_getElem? (i := 8) rfl) rfl, List.forall_mem_cons.mpr ⟨inT2 (List.mem_of_getElem? (i := 10) rfl) rfl, List.forall_mem_cons.mpr ⟨inT2 (List.mem_of_getElem? (i := 12) rfl) rfl, fun _ h => absurd h List.not_mem_nil⟩⟩⟩
theorem KC_X10 : KC 9 RX10 TX10 3 tyX10 := ⟨rfl, inF_X10, tyX10_ok, nmX10⟩
set_option maxRecDepth 100000 in
theorem inF_X11 : ∀ w ∈ u_ws RX11 TX11 56, w ∈ wsG := List.forall_mem_cons.mpr ⟨inT4 (List.mem_of_getElem? (i := 157) rfl) rfl, List.forall_mem_cons.mpr ⟨inT4 (List.mem_of_getElem? (i := 159) rfl) rfl, List.forall_mem_cons.mpr ⟨inT4 (List.mem_of_getElem? (i := 161) rfl) rfl, List.forall_mem_cons.mpr ⟨inT4 (List.mem_of_getElem? (i := 163) rfl) rfl, List.forall_mem_cons.mpr ⟨inT4 (List.mem_of_getElem? (i := 165) rfl) rfl, List.forall_mem_cons.mpr ⟨inT4 (List.mem_of_getElem? (i := 167) rfl) rfl, List.forall_mem_cons.mpr ⟨inT4 (List.mem_of_getElem? (i := 169) rfl) rfl, List.forall_mem_cons.mpr ⟨inT4 (List.mem_of_getElem? (i := 171) rfl) rfl, List.forall_mem_cons.mpr ⟨inT4 (List.mem_of_getElem? (i := 173) rfl) rfl, List.forall_mem_cons.mpr ⟨inT4 (List.mem_of_getElem? (i := 175) rfl) rfl, List.forall_mem_cons.mpr ⟨inT4 (List.mem_of_getElem? (i := 177) rfl) rfl, List.forall_mem_cons.mpr ⟨inT4 (List.mem_of_getElem? (i := 179) rfl) rfl, List.forall_mem_cons.mpr ⟨inT4 (List.mem_of_getElem? (i := 181) rfl) rfl, List.forall_mem_cons.mpr ⟨inT4 (List.mem_of_getElem? (i := 183) rfl) rfl, List.forall_mem_cons.mpr ⟨inT4 (List.mem_of_getElem? (i := 185) rfl) rfl, List.forall_mem_cons.mpr ⟨inT4 (List.mem_of_getElem? (i := 187) rfl) rfl, List.forall_mem_cons.mpr ⟨inT4 (List.mem_of_getElem? (i := 189) rfl) rfl, List.forall_mem_cons.mpr ⟨inT4 (List.mem_of_getElem? (i := 191) rfl) rfl, List.forall_mem_cons.mpr ⟨inT4 (List.mem_of_getElem? (i := 193) rfl) rfl, List.forall_mem_cons.mpr ⟨inT4 (List.mem_of_getElem? (i := 195) rfl) rfl, List.forall_mem_cons.mpr ⟨inT4 (List.mem_of_getElem? (i := 197) rfl) rfl, List.forall_mem_cons.mpr ⟨inT4 (List.mem_of_getElem? (i := 199) rfl) rfl, List.forall_mem_cons.mpr ⟨inT4 (List.mem_of_getElem? (i := 201) rfl) rfl, List.forall_mem_cons.mpr ⟨inT4 (List.mem_of_getElem? (i := 203) rfl) rfl, List.forall_mem_cons.mpr ⟨inT4 (List.mem_of_getElem? (i := 205) rfl) rfl, List.forall_mem_cons.mpr ⟨inT4 (List.mem_of_getElem? (i := 207) rfl) rfl, List.forall_mem_cons.mpr ⟨inT4 (List.mem_of_getElem? (i := 209) rfl) rfl, List.forall_mem_cons.mpr ⟨inT4 (List.mem_of_getElem? (i := 211) rfl) rfl, List.forall_mem_cons.mpr ⟨inT4 (List.mem_of_getElem? (i := 213) rfl) rfl, List.forall_mem_cons.mpr ⟨inT4 (List.mem_of_getElem? (i := 215) rfl) rfl, List.forall_mem_cons.mpr ⟨inT4 (List.mem_of_getElem? (i := 217) rfl) rfl, List.forall_mem_cons.mpr ⟨inT4 (List.mem_of_getElem? (i := 219) rfl) rfl, List.forall_mem_cons.mpr ⟨inT4 (List.mem_of_getElem? (i := 221) rfl) rfl, List.forall_mem_cons.mpr ⟨inT4 (List.mem_of_getElem? (i := 223) rfl) rfl, List.forall_mem_cons.mpr ⟨inT4 (List.mem_of_getElem? (i := 225) rfl) rfl, List.forall_mem_cons.mpr ⟨inT4 (List.mem_of_getElem? (i := 227) rfl) rfl, List.forall_mem_cons.mpr ⟨inT4 (List.mem_of_getElem? (i := 229) rfl) rfl, List.forall_mem_cons.mpr ⟨inT4 (List.mem_of_getElem? (i := 231) rfl) rfl, List.forall_mem_cons.mpr ⟨inT4 (List.mem_of_getElem? (i := 233) rfl) rfl, List.forall_mem_cons.mpr ⟨inT4 (List.mem_of_getElem? (i := 235) rfl) rfl, List.forall_mem_cons.mpr ⟨inT4 (List.mem_of_getElem? (i := 237) rfl) rfl, List.forall_mem_cons.mpr ⟨inT4 (List.mem_of_getElem? (i := 239) rfl) rfl, List.forall_mem_cons.mpr ⟨inT5 (List.mem_of_getElem? (i := 1) rfl) rfl, List.forall_mem_cons.mpr ⟨inT5 (List.mem_of_getElem? (i := 3) rfl) rfl, List.forall_mem_cons.mpr ⟨inT5 (List.mem_of_getElem? (i := 5) rfl) rfl, List.forall_mem_cons.mpr ⟨inT5 (List.mem_of_getElem? (i := 7) rfl) rfl, List.forall_mem_cons.mpr ⟨inT5 (List.mem_of_getElem? (i := 9) rfl) rfl, List.forall_mem_cons.mpr ⟨inT5 (List.mem_of_getElem? (i := 11) rfl) rfl, List.forall_mem_cons.mpr ⟨inT5 (List.mem_of_getElem? (i := 13) rfl) rfl, List.forall_mem_cons.mpr ⟨inT5 (List.mem_of_getElem? (i := 15) rfl) rfl, List.forall_mem_cons.mpr ⟨inT5 (List.mem_of_getElem? (i := 17) rfl) rfl, List.forall_mem_cons.mpr ⟨inT5 (List.mem_of_getElem? (i := 19) rfl) rfl, List.forall_mem_cons.mpr ⟨inT5 (List.mem_of_getElem? (i := 21) rfl) rfl, List.forall_mem_cons.mpr ⟨inT5 (List.mem_of_getElem? (i := 23) rfl) rfl, List.forall_mem_cons.mpr ⟨inT5 (List.mem_of_getElem? (i := 25) rfl) rfl, List.forall_mem_cons.mpr ⟨inT5 (List.mem_of_getElem? (i := 27) rfl) rfl, fun _ h => absurd h List.not_mem_nil⟩⟩⟩⟩⟩⟩⟩⟩⟩⟩⟩⟩⟩⟩⟩⟩⟩⟩⟩⟩⟩⟩⟩⟩⟩⟩⟩⟩⟩⟩⟩⟩⟩⟩⟩⟩⟩⟩⟩⟩⟩⟩⟩⟩⟩⟩⟩⟩⟩⟩⟩⟩⟩⟩⟩⟩
theorem KC_X11 : KC 10 RX11 TX11 56 tyX11 := ⟨rfl, inF_X11, tyX11_ok, nmX11⟩
theorem fl_X10_10 : Cond.fieldLink RX10 10 "SideWork" "acts" "LSideWork$Acts;" ∈ wsG := inT2 (List.mem_of_getElem? (i := 5) rfl) rfl
theorem fg_X10_10 : FG LyC RX10 10 0 0 3 := ⟨9, RX10, TX10, 3, tyX10, _, KC_X10, rfl, rfl, by decide, fl_X10_10⟩
theorem fl_X10_21 : Cond.fieldLink RX10 21 "SideWork" "machine" "LSideWork$Machine;" ∈ wsG := inT2 (List.mem_of_getElem? (i := 6) rfl) rfl
theorem fg_X10_21 : FG LyC RX10 21 0 1 7 := ⟨9, RX10, TX10, 3, tyX10, _, KC_X10, rfl, rfl, by decide, fl_X10_21⟩
theorem fl_X10_25 : Cond.fieldLink RX10 25 "SideWork" "runs" "I" ∈ wsG := inT2 (List.mem_of_getElem? (i := 7) rfl) rfl
theorem fg_X10_25 : FG LyC RX10 25 0 2 0 := ⟨9, RX10, TX10, 3, tyX10, _, KC_X10, rfl, rfl, by decide, fl_X10_25⟩
theorem fp_X10_25 : FP LyC RX10 25 0 2 0 := ⟨9, RX10, TX10, 3, tyX10, _, KC_X10, rfl, rfl, by decide, fl_X10_25, rfl, rfl⟩
theorem fl_X10_48 : Cond.fieldLink RX10 48 "SideWork$Machine" "course" "LSideWork$Course;" ∈ wsG := inT1 (List.mem_of_getElem? (i := 217) rfl) rfl
theorem fg_X10_48 : FG LyC RX10 48 5 2 12 := ⟨6, RX6, TX6, 9, tyX6, _, KC_X6, rfl, rfl, by decide, fl_X10_48⟩
theorem fl_X10_52 : Cond.fieldLink RX10 52 "SideWork$Course" "ending" "I" ∈ wsG := inT1 (List.mem_of_getElem? (i := 108) rfl) rfl
theorem fg_X10_52 : FG LyC RX10 52 10 3 0 := ⟨3, RX1, TX1, 7, tyX1, _, KC_X1, rfl, rfl, by decide, fl_X10_52⟩
theorem fp_X10_52 : FP LyC RX10 52 10 3 0 := ⟨3, RX1, TX1, 7, tyX1, _, KC_X1, rfl, rfl, by decide, fl_X10_52, rfl, rfl⟩
theorem fl_X10_57 : Cond.fieldLink RX10 57 "SideWork$Course" "value" "J" ∈ wsG := inT1 (List.mem_of_getElem? (i := 118) rfl) rfl
theorem fg_X10_57 : FG LyC RX10 57 10 6 1 := ⟨3, RX1, TX1, 7, tyX1, _, KC_X1, rfl, rfl, by decide, fl_X10_57⟩
theorem fp_X10_57 : FP LyC RX10 57 10 6 1 := ⟨3, RX1, TX1, 7, tyX1, _, KC_X1, rfl, rfl, by decide, fl_X10_57, rfl, rfl⟩
theorem fl_X10_67 : Cond.fieldLink RX10 67 "SideWork$Course" "code" "I" ∈ wsG := inT1 (List.mem_of_getElem? (i := 111) rfl) rfl
theorem fg_X10_67 : FG LyC RX10 67 10 4 0 := ⟨3, RX1, TX1, 7, tyX1, _, KC_X1, rfl, rfl, by decide, fl_X10_67⟩
theorem fp_X10_67 : FP LyC RX10 67 10 4 0 := ⟨3, RX1, TX1, 7, tyX1, _, KC_X1, rfl, rfl, by decide, fl_X10_67, rfl, rfl⟩
theorem fl_X10_70 : Cond.fieldLink RX10 70 "SideWork$Course" "at" "I" ∈ wsG := inT1 (List.mem_of_getElem? (i := 115) rfl) rfl
theorem fg_X10_70 : FG LyC RX10 70 10 5 0 := ⟨3, RX1, TX1, 7, tyX1, _, KC_X1, rfl, rfl, by decide, fl_X10_70⟩
theorem fp_X10_70 : FP LyC RX10 70 10 5 0 := ⟨3, RX1, TX1, 7, tyX1, _, KC_X1, rfl, rfl, by decide, fl_X10_70, rfl, rfl⟩
theorem fl_X10_73 : Cond.fieldLink RX10 73 "SideWork$Course" "steps" "I" ∈ wsG := inT1 (List.mem_of_getElem? (i := 103) rfl) rfl
theorem fg_X10_73 : FG LyC RX10 73 10 1 0 := ⟨3, RX1, TX1, 7, tyX1, _, KC_X1, rfl, rfl, by decide, fl_X10_73⟩
theorem fp_X10_73 : FP LyC RX10 73 10 1 0 := ⟨3, RX1, TX1, 7, tyX1, _, KC_X1, rfl, rfl, by decide, fl_X10_73, rfl, rfl⟩
theorem fl_X10_76 : Cond.fieldLink RX10 76 "SideWork$Course" "failures" "I" ∈ wsG := inT1 (List.mem_of_getElem? (i := 105) rfl) rfl
theorem fg_X10_76 : FG LyC RX10 76 10 2 0 := ⟨3, RX1, TX1, 7, tyX1, _, KC_X1, rfl, rfl, by decide, fl_X10_76⟩
theorem fp_X10_76 : FP LyC RX10 76 10 2 0 := ⟨3, RX1, TX1, 7, tyX1, _, KC_X1, rfl, rfl, by decide, fl_X10_76, rfl, rfl⟩
theorem fl_X10_79 : Cond.fieldLink RX10 79 "SideWork$Machine" "memory" "LSideWork$Memory;" ∈ wsG := inT1 (List.mem_of_getElem? (i := 215) rfl) rfl
theorem fg_X10_79 : FG LyC RX10 79 5 1 8 := ⟨6, RX6, TX6, 9, tyX6, _, KC_X6, rfl, rfl, by decide, fl_X10_79⟩
theorem fl_X10_116 : Cond.fieldLink RX10 116 "SideWork$Machine" "outSize" "I" ∈ wsG := inT1 (List.mem_of_getElem? (i := 221) rfl) rfl
theorem fg_X10_116 : FG LyC RX10 116 5 4 0 := ⟨6, RX6, TX6, 9, tyX6, _, KC_X6, rfl, rfl, by decide, fl_X10_116⟩
theorem fp_X10_116 : FP LyC RX10 116 5 4 0 := ⟨6, RX6, TX6, 9, tyX6, _, KC_X6, rfl, rfl, by decide, fl_X10_116, rfl, rfl⟩
theorem fl_X10_119 : Cond.fieldLink RX10 119 "SideWork$Machine" "outRow" "[I" ∈ wsG := inT1 (List.mem_of_getElem? (i := 219) rfl) rfl
theorem fg_X10_119 : FG LyC RX10 119 5 3 13 := ⟨6, RX6, TX6, 9, tyX6, _, KC_X6, rfl, rfl, by decide, fl_X10_119⟩
theorem fl_X10_123 : Cond.fieldLink RX10 123 "SideWork$Acts" "size" "I" ∈ wsG := inT1 (List.mem_of_getElem? (i := 37) rfl) rfl
theorem fg_X10_123 : FG LyC RX10 123 1 3 0 := ⟨2, RX0, TX0, 4, tyX0, _, KC_X0, rfl, rfl, by decide, fl_X10_123⟩
theorem fp_X10_123 : FP LyC RX10 123 1 3 0 := ⟨2, RX0, TX0, 4, tyX0, _, KC_X0, rfl, rfl, by decide, fl_X10_123, rfl, rfl⟩
theorem fl_X11_7 : Cond.fieldLink RX11 7 "SideWorkModel" "kind" "[I" ∈ wsG := inT4 (List.mem_of_getElem? (i := 102) rfl) rfl
theorem fg_X11_7 : FG LyM RX11 7 0 1 3 := ⟨10, RX11, TX11, 56, tyX11, _, KC_X11, rfl, rfl, by decide, fl_X11_7⟩
theorem fl_X11_13 : Cond.fieldLink RX11 13 "SideWorkModel" "argA" "[I" ∈ wsG := inT4 (List.mem_of_getElem? (i := 103) rfl) rfl
theorem fg_X11_13 : FG LyM RX11 13 0 2 4 := ⟨10, RX11, TX11, 56, tyX11, _, KC_X11, rfl, rfl, by decide, fl_X11_13⟩
theorem fl_X11_16 : Cond.fieldLink RX11 16 "SideWorkModel" "argB" "[I" ∈ wsG := inT4 (List.mem_of_getElem? (i := 104) rfl) rfl
theorem fg_X11_16 : FG LyM RX11 16 0 3 5 := ⟨10, RX11, TX11, 56, tyX11, _, KC_X11, rfl, rfl, by decide, fl_X11_16⟩
theorem fl_X11_19 : Cond.fieldLink RX11 19 "SideWorkModel" "argC" "[I" ∈ wsG := inT4 (List.mem_of_getElem? (i := 105) rfl) rfl
theorem fg_X11_19 : FG LyM RX11 19 0 4 6 := ⟨10, RX11, TX11, 56, tyX11, _, KC_X11, rfl, rfl, by decide, fl_X11_19⟩
theorem fl_X11_22 : Cond.fieldLink RX11 22 "SideWorkModel" "thingSize" "[I" ∈ wsG := inT4 (List.mem_of_getElem? (i := 108) rfl) rfl
theorem fg_X11_22 : FG LyM RX11 22 0 7 7 := ⟨10, RX11, TX11, 56, tyX11, _, KC_X11, rfl, rfl, by decide, fl_X11_22⟩
theorem fl_X11_25 : Cond.fieldLink RX11 25 "SideWorkModel" "placeType" "[I" ∈ wsG := inT4 (List.mem_of_getElem? (i := 109) rfl) rfl
theorem fg_X11_25 : FG LyM RX11 25 0 8 8 := ⟨10, RX11, TX11, 56, tyX11, _, KC_X11, rfl, rfl, by decide, fl_X11_25⟩
theorem fl_X11_28 : Cond.fieldLink RX11 28 "SideWorkModel" "placeNumber" "[I" ∈ wsG := inT4 (List.mem_of_getElem? (i := 110) rfl) rfl
theorem fg_X11_28 : FG LyM RX11 28 0 9 9 := ⟨10, RX11, TX11, 56, tyX11, _, KC_X11, rfl, rfl, by decide, fl_X11_28⟩
theorem fl_X11_31 : Cond.fieldLink RX11 31 "SideWorkModel" "laterAct" "[I" ∈ wsG := inT4 (List.mem_of_getElem? (i := 111) rfl) rfl
theorem fg_X11_31 : FG LyM RX11 31 0 10 10 := ⟨10, RX11, TX11, 56, tyX11, _, KC_X11, rfl, rfl, by decide, fl_X11_31⟩
theorem fl_X11_34 : Cond.fieldLink RX11 34 "SideWorkModel" "laterFrame" "[I" ∈ wsG := inT4 (List.mem_of_getElem? (i := 112) rfl) rfl
theorem fg_X11_34 : FG LyM RX11 34 0 11 11 := ⟨10, RX11, TX11, 56, tyX11, _, KC_X11, rfl, rfl, by decide, fl_X11_34⟩
theorem fl_X11_37 : Cond.fieldLink RX11 37 "SideWorkModel" "laterState" "[I" ∈ wsG := inT4 (List.mem_of_getElem? (i := 113) rfl) rfl
theorem fg_X11_37 : FG LyM RX11 37 0 12 12 := ⟨10, RX11, TX11, 56, tyX11, _, KC_X11, rfl, rfl, by decide, fl_X11_37⟩
theorem fl_X11_40 : Cond.fieldLink RX11 40 "SideWorkModel" "laterType" "[I" ∈ wsG := inT4 (List.mem_of_getElem? (i := 114) rfl) rfl
theorem fg_X11_40 : FG LyM RX11 40 0 13 13 := ⟨10, RX11, TX11, 56, tyX11, _, KC_X11, rfl, rfl, by decide, fl_X11_40⟩
theorem fl_X11_43 : Cond.fieldLink RX11 43 "SideWorkModel" "laterNumber" "[I" ∈ wsG := inT4 (List.mem_of_getElem? (i := 115) rfl) rfl
theorem fg_X11_43 : FG LyM RX11 43 0 14 14 := ⟨10, RX11, TX11, 56, tyX11, _, KC_X11, rfl, rfl, by decide, fl_X11_43⟩
theorem fl_X11_46 : Cond.fieldLink RX11 46 "SideWorkModel" "slotType" "[I" ∈ wsG := inT4 (List.mem_of_getElem? (i := 117) rfl) rfl
theorem fg_X11_46 : FG LyM RX11 46 0 16 15 := ⟨10, RX11, TX11, 56, tyX11, _, KC_X11, rfl, rfl, by decide, fl_X11_46⟩
theorem fl_X11_49 : Cond.fieldLink RX11 49 "SideWorkModel" "slotNumber" "[I" ∈ wsG := inT4 (List.mem_of_getElem? (i := 118) rfl) rfl
theorem fg_X11_49 : FG LyM RX11 49 0 17 16 := ⟨10, RX11, TX11, 56, tyX11, _, KC_X11, rfl, rfl, by decide, fl_X11_49⟩
theorem fl_X11_52 : Cond.fieldLink RX11 52 "SideWorkModel" "boxType" "[I" ∈ wsG := inT4 (List.mem_of_getElem? (i := 119) rfl) rfl
theorem fg_X11_52 : FG LyM RX11 52 0 18 17 := ⟨10, RX11, TX11, 56, tyX11, _, KC_X11, rfl, rfl, by decide, fl_X11_52⟩
theorem fl_X11_55 : Cond.fieldLink RX11 55 "SideWorkModel" "boxNumber" "[I" ∈ wsG := inT4 (List.mem_of_getElem? (i := 120) rfl) rfl
theorem fg_X11_55 : FG LyM RX11 55 0 19 18 := ⟨10, RX11, TX11, 56, tyX11, _, KC_X11, rfl, rfl, by decide, fl_X11_55⟩
theorem fl_X11_58 : Cond.fieldLink RX11 58 "SideWorkModel" "changed" "[I" ∈ wsG := inT4 (List.mem_of_getElem? (i := 122) rfl) rfl
theorem fg_X11_58 : FG LyM RX11 58 0 21 19 := ⟨10, RX11, TX11, 56, tyX11, _, KC_X11, rfl, rfl, by decide, fl_X11_58⟩
theorem fl_X11_61 : Cond.fieldLink RX11 61 "SideWorkModel" "wasType" "[I" ∈ wsG := inT4 (List.mem_of_getElem? (i := 123) rfl) rfl
theorem fg_X11_61 : FG LyM RX11 61 0 22 20 := ⟨10, RX11, TX11, 56, tyX11, _, KC_X11, rfl, rfl, by decide, fl_X11_61⟩
theorem fl_X11_64 : Cond.fieldLink RX11 64 "SideWorkModel" "wasNumber" "[I" ∈ wsG := inT4 (List.mem_of_getElem? (i := 124) rfl) rfl
theorem fg_X11_64 : FG LyM RX11 64 0 23 21 := ⟨10, RX11, TX11, 56, tyX11, _, KC_X11, rfl, rfl, by decide, fl_X11_64⟩
theorem fl_X11_67 : Cond.fieldLink RX11 67 "SideWorkModel" "toldRow" "[I" ∈ wsG := inT4 (List.mem_of_getElem? (i := 126) rfl) rfl
theorem fg_X11_67 : FG LyM RX11 67 0 25 22 := ⟨10, RX11, TX11, 56, tyX11, _, KC_X11, rfl, rfl, by decide, fl_X11_67⟩
theorem fl_X11_70 : Cond.fieldLink RX11 70 "SideWorkModel" "sAct" "[I" ∈ wsG := inT4 (List.mem_of_getElem? (i := 128) rfl) rfl
theorem fg_X11_70 : FG LyM RX11 70 0 27 23 := ⟨10, RX11, TX11, 56, tyX11, _, KC_X11, rfl, rfl, by decide, fl_X11_70⟩
theorem fl_X11_73 : Cond.fieldLink RX11 73 "SideWorkModel" "sPhase" "[I" ∈ wsG := inT4 (List.mem_of_getElem? (i := 129) rfl) rfl
theorem fg_X11_73 : FG LyM RX11 73 0 28 24 := ⟨10, RX11, TX11, 56, tyX11, _, KC_X11, rfl, rfl, by decide, fl_X11_73⟩
theorem fl_X11_76 : Cond.fieldLink RX11 76 "SideWorkModel" "sFrame" "[I" ∈ wsG := inT4 (List.mem_of_getElem? (i := 130) rfl) rfl
theorem fg_X11_76 : FG LyM RX11 76 0 29 25 := ⟨10, RX11, TX11, 56, tyX11, _, KC_X11, rfl, rfl, by decide, fl_X11_76⟩
theorem fl_X11_79 : Cond.fieldLink RX11 79 "SideWorkModel" "sTypeX" "[I" ∈ wsG := inT4 (List.mem_of_getElem? (i := 131) rfl) rfl
theorem fg_X11_79 : FG LyM RX11 79 0 30 26 := ⟨10, RX11, TX11, 56, tyX11, _, KC_X11, rfl, rfl, by decide, fl_X11_79⟩
theorem fl_X11_82 : Cond.fieldLink RX11 82 "SideWorkModel" "sNumberX" "[I" ∈ wsG := inT4 (List.mem_of_getElem? (i := 132) rfl) rfl
theorem fg_X11_82 : FG LyM RX11 82 0 31 27 := ⟨10, RX11, TX11, 56, tyX11, _, KC_X11, rfl, rfl, by decide, fl_X11_82⟩
theorem fl_X11_85 : Cond.fieldLink RX11 85 "SideWorkModel" "sTypeY" "[I" ∈ wsG := inT4 (List.mem_of_getElem? (i := 133) rfl) rfl
theorem fg_X11_85 : FG LyM RX11 85 0 32 28 := ⟨10, RX11, TX11, 56, tyX11, _, KC_X11, rfl, rfl, by decide, fl_X11_85⟩
theorem fl_X11_88 : Cond.fieldLink RX11 88 "SideWorkModel" "sNumberY" "[I" ∈ wsG := inT4 (List.mem_of_getElem? (i := 134) rfl) rfl
theorem fg_X11_88 : FG LyM RX11 88 0 33 29 := ⟨10, RX11, TX11, 56, tyX11, _, KC_X11, rfl, rfl, by decide, fl_X11_88⟩
theorem fl_X11_91 : Cond.fieldLink RX11 91 "SideWorkModel" "sMark" "[I" ∈ wsG := inT4 (List.mem_of_getElem? (i := 135) rfl) rfl
theorem fg_X11_91 : FG LyM RX11 91 0 34 30 := ⟨10, RX11, TX11, 56, tyX11, _, KC_X11, rfl, rfl, by decide, fl_X11_91⟩
theorem fl_X11_94 : Cond.fieldLink RX11 94 "SideWorkModel" "sAt" "[I" ∈ wsG := inT4 (List.mem_of_getElem? (i := 136) rfl) rfl
theorem fg_X11_94 : FG LyM RX11 94 0 35 31 := ⟨10, RX11, TX11, 56, tyX11, _, KC_X11, rfl, rfl, by decide, fl_X11_94⟩
theorem fl_X11_97 : Cond.fieldLink RX11 97 "SideWorkModel" "endAt" "I" ∈ wsG := inT4 (List.mem_of_getElem? (i := 153) rfl) rfl
theorem fg_X11_97 : FG LyM RX11 97 0 52 0 := ⟨10, RX11, TX11, 56, tyX11, _, KC_X11, rfl, rfl, by decide, fl_X11_97⟩
theorem fp_X11_97 : FP LyM RX11 97 0 52 0 := ⟨10, RX11, TX11, 56, tyX11, _, KC_X11, rfl, rfl, by decide, fl_X11_97, rfl, rfl⟩
theorem fl_X11_101 : Cond.fieldLink RX11 101 "SideWorkModel" "gaveType" "I" ∈ wsG := inT4 (List.mem_of_getElem? (i := 149) rfl) rfl
theorem fg_X11_101 : FG LyM RX11 101 0 48 0 := ⟨10, RX11, TX11, 56, tyX11, _, KC_X11, rfl, rfl, by decide, fl_X11_101⟩
theorem fp_X11_101 : FP LyM RX11 101 0 48 0 := ⟨10, RX11, TX11, 56, tyX11, _, KC_X11, rfl, rfl, by decide, fl_X11_101, rfl, rfl⟩
theorem fl_X11_104 : Cond.fieldLink RX11 104 "SideWorkModel" "acts" "I" ∈ wsG := inT4 (List.mem_of_getElem? (i := 101) rfl) rfl
theorem fg_X11_104 : FG LyM RX11 104 0 0 0 := ⟨10, RX11, TX11, 56, tyX11, _, KC_X11, rfl, rfl, by decide, fl_X11_104⟩
theorem fp_X11_104 : FP LyM RX11 104 0 0 0 := ⟨10, RX11, TX11, 56, tyX11, _, KC_X11, rfl, rfl, by decide, fl_X11_104, rfl, rfl⟩
theorem fl_X11_111 : Cond.fieldLink RX11 111 "SideWorkModel" "thrown" "I" ∈ wsG := inT4 (List.mem_of_getElem? (i := 156) rfl) rfl
theorem fg_X11_111 : FG LyM RX11 111 0 55 0 := ⟨10, RX11, TX11, 56, tyX11, _, KC_X11, rfl, rfl, by decide, fl_X11_111⟩
theorem fp_X11_111 : FP LyM RX11 111 0 55 0 := ⟨10, RX11, TX11, 56, tyX11, _, KC_X11, rfl, rfl, by decide, fl_X11_111, rfl, rfl⟩
theorem fl_X11_122 : Cond.fieldLink RX11 122 "SideWorkModel" "mode" "I" ∈ wsG := inT4 (List.mem_of_getElem? (i := 137) rfl) rfl
theorem fg_X11_122 : FG LyM RX11 122 0 36 0 := ⟨10, RX11, TX11, 56, tyX11, _, KC_X11, rfl, rfl, by decide, fl_X11_122⟩
theorem fp_X11_122 : FP LyM RX11 122 0 36 0 := ⟨10, RX11, TX11, 56, tyX11, _, KC_X11, rfl, rfl, by decide, fl_X11_122, rfl, rfl⟩
theorem fl_X11_125 : Cond.fieldLink RX11 125 "SideWorkModel" "vType" "I" ∈ wsG := inT4 (List.mem_of_getElem? (i := 140) rfl) rfl
theorem fg_X11_125 : FG LyM RX11 125 0 39 0 := ⟨10, RX11, TX11, 56, tyX11, _, KC_X11, rfl, rfl, by decide, fl_X11_125⟩
theorem fp_X11_125 : FP LyM RX11 125 0 39 0 := ⟨10, RX11, TX11, 56, tyX11, _, KC_X11, rfl, rfl, by decide, fl_X11_125, rfl, rfl⟩
theorem fl_X11_128 : Cond.fieldLink RX11 128 "SideWorkModel" "vNumber" "I" ∈ wsG := inT4 (List.mem_of_getElem? (i := 141) rfl) rfl
theorem fg_X11_128 : FG LyM RX11 128 0 40 0 := ⟨10, RX11, TX11, 56, tyX11, _, KC_X11, rfl, rfl, by decide, fl_X11_128⟩
theorem fp_X11_128 : FP LyM RX11 128 0 40 0 := ⟨10, RX11, TX11, 56, tyX11, _, KC_X11, rfl, rfl, by decide, fl_X11_128, rfl, rfl⟩
theorem fl_X11_131 : Cond.fieldLink RX11 131 "SideWorkModel" "nowAct" "I" ∈ wsG := inT4 (List.mem_of_getElem? (i := 138) rfl) rfl
theorem fg_X11_131 : FG LyM RX11 131 0 37 0 := ⟨10, RX11, TX11, 56, tyX11, _, KC_X11, rfl, rfl, by decide, fl_X11_131⟩
theorem fp_X11_131 : FP LyM RX11 131 0 37 0 := ⟨10, RX11, TX11, 56, tyX11, _, KC_X11, rfl, rfl, by decide, fl_X11_131, rfl, rfl⟩
theorem fl_X11_134 : Cond.fieldLink RX11 134 "SideWorkModel" "nowFrame" "I" ∈ wsG := inT4 (List.mem_of_getElem? (i := 139) rfl) rfl
theorem fg_X11_134 : FG LyM RX11 134 0 38 0 := ⟨10, RX11, TX11, 56, tyX11, _, KC_X11, rfl, rfl, by decide, fl_X11_134⟩
theorem fp_X11_134 : FP LyM RX11 134 0 38 0 := ⟨10, RX11, TX11, 56, tyX11, _, KC_X11, rfl, rfl, by decide, fl_X11_134, rfl, rfl⟩
theorem fl_X11_137 : Cond.fieldLink RX11 137 "SideWorkModel" "fKind" "I" ∈ wsG := inT4 (List.mem_of_getElem? (i := 142) rfl) rfl
theorem fg_X11_137 : FG LyM RX11 137 0 41 0 := ⟨10, RX11, TX11, 56, tyX11, _, KC_X11, rfl, rfl, by decide, fl_X11_137⟩
theorem fp_X11_137 : FP LyM RX11 137 0 41 0 := ⟨10, RX11, TX11, 56, tyX11, _, KC_X11, rfl, rfl, by decide, fl_X11_137, rfl, rfl⟩
theorem fl_X11_140 : Cond.fieldLink RX11 140 "SideWorkModel" "fCode" "I" ∈ wsG := inT4 (List.mem_of_getElem? (i := 143) rfl) rfl
theorem fg_X11_140 : FG LyM RX11 140 0 42 0 := ⟨10, RX11, TX11, 56, tyX11, _, KC_X11, rfl, rfl, by decide, fl_X11_140⟩
theorem fp_X11_140 : FP LyM RX11 140 0 42 0 := ⟨10, RX11, TX11, 56, tyX11, _, KC_X11, rfl, rfl, by decide, fl_X11_140, rfl, rfl⟩
theorem fl_X11_143 : Cond.fieldLink RX11 143 "SideWorkModel" "fAt" "I" ∈ wsG := inT4 (List.mem_of_getElem? (i := 144) rfl) rfl
theorem fg_X11_143 : FG LyM RX11 143 0 43 0 := ⟨10, RX11, TX11, 56, tyX11, _, KC_X11, rfl, rfl, by decide, fl_X11_143⟩
theorem fp_X11_143 : FP LyM RX11 143 0 43 0 := ⟨10, RX11, TX11, 56, tyX11, _, KC_X11, rfl, rfl, by decide, fl_X11_143, rfl, rfl⟩
theorem fl_X11_146 : Cond.fieldLink RX11 146 "SideWorkModel" "failures" "I" ∈ wsG := inT4 (List.mem_of_getElem? (i := 145) rfl) rfl
theorem fg_X11_146 : FG LyM RX11 146 0 44 0 := ⟨10, RX11, TX11, 56, tyX11, _, KC_X11, rfl, rfl, by decide, fl_X11_146⟩
theorem fp_X11_146 : FP LyM RX11 146 0 44 0 := ⟨10, RX11, TX11, 56, tyX11, _, KC_X11, rfl, rfl, by decide, fl_X11_146, rfl, rfl⟩
theorem fl_X11_153 : Cond.fieldLink RX11 153 "SideWorkModel" "things" "I" ∈ wsG := inT4 (List.mem_of_getElem? (i := 107) rfl) rfl
theorem fg_X11_153 : FG LyM RX11 153 0 6 0 := ⟨10, RX11, TX11, 56, tyX11, _, KC_X11, rfl, rfl, by decide, fl_X11_153⟩
theorem fp_X11_153 : FP LyM RX11 153 0 6 0 := ⟨10, RX11, TX11, 56, tyX11, _, KC_X11, rfl, rfl, by decide, fl_X11_153, rfl, rfl⟩
theorem fl_X11_156 : Cond.fieldLink RX11 156 "SideWorkModel" "frames" "I" ∈ wsG := inT4 (List.mem_of_getElem? (i := 116) rfl) rfl
theorem fg_X11_156 : FG LyM RX11 156 0 15 0 := ⟨10, RX11, TX11, 56, tyX11, _, KC_X11, rfl, rfl, by decide, fl_X11_156⟩
theorem fp_X11_156 : FP LyM RX11 156 0 15 0 := ⟨10, RX11, TX11, 56, tyX11, _, KC_X11, rfl, rfl, by decide, fl_X11_156, rfl, rfl⟩
theorem fl_X11_159 : Cond.fieldLink RX11 159 "SideWorkModel" "changes" "I" ∈ wsG := inT4 (List.mem_of_getElem? (i := 121) rfl) rfl
theorem fg_X11_159 : FG LyM RX11 159 0 20 0 := ⟨10, RX11, TX11, 56, tyX11, _, KC_X11, rfl, rfl, by decide, fl_X11_159⟩
theorem fp_X11_159 : FP LyM RX11 159 0 20 0 := ⟨10, RX11, TX11, 56, tyX11, _, KC_X11, rfl, rfl, by decide, fl_X11_159, rfl, rfl⟩
theorem fl_X11_162 : Cond.fieldLink RX11 162 "SideWorkModel" "steps" "I" ∈ wsG := inT4 (List.mem_of_getElem? (i := 146) rfl) rfl
theorem fg_X11_162 : FG LyM RX11 162 0 45 0 := ⟨10, RX11, TX11, 56, tyX11, _, KC_X11, rfl, rfl, by decide, fl_X11_162⟩
theorem fp_X11_162 : FP LyM RX11 162 0 45 0 := ⟨10, RX11, TX11, 56, tyX11, _, KC_X11, rfl, rfl, by decide, fl_X11_162, rfl, rfl⟩
theorem fl_X11_165 : Cond.fieldLink RX11 165 "SideWorkModel" "most" "I" ∈ wsG := inT4 (List.mem_of_getElem? (i := 147) rfl) rfl
theorem fg_X11_165 : FG LyM RX11 165 0 46 0 := ⟨10, RX11, TX11, 56, tyX11, _, KC_X11, rfl, rfl, by decide, fl_X11_165⟩
theorem fp_X11_165 : FP LyM RX11 165 0 46 0 := ⟨10, RX11, TX11, 56, tyX11, _, KC_X11, rfl, rfl, by decide, fl_X11_165, rfl, rfl⟩
theorem fl_X11_174 : Cond.fieldLink RX11 174 "SideWorkModel" "top" "I" ∈ wsG := inT4 (List.mem_of_getElem? (i := 127) rfl) rfl
theorem fg_X11_174 : FG LyM RX11 174 0 26 0 := ⟨10, RX11, TX11, 56, tyX11, _, KC_X11, rfl, rfl, by decide, fl_X11_174⟩
theorem fp_X11_174 : FP LyM RX11 174 0 26 0 := ⟨10, RX11, TX11, 56, tyX11, _, KC_X11, rfl, rfl, by decide, fl_X11_174, rfl, rfl⟩
theorem fl_X11_230 : Cond.fieldLink RX11 230 "SideWorkModel" "tolds" "I" ∈ wsG := inT4 (List.mem_of_getElem? (i := 125) rfl) rfl
theorem fg_X11_230 : FG LyM RX11 230 0 24 0 := ⟨10, RX11, TX11, 56, tyX11, _, KC_X11, rfl, rfl, by decide, fl_X11_230⟩
theorem fp_X11_230 : FP LyM RX11 230 0 24 0 := ⟨10, RX11, TX11, 56, tyX11, _, KC_X11, rfl, rfl, by decide, fl_X11_230, rfl, rfl⟩
theorem fl_X11_236 : Cond.fieldLink RX11 236 "SideWorkModel" "deep" "I" ∈ wsG := inT4 (List.mem_of_getElem? (i := 148) rfl) rfl
theorem fg_X11_236 : FG LyM RX11 236 0 47 0 := ⟨10, RX11, TX11, 56, tyX11, _, KC_X11, rfl, rfl, by decide, fl_X11_236⟩
theorem fp_X11_236 : FP LyM RX11 236 0 47 0 := ⟨10, RX11, TX11, 56, tyX11, _, KC_X11, rfl, rfl, by decide, fl_X11_236, rfl, rfl⟩
theorem fl_X11_258 : Cond.fieldLink RX11 258 "SideWorkModel" "runs" "I" ∈ wsG := inT4 (List.mem_of_getElem? (i := 106) rfl) rfl
theorem fg_X11_258 : FG LyM RX11 258 0 5 0 := ⟨10, RX11, TX11, 56, tyX11, _, KC_X11, rfl, rfl, by decide, fl_X11_258⟩
theorem fp_X11_258 : FP LyM RX11 258 0 5 0 := ⟨10, RX11, TX11, 56, tyX11, _, KC_X11, rfl, rfl, by decide, fl_X11_258, rfl, rfl⟩
theorem fl_X11_270 : Cond.fieldLink RX11 270 "SideWorkModel" "endSteps" "I" ∈ wsG := inT4 (List.mem_of_getElem? (i := 154) rfl) rfl
theorem fg_X11_270 : FG LyM RX11 270 0 53 0 := ⟨10, RX11, TX11, 56, tyX11, _, KC_X11, rfl, rfl, by decide, fl_X11_270⟩
theorem fp_X11_270 : FP LyM RX11 270 0 53 0 := ⟨10, RX11, TX11, 56, tyX11, _, KC_X11, rfl, rfl, by decide, fl_X11_270, rfl, rfl⟩
theorem fl_X11_273 : Cond.fieldLink RX11 273 "SideWorkModel" "endFailures" "I" ∈ wsG := inT4 (List.mem_of_getElem? (i := 155) rfl) rfl
theorem fg_X11_273 : FG LyM RX11 273 0 54 0 := ⟨10, RX11, TX11, 56, tyX11, _, KC_X11, rfl, rfl, by decide, fl_X11_273⟩
theorem fp_X11_273 : FP LyM RX11 273 0 54 0 := ⟨10, RX11, TX11, 56, tyX11, _, KC_X11, rfl, rfl, by decide, fl_X11_273, rfl, rfl⟩
theorem fl_X11_276 : Cond.fieldLink RX11 276 "SideWorkModel" "gaveNumber" "I" ∈ wsG := inT4 (List.mem_of_getElem? (i := 150) rfl) rfl
theorem fg_X11_276 : FG LyM RX11 276 0 49 0 := ⟨10, RX11, TX11, 56, tyX11, _, KC_X11, rfl, rfl, by decide, fl_X11_276⟩
theorem fp_X11_276 : FP LyM RX11 276 0 49 0 := ⟨10, RX11, TX11, 56, tyX11, _, KC_X11, rfl, rfl, by decide, fl_X11_276, rfl, rfl⟩
theorem fl_X11_279 : Cond.fieldLink RX11 279 "SideWorkModel" "endKind" "I" ∈ wsG := inT4 (List.mem_of_getElem? (i := 151) rfl) rfl
theorem fg_X11_279 : FG LyM RX11 279 0 50 0 := ⟨10, RX11, TX11, 56, tyX11, _, KC_X11, rfl, rfl, by decide, fl_X11_279⟩
theorem fp_X11_279 : FP LyM RX11 279 0 50 0 := ⟨10, RX11, TX11, 56, tyX11, _, KC_X11, rfl, rfl, by decide, fl_X11_279, rfl, rfl⟩
theorem fl_X11_282 : Cond.fieldLink RX11 282 "SideWorkModel" "endCode" "I" ∈ wsG := inT4 (List.mem_of_getElem? (i := 152) rfl) rfl
theorem fg_X11_282 : FG LyM RX11 282 0 51 0 := ⟨10, RX11, TX11, 56, tyX11, _, KC_X11, rfl, rfl, by decide, fl_X11_282⟩
theorem fp_X11_282 : FP LyM RX11 282 0 51 0 := ⟨10, RX11, TX11, 56, tyX11, _, KC_X11, rfl, rfl, by decide, fl_X11_282, rfl, rfl⟩
theorem fl_X0_11 : Cond.fieldLink RX0 11 "SideWork$Acts" "givens" "[I" ∈ wsG := inT1 (List.mem_of_getElem? (i := 33) rfl) rfl
theorem fg_X0_11 : FG LyC RX0 11 1 0 4 := ⟨2, RX0, TX0, 4, tyX0, _, KC_X0, rfl, rfl, by decide, fl_X0_11⟩
theorem fl_X0_15 : Cond.fieldLink RX0 15 "SideWork$Acts" "parts" "[I" ∈ wsG := inT1 (List.mem_of_getElem? (i := 34) rfl) rfl
theorem fg_X0_15 : FG LyC RX0 15 1 1 5 := ⟨2, RX0, TX0, 4, tyX0, _, KC_X0, rfl, rfl, by decide, fl_X0_15⟩
theorem fl_X0_18 : Cond.fieldLink RX0 18 "SideWork$Acts" "aheads" "[I" ∈ wsG := inT1 (List.mem_of_getElem? (i := 35) rfl) rfl
theorem fg_X0_18 : FG LyC RX0 18 1 2 6 := ⟨2, RX0, TX0, 4, tyX0, _, KC_X0, rfl, rfl, by decide, fl_X0_18⟩
theorem fl_X0_21 : Cond.fieldLink RX0 21 "SideWork$Acts" "size" "I" ∈ wsG := inT1 (List.mem_of_getElem? (i := 36) rfl) rfl
theorem fg_X0_21 : FG LyC RX0 21 1 3 0 := ⟨2, RX0, TX0, 4, tyX0, _, KC_X0, rfl, rfl, by decide, fl_X0_21⟩
theorem fp_X0_21 : FP LyC RX0 21 1 3 0 := ⟨2, RX0, TX0, 4, tyX0, _, KC_X0, rfl, rfl, by decide, fl_X0_21, rfl, rfl⟩
theorem fl_X0_31 : Cond.fieldLink RX0 31 "SideWork$Acts" "MEANINGS" "[I" ∈ wsG := inT2 (List.mem_of_getElem? (i := 23) rfl) rfl
theorem fl_X0_41 : Cond.fieldLink RX0 41 "SideWork$Acts" "GREATEST" "[I" ∈ wsG := inT2 (List.mem_of_getElem? (i := 37) rfl) rfl
theorem fl_X1_13 : Cond.fieldLink RX1 13 "SideWork$Course" "limit" "I" ∈ wsG := inT1 (List.mem_of_getElem? (i := 101) rfl) rfl
theorem fg_X1_13 : FG LyC RX1 13 10 0 0 := ⟨3, RX1, TX1, 7, tyX1, _, KC_X1, rfl, rfl, by decide, fl_X1_13⟩
theorem fp_X1_13 : FP LyC RX1 13 10 0 0 := ⟨3, RX1, TX1, 7, tyX1, _, KC_X1, rfl, rfl, by decide, fl_X1_13, rfl, rfl⟩
theorem fl_X1_17 : Cond.fieldLink RX1 17 "SideWork$Course" "steps" "I" ∈ wsG := inT1 (List.mem_of_getElem? (i := 102) rfl) rfl
theorem fg_X1_17 : FG LyC RX1 17 10 1 0 := ⟨3, RX1, TX1, 7, tyX1, _, KC_X1, rfl, rfl, by decide, fl_X1_17⟩
theorem fp_X1_17 : FP LyC RX1 17 10 1 0 := ⟨3, RX1, TX1, 7, tyX1, _, KC_X1, rfl, rfl, by decide, fl_X1_17, rfl, rfl⟩
theorem fl_X1_20 : Cond.fieldLink RX1 20 "SideWork$Course" "failures" "I" ∈ wsG := inT1 (List.mem_of_getElem? (i := 104) rfl) rfl
theorem fg_X1_20 : FG LyC RX1 20 10 2 0 := ⟨3, RX1, TX1, 7, tyX1, _, KC_X1, rfl, rfl, by decide, fl_X1_20⟩
theorem fp_X1_20 : FP LyC RX1 20 10 2 0 := ⟨3, RX1, TX1, 7, tyX1, _, KC_X1, rfl, rfl, by decide, fl_X1_20, rfl, rfl⟩
theorem fl_X1_27 : Cond.fieldLink RX1 27 "SideWork$Course" "value" "J" ∈ wsG := inT1 (List.mem_of_getElem? (i := 117) rfl) rfl
theorem fg_X1_27 : FG LyC RX1 27 10 6 1 := ⟨3, RX1, TX1, 7, tyX1, _, KC_X1, rfl, rfl, by decide, fl_X1_27⟩
theorem fp_X1_27 : FP LyC RX1 27 10 6 1 := ⟨3, RX1, TX1, 7, tyX1, _, KC_X1, rfl, rfl, by decide, fl_X1_27, rfl, rfl⟩
theorem fl_X1_38 : Cond.fieldLink RX1 38 "SideWork$Course" "ending" "I" ∈ wsG := inT1 (List.mem_of_getElem? (i := 107) rfl) rfl
theorem fg_X1_38 : FG LyC RX1 38 10 3 0 := ⟨3, RX1, TX1, 7, tyX1, _, KC_X1, rfl, rfl, by decide, fl_X1_38⟩
theorem fp_X1_38 : FP LyC RX1 38 10 3 0 := ⟨3, RX1, TX1, 7, tyX1, _, KC_X1, rfl, rfl, by decide, fl_X1_38, rfl, rfl⟩
theorem fl_X1_41 : Cond.fieldLink RX1 41 "SideWork$Course" "code" "I" ∈ wsG := inT1 (List.mem_of_getElem? (i := 110) rfl) rfl
theorem fg_X1_41 : FG LyC RX1 41 10 4 0 := ⟨3, RX1, TX1, 7, tyX1, _, KC_X1, rfl, rfl, by decide, fl_X1_41⟩
theorem fp_X1_41 : FP LyC RX1 41 10 4 0 := ⟨3, RX1, TX1, 7, tyX1, _, KC_X1, rfl, rfl, by decide, fl_X1_41, rfl, rfl⟩
theorem fl_X1_44 : Cond.fieldLink RX1 44 "SideWork$Course" "at" "I" ∈ wsG := inT1 (List.mem_of_getElem? (i := 114) rfl) rfl
theorem fg_X1_44 : FG LyC RX1 44 10 5 0 := ⟨3, RX1, TX1, 7, tyX1, _, KC_X1, rfl, rfl, by decide, fl_X1_44⟩
theorem fp_X1_44 : FP LyC RX1 44 10 5 0 := ⟨3, RX1, TX1, 7, tyX1, _, KC_X1, rfl, rfl, by decide, fl_X1_44, rfl, rfl⟩
theorem fl_X3_11 : Cond.fieldLink RX3 11 "SideWork$Frames" "slots" "[J" ∈ wsG := inT1 (List.mem_of_getElem? (i := 141) rfl) rfl
theorem fg_X3_11 : FG LyC RX3 11 12 0 15 := ⟨4, RX3, TX3, 2, tyX3, _, KC_X3, rfl, rfl, by decide, fl_X3_11⟩
theorem fl_X3_15 : Cond.fieldLink RX3 15 "SideWork$Frames" "made" "I" ∈ wsG := inT1 (List.mem_of_getElem? (i := 142) rfl) rfl
theorem fg_X3_15 : FG LyC RX3 15 12 1 0 := ⟨4, RX3, TX3, 2, tyX3, _, KC_X3, rfl, rfl, by decide, fl_X3_15⟩
theorem fp_X3_15 : FP LyC RX3 15 12 1 0 := ⟨4, RX3, TX3, 2, tyX3, _, KC_X3, rfl, rfl, by decide, fl_X3_15, rfl, rfl⟩
theorem fl_X5_9 : Cond.fieldLink RX5 9 "SideWork$Laters" "acts" "[I" ∈ wsG := inT1 (List.mem_of_getElem? (i := 154) rfl) rfl
theorem fg_X5_9 : FG LyC RX5 9 14 0 17 := ⟨5, RX5, TX5, 7, tyX5, _, KC_X5, rfl, rfl, by decide, fl_X5_9⟩
theorem fl_X5_15 : Cond.fieldLink RX5 15 "SideWork$Laters" "frames" "[I" ∈ wsG := inT1 (List.mem_of_getElem? (i := 155) rfl) rfl
theorem fg_X5_15 : FG LyC RX5 15 14 1 18 := ⟨5, RX5, TX5, 7, tyX5, _, KC_X5, rfl, rfl, by decide, fl_X5_15⟩
theorem fl_X5_18 : Cond.fieldLink RX5 18 "SideWork$Laters" "states" "[I" ∈ wsG := inT1 (List.mem_of_getElem? (i := 156) rfl) rfl
theorem fg_X5_18 : FG LyC RX5 18 14 2 19 := ⟨5, RX5, TX5, 7, tyX5, _, KC_X5, rfl, rfl, by decide, fl_X5_18⟩
theorem fl_X5_21 : Cond.fieldLink RX5 21 "SideWork$Laters" "failures" "[I" ∈ wsG := inT1 (List.mem_of_getElem? (i := 157) rfl) rfl
theorem fg_X5_21 : FG LyC RX5 21 14 3 20 := ⟨5, RX5, TX5, 7, tyX5, _, KC_X5, rfl, rfl, by decide, fl_X5_21⟩
theorem fl_X5_24 : Cond.fieldLink RX5 24 "SideWork$Laters" "codes" "[I" ∈ wsG := inT1 (List.mem_of_getElem? (i := 158) rfl) rfl
theorem fg_X5_24 : FG LyC RX5 24 14 4 21 := ⟨5, RX5, TX5, 7, tyX5, _, KC_X5, rfl, rfl, by decide, fl_X5_24⟩
theorem fl_X5_27 : Cond.fieldLink RX5 27 "SideWork$Laters" "values" "[J" ∈ wsG := inT1 (List.mem_of_getElem? (i := 159) rfl) rfl
theorem fg_X5_27 : FG LyC RX5 27 14 5 22 := ⟨5, RX5, TX5, 7, tyX5, _, KC_X5, rfl, rfl, by decide, fl_X5_27⟩
theorem fl_X5_31 : Cond.fieldLink RX5 31 "SideWork$Laters" "made" "I" ∈ wsG := inT1 (List.mem_of_getElem? (i := 160) rfl) rfl
theorem fg_X5_31 : FG LyC RX5 31 14 6 0 := ⟨5, RX5, TX5, 7, tyX5, _, KC_X5, rfl, rfl, by decide, fl_X5_31⟩
theorem fp_X5_31 : FP LyC RX5 31 14 6 0 := ⟨5, RX5, TX5, 7, tyX5, _, KC_X5, rfl, rfl, by decide, fl_X5_31, rfl, rfl⟩
theorem fl_X6_7 : Cond.fieldLink RX6 7 "SideWork$Machine" "acts" "LSideWork$Acts;" ∈ wsG := inT1 (List.mem_of_getElem? (i := 213) rfl) rfl
theorem fg_X6_7 : FG LyC RX6 7 5 0 3 := ⟨6, RX6, TX6, 9, tyX6, _, KC_X6, rfl, rfl, by decide, fl_X6_7⟩
theorem fl_X6_16 : Cond.fieldLink RX6 16 "SideWork$Machine" "memory" "LSideWork$Memory;" ∈ wsG := inT1 (List.mem_of_getElem? (i := 214) rfl) rfl
theorem fg_X6_16 : FG LyC RX6 16 5 1 8 := ⟨6, RX6, TX6, 9, tyX6, _, KC_X6, rfl, rfl, by decide, fl_X6_16⟩
theorem fl_X6_23 : Cond.fieldLink RX6 23 "SideWork$Machine" "course" "LSideWork$Course;" ∈ wsG := inT1 (List.mem_of_getElem? (i := 216) rfl) rfl
theorem fg_X6_23 : FG LyC RX6 23 5 2 12 := ⟨6, RX6, TX6, 9, tyX6, _, KC_X6, rfl, rfl, by decide, fl_X6_23⟩
theorem fl_X6_27 : Cond.fieldLink RX6 27 "SideWork$Machine" "outRow" "[I" ∈ wsG := inT1 (List.mem_of_getElem? (i := 218) rfl) rfl
theorem fg_X6_27 : FG LyC RX6 27 5 3 13 := ⟨6, RX6, TX6, 9, tyX6, _, KC_X6, rfl, rfl, by decide, fl_X6_27⟩
theorem fl_X6_31 : Cond.fieldLink RX6 31 "SideWork$Machine" "outSize" "I" ∈ wsG := inT1 (List.mem_of_getElem? (i := 220) rfl) rfl
theorem fg_X6_31 : FG LyC RX6 31 5 4 0 := ⟨6, RX6, TX6, 9, tyX6, _, KC_X6, rfl, rfl, by decide, fl_X6_31⟩
theorem fp_X6_31 : FP LyC RX6 31 5 4 0 := ⟨6, RX6, TX6, 9, tyX6, _, KC_X6, rfl, rfl, by decide, fl_X6_31, rfl, rfl⟩
theorem fl_X6_38 : Cond.fieldLink RX6 38 "SideWork$Machine" "frames" "LSideWork$Frames;" ∈ wsG := inT1 (List.mem_of_getElem? (i := 222) rfl) rfl
theorem fg_X6_38 : FG LyC RX6 38 5 5 14 := ⟨6, RX6, TX6, 9, tyX6, _, KC_X6, rfl, rfl, by decide, fl_X6_38⟩
theorem fl_X6_45 : Cond.fieldLink RX6 45 "SideWork$Machine" "laters" "LSideWork$Laters;" ∈ wsG := inT1 (List.mem_of_getElem? (i := 223) rfl) rfl
theorem fg_X6_45 : FG LyC RX6 45 5 6 16 := ⟨6, RX6, TX6, 9, tyX6, _, KC_X6, rfl, rfl, by decide, fl_X6_45⟩
theorem fl_X6_52 : Cond.fieldLink RX6 52 "SideWork$Machine" "stack" "LSideWork$Stack;" ∈ wsG := inT1 (List.mem_of_getElem? (i := 224) rfl) rfl
theorem fg_X6_52 : FG LyC RX6 52 5 7 23 := ⟨6, RX6, TX6, 9, tyX6, _, KC_X6, rfl, rfl, by decide, fl_X6_52⟩
theorem fl_X6_56 : Cond.fieldLink RX6 56 "SideWork$Machine" "calls" "I" ∈ wsG := inT1 (List.mem_of_getElem? (i := 225) rfl) rfl
theorem fg_X6_56 : FG LyC RX6 56 5 8 0 := ⟨6, RX6, TX6, 9, tyX6, _, KC_X6, rfl, rfl, by decide, fl_X6_56⟩
theorem fp_X6_56 : FP LyC RX6 56 5 8 0 := ⟨6, RX6, TX6, 9, tyX6, _, KC_X6, rfl, rfl, by decide, fl_X6_56, rfl, rfl⟩
theorem fl_X6_82 : Cond.fieldLink RX6 82 "SideWork$Course" "ending" "I" ∈ wsG := inT1 (List.mem_of_getElem? (i := 106) rfl) rfl
theorem fg_X6_82 : FG LyC RX6 82 10 3 0 := ⟨3, RX1, TX1, 7, tyX1, _, KC_X1, rfl, rfl, by decide, fl_X6_82⟩
theorem fp_X6_82 : FP LyC RX6 82 10 3 0 := ⟨3, RX1, TX1, 7, tyX1, _, KC_X1, rfl, rfl, by decide, fl_X6_82, rfl, rfl⟩
theorem fl_X6_120 : Cond.fieldLink RX6 120 "SideWork$Course" "value" "J" ∈ wsG := inT1 (List.mem_of_getElem? (i := 119) rfl) rfl
theorem fg_X6_120 : FG LyC RX6 120 10 6 1 := ⟨3, RX1, TX1, 7, tyX1, _, KC_X1, rfl, rfl, by decide, fl_X6_120⟩
theorem fp_X6_120 : FP LyC RX6 120 10 6 1 := ⟨3, RX1, TX1, 7, tyX1, _, KC_X1, rfl, rfl, by decide, fl_X6_120, rfl, rfl⟩
theorem fl_X6_331 : Cond.fieldLink RX6 331 "SideWork$Course" "code" "I" ∈ wsG := inT1 (List.mem_of_getElem? (i := 113) rfl) rfl
theorem fg_X6_331 : FG LyC RX6 331 10 4 0 := ⟨3, RX1, TX1, 7, tyX1, _, KC_X1, rfl, rfl, by decide, fl_X6_331⟩
theorem fp_X6_331 : FP LyC RX6 331 10 4 0 := ⟨3, RX1, TX1, 7, tyX1, _, KC_X1, rfl, rfl, by decide, fl_X6_331, rfl, rfl⟩
theorem fl_X7_11 : Cond.fieldLink RX7 11 "SideWork$Memory" "cells" "[J" ∈ wsG := inT1 (List.mem_of_getElem? (i := 65) rfl) rfl
theorem fg_X7_11 : FG LyC RX7 11 6 0 9 := ⟨7, RX7, TX7, 5, tyX7, _, KC_X7, rfl, rfl, by decide, fl_X7_11⟩
theorem fl_X7_15 : Cond.fieldLink RX7 15 "SideWork$Memory" "changedCells" "[I" ∈ wsG := inT1 (List.mem_of_getElem? (i := 66) rfl) rfl
theorem fg_X7_15 : FG LyC RX7 15 6 1 10 := ⟨7, RX7, TX7, 5, tyX7, _, KC_X7, rfl, rfl, by decide, fl_X7_15⟩
theorem fl_X7_19 : Cond.fieldLink RX7 19 "SideWork$Memory" "changedFrom" "[J" ∈ wsG := inT1 (List.mem_of_getElem? (i := 67) rfl) rfl
theorem fg_X7_19 : FG LyC RX7 19 6 2 11 := ⟨7, RX7, TX7, 5, tyX7, _, KC_X7, rfl, rfl, by decide, fl_X7_19⟩
theorem fl_X7_33 : Cond.fieldLink RX7 33 "SideWork$Memory" "used" "I" ∈ wsG := inT1 (List.mem_of_getElem? (i := 68) rfl) rfl
theorem fg_X7_33 : FG LyC RX7 33 6 3 0 := ⟨7, RX7, TX7, 5, tyX7, _, KC_X7, rfl, rfl, by decide, fl_X7_33⟩
theorem fp_X7_33 : FP LyC RX7 33 6 3 0 := ⟨7, RX7, TX7, 5, tyX7, _, KC_X7, rfl, rfl, by decide, fl_X7_33, rfl, rfl⟩
theorem fl_X7_37 : Cond.fieldLink RX7 37 "SideWork$Memory" "changes" "I" ∈ wsG := inT1 (List.mem_of_getElem? (i := 69) rfl) rfl
theorem fg_X7_37 : FG LyC RX7 37 6 4 0 := ⟨7, RX7, TX7, 5, tyX7, _, KC_X7, rfl, rfl, by decide, fl_X7_37⟩
theorem fp_X7_37 : FP LyC RX7 37 6 4 0 := ⟨7, RX7, TX7, 5, tyX7, _, KC_X7, rfl, rfl, by decide, fl_X7_37, rfl, rfl⟩
theorem fl_X8_9 : Cond.fieldLink RX8 9 "SideWork$Stack" "acts" "[I" ∈ wsG := inT1 (List.mem_of_getElem? (i := 182) rfl) rfl
theorem fg_X8_9 : FG LyC RX8 9 21 0 24 := ⟨8, RX8, TX8, 10, tyX8, _, KC_X8, rfl, rfl, by decide, fl_X8_9⟩
theorem fl_X8_15 : Cond.fieldLink RX8 15 "SideWork$Stack" "frames" "[I" ∈ wsG := inT1 (List.mem_of_getElem? (i := 183) rfl) rfl
theorem fg_X8_15 : FG LyC RX8 15 21 1 25 := ⟨8, RX8, TX8, 10, tyX8, _, KC_X8, rfl, rfl, by decide, fl_X8_15⟩
theorem fl_X8_18 : Cond.fieldLink RX8 18 "SideWork$Stack" "stages" "[I" ∈ wsG := inT1 (List.mem_of_getElem? (i := 184) rfl) rfl
theorem fg_X8_18 : FG LyC RX8 18 21 2 26 := ⟨8, RX8, TX8, 10, tyX8, _, KC_X8, rfl, rfl, by decide, fl_X8_18⟩
theorem fl_X8_21 : Cond.fieldLink RX8 21 "SideWork$Stack" "partValues" "[J" ∈ wsG := inT1 (List.mem_of_getElem? (i := 185) rfl) rfl
theorem fg_X8_21 : FG LyC RX8 21 21 3 27 := ⟨8, RX8, TX8, 10, tyX8, _, KC_X8, rfl, rfl, by decide, fl_X8_21⟩
theorem fl_X8_25 : Cond.fieldLink RX8 25 "SideWork$Stack" "marks" "[I" ∈ wsG := inT1 (List.mem_of_getElem? (i := 186) rfl) rfl
theorem fg_X8_25 : FG LyC RX8 25 21 4 28 := ⟨8, RX8, TX8, 10, tyX8, _, KC_X8, rfl, rfl, by decide, fl_X8_25⟩
theorem fl_X8_28 : Cond.fieldLink RX8 28 "SideWork$Stack" "heldFailures" "[I" ∈ wsG := inT1 (List.mem_of_getElem? (i := 187) rfl) rfl
theorem fg_X8_28 : FG LyC RX8 28 21 5 29 := ⟨8, RX8, TX8, 10, tyX8, _, KC_X8, rfl, rfl, by decide, fl_X8_28⟩
theorem fl_X8_31 : Cond.fieldLink RX8 31 "SideWork$Stack" "heldCodes" "[I" ∈ wsG := inT1 (List.mem_of_getElem? (i := 188) rfl) rfl
theorem fg_X8_31 : FG LyC RX8 31 21 6 30 := ⟨8, RX8, TX8, 10, tyX8, _, KC_X8, rfl, rfl, by decide, fl_X8_31⟩
theorem fl_X8_34 : Cond.fieldLink RX8 34 "SideWork$Stack" "heldAts" "[I" ∈ wsG := inT1 (List.mem_of_getElem? (i := 189) rfl) rfl
theorem fg_X8_34 : FG LyC RX8 34 21 7 31 := ⟨8, RX8, TX8, 10, tyX8, _, KC_X8, rfl, rfl, by decide, fl_X8_34⟩
theorem fl_X8_37 : Cond.fieldLink RX8 37 "SideWork$Stack" "height" "I" ∈ wsG := inT1 (List.mem_of_getElem? (i := 190) rfl) rfl
theorem fg_X8_37 : FG LyC RX8 37 21 8 0 := ⟨8, RX8, TX8, 10, tyX8, _, KC_X8, rfl, rfl, by decide, fl_X8_37⟩
theorem fp_X8_37 : FP LyC RX8 37 21 8 0 := ⟨8, RX8, TX8, 10, tyX8, _, KC_X8, rfl, rfl, by decide, fl_X8_37, rfl, rfl⟩
theorem fl_X8_41 : Cond.fieldLink RX8 41 "SideWork$Stack" "top" "I" ∈ wsG := inT1 (List.mem_of_getElem? (i := 191) rfl) rfl
theorem fg_X8_41 : FG LyC RX8 41 21 9 0 := ⟨8, RX8, TX8, 10, tyX8, _, KC_X8, rfl, rfl, by decide, fl_X8_41⟩
theorem fp_X8_41 : FP LyC RX8 41 21 9 0 := ⟨8, RX8, TX8, 10, tyX8, _, KC_X8, rfl, rfl, by decide, fl_X8_41, rfl, rfl⟩
theorem fl_X8_48 : Cond.fieldLink RX8 48 "SideWork$Course" "ending" "I" ∈ wsG := inT1 (List.mem_of_getElem? (i := 109) rfl) rfl
theorem fg_X8_48 : FG LyC RX8 48 10 3 0 := ⟨3, RX1, TX1, 7, tyX1, _, KC_X1, rfl, rfl, by decide, fl_X8_48⟩
theorem fp_X8_48 : FP LyC RX8 48 10 3 0 := ⟨3, RX1, TX1, 7, tyX1, _, KC_X1, rfl, rfl, by decide, fl_X8_48, rfl, rfl⟩
theorem fl_X8_53 : Cond.fieldLink RX8 53 "SideWork$Course" "code" "I" ∈ wsG := inT1 (List.mem_of_getElem? (i := 112) rfl) rfl
theorem fg_X8_53 : FG LyC RX8 53 10 4 0 := ⟨3, RX1, TX1, 7, tyX1, _, KC_X1, rfl, rfl, by decide, fl_X8_53⟩
theorem fp_X8_53 : FP LyC RX8 53 10 4 0 := ⟨3, RX1, TX1, 7, tyX1, _, KC_X1, rfl, rfl, by decide, fl_X8_53, rfl, rfl⟩
theorem fl_X8_56 : Cond.fieldLink RX8 56 "SideWork$Course" "at" "I" ∈ wsG := inT1 (List.mem_of_getElem? (i := 116) rfl) rfl
theorem fg_X8_56 : FG LyC RX8 56 10 5 0 := ⟨3, RX1, TX1, 7, tyX1, _, KC_X1, rfl, rfl, by decide, fl_X8_56⟩
theorem fp_X8_56 : FP LyC RX8 56 10 5 0 := ⟨3, RX1, TX1, 7, tyX1, _, KC_X1, rfl, rfl, by decide, fl_X8_56, rfl, rfl⟩
theorem cl_X1_25 : Cond.constantLong RX1 25 (4294967296 : Int64) ∈ wsG := inT1 (List.mem_of_getElem? (i := 92) rfl) rfl
theorem cl_X2_56 : Cond.constantLong RX2 56 (4294967296 : Int64) ∈ wsG := inT2 (List.mem_of_getElem? (i := 239) rfl) rfl
theorem cl_X3_21 : Cond.constantLong RX3 21 (4294967296 : Int64) ∈ wsG := inT2 (List.mem_of_getElem? (i := 86) rfl) rfl
theorem cl_X5_37 : Cond.constantLong RX5 37 (4294967296 : Int64) ∈ wsG := inT3 (List.mem_of_getElem? (i := 107) rfl) rfl
theorem ci_X6_77 : Cond.constant RX6 77 (100000 : Int32) ∈ wsG := inT2 (List.mem_of_getElem? (i := 103) rfl) rfl
theorem cl_X6_218 : Cond.constantLong RX6 218 (4294967296 : Int64) ∈ wsG := inT3 (List.mem_of_getElem? (i := 89) rfl) rfl
theorem cl_X7_31 : Cond.constantLong RX7 31 (4294967296 : Int64) ∈ wsG := inT1 (List.mem_of_getElem? (i := 64) rfl) rfl
theorem cl_X8_46 : Cond.constantLong RX8 46 (4294967296 : Int64) ∈ wsG := inT2 (List.mem_of_getElem? (i := 170) rfl) rfl
theorem cl_X9_7 : Cond.constantLong RX9 7 (4294967295 : Int64) ∈ wsG := inT2 (List.mem_of_getElem? (i := 140) rfl) rfl
abbrev mX0_init : Mi := (yX0_init, cX0_init, 1, none)
theorem mk_X0_init : MK mX0_init 0 := ⟨⟨by decide +kernel, by decide +kernel, by decide +kernel⟩, inT1 (List.mem_of_getElem? (i := 31) rfl) rfl, inT1 (List.mem_of_getElem? (i := 2) rfl) rfl⟩
abbrev mX0_has : Mi := (yX0_has, cX0_has, 2, (some .boolean))
theorem mk_X0_has : MK mX0_has 1 := ⟨⟨by decide +kernel, by decide +kernel, by decide +kernel⟩, inT2 (List.mem_of_getElem? (i := 32) rfl) rfl, inT1 (List.mem_of_getElem? (i := 2) rfl) rfl⟩
theorem mv_X0_has : MV mX0_has 1 := ⟨mk_X0_has, inT2 (List.mem_of_getElem? (i := 30) rfl) rfl, inT2 (List.mem_of_getElem? (i := 31) rfl) rfl⟩
abbrev mX0_given : Mi := (yX0_given, cX0_given, 3, (some .int))
theorem mk_X0_given : MK mX0_given 2 := ⟨⟨by decide +kernel, by decide +kernel, by decide +kernel⟩, inT2 (List.mem_of_getElem? (i := 55) rfl) rfl, inT1 (List.mem_of_getElem? (i := 2) rfl) rfl⟩
theorem mv_X0_given : MV mX0_given 2 := ⟨mk_X0_given, inT2 (List.mem_of_getElem? (i := 53) rfl) rfl, inT2 (List.mem_of_getElem? (i := 54) rfl) rfl⟩
abbrev mX0_part : Mi := (yX0_part, cX0_part, 3, (some .int))
theorem mk_X0_part : MK mX0_part 2 := ⟨⟨by decide +kernel, by decide +kernel, by decide +kernel⟩, inT2 (List.mem_of_getElem? (i := 161) rfl) rfl, inT1 (List.mem_of_getElem? (i := 2) rfl) rfl⟩
theorem mv_X0_part : MV mX0_part 2 := ⟨mk_X0_part, inT2 (List.mem_of_getElem? (i := 159) rfl) rfl, inT2 (List.mem_of_getElem? (i := 160) rfl) rfl⟩
abbrev mX0_partsAhead : Mi := (yX0_partsAhead, cX0_partsAhead, 2, (some .int))
theorem mk_X0_partsAhead : MK mX0_partsAhead 1 := ⟨⟨by decide +kernel, by decide +kernel, by decide +kernel⟩, inT2 (List.mem_of_getElem? (i := 209) rfl) rfl, inT1 (List.mem_of_getElem? (i := 2) rfl) rfl⟩
theorem mv_X0_partsAhead : MV mX0_partsAhead 1 := ⟨mk_X0_partsAhead, inT2 (List.mem_of_getElem? (i := 207) rfl) rfl, inT2 (List.mem_of_getElem? (i := 208) rfl) rfl⟩
abbrev mX0_refusalOf : Mi := (yX0_refusalOf, cX0_refusalOf, 6, (some .int))
theorem mk_X0_refusalOf : MK mX0_refusalOf 4 := ⟨⟨by decide +kernel, by decide +kernel, by decide +kernel⟩, inT2 (List.mem_of_getElem? (i := 22) rfl) rfl, inT1 (List.mem_of_getElem? (i := 2) rfl) rfl⟩
theorem mv_X0_refusalOf : MV mX0_refusalOf 4 := ⟨mk_X0_refusalOf, inT2 (List.mem_of_getElem? (i := 20) rfl) rfl, inT2 (List.mem_of_getElem? (i := 21) rfl) rfl⟩
abbrev mX0_isUnknown : Mi := (yX0_isUnknown, cX0_isUnknown, 3, (some .boolean))
theorem mk_X0_isUnknown : MK mX0_isUnknown 2 := ⟨⟨by decide +kernel, by decide +kernel, by decide +kernel⟩, inT2 (List.mem_of_getElem? (i := 28) rfl) rfl, inT1 (List.mem_of_getElem? (i := 2) rfl) rfl⟩
theorem mv_X0_isUnknown : MV mX0_isUnknown 2 := ⟨mk_X0_isUnknown, inT2 (List.mem_of_getElem? (i := 27) rfl) rfl, inP1 (List.mem_of_getElem? (i := 0) rfl)⟩
abbrev mX0_isOutside : Mi := (yX0_isOutside, cX0_isOutside, 3, (some .boolean))
theorem mk_X0_isOutside : MK mX0_isOutside 2 := ⟨⟨by decide +kernel, by decide +kernel, by decide +kernel⟩, inT2 (List.mem_of_getElem? (i := 36) rfl) rfl, inT1 (List.mem_of_getElem? (i := 2) rfl) rfl⟩
theorem mv_X0_isOutside : MV mX0_isOutside 2 := ⟨mk_X0_isOutside, inT2 (List.mem_of_getElem? (i := 35) rfl) rfl, inP1 (List.mem_of_getElem? (i := 1) rfl)⟩
abbrev mX0_add : Mi := (yX0_add, cX0_add, 6, (some .int))
theorem mk_X0_add : MK mX0_add 4 := ⟨⟨by decide +kernel, by decide +kernel, by decide +kernel⟩, inT2 (List.mem_of_getElem? (i := 42) rfl) rfl, inT1 (List.mem_of_getElem? (i := 2) rfl) rfl⟩
theorem mv_X0_add : MV mX0_add 4 := ⟨mk_X0_add, inT2 (List.mem_of_getElem? (i := 40) rfl) rfl, inT2 (List.mem_of_getElem? (i := 41) rfl) rfl⟩
abbrev mX0_sortParts : Mi := (yX0_sortParts, cX0_sortParts, 7, none)
theorem mk_X0_sortParts : MK mX0_sortParts 2 := ⟨⟨by decide +kernel, by decide +kernel, by decide +kernel⟩, inT2 (List.mem_of_getElem? (i := 46) rfl) rfl, inT1 (List.mem_of_getElem? (i := 2) rfl) rfl⟩
theorem mv_X0_sortParts : MV mX0_sortParts 2 := ⟨mk_X0_sortParts, inT2 (List.mem_of_getElem? (i := 45) rfl) rfl, inP1 (List.mem_of_getElem? (i := 2) rfl)⟩
abbrev mX1_init : Mi := (yX1_init, cX1_init, 1, none)
theorem mk_X1_init : MK mX1_init 0 := ⟨⟨by decide +kernel, by decide +kernel, by decide +kernel⟩, inT1 (List.mem_of_getElem? (i := 86) rfl) rfl, inT1 (List.mem_of_getElem? (i := 5) rfl) rfl⟩
abbrev mX1_restart : Mi := (yX1_restart, cX1_restart, 2, none)
theorem mk_X1_restart : MK mX1_restart 1 := ⟨⟨by decide +kernel, by decide +kernel, by decide +kernel⟩, inT1 (List.mem_of_getElem? (i := 91) rfl) rfl, inT1 (List.mem_of_getElem? (i := 5) rfl) rfl⟩
theorem mv_X1_restart : MV mX1_restart 1 := ⟨mk_X1_restart, inT1 (List.mem_of_getElem? (i := 89) rfl) rfl, inT1 (List.mem_of_getElem? (i := 90) rfl) rfl⟩
abbrev mX1_settle : Mi := (yX1_settle, cX1_settle, 1, none)
theorem mk_X1_settle : MK mX1_settle 0 := ⟨⟨by decide +kernel, by decide +kernel, by decide +kernel⟩, inT1 (List.mem_of_getElem? (i := 96) rfl) rfl, inT1 (List.mem_of_getElem? (i := 5) rfl) rfl⟩
theorem mv_X1_settle : MV mX1_settle 0 := ⟨mk_X1_settle, inT1 (List.mem_of_getElem? (i := 94) rfl) rfl, inT1 (List.mem_of_getElem? (i := 95) rfl) rfl⟩
abbrev mX1_goOn : Mi := (yX1_goOn, cX1_goOn, 4, none)
theorem mk_X1_goOn : MK mX1_goOn 3 := ⟨⟨by decide +kernel, by decide +kernel, by decide +kernel⟩, inT1 (List.mem_of_getElem? (i := 100) rfl) rfl, inT1 (List.mem_of_getElem? (i := 5) rfl) rfl⟩
theorem mv_X1_goOn : MV mX1_goOn 3 := ⟨mk_X1_goOn, inT1 (List.mem_of_getElem? (i := 98) rfl) rfl, inT1 (List.mem_of_getElem? (i := 99) rfl) rfl⟩
abbrev mX1_end : Mi := (yX1_end, cX1_end, 3, none)
theorem mk_X1_end : MK mX1_end 2 := ⟨⟨by decide +kernel, by decide +kernel, by decide +kernel⟩, inT3 (List.mem_of_getElem? (i := 39) rfl) rfl, inT1 (List.mem_of_getElem? (i := 5) rfl) rfl⟩
theorem mv_X1_end : MV mX1_end 2 := ⟨mk_X1_end, inT3 (List.mem_of_getElem? (i := 37) rfl) rfl, inT3 (List.mem_of_getElem? (i := 38) rfl) rfl⟩
abbrev mX1_arise : Mi := (yX1_arise, cX1_arise, 5, none)
theorem mk_X1_arise : MK mX1_arise 3 := ⟨⟨by decide +kernel, by decide +kernel, by decide +kernel⟩, inT3 (List.mem_of_getElem? (i := 47) rfl) rfl, inT1 (List.mem_of_getElem? (i := 5) rfl) rfl⟩
theorem mv_X1_arise : MV mX1_arise 3 := ⟨mk_X1_arise, inT3 (List.mem_of_getElem? (i := 45) rfl) rfl, inT3 (List.mem_of_getElem? (i := 46) rfl) rfl⟩
abbrev mX1_takesStep : Mi := (yX1_takesStep, cX1_takesStep, 2, (some .boolean))
theorem mk_X1_takesStep : MK mX1_takesStep 1 := ⟨⟨by decide +kernel, by decide +kernel, by decide +kernel⟩, inT2 (List.mem_of_getElem? (i := 94) rfl) rfl, inT1 (List.mem_of_getElem? (i := 5) rfl) rfl⟩
theorem mv_X1_takesStep : MV mX1_takesStep 1 := ⟨mk_X1_takesStep, inT2 (List.mem_of_getElem? (i := 92) rfl) rfl, inT2 (List.mem_of_getElem? (i := 93) rfl) rfl⟩
abbrev mX1_isFailing : Mi := (yX1_isFailing, cX1_isFailing, 1, (some .boolean))
theorem mk_X1_isFailing : MK mX1_isFailing 0 := ⟨⟨by decide +kernel, by decide +kernel, by decide +kernel⟩, inT2 (List.mem_of_getElem? (i := 124) rfl) rfl, inT1 (List.mem_of_getElem? (i := 5) rfl) rfl⟩
theorem mv_X1_isFailing : MV mX1_isFailing 0 := ⟨mk_X1_isFailing, inT2 (List.mem_of_getElem? (i := 122) rfl) rfl, inT2 (List.mem_of_getElem? (i := 123) rfl) rfl⟩
abbrev mX2_of : Mi := (yX2_of, cX2_of, 9, (some .int))
theorem mk_X2_of : MK mX2_of 6 := ⟨⟨by decide +kernel, by decide +kernel, by decide +kernel⟩, inT2 (List.mem_of_getElem? (i := 231) rfl) rfl, inT1 (List.mem_of_getElem? (i := 11) rfl) rfl⟩
theorem ms_X2_of : MS mX2_of 6 := ⟨mk_X2_of, inT2 (List.mem_of_getElem? (i := 230) rfl) rfl⟩
abbrev mX2_firstOf : Mi := (yX2_firstOf, cX2_firstOf, 3, (some .int))
theorem mk_X2_firstOf : MK mX2_firstOf 3 := ⟨⟨by decide +kernel, by decide +kernel, by decide +kernel⟩, inT3 (List.mem_of_getElem? (i := 2) rfl) rfl, inT1 (List.mem_of_getElem? (i := 11) rfl) rfl⟩
theorem ms_X2_firstOf : MS mX2_firstOf 3 := ⟨mk_X2_firstOf, inT3 (List.mem_of_getElem? (i := 1) rfl) rfl⟩
abbrev mX2_ofThing : Mi := (yX2_ofThing, cX2_ofThing, 3, (some .int))
theorem mk_X2_ofThing : MK mX2_ofThing 2 := ⟨⟨by decide +kernel, by decide +kernel, by decide +kernel⟩, inT2 (List.mem_of_getElem? (i := 238) rfl) rfl, inT1 (List.mem_of_getElem? (i := 11) rfl) rfl⟩
theorem ms_X2_ofThing : MS mX2_ofThing 2 := ⟨mk_X2_ofThing, inT2 (List.mem_of_getElem? (i := 237) rfl) rfl⟩
abbrev mX2_ofWhole : Mi := (yX2_ofWhole, cX2_ofWhole, 2, (some .int))
theorem mk_X2_ofWhole : MK mX2_ofWhole 1 := ⟨⟨by decide +kernel, by decide +kernel, by decide +kernel⟩, inT2 (List.mem_of_getElem? (i := 234) rfl) rfl, inT1 (List.mem_of_getElem? (i := 11) rfl) rfl⟩
theorem ms_X2_ofWhole : MS mX2_ofWhole 1 := ⟨mk_X2_ofWhole, inT2 (List.mem_of_getElem? (i := 233) rfl) rfl⟩
abbrev mX2_ofLength : Mi := (yX2_ofLength, cX2_ofLength, 1, (some .int))
theorem mk_X2_ofLength : MK mX2_ofLength 1 := ⟨⟨by decide +kernel, by decide +kernel, by decide +kernel⟩, inT3 (List.mem_of_getElem? (i := 6) rfl) rfl, inT1 (List.mem_of_getElem? (i := 11) rfl) rfl⟩
theorem ms_X2_ofLength : MS mX2_ofLength 1 := ⟨mk_X2_ofLength, inT3 (List.mem_of_getElem? (i := 5) rfl) rfl⟩
abbrev mX2_ofPlace : Mi := (yX2_ofPlace, cX2_ofPlace, 2, (some .int))
theorem mk_X2_ofPlace : MK mX2_ofPlace 2 := ⟨⟨by decide +kernel, by decide +kernel, by decide +kernel⟩, inT3 (List.mem_of_getElem? (i := 10) rfl) rfl, inT1 (List.mem_of_getElem? (i := 11) rfl) rfl⟩
theorem ms_X2_ofPlace : MS mX2_ofPlace 2 := ⟨mk_X2_ofPlace, inT3 (List.mem_of_getElem? (i := 9) rfl) rfl⟩
abbrev mX2_ofWrite : Mi := (yX2_ofWrite, cX2_ofWrite, 9, (some .int))
theorem mk_X2_ofWrite : MK mX2_ofWrite 4 := ⟨⟨by decide +kernel, by decide +kernel, by decide +kernel⟩, inT3 (List.mem_of_getElem? (i := 13) rfl) rfl, inT1 (List.mem_of_getElem? (i := 11) rfl) rfl⟩
theorem ms_X2_ofWrite : MS mX2_ofWrite 4 := ⟨mk_X2_ofWrite, inT3 (List.mem_of_getElem? (i := 12) rfl) rfl⟩
abbrev mX2_ofCopy : Mi := (yX2_ofCopy, cX2_ofCopy, 7, (some .int))
theorem mk_X2_ofCopy : MK mX2_ofCopy 4 := ⟨⟨by decide +kernel, by decide +kernel, by decide +kernel⟩, inT3 (List.mem_of_getElem? (i := 31) rfl) rfl, inT1 (List.mem_of_getElem? (i := 11) rfl) rfl⟩
theorem ms_X2_ofCopy : MS mX2_ofCopy 4 := ⟨mk_X2_ofCopy, inT3 (List.mem_of_getElem? (i := 30) rfl) rfl⟩
abbrev mX3_init : Mi := (yX3_init, cX3_init, 1, none)
theorem mk_X3_init : MK mX3_init 0 := ⟨⟨by decide +kernel, by decide +kernel, by decide +kernel⟩, inT1 (List.mem_of_getElem? (i := 139) rfl) rfl, inT1 (List.mem_of_getElem? (i := 6) rfl) rfl⟩
abbrev mX3_restart : Mi := (yX3_restart, cX3_restart, 1, none)
theorem mk_X3_restart : MK mX3_restart 0 := ⟨⟨by decide +kernel, by decide +kernel, by decide +kernel⟩, inT2 (List.mem_of_getElem? (i := 73) rfl) rfl, inT1 (List.mem_of_getElem? (i := 6) rfl) rfl⟩
theorem mv_X3_restart : MV mX3_restart 0 := ⟨mk_X3_restart, inT2 (List.mem_of_getElem? (i := 71) rfl) rfl, inT2 (List.mem_of_getElem? (i := 72) rfl) rfl⟩
abbrev mX3_open : Mi := (yX3_open, cX3_open, 3, (some .int))
theorem mk_X3_open : MK mX3_open 0 := ⟨⟨by decide +kernel, by decide +kernel, by decide +kernel⟩, inT2 (List.mem_of_getElem? (i := 85) rfl) rfl, inT1 (List.mem_of_getElem? (i := 6) rfl) rfl⟩
theorem mv_X3_open : MV mX3_open 0 := ⟨mk_X3_open, inT2 (List.mem_of_getElem? (i := 83) rfl) rfl, inT2 (List.mem_of_getElem? (i := 84) rfl) rfl⟩
abbrev mX3_read : Mi := (yX3_read, cX3_read, 3, (some .long))
theorem mk_X3_read : MK mX3_read 2 := ⟨⟨by decide +kernel, by decide +kernel, by decide +kernel⟩, inT3 (List.mem_of_getElem? (i := 174) rfl) rfl, inT1 (List.mem_of_getElem? (i := 6) rfl) rfl⟩
theorem mv_X3_read : MV mX3_read 2 := ⟨mk_X3_read, inT3 (List.mem_of_getElem? (i := 172) rfl) rfl, inT3 (List.mem_of_getElem? (i := 173) rfl) rfl⟩
abbrev mX3_write : Mi := (yX3_write, cX3_write, 5, none)
theorem mk_X3_write : MK mX3_write 3 := ⟨⟨by decide +kernel, by decide +kernel, by decide +kernel⟩, inT2 (List.mem_of_getElem? (i := 144) rfl) rfl, inT1 (List.mem_of_getElem? (i := 6) rfl) rfl⟩
theorem mv_X3_write : MV mX3_write 3 := ⟨mk_X3_write, inT2 (List.mem_of_getElem? (i := 142) rfl) rfl, inT2 (List.mem_of_getElem? (i := 143) rfl) rfl⟩
abbrev mX3_has : Mi := (yX3_has, cX3_has, 3, (some .boolean))
theorem mk_X3_has : MK mX3_has 2 := ⟨⟨by decide +kernel, by decide +kernel, by decide +kernel⟩, inT2 (List.mem_of_getElem? (i := 148) rfl) rfl, inT1 (List.mem_of_getElem? (i := 6) rfl) rfl⟩
theorem mv_X3_has : MV mX3_has 2 := ⟨mk_X3_has, inT2 (List.mem_of_getElem? (i := 147) rfl) rfl, inP1 (List.mem_of_getElem? (i := 7) rfl)⟩
abbrev mX5_init : Mi := (yX5_init, cX5_init, 1, none)
theorem mk_X5_init : MK mX5_init 0 := ⟨⟨by decide +kernel, by decide +kernel, by decide +kernel⟩, inT1 (List.mem_of_getElem? (i := 152) rfl) rfl, inT1 (List.mem_of_getElem? (i := 7) rfl) rfl⟩
abbrev mX5_restart : Mi := (yX5_restart, cX5_restart, 1, none)
theorem mk_X5_restart : MK mX5_restart 0 := ⟨⟨by decide +kernel, by decide +kernel, by decide +kernel⟩, inT2 (List.mem_of_getElem? (i := 77) rfl) rfl, inT1 (List.mem_of_getElem? (i := 7) rfl) rfl⟩
theorem mv_X5_restart : MV mX5_restart 0 := ⟨mk_X5_restart, inT2 (List.mem_of_getElem? (i := 75) rfl) rfl, inT2 (List.mem_of_getElem? (i := 76) rfl) rfl⟩
abbrev mX5_add : Mi := (yX5_add, cX5_add, 4, (some .long))
theorem mk_X5_add : MK mX5_add 2 := ⟨⟨by decide +kernel, by decide +kernel, by decide +kernel⟩, inT3 (List.mem_of_getElem? (i := 106) rfl) rfl, inT1 (List.mem_of_getElem? (i := 7) rfl) rfl⟩
theorem mv_X5_add : MV mX5_add 2 := ⟨mk_X5_add, inT3 (List.mem_of_getElem? (i := 104) rfl) rfl, inT3 (List.mem_of_getElem? (i := 105) rfl) rfl⟩
abbrev mX5_has : Mi := (yX5_has, cX5_has, 2, (some .boolean))
theorem mk_X5_has : MK mX5_has 1 := ⟨⟨by decide +kernel, by decide +kernel, by decide +kernel⟩, inT2 (List.mem_of_getElem? (i := 185) rfl) rfl, inT1 (List.mem_of_getElem? (i := 7) rfl) rfl⟩
theorem mv_X5_has : MV mX5_has 1 := ⟨mk_X5_has, inT2 (List.mem_of_getElem? (i := 184) rfl) rfl, inP1 (List.mem_of_getElem? (i := 10) rfl)⟩
abbrev mX5_actOf : Mi := (yX5_actOf, cX5_actOf, 2, (some .int))
theorem mk_X5_actOf : MK mX5_actOf 1 := ⟨⟨by decide +kernel, by decide +kernel, by decide +kernel⟩, inT3 (List.mem_of_getElem? (i := 138) rfl) rfl, inT1 (List.mem_of_getElem? (i := 7) rfl) rfl⟩
theorem mv_X5_actOf : MV mX5_actOf 1 := ⟨mk_X5_actOf, inT3 (List.mem_of_getElem? (i := 136) rfl) rfl, inT3 (List.mem_of_getElem? (i := 137) rfl) rfl⟩
abbrev mX5_frameOf : Mi := (yX5_frameOf, cX5_frameOf, 2, (some .int))
theorem mk_X5_frameOf : MK mX5_frameOf 1 := ⟨⟨by decide +kernel, by decide +kernel, by decide +kernel⟩, inT3 (List.mem_of_getElem? (i := 142) rfl) rfl, inT1 (List.mem_of_getElem? (i := 7) rfl) rfl⟩
theorem mv_X5_frameOf : MV mX5_frameOf 1 := ⟨mk_X5_frameOf, inT3 (List.mem_of_getElem? (i := 140) rfl) rfl, inT3 (List.mem_of_getElem? (i := 141) rfl) rfl⟩
abbrev mX5_stateOf : Mi := (yX5_stateOf, cX5_stateOf, 2, (some .int))
theorem mk_X5_stateOf : MK mX5_stateOf 1 := ⟨⟨by decide +kernel, by decide +kernel, by decide +kernel⟩, inT3 (List.mem_of_getElem? (i := 122) rfl) rfl, inT1 (List.mem_of_getElem? (i := 7) rfl) rfl⟩
theorem mv_X5_stateOf : MV mX5_stateOf 1 := ⟨mk_X5_stateOf, inT3 (List.mem_of_getElem? (i := 120) rfl) rfl, inT3 (List.mem_of_getElem? (i := 121) rfl) rfl⟩
abbrev mX5_failureOf : Mi := (yX5_failureOf, cX5_failureOf, 2, (some .int))
theorem mk_X5_failureOf : MK mX5_failureOf 1 := ⟨⟨by decide +kernel, by decide +kernel, by decide +kernel⟩, inT3 (List.mem_of_getElem? (i := 130) rfl) rfl, inT1 (List.mem_of_getElem? (i := 7) rfl) rfl⟩
theorem mv_X5_failureOf : MV mX5_failureOf 1 := ⟨mk_X5_failureOf, inT3 (List.mem_of_getElem? (i := 128) rfl) rfl, inT3 (List.mem_of_getElem? (i := 129) rfl) rfl⟩
abbrev mX5_codeOf : Mi := (yX5_codeOf, cX5_codeOf, 2, (some .int))
theorem mk_X5_codeOf : MK mX5_codeOf 1 := ⟨⟨by decide +kernel, by decide +kernel, by decide +kernel⟩, inT3 (List.mem_of_getElem? (i := 134) rfl) rfl, inT1 (List.mem_of_getElem? (i := 7) rfl) rfl⟩
theorem mv_X5_codeOf : MV mX5_codeOf 1 := ⟨mk_X5_codeOf, inT3 (List.mem_of_getElem? (i := 132) rfl) rfl, inT3 (List.mem_of_getElem? (i := 133) rfl) rfl⟩
abbrev mX5_valueOf : Mi := (yX5_valueOf, cX5_valueOf, 2, (some .long))
theorem mk_X5_valueOf : MK mX5_valueOf 1 := ⟨⟨by decide +kernel, by decide +kernel, by decide +kernel⟩, inT3 (List.mem_of_getElem? (i := 126) rfl) rfl, inT1 (List.mem_of_getElem? (i := 7) rfl) rfl⟩
theorem mv_X5_valueOf : MV mX5_valueOf 1 := ⟨mk_X5_valueOf, inT3 (List.mem_of_getElem? (i := 124) rfl) rfl, inT3 (List.mem_of_getElem? (i := 125) rfl) rfl⟩
abbrev mX5_setState : Mi := (yX5_setState, cX5_setState, 3, none)
theorem mk_X5_setState : MK mX5_setState 2 := ⟨⟨by decide +kernel, by decide +kernel, by decide +kernel⟩, inT2 (List.mem_of_getElem? (i := 189) rfl) rfl, inT1 (List.mem_of_getElem? (i := 7) rfl) rfl⟩
theorem mv_X5_setState : MV mX5_setState 2 := ⟨mk_X5_setState, inT2 (List.mem_of_getElem? (i := 187) rfl) rfl, inT2 (List.mem_of_getElem? (i := 188) rfl) rfl⟩
abbrev mX5_finish : Mi := (yX5_finish, cX5_finish, 4, none)
theorem mk_X5_finish : MK mX5_finish 2 := ⟨⟨by decide +kernel, by decide +kernel, by decide +kernel⟩, inT3 (List.mem_of_getElem? (i := 146) rfl) rfl, inT1 (List.mem_of_getElem? (i := 7) rfl) rfl⟩
theorem mv_X5_finish : MV mX5_finish 2 := ⟨mk_X5_finish, inT3 (List.mem_of_getElem? (i := 144) rfl) rfl, inT3 (List.mem_of_getElem? (i := 145) rfl) rfl⟩
abbrev mX5_giveUp : Mi := (yX5_giveUp, cX5_giveUp, 4, none)
theorem mk_X5_giveUp : MK mX5_giveUp 3 := ⟨⟨by decide +kernel, by decide +kernel, by decide +kernel⟩, inT2 (List.mem_of_getElem? (i := 181) rfl) rfl, inT1 (List.mem_of_getElem? (i := 7) rfl) rfl⟩
theorem mv_X5_giveUp : MV mX5_giveUp 3 := ⟨mk_X5_giveUp, inT2 (List.mem_of_getElem? (i := 179) rfl) rfl, inT2 (List.mem_of_getElem? (i := 180) rfl) rfl⟩
abbrev mX6_init : Mi := (yX6_init, cX6_init, 2, none)
theorem mk_X6_init : MK mX6_init 1 := ⟨⟨by decide +kernel, by decide +kernel, by decide +kernel⟩, inT1 (List.mem_of_getElem? (i := 52) rfl) rfl, inT1 (List.mem_of_getElem? (i := 3) rfl) rfl⟩
abbrev mX6_restart : Mi := (yX6_restart, cX6_restart, 2, none)
theorem mk_X6_restart : MK mX6_restart 1 := ⟨⟨by decide +kernel, by decide +kernel, by decide +kernel⟩, inT2 (List.mem_of_getElem? (i := 67) rfl) rfl, inT1 (List.mem_of_getElem? (i := 3) rfl) rfl⟩
theorem mv_X6_restart : MV mX6_restart 1 := ⟨mk_X6_restart, inT2 (List.mem_of_getElem? (i := 65) rfl) rfl, inT2 (List.mem_of_getElem? (i := 66) rfl) rfl⟩
abbrev mX6_perform : Mi := (yX6_perform, cX6_perform, 4, none)
theorem mk_X6_perform : MK mX6_perform 2 := ⟨⟨by decide +kernel, by decide +kernel, by decide +kernel⟩, inT2 (List.mem_of_getElem? (i := 63) rfl) rfl, inT1 (List.mem_of_getElem? (i := 3) rfl) rfl⟩
theorem mv_X6_perform : MV mX6_perform 2 := ⟨mk_X6_perform, inT2 (List.mem_of_getElem? (i := 61) rfl) rfl, inT2 (List.mem_of_getElem? (i := 62) rfl) rfl⟩
abbrev mX6_begin : Mi := (yX6_begin, cX6_begin, 3, none)
theorem mk_X6_begin : MK mX6_begin 2 := ⟨⟨by decide +kernel, by decide +kernel, by decide +kernel⟩, inT2 (List.mem_of_getElem? (i := 90) rfl) rfl, inT1 (List.mem_of_getElem? (i := 3) rfl) rfl⟩
theorem mv_X6_begin : MV mX6_begin 2 := ⟨mk_X6_begin, inT2 (List.mem_of_getElem? (i := 89) rfl) rfl, inP1 (List.mem_of_getElem? (i := 3) rfl)⟩
abbrev mX6_beginPart : Mi := (yX6_beginPart, cX6_beginPart, 2, none)
theorem mk_X6_beginPart : MK mX6_beginPart 1 := ⟨⟨by decide +kernel, by decide +kernel, by decide +kernel⟩, inT2 (List.mem_of_getElem? (i := 157) rfl) rfl, inT1 (List.mem_of_getElem? (i := 3) rfl) rfl⟩
theorem mv_X6_beginPart : MV mX6_beginPart 1 := ⟨mk_X6_beginPart, inT2 (List.mem_of_getElem? (i := 156) rfl) rfl, inP1 (List.mem_of_getElem? (i := 8) rfl)⟩
abbrev mX6_give : Mi := (yX6_give, cX6_give, 3, none)
theorem mk_X6_give : MK mX6_give 1 := ⟨⟨by decide +kernel, by decide +kernel, by decide +kernel⟩, inT3 (List.mem_of_getElem? (i := 59) rfl) rfl, inT1 (List.mem_of_getElem? (i := 3) rfl) rfl⟩
theorem mv_X6_give : MV mX6_give 1 := ⟨mk_X6_give, inT3 (List.mem_of_getElem? (i := 58) rfl) rfl, inP2 (List.mem_of_getElem? (i := 1) rfl)⟩
abbrev mX6_fail : Mi := (yX6_fail, cX6_fail, 4, none)
theorem mk_X6_fail : MK mX6_fail 2 := ⟨⟨by decide +kernel, by decide +kernel, by decide +kernel⟩, inT3 (List.mem_of_getElem? (i := 43) rfl) rfl, inT1 (List.mem_of_getElem? (i := 3) rfl) rfl⟩
theorem mv_X6_fail : MV mX6_fail 2 := ⟨mk_X6_fail, inT3 (List.mem_of_getElem? (i := 42) rfl) rfl, inP1 (List.mem_of_getElem? (i := 14) rfl)⟩
abbrev mX6_endRun : Mi := (yX6_endRun, cX6_endRun, 3, none)
theorem mk_X6_endRun : MK mX6_endRun 1 := ⟨⟨by decide +kernel, by decide +kernel, by decide +kernel⟩, inT3 (List.mem_of_getElem? (i := 35) rfl) rfl, inT1 (List.mem_of_getElem? (i := 3) rfl) rfl⟩
theorem mv_X6_endRun : MV mX6_endRun 1 := ⟨mk_X6_endRun, inT3 (List.mem_of_getElem? (i := 34) rfl) rfl, inP1 (List.mem_of_getElem? (i := 13) rfl)⟩
abbrev mX6_comesToWork : Mi := (yX6_comesToWork, cX6_comesToWork, 3, (some .boolean))
theorem mk_X6_comesToWork : MK mX6_comesToWork 0 := ⟨⟨by decide +kernel, by decide +kernel, by decide +kernel⟩, inT2 (List.mem_of_getElem? (i := 205) rfl) rfl, inT1 (List.mem_of_getElem? (i := 3) rfl) rfl⟩
theorem mv_X6_comesToWork : MV mX6_comesToWork 0 := ⟨mk_X6_comesToWork, inT2 (List.mem_of_getElem? (i := 204) rfl) rfl, inP1 (List.mem_of_getElem? (i := 11) rfl)⟩
abbrev mX6_isStopped : Mi := (yX6_isStopped, cX6_isStopped, 7, (some .boolean))
theorem mk_X6_isStopped : MK mX6_isStopped 1 := ⟨⟨by decide +kernel, by decide +kernel, by decide +kernel⟩, inT2 (List.mem_of_getElem? (i := 213) rfl) rfl, inT1 (List.mem_of_getElem? (i := 3) rfl) rfl⟩
theorem mv_X6_isStopped : MV mX6_isStopped 1 := ⟨mk_X6_isStopped, inT2 (List.mem_of_getElem? (i := 212) rfl) rfl, inP1 (List.mem_of_getElem? (i := 12) rfl)⟩
abbrev mX6_work : Mi := (yX6_work, cX6_work, 2, none)
theorem mk_X6_work : MK mX6_work 0 := ⟨⟨by decide +kernel, by decide +kernel, by decide +kernel⟩, inT3 (List.mem_of_getElem? (i := 51) rfl) rfl, inT1 (List.mem_of_getElem? (i := 3) rfl) rfl⟩
theorem mv_X6_work : MV mX6_work 0 := ⟨mk_X6_work, inT3 (List.mem_of_getElem? (i := 50) rfl) rfl, inP1 (List.mem_of_getElem? (i := 15) rfl)⟩
abbrev mX6_keep : Mi := (yX6_keep, cX6_keep, 1, none)
theorem mk_X6_keep : MK mX6_keep 0 := ⟨⟨by decide +kernel, by decide +kernel, by decide +kernel⟩, inT3 (List.mem_of_getElem? (i := 55) rfl) rfl, inT1 (List.mem_of_getElem? (i := 3) rfl) rfl⟩
theorem mv_X6_keep : MV mX6_keep 0 := ⟨mk_X6_keep, inT3 (List.mem_of_getElem? (i := 54) rfl) rfl, inP2 (List.mem_of_getElem? (i := 0) rfl)⟩
abbrev mX6_doAlways : Mi := (yX6_doAlways, cX6_doAlways, 1, none)
theorem mk_X6_doAlways : MK mX6_doAlways 0 := ⟨⟨by decide +kernel, by decide +kernel, by decide +kernel⟩, inT3 (List.mem_of_getElem? (i := 67) rfl) rfl, inT1 (List.mem_of_getElem? (i := 3) rfl) rfl⟩
theorem mv_X6_doAlways : MV mX6_doAlways 0 := ⟨mk_X6_doAlways, inT3 (List.mem_of_getElem? (i := 66) rfl) rfl, inP2 (List.mem_of_getElem? (i := 2) rfl)⟩
abbrev mX6_choose : Mi := (yX6_choose, cX6_choose, 1, none)
theorem mk_X6_choose : MK mX6_choose 0 := ⟨⟨by decide +kernel, by decide +kernel, by decide +kernel⟩, inT3 (List.mem_of_getElem? (i := 80) rfl) rfl, inT1 (List.mem_of_getElem? (i := 3) rfl) rfl⟩
theorem mv_X6_choose : MV mX6_choose 0 := ⟨mk_X6_choose, inT3 (List.mem_of_getElem? (i := 79) rfl) rfl, inP2 (List.mem_of_getElem? (i := 3) rfl)⟩
abbrev mX6_loop : Mi := (yX6_loop, cX6_loop, 1, none)
theorem mk_X6_loop : MK mX6_loop 0 := ⟨⟨by decide +kernel, by decide +kernel, by decide +kernel⟩, inT3 (List.mem_of_getElem? (i := 84) rfl) rfl, inT1 (List.mem_of_getElem? (i := 3) rfl) rfl⟩
theorem mv_X6_loop : MV mX6_loop 0 := ⟨mk_X6_loop, inT3 (List.mem_of_getElem? (i := 83) rfl) rfl, inP2 (List.mem_of_getElem? (i := 4) rfl)⟩
abbrev mX6_askAgain : Mi := (yX6_askAgain, cX6_askAgain, 1, none)
theorem mk_X6_askAgain : MK mX6_askAgain 0 := ⟨⟨by decide +kernel, by decide +kernel, by decide +kernel⟩, inT3 (List.mem_of_getElem? (i := 88) rfl) rfl, inT1 (List.mem_of_getElem? (i := 3) rfl) rfl⟩
theorem mv_X6_askAgain : MV mX6_askAgain 0 := ⟨mk_X6_askAgain, inT3 (List.mem_of_getElem? (i := 87) rfl) rfl, inP2 (List.mem_of_getElem? (i := 5) rfl)⟩
abbrev mX6_call : Mi := (yX6_call, cX6_call, 1, none)
theorem mk_X6_call : MK mX6_call 0 := ⟨⟨by decide +kernel, by decide +kernel, by decide +kernel⟩, inT3 (List.mem_of_getElem? (i := 93) rfl) rfl, inT1 (List.mem_of_getElem? (i := 3) rfl) rfl⟩
theorem mv_X6_call : MV mX6_call 0 := ⟨mk_X6_call, inT3 (List.mem_of_getElem? (i := 92) rfl) rfl, inP2 (List.mem_of_getElem? (i := 6) rfl)⟩
abbrev mX6_enter : Mi := (yX6_enter, cX6_enter, 3, none)
theorem mk_X6_enter : MK mX6_enter 1 := ⟨⟨by decide +kernel, by decide +kernel, by decide +kernel⟩, inT3 (List.mem_of_getElem? (i := 97) rfl) rfl, inT1 (List.mem_of_getElem? (i := 3) rfl) rfl⟩
theorem mv_X6_enter : MV mX6_enter 1 := ⟨mk_X6_enter, inT3 (List.mem_of_getElem? (i := 96) rfl) rfl, inP2 (List.mem_of_getElem? (i := 7) rfl)⟩
abbrev mX6_delay : Mi := (yX6_delay, cX6_delay, 1, none)
theorem mk_X6_delay : MK mX6_delay 0 := ⟨⟨by decide +kernel, by decide +kernel, by decide +kernel⟩, inT3 (List.mem_of_getElem? (i := 102) rfl) rfl, inT1 (List.mem_of_getElem? (i := 3) rfl) rfl⟩
theorem mv_X6_delay : MV mX6_delay 0 := ⟨mk_X6_delay, inT3 (List.mem_of_getElem? (i := 101) rfl) rfl, inP2 (List.mem_of_getElem? (i := 8) rfl)⟩
abbrev mX6_force : Mi := (yX6_force, cX6_force, 2, none)
theorem mk_X6_force : MK mX6_force 1 := ⟨⟨by decide +kernel, by decide +kernel, by decide +kernel⟩, inT3 (List.mem_of_getElem? (i := 114) rfl) rfl, inT1 (List.mem_of_getElem? (i := 3) rfl) rfl⟩
theorem mv_X6_force : MV mX6_force 1 := ⟨mk_X6_force, inT3 (List.mem_of_getElem? (i := 113) rfl) rfl, inP2 (List.mem_of_getElem? (i := 9) rfl)⟩
abbrev mX6_workLater : Mi := (yX6_workLater, cX6_workLater, 2, none)
theorem mk_X6_workLater : MK mX6_workLater 1 := ⟨⟨by decide +kernel, by decide +kernel, by decide +kernel⟩, inT3 (List.mem_of_getElem? (i := 118) rfl) rfl, inT1 (List.mem_of_getElem? (i := 3) rfl) rfl⟩
theorem mv_X6_workLater : MV mX6_workLater 1 := ⟨mk_X6_workLater, inT3 (List.mem_of_getElem? (i := 117) rfl) rfl, inP2 (List.mem_of_getElem? (i := 10) rfl)⟩
abbrev mX6_copy : Mi := (yX6_copy, cX6_copy, 3, none)
theorem mk_X6_copy : MK mX6_copy 0 := ⟨⟨by decide +kernel, by decide +kernel, by decide +kernel⟩, inT3 (List.mem_of_getElem? (i := 150) rfl) rfl, inT1 (List.mem_of_getElem? (i := 3) rfl) rfl⟩
theorem mv_X6_copy : MV mX6_copy 0 := ⟨mk_X6_copy, inT3 (List.mem_of_getElem? (i := 149) rfl) rfl, inP2 (List.mem_of_getElem? (i := 11) rfl)⟩
abbrev mX6_workPlainly : Mi := (yX6_workPlainly, cX6_workPlainly, 7, none)
theorem mk_X6_workPlainly : MK mX6_workPlainly 1 := ⟨⟨by decide +kernel, by decide +kernel, by decide +kernel⟩, inT3 (List.mem_of_getElem? (i := 166) rfl) rfl, inT1 (List.mem_of_getElem? (i := 3) rfl) rfl⟩
theorem mv_X6_workPlainly : MV mX6_workPlainly 1 := ⟨mk_X6_workPlainly, inT3 (List.mem_of_getElem? (i := 165) rfl) rfl, inP2 (List.mem_of_getElem? (i := 12) rfl)⟩
abbrev mX6_reckon : Mi := (yX6_reckon, cX6_reckon, 9, (some .long))
theorem mk_X6_reckon : MK mX6_reckon 4 := ⟨⟨by decide +kernel, by decide +kernel, by decide +kernel⟩, inT3 (List.mem_of_getElem? (i := 170) rfl) rfl, inT1 (List.mem_of_getElem? (i := 3) rfl) rfl⟩
theorem mv_X6_reckon : MV mX6_reckon 4 := ⟨mk_X6_reckon, inT3 (List.mem_of_getElem? (i := 169) rfl) rfl, inP2 (List.mem_of_getElem? (i := 13) rfl)⟩
abbrev mX6_change : Mi := (yX6_change, cX6_change, 9, (some .long))
theorem mk_X6_change : MK mX6_change 5 := ⟨⟨by decide +kernel, by decide +kernel, by decide +kernel⟩, inT3 (List.mem_of_getElem? (i := 181) rfl) rfl, inT1 (List.mem_of_getElem? (i := 3) rfl) rfl⟩
theorem mv_X6_change : MV mX6_change 5 := ⟨mk_X6_change, inT3 (List.mem_of_getElem? (i := 180) rfl) rfl, inP2 (List.mem_of_getElem? (i := 14) rfl)⟩
abbrev mX6_put : Mi := (yX6_put, cX6_put, 4, (some .long))
theorem mk_X6_put : MK mX6_put 2 := ⟨⟨by decide +kernel, by decide +kernel, by decide +kernel⟩, inT3 (List.mem_of_getElem? (i := 197) rfl) rfl, inT1 (List.mem_of_getElem? (i := 3) rfl) rfl⟩
theorem mv_X6_put : MV mX6_put 2 := ⟨mk_X6_put, inT3 (List.mem_of_getElem? (i := 196) rfl) rfl, inP2 (List.mem_of_getElem? (i := 15) rfl)⟩
abbrev mX6_tell : Mi := (yX6_tell, cX6_tell, 3, (some .long))
theorem mk_X6_tell : MK mX6_tell 1 := ⟨⟨by decide +kernel, by decide +kernel, by decide +kernel⟩, inT3 (List.mem_of_getElem? (i := 202) rfl) rfl, inT1 (List.mem_of_getElem? (i := 3) rfl) rfl⟩
theorem mv_X6_tell : MV mX6_tell 1 := ⟨mk_X6_tell, inT3 (List.mem_of_getElem? (i := 201) rfl) rfl, inP3 (List.mem_of_getElem? (i := 0) rfl)⟩
abbrev mX6_leave : Mi := (yX6_leave, cX6_leave, 3, none)
theorem mk_X6_leave : MK mX6_leave 0 := ⟨⟨by decide +kernel, by decide +kernel, by decide +kernel⟩, inT2 (List.mem_of_getElem? (i := 111) rfl) rfl, inT1 (List.mem_of_getElem? (i := 3) rfl) rfl⟩
theorem mv_X6_leave : MV mX6_leave 0 := ⟨mk_X6_leave, inT2 (List.mem_of_getElem? (i := 110) rfl) rfl, inP1 (List.mem_of_getElem? (i := 4) rfl)⟩
abbrev mX6_isCaught : Mi := (yX6_isCaught, cX6_isCaught, 2, (some .boolean))
theorem mk_X6_isCaught : MK mX6_isCaught 0 := ⟨⟨by decide +kernel, by decide +kernel, by decide +kernel⟩, inT2 (List.mem_of_getElem? (i := 128) rfl) rfl, inT1 (List.mem_of_getElem? (i := 3) rfl) rfl⟩
theorem mv_X6_isCaught : MV mX6_isCaught 0 := ⟨mk_X6_isCaught, inT2 (List.mem_of_getElem? (i := 127) rfl) rfl, inP1 (List.mem_of_getElem? (i := 5) rfl)⟩
abbrev mX6_takeUp : Mi := (yX6_takeUp, cX6_takeUp, 1, none)
theorem mk_X6_takeUp : MK mX6_takeUp 0 := ⟨⟨by decide +kernel, by decide +kernel, by decide +kernel⟩, inT2 (List.mem_of_getElem? (i := 132) rfl) rfl, inT1 (List.mem_of_getElem? (i := 3) rfl) rfl⟩
theorem mv_X6_takeUp : MV mX6_takeUp 0 := ⟨mk_X6_takeUp, inT2 (List.mem_of_getElem? (i := 131) rfl) rfl, inP1 (List.mem_of_getElem? (i := 6) rfl)⟩
abbrev mX6_leaveLater : Mi := (yX6_leaveLater, cX6_leaveLater, 2, none)
theorem mk_X6_leaveLater : MK mX6_leaveLater 1 := ⟨⟨by decide +kernel, by decide +kernel, by decide +kernel⟩, inT2 (List.mem_of_getElem? (i := 177) rfl) rfl, inT1 (List.mem_of_getElem? (i := 3) rfl) rfl⟩
theorem mv_X6_leaveLater : MV mX6_leaveLater 1 := ⟨mk_X6_leaveLater, inT2 (List.mem_of_getElem? (i := 176) rfl) rfl, inP1 (List.mem_of_getElem? (i := 9) rfl)⟩
abbrev mX7_init : Mi := (yX7_init, cX7_init, 1, none)
theorem mk_X7_init : MK mX7_init 0 := ⟨⟨by decide +kernel, by decide +kernel, by decide +kernel⟩, inT1 (List.mem_of_getElem? (i := 58) rfl) rfl, inT1 (List.mem_of_getElem? (i := 4) rfl) rfl⟩
abbrev mX7_isBox : Mi := (yX7_isBox, cX7_isBox, 1, (some .boolean))
theorem mk_X7_isBox : MK mX7_isBox 1 := ⟨⟨by decide +kernel, by decide +kernel, by decide +kernel⟩, inT3 (List.mem_of_getElem? (i := 224) rfl) rfl, inT1 (List.mem_of_getElem? (i := 4) rfl) rfl⟩
theorem ms_X7_isBox : MS mX7_isBox 1 := ⟨mk_X7_isBox, inT3 (List.mem_of_getElem? (i := 223) rfl) rfl⟩
abbrev mX7_cellOf : Mi := (yX7_cellOf, cX7_cellOf, 3, (some .int))
theorem mk_X7_cellOf : MK mX7_cellOf 2 := ⟨⟨by decide +kernel, by decide +kernel, by decide +kernel⟩, inT3 (List.mem_of_getElem? (i := 157) rfl) rfl, inT1 (List.mem_of_getElem? (i := 4) rfl) rfl⟩
theorem ms_X7_cellOf : MS mX7_cellOf 2 := ⟨mk_X7_cellOf, inT3 (List.mem_of_getElem? (i := 156) rfl) rfl⟩
abbrev mX7_restart : Mi := (yX7_restart, cX7_restart, 2, none)
theorem mk_X7_restart : MK mX7_restart 0 := ⟨⟨by decide +kernel, by decide +kernel, by decide +kernel⟩, inT1 (List.mem_of_getElem? (i := 63) rfl) rfl, inT1 (List.mem_of_getElem? (i := 4) rfl) rfl⟩
theorem mv_X7_restart : MV mX7_restart 0 := ⟨mk_X7_restart, inT1 (List.mem_of_getElem? (i := 61) rfl) rfl, inT1 (List.mem_of_getElem? (i := 62) rfl) rfl⟩
abbrev mX7_newRow : Mi := (yX7_newRow, cX7_newRow, 7, (some .long))
theorem mk_X7_newRow : MK mX7_newRow 2 := ⟨⟨by decide +kernel, by decide +kernel, by decide +kernel⟩, inT3 (List.mem_of_getElem? (i := 185) rfl) rfl, inT1 (List.mem_of_getElem? (i := 4) rfl) rfl⟩
theorem mv_X7_newRow : MV mX7_newRow 2 := ⟨mk_X7_newRow, inT3 (List.mem_of_getElem? (i := 183) rfl) rfl, inT3 (List.mem_of_getElem? (i := 184) rfl) rfl⟩
abbrev mX7_newLink : Mi := (yX7_newLink, cX7_newLink, 5, (some .long))
theorem mk_X7_newLink : MK mX7_newLink 2 := ⟨⟨by decide +kernel, by decide +kernel, by decide +kernel⟩, inT3 (List.mem_of_getElem? (i := 191) rfl) rfl, inT1 (List.mem_of_getElem? (i := 4) rfl) rfl⟩
theorem mv_X7_newLink : MV mX7_newLink 2 := ⟨mk_X7_newLink, inT3 (List.mem_of_getElem? (i := 189) rfl) rfl, inT3 (List.mem_of_getElem? (i := 190) rfl) rfl⟩
abbrev mX7_read : Mi := (yX7_read, cX7_read, 2, (some .long))
theorem mk_X7_read : MK mX7_read 1 := ⟨⟨by decide +kernel, by decide +kernel, by decide +kernel⟩, inT2 (List.mem_of_getElem? (i := 228) rfl) rfl, inT1 (List.mem_of_getElem? (i := 4) rfl) rfl⟩
theorem mv_X7_read : MV mX7_read 1 := ⟨mk_X7_read, inT2 (List.mem_of_getElem? (i := 226) rfl) rfl, inT2 (List.mem_of_getElem? (i := 227) rfl) rfl⟩
abbrev mX7_write : Mi := (yX7_write, cX7_write, 4, none)
theorem mk_X7_write : MK mX7_write 2 := ⟨⟨by decide +kernel, by decide +kernel, by decide +kernel⟩, inT3 (List.mem_of_getElem? (i := 162) rfl) rfl, inT1 (List.mem_of_getElem? (i := 4) rfl) rfl⟩
theorem mv_X7_write : MV mX7_write 2 := ⟨mk_X7_write, inT3 (List.mem_of_getElem? (i := 160) rfl) rfl, inT3 (List.mem_of_getElem? (i := 161) rfl) rfl⟩
abbrev mX7_copied : Mi := (yX7_copied, cX7_copied, 9, (some .boolean))
theorem mk_X7_copied : MK mX7_copied 3 := ⟨⟨by decide +kernel, by decide +kernel, by decide +kernel⟩, inT3 (List.mem_of_getElem? (i := 154) rfl) rfl, inT1 (List.mem_of_getElem? (i := 4) rfl) rfl⟩
theorem mv_X7_copied : MV mX7_copied 3 := ⟨mk_X7_copied, inT3 (List.mem_of_getElem? (i := 152) rfl) rfl, inT3 (List.mem_of_getElem? (i := 153) rfl) rfl⟩
abbrev mX7_changesSoFar : Mi := (yX7_changesSoFar, cX7_changesSoFar, 1, (some .int))
theorem mk_X7_changesSoFar : MK mX7_changesSoFar 0 := ⟨⟨by decide +kernel, by decide +kernel, by decide +kernel⟩, inT2 (List.mem_of_getElem? (i := 98) rfl) rfl, inT1 (List.mem_of_getElem? (i := 4) rfl) rfl⟩
theorem mv_X7_changesSoFar : MV mX7_changesSoFar 0 := ⟨mk_X7_changesSoFar, inT2 (List.mem_of_getElem? (i := 96) rfl) rfl, inT2 (List.mem_of_getElem? (i := 97) rfl) rfl⟩
abbrev mX7_undoBackTo : Mi := (yX7_undoBackTo, cX7_undoBackTo, 2, none)
theorem mk_X7_undoBackTo : MK mX7_undoBackTo 1 := ⟨⟨by decide +kernel, by decide +kernel, by decide +kernel⟩, inT2 (List.mem_of_getElem? (i := 197) rfl) rfl, inT1 (List.mem_of_getElem? (i := 4) rfl) rfl⟩
theorem mv_X7_undoBackTo : MV mX7_undoBackTo 1 := ⟨mk_X7_undoBackTo, inT2 (List.mem_of_getElem? (i := 195) rfl) rfl, inT2 (List.mem_of_getElem? (i := 196) rfl) rfl⟩
abbrev mX7_lengthOf : Mi := (yX7_lengthOf, cX7_lengthOf, 3, (some .int))
theorem mk_X7_lengthOf : MK mX7_lengthOf 1 := ⟨⟨by decide +kernel, by decide +kernel, by decide +kernel⟩, inT2 (List.mem_of_getElem? (i := 217) rfl) rfl, inT1 (List.mem_of_getElem? (i := 4) rfl) rfl⟩
theorem mv_X7_lengthOf : MV mX7_lengthOf 1 := ⟨mk_X7_lengthOf, inT2 (List.mem_of_getElem? (i := 215) rfl) rfl, inT2 (List.mem_of_getElem? (i := 216) rfl) rfl⟩
abbrev mX7_measure : Mi := (yX7_measure, cX7_measure, 3, (some .int))
theorem mk_X7_measure : MK mX7_measure 1 := ⟨⟨by decide +kernel, by decide +kernel, by decide +kernel⟩, inT3 (List.mem_of_getElem? (i := 215) rfl) rfl, inT1 (List.mem_of_getElem? (i := 4) rfl) rfl⟩
theorem mv_X7_measure : MV mX7_measure 1 := ⟨mk_X7_measure, inT3 (List.mem_of_getElem? (i := 213) rfl) rfl, inT3 (List.mem_of_getElem? (i := 214) rfl) rfl⟩
abbrev mX8_init : Mi := (yX8_init, cX8_init, 1, none)
theorem mk_X8_init : MK mX8_init 0 := ⟨⟨by decide +kernel, by decide +kernel, by decide +kernel⟩, inT1 (List.mem_of_getElem? (i := 180) rfl) rfl, inT1 (List.mem_of_getElem? (i := 8) rfl) rfl⟩
abbrev mX8_restart : Mi := (yX8_restart, cX8_restart, 1, none)
theorem mk_X8_restart : MK mX8_restart 0 := ⟨⟨by decide +kernel, by decide +kernel, by decide +kernel⟩, inT2 (List.mem_of_getElem? (i := 81) rfl) rfl, inT1 (List.mem_of_getElem? (i := 8) rfl) rfl⟩
theorem mv_X8_restart : MV mX8_restart 0 := ⟨mk_X8_restart, inT2 (List.mem_of_getElem? (i := 79) rfl) rfl, inT2 (List.mem_of_getElem? (i := 80) rfl) rfl⟩
abbrev mX8_isEmpty : Mi := (yX8_isEmpty, cX8_isEmpty, 1, (some .boolean))
theorem mk_X8_isEmpty : MK mX8_isEmpty 0 := ⟨⟨by decide +kernel, by decide +kernel, by decide +kernel⟩, inT2 (List.mem_of_getElem? (i := 107) rfl) rfl, inT1 (List.mem_of_getElem? (i := 8) rfl) rfl⟩
theorem mv_X8_isEmpty : MV mX8_isEmpty 0 := ⟨mk_X8_isEmpty, inT2 (List.mem_of_getElem? (i := 105) rfl) rfl, inT2 (List.mem_of_getElem? (i := 106) rfl) rfl⟩
abbrev mX8_push : Mi := (yX8_push, cX8_push, 4, none)
theorem mk_X8_push : MK mX8_push 3 := ⟨⟨by decide +kernel, by decide +kernel, by decide +kernel⟩, inT2 (List.mem_of_getElem? (i := 102) rfl) rfl, inT1 (List.mem_of_getElem? (i := 8) rfl) rfl⟩
theorem mv_X8_push : MV mX8_push 3 := ⟨mk_X8_push, inT2 (List.mem_of_getElem? (i := 100) rfl) rfl, inT2 (List.mem_of_getElem? (i := 101) rfl) rfl⟩
abbrev mX8_pop : Mi := (yX8_pop, cX8_pop, 1, none)
theorem mk_X8_pop : MK mX8_pop 0 := ⟨⟨by decide +kernel, by decide +kernel, by decide +kernel⟩, inT2 (List.mem_of_getElem? (i := 201) rfl) rfl, inT1 (List.mem_of_getElem? (i := 8) rfl) rfl⟩
theorem mv_X8_pop : MV mX8_pop 0 := ⟨mk_X8_pop, inT2 (List.mem_of_getElem? (i := 199) rfl) rfl, inT2 (List.mem_of_getElem? (i := 200) rfl) rfl⟩
abbrev mX8_actOnTop : Mi := (yX8_actOnTop, cX8_actOnTop, 1, (some .int))
theorem mk_X8_actOnTop : MK mX8_actOnTop 0 := ⟨⟨by decide +kernel, by decide +kernel, by decide +kernel⟩, inT2 (List.mem_of_getElem? (i := 115) rfl) rfl, inT1 (List.mem_of_getElem? (i := 8) rfl) rfl⟩
theorem mv_X8_actOnTop : MV mX8_actOnTop 0 := ⟨mk_X8_actOnTop, inT2 (List.mem_of_getElem? (i := 113) rfl) rfl, inT2 (List.mem_of_getElem? (i := 114) rfl) rfl⟩
abbrev mX8_frame : Mi := (yX8_frame, cX8_frame, 1, (some .int))
theorem mk_X8_frame : MK mX8_frame 0 := ⟨⟨by decide +kernel, by decide +kernel, by decide +kernel⟩, inT2 (List.mem_of_getElem? (i := 136) rfl) rfl, inT1 (List.mem_of_getElem? (i := 8) rfl) rfl⟩
theorem mv_X8_frame : MV mX8_frame 0 := ⟨mk_X8_frame, inT2 (List.mem_of_getElem? (i := 134) rfl) rfl, inT2 (List.mem_of_getElem? (i := 135) rfl) rfl⟩
abbrev mX8_stage : Mi := (yX8_stage, cX8_stage, 1, (some .int))
theorem mk_X8_stage : MK mX8_stage 0 := ⟨⟨by decide +kernel, by decide +kernel, by decide +kernel⟩, inT2 (List.mem_of_getElem? (i := 120) rfl) rfl, inT1 (List.mem_of_getElem? (i := 8) rfl) rfl⟩
theorem mv_X8_stage : MV mX8_stage 0 := ⟨mk_X8_stage, inT2 (List.mem_of_getElem? (i := 118) rfl) rfl, inT2 (List.mem_of_getElem? (i := 119) rfl) rfl⟩
abbrev mX8_setStage : Mi := (yX8_setStage, cX8_setStage, 2, none)
theorem mk_X8_setStage : MK mX8_setStage 1 := ⟨⟨by decide +kernel, by decide +kernel, by decide +kernel⟩, inT2 (List.mem_of_getElem? (i := 153) rfl) rfl, inT1 (List.mem_of_getElem? (i := 8) rfl) rfl⟩
theorem mv_X8_setStage : MV mX8_setStage 1 := ⟨mk_X8_setStage, inT2 (List.mem_of_getElem? (i := 151) rfl) rfl, inT2 (List.mem_of_getElem? (i := 152) rfl) rfl⟩
abbrev mX8_take : Mi := (yX8_take, cX8_take, 4, none)
theorem mk_X8_take : MK mX8_take 1 := ⟨⟨by decide +kernel, by decide +kernel, by decide +kernel⟩, inT3 (List.mem_of_getElem? (i := 63) rfl) rfl, inT1 (List.mem_of_getElem? (i := 8) rfl) rfl⟩
theorem mv_X8_take : MV mX8_take 1 := ⟨mk_X8_take, inT3 (List.mem_of_getElem? (i := 61) rfl) rfl, inT3 (List.mem_of_getElem? (i := 62) rfl) rfl⟩
abbrev mX8_value : Mi := (yX8_value, cX8_value, 2, (some .long))
theorem mk_X8_value : MK mX8_value 1 := ⟨⟨by decide +kernel, by decide +kernel, by decide +kernel⟩, inT2 (List.mem_of_getElem? (i := 169) rfl) rfl, inT1 (List.mem_of_getElem? (i := 8) rfl) rfl⟩
theorem mv_X8_value : MV mX8_value 1 := ⟨mk_X8_value, inT2 (List.mem_of_getElem? (i := 167) rfl) rfl, inT2 (List.mem_of_getElem? (i := 168) rfl) rfl⟩
abbrev mX8_mark : Mi := (yX8_mark, cX8_mark, 1, (some .int))
theorem mk_X8_mark : MK mX8_mark 0 := ⟨⟨by decide +kernel, by decide +kernel, by decide +kernel⟩, inT2 (List.mem_of_getElem? (i := 193) rfl) rfl, inT1 (List.mem_of_getElem? (i := 8) rfl) rfl⟩
theorem mv_X8_mark : MV mX8_mark 0 := ⟨mk_X8_mark, inT2 (List.mem_of_getElem? (i := 191) rfl) rfl, inT2 (List.mem_of_getElem? (i := 192) rfl) rfl⟩
abbrev mX8_hold : Mi := (yX8_hold, cX8_hold, 2, none)
theorem mk_X8_hold : MK mX8_hold 1 := ⟨⟨by decide +kernel, by decide +kernel, by decide +kernel⟩, inT2 (List.mem_of_getElem? (i := 165) rfl) rfl, inT1 (List.mem_of_getElem? (i := 8) rfl) rfl⟩
theorem mv_X8_hold : MV mX8_hold 1 := ⟨mk_X8_hold, inT2 (List.mem_of_getElem? (i := 163) rfl) rfl, inT2 (List.mem_of_getElem? (i := 164) rfl) rfl⟩
abbrev mX8_holdsFailure : Mi := (yX8_holdsFailure, cX8_holdsFailure, 1, (some .boolean))
theorem mk_X8_holdsFailure : MK mX8_holdsFailure 0 := ⟨⟨by decide +kernel, by decide +kernel, by decide +kernel⟩, inT3 (List.mem_of_getElem? (i := 71) rfl) rfl, inT1 (List.mem_of_getElem? (i := 8) rfl) rfl⟩
theorem mv_X8_holdsFailure : MV mX8_holdsFailure 0 := ⟨mk_X8_holdsFailure, inT3 (List.mem_of_getElem? (i := 69) rfl) rfl, inT3 (List.mem_of_getElem? (i := 70) rfl) rfl⟩
abbrev mX8_letGo : Mi := (yX8_letGo, cX8_letGo, 2, none)
theorem mk_X8_letGo : MK mX8_letGo 1 := ⟨⟨by decide +kernel, by decide +kernel, by decide +kernel⟩, inT3 (List.mem_of_getElem? (i := 75) rfl) rfl, inT1 (List.mem_of_getElem? (i := 8) rfl) rfl⟩
theorem mv_X8_letGo : MV mX8_letGo 1 := ⟨mk_X8_letGo, inT3 (List.mem_of_getElem? (i := 73) rfl) rfl, inT3 (List.mem_of_getElem? (i := 74) rfl) rfl⟩
abbrev mX9_of : Mi := (yX9_of, cX9_of, 2, (some .long))
theorem mk_X9_of : MK mX9_of 2 := ⟨⟨by decide +kernel, by decide +kernel, by decide +kernel⟩, inT3 (List.mem_of_getElem? (i := 110) rfl) rfl, inT1 (List.mem_of_getElem? (i := 10) rfl) rfl⟩
theorem ms_X9_of : MS mX9_of 2 := ⟨mk_X9_of, inT3 (List.mem_of_getElem? (i := 109) rfl) rfl⟩
abbrev mX9_whole : Mi := (yX9_whole, cX9_whole, 1, (some .long))
theorem mk_X9_whole : MK mX9_whole 1 := ⟨⟨by decide +kernel, by decide +kernel, by decide +kernel⟩, inT2 (List.mem_of_getElem? (i := 139) rfl) rfl, inT1 (List.mem_of_getElem? (i := 10) rfl) rfl⟩
theorem ms_X9_whole : MS mX9_whole 1 := ⟨mk_X9_whole, inT2 (List.mem_of_getElem? (i := 138) rfl) rfl⟩
abbrev mX9_truth : Mi := (yX9_truth, cX9_truth, 1, (some .long))
theorem mk_X9_truth : MK mX9_truth 1 := ⟨⟨by decide +kernel, by decide +kernel, by decide +kernel⟩, inT3 (List.mem_of_getElem? (i := 177) rfl) rfl, inT1 (List.mem_of_getElem? (i := 10) rfl) rfl⟩
theorem ms_X9_truth : MS mX9_truth 1 := ⟨mk_X9_truth, inT3 (List.mem_of_getElem? (i := 176) rfl) rfl⟩
abbrev mX9_sort : Mi := (yX9_sort, cX9_sort, 2, (some .int))
theorem mk_X9_sort : MK mX9_sort 1 := ⟨⟨by decide +kernel, by decide +kernel, by decide +kernel⟩, inT2 (List.mem_of_getElem? (i := 223) rfl) rfl, inT1 (List.mem_of_getElem? (i := 10) rfl) rfl⟩
theorem ms_X9_sort : MS mX9_sort 1 := ⟨mk_X9_sort, inT2 (List.mem_of_getElem? (i := 222) rfl) rfl⟩
abbrev mX9_number : Mi := (yX9_number, cX9_number, 2, (some .int))
theorem mk_X9_number : MK mX9_number 1 := ⟨⟨by decide +kernel, by decide +kernel, by decide +kernel⟩, inT2 (List.mem_of_getElem? (i := 173) rfl) rfl, inT1 (List.mem_of_getElem? (i := 10) rfl) rfl⟩
theorem ms_X9_number : MS mX9_number 1 := ⟨mk_X9_number, inT2 (List.mem_of_getElem? (i := 172) rfl) rfl⟩
abbrev mX9_isRow : Mi := (yX9_isRow, cX9_isRow, 3, (some .boolean))
theorem mk_X9_isRow : MK mX9_isRow 1 := ⟨⟨by decide +kernel, by decide +kernel, by decide +kernel⟩, inT2 (List.mem_of_getElem? (i := 220) rfl) rfl, inT1 (List.mem_of_getElem? (i := 10) rfl) rfl⟩
theorem ms_X9_isRow : MS mX9_isRow 1 := ⟨mk_X9_isRow, inT2 (List.mem_of_getElem? (i := 219) rfl) rfl⟩
abbrev mX9_isRowForLinks : Mi := (yX9_isRowForLinks, cX9_isRowForLinks, 3, (some .boolean))
theorem mk_X9_isRowForLinks : MK mX9_isRowForLinks 1 := ⟨⟨by decide +kernel, by decide +kernel, by decide +kernel⟩, inT3 (List.mem_of_getElem? (i := 16) rfl) rfl, inT1 (List.mem_of_getElem? (i := 10) rfl) rfl⟩
theorem ms_X9_isRowForLinks : MS mX9_isRowForLinks 1 := ⟨mk_X9_isRowForLinks, inT3 (List.mem_of_getElem? (i := 15) rfl) rfl⟩
abbrev mX9_isLink : Mi := (yX9_isLink, cX9_isLink, 3, (some .boolean))
theorem mk_X9_isLink : MK mX9_isLink 1 := ⟨⟨by decide +kernel, by decide +kernel, by decide +kernel⟩, inT3 (List.mem_of_getElem? (i := 25) rfl) rfl, inT1 (List.mem_of_getElem? (i := 10) rfl) rfl⟩
theorem ms_X9_isLink : MS mX9_isLink 1 := ⟨mk_X9_isLink, inT3 (List.mem_of_getElem? (i := 24) rfl) rfl⟩
abbrev mX9_isLinkOrNothing : Mi := (yX9_isLinkOrNothing, cX9_isLinkOrNothing, 3, (some .boolean))
theorem mk_X9_isLinkOrNothing : MK mX9_isLinkOrNothing 1 := ⟨⟨by decide +kernel, by decide +kernel, by decide +kernel⟩, inT3 (List.mem_of_getElem? (i := 19) rfl) rfl, inT1 (List.mem_of_getElem? (i := 10) rfl) rfl⟩
theorem ms_X9_isLinkOrNothing : MS mX9_isLinkOrNothing 1 := ⟨mk_X9_isLinkOrNothing, inT3 (List.mem_of_getElem? (i := 18) rfl) rfl⟩
abbrev mX9_isStrange : Mi := (yX9_isStrange, cX9_isStrange, 4, (some .boolean))
theorem mk_X9_isStrange : MK mX9_isStrange 2 := ⟨⟨by decide +kernel, by decide +kernel, by decide +kernel⟩, inT3 (List.mem_of_getElem? (i := 22) rfl) rfl, inT1 (List.mem_of_getElem? (i := 10) rfl) rfl⟩
theorem ms_X9_isStrange : MS mX9_isStrange 2 := ⟨mk_X9_isStrange, inT3 (List.mem_of_getElem? (i := 21) rfl) rfl⟩
abbrev mX10_init : Mi := (yX10_init, cX10_init, 1, none)
theorem mk_X10_init : MK mX10_init 0 := ⟨⟨by decide +kernel, by decide +kernel, by decide +kernel⟩, inT1 (List.mem_of_getElem? (i := 23) rfl) rfl, inT1 (List.mem_of_getElem? (i := 1) rfl) rfl⟩
abbrev mX10_act : Mi := (yX10_act, cX10_act, 6, (some .int))
theorem mk_X10_act : MK mX10_act 4 := ⟨⟨by decide +kernel, by decide +kernel, by decide +kernel⟩, inT2 (List.mem_of_getElem? (i := 18) rfl) rfl, inT1 (List.mem_of_getElem? (i := 1) rfl) rfl⟩
theorem mv_X10_act : MV mX10_act 4 := ⟨mk_X10_act, inT2 (List.mem_of_getElem? (i := 16) rfl) rfl, inT2 (List.mem_of_getElem? (i := 17) rfl) rfl⟩
abbrev mX10_told : Mi := (yX10_told, cX10_told, 3, (some .int))
theorem mk_X10_told : MK mX10_told 2 := ⟨⟨by decide +kernel, by decide +kernel, by decide +kernel⟩, inT2 (List.mem_of_getElem? (i := 50) rfl) rfl, inT1 (List.mem_of_getElem? (i := 1) rfl) rfl⟩
theorem mv_X10_told : MV mX10_told 2 := ⟨mk_X10_told, inT2 (List.mem_of_getElem? (i := 48) rfl) rfl, inT2 (List.mem_of_getElem? (i := 49) rfl) rfl⟩
abbrev mX10_run : Mi := (yX10_run, cX10_run, 4, (some .int))
theorem mk_X10_run : MK mX10_run 2 := ⟨⟨by decide +kernel, by decide +kernel, by decide +kernel⟩, inT2 (List.mem_of_getElem? (i := 59) rfl) rfl, inT1 (List.mem_of_getElem? (i := 1) rfl) rfl⟩
theorem mv_X10_run : MV mX10_run 2 := ⟨mk_X10_run, inT2 (List.mem_of_getElem? (i := 57) rfl) rfl, inT2 (List.mem_of_getElem? (i := 58) rfl) rfl⟩
abbrev mX10_ended : Mi := (yX10_ended, cX10_ended, 3, (some .int))
theorem mk_X10_ended : MK mX10_ended 1 := ⟨⟨by decide +kernel, by decide +kernel, by decide +kernel⟩, inT3 (List.mem_of_getElem? (i := 207) rfl) rfl, inT1 (List.mem_of_getElem? (i := 1) rfl) rfl⟩
theorem mv_X10_ended : MV mX10_ended 1 := ⟨mk_X10_ended, inT3 (List.mem_of_getElem? (i := 205) rfl) rfl, inT3 (List.mem_of_getElem? (i := 206) rfl) rfl⟩
abbrev mX10_gave : Mi := (yX10_gave, cX10_gave, 1, (some .int))
theorem mk_X10_gave : MK mX10_gave 0 := ⟨⟨by decide +kernel, by decide +kernel, by decide +kernel⟩, inT3 (List.mem_of_getElem? (i := 211) rfl) rfl, inT1 (List.mem_of_getElem? (i := 1) rfl) rfl⟩
theorem mv_X10_gave : MV mX10_gave 0 := ⟨mk_X10_gave, inT3 (List.mem_of_getElem? (i := 209) rfl) rfl, inT3 (List.mem_of_getElem? (i := 210) rfl) rfl⟩
abbrev mX10_place : Mi := (yX10_place, cX10_place, 6, (some .int))
theorem mk_X10_place : MK mX10_place 1 := ⟨⟨by decide +kernel, by decide +kernel, by decide +kernel⟩, inT4 (List.mem_of_getElem? (i := 87) rfl) rfl, inT1 (List.mem_of_getElem? (i := 1) rfl) rfl⟩
theorem mv_X10_place : MV mX10_place 1 := ⟨mk_X10_place, inT4 (List.mem_of_getElem? (i := 85) rfl) rfl, inT4 (List.mem_of_getElem? (i := 86) rfl) rfl⟩
abbrev mX10_box : Mi := (yX10_box, cX10_box, 2, (some .int))
theorem mk_X10_box : MK mX10_box 1 := ⟨⟨by decide +kernel, by decide +kernel, by decide +kernel⟩, inT3 (List.mem_of_getElem? (i := 221) rfl) rfl, inT1 (List.mem_of_getElem? (i := 1) rfl) rfl⟩
theorem mv_X10_box : MV mX10_box 1 := ⟨mk_X10_box, inT3 (List.mem_of_getElem? (i := 219) rfl) rfl, inT3 (List.mem_of_getElem? (i := 220) rfl) rfl⟩
abbrev mX10_boxed : Mi := (yX10_boxed, cX10_boxed, 2, (some .int))
theorem mk_X10_boxed : MK mX10_boxed 1 := ⟨⟨by decide +kernel, by decide +kernel, by decide +kernel⟩, inT3 (List.mem_of_getElem? (i := 229) rfl) rfl, inT1 (List.mem_of_getElem? (i := 1) rfl) rfl⟩
theorem mv_X10_boxed : MV mX10_boxed 1 := ⟨mk_X10_boxed, inT3 (List.mem_of_getElem? (i := 227) rfl) rfl, inT3 (List.mem_of_getElem? (i := 228) rfl) rfl⟩
abbrev mX10_same : Mi := (yX10_same, cX10_same, 3, (some .int))
theorem mk_X10_same : MK mX10_same 2 := ⟨⟨by decide +kernel, by decide +kernel, by decide +kernel⟩, inT3 (List.mem_of_getElem? (i := 233) rfl) rfl, inT1 (List.mem_of_getElem? (i := 1) rfl) rfl⟩
theorem mv_X10_same : MV mX10_same 2 := ⟨mk_X10_same, inT3 (List.mem_of_getElem? (i := 231) rfl) rfl, inT3 (List.mem_of_getElem? (i := 232) rfl) rfl⟩
abbrev mX10_out : Mi := (yX10_out, cX10_out, 2, (some .int))
theorem mk_X10_out : MK mX10_out 1 := ⟨⟨by decide +kernel, by decide +kernel, by decide +kernel⟩, inT3 (List.mem_of_getElem? (i := 237) rfl) rfl, inT1 (List.mem_of_getElem? (i := 1) rfl) rfl⟩
theorem mv_X10_out : MV mX10_out 1 := ⟨mk_X10_out, inT3 (List.mem_of_getElem? (i := 235) rfl) rfl, inT3 (List.mem_of_getElem? (i := 236) rfl) rfl⟩
abbrev mX10_count : Mi := (yX10_count, cX10_count, 2, (some .int))
theorem mk_X10_count : MK mX10_count 1 := ⟨⟨by decide +kernel, by decide +kernel, by decide +kernel⟩, inT4 (List.mem_of_getElem? (i := 1) rfl) rfl, inT1 (List.mem_of_getElem? (i := 1) rfl) rfl⟩
theorem mv_X10_count : MV mX10_count 1 := ⟨mk_X10_count, inT3 (List.mem_of_getElem? (i := 239) rfl) rfl, inT4 (List.mem_of_getElem? (i := 0) rfl) rfl⟩
abbrev mX10_clear : Mi := (yX10_clear, cX10_clear, 2, (some .int))
theorem mk_X10_clear : MK mX10_clear 0 := ⟨⟨by decide +kernel, by decide +kernel, by decide +kernel⟩, inT4 (List.mem_of_getElem? (i := 5) rfl) rfl, inT1 (List.mem_of_getElem? (i := 1) rfl) rfl⟩
theorem mv_X10_clear : MV mX10_clear 0 := ⟨mk_X10_clear, inT4 (List.mem_of_getElem? (i := 3) rfl) rfl, inT4 (List.mem_of_getElem? (i := 4) rfl) rfl⟩
abbrev mX11_init : Mi := (yX11_init, cX11_init, 2, none)
theorem mk_X11_init : MK mX11_init 0 := ⟨⟨by decide +kernel, by decide +kernel, by decide +kernel⟩, inT4 (List.mem_of_getElem? (i := 99) rfl) rfl, inT1 (List.mem_of_getElem? (i := 9) rfl) rfl⟩
abbrev mX11_in : Mi := (yX11_in, cX11_in, 3, (some .boolean))
theorem mk_X11_in : MK mX11_in 3 := ⟨⟨by decide +kernel, by decide +kernel, by decide +kernel⟩, inT5 (List.mem_of_getElem? (i := 36) rfl) rfl, inT1 (List.mem_of_getElem? (i := 9) rfl) rfl⟩
theorem ms_X11_in : MS mX11_in 3 := ⟨mk_X11_in, inT5 (List.mem_of_getElem? (i := 35) rfl) rfl⟩
abbrev mX11_noAct : Mi := (yX11_noAct, cX11_noAct, 2, (some .boolean))
theorem mk_X11_noAct : MK mX11_noAct 1 := ⟨⟨by decide +kernel, by decide +kernel, by decide +kernel⟩, inT5 (List.mem_of_getElem? (i := 43) rfl) rfl, inT1 (List.mem_of_getElem? (i := 9) rfl) rfl⟩
theorem mv_X11_noAct : MV mX11_noAct 1 := ⟨mk_X11_noAct, inT5 (List.mem_of_getElem? (i := 42) rfl) rfl, inP3 (List.mem_of_getElem? (i := 2) rfl)⟩
abbrev mX11_actsOf : Mi := (yX11_actsOf, cX11_actsOf, 1, (some .int))
theorem mk_X11_actsOf : MK mX11_actsOf 1 := ⟨⟨by decide +kernel, by decide +kernel, by decide +kernel⟩, inT5 (List.mem_of_getElem? (i := 39) rfl) rfl, inT1 (List.mem_of_getElem? (i := 9) rfl) rfl⟩
theorem ms_X11_actsOf : MS mX11_actsOf 1 := ⟨mk_X11_actsOf, inT5 (List.mem_of_getElem? (i := 38) rfl) rfl⟩
abbrev mX11_act : Mi := (yX11_act, cX11_act, 7, (some .int))
theorem mk_X11_act : MK mX11_act 4 := ⟨⟨by decide +kernel, by decide +kernel, by decide +kernel⟩, inT5 (List.mem_of_getElem? (i := 33) rfl) rfl, inT1 (List.mem_of_getElem? (i := 9) rfl) rfl⟩
theorem mv_X11_act : MV mX11_act 4 := ⟨mk_X11_act, inT5 (List.mem_of_getElem? (i := 31) rfl) rfl, inT5 (List.mem_of_getElem? (i := 32) rfl) rfl⟩
abbrev mX11_told : Mi := (yX11_told, cX11_told, 3, (some .int))
theorem mk_X11_told : MK mX11_told 2 := ⟨⟨by decide +kernel, by decide +kernel, by decide +kernel⟩, inT5 (List.mem_of_getElem? (i := 47) rfl) rfl, inT1 (List.mem_of_getElem? (i := 9) rfl) rfl⟩
theorem mv_X11_told : MV mX11_told 2 := ⟨mk_X11_told, inT5 (List.mem_of_getElem? (i := 45) rfl) rfl, inT5 (List.mem_of_getElem? (i := 46) rfl) rfl⟩
abbrev mX11_value : Mi := (yX11_value, cX11_value, 3, none)
theorem mk_X11_value : MK mX11_value 2 := ⟨⟨by decide +kernel, by decide +kernel, by decide +kernel⟩, inT5 (List.mem_of_getElem? (i := 71) rfl) rfl, inT1 (List.mem_of_getElem? (i := 9) rfl) rfl⟩
theorem mv_X11_value : MV mX11_value 2 := ⟨mk_X11_value, inT5 (List.mem_of_getElem? (i := 70) rfl) rfl, inP3 (List.mem_of_getElem? (i := 7) rfl)⟩
abbrev mX11_start : Mi := (yX11_start, cX11_start, 3, none)
theorem mk_X11_start : MK mX11_start 2 := ⟨⟨by decide +kernel, by decide +kernel, by decide +kernel⟩, inT5 (List.mem_of_getElem? (i := 59) rfl) rfl, inT1 (List.mem_of_getElem? (i := 9) rfl) rfl⟩
theorem mv_X11_start : MV mX11_start 2 := ⟨mk_X11_start, inT5 (List.mem_of_getElem? (i := 58) rfl) rfl, inP3 (List.mem_of_getElem? (i := 4) rfl)⟩
abbrev mX11_finish : Mi := (yX11_finish, cX11_finish, 3, none)
theorem mk_X11_finish : MK mX11_finish 2 := ⟨⟨by decide +kernel, by decide +kernel, by decide +kernel⟩, inT5 (List.mem_of_getElem? (i := 67) rfl) rfl, inT1 (List.mem_of_getElem? (i := 9) rfl) rfl⟩
theorem mv_X11_finish : MV mX11_finish 2 := ⟨mk_X11_finish, inT5 (List.mem_of_getElem? (i := 66) rfl) rfl, inP3 (List.mem_of_getElem? (i := 6) rfl)⟩
abbrev mX11_fail : Mi := (yX11_fail, cX11_fail, 4, none)
theorem mk_X11_fail : MK mX11_fail 3 := ⟨⟨by decide +kernel, by decide +kernel, by decide +kernel⟩, inT5 (List.mem_of_getElem? (i := 103) rfl) rfl, inT1 (List.mem_of_getElem? (i := 9) rfl) rfl⟩
theorem mv_X11_fail : MV mX11_fail 3 := ⟨mk_X11_fail, inT5 (List.mem_of_getElem? (i := 102) rfl) rfl, inP3 (List.mem_of_getElem? (i := 15) rfl)⟩
abbrev mX11_newThing : Mi := (yX11_newThing, cX11_newThing, 4, (some .int))
theorem mk_X11_newThing : MK mX11_newThing 1 := ⟨⟨by decide +kernel, by decide +kernel, by decide +kernel⟩, inT5 (List.mem_of_getElem? (i := 75) rfl) rfl, inT1 (List.mem_of_getElem? (i := 9) rfl) rfl⟩
theorem mv_X11_newThing : MV mX11_newThing 1 := ⟨mk_X11_newThing, inT5 (List.mem_of_getElem? (i := 74) rfl) rfl, inP3 (List.mem_of_getElem? (i := 8) rfl)⟩
abbrev mX11_newFrame : Mi := (yX11_newFrame, cX11_newFrame, 3, (some .int))
theorem mk_X11_newFrame : MK mX11_newFrame 0 := ⟨⟨by decide +kernel, by decide +kernel, by decide +kernel⟩, inT5 (List.mem_of_getElem? (i := 55) rfl) rfl, inT1 (List.mem_of_getElem? (i := 9) rfl) rfl⟩
theorem mv_X11_newFrame : MV mX11_newFrame 0 := ⟨mk_X11_newFrame, inT5 (List.mem_of_getElem? (i := 54) rfl) rfl, inP3 (List.mem_of_getElem? (i := 3) rfl)⟩
abbrev mX11_write : Mi := (yX11_write, cX11_write, 4, none)
theorem mk_X11_write : MK mX11_write 3 := ⟨⟨by decide +kernel, by decide +kernel, by decide +kernel⟩, inT5 (List.mem_of_getElem? (i := 130) rfl) rfl, inT1 (List.mem_of_getElem? (i := 9) rfl) rfl⟩
theorem mv_X11_write : MV mX11_write 3 := ⟨mk_X11_write, inT5 (List.mem_of_getElem? (i := 129) rfl) rfl, inP4 (List.mem_of_getElem? (i := 5) rfl)⟩
abbrev mX11_back : Mi := (yX11_back, cX11_back, 3, none)
theorem mk_X11_back : MK mX11_back 1 := ⟨⟨by decide +kernel, by decide +kernel, by decide +kernel⟩, inT5 (List.mem_of_getElem? (i := 166) rfl) rfl, inT1 (List.mem_of_getElem? (i := 9) rfl) rfl⟩
theorem mv_X11_back : MV mX11_back 1 := ⟨mk_X11_back, inT5 (List.mem_of_getElem? (i := 165) rfl) rfl, inP4 (List.mem_of_getElem? (i := 14) rfl)⟩
abbrev mX11_begin : Mi := (yX11_begin, cX11_begin, 4, none)
theorem mk_X11_begin : MK mX11_begin 0 := ⟨⟨by decide +kernel, by decide +kernel, by decide +kernel⟩, inT5 (List.mem_of_getElem? (i := 63) rfl) rfl, inT1 (List.mem_of_getElem? (i := 9) rfl) rfl⟩
theorem mv_X11_begin : MV mX11_begin 0 := ⟨mk_X11_begin, inT5 (List.mem_of_getElem? (i := 62) rfl) rfl, inP3 (List.mem_of_getElem? (i := 5) rfl)⟩
abbrev mX11_keepX : Mi := (yX11_keepX, cX11_keepX, 2, none)
theorem mk_X11_keepX : MK mX11_keepX 1 := ⟨⟨by decide +kernel, by decide +kernel, by decide +kernel⟩, inT5 (List.mem_of_getElem? (i := 83) rfl) rfl, inT1 (List.mem_of_getElem? (i := 9) rfl) rfl⟩
theorem mv_X11_keepX : MV mX11_keepX 1 := ⟨mk_X11_keepX, inT5 (List.mem_of_getElem? (i := 82) rfl) rfl, inP3 (List.mem_of_getElem? (i := 10) rfl)⟩
abbrev mX11_keepY : Mi := (yX11_keepY, cX11_keepY, 2, none)
theorem mk_X11_keepY : MK mX11_keepY 1 := ⟨⟨by decide +kernel, by decide +kernel, by decide +kernel⟩, inT5 (List.mem_of_getElem? (i := 87) rfl) rfl, inT1 (List.mem_of_getElem? (i := 9) rfl) rfl⟩
theorem mv_X11_keepY : MV mX11_keepY 1 := ⟨mk_X11_keepY, inT5 (List.mem_of_getElem? (i := 86) rfl) rfl, inP3 (List.mem_of_getElem? (i := 11) rfl)⟩
abbrev mX11_isWhole : Mi := (yX11_isWhole, cX11_isWhole, 4, (some .boolean))
theorem mk_X11_isWhole : MK mX11_isWhole 2 := ⟨⟨by decide +kernel, by decide +kernel, by decide +kernel⟩, inT5 (List.mem_of_getElem? (i := 99) rfl) rfl, inT1 (List.mem_of_getElem? (i := 9) rfl) rfl⟩
theorem mv_X11_isWhole : MV mX11_isWhole 2 := ⟨mk_X11_isWhole, inT5 (List.mem_of_getElem? (i := 98) rfl) rfl, inP3 (List.mem_of_getElem? (i := 14) rfl)⟩
abbrev mX11_failBy : Mi := (yX11_failBy, cX11_failBy, 3, none)
theorem mk_X11_failBy : MK mX11_failBy 2 := ⟨⟨by decide +kernel, by decide +kernel, by decide +kernel⟩, inT5 (List.mem_of_getElem? (i := 107) rfl) rfl, inT1 (List.mem_of_getElem? (i := 9) rfl) rfl⟩
theorem mv_X11_failBy : MV mX11_failBy 2 := ⟨mk_X11_failBy, inT5 (List.mem_of_getElem? (i := 106) rfl) rfl, inP4 (List.mem_of_getElem? (i := 0) rfl)⟩
abbrev mX11_up : Mi := (yX11_up, cX11_up, 7, none)
theorem mk_X11_up : MK mX11_up 0 := ⟨⟨by decide +kernel, by decide +kernel, by decide +kernel⟩, inT5 (List.mem_of_getElem? (i := 79) rfl) rfl, inT1 (List.mem_of_getElem? (i := 9) rfl) rfl⟩
theorem mv_X11_up : MV mX11_up 0 := ⟨mk_X11_up, inT5 (List.mem_of_getElem? (i := 78) rfl) rfl, inP3 (List.mem_of_getElem? (i := 9) rfl)⟩
abbrev mX11_upOf : Mi := (yX11_upOf, cX11_upOf, 7, none)
theorem mk_X11_upOf : MK mX11_upOf 5 := ⟨⟨by decide +kernel, by decide +kernel, by decide +kernel⟩, inT5 (List.mem_of_getElem? (i := 91) rfl) rfl, inT1 (List.mem_of_getElem? (i := 9) rfl) rfl⟩
theorem mv_X11_upOf : MV mX11_upOf 5 := ⟨mk_X11_upOf, inT5 (List.mem_of_getElem? (i := 90) rfl) rfl, inP3 (List.mem_of_getElem? (i := 12) rfl)⟩
abbrev mX11_upLater : Mi := (yX11_upLater, cX11_upLater, 6, none)
theorem mk_X11_upLater : MK mX11_upLater 5 := ⟨⟨by decide +kernel, by decide +kernel, by decide +kernel⟩, inT5 (List.mem_of_getElem? (i := 142) rfl) rfl, inT1 (List.mem_of_getElem? (i := 9) rfl) rfl⟩
theorem mv_X11_upLater : MV mX11_upLater 5 := ⟨mk_X11_upLater, inT5 (List.mem_of_getElem? (i := 141) rfl) rfl, inP4 (List.mem_of_getElem? (i := 8) rfl)⟩
abbrev mX11_upLoop : Mi := (yX11_upLoop, cX11_upLoop, 5, none)
theorem mk_X11_upLoop : MK mX11_upLoop 4 := ⟨⟨by decide +kernel, by decide +kernel, by decide +kernel⟩, inT5 (List.mem_of_getElem? (i := 146) rfl) rfl, inT1 (List.mem_of_getElem? (i := 9) rfl) rfl⟩
theorem mv_X11_upLoop : MV mX11_upLoop 4 := ⟨mk_X11_upLoop, inT5 (List.mem_of_getElem? (i := 145) rfl) rfl, inP4 (List.mem_of_getElem? (i := 9) rfl)⟩
abbrev mX11_upCall : Mi := (yX11_upCall, cX11_upCall, 5, none)
theorem mk_X11_upCall : MK mX11_upCall 3 := ⟨⟨by decide +kernel, by decide +kernel, by decide +kernel⟩, inT5 (List.mem_of_getElem? (i := 150) rfl) rfl, inT1 (List.mem_of_getElem? (i := 9) rfl) rfl⟩
theorem mv_X11_upCall : MV mX11_upCall 3 := ⟨mk_X11_upCall, inT5 (List.mem_of_getElem? (i := 149) rfl) rfl, inP4 (List.mem_of_getElem? (i := 10) rfl)⟩
abbrev mX11_upWork : Mi := (yX11_upWork, cX11_upWork, 5, none)
theorem mk_X11_upWork : MK mX11_upWork 3 := ⟨⟨by decide +kernel, by decide +kernel, by decide +kernel⟩, inT5 (List.mem_of_getElem? (i := 154) rfl) rfl, inT1 (List.mem_of_getElem? (i := 9) rfl) rfl⟩
theorem mv_X11_upWork : MV mX11_upWork 3 := ⟨mk_X11_upWork, inT5 (List.mem_of_getElem? (i := 153) rfl) rfl, inP4 (List.mem_of_getElem? (i := 11) rfl)⟩
abbrev mX11_reckon : Mi := (yX11_reckon, cX11_reckon, 6, none)
theorem mk_X11_reckon : MK mX11_reckon 4 := ⟨⟨by decide +kernel, by decide +kernel, by decide +kernel⟩, inT5 (List.mem_of_getElem? (i := 95) rfl) rfl, inT1 (List.mem_of_getElem? (i := 9) rfl) rfl⟩
theorem mv_X11_reckon : MV mX11_reckon 4 := ⟨mk_X11_reckon, inT5 (List.mem_of_getElem? (i := 94) rfl) rfl, inP3 (List.mem_of_getElem? (i := 13) rfl)⟩
abbrev mX11_makeRow : Mi := (yX11_makeRow, cX11_makeRow, 6, none)
theorem mk_X11_makeRow : MK mX11_makeRow 2 := ⟨⟨by decide +kernel, by decide +kernel, by decide +kernel⟩, inT5 (List.mem_of_getElem? (i := 111) rfl) rfl, inT1 (List.mem_of_getElem? (i := 9) rfl) rfl⟩
theorem mv_X11_makeRow : MV mX11_makeRow 2 := ⟨mk_X11_makeRow, inT5 (List.mem_of_getElem? (i := 110) rfl) rfl, inP4 (List.mem_of_getElem? (i := 1) rfl)⟩
abbrev mX11_isRow : Mi := (yX11_isRow, cX11_isRow, 1, (some .boolean))
theorem mk_X11_isRow : MK mX11_isRow 1 := ⟨⟨by decide +kernel, by decide +kernel, by decide +kernel⟩, inT5 (List.mem_of_getElem? (i := 122) rfl) rfl, inT1 (List.mem_of_getElem? (i := 9) rfl) rfl⟩
theorem ms_X11_isRow : MS mX11_isRow 1 := ⟨mk_X11_isRow, inT5 (List.mem_of_getElem? (i := 121) rfl) rfl⟩
abbrev mX11_isRowHere : Mi := (yX11_isRowHere, cX11_isRowHere, 3, (some .boolean))
theorem mk_X11_isRowHere : MK mX11_isRowHere 2 := ⟨⟨by decide +kernel, by decide +kernel, by decide +kernel⟩, inT5 (List.mem_of_getElem? (i := 119) rfl) rfl, inT1 (List.mem_of_getElem? (i := 9) rfl) rfl⟩
theorem mv_X11_isRowHere : MV mX11_isRowHere 2 := ⟨mk_X11_isRowHere, inT5 (List.mem_of_getElem? (i := 118) rfl) rfl, inP4 (List.mem_of_getElem? (i := 3) rfl)⟩
abbrev mX11_isLink : Mi := (yX11_isLink, cX11_isLink, 4, (some .boolean))
theorem mk_X11_isLink : MK mX11_isLink 2 := ⟨⟨by decide +kernel, by decide +kernel, by decide +kernel⟩, inT5 (List.mem_of_getElem? (i := 134) rfl) rfl, inT1 (List.mem_of_getElem? (i := 9) rfl) rfl⟩
theorem mv_X11_isLink : MV mX11_isLink 2 := ⟨mk_X11_isLink, inT5 (List.mem_of_getElem? (i := 133) rfl) rfl, inP4 (List.mem_of_getElem? (i := 6) rfl)⟩
abbrev mX11_readPlace : Mi := (yX11_readPlace, cX11_readPlace, 5, none)
theorem mk_X11_readPlace : MK mX11_readPlace 3 := ⟨⟨by decide +kernel, by decide +kernel, by decide +kernel⟩, inT5 (List.mem_of_getElem? (i := 115) rfl) rfl, inT1 (List.mem_of_getElem? (i := 9) rfl) rfl⟩
theorem mv_X11_readPlace : MV mX11_readPlace 3 := ⟨mk_X11_readPlace, inT5 (List.mem_of_getElem? (i := 114) rfl) rfl, inP4 (List.mem_of_getElem? (i := 2) rfl)⟩
abbrev mX11_writePlace : Mi := (yX11_writePlace, cX11_writePlace, 6, none)
theorem mk_X11_writePlace : MK mX11_writePlace 2 := ⟨⟨by decide +kernel, by decide +kernel, by decide +kernel⟩, inT5 (List.mem_of_getElem? (i := 126) rfl) rfl, inT1 (List.mem_of_getElem? (i := 9) rfl) rfl⟩
theorem mv_X11_writePlace : MV mX11_writePlace 2 := ⟨mk_X11_writePlace, inT5 (List.mem_of_getElem? (i := 125) rfl) rfl, inP4 (List.mem_of_getElem? (i := 4) rfl)⟩
abbrev mX11_copyPlaces : Mi := (yX11_copyPlaces, cX11_copyPlaces, 9, none)
theorem mk_X11_copyPlaces : MK mX11_copyPlaces 2 := ⟨⟨by decide +kernel, by decide +kernel, by decide +kernel⟩, inT5 (List.mem_of_getElem? (i := 138) rfl) rfl, inT1 (List.mem_of_getElem? (i := 9) rfl) rfl⟩
theorem mv_X11_copyPlaces : MV mX11_copyPlaces 2 := ⟨mk_X11_copyPlaces, inT5 (List.mem_of_getElem? (i := 137) rfl) rfl, inP4 (List.mem_of_getElem? (i := 7) rfl)⟩
abbrev mX11_upFailure : Mi := (yX11_upFailure, cX11_upFailure, 6, none)
theorem mk_X11_upFailure : MK mX11_upFailure 0 := ⟨⟨by decide +kernel, by decide +kernel, by decide +kernel⟩, inT5 (List.mem_of_getElem? (i := 158) rfl) rfl, inT1 (List.mem_of_getElem? (i := 9) rfl) rfl⟩
theorem mv_X11_upFailure : MV mX11_upFailure 0 := ⟨mk_X11_upFailure, inT5 (List.mem_of_getElem? (i := 157) rfl) rfl, inP4 (List.mem_of_getElem? (i := 12) rfl)⟩
abbrev mX11_leave : Mi := (yX11_leave, cX11_leave, 5, none)
theorem mk_X11_leave : MK mX11_leave 4 := ⟨⟨by decide +kernel, by decide +kernel, by decide +kernel⟩, inT5 (List.mem_of_getElem? (i := 162) rfl) rfl, inT1 (List.mem_of_getElem? (i := 9) rfl) rfl⟩
theorem mv_X11_leave : MV mX11_leave 4 := ⟨mk_X11_leave, inT5 (List.mem_of_getElem? (i := 161) rfl) rfl, inP4 (List.mem_of_getElem? (i := 13) rfl)⟩
abbrev mX11_run : Mi := (yX11_run, cX11_run, 5, (some .int))
theorem mk_X11_run : MK mX11_run 2 := ⟨⟨by decide +kernel, by decide +kernel, by decide +kernel⟩, inT5 (List.mem_of_getElem? (i := 51) rfl) rfl, inT1 (List.mem_of_getElem? (i := 9) rfl) rfl⟩
theorem mv_X11_run : MV mX11_run 2 := ⟨mk_X11_run, inT5 (List.mem_of_getElem? (i := 49) rfl) rfl, inT5 (List.mem_of_getElem? (i := 50) rfl) rfl⟩
abbrev mX11_ended : Mi := (yX11_ended, cX11_ended, 2, (some .int))
theorem mk_X11_ended : MK mX11_ended 1 := ⟨⟨by decide +kernel, by decide +kernel, by decide +kernel⟩, inT5 (List.mem_of_getElem? (i := 170) rfl) rfl, inT1 (List.mem_of_getElem? (i := 9) rfl) rfl⟩
theorem mv_X11_ended : MV mX11_ended 1 := ⟨mk_X11_ended, inT5 (List.mem_of_getElem? (i := 168) rfl) rfl, inT5 (List.mem_of_getElem? (i := 169) rfl) rfl⟩
abbrev mX11_numberOf : Mi := (yX11_numberOf, cX11_numberOf, 3, (some .int))
theorem mk_X11_numberOf : MK mX11_numberOf 2 := ⟨⟨by decide +kernel, by decide +kernel, by decide +kernel⟩, inT5 (List.mem_of_getElem? (i := 178) rfl) rfl, inT1 (List.mem_of_getElem? (i := 9) rfl) rfl⟩
theorem mv_X11_numberOf : MV mX11_numberOf 2 := ⟨mk_X11_numberOf, inT5 (List.mem_of_getElem? (i := 177) rfl) rfl, inP4 (List.mem_of_getElem? (i := 15) rfl)⟩
abbrev mX11_gave : Mi := (yX11_gave, cX11_gave, 1, (some .int))
theorem mk_X11_gave : MK mX11_gave 0 := ⟨⟨by decide +kernel, by decide +kernel, by decide +kernel⟩, inT5 (List.mem_of_getElem? (i := 174) rfl) rfl, inT1 (List.mem_of_getElem? (i := 9) rfl) rfl⟩
theorem mv_X11_gave : MV mX11_gave 0 := ⟨mk_X11_gave, inT5 (List.mem_of_getElem? (i := 172) rfl) rfl, inT5 (List.mem_of_getElem? (i := 173) rfl) rfl⟩
abbrev mX11_thrown : Mi := (yX11_thrown, cX11_thrown, 1, (some .int))
theorem mk_X11_thrown : MK mX11_thrown 0 := ⟨⟨by decide +kernel, by decide +kernel, by decide +kernel⟩, inT5 (List.mem_of_getElem? (i := 182) rfl) rfl, inT1 (List.mem_of_getElem? (i := 9) rfl) rfl⟩
theorem mv_X11_thrown : MV mX11_thrown 0 := ⟨mk_X11_thrown, inT5 (List.mem_of_getElem? (i := 180) rfl) rfl, inT5 (List.mem_of_getElem? (i := 181) rfl) rfl⟩
abbrev mX11_place : Mi := (yX11_place, cX11_place, 3, (some .int))
theorem mk_X11_place : MK mX11_place 1 := ⟨⟨by decide +kernel, by decide +kernel, by decide +kernel⟩, inT5 (List.mem_of_getElem? (i := 186) rfl) rfl, inT1 (List.mem_of_getElem? (i := 9) rfl) rfl⟩
theorem mv_X11_place : MV mX11_place 1 := ⟨mk_X11_place, inT5 (List.mem_of_getElem? (i := 184) rfl) rfl, inT5 (List.mem_of_getElem? (i := 185) rfl) rfl⟩
abbrev mX11_box : Mi := (yX11_box, cX11_box, 2, (some .int))
theorem mk_X11_box : MK mX11_box 1 := ⟨⟨by decide +kernel, by decide +kernel, by decide +kernel⟩, inT5 (List.mem_of_getElem? (i := 190) rfl) rfl, inT1 (List.mem_of_getElem? (i := 9) rfl) rfl⟩
theorem mv_X11_box : MV mX11_box 1 := ⟨mk_X11_box, inT5 (List.mem_of_getElem? (i := 188) rfl) rfl, inT5 (List.mem_of_getElem? (i := 189) rfl) rfl⟩
abbrev mX11_boxed : Mi := (yX11_boxed, cX11_boxed, 2, (some .int))
theorem mk_X11_boxed : MK mX11_boxed 1 := ⟨⟨by decide +kernel, by decide +kernel, by decide +kernel⟩, inT5 (List.mem_of_getElem? (i := 194) rfl) rfl, inT1 (List.mem_of_getElem? (i := 9) rfl) rfl⟩
theorem mv_X11_boxed : MV mX11_boxed 1 := ⟨mk_X11_boxed, inT5 (List.mem_of_getElem? (i := 192) rfl) rfl, inT5 (List.mem_of_getElem? (i := 193) rfl) rfl⟩
abbrev mX11_same : Mi := (yX11_same, cX11_same, 3, (some .int))
theorem mk_X11_same : MK mX11_same 2 := ⟨⟨by decide +kernel, by decide +kernel, by decide +kernel⟩, inT5 (List.mem_of_getElem? (i := 198) rfl) rfl, inT1 (List.mem_of_getElem? (i := 9) rfl) rfl⟩
theorem mv_X11_same : MV mX11_same 2 := ⟨mk_X11_same, inT5 (List.mem_of_getElem? (i := 196) rfl) rfl, inT5 (List.mem_of_getElem? (i := 197) rfl) rfl⟩
abbrev mX11_out : Mi := (yX11_out, cX11_out, 2, (some .int))
theorem mk_X11_out : MK mX11_out 1 := ⟨⟨by decide +kernel, by decide +kernel, by decide +kernel⟩, inT5 (List.mem_of_getElem? (i := 202) rfl) rfl, inT1 (List.mem_of_getElem? (i := 9) rfl) rfl⟩
theorem mv_X11_out : MV mX11_out 1 := ⟨mk_X11_out, inT5 (List.mem_of_getElem? (i := 200) rfl) rfl, inT5 (List.mem_of_getElem? (i := 201) rfl) rfl⟩
abbrev mX11_count : Mi := (yX11_count, cX11_count, 2, (some .int))
theorem mk_X11_count : MK mX11_count 1 := ⟨⟨by decide +kernel, by decide +kernel, by decide +kernel⟩, inT5 (List.mem_of_getElem? (i := 206) rfl) rfl, inT1 (List.mem_of_getElem? (i := 9) rfl) rfl⟩
theorem mv_X11_count : MV mX11_count 1 := ⟨mk_X11_count, inT5 (List.mem_of_getElem? (i := 204) rfl) rfl, inT5 (List.mem_of_getElem? (i := 205) rfl) rfl⟩
abbrev mX11_clear : Mi := (yX11_clear, cX11_clear, 3, (some .int))
theorem mk_X11_clear : MK mX11_clear 0 := ⟨⟨by decide +kernel, by decide +kernel, by decide +kernel⟩, inT5 (List.mem_of_getElem? (i := 210) rfl) rfl, inT1 (List.mem_of_getElem? (i := 9) rfl) rfl⟩
theorem mv_X11_clear : MV mX11_clear 0 := ⟨mk_X11_clear, inT5 (List.mem_of_getElem? (i := 208) rfl) rfl, inT5 (List.mem_of_getElem? (i := 209) rfl) rfl⟩
theorem lk_X10_9 : Cond.methodLink RX10 9 yX0_init ∈ wsG := inT1 (List.mem_of_getElem? (i := 29) rfl) rfl
theorem lk_X10_18 : Cond.methodLink RX10 18 yX6_init ∈ wsG := inT1 (List.mem_of_getElem? (i := 50) rfl) rfl
theorem lk_X10_29 : Cond.methodLink RX10 29 yX0_refusalOf ∈ wsG := inT2 (List.mem_of_getElem? (i := 19) rfl) rfl
theorem lk_X10_33 : Cond.methodLink RX10 33 yX0_add ∈ wsG := inT2 (List.mem_of_getElem? (i := 39) rfl) rfl
theorem lk_X10_36 : Cond.methodLink RX10 36 yX0_has ∈ wsG := inT2 (List.mem_of_getElem? (i := 51) rfl) rfl
theorem lk_X10_40 : Cond.methodLink RX10 40 yX0_given ∈ wsG := inT2 (List.mem_of_getElem? (i := 52) rfl) rfl
theorem lk_X10_44 : Cond.methodLink RX10 44 yX6_perform ∈ wsG := inT2 (List.mem_of_getElem? (i := 60) rfl) rfl
theorem lk_X10_61 : Cond.methodLink RX10 61 yX9_sort ∈ wsG := inT3 (List.mem_of_getElem? (i := 203) rfl) rfl
theorem lk_X10_83 : Cond.methodLink RX10 83 yX7_measure ∈ wsG := inT3 (List.mem_of_getElem? (i := 212) rfl) rfl
theorem lk_X10_88 : Cond.methodLink RX10 88 yX9_isRow ∈ wsG := inT4 (List.mem_of_getElem? (i := 88) rfl) rfl
theorem lk_X10_92 : Cond.methodLink RX10 92 yX7_lengthOf ∈ wsG := inT4 (List.mem_of_getElem? (i := 89) rfl) rfl
theorem lk_X10_102 : Cond.methodLink RX10 102 yX7_cellOf ∈ wsG := inT4 (List.mem_of_getElem? (i := 93) rfl) rfl
theorem lk_X10_106 : Cond.methodLink RX10 106 yX7_read ∈ wsG := inT3 (List.mem_of_getElem? (i := 225) rfl) rfl
theorem lk_X10_110 : Cond.methodLink RX10 110 yX9_number ∈ wsG := inT4 (List.mem_of_getElem? (i := 94) rfl) rfl
theorem lk_X10_113 : Cond.methodLink RX10 113 yX7_isBox ∈ wsG := inT3 (List.mem_of_getElem? (i := 222) rfl) rfl
theorem lk_X10_126 : Cond.methodLink RX10 126 yX6_restart ∈ wsG := inT4 (List.mem_of_getElem? (i := 6) rfl) rfl
theorem lk_X11_107 : Cond.methodLink RX11 107 yX11_in ∈ wsG := inT5 (List.mem_of_getElem? (i := 34) rfl) rfl
theorem lk_X11_114 : Cond.methodLink RX11 114 yX11_actsOf ∈ wsG := inT5 (List.mem_of_getElem? (i := 37) rfl) rfl
theorem lk_X11_118 : Cond.methodLink RX11 118 yX11_noAct ∈ wsG := inT5 (List.mem_of_getElem? (i := 40) rfl) rfl
theorem lk_X11_149 : Cond.methodLink RX11 149 yX11_finish ∈ wsG := inT5 (List.mem_of_getElem? (i := 64) rfl) rfl
theorem lk_X11_168 : Cond.methodLink RX11 168 yX11_value ∈ wsG := inT5 (List.mem_of_getElem? (i := 68) rfl) rfl
theorem lk_X11_171 : Cond.methodLink RX11 171 yX11_newThing ∈ wsG := inT5 (List.mem_of_getElem? (i := 72) rfl) rfl
theorem lk_X11_177 : Cond.methodLink RX11 177 yX11_start ∈ wsG := inT5 (List.mem_of_getElem? (i := 56) rfl) rfl
theorem lk_X11_180 : Cond.methodLink RX11 180 yX11_fail ∈ wsG := inT5 (List.mem_of_getElem? (i := 100) rfl) rfl
theorem lk_X11_184 : Cond.methodLink RX11 184 yX11_keepX ∈ wsG := inT5 (List.mem_of_getElem? (i := 80) rfl) rfl
theorem lk_X11_188 : Cond.methodLink RX11 188 yX11_keepY ∈ wsG := inT5 (List.mem_of_getElem? (i := 84) rfl) rfl
theorem lk_X11_191 : Cond.methodLink RX11 191 yX11_upOf ∈ wsG := inT5 (List.mem_of_getElem? (i := 88) rfl) rfl
theorem lk_X11_195 : Cond.methodLink RX11 195 yX11_reckon ∈ wsG := inT5 (List.mem_of_getElem? (i := 92) rfl) rfl
theorem lk_X11_199 : Cond.methodLink RX11 199 yX11_makeRow ∈ wsG := inT5 (List.mem_of_getElem? (i := 108) rfl) rfl
theorem lk_X11_202 : Cond.methodLink RX11 202 yX11_readPlace ∈ wsG := inT5 (List.mem_of_getElem? (i := 112) rfl) rfl
theorem lk_X11_205 : Cond.methodLink RX11 205 yX11_writePlace ∈ wsG := inT5 (List.mem_of_getElem? (i := 123) rfl) rfl
theorem lk_X11_208 : Cond.methodLink RX11 208 yX11_isLink ∈ wsG := inT5 (List.mem_of_getElem? (i := 131) rfl) rfl
theorem lk_X11_212 : Cond.methodLink RX11 212 yX11_write ∈ wsG := inT5 (List.mem_of_getElem? (i := 127) rfl) rfl
theorem lk_X11_215 : Cond.methodLink RX11 215 yX11_copyPlaces ∈ wsG := inT5 (List.mem_of_getElem? (i := 135) rfl) rfl
theorem lk_X11_218 : Cond.methodLink RX11 218 yX11_isWhole ∈ wsG := inT5 (List.mem_of_getElem? (i := 96) rfl) rfl
theorem lk_X11_221 : Cond.methodLink RX11 221 yX11_upLater ∈ wsG := inT5 (List.mem_of_getElem? (i := 139) rfl) rfl
theorem lk_X11_224 : Cond.methodLink RX11 224 yX11_upLoop ∈ wsG := inT5 (List.mem_of_getElem? (i := 143) rfl) rfl
theorem lk_X11_227 : Cond.methodLink RX11 227 yX11_upCall ∈ wsG := inT5 (List.mem_of_getElem? (i := 147) rfl) rfl
theorem lk_X11_233 : Cond.methodLink RX11 233 yX11_upWork ∈ wsG := inT5 (List.mem_of_getElem? (i := 151) rfl) rfl
theorem lk_X11_239 : Cond.methodLink RX11 239 yX11_newFrame ∈ wsG := inT5 (List.mem_of_getElem? (i := 52) rfl) rfl
theorem lk_X11_243 : Cond.methodLink RX11 243 yX11_failBy ∈ wsG := inT5 (List.mem_of_getElem? (i := 104) rfl) rfl
theorem lk_X11_246 : Cond.methodLink RX11 246 yX11_isRow ∈ wsG := inT5 (List.mem_of_getElem? (i := 120) rfl) rfl
theorem lk_X11_249 : Cond.methodLink RX11 249 yX11_isRowHere ∈ wsG := inT5 (List.mem_of_getElem? (i := 116) rfl) rfl
theorem lk_X11_252 : Cond.methodLink RX11 252 yX11_leave ∈ wsG := inT5 (List.mem_of_getElem? (i := 159) rfl) rfl
theorem lk_X11_255 : Cond.methodLink RX11 255 yX11_back ∈ wsG := inT5 (List.mem_of_getElem? (i := 163) rfl) rfl
theorem lk_X11_261 : Cond.methodLink RX11 261 yX11_begin ∈ wsG := inT5 (List.mem_of_getElem? (i := 60) rfl) rfl
theorem lk_X11_264 : Cond.methodLink RX11 264 yX11_up ∈ wsG := inT5 (List.mem_of_getElem? (i := 76) rfl) rfl
theorem lk_X11_267 : Cond.methodLink RX11 267 yX11_upFailure ∈ wsG := inT5 (List.mem_of_getElem? (i := 155) rfl) rfl
theorem lk_X11_285 : Cond.methodLink RX11 285 yX11_numberOf ∈ wsG := inT5 (List.mem_of_getElem? (i := 175) rfl) rfl
theorem lk_X0_25 : Cond.methodLink RX0 25 yX0_has ∈ wsG := inT2 (List.mem_of_getElem? (i := 29) rfl) rfl
theorem lk_X0_34 : Cond.methodLink RX0 34 yX0_isUnknown ∈ wsG := inT2 (List.mem_of_getElem? (i := 25) rfl) rfl
theorem lk_X0_38 : Cond.methodLink RX0 38 yX0_isOutside ∈ wsG := inT2 (List.mem_of_getElem? (i := 33) rfl) rfl
theorem lk_X0_44 : Cond.methodLink RX0 44 yX0_sortParts ∈ wsG := inT2 (List.mem_of_getElem? (i := 43) rfl) rfl
theorem lk_X1_7 : Cond.methodLink RX1 7 yX1_restart ∈ wsG := inT1 (List.mem_of_getElem? (i := 88) rfl) rfl
theorem lk_X1_31 : Cond.methodLink RX1 31 yX1_settle ∈ wsG := inT1 (List.mem_of_getElem? (i := 93) rfl) rfl
theorem lk_X1_34 : Cond.methodLink RX1 34 yX1_goOn ∈ wsG := inT1 (List.mem_of_getElem? (i := 97) rfl) rfl
theorem lk_X2_7 : Cond.methodLink RX2 7 yX2_ofWhole ∈ wsG := inT2 (List.mem_of_getElem? (i := 232) rfl) rfl
theorem lk_X2_13 : Cond.methodLink RX2 13 yX2_firstOf ∈ wsG := inT3 (List.mem_of_getElem? (i := 0) rfl) rfl
theorem lk_X2_17 : Cond.methodLink RX2 17 yX9_number ∈ wsG := inT3 (List.mem_of_getElem? (i := 3) rfl) rfl
theorem lk_X2_22 : Cond.methodLink RX2 22 yX2_ofLength ∈ wsG := inT3 (List.mem_of_getElem? (i := 4) rfl) rfl
theorem lk_X2_26 : Cond.methodLink RX2 26 yX9_isRow ∈ wsG := inT3 (List.mem_of_getElem? (i := 7) rfl) rfl
theorem lk_X2_30 : Cond.methodLink RX2 30 yX2_ofThing ∈ wsG := inT2 (List.mem_of_getElem? (i := 236) rfl) rfl
theorem lk_X2_34 : Cond.methodLink RX2 34 yX2_ofPlace ∈ wsG := inT3 (List.mem_of_getElem? (i := 8) rfl) rfl
theorem lk_X2_38 : Cond.methodLink RX2 38 yX2_ofWrite ∈ wsG := inT3 (List.mem_of_getElem? (i := 11) rfl) rfl
theorem lk_X2_42 : Cond.methodLink RX2 42 yX9_isLink ∈ wsG := inT3 (List.mem_of_getElem? (i := 23) rfl) rfl
theorem lk_X2_45 : Cond.methodLink RX2 45 Lib.Math.min.name ∈ wsG := inT3 (List.mem_of_getElem? (i := 26) rfl) rfl
theorem mm_1 : Cond.static Lib.Math.min.name ∈ wsG := inT3 (List.mem_of_getElem? (i := 27) rfl) rfl
theorem mm_2 : Cond.initialized "java/lang/Math" ∈ wsG := inT1 (List.mem_of_getElem? (i := 12) rfl) rfl
theorem mm_3 : Cond.code Lib.Math.min.name Lib.Math.min.code 2 (some .int) ∈ wsG := inT3 (List.mem_of_getElem? (i := 28) rfl) rfl
theorem lk_X2_50 : Cond.methodLink RX2 50 yX2_ofCopy ∈ wsG := inT3 (List.mem_of_getElem? (i := 29) rfl) rfl
theorem lk_X2_53 : Cond.methodLink RX2 53 yX9_sort ∈ wsG := inT2 (List.mem_of_getElem? (i := 235) rfl) rfl
theorem lk_X2_60 : Cond.methodLink RX2 60 yX9_isRowForLinks ∈ wsG := inT3 (List.mem_of_getElem? (i := 14) rfl) rfl
theorem lk_X2_63 : Cond.methodLink RX2 63 yX9_isLinkOrNothing ∈ wsG := inT3 (List.mem_of_getElem? (i := 17) rfl) rfl
theorem lk_X2_66 : Cond.methodLink RX2 66 yX9_isStrange ∈ wsG := inT3 (List.mem_of_getElem? (i := 20) rfl) rfl
theorem lk_X3_23 : Cond.methodLink RX3 23 yX3_has ∈ wsG := inT2 (List.mem_of_getElem? (i := 145) rfl) rfl
theorem lk_X5_39 : Cond.methodLink RX5 39 yX9_of ∈ wsG := inT3 (List.mem_of_getElem? (i := 108) rfl) rfl
theorem lk_X5_43 : Cond.methodLink RX5 43 yX5_has ∈ wsG := inT2 (List.mem_of_getElem? (i := 182) rfl) rfl
theorem lk_X6_15 : Cond.methodLink RX6 15 yX7_init ∈ wsG := inT1 (List.mem_of_getElem? (i := 56) rfl) rfl
theorem lk_X6_22 : Cond.methodLink RX6 22 yX1_init ∈ wsG := inT1 (List.mem_of_getElem? (i := 84) rfl) rfl
theorem lk_X6_37 : Cond.methodLink RX6 37 yX3_init ∈ wsG := inT1 (List.mem_of_getElem? (i := 137) rfl) rfl
theorem lk_X6_44 : Cond.methodLink RX6 44 yX5_init ∈ wsG := inT1 (List.mem_of_getElem? (i := 150) rfl) rfl
theorem lk_X6_51 : Cond.methodLink RX6 51 yX8_init ∈ wsG := inT1 (List.mem_of_getElem? (i := 178) rfl) rfl
theorem lk_X6_59 : Cond.methodLink RX6 59 yX7_restart ∈ wsG := inT2 (List.mem_of_getElem? (i := 68) rfl) rfl
theorem lk_X6_62 : Cond.methodLink RX6 62 yX1_restart ∈ wsG := inT2 (List.mem_of_getElem? (i := 69) rfl) rfl
theorem lk_X6_65 : Cond.methodLink RX6 65 yX3_restart ∈ wsG := inT2 (List.mem_of_getElem? (i := 70) rfl) rfl
theorem lk_X6_66 : Cond.methodLink RX6 66 yX5_restart ∈ wsG := inT2 (List.mem_of_getElem? (i := 74) rfl) rfl
theorem lk_X6_67 : Cond.methodLink RX6 67 yX8_restart ∈ wsG := inT2 (List.mem_of_getElem? (i := 78) rfl) rfl
theorem lk_X6_68 : Cond.methodLink RX6 68 yX6_restart ∈ wsG := inT2 (List.mem_of_getElem? (i := 64) rfl) rfl
theorem lk_X6_69 : Cond.methodLink RX6 69 yX3_open ∈ wsG := inT2 (List.mem_of_getElem? (i := 82) rfl) rfl
theorem lk_X6_73 : Cond.methodLink RX6 73 yX6_begin ∈ wsG := inT2 (List.mem_of_getElem? (i := 87) rfl) rfl
theorem lk_X6_78 : Cond.methodLink RX6 78 yX8_isEmpty ∈ wsG := inT2 (List.mem_of_getElem? (i := 104) rfl) rfl
theorem lk_X6_85 : Cond.methodLink RX6 85 yX6_leave ∈ wsG := inT2 (List.mem_of_getElem? (i := 108) rfl) rfl
theorem lk_X6_88 : Cond.methodLink RX6 88 yX6_comesToWork ∈ wsG := inT2 (List.mem_of_getElem? (i := 202) rfl) rfl
theorem lk_X6_91 : Cond.methodLink RX6 91 yX6_work ∈ wsG := inT3 (List.mem_of_getElem? (i := 48) rfl) rfl
theorem lk_X6_94 : Cond.methodLink RX6 94 yX1_takesStep ∈ wsG := inT2 (List.mem_of_getElem? (i := 91) rfl) rfl
theorem lk_X6_98 : Cond.methodLink RX6 98 yX7_changesSoFar ∈ wsG := inT2 (List.mem_of_getElem? (i := 95) rfl) rfl
theorem lk_X6_101 : Cond.methodLink RX6 101 yX8_push ∈ wsG := inT2 (List.mem_of_getElem? (i := 99) rfl) rfl
theorem lk_X6_105 : Cond.methodLink RX6 105 yX8_actOnTop ∈ wsG := inT2 (List.mem_of_getElem? (i := 112) rfl) rfl
theorem lk_X6_108 : Cond.methodLink RX6 108 yX0_part ∈ wsG := inT2 (List.mem_of_getElem? (i := 158) rfl) rfl
theorem lk_X6_114 : Cond.methodLink RX6 114 yX8_frame ∈ wsG := inT2 (List.mem_of_getElem? (i := 133) rfl) rfl
theorem lk_X6_117 : Cond.methodLink RX6 117 yX8_pop ∈ wsG := inT2 (List.mem_of_getElem? (i := 198) rfl) rfl
theorem lk_X6_124 : Cond.methodLink RX6 124 yX8_take ∈ wsG := inT3 (List.mem_of_getElem? (i := 60) rfl) rfl
theorem lk_X6_128 : Cond.methodLink RX6 128 yX1_arise ∈ wsG := inT3 (List.mem_of_getElem? (i := 44) rfl) rfl
theorem lk_X6_131 : Cond.methodLink RX6 131 yX1_end ∈ wsG := inT3 (List.mem_of_getElem? (i := 36) rfl) rfl
theorem lk_X6_134 : Cond.methodLink RX6 134 yX0_partsAhead ∈ wsG := inT2 (List.mem_of_getElem? (i := 206) rfl) rfl
theorem lk_X6_138 : Cond.methodLink RX6 138 yX8_stage ∈ wsG := inT2 (List.mem_of_getElem? (i := 117) rfl) rfl
theorem lk_X6_141 : Cond.methodLink RX6 141 yX6_beginPart ∈ wsG := inT2 (List.mem_of_getElem? (i := 154) rfl) rfl
theorem lk_X6_144 : Cond.methodLink RX6 144 yX0_given ∈ wsG := inT2 (List.mem_of_getElem? (i := 116) rfl) rfl
theorem lk_X6_147 : Cond.methodLink RX6 147 yX6_isStopped ∈ wsG := inT2 (List.mem_of_getElem? (i := 210) rfl) rfl
theorem lk_X6_150 : Cond.methodLink RX6 150 yX8_value ∈ wsG := inT2 (List.mem_of_getElem? (i := 166) rfl) rfl
theorem lk_X6_153 : Cond.methodLink RX6 153 yX7_lengthOf ∈ wsG := inT2 (List.mem_of_getElem? (i := 214) rfl) rfl
theorem lk_X6_157 : Cond.methodLink RX6 157 yX2_of ∈ wsG := inT2 (List.mem_of_getElem? (i := 229) rfl) rfl
theorem lk_X6_163 : Cond.methodLink RX6 163 yX6_endRun ∈ wsG := inT3 (List.mem_of_getElem? (i := 32) rfl) rfl
theorem lk_X6_166 : Cond.methodLink RX6 166 yX9_number ∈ wsG := inT2 (List.mem_of_getElem? (i := 171) rfl) rfl
theorem lk_X6_171 : Cond.methodLink RX6 171 yX6_fail ∈ wsG := inT3 (List.mem_of_getElem? (i := 40) rfl) rfl
theorem lk_X6_174 : Cond.methodLink RX6 174 yX6_keep ∈ wsG := inT3 (List.mem_of_getElem? (i := 52) rfl) rfl
theorem lk_X6_177 : Cond.methodLink RX6 177 yX6_give ∈ wsG := inT3 (List.mem_of_getElem? (i := 56) rfl) rfl
theorem lk_X6_180 : Cond.methodLink RX6 180 yX6_doAlways ∈ wsG := inT3 (List.mem_of_getElem? (i := 64) rfl) rfl
theorem lk_X6_183 : Cond.methodLink RX6 183 yX6_choose ∈ wsG := inT3 (List.mem_of_getElem? (i := 77) rfl) rfl
theorem lk_X6_186 : Cond.methodLink RX6 186 yX6_loop ∈ wsG := inT3 (List.mem_of_getElem? (i := 81) rfl) rfl
theorem lk_X6_189 : Cond.methodLink RX6 189 yX6_call ∈ wsG := inT3 (List.mem_of_getElem? (i := 90) rfl) rfl
theorem lk_X6_192 : Cond.methodLink RX6 192 yX6_delay ∈ wsG := inT3 (List.mem_of_getElem? (i := 99) rfl) rfl
theorem lk_X6_195 : Cond.methodLink RX6 195 yX6_force ∈ wsG := inT3 (List.mem_of_getElem? (i := 111) rfl) rfl
theorem lk_X6_198 : Cond.methodLink RX6 198 yX6_copy ∈ wsG := inT3 (List.mem_of_getElem? (i := 147) rfl) rfl
theorem lk_X6_201 : Cond.methodLink RX6 201 yX6_workPlainly ∈ wsG := inT3 (List.mem_of_getElem? (i := 163) rfl) rfl
theorem lk_X6_204 : Cond.methodLink RX6 204 yX3_write ∈ wsG := inT2 (List.mem_of_getElem? (i := 141) rfl) rfl
theorem lk_X6_208 : Cond.methodLink RX6 208 yX8_holdsFailure ∈ wsG := inT3 (List.mem_of_getElem? (i := 68) rfl) rfl
theorem lk_X6_211 : Cond.methodLink RX6 211 yX8_letGo ∈ wsG := inT3 (List.mem_of_getElem? (i := 72) rfl) rfl
theorem lk_X6_215 : Cond.methodLink RX6 215 yX6_askAgain ∈ wsG := inT3 (List.mem_of_getElem? (i := 85) rfl) rfl
theorem lk_X6_220 : Cond.methodLink RX6 220 yX8_setStage ∈ wsG := inT2 (List.mem_of_getElem? (i := 150) rfl) rfl
theorem lk_X6_223 : Cond.methodLink RX6 223 yX6_enter ∈ wsG := inT3 (List.mem_of_getElem? (i := 94) rfl) rfl
theorem lk_X6_226 : Cond.methodLink RX6 226 yX0_has ∈ wsG := inT3 (List.mem_of_getElem? (i := 98) rfl) rfl
theorem lk_X6_229 : Cond.methodLink RX6 229 yX5_add ∈ wsG := inT3 (List.mem_of_getElem? (i := 103) rfl) rfl
theorem lk_X6_233 : Cond.methodLink RX6 233 yX6_workLater ∈ wsG := inT3 (List.mem_of_getElem? (i := 115) rfl) rfl
theorem lk_X6_236 : Cond.methodLink RX6 236 yX5_finish ∈ wsG := inT3 (List.mem_of_getElem? (i := 143) rfl) rfl
theorem lk_X6_240 : Cond.methodLink RX6 240 yX5_stateOf ∈ wsG := inT3 (List.mem_of_getElem? (i := 119) rfl) rfl
theorem lk_X6_243 : Cond.methodLink RX6 243 yX5_valueOf ∈ wsG := inT3 (List.mem_of_getElem? (i := 123) rfl) rfl
theorem lk_X6_246 : Cond.methodLink RX6 246 yX5_failureOf ∈ wsG := inT3 (List.mem_of_getElem? (i := 127) rfl) rfl
theorem lk_X6_249 : Cond.methodLink RX6 249 yX5_codeOf ∈ wsG := inT3 (List.mem_of_getElem? (i := 131) rfl) rfl
theorem lk_X6_252 : Cond.methodLink RX6 252 yX5_setState ∈ wsG := inT2 (List.mem_of_getElem? (i := 186) rfl) rfl
theorem lk_X6_255 : Cond.methodLink RX6 255 yX5_actOf ∈ wsG := inT3 (List.mem_of_getElem? (i := 135) rfl) rfl
theorem lk_X6_258 : Cond.methodLink RX6 258 yX5_frameOf ∈ wsG := inT3 (List.mem_of_getElem? (i := 139) rfl) rfl
theorem lk_X6_261 : Cond.methodLink RX6 261 yX7_copied ∈ wsG := inT3 (List.mem_of_getElem? (i := 151) rfl) rfl
theorem lk_X6_267 : Cond.methodLink RX6 267 yX6_reckon ∈ wsG := inT3 (List.mem_of_getElem? (i := 167) rfl) rfl
theorem lk_X6_271 : Cond.methodLink RX6 271 yX6_change ∈ wsG := inT3 (List.mem_of_getElem? (i := 178) rfl) rfl
theorem lk_X6_275 : Cond.methodLink RX6 275 yX9_whole ∈ wsG := inT2 (List.mem_of_getElem? (i := 137) rfl) rfl
theorem lk_X6_278 : Cond.methodLink RX6 278 yX3_read ∈ wsG := inT3 (List.mem_of_getElem? (i := 171) rfl) rfl
theorem lk_X6_281 : Cond.methodLink RX6 281 yX9_truth ∈ wsG := inT3 (List.mem_of_getElem? (i := 175) rfl) rfl
theorem lk_X6_285 : Cond.methodLink RX6 285 yX7_newRow ∈ wsG := inT3 (List.mem_of_getElem? (i := 182) rfl) rfl
theorem lk_X6_288 : Cond.methodLink RX6 288 yX7_newLink ∈ wsG := inT3 (List.mem_of_getElem? (i := 188) rfl) rfl
theorem lk_X6_292 : Cond.methodLink RX6 292 yX7_cellOf ∈ wsG := inT3 (List.mem_of_getElem? (i := 192) rfl) rfl
theorem lk_X6_296 : Cond.methodLink RX6 296 yX7_read ∈ wsG := inT3 (List.mem_of_getElem? (i := 193) rfl) rfl
theorem lk_X6_298 : Cond.methodLink RX6 298 yX6_put ∈ wsG := inT3 (List.mem_of_getElem? (i := 194) rfl) rfl
theorem lk_X6_301 : Cond.methodLink RX6 301 yX6_tell ∈ wsG := inT3 (List.mem_of_getElem? (i := 199) rfl) rfl
theorem lk_X6_305 : Cond.methodLink RX6 305 yX7_write ∈ wsG := inT3 (List.mem_of_getElem? (i := 198) rfl) rfl
theorem lk_X6_307 : Cond.methodLink RX6 307 yX1_isFailing ∈ wsG := inT2 (List.mem_of_getElem? (i := 121) rfl) rfl
theorem lk_X6_310 : Cond.methodLink RX6 310 yX6_isCaught ∈ wsG := inT2 (List.mem_of_getElem? (i := 125) rfl) rfl
theorem lk_X6_313 : Cond.methodLink RX6 313 yX6_takeUp ∈ wsG := inT2 (List.mem_of_getElem? (i := 129) rfl) rfl
theorem lk_X6_316 : Cond.methodLink RX6 316 yX8_hold ∈ wsG := inT2 (List.mem_of_getElem? (i := 162) rfl) rfl
theorem lk_X6_319 : Cond.methodLink RX6 319 yX1_settle ∈ wsG := inT2 (List.mem_of_getElem? (i := 149) rfl) rfl
theorem lk_X6_322 : Cond.methodLink RX6 322 yX6_leaveLater ∈ wsG := inT2 (List.mem_of_getElem? (i := 174) rfl) rfl
theorem lk_X6_325 : Cond.methodLink RX6 325 yX8_mark ∈ wsG := inT2 (List.mem_of_getElem? (i := 190) rfl) rfl
theorem lk_X6_328 : Cond.methodLink RX6 328 yX7_undoBackTo ∈ wsG := inT2 (List.mem_of_getElem? (i := 194) rfl) rfl
theorem lk_X6_334 : Cond.methodLink RX6 334 yX5_giveUp ∈ wsG := inT2 (List.mem_of_getElem? (i := 178) rfl) rfl
theorem lk_X7_22 : Cond.methodLink RX7 22 yX7_restart ∈ wsG := inT1 (List.mem_of_getElem? (i := 60) rfl) rfl
theorem lk_X7_25 : Cond.methodLink RX7 25 yX9_number ∈ wsG := inT2 (List.mem_of_getElem? (i := 224) rfl) rfl
theorem lk_X7_40 : Cond.methodLink RX7 40 yX9_whole ∈ wsG := inT3 (List.mem_of_getElem? (i := 186) rfl) rfl
theorem lk_X7_44 : Cond.methodLink RX7 44 yX9_of ∈ wsG := inT3 (List.mem_of_getElem? (i := 187) rfl) rfl
theorem lk_X7_48 : Cond.methodLink RX7 48 yX7_cellOf ∈ wsG := inT3 (List.mem_of_getElem? (i := 155) rfl) rfl
theorem lk_X7_52 : Cond.methodLink RX7 52 yX7_read ∈ wsG := inT2 (List.mem_of_getElem? (i := 225) rfl) rfl
theorem lk_X7_55 : Cond.methodLink RX7 55 yX9_isStrange ∈ wsG := inT3 (List.mem_of_getElem? (i := 158) rfl) rfl
theorem lk_X7_59 : Cond.methodLink RX7 59 yX7_write ∈ wsG := inT3 (List.mem_of_getElem? (i := 159) rfl) rfl
theorem lk_X7_63 : Cond.methodLink RX7 63 yX9_isRow ∈ wsG := inT2 (List.mem_of_getElem? (i := 218) rfl) rfl
theorem lk_X7_67 : Cond.methodLink RX7 67 yX9_sort ∈ wsG := inT3 (List.mem_of_getElem? (i := 216) rfl) rfl
theorem lk_X7_70 : Cond.methodLink RX7 70 yX7_lengthOf ∈ wsG := inT3 (List.mem_of_getElem? (i := 217) rfl) rfl
theorem lk_X8_59 : Cond.methodLink RX8 59 yX1_goOn ∈ wsG := inT3 (List.mem_of_getElem? (i := 76) rfl) rfl
theorem lk_X9_9 : Cond.methodLink RX9 9 yX9_sort ∈ wsG := inT2 (List.mem_of_getElem? (i := 221) rfl) rfl
theorem lk_L_7 : Cond.methodLink RL 7 yX10_place ∈ wsG := inT4 (List.mem_of_getElem? (i := 84) rfl) rfl
theorem lk_L_15 : Cond.methodLink RL 15 yX10_init ∈ wsG := inT1 (List.mem_of_getElem? (i := 21) rfl) rfl
theorem lk_L_18 : Cond.methodLink RL 18 yX11_init ∈ wsG := inT4 (List.mem_of_getElem? (i := 97) rfl) rfl
theorem lk_L_19 : Cond.methodLink RL 19 yX10_act ∈ wsG := inT2 (List.mem_of_getElem? (i := 15) rfl) rfl
theorem lk_L_23 : Cond.methodLink RL 23 yX11_act ∈ wsG := inT5 (List.mem_of_getElem? (i := 30) rfl) rfl
theorem lk_L_24 : Cond.methodLink RL 24 yX10_told ∈ wsG := inT2 (List.mem_of_getElem? (i := 47) rfl) rfl
theorem lk_L_28 : Cond.methodLink RL 28 yX11_told ∈ wsG := inT5 (List.mem_of_getElem? (i := 44) rfl) rfl
theorem lk_L_29 : Cond.methodLink RL 29 yX10_run ∈ wsG := inT2 (List.mem_of_getElem? (i := 56) rfl) rfl
theorem lk_L_32 : Cond.methodLink RL 32 yX11_run ∈ wsG := inT5 (List.mem_of_getElem? (i := 48) rfl) rfl
theorem lk_L_33 : Cond.methodLink RL 33 yX10_ended ∈ wsG := inT3 (List.mem_of_getElem? (i := 204) rfl) rfl
theorem lk_L_36 : Cond.methodLink RL 36 yX11_ended ∈ wsG := inT5 (List.mem_of_getElem? (i := 167) rfl) rfl
theorem lk_L_37 : Cond.methodLink RL 37 yX10_gave ∈ wsG := inT3 (List.mem_of_getElem? (i := 208) rfl) rfl
theorem lk_L_41 : Cond.methodLink RL 41 yX11_gave ∈ wsG := inT5 (List.mem_of_getElem? (i := 171) rfl) rfl
theorem lk_L_42 : Cond.methodLink RL 42 yL_place ∈ wsG := inT4 (List.mem_of_getElem? (i := 7) rfl) rfl
theorem lk_L_47 : Cond.methodLink RL 47 yX11_place ∈ wsG := inT5 (List.mem_of_getElem? (i := 183) rfl) rfl
theorem lk_L_48 : Cond.methodLink RL 48 yX11_thrown ∈ wsG := inT5 (List.mem_of_getElem? (i := 179) rfl) rfl
theorem lk_L_51 : Cond.methodLink RL 51 yX10_box ∈ wsG := inT3 (List.mem_of_getElem? (i := 218) rfl) rfl
theorem lk_L_54 : Cond.methodLink RL 54 yX11_box ∈ wsG := inT5 (List.mem_of_getElem? (i := 187) rfl) rfl
theorem lk_L_55 : Cond.methodLink RL 55 yX10_boxed ∈ wsG := inT3 (List.mem_of_getElem? (i := 226) rfl) rfl
theorem lk_L_58 : Cond.methodLink RL 58 yX11_boxed ∈ wsG := inT5 (List.mem_of_getElem? (i := 191) rfl) rfl
theorem lk_L_59 : Cond.methodLink RL 59 yX10_same ∈ wsG := inT3 (List.mem_of_getElem? (i := 230) rfl) rfl
theorem lk_L_62 : Cond.methodLink RL 62 yX11_same ∈ wsG := inT5 (List.mem_of_getElem? (i := 195) rfl) rfl
theorem lk_L_63 : Cond.methodLink RL 63 yX10_out ∈ wsG := inT3 (List.mem_of_getElem? (i := 234) rfl) rfl
theorem lk_L_66 : Cond.methodLink RL 66 yX11_out ∈ wsG := inT5 (List.mem_of_getElem? (i := 199) rfl) rfl
theorem lk_L_67 : Cond.methodLink RL 67 yX10_count ∈ wsG := inT3 (List.mem_of_getElem? (i := 238) rfl) rfl
theorem lk_L_70 : Cond.methodLink RL 70 yX11_count ∈ wsG := inT5 (List.mem_of_getElem? (i := 203) rfl) rfl
theorem lk_L_71 : Cond.methodLink RL 71 yX10_clear ∈ wsG := inT4 (List.mem_of_getElem? (i := 2) rfl) rfl
theorem lk_L_74 : Cond.methodLink RL 74 yX11_clear ∈ wsG := inT5 (List.mem_of_getElem? (i := 207) rfl) rfl
end
