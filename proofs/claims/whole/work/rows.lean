section
-- ===== PART A: goes FIRST, ahead of the names: the tables' words, and 'selects' of the private methods out of them =====
/-- a private method of a class that the tables say can be made, by its rows of tables_1 -/
def lw_okq (q : MethodName × Nat) : Prop := (q.1.cls ≠ "java/lang/invoke/MethodHandle" ∧ q.1.cls ≠ "java/lang/invoke/VarHandle") ∧ Cond.instantiable q.1.cls q.2 ∈ tables_1 ∧ Cond.privateMethod q.1 ∈ tables_1 ∧ Cond.instanceMethod q.1 ∈ tables_1
theorem lw_p0 : lw_okq (⟨"SideWork$Acts", "isUnknown", "(II)Z"⟩, 4) := ⟨⟨by decide +kernel, by decide +kernel⟩, List.mem_of_getElem? (i := 28) (by decide +kernel), List.mem_of_getElem? (i := 266) (by decide +kernel), List.mem_of_getElem? (i := 267) (by decide +kernel)⟩
theorem lw_p1 : lw_okq (⟨"SideWork$Acts", "isOutside", "(II)Z"⟩, 4) := ⟨⟨by decide +kernel, by decide +kernel⟩, List.mem_of_getElem? (i := 28) (by decide +kernel), List.mem_of_getElem? (i := 274) (by decide +kernel), List.mem_of_getElem? (i := 275) (by decide +kernel)⟩
theorem lw_p2 : lw_okq (⟨"SideWork$Acts", "sortParts", "(II)V"⟩, 4) := ⟨⟨by decide +kernel, by decide +kernel⟩, List.mem_of_getElem? (i := 28) (by decide +kernel), List.mem_of_getElem? (i := 284) (by decide +kernel), List.mem_of_getElem? (i := 285) (by decide +kernel)⟩
theorem lw_p3 : lw_okq (⟨"SideWork$Machine", "begin", "(II)V"⟩, 9) := ⟨⟨by decide +kernel, by decide +kernel⟩, List.mem_of_getElem? (i := 49) (by decide +kernel), List.mem_of_getElem? (i := 328) (by decide +kernel), List.mem_of_getElem? (i := 329) (by decide +kernel)⟩
theorem lw_p4 : lw_okq (⟨"SideWork$Machine", "leave", "()V"⟩, 9) := ⟨⟨by decide +kernel, by decide +kernel⟩, List.mem_of_getElem? (i := 49) (by decide +kernel), List.mem_of_getElem? (i := 349) (by decide +kernel), List.mem_of_getElem? (i := 350) (by decide +kernel)⟩
theorem lw_p5 : lw_okq (⟨"SideWork$Machine", "isCaught", "()Z"⟩, 9) := ⟨⟨by decide +kernel, by decide +kernel⟩, List.mem_of_getElem? (i := 49) (by decide +kernel), List.mem_of_getElem? (i := 366) (by decide +kernel), List.mem_of_getElem? (i := 367) (by decide +kernel)⟩
theorem lw_p6 : lw_okq (⟨"SideWork$Machine", "takeUp", "()V"⟩, 9) := ⟨⟨by decide +kernel, by decide +kernel⟩, List.mem_of_getElem? (i := 49) (by decide +kernel), List.mem_of_getElem? (i := 370) (by decide +kernel), List.mem_of_getElem? (i := 371) (by decide +kernel)⟩
theorem lw_p7 : lw_okq (⟨"SideWork$Frames", "has", "(II)Z"⟩, 2) := ⟨⟨by decide +kernel, by decide +kernel⟩, List.mem_of_getElem? (i := 136) (by decide +kernel), List.mem_of_getElem? (i := 386) (by decide +kernel), List.mem_of_getElem? (i := 387) (by decide +kernel)⟩
theorem lw_p8 : lw_okq (⟨"SideWork$Machine", "beginPart", "(I)V"⟩, 9) := ⟨⟨by decide +kernel, by decide +kernel⟩, List.mem_of_getElem? (i := 49) (by decide +kernel), List.mem_of_getElem? (i := 395) (by decide +kernel), List.mem_of_getElem? (i := 396) (by decide +kernel)⟩
theorem lw_p9 : lw_okq (⟨"SideWork$Machine", "leaveLater", "(I)V"⟩, 9) := ⟨⟨by decide +kernel, by decide +kernel⟩, List.mem_of_getElem? (i := 49) (by decide +kernel), List.mem_of_getElem? (i := 415) (by decide +kernel), List.mem_of_getElem? (i := 416) (by decide +kernel)⟩
theorem lw_p10 : lw_okq (⟨"SideWork$Laters", "has", "(I)Z"⟩, 7) := ⟨⟨by decide +kernel, by decide +kernel⟩, List.mem_of_getElem? (i := 149) (by decide +kernel), List.mem_of_getElem? (i := 423) (by decide +kernel), List.mem_of_getElem? (i := 424) (by decide +kernel)⟩
theorem lw_p11 : lw_okq (⟨"SideWork$Machine", "comesToWork", "()Z"⟩, 9) := ⟨⟨by decide +kernel, by decide +kernel⟩, List.mem_of_getElem? (i := 49) (by decide +kernel), List.mem_of_getElem? (i := 443) (by decide +kernel), List.mem_of_getElem? (i := 444) (by decide +kernel)⟩
theorem lw_p12 : lw_okq (⟨"SideWork$Machine", "isStopped", "(I)Z"⟩, 9) := ⟨⟨by decide +kernel, by decide +kernel⟩, List.mem_of_getElem? (i := 49) (by decide +kernel), List.mem_of_getElem? (i := 451) (by decide +kernel), List.mem_of_getElem? (i := 452) (by decide +kernel)⟩
theorem lw_p13 : lw_okq (⟨"SideWork$Machine", "endRun", "(I)V"⟩, 9) := ⟨⟨by decide +kernel, by decide +kernel⟩, List.mem_of_getElem? (i := 49) (by decide +kernel), List.mem_of_getElem? (i := 513) (by decide +kernel), List.mem_of_getElem? (i := 514) (by decide +kernel)⟩
theorem lw_p14 : lw_okq (⟨"SideWork$Machine", "fail", "(II)V"⟩, 9) := ⟨⟨by decide +kernel, by decide +kernel⟩, List.mem_of_getElem? (i := 49) (by decide +kernel), List.mem_of_getElem? (i := 521) (by decide +kernel), List.mem_of_getElem? (i := 522) (by decide +kernel)⟩
theorem lw_p15 : lw_okq (⟨"SideWork$Machine", "work", "()V"⟩, 9) := ⟨⟨by decide +kernel, by decide +kernel⟩, List.mem_of_getElem? (i := 49) (by decide +kernel), List.mem_of_getElem? (i := 529) (by decide +kernel), List.mem_of_getElem? (i := 530) (by decide +kernel)⟩
def lw_privs_1 : List (MethodName × Nat) := [(⟨"SideWork$Acts", "isUnknown", "(II)Z"⟩, 4), (⟨"SideWork$Acts", "isOutside", "(II)Z"⟩, 4), (⟨"SideWork$Acts", "sortParts", "(II)V"⟩, 4), (⟨"SideWork$Machine", "begin", "(II)V"⟩, 9), (⟨"SideWork$Machine", "leave", "()V"⟩, 9), (⟨"SideWork$Machine", "isCaught", "()Z"⟩, 9), (⟨"SideWork$Machine", "takeUp", "()V"⟩, 9), (⟨"SideWork$Frames", "has", "(II)Z"⟩, 2), (⟨"SideWork$Machine", "beginPart", "(I)V"⟩, 9), (⟨"SideWork$Machine", "leaveLater", "(I)V"⟩, 9), (⟨"SideWork$Laters", "has", "(I)Z"⟩, 7), (⟨"SideWork$Machine", "comesToWork", "()Z"⟩, 9), (⟨"SideWork$Machine", "isStopped", "(I)Z"⟩, 9), (⟨"SideWork$Machine", "endRun", "(I)V"⟩, 9), (⟨"SideWork$Machine", "fail", "(II)V"⟩, 9), (⟨"SideWork$Machine", "work", "()V"⟩, 9)]
theorem lw_r1 : ∀ q ∈ lw_privs_1, lw_okq q := List.forall_mem_cons.mpr ⟨lw_p0, List.forall_mem_cons.mpr ⟨lw_p1, List.forall_mem_cons.mpr ⟨lw_p2, List.forall_mem_cons.mpr ⟨lw_p3, List.forall_mem_cons.mpr ⟨lw_p4, List.forall_mem_cons.mpr ⟨lw_p5, List.forall_mem_cons.mpr ⟨lw_p6, List.forall_mem_cons.mpr ⟨lw_p7, List.forall_mem_cons.mpr ⟨lw_p8, List.forall_mem_cons.mpr ⟨lw_p9, List.forall_mem_cons.mpr ⟨lw_p10, List.forall_mem_cons.mpr ⟨lw_p11, List.forall_mem_cons.mpr ⟨lw_p12, List.forall_mem_cons.mpr ⟨lw_p13, List.forall_mem_cons.mpr ⟨lw_p14, List.forall_mem_cons.mpr ⟨lw_p15, fun _ h => absurd h List.not_mem_nil⟩⟩⟩⟩⟩⟩⟩⟩⟩⟩⟩⟩⟩⟩⟩⟩
theorem lw_p16 : lw_okq (⟨"SideWork$Machine", "keep", "()V"⟩, 9) := ⟨⟨by decide +kernel, by decide +kernel⟩, List.mem_of_getElem? (i := 49) (by decide +kernel), List.mem_of_getElem? (i := 533) (by decide +kernel), List.mem_of_getElem? (i := 534) (by decide +kernel)⟩
theorem lw_p17 : lw_okq (⟨"SideWork$Machine", "give", "(J)V"⟩, 9) := ⟨⟨by decide +kernel, by decide +kernel⟩, List.mem_of_getElem? (i := 49) (by decide +kernel), List.mem_of_getElem? (i := 537) (by decide +kernel), List.mem_of_getElem? (i := 538) (by decide +kernel)⟩
theorem lw_p18 : lw_okq (⟨"SideWork$Machine", "doAlways", "()V"⟩, 9) := ⟨⟨by decide +kernel, by decide +kernel⟩, List.mem_of_getElem? (i := 49) (by decide +kernel), List.mem_of_getElem? (i := 545) (by decide +kernel), List.mem_of_getElem? (i := 546) (by decide +kernel)⟩
theorem lw_p19 : lw_okq (⟨"SideWork$Machine", "choose", "()V"⟩, 9) := ⟨⟨by decide +kernel, by decide +kernel⟩, List.mem_of_getElem? (i := 49) (by decide +kernel), List.mem_of_getElem? (i := 558) (by decide +kernel), List.mem_of_getElem? (i := 559) (by decide +kernel)⟩
theorem lw_p20 : lw_okq (⟨"SideWork$Machine", "loop", "()V"⟩, 9) := ⟨⟨by decide +kernel, by decide +kernel⟩, List.mem_of_getElem? (i := 49) (by decide +kernel), List.mem_of_getElem? (i := 562) (by decide +kernel), List.mem_of_getElem? (i := 563) (by decide +kernel)⟩
theorem lw_p21 : lw_okq (⟨"SideWork$Machine", "askAgain", "()V"⟩, 9) := ⟨⟨by decide +kernel, by decide +kernel⟩, List.mem_of_getElem? (i := 49) (by decide +kernel), List.mem_of_getElem? (i := 566) (by decide +kernel), List.mem_of_getElem? (i := 567) (by decide +kernel)⟩
theorem lw_p22 : lw_okq (⟨"SideWork$Machine", "call", "()V"⟩, 9) := ⟨⟨by decide +kernel, by decide +kernel⟩, List.mem_of_getElem? (i := 49) (by decide +kernel), List.mem_of_getElem? (i := 571) (by decide +kernel), List.mem_of_getElem? (i := 572) (by decide +kernel)⟩
theorem lw_p23 : lw_okq (⟨"SideWork$Machine", "enter", "(I)V"⟩, 9) := ⟨⟨by decide +kernel, by decide +kernel⟩, List.mem_of_getElem? (i := 49) (by decide +kernel), List.mem_of_getElem? (i := 575) (by decide +kernel), List.mem_of_getElem? (i := 576) (by decide +kernel)⟩
theorem lw_p24 : lw_okq (⟨"SideWork$Machine", "delay", "()V"⟩, 9) := ⟨⟨by decide +kernel, by decide +kernel⟩, List.mem_of_getElem? (i := 49) (by decide +kernel), List.mem_of_getElem? (i := 580) (by decide +kernel), List.mem_of_getElem? (i := 581) (by decide +kernel)⟩
theorem lw_p25 : lw_okq (⟨"SideWork$Machine", "force", "(I)V"⟩, 9) := ⟨⟨by decide +kernel, by decide +kernel⟩, List.mem_of_getElem? (i := 49) (by decide +kernel), List.mem_of_getElem? (i := 592) (by decide +kernel), List.mem_of_getElem? (i := 593) (by decide +kernel)⟩
theorem lw_p26 : lw_okq (⟨"SideWork$Machine", "workLater", "(I)V"⟩, 9) := ⟨⟨by decide +kernel, by decide +kernel⟩, List.mem_of_getElem? (i := 49) (by decide +kernel), List.mem_of_getElem? (i := 596) (by decide +kernel), List.mem_of_getElem? (i := 597) (by decide +kernel)⟩
theorem lw_p27 : lw_okq (⟨"SideWork$Machine", "copy", "()V"⟩, 9) := ⟨⟨by decide +kernel, by decide +kernel⟩, List.mem_of_getElem? (i := 49) (by decide +kernel), List.mem_of_getElem? (i := 628) (by decide +kernel), List.mem_of_getElem? (i := 629) (by decide +kernel)⟩
theorem lw_p28 : lw_okq (⟨"SideWork$Machine", "workPlainly", "(I)V"⟩, 9) := ⟨⟨by decide +kernel, by decide +kernel⟩, List.mem_of_getElem? (i := 49) (by decide +kernel), List.mem_of_getElem? (i := 644) (by decide +kernel), List.mem_of_getElem? (i := 645) (by decide +kernel)⟩
theorem lw_p29 : lw_okq (⟨"SideWork$Machine", "reckon", "(IIJJ)J"⟩, 9) := ⟨⟨by decide +kernel, by decide +kernel⟩, List.mem_of_getElem? (i := 49) (by decide +kernel), List.mem_of_getElem? (i := 648) (by decide +kernel), List.mem_of_getElem? (i := 649) (by decide +kernel)⟩
theorem lw_p30 : lw_okq (⟨"SideWork$Machine", "change", "(IIJJJ)J"⟩, 9) := ⟨⟨by decide +kernel, by decide +kernel⟩, List.mem_of_getElem? (i := 49) (by decide +kernel), List.mem_of_getElem? (i := 659) (by decide +kernel), List.mem_of_getElem? (i := 660) (by decide +kernel)⟩
theorem lw_p31 : lw_okq (⟨"SideWork$Machine", "put", "(IJ)J"⟩, 9) := ⟨⟨by decide +kernel, by decide +kernel⟩, List.mem_of_getElem? (i := 49) (by decide +kernel), List.mem_of_getElem? (i := 675) (by decide +kernel), List.mem_of_getElem? (i := 676) (by decide +kernel)⟩
def lw_privs_2 : List (MethodName × Nat) := [(⟨"SideWork$Machine", "keep", "()V"⟩, 9), (⟨"SideWork$Machine", "give", "(J)V"⟩, 9), (⟨"SideWork$Machine", "doAlways", "()V"⟩, 9), (⟨"SideWork$Machine", "choose", "()V"⟩, 9), (⟨"SideWork$Machine", "loop", "()V"⟩, 9), (⟨"SideWork$Machine", "askAgain", "()V"⟩, 9), (⟨"SideWork$Machine", "call", "()V"⟩, 9), (⟨"SideWork$Machine", "enter", "(I)V"⟩, 9), (⟨"SideWork$Machine", "delay", "()V"⟩, 9), (⟨"SideWork$Machine", "force", "(I)V"⟩, 9), (⟨"SideWork$Machine", "workLater", "(I)V"⟩, 9), (⟨"SideWork$Machine", "copy", "()V"⟩, 9), (⟨"SideWork$Machine", "workPlainly", "(I)V"⟩, 9), (⟨"SideWork$Machine", "reckon", "(IIJJ)J"⟩, 9), (⟨"SideWork$Machine", "change", "(IIJJJ)J"⟩, 9), (⟨"SideWork$Machine", "put", "(IJ)J"⟩, 9)]
theorem lw_r2 : ∀ q ∈ lw_privs_2, lw_okq q := List.forall_mem_cons.mpr ⟨lw_p16, List.forall_mem_cons.mpr ⟨lw_p17, List.forall_mem_cons.mpr ⟨lw_p18, List.forall_mem_cons.mpr ⟨lw_p19, List.forall_mem_cons.mpr ⟨lw_p20, List.forall_mem_cons.mpr ⟨lw_p21, List.forall_mem_cons.mpr ⟨lw_p22, List.forall_mem_cons.mpr ⟨lw_p23, List.forall_mem_cons.mpr ⟨lw_p24, List.forall_mem_cons.mpr ⟨lw_p25, List.forall_mem_cons.mpr ⟨lw_p26, List.forall_mem_cons.mpr ⟨lw_p27, List.forall_mem_cons.mpr ⟨lw_p28, List.forall_mem_cons.mpr ⟨lw_p29, List.forall_mem_cons.mpr ⟨lw_p30, List.forall_mem_cons.mpr ⟨lw_p31, fun _ h => absurd h List.not_mem_nil⟩⟩⟩⟩⟩⟩⟩⟩⟩⟩⟩⟩⟩⟩⟩⟩
theorem lw_p32 : lw_okq (⟨"SideWork$Machine", "tell", "(J)J"⟩, 9) := ⟨⟨by decide +kernel, by decide +kernel⟩, List.mem_of_getElem? (i := 49) (by decide +kernel), List.mem_of_getElem? (i := 680) (by decide +kernel), List.mem_of_getElem? (i := 681) (by decide +kernel)⟩
theorem lw_p33 : lw_okq (⟨"java/lang/Throwable", "fillInStackTrace", "(I)Ljava/lang/Throwable;"⟩, 6) := ⟨⟨by decide +kernel, by decide +kernel⟩, List.mem_of_getElem? (i := 759) (by decide +kernel), List.mem_of_getElem? (i := 757) (by decide +kernel), List.mem_of_getElem? (i := 758) (by decide +kernel)⟩
theorem lw_p34 : lw_okq (⟨"SideWorkModel", "noAct", "(I)Z"⟩, 56) := ⟨⟨by decide +kernel, by decide +kernel⟩, List.mem_of_getElem? (i := 816) (by decide +kernel), List.mem_of_getElem? (i := 1001) (by decide +kernel), List.mem_of_getElem? (i := 1002) (by decide +kernel)⟩
theorem lw_p35 : lw_okq (⟨"SideWorkModel", "newFrame", "()I"⟩, 56) := ⟨⟨by decide +kernel, by decide +kernel⟩, List.mem_of_getElem? (i := 816) (by decide +kernel), List.mem_of_getElem? (i := 1013) (by decide +kernel), List.mem_of_getElem? (i := 1014) (by decide +kernel)⟩
theorem lw_p36 : lw_okq (⟨"SideWorkModel", "start", "(II)V"⟩, 56) := ⟨⟨by decide +kernel, by decide +kernel⟩, List.mem_of_getElem? (i := 816) (by decide +kernel), List.mem_of_getElem? (i := 1017) (by decide +kernel), List.mem_of_getElem? (i := 1018) (by decide +kernel)⟩
theorem lw_p37 : lw_okq (⟨"SideWorkModel", "begin", "()V"⟩, 56) := ⟨⟨by decide +kernel, by decide +kernel⟩, List.mem_of_getElem? (i := 816) (by decide +kernel), List.mem_of_getElem? (i := 1021) (by decide +kernel), List.mem_of_getElem? (i := 1022) (by decide +kernel)⟩
theorem lw_p38 : lw_okq (⟨"SideWorkModel", "finish", "(II)V"⟩, 56) := ⟨⟨by decide +kernel, by decide +kernel⟩, List.mem_of_getElem? (i := 816) (by decide +kernel), List.mem_of_getElem? (i := 1025) (by decide +kernel), List.mem_of_getElem? (i := 1026) (by decide +kernel)⟩
theorem lw_p39 : lw_okq (⟨"SideWorkModel", "value", "(II)V"⟩, 56) := ⟨⟨by decide +kernel, by decide +kernel⟩, List.mem_of_getElem? (i := 816) (by decide +kernel), List.mem_of_getElem? (i := 1029) (by decide +kernel), List.mem_of_getElem? (i := 1030) (by decide +kernel)⟩
theorem lw_p40 : lw_okq (⟨"SideWorkModel", "newThing", "(I)I"⟩, 56) := ⟨⟨by decide +kernel, by decide +kernel⟩, List.mem_of_getElem? (i := 816) (by decide +kernel), List.mem_of_getElem? (i := 1033) (by decide +kernel), List.mem_of_getElem? (i := 1034) (by decide +kernel)⟩
theorem lw_p41 : lw_okq (⟨"SideWorkModel", "up", "()V"⟩, 56) := ⟨⟨by decide +kernel, by decide +kernel⟩, List.mem_of_getElem? (i := 816) (by decide +kernel), List.mem_of_getElem? (i := 1037) (by decide +kernel), List.mem_of_getElem? (i := 1038) (by decide +kernel)⟩
theorem lw_p42 : lw_okq (⟨"SideWorkModel", "keepX", "(I)V"⟩, 56) := ⟨⟨by decide +kernel, by decide +kernel⟩, List.mem_of_getElem? (i := 816) (by decide +kernel), List.mem_of_getElem? (i := 1041) (by decide +kernel), List.mem_of_getElem? (i := 1042) (by decide +kernel)⟩
theorem lw_p43 : lw_okq (⟨"SideWorkModel", "keepY", "(I)V"⟩, 56) := ⟨⟨by decide +kernel, by decide +kernel⟩, List.mem_of_getElem? (i := 816) (by decide +kernel), List.mem_of_getElem? (i := 1045) (by decide +kernel), List.mem_of_getElem? (i := 1046) (by decide +kernel)⟩
theorem lw_p44 : lw_okq (⟨"SideWorkModel", "upOf", "(IIIII)V"⟩, 56) := ⟨⟨by decide +kernel, by decide +kernel⟩, List.mem_of_getElem? (i := 816) (by decide +kernel), List.mem_of_getElem? (i := 1049) (by decide +kernel), List.mem_of_getElem? (i := 1050) (by decide +kernel)⟩
theorem lw_p45 : lw_okq (⟨"SideWorkModel", "reckon", "(IIII)V"⟩, 56) := ⟨⟨by decide +kernel, by decide +kernel⟩, List.mem_of_getElem? (i := 816) (by decide +kernel), List.mem_of_getElem? (i := 1053) (by decide +kernel), List.mem_of_getElem? (i := 1054) (by decide +kernel)⟩
theorem lw_p46 : lw_okq (⟨"SideWorkModel", "isWhole", "(II)Z"⟩, 56) := ⟨⟨by decide +kernel, by decide +kernel⟩, List.mem_of_getElem? (i := 816) (by decide +kernel), List.mem_of_getElem? (i := 1057) (by decide +kernel), List.mem_of_getElem? (i := 1058) (by decide +kernel)⟩
theorem lw_p47 : lw_okq (⟨"SideWorkModel", "fail", "(III)V"⟩, 56) := ⟨⟨by decide +kernel, by decide +kernel⟩, List.mem_of_getElem? (i := 816) (by decide +kernel), List.mem_of_getElem? (i := 1061) (by decide +kernel), List.mem_of_getElem? (i := 1062) (by decide +kernel)⟩
def lw_privs_3 : List (MethodName × Nat) := [(⟨"SideWork$Machine", "tell", "(J)J"⟩, 9), (⟨"java/lang/Throwable", "fillInStackTrace", "(I)Ljava/lang/Throwable;"⟩, 6), (⟨"SideWorkModel", "noAct", "(I)Z"⟩, 56), (⟨"SideWorkModel", "newFrame", "()I"⟩, 56), (⟨"SideWorkModel", "start", "(II)V"⟩, 56), (⟨"SideWorkModel", "begin", "()V"⟩, 56), (⟨"SideWorkModel", "finish", "(II)V"⟩, 56), (⟨"SideWorkModel", "value", "(II)V"⟩, 56), (⟨"SideWorkModel", "newThing", "(I)I"⟩, 56), (⟨"SideWorkModel", "up", "()V"⟩, 56), (⟨"SideWorkModel", "keepX", "(I)V"⟩, 56), (⟨"SideWorkModel", "keepY", "(I)V"⟩, 56), (⟨"SideWorkModel", "upOf", "(IIIII)V"⟩, 56), (⟨"SideWorkModel", "reckon", "(IIII)V"⟩, 56), (⟨"SideWorkModel", "isWhole", "(II)Z"⟩, 56), (⟨"SideWorkModel", "fail", "(III)V"⟩, 56)]
theorem lw_r3 : ∀ q ∈ lw_privs_3, lw_okq q := List.forall_mem_cons.mpr ⟨lw_p32, List.forall_mem_cons.mpr ⟨lw_p33, List.forall_mem_cons.mpr ⟨lw_p34, List.forall_mem_cons.mpr ⟨lw_p35, List.forall_mem_cons.mpr ⟨lw_p36, List.forall_mem_cons.mpr ⟨lw_p37, List.forall_mem_cons.mpr ⟨lw_p38, List.forall_mem_cons.mpr ⟨lw_p39, List.forall_mem_cons.mpr ⟨lw_p40, List.forall_mem_cons.mpr ⟨lw_p41, List.forall_mem_cons.mpr ⟨lw_p42, List.forall_mem_cons.mpr ⟨lw_p43, List.forall_mem_cons.mpr ⟨lw_p44, List.forall_mem_cons.mpr ⟨lw_p45, List.forall_mem_cons.mpr ⟨lw_p46, List.forall_mem_cons.mpr ⟨lw_p47, fun _ h => absurd h List.not_mem_nil⟩⟩⟩⟩⟩⟩⟩⟩⟩⟩⟩⟩⟩⟩⟩⟩
theorem lw_p48 : lw_okq (⟨"SideWorkModel", "failBy", "(II)V"⟩, 56) := ⟨⟨by decide +kernel, by decide +kernel⟩, List.mem_of_getElem? (i := 816) (by decide +kernel), List.mem_of_getElem? (i := 1065) (by decide +kernel), List.mem_of_getElem? (i := 1066) (by decide +kernel)⟩
theorem lw_p49 : lw_okq (⟨"SideWorkModel", "makeRow", "(II)V"⟩, 56) := ⟨⟨by decide +kernel, by decide +kernel⟩, List.mem_of_getElem? (i := 816) (by decide +kernel), List.mem_of_getElem? (i := 1069) (by decide +kernel), List.mem_of_getElem? (i := 1070) (by decide +kernel)⟩
theorem lw_p50 : lw_okq (⟨"SideWorkModel", "readPlace", "(III)V"⟩, 56) := ⟨⟨by decide +kernel, by decide +kernel⟩, List.mem_of_getElem? (i := 816) (by decide +kernel), List.mem_of_getElem? (i := 1073) (by decide +kernel), List.mem_of_getElem? (i := 1074) (by decide +kernel)⟩
theorem lw_p51 : lw_okq (⟨"SideWorkModel", "isRowHere", "(II)Z"⟩, 56) := ⟨⟨by decide +kernel, by decide +kernel⟩, List.mem_of_getElem? (i := 816) (by decide +kernel), List.mem_of_getElem? (i := 1077) (by decide +kernel), List.mem_of_getElem? (i := 1078) (by decide +kernel)⟩
theorem lw_p52 : lw_okq (⟨"SideWorkModel", "writePlace", "(II)V"⟩, 56) := ⟨⟨by decide +kernel, by decide +kernel⟩, List.mem_of_getElem? (i := 816) (by decide +kernel), List.mem_of_getElem? (i := 1084) (by decide +kernel), List.mem_of_getElem? (i := 1085) (by decide +kernel)⟩
theorem lw_p53 : lw_okq (⟨"SideWorkModel", "write", "(III)V"⟩, 56) := ⟨⟨by decide +kernel, by decide +kernel⟩, List.mem_of_getElem? (i := 816) (by decide +kernel), List.mem_of_getElem? (i := 1088) (by decide +kernel), List.mem_of_getElem? (i := 1089) (by decide +kernel)⟩
theorem lw_p54 : lw_okq (⟨"SideWorkModel", "isLink", "(II)Z"⟩, 56) := ⟨⟨by decide +kernel, by decide +kernel⟩, List.mem_of_getElem? (i := 816) (by decide +kernel), List.mem_of_getElem? (i := 1092) (by decide +kernel), List.mem_of_getElem? (i := 1093) (by decide +kernel)⟩
theorem lw_p55 : lw_okq (⟨"SideWorkModel", "copyPlaces", "(II)V"⟩, 56) := ⟨⟨by decide +kernel, by decide +kernel⟩, List.mem_of_getElem? (i := 816) (by decide +kernel), List.mem_of_getElem? (i := 1096) (by decide +kernel), List.mem_of_getElem? (i := 1097) (by decide +kernel)⟩
theorem lw_p56 : lw_okq (⟨"SideWorkModel", "upLater", "(IIIII)V"⟩, 56) := ⟨⟨by decide +kernel, by decide +kernel⟩, List.mem_of_getElem? (i := 816) (by decide +kernel), List.mem_of_getElem? (i := 1100) (by decide +kernel), List.mem_of_getElem? (i := 1101) (by decide +kernel)⟩
theorem lw_p57 : lw_okq (⟨"SideWorkModel", "upLoop", "(IIII)V"⟩, 56) := ⟨⟨by decide +kernel, by decide +kernel⟩, List.mem_of_getElem? (i := 816) (by decide +kernel), List.mem_of_getElem? (i := 1104) (by decide +kernel), List.mem_of_getElem? (i := 1105) (by decide +kernel)⟩
theorem lw_p58 : lw_okq (⟨"SideWorkModel", "upCall", "(III)V"⟩, 56) := ⟨⟨by decide +kernel, by decide +kernel⟩, List.mem_of_getElem? (i := 816) (by decide +kernel), List.mem_of_getElem? (i := 1108) (by decide +kernel), List.mem_of_getElem? (i := 1109) (by decide +kernel)⟩
theorem lw_p59 : lw_okq (⟨"SideWorkModel", "upWork", "(III)V"⟩, 56) := ⟨⟨by decide +kernel, by decide +kernel⟩, List.mem_of_getElem? (i := 816) (by decide +kernel), List.mem_of_getElem? (i := 1112) (by decide +kernel), List.mem_of_getElem? (i := 1113) (by decide +kernel)⟩
theorem lw_p60 : lw_okq (⟨"SideWorkModel", "upFailure", "()V"⟩, 56) := ⟨⟨by decide +kernel, by decide +kernel⟩, List.mem_of_getElem? (i := 816) (by decide +kernel), List.mem_of_getElem? (i := 1116) (by decide +kernel), List.mem_of_getElem? (i := 1117) (by decide +kernel)⟩
theorem lw_p61 : lw_okq (⟨"SideWorkModel", "leave", "(IIII)V"⟩, 56) := ⟨⟨by decide +kernel, by decide +kernel⟩, List.mem_of_getElem? (i := 816) (by decide +kernel), List.mem_of_getElem? (i := 1120) (by decide +kernel), List.mem_of_getElem? (i := 1121) (by decide +kernel)⟩
theorem lw_p62 : lw_okq (⟨"SideWorkModel", "back", "(I)V"⟩, 56) := ⟨⟨by decide +kernel, by decide +kernel⟩, List.mem_of_getElem? (i := 816) (by decide +kernel), List.mem_of_getElem? (i := 1124) (by decide +kernel), List.mem_of_getElem? (i := 1125) (by decide +kernel)⟩
theorem lw_p63 : lw_okq (⟨"SideWorkModel", "numberOf", "(II)I"⟩, 56) := ⟨⟨by decide +kernel, by decide +kernel⟩, List.mem_of_getElem? (i := 816) (by decide +kernel), List.mem_of_getElem? (i := 1136) (by decide +kernel), List.mem_of_getElem? (i := 1137) (by decide +kernel)⟩
def lw_privs_4 : List (MethodName × Nat) := [(⟨"SideWorkModel", "failBy", "(II)V"⟩, 56), (⟨"SideWorkModel", "makeRow", "(II)V"⟩, 56), (⟨"SideWorkModel", "readPlace", "(III)V"⟩, 56), (⟨"SideWorkModel", "isRowHere", "(II)Z"⟩, 56), (⟨"SideWorkModel", "writePlace", "(II)V"⟩, 56), (⟨"SideWorkModel", "write", "(III)V"⟩, 56), (⟨"SideWorkModel", "isLink", "(II)Z"⟩, 56), (⟨"SideWorkModel", "copyPlaces", "(II)V"⟩, 56), (⟨"SideWorkModel", "upLater", "(IIIII)V"⟩, 56), (⟨"SideWorkModel", "upLoop", "(IIII)V"⟩, 56), (⟨"SideWorkModel", "upCall", "(III)V"⟩, 56), (⟨"SideWorkModel", "upWork", "(III)V"⟩, 56), (⟨"SideWorkModel", "upFailure", "()V"⟩, 56), (⟨"SideWorkModel", "leave", "(IIII)V"⟩, 56), (⟨"SideWorkModel", "back", "(I)V"⟩, 56), (⟨"SideWorkModel", "numberOf", "(II)I"⟩, 56)]
theorem lw_r4 : ∀ q ∈ lw_privs_4, lw_okq q := List.forall_mem_cons.mpr ⟨lw_p48, List.forall_mem_cons.mpr ⟨lw_p49, List.forall_mem_cons.mpr ⟨lw_p50, List.forall_mem_cons.mpr ⟨lw_p51, List.forall_mem_cons.mpr ⟨lw_p52, List.forall_mem_cons.mpr ⟨lw_p53, List.forall_mem_cons.mpr ⟨lw_p54, List.forall_mem_cons.mpr ⟨lw_p55, List.forall_mem_cons.mpr ⟨lw_p56, List.forall_mem_cons.mpr ⟨lw_p57, List.forall_mem_cons.mpr ⟨lw_p58, List.forall_mem_cons.mpr ⟨lw_p59, List.forall_mem_cons.mpr ⟨lw_p60, List.forall_mem_cons.mpr ⟨lw_p61, List.forall_mem_cons.mpr ⟨lw_p62, List.forall_mem_cons.mpr ⟨lw_p63, fun _ h => absurd h List.not_mem_nil⟩⟩⟩⟩⟩⟩⟩⟩⟩⟩⟩⟩⟩⟩⟩⟩
def lw_privs : List (MethodName × Nat) := lw_privs_1 ++ (lw_privs_2 ++ (lw_privs_3 ++ (lw_privs_4)))
def lw_tbl : List Cond := k2_sels lw_privs ++ tables_1
theorem lw_privs_ok : ∀ q ∈ lw_privs, lw_okq q := by
  show ∀ q ∈ lw_privs_1 ++ (lw_privs_2 ++ (lw_privs_3 ++ (lw_privs_4))), lw_okq q
  exact List.forall_mem_append.mpr ⟨lw_r1, List.forall_mem_append.mpr ⟨lw_r2, List.forall_mem_append.mpr ⟨lw_r3, lw_r4⟩⟩⟩
def RX0 : String := "SideWork$Acts"
def TX0 : u_T := fun k => match k with
  | 0 => ("SideWork$Acts", "givens", "[I", true)
  | 1 => ("SideWork$Acts", "parts", "[I", true)
  | 2 => ("SideWork$Acts", "aheads", "[I", true)
  | _ => ("SideWork$Acts", "size", "I", false)
def tyX0 : Nat → FieldType := fun k => match k with
  | 0 => .array .int
  | 1 => .array .int
  | 2 => .array .int
  | _ => .int
abbrev wsX00 : List Cond := u_ws RX0 TX0 4
theorem nmX0 : ∀ a, a < 4 → ∀ b, b < 4 → a ≠ b → (TX0 a).2.1 ≠ (TX0 b).2.1 := by decide +kernel
theorem tyX0_ok : ∀ k, k < 4 → parseFieldDescriptor (TX0 k).2.2.1 = some (tyX0 k) := by decide +kernel
abbrev cX0_init : ByteArray := prog_2_method_1_code
def yX0_init : MethodName := ⟨RX0, "<init>", "()V"⟩
abbrev cX0_has : ByteArray := prog_2_method_2_code
def yX0_has : MethodName := ⟨RX0, "has", "(I)Z"⟩
abbrev cX0_given : ByteArray := prog_2_method_3_code
def yX0_given : MethodName := ⟨RX0, "given", "(II)I"⟩
abbrev cX0_part : ByteArray := prog_2_method_4_code
def yX0_part : MethodName := ⟨RX0, "part", "(II)I"⟩
abbrev cX0_partsAhead : ByteArray := prog_2_method_5_code
def yX0_partsAhead : MethodName := ⟨RX0, "partsAhead", "(I)I"⟩
abbrev cX0_refusalOf : ByteArray := prog_2_method_6_code
def yX0_refusalOf : MethodName := ⟨RX0, "refusalOf", "(IIII)I"⟩
abbrev cX0_isUnknown : ByteArray := prog_2_method_7_code
def yX0_isUnknown : MethodName := ⟨RX0, "isUnknown", "(II)Z"⟩
abbrev cX0_isOutside : ByteArray := prog_2_method_8_code
def yX0_isOutside : MethodName := ⟨RX0, "isOutside", "(II)Z"⟩
abbrev cX0_add : ByteArray := prog_2_method_9_code
def yX0_add : MethodName := ⟨RX0, "add", "(IIII)I"⟩
abbrev cX0_sortParts : ByteArray := prog_2_method_10_code
def yX0_sortParts : MethodName := ⟨RX0, "sortParts", "(II)V"⟩
def RX1 : String := "SideWork$Course"
def TX1 : u_T := fun k => match k with
  | 0 => ("SideWork$Course", "limit", "I", false)
  | 1 => ("SideWork$Course", "steps", "I", false)
  | 2 => ("SideWork$Course", "failures", "I", false)
  | 3 => ("SideWork$Course", "ending", "I", false)
  | 4 => ("SideWork$Course", "code", "I", false)
  | 5 => ("SideWork$Course", "at", "I", false)
  | _ => ("SideWork$Course", "value", "J", false)
def tyX1 : Nat → FieldType := fun k => match k with
  | 0 => .int
  | 1 => .int
  | 2 => .int
  | 3 => .int
  | 4 => .int
  | 5 => .int
  | _ => .long
abbrev wsX10 : List Cond := u_ws RX1 TX1 7
theorem nmX1 : ∀ a, a < 7 → ∀ b, b < 7 → a ≠ b → (TX1 a).2.1 ≠ (TX1 b).2.1 := by decide +kernel
theorem tyX1_ok : ∀ k, k < 7 → parseFieldDescriptor (TX1 k).2.2.1 = some (tyX1 k) := by decide +kernel
abbrev cX1_init : ByteArray := prog_3_method_1_code
def yX1_init : MethodName := ⟨RX1, "<init>", "()V"⟩
abbrev cX1_restart : ByteArray := prog_3_method_2_code
def yX1_restart : MethodName := ⟨RX1, "restart", "(I)V"⟩
abbrev cX1_settle : ByteArray := prog_3_method_3_code
def yX1_settle : MethodName := ⟨RX1, "settle", "()V"⟩
abbrev cX1_goOn : ByteArray := prog_3_method_4_code
def yX1_goOn : MethodName := ⟨RX1, "goOn", "(III)V"⟩
abbrev cX1_end : ByteArray := prog_3_method_5_code
def yX1_end : MethodName := ⟨RX1, "end", "(II)V"⟩
abbrev cX1_arise : ByteArray := prog_3_method_6_code
def yX1_arise : MethodName := ⟨RX1, "arise", "(III)V"⟩
abbrev cX1_takesStep : ByteArray := prog_3_method_7_code
def yX1_takesStep : MethodName := ⟨RX1, "takesStep", "(I)Z"⟩
abbrev cX1_isFailing : ByteArray := prog_3_method_8_code
def yX1_isFailing : MethodName := ⟨RX1, "isFailing", "()Z"⟩
def RX2 : String := "SideWork$Fault"
def TX2 : u_T := fun k => match k with
  | _ => ("", "", "", false)
def tyX2 : Nat → FieldType := fun k => match k with
  | _ => .int
abbrev wsX20 : List Cond := u_ws RX2 TX2 0
theorem nmX2 : ∀ a, a < 0 → ∀ b, b < 0 → a ≠ b → (TX2 a).2.1 ≠ (TX2 b).2.1 := by decide +kernel
theorem tyX2_ok : ∀ k, k < 0 → parseFieldDescriptor (TX2 k).2.2.1 = some (tyX2 k) := by decide +kernel
abbrev cX2_of : ByteArray := prog_4_method_2_code
def yX2_of : MethodName := ⟨RX2, "of", "(IJJJII)I"⟩
abbrev cX2_firstOf : ByteArray := prog_4_method_3_code
def yX2_firstOf : MethodName := ⟨RX2, "firstOf", "(III)I"⟩
abbrev cX2_ofThing : ByteArray := prog_4_method_4_code
def yX2_ofThing : MethodName := ⟨RX2, "ofThing", "(JZ)I"⟩
abbrev cX2_ofWhole : ByteArray := prog_4_method_5_code
def yX2_ofWhole : MethodName := ⟨RX2, "ofWhole", "(J)I"⟩
abbrev cX2_ofLength : ByteArray := prog_4_method_6_code
def yX2_ofLength : MethodName := ⟨RX2, "ofLength", "(I)I"⟩
abbrev cX2_ofPlace : ByteArray := prog_4_method_7_code
def yX2_ofPlace : MethodName := ⟨RX2, "ofPlace", "(II)I"⟩
abbrev cX2_ofWrite : ByteArray := prog_4_method_8_code
def yX2_ofWrite : MethodName := ⟨RX2, "ofWrite", "(JJJI)I"⟩
abbrev cX2_ofCopy : ByteArray := prog_4_method_9_code
def yX2_ofCopy : MethodName := ⟨RX2, "ofCopy", "(JJJI)I"⟩
def RX3 : String := "SideWork$Frames"
def TX3 : u_T := fun k => match k with
  | 0 => ("SideWork$Frames", "slots", "[J", true)
  | _ => ("SideWork$Frames", "made", "I", false)
def tyX3 : Nat → FieldType := fun k => match k with
  | 0 => .array .long
  | _ => .int
abbrev wsX30 : List Cond := u_ws RX3 TX3 2
theorem nmX3 : ∀ a, a < 2 → ∀ b, b < 2 → a ≠ b → (TX3 a).2.1 ≠ (TX3 b).2.1 := by decide +kernel
theorem tyX3_ok : ∀ k, k < 2 → parseFieldDescriptor (TX3 k).2.2.1 = some (tyX3 k) := by decide +kernel
abbrev cX3_init : ByteArray := prog_5_method_1_code
def yX3_init : MethodName := ⟨RX3, "<init>", "()V"⟩
abbrev cX3_restart : ByteArray := prog_5_method_2_code
def yX3_restart : MethodName := ⟨RX3, "restart", "()V"⟩
abbrev cX3_open : ByteArray := prog_5_method_3_code
def yX3_open : MethodName := ⟨RX3, "open", "()I"⟩
abbrev cX3_read : ByteArray := prog_5_method_4_code
def yX3_read : MethodName := ⟨RX3, "read", "(II)J"⟩
abbrev cX3_write : ByteArray := prog_5_method_5_code
def yX3_write : MethodName := ⟨RX3, "write", "(IIJ)V"⟩
abbrev cX3_has : ByteArray := prog_5_method_6_code
def yX3_has : MethodName := ⟨RX3, "has", "(II)Z"⟩
def RX4 : String := "SideWork$Kind"
def TX4 : u_T := fun k => match k with
  | _ => ("", "", "", false)
def tyX4 : Nat → FieldType := fun k => match k with
  | _ => .int
abbrev wsX40 : List Cond := u_ws RX4 TX4 0
theorem nmX4 : ∀ a, a < 0 → ∀ b, b < 0 → a ≠ b → (TX4 a).2.1 ≠ (TX4 b).2.1 := by decide +kernel
theorem tyX4_ok : ∀ k, k < 0 → parseFieldDescriptor (TX4 k).2.2.1 = some (tyX4 k) := by decide +kernel
def RX5 : String := "SideWork$Laters"
def TX5 : u_T := fun k => match k with
  | 0 => ("SideWork$Laters", "acts", "[I", true)
  | 1 => ("SideWork$Laters", "frames", "[I", true)
  | 2 => ("SideWork$Laters", "states", "[I", true)
  | 3 => ("SideWork$Laters", "failures", "[I", true)
  | 4 => ("SideWork$Laters", "codes", "[I", true)
  | 5 => ("SideWork$Laters", "values", "[J", true)
  | _ => ("SideWork$Laters", "made", "I", false)
def tyX5 : Nat → FieldType := fun k => match k with
  | 0 => .array .int
  | 1 => .array .int
  | 2 => .array .int
  | 3 => .array .int
  | 4 => .array .int
  | 5 => .array .long
  | _ => .int
abbrev wsX50 : List Cond := u_ws RX5 TX5 7
theorem nmX5 : ∀ a, a < 7 → ∀ b, b < 7 → a ≠ b → (TX5 a).2.1 ≠ (TX5 b).2.1 := by decide +kernel
theorem tyX5_ok : ∀ k, k < 7 → parseFieldDescriptor (TX5 k).2.2.1 = some (tyX5 k) := by decide +kernel
abbrev cX5_init : ByteArray := prog_7_method_1_code
def yX5_init : MethodName := ⟨RX5, "<init>", "()V"⟩
abbrev cX5_restart : ByteArray := prog_7_method_2_code
def yX5_restart : MethodName := ⟨RX5, "restart", "()V"⟩
abbrev cX5_add : ByteArray := prog_7_method_3_code
def yX5_add : MethodName := ⟨RX5, "add", "(II)J"⟩
abbrev cX5_has : ByteArray := prog_7_method_4_code
def yX5_has : MethodName := ⟨RX5, "has", "(I)Z"⟩
abbrev cX5_actOf : ByteArray := prog_7_method_5_code
def yX5_actOf : MethodName := ⟨RX5, "actOf", "(I)I"⟩
abbrev cX5_frameOf : ByteArray := prog_7_method_6_code
def yX5_frameOf : MethodName := ⟨RX5, "frameOf", "(I)I"⟩
abbrev cX5_stateOf : ByteArray := prog_7_method_7_code
def yX5_stateOf : MethodName := ⟨RX5, "stateOf", "(I)I"⟩
abbrev cX5_failureOf : ByteArray := prog_7_method_8_code
def yX5_failureOf : MethodName := ⟨RX5, "failureOf", "(I)I"⟩
abbrev cX5_codeOf : ByteArray := prog_7_method_9_code
def yX5_codeOf : MethodName := ⟨RX5, "codeOf", "(I)I"⟩
abbrev cX5_valueOf : ByteArray := prog_7_method_10_code
def yX5_valueOf : MethodName := ⟨RX5, "valueOf", "(I)J"⟩
abbrev cX5_setState : ByteArray := prog_7_method_11_code
def yX5_setState : MethodName := ⟨RX5, "setState", "(II)V"⟩
abbrev cX5_finish : ByteArray := prog_7_method_12_code
def yX5_finish : MethodName := ⟨RX5, "finish", "(IJ)V"⟩
abbrev cX5_giveUp : ByteArray := prog_7_method_13_code
def yX5_giveUp : MethodName := ⟨RX5, "giveUp", "(III)V"⟩
def RX6 : String := "SideWork$Machine"
def TX6 : u_T := fun k => match k with
  | 0 => ("SideWork$Machine", "acts", "LSideWork$Acts;", true)
  | 1 => ("SideWork$Machine", "memory", "LSideWork$Memory;", true)
  | 2 => ("SideWork$Machine", "course", "LSideWork$Course;", true)
  | 3 => ("SideWork$Machine", "outRow", "[I", true)
  | 4 => ("SideWork$Machine", "outSize", "I", false)
  | 5 => ("SideWork$Machine", "frames", "LSideWork$Frames;", true)
  | 6 => ("SideWork$Machine", "laters", "LSideWork$Laters;", true)
  | 7 => ("SideWork$Machine", "stack", "LSideWork$Stack;", true)
  | _ => ("SideWork$Machine", "calls", "I", false)
def tyX6 : Nat → FieldType := fun k => match k with
  | 0 => .object "SideWork$Acts"
  | 1 => .object "SideWork$Memory"
  | 2 => .object "SideWork$Course"
  | 3 => .array .int
  | 4 => .int
  | 5 => .object "SideWork$Frames"
  | 6 => .object "SideWork$Laters"
  | 7 => .object "SideWork$Stack"
  | _ => .int
abbrev wsX60 : List Cond := u_ws RX6 TX6 9
theorem nmX6 : ∀ a, a < 9 → ∀ b, b < 9 → a ≠ b → (TX6 a).2.1 ≠ (TX6 b).2.1 := by decide +kernel
theorem tyX6_ok : ∀ k, k < 9 → parseFieldDescriptor (TX6 k).2.2.1 = some (tyX6 k) := by decide +kernel
abbrev cX6_init : ByteArray := prog_8_method_1_code
def yX6_init : MethodName := ⟨RX6, "<init>", "(LSideWork$Acts;)V"⟩
abbrev cX6_restart : ByteArray := prog_8_method_2_code
def yX6_restart : MethodName := ⟨RX6, "restart", "(I)V"⟩
abbrev cX6_perform : ByteArray := prog_8_method_3_code
def yX6_perform : MethodName := ⟨RX6, "perform", "(II)V"⟩
abbrev cX6_begin : ByteArray := prog_8_method_4_code
def yX6_begin : MethodName := ⟨RX6, "begin", "(II)V"⟩
abbrev cX6_beginPart : ByteArray := prog_8_method_5_code
def yX6_beginPart : MethodName := ⟨RX6, "beginPart", "(I)V"⟩
abbrev cX6_give : ByteArray := prog_8_method_6_code
def yX6_give : MethodName := ⟨RX6, "give", "(J)V"⟩
abbrev cX6_fail : ByteArray := prog_8_method_7_code
def yX6_fail : MethodName := ⟨RX6, "fail", "(II)V"⟩
abbrev cX6_endRun : ByteArray := prog_8_method_8_code
def yX6_endRun : MethodName := ⟨RX6, "endRun", "(I)V"⟩
abbrev cX6_comesToWork : ByteArray := prog_8_method_9_code
def yX6_comesToWork : MethodName := ⟨RX6, "comesToWork", "()Z"⟩
abbrev cX6_isStopped : ByteArray := prog_8_method_10_code
def yX6_isStopped : MethodName := ⟨RX6, "isStopped", "(I)Z"⟩
abbrev cX6_work : ByteArray := prog_8_method_11_code
def yX6_work : MethodName := ⟨RX6, "work", "()V"⟩
abbrev cX6_keep : ByteArray := prog_8_method_12_code
def yX6_keep : MethodName := ⟨RX6, "keep", "()V"⟩
abbrev cX6_doAlways : ByteArray := prog_8_method_13_code
def yX6_doAlways : MethodName := ⟨RX6, "doAlways", "()V"⟩
abbrev cX6_choose : ByteArray := prog_8_method_14_code
def yX6_choose : MethodName := ⟨RX6, "choose", "()V"⟩
abbrev cX6_loop : ByteArray := prog_8_method_15_code
def yX6_loop : MethodName := ⟨RX6, "loop", "()V"⟩
abbrev cX6_askAgain : ByteArray := prog_8_method_16_code
def yX6_askAgain : MethodName := ⟨RX6, "askAgain", "()V"⟩
abbrev cX6_call : ByteArray := prog_8_method_17_code
def yX6_call : MethodName := ⟨RX6, "call", "()V"⟩
abbrev cX6_enter : ByteArray := prog_8_method_18_code
def yX6_enter : MethodName := ⟨RX6, "enter", "(I)V"⟩
abbrev cX6_delay : ByteArray := prog_8_method_19_code
def yX6_delay : MethodName := ⟨RX6, "delay", "()V"⟩
abbrev cX6_force : ByteArray := prog_8_method_20_code
def yX6_force : MethodName := ⟨RX6, "force", "(I)V"⟩
abbrev cX6_workLater : ByteArray := prog_8_method_21_code
def yX6_workLater : MethodName := ⟨RX6, "workLater", "(I)V"⟩
abbrev cX6_copy : ByteArray := prog_8_method_22_code
def yX6_copy : MethodName := ⟨RX6, "copy", "()V"⟩
abbrev cX6_workPlainly : ByteArray := prog_8_method_23_code
def yX6_workPlainly : MethodName := ⟨RX6, "workPlainly", "(I)V"⟩
abbrev cX6_reckon : ByteArray := prog_8_method_24_code
def yX6_reckon : MethodName := ⟨RX6, "reckon", "(IIJJ)J"⟩
abbrev cX6_change : ByteArray := prog_8_method_25_code
def yX6_change : MethodName := ⟨RX6, "change", "(IIJJJ)J"⟩
abbrev cX6_put : ByteArray := prog_8_method_26_code
def yX6_put : MethodName := ⟨RX6, "put", "(IJ)J"⟩
abbrev cX6_tell : ByteArray := prog_8_method_27_code
def yX6_tell : MethodName := ⟨RX6, "tell", "(J)J"⟩
abbrev cX6_leave : ByteArray := prog_8_method_28_code
def yX6_leave : MethodName := ⟨RX6, "leave", "()V"⟩
abbrev cX6_isCaught : ByteArray := prog_8_method_29_code
def yX6_isCaught : MethodName := ⟨RX6, "isCaught", "()Z"⟩
abbrev cX6_takeUp : ByteArray := prog_8_method_30_code
def yX6_takeUp : MethodName := ⟨RX6, "takeUp", "()V"⟩
abbrev cX6_leaveLater : ByteArray := prog_8_method_31_code
def yX6_leaveLater : MethodName := ⟨RX6, "leaveLater", "(I)V"⟩
def RX7 : String := "SideWork$Memory"
def TX7 : u_T := fun k => match k with
  | 0 => ("SideWork$Memory", "cells", "[J", true)
  | 1 => ("SideWork$Memory", "changedCells", "[I", true)
  | 2 => ("SideWork$Memory", "changedFrom", "[J", true)
  | 3 => ("SideWork$Memory", "used", "I", false)
  | _ => ("SideWork$Memory", "changes", "I", false)
def tyX7 : Nat → FieldType := fun k => match k with
  | 0 => .array .long
  | 1 => .array .int
  | 2 => .array .long
  | 3 => .int
  | _ => .int
abbrev wsX70 : List Cond := u_ws RX7 TX7 5
theorem nmX7 : ∀ a, a < 5 → ∀ b, b < 5 → a ≠ b → (TX7 a).2.1 ≠ (TX7 b).2.1 := by decide +kernel
theorem tyX7_ok : ∀ k, k < 5 → parseFieldDescriptor (TX7 k).2.2.1 = some (tyX7 k) := by decide +kernel
abbrev cX7_init : ByteArray := prog_9_method_1_code
def yX7_init : MethodName := ⟨RX7, "<init>", "()V"⟩
abbrev cX7_isBox : ByteArray := prog_9_method_2_code
def yX7_isBox : MethodName := ⟨RX7, "isBox", "(I)Z"⟩
abbrev cX7_cellOf : ByteArray := prog_9_method_3_code
def yX7_cellOf : MethodName := ⟨RX7, "cellOf", "(JI)I"⟩
abbrev cX7_restart : ByteArray := prog_9_method_4_code
def yX7_restart : MethodName := ⟨RX7, "restart", "()V"⟩
abbrev cX7_newRow : ByteArray := prog_9_method_5_code
def yX7_newRow : MethodName := ⟨RX7, "newRow", "(II)J"⟩
abbrev cX7_newLink : ByteArray := prog_9_method_6_code
def yX7_newLink : MethodName := ⟨RX7, "newLink", "(IJ)J"⟩
abbrev cX7_read : ByteArray := prog_9_method_7_code
def yX7_read : MethodName := ⟨RX7, "read", "(I)J"⟩
abbrev cX7_write : ByteArray := prog_9_method_8_code
def yX7_write : MethodName := ⟨RX7, "write", "(IJ)V"⟩
abbrev cX7_copied : ByteArray := prog_9_method_9_code
def yX7_copied : MethodName := ⟨RX7, "copied", "(JJI)Z"⟩
abbrev cX7_changesSoFar : ByteArray := prog_9_method_10_code
def yX7_changesSoFar : MethodName := ⟨RX7, "changesSoFar", "()I"⟩
abbrev cX7_undoBackTo : ByteArray := prog_9_method_11_code
def yX7_undoBackTo : MethodName := ⟨RX7, "undoBackTo", "(I)V"⟩
abbrev cX7_lengthOf : ByteArray := prog_9_method_12_code
def yX7_lengthOf : MethodName := ⟨RX7, "lengthOf", "(J)I"⟩
abbrev cX7_measure : ByteArray := prog_9_method_13_code
def yX7_measure : MethodName := ⟨RX7, "measure", "(J)I"⟩
def RX8 : String := "SideWork$Stack"
def TX8 : u_T := fun k => match k with
  | 0 => ("SideWork$Stack", "acts", "[I", true)
  | 1 => ("SideWork$Stack", "frames", "[I", true)
  | 2 => ("SideWork$Stack", "stages", "[I", true)
  | 3 => ("SideWork$Stack", "partValues", "[J", true)
  | 4 => ("SideWork$Stack", "marks", "[I", true)
  | 5 => ("SideWork$Stack", "heldFailures", "[I", true)
  | 6 => ("SideWork$Stack", "heldCodes", "[I", true)
  | 7 => ("SideWork$Stack", "heldAts", "[I", true)
  | 8 => ("SideWork$Stack", "height", "I", false)
  | _ => ("SideWork$Stack", "top", "I", false)
def tyX8 : Nat → FieldType := fun k => match k with
  | 0 => .array .int
  | 1 => .array .int
  | 2 => .array .int
  | 3 => .array .long
  | 4 => .array .int
  | 5 => .array .int
  | 6 => .array .int
  | 7 => .array .int
  | 8 => .int
  | _ => .int
abbrev wsX80 : List Cond := u_ws RX8 TX8 10
theorem nmX8 : ∀ a, a < 10 → ∀ b, b < 10 → a ≠ b → (TX8 a).2.1 ≠ (TX8 b).2.1 := by decide +kernel
theorem tyX8_ok : ∀ k, k < 10 → parseFieldDescriptor (TX8 k).2.2.1 = some (tyX8 k) := by decide +kernel
abbrev cX8_init : ByteArray := prog_10_method_1_code
def yX8_init : MethodName := ⟨RX8, "<init>", "()V"⟩
abbrev cX8_restart : ByteArray := prog_10_method_2_code
def yX8_restart : MethodName := ⟨RX8, "restart", "()V"⟩
abbrev cX8_isEmpty : ByteArray := prog_10_method_3_code
def yX8_isEmpty : MethodName := ⟨RX8, "isEmpty", "()Z"⟩
abbrev cX8_push : ByteArray := prog_10_method_4_code
def yX8_push : MethodName := ⟨RX8, "push", "(III)V"⟩
abbrev cX8_pop : ByteArray := prog_10_method_5_code
def yX8_pop : MethodName := ⟨RX8, "pop", "()V"⟩
abbrev cX8_actOnTop : ByteArray := prog_10_method_6_code
def yX8_actOnTop : MethodName := ⟨RX8, "actOnTop", "()I"⟩
abbrev cX8_frame : ByteArray := prog_10_method_7_code
def yX8_frame : MethodName := ⟨RX8, "frame", "()I"⟩
abbrev cX8_stage : ByteArray := prog_10_method_8_code
def yX8_stage : MethodName := ⟨RX8, "stage", "()I"⟩
abbrev cX8_setStage : ByteArray := prog_10_method_9_code
def yX8_setStage : MethodName := ⟨RX8, "setStage", "(I)V"⟩
abbrev cX8_take : ByteArray := prog_10_method_10_code
def yX8_take : MethodName := ⟨RX8, "take", "(J)V"⟩
abbrev cX8_value : ByteArray := prog_10_method_11_code
def yX8_value : MethodName := ⟨RX8, "value", "(I)J"⟩
abbrev cX8_mark : ByteArray := prog_10_method_12_code
def yX8_mark : MethodName := ⟨RX8, "mark", "()I"⟩
abbrev cX8_hold : ByteArray := prog_10_method_13_code
def yX8_hold : MethodName := ⟨RX8, "hold", "(LSideWork$Course;)V"⟩
abbrev cX8_holdsFailure : ByteArray := prog_10_method_14_code
def yX8_holdsFailure : MethodName := ⟨RX8, "holdsFailure", "()Z"⟩
abbrev cX8_letGo : ByteArray := prog_10_method_15_code
def yX8_letGo : MethodName := ⟨RX8, "letGo", "(LSideWork$Course;)V"⟩
def RX9 : String := "SideWork$Value"
def TX9 : u_T := fun k => match k with
  | _ => ("", "", "", false)
def tyX9 : Nat → FieldType := fun k => match k with
  | _ => .int
abbrev wsX90 : List Cond := u_ws RX9 TX9 0
theorem nmX9 : ∀ a, a < 0 → ∀ b, b < 0 → a ≠ b → (TX9 a).2.1 ≠ (TX9 b).2.1 := by decide +kernel
theorem tyX9_ok : ∀ k, k < 0 → parseFieldDescriptor (TX9 k).2.2.1 = some (tyX9 k) := by decide +kernel
abbrev cX9_of : ByteArray := prog_11_method_2_code
def yX9_of : MethodName := ⟨RX9, "of", "(II)J"⟩
abbrev cX9_whole : ByteArray := prog_11_method_3_code
def yX9_whole : MethodName := ⟨RX9, "whole", "(I)J"⟩
abbrev cX9_truth : ByteArray := prog_11_method_4_code
def yX9_truth : MethodName := ⟨RX9, "truth", "(Z)J"⟩
abbrev cX9_sort : ByteArray := prog_11_method_5_code
def yX9_sort : MethodName := ⟨RX9, "sort", "(J)I"⟩
abbrev cX9_number : ByteArray := prog_11_method_6_code
def yX9_number : MethodName := ⟨RX9, "number", "(J)I"⟩
abbrev cX9_isRow : ByteArray := prog_11_method_7_code
def yX9_isRow : MethodName := ⟨RX9, "isRow", "(J)Z"⟩
abbrev cX9_isRowForLinks : ByteArray := prog_11_method_8_code
def yX9_isRowForLinks : MethodName := ⟨RX9, "isRowForLinks", "(J)Z"⟩
abbrev cX9_isLink : ByteArray := prog_11_method_9_code
def yX9_isLink : MethodName := ⟨RX9, "isLink", "(J)Z"⟩
abbrev cX9_isLinkOrNothing : ByteArray := prog_11_method_10_code
def yX9_isLinkOrNothing : MethodName := ⟨RX9, "isLinkOrNothing", "(J)Z"⟩
abbrev cX9_isStrange : ByteArray := prog_11_method_11_code
def yX9_isStrange : MethodName := ⟨RX9, "isStrange", "(JJ)Z"⟩
def RX10 : String := "SideWork"
def TX10 : u_T := fun k => match k with
  | 0 => ("SideWork", "acts", "LSideWork$Acts;", true)
  | 1 => ("SideWork", "machine", "LSideWork$Machine;", true)
  | _ => ("SideWork", "runs", "I", false)
def tyX10 : Nat → FieldType := fun k => match k with
  | 0 => .object "SideWork$Acts"
  | 1 => .object "SideWork$Machine"
  | _ => .int
abbrev wsX100 : List Cond := u_ws RX10 TX10 3
theorem nmX10 : ∀ a, a < 3 → ∀ b, b < 3 → a ≠ b → (TX10 a).2.1 ≠ (TX10 b).2.1 := by decide +kernel
theorem tyX10_ok : ∀ k, k < 3 → parseFieldDescriptor (TX10 k).2.2.1 = some (tyX10 k) := by decide +kernel
abbrev cX10_init : ByteArray := prog_1_method_1_code
def yX10_init : MethodName := ⟨RX10, "<init>", "()V"⟩
abbrev cX10_act : ByteArray := prog_1_method_2_code
def yX10_act : MethodName := ⟨RX10, "act", "(IIII)I"⟩
abbrev cX10_told : ByteArray := prog_1_method_3_code
def yX10_told : MethodName := ⟨RX10, "told", "(II)I"⟩
abbrev cX10_run : ByteArray := prog_1_method_4_code
def yX10_run : MethodName := ⟨RX10, "run", "(II)I"⟩
abbrev cX10_ended : ByteArray := prog_1_method_5_code
def yX10_ended : MethodName := ⟨RX10, "ended", "(I)I"⟩
abbrev cX10_gave : ByteArray := prog_1_method_6_code
def yX10_gave : MethodName := ⟨RX10, "gave", "()I"⟩
abbrev cX10_place : ByteArray := prog_1_method_7_code
def yX10_place : MethodName := ⟨RX10, "place", "(I)I"⟩
abbrev cX10_box : ByteArray := prog_1_method_8_code
def yX10_box : MethodName := ⟨RX10, "box", "(I)I"⟩
abbrev cX10_boxed : ByteArray := prog_1_method_9_code
def yX10_boxed : MethodName := ⟨RX10, "boxed", "(I)I"⟩
abbrev cX10_same : ByteArray := prog_1_method_10_code
def yX10_same : MethodName := ⟨RX10, "same", "(II)I"⟩
abbrev cX10_out : ByteArray := prog_1_method_11_code
def yX10_out : MethodName := ⟨RX10, "out", "(I)I"⟩
abbrev cX10_count : ByteArray := prog_1_method_12_code
def yX10_count : MethodName := ⟨RX10, "count", "(I)I"⟩
abbrev cX10_clear : ByteArray := prog_1_method_13_code
def yX10_clear : MethodName := ⟨RX10, "clear", "()I"⟩
def RX11 : String := "SideWorkModel"
def TX11 : u_T := fun k => match k with
  | 0 => ("SideWorkModel", "acts", "I", false)
  | 1 => ("SideWorkModel", "kind", "[I", true)
  | 2 => ("SideWorkModel", "argA", "[I", true)
  | 3 => ("SideWorkModel", "argB", "[I", true)
  | 4 => ("SideWorkModel", "argC", "[I", true)
  | 5 => ("SideWorkModel", "runs", "I", false)
  | 6 => ("SideWorkModel", "things", "I", false)
  | 7 => ("SideWorkModel", "thingSize", "[I", true)
  | 8 => ("SideWorkModel", "placeType", "[I", true)
  | 9 => ("SideWorkModel", "placeNumber", "[I", true)
  | 10 => ("SideWorkModel", "laterAct", "[I", true)
  | 11 => ("SideWorkModel", "laterFrame", "[I", true)
  | 12 => ("SideWorkModel", "laterState", "[I", true)
  | 13 => ("SideWorkModel", "laterType", "[I", true)
  | 14 => ("SideWorkModel", "laterNumber", "[I", true)
  | 15 => ("SideWorkModel", "frames", "I", false)
  | 16 => ("SideWorkModel", "slotType", "[I", true)
  | 17 => ("SideWorkModel", "slotNumber", "[I", true)
  | 18 => ("SideWorkModel", "boxType", "[I", true)
  | 19 => ("SideWorkModel", "boxNumber", "[I", true)
  | 20 => ("SideWorkModel", "changes", "I", false)
  | 21 => ("SideWorkModel", "changed", "[I", true)
  | 22 => ("SideWorkModel", "wasType", "[I", true)
  | 23 => ("SideWorkModel", "wasNumber", "[I", true)
  | 24 => ("SideWorkModel", "tolds", "I", false)
  | 25 => ("SideWorkModel", "toldRow", "[I", true)
  | 26 => ("SideWorkModel", "top", "I", false)
  | 27 => ("SideWorkModel", "sAct", "[I", true)
  | 28 => ("SideWorkModel", "sPhase", "[I", true)
  | 29 => ("SideWorkModel", "sFrame", "[I", true)
  | 30 => ("SideWorkModel", "sTypeX", "[I", true)
  | 31 => ("SideWorkModel", "sNumberX", "[I", true)
  | 32 => ("SideWorkModel", "sTypeY", "[I", true)
  | 33 => ("SideWorkModel", "sNumberY", "[I", true)
  | 34 => ("SideWorkModel", "sMark", "[I", true)
  | 35 => ("SideWorkModel", "sAt", "[I", true)
  | 36 => ("SideWorkModel", "mode", "I", false)
  | 37 => ("SideWorkModel", "nowAct", "I", false)
  | 38 => ("SideWorkModel", "nowFrame", "I", false)
  | 39 => ("SideWorkModel", "vType", "I", false)
  | 40 => ("SideWorkModel", "vNumber", "I", false)
  | 41 => ("SideWorkModel", "fKind", "I", false)
  | 42 => ("SideWorkModel", "fCode", "I", false)
  | 43 => ("SideWorkModel", "fAt", "I", false)
  | 44 => ("SideWorkModel", "failures", "I", false)
  | 45 => ("SideWorkModel", "steps", "I", false)
  | 46 => ("SideWorkModel", "most", "I", false)
  | 47 => ("SideWorkModel", "deep", "I", false)
  | 48 => ("SideWorkModel", "gaveType", "I", false)
  | 49 => ("SideWorkModel", "gaveNumber", "I", false)
  | 50 => ("SideWorkModel", "endKind", "I", false)
  | 51 => ("SideWorkModel", "endCode", "I", false)
  | 52 => ("SideWorkModel", "endAt", "I", false)
  | 53 => ("SideWorkModel", "endSteps", "I", false)
  | 54 => ("SideWorkModel", "endFailures", "I", false)
  | _ => ("SideWorkModel", "thrown", "I", false)
def tyX11 : Nat → FieldType := fun k => match k with
  | 0 => .int
  | 1 => .array .int
  | 2 => .array .int
  | 3 => .array .int
  | 4 => .array .int
  | 5 => .int
  | 6 => .int
  | 7 => .array .int
  | 8 => .array .int
  | 9 => .array .int
  | 10 => .array .int
  | 11 => .array .int
  | 12 => .array .int
  | 13 => .array .int
  | 14 => .array .int
  | 15 => .int
  | 16 => .array .int
  | 17 => .array .int
  | 18 => .array .int
  | 19 => .array .int
  | 20 => .int
  | 21 => .array .int
  | 22 => .array .int
  | 23 => .array .int
  | 24 => .int
  | 25 => .array .int
  | 26 => .int
  | 27 => .array .int
  | 28 => .array .int
  | 29 => .array .int
  | 30 => .array .int
  | 31 => .array .int
  | 32 => .array .int
  | 33 => .array .int
  | 34 => .array .int
  | 35 => .array .int
  | 36 => .int
  | 37 => .int
  | 38 => .int
  | 39 => .int
  | 40 => .int
  | 41 => .int
  | 42 => .int
  | 43 => .int
  | 44 => .int
  | 45 => .int
  | 46 => .int
  | 47 => .int
  | 48 => .int
  | 49 => .int
  | 50 => .int
  | 51 => .int
  | 52 => .int
  | 53 => .int
  | 54 => .int
  | _ => .int
abbrev wsX110 : List Cond := u_ws RX11 TX11 56
theorem nmX11 : ∀ a, a < 56 → ∀ b, b < 56 → a ≠ b → (TX11 a).2.1 ≠ (TX11 b).2.1 := by decide +kernel
theorem tyX11_ok : ∀ k, k < 56 → parseFieldDescriptor (TX11 k).2.2.1 = some (tyX11 k) := by decide +kernel
abbrev cX11_init : ByteArray := prog_13_method_1_code
def yX11_init : MethodName := ⟨RX11, "<init>", "()V"⟩
abbrev cX11_in : ByteArray := prog_13_method_2_code
def yX11_in : MethodName := ⟨RX11, "in", "(III)Z"⟩
abbrev cX11_noAct : ByteArray := prog_13_method_3_code
def yX11_noAct : MethodName := ⟨RX11, "noAct", "(I)Z"⟩
abbrev cX11_actsOf : ByteArray := prog_13_method_4_code
def yX11_actsOf : MethodName := ⟨RX11, "actsOf", "(I)I"⟩
abbrev cX11_act : ByteArray := prog_13_method_5_code
def yX11_act : MethodName := ⟨RX11, "act", "(IIII)I"⟩
abbrev cX11_told : ByteArray := prog_13_method_6_code
def yX11_told : MethodName := ⟨RX11, "told", "(II)I"⟩
abbrev cX11_value : ByteArray := prog_13_method_7_code
def yX11_value : MethodName := ⟨RX11, "value", "(II)V"⟩
abbrev cX11_start : ByteArray := prog_13_method_8_code
def yX11_start : MethodName := ⟨RX11, "start", "(II)V"⟩
abbrev cX11_finish : ByteArray := prog_13_method_9_code
def yX11_finish : MethodName := ⟨RX11, "finish", "(II)V"⟩
abbrev cX11_fail : ByteArray := prog_13_method_10_code
def yX11_fail : MethodName := ⟨RX11, "fail", "(III)V"⟩
abbrev cX11_newThing : ByteArray := prog_13_method_11_code
def yX11_newThing : MethodName := ⟨RX11, "newThing", "(I)I"⟩
abbrev cX11_newFrame : ByteArray := prog_13_method_12_code
def yX11_newFrame : MethodName := ⟨RX11, "newFrame", "()I"⟩
abbrev cX11_write : ByteArray := prog_13_method_13_code
def yX11_write : MethodName := ⟨RX11, "write", "(III)V"⟩
abbrev cX11_back : ByteArray := prog_13_method_14_code
def yX11_back : MethodName := ⟨RX11, "back", "(I)V"⟩
abbrev cX11_begin : ByteArray := prog_13_method_15_code
def yX11_begin : MethodName := ⟨RX11, "begin", "()V"⟩
abbrev cX11_keepX : ByteArray := prog_13_method_16_code
def yX11_keepX : MethodName := ⟨RX11, "keepX", "(I)V"⟩
abbrev cX11_keepY : ByteArray := prog_13_method_17_code
def yX11_keepY : MethodName := ⟨RX11, "keepY", "(I)V"⟩
abbrev cX11_isWhole : ByteArray := prog_13_method_18_code
def yX11_isWhole : MethodName := ⟨RX11, "isWhole", "(II)Z"⟩
abbrev cX11_failBy : ByteArray := prog_13_method_19_code
def yX11_failBy : MethodName := ⟨RX11, "failBy", "(II)V"⟩
abbrev cX11_up : ByteArray := prog_13_method_20_code
def yX11_up : MethodName := ⟨RX11, "up", "()V"⟩
abbrev cX11_upOf : ByteArray := prog_13_method_21_code
def yX11_upOf : MethodName := ⟨RX11, "upOf", "(IIIII)V"⟩
abbrev cX11_upLater : ByteArray := prog_13_method_22_code
def yX11_upLater : MethodName := ⟨RX11, "upLater", "(IIIII)V"⟩
abbrev cX11_upLoop : ByteArray := prog_13_method_23_code
def yX11_upLoop : MethodName := ⟨RX11, "upLoop", "(IIII)V"⟩
abbrev cX11_upCall : ByteArray := prog_13_method_24_code
def yX11_upCall : MethodName := ⟨RX11, "upCall", "(III)V"⟩
abbrev cX11_upWork : ByteArray := prog_13_method_25_code
def yX11_upWork : MethodName := ⟨RX11, "upWork", "(III)V"⟩
abbrev cX11_reckon : ByteArray := prog_13_method_26_code
def yX11_reckon : MethodName := ⟨RX11, "reckon", "(IIII)V"⟩
abbrev cX11_makeRow : ByteArray := prog_13_method_27_code
def yX11_makeRow : MethodName := ⟨RX11, "makeRow", "(II)V"⟩
abbrev cX11_isRow : ByteArray := prog_13_method_28_code
def yX11_isRow : MethodName := ⟨RX11, "isRow", "(I)Z"⟩
abbrev cX11_isRowHere : ByteArray := prog_13_method_29_code
def yX11_isRowHere : MethodName := ⟨RX11, "isRowHere", "(II)Z"⟩
abbrev cX11_isLink : ByteArray := prog_13_method_30_code
def yX11_isLink : MethodName := ⟨RX11, "isLink", "(II)Z"⟩
abbrev cX11_readPlace : ByteArray := prog_13_method_31_code
def yX11_readPlace : MethodName := ⟨RX11, "readPlace", "(III)V"⟩
abbrev cX11_writePlace : ByteArray := prog_13_method_32_code
def yX11_writePlace : MethodName := ⟨RX11, "writePlace", "(II)V"⟩
abbrev cX11_copyPlaces : ByteArray := prog_13_method_33_code
def yX11_copyPlaces : MethodName := ⟨RX11, "copyPlaces", "(II)V"⟩
abbrev cX11_upFailure : ByteArray := prog_13_method_34_code
def yX11_upFailure : MethodName := ⟨RX11, "upFailure", "()V"⟩
abbrev cX11_leave : ByteArray := prog_13_method_35_code
def yX11_leave : MethodName := ⟨RX11, "leave", "(IIII)V"⟩
abbrev cX11_run : ByteArray := prog_13_method_36_code
def yX11_run : MethodName := ⟨RX11, "run", "(II)I"⟩
abbrev cX11_ended : ByteArray := prog_13_method_37_code
def yX11_ended : MethodName := ⟨RX11, "ended", "(I)I"⟩
abbrev cX11_numberOf : ByteArray := prog_13_method_38_code
def yX11_numberOf : MethodName := ⟨RX11, "numberOf", "(II)I"⟩
abbrev cX11_gave : ByteArray := prog_13_method_39_code
def yX11_gave : MethodName := ⟨RX11, "gave", "()I"⟩
abbrev cX11_thrown : ByteArray := prog_13_method_40_code
def yX11_thrown : MethodName := ⟨RX11, "thrown", "()I"⟩
abbrev cX11_place : ByteArray := prog_13_method_41_code
def yX11_place : MethodName := ⟨RX11, "place", "(I)I"⟩
abbrev cX11_box : ByteArray := prog_13_method_42_code
def yX11_box : MethodName := ⟨RX11, "box", "(I)I"⟩
abbrev cX11_boxed : ByteArray := prog_13_method_43_code
def yX11_boxed : MethodName := ⟨RX11, "boxed", "(I)I"⟩
abbrev cX11_same : ByteArray := prog_13_method_44_code
def yX11_same : MethodName := ⟨RX11, "same", "(II)I"⟩
abbrev cX11_out : ByteArray := prog_13_method_45_code
def yX11_out : MethodName := ⟨RX11, "out", "(I)I"⟩
abbrev cX11_count : ByteArray := prog_13_method_46_code
def yX11_count : MethodName := ⟨RX11, "count", "(I)I"⟩
abbrev cX11_clear : ByteArray := prog_13_method_47_code
def yX11_clear : MethodName := ⟨RX11, "clear", "()I"⟩
def RJx00060 : String := "java/lang/ArrayIndexOutOfBoundsException"
def TJx00060 : u_T := fun k => match k with
  | 0 => ("java/lang/Throwable", "backtrace", "Ljava/lang/Object;", false)
  | 1 => ("java/lang/Throwable", "detailMessage", "Ljava/lang/String;", false)
  | 2 => ("java/lang/Throwable", "cause", "Ljava/lang/Throwable;", false)
  | 3 => ("java/lang/Throwable", "stackTrace", "[Ljava/lang/StackTraceElement;", false)
  | 4 => ("java/lang/Throwable", "depth", "I", false)
  | _ => ("java/lang/Throwable", "suppressedExceptions", "Ljava/util/List;", false)
def tyJx00060 : Nat → FieldType := fun k => match k with
  | 0 => .object "java/lang/Object"
  | 1 => .object "java/lang/String"
  | 2 => .object "java/lang/Throwable"
  | 3 => .array (.object "java/lang/StackTraceElement")
  | 4 => .int
  | _ => .object "java/util/List"
abbrev wsJx000600 : List Cond := u_ws RJx00060 TJx00060 6
theorem nmJx00060 : ∀ a, a < 6 → ∀ b, b < 6 → a ≠ b → (TJx00060 a).2.1 ≠ (TJx00060 b).2.1 := by decide +kernel
theorem tyJx00060_ok : ∀ k, k < 6 → parseFieldDescriptor (TJx00060 k).2.2.1 = some (tyJx00060 k) := by decide +kernel
abbrev cJx00060_init_a7421 : ByteArray := prog_14_method_2_code
def yJx00060_init_a7421 : MethodName := ⟨RJx00060, "<init>", "(Ljava/lang/String;)V"⟩
def RJ9 : String := "java/lang/Math"
def TJ9 : u_T := fun k => match k with
  | _ => ("", "", "", false)
def tyJ9 : Nat → FieldType := fun k => match k with
  | _ => .int
abbrev wsJ90 : List Cond := u_ws RJ9 TJ9 0
theorem nmJ9 : ∀ a, a < 0 → ∀ b, b < 0 → a ≠ b → (TJ9 a).2.1 ≠ (TJ9 b).2.1 := by decide +kernel
theorem tyJ9_ok : ∀ k, k < 0 → parseFieldDescriptor (TJ9 k).2.2.1 = some (tyJ9 k) := by decide +kernel
abbrev cJ9_min_7cf53 : ByteArray := prog_17_method_69_code
def yJ9_min_7cf53 : MethodName := ⟨RJ9, "min", "(II)I"⟩
def RJ0 : String := "java/lang/String"
def TJ0 : u_T := fun k => match k with
  | 0 => ("java/lang/String", "value", "[B", true)
  | _ => ("java/lang/String", "coder", "B", true)
def tyJ0 : Nat → FieldType := fun k => match k with
  | 0 => .array .byte
  | _ => .byte
abbrev wsJ00 : List Cond := u_ws RJ0 TJ0 2
theorem nmJ0 : ∀ a, a < 2 → ∀ b, b < 2 → a ≠ b → (TJ0 a).2.1 ≠ (TJ0 b).2.1 := by decide +kernel
theorem tyJ0_ok : ∀ k, k < 2 → parseFieldDescriptor (TJ0 k).2.2.1 = some (tyJ0 k) := by decide +kernel
def RL : String := "SideWorkLaw"
abbrev cL_place : ByteArray := method_3_code
def yL_place : MethodName := ⟨RL, "place", "(LSideWork;I[J)I"⟩
abbrev cL_law : ByteArray := code
def yL_law : MethodName := ⟨RL, "law", "([I)Z"⟩
end
section
abbrev vwCl : List vw_C := [(RJ0, TJ0, 2), (RJx00060, TJx00060, 6), (RX0, TX0, 4), (RX1, TX1, 7), (RX3, TX3, 2), (RX5, TX5, 7), (RX6, TX6, 9), (RX7, TX7, 5), (RX8, TX8, 10), (RX10, TX10, 3), (RX11, TX11, 56)]
/-! A STATE of a fixed set of cells: place o, slot j holds an int (sI) or a long (sL). A layout says what the places are: (0, class, kinds of its fields: 0 int, 1 long, p + 2 the place p), (1, n, _) a row of n ints, (2, n, _) a row of n longs. -/
abbrev Sg : Type := (Nat → Nat → Int32) × (Nat → Nat → Int64)
def sI (σ : Sg) (o j : Nat) : Int32 := σ.1 o j
def sL (σ : Sg) (o j : Nat) : Int64 := σ.2 o j
def wI (σ : Sg) (o j : Nat) (v : Int32) : Sg := (fun a b => if a = o ∧ b = j then v else σ.1 a b, σ.2)
def wL (σ : Sg) (o j : Nat) (v : Int64) : Sg := (σ.1, fun a b => if a = o ∧ b = j then v else σ.2 a b)
abbrev Ds : Type := Nat × Nat × List Nat
def fV (ad : Nat → Nat) (σ : Sg) (i j t : Nat) : Value := match t with
  | 0 => .int (σ.1 i j)
  | 1 => .long (σ.2 i j)
  | p + 2 => .ref (ad p)
def cE (ad : Nat → Nat) (cA : Nat → ClassId) (σ : Sg) (i : Nat) (d : Ds) : va_E := match d.1 with
  | 0 => .inr (d.2.1, d.2.2.mapIdx (fun j t => fV ad σ i j t))
  | 1 => .inl (cA i, d.2.1, .inl (σ.1 i))
  | _ => .inl (cA i, d.2.1, .inr (.inl (σ.2 i)))
def pic (Ly : List Ds) (ad : Nat → Nat) (cA : Nat → ClassId) (σ : Sg) : va_W := Ly.mapIdx (fun i d => (ad i, cE ad cA σ i d))
def tys (Ly : List Ds) (cA : Nat → ClassId) : List (ClassId × FieldType) := Ly.mapIdx (fun i d => (cA i, if d.1 = 1 then .int else .long))
theorem pic_at {Ly : List Ds} {ad : Nat → Nat} {cA : Nat → ClassId} {σ : Sg} {i : Nat} {d : Ds} (h : Ly[i]? = some d) : (pic Ly ad cA σ)[i]? = some (ad i, cE ad cA σ i d) := by simp [pic, h]
theorem tys_at {Ly : List Ds} {cA : Nat → ClassId} {i : Nat} {d : Ds} (h : Ly[i]? = some d) : (tys Ly cA)[i]? = some (cA i, if d.1 = 1 then .int else .long) := by simp [tys, h]
theorem wI_row (σ : Sg) (o j : Nat) (v : Int32) : (wI σ o j v).1 o = upd (σ.1 o) j v := by
  funext b
  simp [wI, upd]
theorem wL_row (σ : Sg) (o j : Nat) (v : Int64) : (wL σ o j v).2 o = vp_updL (σ.2 o) j v := by
  funext b
  simp [wL, vp_updL]
theorem cE_wI_ne {ad : Nat → Nat} {cA : Nat → ClassId} {σ : Sg} {o j k : Nat} {v : Int32} {d : Ds} (h : k ≠ o) : cE ad cA (wI σ o j v) k d = cE ad cA σ k d := by
  have h1 : (wI σ o j v).1 k = σ.1 k := by funext b; simp [wI, h]
  unfold cE fV
  rw [h1]
  rfl
theorem cE_wL_ne {ad : Nat → Nat} {cA : Nat → ClassId} {σ : Sg} {o j k : Nat} {v : Int64} {d : Ds} (h : k ≠ o) : cE ad cA (wL σ o j v) k d = cE ad cA σ k d := by
  have h1 : (wL σ o j v).2 k = σ.2 k := by funext b; simp [wL, h]
  unfold cE fV
  rw [h1]
  rfl
theorem pic_set {Ly : List Ds} {ad : Nat → Nat} {cA : Nat → ClassId} {σ σ' : Sg} {o : Nat} {d : Ds} {x : va_E} (h : Ly[o]? = some d) (he : x = cE ad cA σ' o d) (hn : ∀ k d', k ≠ o → cE ad cA σ' k d' = cE ad cA σ k d') : (pic Ly ad cA σ).set o (ad o, x) = pic Ly ad cA σ' := by
  subst he
  have hl : o < (pic Ly ad cA σ).length := by simp only [pic, List.length_mapIdx]; exact (List.getElem?_eq_some_iff.mp h).1
  apply List.ext_getElem?
  intro k
  by_cases hk : k = o
  · subst hk
    rw [List.getElem?_set_self hl, pic_at h]
  · rw [List.getElem?_set_ne (Ne.symm hk)]
    simp only [pic, List.getElem?_mapIdx]
    cases Ly[k]? with
    | none => rfl
    | some d' => simp only [Option.map_some, hn k d' hk]
theorem pic_aI {Ly : List Ds} {ad : Nat → Nat} {cA : Nat → ClassId} {σ : Sg} {o n j : Nat} {x : List Nat} {v : Int32} (h : Ly[o]? = some (1, n, x)) : (pic Ly ad cA σ).set o (ad o, .inl (cA o, n, .inl (upd (σ.1 o) j v))) = pic Ly ad cA (wI σ o j v) :=
  pic_set h (by simp only [cE, wI_row]) (fun k d' hk => cE_wI_ne hk)
theorem pic_aL {Ly : List Ds} {ad : Nat → Nat} {cA : Nat → ClassId} {σ : Sg} {o n j : Nat} {x : List Nat} {v : Int64} (h : Ly[o]? = some (2, n, x)) : (pic Ly ad cA σ).set o (ad o, .inl (cA o, n, .inr (.inl (vp_updL (σ.2 o) j v)))) = pic Ly ad cA (wL σ o j v) :=
  pic_set h (by simp only [cE, wL_row]) (fun k d' hk => cE_wL_ne hk)
theorem fs_at {ad : Nat → Nat} {σ : Sg} {o f t : Nat} {ts : List Nat} (h : ts[f]? = some t) : (ts.mapIdx (fun j t => fV ad σ o j t))[f]? = some (fV ad σ o f t) := by simp [h]
theorem fs_set {ad : Nat → Nat} {σ σ' : Sg} {o f t : Nat} {ts : List Nat} {v : Value} (h : ts[f]? = some t) (hv : fV ad σ' o f t = v) (hn : ∀ j t', j ≠ f → fV ad σ' o j t' = fV ad σ o j t') : (ts.mapIdx (fun j t => fV ad σ o j t)).set f v = ts.mapIdx (fun j t => fV ad σ' o j t) := by
  subst hv
  have hl : f < (ts.mapIdx (fun j t => fV ad σ o j t)).length := by simp only [List.length_mapIdx]; exact (List.getElem?_eq_some_iff.mp h).1
  apply List.ext_getElem?
  intro k
  by_cases hk : k = f
  · subst hk
    rw [List.getElem?_set_self hl, fs_at h]
  · rw [List.getElem?_set_ne (Ne.symm hk)]
    simp only [List.getElem?_mapIdx]
    cases ts[k]? with
    | none => rfl
    | some t' => simp only [Option.map_some, hn k t' hk]
theorem fV_wI {ad : Nat → Nat} {σ : Sg} {o f j t : Nat} {v : Int32} (h : j ≠ f) : fV ad (wI σ o f v) o j t = fV ad σ o j t := by
  unfold fV
  split <;> simp [wI, h]
theorem fV_wL {ad : Nat → Nat} {σ : Sg} {o f j t : Nat} {v : Int64} (h : j ≠ f) : fV ad (wL σ o f v) o j t = fV ad σ o j t := by
  unfold fV
  split <;> simp [wL, h]
theorem pic_fI {Ly : List Ds} {ad : Nat → Nat} {cA : Nat → ClassId} {σ : Sg} {o ci f : Nat} {ts : List Nat} {v : Int32} (h : Ly[o]? = some (0, ci, ts)) (hf : ts[f]? = some 0) : (pic Ly ad cA σ).set o (ad o, .inr (ci, (ts.mapIdx (fun j t => fV ad σ o j t)).set f (.int v))) = pic Ly ad cA (wI σ o f v) :=
  pic_set h (by simp only [cE]; rw [fs_set hf (σ' := wI σ o f v) (by simp [fV, wI]) (fun j t' hj => fV_wI hj)]) (fun k d' hk => cE_wI_ne hk)
theorem pic_fL {Ly : List Ds} {ad : Nat → Nat} {cA : Nat → ClassId} {σ : Sg} {o ci f : Nat} {ts : List Nat} {v : Int64} (h : Ly[o]? = some (0, ci, ts)) (hf : ts[f]? = some 1) : (pic Ly ad cA σ).set o (ad o, .inr (ci, (ts.mapIdx (fun j t => fV ad σ o j t)).set f (.long v))) = pic Ly ad cA (wL σ o f v) :=
  pic_set h (by simp only [cE]; rw [fs_set hf (σ' := wL σ o f v) (by simp [fV, wL]) (fun j t' hj => fV_wL hj)]) (fun k d' hk => cE_wL_ne hk)
/-! the words that every method has, the rooms by depth -/
def wsG : List Cond := lw_tbl.filter goodWord
theorem wsG_of {w : Cond} (h : w ∈ lw_tbl) (g : goodWord w = true) : w ∈ wsG := List.mem_filter.mpr ⟨h, g⟩
theorem wsG_in {w : Cond} (h : w ∈ wsG) : w ∈ lw_tbl ∧ goodWord w = true := List.mem_filter.mp h
def rmd (d : Nat) : Room := { frames := d, cells := 0, slots := 0, locals := 60 * d }
/-- a method: its name, code, number of locals, what it returns -/
abbrev Mi : Type := MethodName × ByteArray × Nat × Option FieldType
/-- what is fixed: the launch, the tables' numbers, the addresses, the rows' array kinds, the two tables of Acts, the layout -/
abbrev Gx : Type := Launch × va_G × (Nat → Nat) × (Nat → ClassId) × (Nat × Nat) × List Ds
def gad (G : Gx) : Nat → Nat := G.2.2.1
def gcA (G : Gx) : Nat → ClassId := G.2.2.2.1
def gtM (G : Gx) : Nat := G.2.2.2.2.1.1
def gtG (G : Gx) : Nat := G.2.2.2.2.1.2
def gLy (G : Gx) : List Ds := G.2.2.2.2.2
abbrev gpic (G : Gx) (σ : Sg) : va_W := pic (gLy G) (gad G) (gcA G) σ
abbrev gtys (G : Gx) : List (ClassId × FieldType) := tys (gLy G) (gcA G)

def tbM : Nat → Int32 := fun j => ([0, 0, 0, 3, 0, 0, 0, 0, 0, 1, 1, 0, 1, 3, 2, 1, 1, 0, 1, 1, 0, 1, 1, 0, 1, 1, 0, 1, 1, 0, 1, 0, 0, 1, 0, 0, 1, 0, 0, 1, 0, 0, 1, 0, 0, 1, 1, 0, 1, 1, 1, 1, 0, 0, 1, 1, 0, 1, 1, 1, 1, 0, 0, 1, 5, 2, 1, 2, 0, 1, 2, 2, 1, 2, 0, 6, 1, 0, 1, 0, 0, 2, 0, 0, 1, 0, 0, 1, 0, 0, 4, 0, 0, 4, 1, 0] : List Int32).getD j 0
def tbG : Nat → Int32 := fun j => ([0, 0, 0, 7, 7, 8, 59] : List Int32).getD j 0
/-- the two tables of Acts, where nobody writes -/
def sMG (G : Gx) (A : Nat → Prop) (U : State) (H : Heap) : Prop := va_Z "SideWork$Acts" "MEANINGS" "[I" (.ref (gtM G)) A U H ∧ va_T .int (gtM G) 96 (fun j => .int (tbM j)) A U H ∧ va_Z "SideWork$Acts" "GREATEST" "[I" (.ref (gtG G)) A U H ∧ va_T .int (gtG G) 7 (fun j => .int (tbG j)) A U H
theorem sMG.moved {G : Gx} {A : Nat → Prop} {u U : State} {H : Heap} (hvm : u.vm.Alike U.vm) (h : sMG G A u H) : sMG G A U H := ⟨va_Z.moved hvm h.1, va_T.moved hvm h.2.1, va_Z.moved hvm h.2.2.1, va_T.moved hvm h.2.2.2⟩
theorem sMG.kept {G : Gx} {A : Nat → Prop} {U : State} {H H1 : Heap} (h : sMG G A U H) (hq : ∀ a : Nat, a < H.size → ¬ A a → H1[a]? = H[a]?) : sMG G A U H1 := ⟨h.1.kept hq, h.2.1.kept hq, h.2.2.1.kept hq, h.2.2.2.kept hq⟩
theorem sMG.narrow {G : Gx} {A B : Nat → Prop} {U : State} {H : Heap} (h : sMG G A U H) (hAB : ∀ q, B q → A q) : sMG G B U H := ⟨h.1.narrow hAB, h.2.1.narrow hAB, h.2.2.1.narrow hAB, h.2.2.2.narrow hAB⟩
/-- what holds of the machine all through a method -/
def XC (G : Gx) (M : Mi) (p : Program) (s : State) (m : MethodId) (args : Array Value) (meth : Method) (c : Code) (A : Nat → Prop) : Prop :=
  p.tables.exec = Jvm.exec ∧ c.code = M.2.1 ∧ c.maxLocals = M.2.2.1 ∧ meth.sig.returnType = M.2.2.2 ∧ meth.locks = false ∧ s.vm.findClass M.1.cls = some m.cls ∧ (∀ w ∈ wsG, w.before args s = true) ∧ va_K G.2.1 vwCl (gtys G) s ∧ (∀ q : Nat, s.heap.size ≤ q → A q) ∧ sMG G A s s.heap
/-- a method's end: its answer and its state as Q says -/
def Qx (G : Gx) (Q : Option Value → Sg → Prop) (A : Nat → Prop) : Array Value → State → Outcome → State → Prop := fun _ st oc t =>
  (∃ (v : Option Value) (σ : Sg), oc = .returned v ∧ Q v σ ∧ va_P G.2.1 vwCl (gpic G σ) t.heap ∧ va_K G.2.1 vwCl (gtys G) t ∧ va_D A (gpic G σ)) ∧ va_F A st t
/-- the machine, in the method M at pc, with these locals, this stack and this state, comes to the method's end, and Q holds there -/
def X (G : Gx) (M : Mi) (d pc : Nat) (lv : List (Nat × Value)) (st : List Value) (σ : Sg) (Q : Option Value → Sg → Prop) : Prop :=
  ∀ (p : Program) (e : Env) (s : State) (m : MethodId) (args : Array Value) (below : List Frame) (meth : Method) (c : Code) (A : Nat → Prop), XC G M p s m args meth c A →
    ∀ (H : Heap) (locs : List Loc) (ls : Array Slot), va_P G.2.1 vwCl (gpic G σ) H → va_D A (gpic G σ) → va_S A s.heap H locs → lv_has ls M.2.2.1 lv →
      W p G.1 e (rmd d) s m args below meth c H locs 0 0 (MQ below (Qx G Q A) args s 0 0 A) (F0 m pc ls st)
/-- the method M, called with av in the state σ, returns, and Q holds of its answer and its state -/
def CT (G : Gx) (M : Mi) (d : Nat) (av : List Value) (σ : Sg) (Q : Option Value → Sg → Prop) : Prop :=
  ∀ sz : Nat, Met G.1 M.1 (.code M.1 M.2.1 M.2.2.1 M.2.2.2 :: wsG) (rmd d)
    (va_Pc av (fun U => U.heap.size = sz ∧ va_P G.2.1 vwCl (gpic G σ) U.heap ∧ va_K G.2.1 vwCl (gtys G) U ∧ va_D (fun _ => True) (gpic G σ) ∧ sMG G (va_A (gpic G σ) sz) U U.heap))
    (Qx G Q (va_A (gpic G σ) sz)) 0 0 (va_A (gpic G σ) sz)
section XR
variable {G : Gx} {M : Mi} {d pc : Nat} {lv lv' : List (Nat × Value)} {st : List Value} {σ : Sg} {Q : Option Value → Sg → Prop}
theorem ct_of {av : List Value} (hpl : plainName M.1.cls = true) (hn : (lg_sl av).length ≤ M.2.2.1) (hl : lv_args 0 av = lv) (h : X G M d 0 lv [] σ Q) : CT G M d av σ Q := by
  subst hl
  intro sz
  refine Met.ofW (cc := M.2.1) (maxL := M.2.2.1) (ret := M.2.2.2) hpl rfl ?_
  intro p e s m args below meth c s₁ B hml hv
  obtain ⟨rfl, hsz, hP, hK, hD0, hT⟩ := hv
  have hts := atoms_spec (ws := .code M.1 M.2.1 M.2.2.1 M.2.2.2 :: wsG) B.pre
  subst hsz
  rw [lg_entry_eq]
  exact h p e s m _ below meth c (va_A (gpic G σ) s.heap.size) ⟨B.exec, B.bytes, hml, B.returns, B.notSynchronized, findClass_of_methodNamed B.named, fun w hw => hts w (List.mem_cons_of_mem _ hw), hK, fun q hq => Or.inr hq, hT⟩ s.heap [] _ hP hD0.self va_S.rf (lv_entry av hn)
theorem X.mono {Q' : Option Value → Sg → Prop} (h : X G M d pc lv st σ Q') (hq : ∀ v σ, Q' v σ → Q v σ) : X G M d pc lv st σ Q := by
  intro p e s m args below meth c A C H locs ls hP hD hS hl T hT XX
  obtain ⟨t, a, o, b1, b2, ⟨⟨v, σ', c1, c2, c3⟩, c4⟩, b4⟩ := h p e s m args below meth c A C H locs ls hP hD hS hl T hT XX
  exact ⟨t, a, o, b1, b2, ⟨⟨v, σ', c1, hq v σ' c2, c3⟩, c4⟩, b4⟩
theorem x_sub (ks : List Nat) (hk : lv_pick lv ks = lv') (h : X G M d pc lv' st σ Q) : X G M d pc lv st σ Q := by
  intro p e s m args below meth c A C H locs ls hP hD hS hl
  exact h p e s m args below meth c A C H locs ls hP hD hS (lv_sub hl ks hk)

theorem x_iconst {n : Int} {v : Int32} (hv : Int32.ofInt n = v) (hd : decode M.2.1 pc = .ok (.iconst n, 1)) (k : X G M d (pc + 1) lv (.int v :: st) σ Q) : X G M d pc lv (st) σ Q := by
  intro p e s m args below meth c A C H locs ls hP hD hS hl
  exact lv_iconst C.1 C.2.1 hd hv (k p e s m args below meth c A C H locs ls hP hD hS hl)
theorem x_bipush {n : Int} {v : Int32} (hv : (Int8.ofInt n).toInt32 = v) (hd : decode M.2.1 pc = .ok (.bipush n, 2)) (k : X G M d (pc + 2) lv (.int v :: st) σ Q) : X G M d pc lv (st) σ Q := by
  intro p e s m args below meth c A C H locs ls hP hD hS hl
  exact lv_bipush C.1 C.2.1 hd hv (k p e s m args below meth c A C H locs ls hP hD hS hl)
theorem x_sipush {n : Int} {v : Int32} (hv : (Int16.ofInt n).toInt32 = v) (hd : decode M.2.1 pc = .ok (.sipush n, 3)) (k : X G M d (pc + 3) lv (.int v :: st) σ Q) : X G M d pc lv (st) σ Q := by
  intro p e s m args below meth c A C H locs ls hP hD hS hl
  exact lv_sipush C.1 C.2.1 hd hv (k p e s m args below meth c A C H locs ls hP hD hS hl)
theorem x_lconst {n : Fin 2} {v : Int64} (hv : Int64.ofNat (n : Nat) = v) (hd : decode M.2.1 pc = .ok (.lconst n, 1)) (k : X G M d (pc + 1) lv (.long v :: st) σ Q) : X G M d pc lv (st) σ Q := by
  intro p e s m args below meth c A C H locs ls hP hD hS hl
  exact lv_lconst C.1 C.2.1 hd hv (k p e s m args below meth c A C H locs ls hP hD hS hl)
theorem x_iload_n {kk : Fin 4} {i : Nat} {x : Int32} (hi : (kk : Nat) = i) (j : Nat) (hj : lv[j]? = some (i, .int x)) (hd : decode M.2.1 pc = .ok (.iload_n kk, 1)) (k : X G M d (pc + 1) lv (.int x :: st) σ Q) : X G M d pc lv (st) σ Q := by
  intro p e s m args below meth c A C H locs ls hP hD hS hl
  exact lv_iload_n C.1 C.2.1 hd hi (lv_at hl j hj) (k p e s m args below meth c A C H locs ls hP hD hS hl)
theorem x_iload {i : Nat} {x : Int32} (j : Nat) (hj : lv[j]? = some (i, .int x)) (hd : decode M.2.1 pc = .ok (.iload i, 2)) (k : X G M d (pc + 2) lv (.int x :: st) σ Q) : X G M d pc lv (st) σ Q := by
  intro p e s m args below meth c A C H locs ls hP hD hS hl
  exact lv_iload C.1 C.2.1 hd (lv_at hl j hj) (k p e s m args below meth c A C H locs ls hP hD hS hl)
theorem x_lload_n {kk : Fin 4} {i : Nat} {x : Int64} (hi : (kk : Nat) = i) (j : Nat) (hj : lv[j]? = some (i, .long x)) (hd : decode M.2.1 pc = .ok (.lload_n kk, 1)) (k : X G M d (pc + 1) lv (.long x :: st) σ Q) : X G M d pc lv (st) σ Q := by
  intro p e s m args below meth c A C H locs ls hP hD hS hl
  exact lv_lload_n C.1 C.2.1 hd hi (lv_at hl j hj) (k p e s m args below meth c A C H locs ls hP hD hS hl)
theorem x_lload {i : Nat} {x : Int64} (j : Nat) (hj : lv[j]? = some (i, .long x)) (hd : decode M.2.1 pc = .ok (.lload i, 2)) (k : X G M d (pc + 2) lv (.long x :: st) σ Q) : X G M d pc lv (st) σ Q := by
  intro p e s m args below meth c A C H locs ls hP hD hS hl
  exact lv_lload C.1 C.2.1 hd (lv_at hl j hj) (k p e s m args below meth c A C H locs ls hP hD hS hl)
theorem x_aload_n {kk : Fin 4} {i : Nat} {x : Nat} (hi : (kk : Nat) = i) (j : Nat) (hj : lv[j]? = some (i, .ref x)) (hd : decode M.2.1 pc = .ok (.aload_n kk, 1)) (k : X G M d (pc + 1) lv (.ref x :: st) σ Q) : X G M d pc lv (st) σ Q := by
  intro p e s m args below meth c A C H locs ls hP hD hS hl
  exact lv_aload_n C.1 C.2.1 hd hi (lv_at hl j hj) (k p e s m args below meth c A C H locs ls hP hD hS hl)
theorem x_aload {i : Nat} {x : Nat} (j : Nat) (hj : lv[j]? = some (i, .ref x)) (hd : decode M.2.1 pc = .ok (.aload i, 2)) (k : X G M d (pc + 2) lv (.ref x :: st) σ Q) : X G M d pc lv (st) σ Q := by
  intro p e s m args below meth c A C H locs ls hP hD hS hl
  exact lv_aload C.1 C.2.1 hd (lv_at hl j hj) (k p e s m args below meth c A C H locs ls hP hD hS hl)
theorem x_istore_n {kk : Fin 4} {i : Nat} {x : Int32} (hi : (kk : Nat) = i) (hn : i < M.2.2.1) (hl' : (i, Value.int x) :: lv.filter (fun q => !(q.1 == i) && !(q.1 + 1 == i && q.2.category == 2)) = lv') (hd : decode M.2.1 pc = .ok (.istore_n kk, 1)) (k : X G M d (pc + 1) lv' st σ Q) : X G M d pc lv (.int x :: st) σ Q := by
  intro p e s m args below meth c A C H locs ls hP hD hS hl
  exact lv_istore_n C.1 C.2.1 hd hi hl hn hl' (fun ls' h' => k p e s m args below meth c A C H locs ls' hP hD hS h')
theorem x_istore {i : Nat} {x : Int32} (hn : i < M.2.2.1) (hl' : (i, Value.int x) :: lv.filter (fun q => !(q.1 == i) && !(q.1 + 1 == i && q.2.category == 2)) = lv') (hd : decode M.2.1 pc = .ok (.istore i, 2)) (k : X G M d (pc + 2) lv' st σ Q) : X G M d pc lv (.int x :: st) σ Q := by
  intro p e s m args below meth c A C H locs ls hP hD hS hl
  exact lv_istore C.1 C.2.1 hd hl hn hl' (fun ls' h' => k p e s m args below meth c A C H locs ls' hP hD hS h')
theorem x_astore_n {kk : Fin 4} {i : Nat} {x : Nat} (hi : (kk : Nat) = i) (hn : i < M.2.2.1) (hl' : (i, Value.ref x) :: lv.filter (fun q => !(q.1 == i) && !(q.1 + 1 == i && q.2.category == 2)) = lv') (hd : decode M.2.1 pc = .ok (.astore_n kk, 1)) (k : X G M d (pc + 1) lv' st σ Q) : X G M d pc lv (.ref x :: st) σ Q := by
  intro p e s m args below meth c A C H locs ls hP hD hS hl
  exact lv_astore_n C.1 C.2.1 hd hi hl hn hl' (fun ls' h' => k p e s m args below meth c A C H locs ls' hP hD hS h')
theorem x_astore {i : Nat} {x : Nat} (hn : i < M.2.2.1) (hl' : (i, Value.ref x) :: lv.filter (fun q => !(q.1 == i) && !(q.1 + 1 == i && q.2.category == 2)) = lv') (hd : decode M.2.1 pc = .ok (.astore i, 2)) (k : X G M d (pc + 2) lv' st σ Q) : X G M d pc lv (.ref x :: st) σ Q := by
  intro p e s m args below meth c A C H locs ls hP hD hS hl
  exact lv_astore C.1 C.2.1 hd hl hn hl' (fun ls' h' => k p e s m args below meth c A C H locs ls' hP hD hS h')
theorem x_lstore_n {kk : Fin 4} {i : Nat} {x : Int64} (hi : (kk : Nat) = i) (hn : i + 1 < M.2.2.1) (hl' : (i, Value.long x) :: lv.filter (fun q => !(q.1 == i) && (!(q.1 == i + 1) && !(q.1 + 1 == i && q.2.category == 2))) = lv') (hd : decode M.2.1 pc = .ok (.lstore_n kk, 1)) (k : X G M d (pc + 1) lv' st σ Q) : X G M d pc lv (.long x :: st) σ Q := by
  intro p e s m args below meth c A C H locs ls hP hD hS hl
  exact lv_lstore_n C.1 C.2.1 hd hi hl hn hl' (fun ls' h' => k p e s m args below meth c A C H locs ls' hP hD hS h')
theorem x_lstore {i : Nat} {x : Int64} (hn : i + 1 < M.2.2.1) (hl' : (i, Value.long x) :: lv.filter (fun q => !(q.1 == i) && (!(q.1 == i + 1) && !(q.1 + 1 == i && q.2.category == 2))) = lv') (hd : decode M.2.1 pc = .ok (.lstore i, 2)) (k : X G M d (pc + 2) lv' st σ Q) : X G M d pc lv (.long x :: st) σ Q := by
  intro p e s m args below meth c A C H locs ls hP hD hS hl
  exact lv_lstore C.1 C.2.1 hd hl hn hl' (fun ls' h' => k p e s m args below meth c A C H locs ls' hP hD hS h')
theorem x_iinc {i : Nat} {n : Int} {x v : Int32} (j : Nat) (hj : lv[j]? = some (i, .int x)) (hv : x + Int32.ofInt n = v) (hn : i < M.2.2.1) (hl' : (i, Value.int v) :: lv.filter (fun q => !(q.1 == i) && !(q.1 + 1 == i && q.2.category == 2)) = lv') (hd : decode M.2.1 pc = .ok (.iinc i n, 3)) (k : X G M d (pc + 3) lv' st σ Q) : X G M d pc lv st σ Q := by
  intro p e s m args below meth c A C H locs ls hP hD hS hl
  exact lv_iinc C.1 C.2.1 hd hl hj hv hn hl' (fun ls' h' => k p e s m args below meth c A C H locs ls' hP hD hS h')
theorem x_iadd {x y : Int32} (hd : decode M.2.1 pc = .ok (.iadd, 1)) (k : X G M d (pc + 1) lv (.int (x + y) :: st) σ Q) : X G M d pc lv (.int y :: .int x :: st) σ Q := by
  intro p e s m args below meth c A C H locs ls hP hD hS hl
  exact lv_iadd C.1 C.2.1 hd (k p e s m args below meth c A C H locs ls hP hD hS hl)
theorem x_isub {x y : Int32} (hd : decode M.2.1 pc = .ok (.isub, 1)) (k : X G M d (pc + 1) lv (.int (x - y) :: st) σ Q) : X G M d pc lv (.int y :: .int x :: st) σ Q := by
  intro p e s m args below meth c A C H locs ls hP hD hS hl
  exact lv_isub C.1 C.2.1 hd (k p e s m args below meth c A C H locs ls hP hD hS hl)
theorem x_imul {x y : Int32} (hd : decode M.2.1 pc = .ok (.imul, 1)) (k : X G M d (pc + 1) lv (.int (x * y) :: st) σ Q) : X G M d pc lv (.int y :: .int x :: st) σ Q := by
  intro p e s m args below meth c A C H locs ls hP hD hS hl
  exact lv_imul C.1 C.2.1 hd (k p e s m args below meth c A C H locs ls hP hD hS hl)
theorem x_iand {x y : Int32} (hd : decode M.2.1 pc = .ok (.iand, 1)) (k : X G M d (pc + 1) lv (.int (x &&& y) :: st) σ Q) : X G M d pc lv (.int y :: .int x :: st) σ Q := by
  intro p e s m args below meth c A C H locs ls hP hD hS hl
  exact lv_iand C.1 C.2.1 hd (k p e s m args below meth c A C H locs ls hP hD hS hl)
theorem x_idiv {x y : Int32} (hne : ¬ y = 0) (hd : decode M.2.1 pc = .ok (.idiv, 1)) (k : X G M d (pc + 1) lv (.int (x / y) :: st) σ Q) : X G M d pc lv (.int y :: .int x :: st) σ Q := by
  intro p e s m args below meth c A C H locs ls hP hD hS hl
  exact lv_idiv C.1 C.2.1 hd hne (k p e s m args below meth c A C H locs ls hP hD hS hl)
theorem x_irem {x y : Int32} (hne : ¬ y = 0) (hd : decode M.2.1 pc = .ok (.irem, 1)) (k : X G M d (pc + 1) lv (.int (x - x / y * y) :: st) σ Q) : X G M d pc lv (.int y :: .int x :: st) σ Q := by
  intro p e s m args below meth c A C H locs ls hP hD hS hl
  exact lv_irem C.1 C.2.1 hd hne (k p e s m args below meth c A C H locs ls hP hD hS hl)
theorem x_ineg {x : Int32} (hd : decode M.2.1 pc = .ok (.ineg, 1)) (k : X G M d (pc + 1) lv (.int (-x) :: st) σ Q) : X G M d pc lv (.int x :: st) σ Q := by
  intro p e s m args below meth c A C H locs ls hP hD hS hl
  exact lv_ineg C.1 C.2.1 hd (k p e s m args below meth c A C H locs ls hP hD hS hl)
theorem x_land {x y : Int64} (hd : decode M.2.1 pc = .ok (.land, 1)) (k : X G M d (pc + 1) lv (.long (x &&& y) :: st) σ Q) : X G M d pc lv (.long y :: .long x :: st) σ Q := by
  intro p e s m args below meth c A C H locs ls hP hD hS hl
  exact lv_land C.1 C.2.1 hd (k p e s m args below meth c A C H locs ls hP hD hS hl)
theorem x_lor {x y : Int64} (hd : decode M.2.1 pc = .ok (.lor, 1)) (k : X G M d (pc + 1) lv (.long (x ||| y) :: st) σ Q) : X G M d pc lv (.long y :: .long x :: st) σ Q := by
  intro p e s m args below meth c A C H locs ls hP hD hS hl
  exact lv_lor C.1 C.2.1 hd (k p e s m args below meth c A C H locs ls hP hD hS hl)
theorem x_ladd {x y : Int64} (hd : decode M.2.1 pc = .ok (.ladd, 1)) (k : X G M d (pc + 1) lv (.long (x + y) :: st) σ Q) : X G M d pc lv (.long y :: .long x :: st) σ Q := by
  intro p e s m args below meth c A C H locs ls hP hD hS hl
  exact lv_ladd C.1 C.2.1 hd (k p e s m args below meth c A C H locs ls hP hD hS hl)
theorem x_lsub {x y : Int64} (hd : decode M.2.1 pc = .ok (.lsub, 1)) (k : X G M d (pc + 1) lv (.long (x - y) :: st) σ Q) : X G M d pc lv (.long y :: .long x :: st) σ Q := by
  intro p e s m args below meth c A C H locs ls hP hD hS hl
  exact lv_lsub C.1 C.2.1 hd (k p e s m args below meth c A C H locs ls hP hD hS hl)
theorem x_lshl {x : Int64} {y : Int32} (hd : decode M.2.1 pc = .ok (.lshl, 1)) (k : X G M d (pc + 1) lv (.long (x <<< (y.toInt64 &&& 63)) :: st) σ Q) : X G M d pc lv (.int y :: .long x :: st) σ Q := by
  intro p e s m args below meth c A C H locs ls hP hD hS hl
  exact lv_lshl C.1 C.2.1 hd rfl (k p e s m args below meth c A C H locs ls hP hD hS hl)
theorem x_lshr {x : Int64} {y : Int32} (hd : decode M.2.1 pc = .ok (.lshr, 1)) (k : X G M d (pc + 1) lv (.long (x >>> (y.toInt64 &&& 63)) :: st) σ Q) : X G M d pc lv (.int y :: .long x :: st) σ Q := by
  intro p e s m args below meth c A C H locs ls hP hD hS hl
  exact lv_lshr C.1 C.2.1 hd rfl (k p e s m args below meth c A C H locs ls hP hD hS hl)
theorem x_i2l {x : Int32} (hd : decode M.2.1 pc = .ok (.i2l, 1)) (k : X G M d (pc + 1) lv (.long x.toInt64 :: st) σ Q) : X G M d pc lv (.int x :: st) σ Q := by
  intro p e s m args below meth c A C H locs ls hP hD hS hl
  exact lv_i2l C.1 C.2.1 hd rfl (k p e s m args below meth c A C H locs ls hP hD hS hl)
theorem x_l2i {x : Int64} (hd : decode M.2.1 pc = .ok (.l2i, 1)) (k : X G M d (pc + 1) lv (.int x.toInt32 :: st) σ Q) : X G M d pc lv (.long x :: st) σ Q := by
  intro p e s m args below meth c A C H locs ls hP hD hS hl
  exact lv_l2i C.1 C.2.1 hd rfl (k p e s m args below meth c A C H locs ls hP hD hS hl)
theorem x_lcmp {x y : Int64} (hd : decode M.2.1 pc = .ok (.lcmp, 1)) (k : X G M d (pc + 1) lv (.int (lg_cmp x y) :: st) σ Q) : X G M d pc lv (.long y :: .long x :: st) σ Q := by
  intro p e s m args below meth c A C H locs ls hP hD hS hl
  exact W.lcmp C.1 C.2.1 hd (k p e s m args below meth c A C H locs ls hP hD hS hl)
theorem x_dup {va : Value} (hva : va.category = 1) (hd : decode M.2.1 pc = .ok (.dup, 1)) (k : X G M d (pc + 1) lv (va :: va :: st) σ Q) : X G M d pc lv (va :: st) σ Q := by
  intro p e s m args below meth c A C H locs ls hP hD hS hl
  exact lv_dup C.1 C.2.1 hd hva (k p e s m args below meth c A C H locs ls hP hD hS hl)
theorem x_dup_x1 {va vb : Value} (hva : va.category = 1) (hvb : vb.category = 1) (hd : decode M.2.1 pc = .ok (.dup_x1, 1)) (k : X G M d (pc + 1) lv (va :: vb :: va :: st) σ Q) : X G M d pc lv (va :: vb :: st) σ Q := by
  intro p e s m args below meth c A C H locs ls hP hD hS hl
  exact lv_dup_x1 C.1 C.2.1 hd hva hvb (k p e s m args below meth c A C H locs ls hP hD hS hl)
theorem x_dup2 {va vb : Value} (hva : va.category = 1) (hvb : vb.category = 1) (hd : decode M.2.1 pc = .ok (.dup2, 1)) (k : X G M d (pc + 1) lv (va :: vb :: va :: vb :: st) σ Q) : X G M d pc lv (va :: vb :: st) σ Q := by
  intro p e s m args below meth c A C H locs ls hP hD hS hl
  exact lv_dup2_11 C.1 C.2.1 hd hva hvb (k p e s m args below meth c A C H locs ls hP hD hS hl)
theorem x_pop {va : Value} (hva : va.category = 1) (hd : decode M.2.1 pc = .ok (.pop, 1)) (k : X G M d (pc + 1) lv (st) σ Q) : X G M d pc lv (va :: st) σ Q := by
  intro p e s m args below meth c A C H locs ls hP hD hS hl
  exact lv_pop C.1 C.2.1 hd hva (k p e s m args below meth c A C H locs ls hP hD hS hl)
theorem x_ldc2 {idx : Nat} {v : Int64} (hw : Cond.constantLong M.1.cls idx v ∈ wsG) (hd : decode M.2.1 pc = .ok (.ldc2_w idx, 3)) (k : X G M d (pc + 3) lv (.long v :: st) σ Q) : X G M d pc lv (st) σ Q := by
  intro p e s m args below meth c A C H locs ls hP hD hS hl
  exact lv_ldc2 C.1 C.2.1 C.2.2.2.2.2.1 (C.2.2.2.2.2.2.1 _ hw) hd (k p e s m args below meth c A C H locs ls hP hD hS hl)
theorem x_ldc {idx : Nat} {v : Int32} (hw : Cond.constant M.1.cls idx v ∈ wsG) (hd : decode M.2.1 pc = .ok (.ldc idx, 2)) (k : X G M d (pc + 2) lv (.int v :: st) σ Q) : X G M d pc lv (st) σ Q := by
  intro p e s m args below meth c A C H locs ls hP hD hS hl
  exact lv_ldc C.1 C.2.1 C.2.2.2.2.2.1 (C.2.2.2.2.2.2.1 _ hw) hd (k p e s m args below meth c A C H locs ls hP hD hS hl)
theorem x_if_eq {x : Int32} {off : Int} (tgt : Nat) (ht : (pc : Int) + off = (tgt : Int)) (hd : decode M.2.1 pc = .ok (.ifCond .eq off, 3)) (kt : x = 0 → X G M d tgt lv st σ Q) (kf : ¬ (x = 0) → X G M d (pc + 3) lv st σ Q) : X G M d pc lv (.int x :: st) σ Q := by
  intro p e s m args below meth c A C H locs ls hP hD hS hl
  exact lv_if_eq C.1 C.2.1 hd ht (fun h => kt (by first | exact h | simpa using h) p e s m args below meth c A C H locs ls hP hD hS hl) (fun h => kf (by first | exact h | simpa using h) p e s m args below meth c A C H locs ls hP hD hS hl)
theorem x_if_ne {x : Int32} {off : Int} (tgt : Nat) (ht : (pc : Int) + off = (tgt : Int)) (hd : decode M.2.1 pc = .ok (.ifCond .ne off, 3)) (kt : ¬ x = 0 → X G M d tgt lv st σ Q) (kf : ¬ (¬ x = 0) → X G M d (pc + 3) lv st σ Q) : X G M d pc lv (.int x :: st) σ Q := by
  intro p e s m args below meth c A C H locs ls hP hD hS hl
  exact lv_if_ne C.1 C.2.1 hd ht (fun h => kt (by first | exact h | simpa using h) p e s m args below meth c A C H locs ls hP hD hS hl) (fun h => kf (by first | exact h | simpa using h) p e s m args below meth c A C H locs ls hP hD hS hl)
theorem x_if_lt {x : Int32} {off : Int} (tgt : Nat) (ht : (pc : Int) + off = (tgt : Int)) (hd : decode M.2.1 pc = .ok (.ifCond .lt off, 3)) (kt : x < 0 → X G M d tgt lv st σ Q) (kf : ¬ (x < 0) → X G M d (pc + 3) lv st σ Q) : X G M d pc lv (.int x :: st) σ Q := by
  intro p e s m args below meth c A C H locs ls hP hD hS hl
  exact lv_if_lt C.1 C.2.1 hd ht (fun h => kt (by first | exact h | simpa using h) p e s m args below meth c A C H locs ls hP hD hS hl) (fun h => kf (by first | exact h | simpa using h) p e s m args below meth c A C H locs ls hP hD hS hl)
theorem x_if_ge {x : Int32} {off : Int} (tgt : Nat) (ht : (pc : Int) + off = (tgt : Int)) (hd : decode M.2.1 pc = .ok (.ifCond .ge off, 3)) (kt : 0 ≤ x → X G M d tgt lv st σ Q) (kf : ¬ (0 ≤ x) → X G M d (pc + 3) lv st σ Q) : X G M d pc lv (.int x :: st) σ Q := by
  intro p e s m args below meth c A C H locs ls hP hD hS hl
  exact lv_if_ge C.1 C.2.1 hd ht (fun h => kt (by first | exact h | simpa using h) p e s m args below meth c A C H locs ls hP hD hS hl) (fun h => kf (by first | exact h | simpa using h) p e s m args below meth c A C H locs ls hP hD hS hl)
theorem x_if_gt {x : Int32} {off : Int} (tgt : Nat) (ht : (pc : Int) + off = (tgt : Int)) (hd : decode M.2.1 pc = .ok (.ifCond .gt off, 3)) (kt : 0 < x → X G M d tgt lv st σ Q) (kf : ¬ (0 < x) → X G M d (pc + 3) lv st σ Q) : X G M d pc lv (.int x :: st) σ Q := by
  intro p e s m args below meth c A C H locs ls hP hD hS hl
  exact lv_if_gt C.1 C.2.1 hd ht (fun h => kt (by first | exact h | simpa using h) p e s m args below meth c A C H locs ls hP hD hS hl) (fun h => kf (by first | exact h | simpa using h) p e s m args below meth c A C H locs ls hP hD hS hl)
theorem x_if_le {x : Int32} {off : Int} (tgt : Nat) (ht : (pc : Int) + off = (tgt : Int)) (hd : decode M.2.1 pc = .ok (.ifCond .le off, 3)) (kt : x ≤ 0 → X G M d tgt lv st σ Q) (kf : ¬ (x ≤ 0) → X G M d (pc + 3) lv st σ Q) : X G M d pc lv (.int x :: st) σ Q := by
  intro p e s m args below meth c A C H locs ls hP hD hS hl
  exact lv_if_le C.1 C.2.1 hd ht (fun h => kt (by first | exact h | simpa using h) p e s m args below meth c A C H locs ls hP hD hS hl) (fun h => kf (by first | exact h | simpa using h) p e s m args below meth c A C H locs ls hP hD hS hl)
theorem x_icmp_eq {x y : Int32} {off : Int} (tgt : Nat) (ht : (pc : Int) + off = (tgt : Int)) (hd : decode M.2.1 pc = .ok (.if_icmp .eq off, 3)) (kt : x = y → X G M d tgt lv st σ Q) (kf : ¬ (x = y) → X G M d (pc + 3) lv st σ Q) : X G M d pc lv (.int y :: .int x :: st) σ Q := by
  intro p e s m args below meth c A C H locs ls hP hD hS hl
  exact lv_icmp_eq C.1 C.2.1 hd ht (fun h => kt (by first | exact h | simpa using h) p e s m args below meth c A C H locs ls hP hD hS hl) (fun h => kf (by first | exact h | simpa using h) p e s m args below meth c A C H locs ls hP hD hS hl)
theorem x_icmp_ne {x y : Int32} {off : Int} (tgt : Nat) (ht : (pc : Int) + off = (tgt : Int)) (hd : decode M.2.1 pc = .ok (.if_icmp .ne off, 3)) (kt : ¬ x = y → X G M d tgt lv st σ Q) (kf : ¬ (¬ x = y) → X G M d (pc + 3) lv st σ Q) : X G M d pc lv (.int y :: .int x :: st) σ Q := by
  intro p e s m args below meth c A C H locs ls hP hD hS hl
  exact lv_icmp_ne C.1 C.2.1 hd ht (fun h => kt (by first | exact h | simpa using h) p e s m args below meth c A C H locs ls hP hD hS hl) (fun h => kf (by first | exact h | simpa using h) p e s m args below meth c A C H locs ls hP hD hS hl)
theorem x_icmp_lt {x y : Int32} {off : Int} (tgt : Nat) (ht : (pc : Int) + off = (tgt : Int)) (hd : decode M.2.1 pc = .ok (.if_icmp .lt off, 3)) (kt : x < y → X G M d tgt lv st σ Q) (kf : ¬ (x < y) → X G M d (pc + 3) lv st σ Q) : X G M d pc lv (.int y :: .int x :: st) σ Q := by
  intro p e s m args below meth c A C H locs ls hP hD hS hl
  exact lv_icmp_lt C.1 C.2.1 hd ht (fun h => kt (by first | exact h | simpa using h) p e s m args below meth c A C H locs ls hP hD hS hl) (fun h => kf (by first | exact h | simpa using h) p e s m args below meth c A C H locs ls hP hD hS hl)
theorem x_icmp_ge {x y : Int32} {off : Int} (tgt : Nat) (ht : (pc : Int) + off = (tgt : Int)) (hd : decode M.2.1 pc = .ok (.if_icmp .ge off, 3)) (kt : y ≤ x → X G M d tgt lv st σ Q) (kf : ¬ (y ≤ x) → X G M d (pc + 3) lv st σ Q) : X G M d pc lv (.int y :: .int x :: st) σ Q := by
  intro p e s m args below meth c A C H locs ls hP hD hS hl
  exact lv_icmp_ge C.1 C.2.1 hd ht (fun h => kt (by first | exact h | simpa using h) p e s m args below meth c A C H locs ls hP hD hS hl) (fun h => kf (by first | exact h | simpa using h) p e s m args below meth c A C H locs ls hP hD hS hl)
theorem x_icmp_gt {x y : Int32} {off : Int} (tgt : Nat) (ht : (pc : Int) + off = (tgt : Int)) (hd : decode M.2.1 pc = .ok (.if_icmp .gt off, 3)) (kt : y < x → X G M d tgt lv st σ Q) (kf : ¬ (y < x) → X G M d (pc + 3) lv st σ Q) : X G M d pc lv (.int y :: .int x :: st) σ Q := by
  intro p e s m args below meth c A C H locs ls hP hD hS hl
  exact lv_icmp_gt C.1 C.2.1 hd ht (fun h => kt (by first | exact h | simpa using h) p e s m args below meth c A C H locs ls hP hD hS hl) (fun h => kf (by first | exact h | simpa using h) p e s m args below meth c A C H locs ls hP hD hS hl)
theorem x_icmp_le {x y : Int32} {off : Int} (tgt : Nat) (ht : (pc : Int) + off = (tgt : Int)) (hd : decode M.2.1 pc = .ok (.if_icmp .le off, 3)) (kt : x ≤ y → X G M d tgt lv st σ Q) (kf : ¬ (x ≤ y) → X G M d (pc + 3) lv st σ Q) : X G M d pc lv (.int y :: .int x :: st) σ Q := by
  intro p e s m args below meth c A C H locs ls hP hD hS hl
  exact lv_icmp_le C.1 C.2.1 hd ht (fun h => kt (by first | exact h | simpa using h) p e s m args below meth c A C H locs ls hP hD hS hl) (fun h => kf (by first | exact h | simpa using h) p e s m args below meth c A C H locs ls hP hD hS hl)
theorem x_goto {off : Int} (tgt : Nat) (ht : (pc : Int) + off = (tgt : Int)) (hd : decode M.2.1 pc = .ok (.goto off, 3)) (k : X G M d tgt lv st σ Q) : X G M d pc lv st σ Q := by
  intro p e s m args below meth c A C H locs ls hP hD hS hl
  exact lv_goto C.1 C.2.1 hd ht (k p e s m args below meth c A C H locs ls hP hD hS hl)
theorem x_tblIn {x : Int32} {dflt lo hi off : Int} {offs : Array Int} {len : Nat} (v : Int32) (tgt : Nat) (hx : x = v) (hd : decode M.2.1 pc = .ok (.tableswitch dflt lo hi offs, len)) (h1 : ¬ v.toInt < lo) (h2 : ¬ hi < v.toInt) (ho : offs[(v.toInt - lo).toNat]? = some off) (ht : (pc : Int) + off = (tgt : Int)) (k : X G M d tgt lv st σ Q) : X G M d pc lv (.int x :: st) σ Q := by
  subst hx
  intro p e s m args below meth c A C H locs ls hP hD hS hl
  exact lv_tableIn C.1 C.2.1 hd h1 h2 ho ht (k p e s m args below meth c A C H locs ls hP hD hS hl)
theorem tbl_out {x : Int32} {lo hi : Int} (vs : List Int32) (hv : ∀ i : Int, lo ≤ i → i ≤ hi → Int32.ofInt i ∈ vs) (h : ∀ v ∈ vs, ¬ x = v) : x.toInt < lo ∨ hi < x.toInt := by
  by_cases h1 : x.toInt < lo
  · exact Or.inl h1
  · by_cases h2 : hi < x.toInt
    · exact Or.inr h2
    · have := hv x.toInt (by omega) (by omega)
      rw [Int32.ofInt_toInt] at this
      exact absurd rfl (h x this)
theorem tbl_vs {lo hi : Int} {vs : List Int32} (n : Nat) (hn : lo + n = hi + 1) (h : (List.range n).all (fun k => decide (Int32.ofInt (lo + k) ∈ vs)) = true) : ∀ i : Int, lo ≤ i → i ≤ hi → Int32.ofInt i ∈ vs := by
  intro i h1 h2
  have := List.all_eq_true.mp h (i - lo).toNat (List.mem_range.mpr (by omega))
  have e : lo + ((i - lo).toNat : Int) = i := by omega
  have this := of_decide_eq_true this
  rwa [e] at this
theorem x_tblOut {x : Int32} {dflt lo hi : Int} {offs : Array Int} {len : Nat} (vs : List Int32) (n tgt : Nat) (hn : lo + n = hi + 1) (hv : (List.range n).all (fun k => decide (Int32.ofInt (lo + k) ∈ vs)) = true) (hx : ∀ v ∈ vs, ¬ x = v) (hd : decode M.2.1 pc = .ok (.tableswitch dflt lo hi offs, len)) (ht : (pc : Int) + dflt = (tgt : Int)) (k : X G M d tgt lv st σ Q) : X G M d pc lv (.int x :: st) σ Q := by
  intro p e s m args below meth c A C H locs ls hP hD hS hl
  exact lv_tableOut C.1 C.2.1 hd (tbl_out vs (tbl_vs n hn hv) hx) ht (k p e s m args below meth c A C H locs ls hP hD hS hl)
theorem x_lookIn {x : Int32} {dflt off : Int} {ps : Array (Int × Int)} {len : Nat} (v : Int32) (tgt : Nat) (hx : x = v) (hd : decode M.2.1 pc = .ok (.lookupswitch dflt ps, len)) (hp : (ps.toList.zip (ps.toList.drop 1)).all (fun (a, next) => a.1 < next.1) = true) (ho : Op.lookupswitch.offset ps.toList dflt v.toInt = off) (ht : (pc : Int) + off = (tgt : Int)) (k : X G M d tgt lv st σ Q) : X G M d pc lv (.int x :: st) σ Q := by
  subst hx
  intro p e s m args below meth c A C H locs ls hP hD hS hl
  exact lv_lookup C.1 C.2.1 hd hp ho ht (k p e s m args below meth c A C H locs ls hP hD hS hl)
theorem x_lookOut {x : Int32} {dflt : Int} {ps : Array (Int × Int)} {len : Nat} (tgt : Nat) (hd : decode M.2.1 pc = .ok (.lookupswitch dflt ps, len)) (hp : (ps.toList.zip (ps.toList.drop 1)).all (fun (a, next) => a.1 < next.1) = true) (ho : Op.lookupswitch.offset ps.toList dflt x.toInt = dflt) (ht : (pc : Int) + dflt = (tgt : Int)) (k : X G M d tgt lv st σ Q) : X G M d pc lv (.int x :: st) σ Q := by
  intro p e s m args below meth c A C H locs ls hP hD hS hl
  exact lv_lookup C.1 C.2.1 hd hp ho ht (k p e s m args below meth c A C H locs ls hP hD hS hl)
/-- a class of the layout: its place in vwCl, its fields' words, types, names -/
def KC (ci : Nat) (C : String) (T : u_T) (N : Nat) (ty : Nat → FieldType) : Prop := vwCl[ci]? = some (C, T, N) ∧ (∀ w ∈ u_ws C T N, w ∈ wsG) ∧ (∀ k, k < N → parseFieldDescriptor (T k).2.2.1 = some (ty k)) ∧ (∀ a, a < N → ∀ b, b < N → a ≠ b → (T a).2.1 ≠ (T b).2.1)
/-- the field f, of kind t, of the object at o, as the entry idx of own names it -/
def FG (Ly : List Ds) (own : String) (idx o f t : Nat) : Prop := ∃ (ci : Nat) (C : String) (T : u_T) (N : Nat) (ty : Nat → FieldType) (ts : List Nat), KC ci C T N ty ∧ Ly[o]? = some (0, ci, ts) ∧ ts[f]? = some t ∧ f < N ∧ Cond.fieldLink own idx (T f).1 (T f).2.1 (T f).2.2.1 ∈ wsG
def FP (Ly : List Ds) (own : String) (idx o f t : Nat) : Prop := ∃ (ci : Nat) (C : String) (T : u_T) (N : Nat) (ty : Nat → FieldType) (ts : List Nat), KC ci C T N ty ∧ Ly[o]? = some (0, ci, ts) ∧ ts[f]? = some t ∧ f < N ∧ Cond.fieldLink own idx (T f).1 (T f).2.1 (T f).2.2.1 ∈ wsG ∧ (T f).2.2.2 = false ∧ ty f = (if t = 0 then .int else .long)
theorem x_get {Ly : List Ds} {idx o f t : Nat} (hG : gLy G = Ly) (hs : FG Ly M.1.cls idx o f t) (hd : decode M.2.1 pc = .ok (.getfield idx, 3)) (k : X G M d (pc + 3) lv (fV (gad G) σ o f t :: st) σ Q) : X G M d pc lv (.ref (gad G o) :: st) σ Q := by
  obtain ⟨ci, C', T, N, ty, ts, ⟨k1, k2, k3, k4⟩, h1, h2, h3, h4⟩ := hs
  subst hG
  intro p e s m args below meth c A C H locs ls hP hD hS hl
  exact va_get C.1 C.2.1 C.2.2.2.2.2.2.1 k2 C.2.2.2.2.2.1 C.2.2.2.2.2.2.2.1 hP o (pic_at h1) k1 f h3 (C.2.2.2.2.2.2.1 _ h4) (fun _ h => h) (fs_at h2) hd (k p e s m args below meth c A C H locs ls hP hD hS hl)
theorem x_getI {Ly : List Ds} {idx o f : Nat} (hG : gLy G = Ly) (hs : FG Ly M.1.cls idx o f 0) (hd : decode M.2.1 pc = .ok (.getfield idx, 3)) (k : X G M d (pc + 3) lv (.int (sI σ o f) :: st) σ Q) : X G M d pc lv (.ref (gad G o) :: st) σ Q := x_get hG hs hd k
theorem x_getL {Ly : List Ds} {idx o f : Nat} (hG : gLy G = Ly) (hs : FG Ly M.1.cls idx o f 1) (hd : decode M.2.1 pc = .ok (.getfield idx, 3)) (k : X G M d (pc + 3) lv (.long (sL σ o f) :: st) σ Q) : X G M d pc lv (.ref (gad G o) :: st) σ Q := x_get hG hs hd k
theorem x_getR {Ly : List Ds} {idx o f q : Nat} (hG : gLy G = Ly) (hs : FG Ly M.1.cls idx o f (q + 2)) (hd : decode M.2.1 pc = .ok (.getfield idx, 3)) (k : X G M d (pc + 3) lv (.ref (gad G q) :: st) σ Q) : X G M d pc lv (.ref (gad G o) :: st) σ Q := x_get hG hs hd k
theorem x_putI {Ly : List Ds} {idx o f : Nat} {v : Int32} (hG : gLy G = Ly) (hs : FP Ly M.1.cls idx o f 0) (hd : decode M.2.1 pc = .ok (.putfield idx, 3)) (k : X G M d (pc + 3) lv st (wI σ o f v) Q) : X G M d pc lv (.int v :: .ref (gad G o) :: st) σ Q := by
  obtain ⟨ci, C', T, N, ty, ts, ⟨k1, k2, k3, k4⟩, h1, h2, h3, h4, h5, h6⟩ := hs
  subst hG
  intro p e s m args below meth c A C H locs ls hP hD hS hl
  refine va_put C.1 C.2.1 C.2.2.2.2.2.2.1 k2 ty k3 k4 C.2.2.2.2.2.1 C.2.2.2.2.2.2.2.1 hP hD hS o (pic_at h1) k1 f h3 (C.2.2.2.2.2.2.1 _ h4) (fun _ h => h) h5 (ty := .int) (by rw [k3 f h3, h6]; rfl) rfl rfl (by rw [List.length_mapIdx]; exact (List.getElem?_eq_some_iff.mp h2).1) hd (fun H1 locs1 hP1 hD1 hS1 => ?_)
  rw [pic_fI h1 h2] at hP1 hD1
  exact k p e s m args below meth c A C H1 locs1 ls hP1 hD1 hS1 hl
theorem x_putL {Ly : List Ds} {idx o f : Nat} {v : Int64} (hG : gLy G = Ly) (hs : FP Ly M.1.cls idx o f 1) (hd : decode M.2.1 pc = .ok (.putfield idx, 3)) (k : X G M d (pc + 3) lv st (wL σ o f v) Q) : X G M d pc lv (.long v :: .ref (gad G o) :: st) σ Q := by
  obtain ⟨ci, C', T, N, ty, ts, ⟨k1, k2, k3, k4⟩, h1, h2, h3, h4, h5, h6⟩ := hs
  subst hG
  intro p e s m args below meth c A C H locs ls hP hD hS hl
  refine va_put C.1 C.2.1 C.2.2.2.2.2.2.1 k2 ty k3 k4 C.2.2.2.2.2.1 C.2.2.2.2.2.2.2.1 hP hD hS o (pic_at h1) k1 f h3 (C.2.2.2.2.2.2.1 _ h4) (fun _ h => h) h5 (ty := .long) (by rw [k3 f h3, h6]; rfl) rfl rfl (by rw [List.length_mapIdx]; exact (List.getElem?_eq_some_iff.mp h2).1) hd (fun H1 locs1 hP1 hD1 hS1 => ?_)
  rw [pic_fL h1 h2] at hP1 hD1
  exact k p e s m args below meth c A C H1 locs1 ls hP1 hD1 hS1 hl
theorem x_iald {Ly : List Ds} {o n : Nat} {x : List Nat} {i : Int32} (hG : gLy G = Ly) (ho : Ly[o]? = some (1, n, x)) (hd : decode M.2.1 pc = .ok (.iaload, 1)) (hin : vp_in i n) (k : X G M d (pc + 1) lv (.int (sI σ o i.toNatClampNeg) :: st) σ Q) : X G M d pc lv (.int i :: .ref (gad G o) :: st) σ Q := by
  subst hG
  intro p e s m args below meth c A C H locs ls hP hD hS hl
  exact va_iald C.1 C.2.1 C.2.2.2.2.2.2.2.1 hP o o (pic_at ho) (tys_at ho) hin hd (k p e s m args below meth c A C H locs ls hP hD hS hl)
theorem x_lald {Ly : List Ds} {o n : Nat} {x : List Nat} {i : Int32} (hG : gLy G = Ly) (ho : Ly[o]? = some (2, n, x)) (hd : decode M.2.1 pc = .ok (.laload, 1)) (hin : vp_in i n) (k : X G M d (pc + 1) lv (.long (sL σ o i.toNatClampNeg) :: st) σ Q) : X G M d pc lv (.int i :: .ref (gad G o) :: st) σ Q := by
  subst hG
  intro p e s m args below meth c A C H locs ls hP hD hS hl
  exact va_lald C.1 C.2.1 C.2.2.2.2.2.2.2.1 hP o o (pic_at ho) (tys_at ho) hin hd (k p e s m args below meth c A C H locs ls hP hD hS hl)
theorem x_iast {Ly : List Ds} {o n : Nat} {x : List Nat} {i v : Int32} (hG : gLy G = Ly) (ho : Ly[o]? = some (1, n, x)) (hd : decode M.2.1 pc = .ok (.iastore, 1)) (hin : vp_in i n) (k : X G M d (pc + 1) lv st (wI σ o i.toNatClampNeg v) Q) : X G M d pc lv (.int v :: .int i :: .ref (gad G o) :: st) σ Q := by
  subst hG
  intro p e s m args below meth c A C H locs ls hP hD hS hl
  refine va_iast C.1 C.2.1 C.2.2.2.2.2.2.2.1 hP hD hS o o (pic_at ho) (tys_at ho) hin hd (fun H1 locs1 hP1 hD1 hS1 => ?_)
  rw [pic_aI ho] at hP1 hD1
  exact k p e s m args below meth c A C H1 locs1 ls hP1 hD1 hS1 hl
theorem x_last {Ly : List Ds} {o n : Nat} {x : List Nat} {i : Int32} {v : Int64} (hG : gLy G = Ly) (ho : Ly[o]? = some (2, n, x)) (hd : decode M.2.1 pc = .ok (.lastore, 1)) (hin : vp_in i n) (k : X G M d (pc + 1) lv st (wL σ o i.toNatClampNeg v) Q) : X G M d pc lv (.long v :: .int i :: .ref (gad G o) :: st) σ Q := by
  subst hG
  intro p e s m args below meth c A C H locs ls hP hD hS hl
  refine va_last C.1 C.2.1 C.2.2.2.2.2.2.2.1 hP hD hS o o (pic_at ho) (tys_at ho) hin hd (fun H1 locs1 hP1 hD1 hS1 => ?_)
  rw [pic_aL ho] at hP1 hD1
  exact k p e s m args below meth c A C H1 locs1 ls hP1 hD1 hS1 hl
theorem x_alenI {Ly : List Ds} {o n : Nat} {x : List Nat} {v : Int32} (hG : gLy G = Ly) (ho : Ly[o]? = some (1, n, x)) (hv : Int32.ofNat n = v) (hd : decode M.2.1 pc = .ok (.arraylength, 1)) (k : X G M d (pc + 1) lv (.int v :: st) σ Q) : X G M d pc lv (.ref (gad G o) :: st) σ Q := by
  subst hG
  intro p e s m args below meth c A C H locs ls hP hD hS hl
  exact va_alen C.1 C.2.1 C.2.2.2.2.2.2.2.1 hP o o (pic_at ho) (tys_at ho) hv hd (k p e s m args below meth c A C H locs ls hP hD hS hl)
theorem x_alenL {Ly : List Ds} {o n : Nat} {x : List Nat} {v : Int32} (hG : gLy G = Ly) (ho : Ly[o]? = some (2, n, x)) (hv : Int32.ofNat n = v) (hd : decode M.2.1 pc = .ok (.arraylength, 1)) (k : X G M d (pc + 1) lv (.int v :: st) σ Q) : X G M d pc lv (.ref (gad G o) :: st) σ Q := by
  subst hG
  intro p e s m args below meth c A C H locs ls hP hD hS hl
  exact va_alen C.1 C.2.1 C.2.2.2.2.2.2.2.1 hP o o (pic_at ho) (tys_at ho) hv hd (k p e s m args below meth c A C H locs ls hP hD hS hl)
theorem x_getsM {idx : Nat} (hw : Cond.fieldLink M.1.cls idx "SideWork$Acts" "MEANINGS" "[I" ∈ wsG) (hd : decode M.2.1 pc = .ok (.getstatic idx, 3)) (k : X G M d (pc + 3) lv (.ref (gtM G) :: st) σ Q) : X G M d pc lv st σ Q := by
  intro p e s m args below meth c A C H locs ls hP hD hS hl
  exact va_gets C.1 C.2.1 C.2.2.2.2.2.2.2.2.2.1 hS C.2.2.2.2.2.1 (C.2.2.2.2.2.2.1 _ hw) (fun _ h => h) hd (k p e s m args below meth c A C H locs ls hP hD hS hl)
theorem x_getsG {idx : Nat} (hw : Cond.fieldLink M.1.cls idx "SideWork$Acts" "GREATEST" "[I" ∈ wsG) (hd : decode M.2.1 pc = .ok (.getstatic idx, 3)) (k : X G M d (pc + 3) lv (.ref (gtG G) :: st) σ Q) : X G M d pc lv st σ Q := by
  intro p e s m args below meth c A C H locs ls hP hD hS hl
  exact va_gets C.1 C.2.1 C.2.2.2.2.2.2.2.2.2.2.2.1 hS C.2.2.2.2.2.1 (C.2.2.2.2.2.2.1 _ hw) (fun _ h => h) hd (k p e s m args below meth c A C H locs ls hP hD hS hl)
theorem x_tbM {i : Int32} (hd : decode M.2.1 pc = .ok (.iaload, 1)) (hin : vp_in i 96) (k : X G M d (pc + 1) lv (.int (tbM i.toNatClampNeg) :: st) σ Q) : X G M d pc lv (.int i :: .ref (gtM G) :: st) σ Q := by
  intro p e s m args below meth c A C H locs ls hP hD hS hl
  exact va_ti C.1 C.2.1 C.2.2.2.2.2.2.2.2.2.2.1 hS hin rfl hd (k p e s m args below meth c A C H locs ls hP hD hS hl)
theorem x_tbG {i : Int32} (hd : decode M.2.1 pc = .ok (.iaload, 1)) (hin : vp_in i 7) (k : X G M d (pc + 1) lv (.int (tbG i.toNatClampNeg) :: st) σ Q) : X G M d pc lv (.int i :: .ref (gtG G) :: st) σ Q := by
  intro p e s m args below meth c A C H locs ls hP hD hS hl
  exact va_ti C.1 C.2.1 C.2.2.2.2.2.2.2.2.2.2.2.2 hS hin rfl hd (k p e s m args below meth c A C H locs ls hP hD hS hl)
theorem x_iret {v : Int32} (hr : M.2.2.2 = some .int) (hd : decode M.2.1 pc = .ok (.ireturn, 1)) (hq : Q (some (.int v)) σ) : X G M d pc lv [.int v] σ Q := by
  intro p e s m args below meth c A C H locs ls hP hD hS hl
  exact W.iret C.1 C.2.1 (C.2.2.2.1.trans hr) (fun t ht hw => ⟨⟨_, σ, rfl, hq, by rw [ht]; exact hP, va_K.moved hw.alike C.2.2.2.2.2.2.2.1, hD⟩, hS.F ht⟩) hS.2.2 hd C.2.2.2.2.1
theorem x_zret {v : Int32} (hr : M.2.2.2 = some .boolean) (hn : narrow .boolean (.int v) = .int v) (hd : decode M.2.1 pc = .ok (.ireturn, 1)) (hq : Q (some (.int v)) σ) : X G M d pc lv [.int v] σ Q := by
  intro p e s m args below meth c A C H locs ls hP hD hS hl
  exact W.zret C.1 C.2.1 (C.2.2.2.1.trans hr) hn (fun t ht hw => ⟨⟨_, σ, rfl, hq, by rw [ht]; exact hP, va_K.moved hw.alike C.2.2.2.2.2.2.2.1, hD⟩, hS.F ht⟩) hS.2.2 hd C.2.2.2.2.1
theorem x_lret {v : Int64} (hr : M.2.2.2 = some .long) (hd : decode M.2.1 pc = .ok (.lreturn, 1)) (hq : Q (some (.long v)) σ) : X G M d pc lv [.long v] σ Q := by
  intro p e s m args below meth c A C H locs ls hP hD hS hl
  exact W.lret C.1 C.2.1 (C.2.2.2.1.trans hr) (fun t ht hw => ⟨⟨_, σ, rfl, hq, by rw [ht]; exact hP, va_K.moved hw.alike C.2.2.2.2.2.2.2.1, hD⟩, hS.F ht⟩) hS.2.2 hd C.2.2.2.2.1
theorem x_vret (hr : M.2.2.2 = none) (hd : decode M.2.1 pc = .ok (.return_, 1)) (hq : Q none σ) : X G M d pc lv [] σ Q := by
  intro p e s m args below meth c A C H locs ls hP hD hS hl
  exact W.vret C.1 C.2.1 (C.2.2.2.1.trans hr) (fun t ht hw => ⟨⟨_, σ, rfl, hq, by rw [ht]; exact hP, va_K.moved hw.alike C.2.2.2.2.2.2.2.1, hD⟩, hS.F ht⟩) hS.2.2 hd C.2.2.2.2.1
/-! calls -/
def MK (M' : Mi) (n : Nat) : Prop := (M'.1.cls ≠ "java/lang/invoke/MethodHandle" ∧ M'.1.cls ≠ "java/lang/invoke/VarHandle" ∧ (parseMethodDescriptor M'.1.desc).map (fun d => d.parameters.length) = some n) ∧ Cond.code M'.1 M'.2.1 M'.2.2.1 M'.2.2.2 ∈ wsG ∧ Cond.initialized M'.1.cls ∈ wsG
def MV (M' : Mi) (n : Nat) : Prop := MK M' n ∧ Cond.instanceMethod M'.1 ∈ wsG ∧ Cond.selects M'.1.cls M'.1 M'.1 ∈ wsG
def MS (M' : Mi) (n : Nat) : Prop := MK M' n ∧ Cond.static M'.1 ∈ wsG
theorem goodG {ws : List Cond} (h : ∀ w ∈ ws, w ∈ wsG) : GoodIn wsG ws := fun w hw => ⟨h w hw, good_of_word (wsG_in (h w hw)).2⟩
theorem x_back {p : Program} {e : Env} {s : State} {m : MethodId} {args : Array Value} {below : List Frame} {meth : Method} {c : Code} {A : Nat → Prop} {H : Heap} {locs : List Loc} {ls : Array Slot} {Q' : Option Value → Sg → Prop} {a : Array Value} {rest stk : List Value}
    (C : XC G M p s m args meth c A) (hP : va_P G.2.1 vwCl (gpic G σ) H) (hD : va_D A (gpic G σ)) (hS : va_S A s.heap H locs) (hl : lv_has ls M.2.2.1 lv)
    (hr : va_Run p G.1 e (rmd d) s m args below meth c H locs 0 0 0 0 (F0 m pc ls stk) rest (Qx G Q' (va_A (gpic G σ) H.size) a) (va_A (gpic G σ) H.size))
    (k : ∀ (v : Option Value) (σ' : Sg), Q' v σ' → X G M d (pc + 3) lv (v.toList ++ rest) σ' Q) :
    W p G.1 e (rmd d) s m args below meth c H locs 0 0 (MQ below (Qx G Q A) args s 0 0 A) (F0 m pc ls stk) := by
  have hF : ∀ q, va_A (gpic G σ) H.size q → A q := by
    intro q h
    rcases h with ⟨i, e', h⟩ | h
    · exact hD.2 i (q, e') h
    · exact C.2.2.2.2.2.2.2.2.1 q (Nat.le_trans hS.1 h)
  intro T hT XX
  obtain ⟨v, st₀, t, T', L, h0, X', hL, e1, e2, ⟨⟨v', σ', hv, hq, hP1, hK1, hD1⟩, hz, hk⟩, stp⟩ := hr T hT XX
  cases hv
  rw [h0] at hz hk
  have hS1 : va_S A s.heap T'.heap (locs ++ L) := ⟨Nat.le_trans hS.1 (by rw [e1]; exact hz), fun q h1 h2 => by rw [e1, hk q (Nat.lt_of_lt_of_le h1 hS.1) (fun z => h2 (hF q z))]; exact hS.2.1 q h1 h2, fun q hq => by
      rcases List.mem_append.mp hq with h | h
      · exact hS.2.2 q h
      · exact hF _ (hL q h)⟩
  obtain ⟨t2, a1, b1⟩ := k v σ' hq p e s m args below meth c A C T'.heap (locs ++ L) ls (by rw [e1]; exact hP1) (hD1.weaken (fun i q _ h => hF _ h)) hS1 hl T' rfl X'
  exact ⟨t2, stp t2 a1, b1⟩
theorem x_pre {p : Program} {s : State} {m : MethodId} {args : Array Value} {meth : Method} {c : Code} {A : Nat → Prop} {H : Heap} {locs : List Loc} {av : List Value} (C : XC G M p s m args meth c A) (hP : va_P G.2.1 vwCl (gpic G σ) H) (hD : va_D A (gpic G σ)) (hS : va_S A s.heap H locs) :
    PreS s H (va_Pc av (fun U => U.heap.size = H.size ∧ va_P G.2.1 vwCl (gpic G σ) U.heap ∧ va_K G.2.1 vwCl (gtys G) U ∧ va_D (fun _ => True) (gpic G σ) ∧ sMG G (va_A (gpic G σ) H.size) U U.heap)) av := by
  refine ⟨fun a U g mk q => ?_, fun U hU hW => ⟨rfl, by rw [hU], by rw [hU]; exact hP, va_K.moved hW.alike C.2.2.2.2.2.2.2.1, hD.weaken (fun _ _ _ _ => trivial), ?_⟩⟩
  · obtain ⟨q0, q1, qP, qK, qD, qS⟩ := q
    exact ⟨q0, q1, qP, va_K.moved (u := U) (U := U.calling g mk a) (Vm.Alike.refl U.vm) qK, qD, sMG.moved (u := U) (U := U.calling g mk a) (Vm.Alike.refl U.vm) qS⟩
  · have hF : ∀ q, va_A (gpic G σ) H.size q → A q := by
      intro q h
      rcases h with ⟨i, e', h⟩ | h
      · exact hD.2 i (q, e') h
      · exact C.2.2.2.2.2.2.2.2.1 q (Nat.le_trans hS.1 h)
    rw [hU]
    exact ((C.2.2.2.2.2.2.2.2.2.kept (H1 := H) (fun a h1 h2 => hS.2.1 a h1 h2)).narrow hF).moved hW.alike
theorem x_callV {Ly : List Ds} {M' : Mi} {o ci idx n d' : Nat} {ts : List Nat} (av : List Value) {rest stk : List Value} {Q' : Option Value → Sg → Prop} (hG : gLy G = Ly) (hs : MV M' n) (hlk : Cond.methodLink M.1.cls idx M'.1 ∈ wsG) (hob : Ly[o]? = some (0, ci, ts)) (hcl : (vwCl[ci]?).map (fun q => q.1) = some M'.1.cls) (hn : av.length = n) (hR : d' + 1 ≤ d ∧ M'.2.2.1 ≤ 41) (hst : stk = av.reverse ++ .ref (gad G o) :: rest) (hW : (rest.map fun v => v.category).sum ≤ 8)
    (hd : decode M.2.1 pc = .ok (.invokevirtual idx, 3)) (hct : CT G M' d' (.ref (gad G o) :: av) σ Q') (k : ∀ (v : Option Value) (σ' : Sg), Q' v σ' → X G M d (pc + 3) lv (v.toList ++ rest) σ' Q) : X G M d pc lv stk σ Q := by
  obtain ⟨⟨hk1, hk2, hk3⟩, hk4, hk5⟩ := hs
  subst hG
  subst hst
  intro p e s m args below meth c A C H locs ls hP hD hS hl
  obtain ⟨q, hq1, hq2⟩ := Option.map_eq_some_iff.mp hcl
  have hp := x_pre (av := .ref (gad G o) :: av) C hP hD hS
  refine x_back C hP hD hS hl (va_runV (As := av) (rest := rest) (nL := M.2.2.1) (own := M.1.cls) (C := M'.1.cls) (Ts := wsG) ⟨C.1, C.2.1, C.2.2.1, C.2.2.2.2.2.1, C.2.2.2.2.2.2.1⟩ (hct H.size) (cwV (ws' := wsG) n C.2.2.2.2.2.2.1 (goodG (fun w hw => ?_)) rfl rfl rfl ⟨rfl, hk1⟩ ⟨hR.1, ?_⟩) ⟨hp.1, hq2 ▸ va_recv C.2.2.2.2.2.2.2.1 hP hq1 (pic_at hob), hp.2⟩ rfl hn hl.1 rfl (lv_room hW) hd ⟨Nat.le_refl 0, Nat.le_refl 0⟩) k
  · simp only [wsV, List.mem_append, List.mem_cons, List.not_mem_nil, or_false] at hw
    rcases hw with (rfl | rfl | rfl | rfl) | rfl | hw
    · exact hlk
    · exact hk4
    · exact hk5
    · exact hk3
    · exact hk2
    · exact hw
  · show 8 + (M'.2.2.1 + 11) + 60 * d' ≤ 60 * d
    omega
theorem x_callS {M' : Mi} {idx n d' : Nat} (av : List Value) {rest stk : List Value} {Q' : Option Value → Sg → Prop} (hs : MS M' n) (hlk : Cond.methodLink M.1.cls idx M'.1 ∈ wsG) (hn : av.length = n) (hR : d' + 1 ≤ d ∧ M'.2.2.1 ≤ 41) (hst : stk = av.reverse ++ rest) (hW : (rest.map fun v => v.category).sum ≤ 8)
    (hd : decode M.2.1 pc = .ok (.invokestatic idx, 3)) (hct : CT G M' d' av σ Q') (k : ∀ (v : Option Value) (σ' : Sg), Q' v σ' → X G M d (pc + 3) lv (v.toList ++ rest) σ' Q) : X G M d pc lv stk σ Q := by
  obtain ⟨⟨hk1, hk2, hk3⟩, hk4⟩ := hs
  subst hst
  intro p e s m args below meth c A C H locs ls hP hD hS hl
  have hp := x_pre (av := av) C hP hD hS
  refine x_back C hP hD hS hl (va_runS (As := av) (rest := rest) (nL := M.2.2.1) (own := M.1.cls) (Ts := wsG) ⟨C.1, C.2.1, C.2.2.1, C.2.2.2.2.2.1, C.2.2.2.2.2.2.1⟩ (hct H.size) (va_cwS (ws' := wsG) n C.2.2.2.2.2.2.1 (goodG (fun w hw => ?_)) rfl rfl rfl hk1 ⟨hR.1, ?_⟩) hp rfl hn hl.1 rfl (lv_room hW) hd ⟨Nat.le_refl 0, Nat.le_refl 0⟩) k
  · simp only [va_wsS, List.mem_append, List.mem_cons, List.not_mem_nil, or_false] at hw
    rcases hw with (rfl | rfl | rfl) | rfl | hw
    · exact hlk
    · exact hk4
    · exact hk3
    · exact hk2
    · exact hw
  · show 8 + (M'.2.2.1 + 11) + 60 * d' ≤ 60 * d
    omega
theorem x_mmin {idx : Nat} {x y : Int32} (h1 : Cond.methodLink M.1.cls idx Lib.Math.min.name ∈ wsG) (h2 : Cond.static Lib.Math.min.name ∈ wsG) (h3 : Cond.initialized "java/lang/Math" ∈ wsG) (h4 : Cond.code Lib.Math.min.name Lib.Math.min.code 2 (some .int) ∈ wsG) (hR : 1 ≤ d) (hW : (st.map fun v => v.category).sum ≤ 8) (hd : decode M.2.1 pc = .ok (.invokestatic idx, 3)) (k : X G M d (pc + 3) lv (.int (if y < x then y else x) :: st) σ Q) : X G M d pc lv (.int y :: .int x :: st) σ Q := by
  intro p e s m args below meth c A C H locs ls hP hD hS hl
  exact va_mmin C.1 C.2.1 (C.2.2.1.trans hl.1.symm) C.2.2.2.2.2.1 (C.2.2.2.2.2.2.1 _ h1) (C.2.2.2.2.2.2.1 _ h2) (C.2.2.2.2.2.2.1 _ h3) (C.2.2.2.2.2.2.1 _ h4) hR (by show _ + 13 ≤ 60 * d; omega) (Nat.le_refl 0) (Nat.le_refl 0) hd (k p e s m args below meth c A C H locs ls hP hD hS hl)
end XR
/-! answers: an int, a long, none -/
def qi (Q : Int32 → Sg → Prop) : Option Value → Sg → Prop := fun v σ => ∃ r : Int32, v = some (.int r) ∧ Q r σ
def ql (Q : Int64 → Sg → Prop) : Option Value → Sg → Prop := fun v σ => ∃ r : Int64, v = some (.long r) ∧ Q r σ
def qv (Q : Sg → Prop) : Option Value → Sg → Prop := fun v σ => v = none ∧ Q σ
def bz (v : Int32) : Prop := narrow .boolean (.int v) = .int v
theorem bz_0 : bz 0 := rfl
theorem bz_1 : bz 1 := rfl
end
