-- ===== PART A: goes FIRST, ahead of the names: the tables' words, and 'selects' of the private methods out of them =====
/-- a private method of a class that the tables say can be made, by its rows of tables_1 -/
def lw_okq (q : MethodName × Nat) : Prop := (q.1.cls ≠ "java/lang/invoke/MethodHandle" ∧ q.1.cls ≠ "java/lang/invoke/VarHandle") ∧ Cond.instantiable q.1.cls q.2 ∈ tables_1 ∧ Cond.privateMethod q.1 ∈ tables_1 ∧ Cond.instanceMethod q.1 ∈ tables_1
set_option maxRecDepth 100000 in
theorem lw_p0 : lw_okq (⟨"HookPier", "refused", "(I)Z"⟩, 10) := ⟨⟨by decide +kernel, by decide +kernel⟩, List.mem_of_getElem? (i := 26) rfl, List.mem_of_getElem? (i := 365) rfl, List.mem_of_getElem? (i := 366) rfl⟩
set_option maxRecDepth 100000 in
theorem lw_p1 : lw_okq (⟨"HookPier$Reader", "advance", "()V"⟩, 12) := ⟨⟨by decide +kernel, by decide +kernel⟩, List.mem_of_getElem? (i := 145) rfl, List.mem_of_getElem? (i := 380) rfl, List.mem_of_getElem? (i := 381) rfl⟩
set_option maxRecDepth 100000 in
theorem lw_p2 : lw_okq (⟨"HookPier$Reader", "isLetter", "(I)Z"⟩, 12) := ⟨⟨by decide +kernel, by decide +kernel⟩, List.mem_of_getElem? (i := 145) rfl, List.mem_of_getElem? (i := 384) rfl, List.mem_of_getElem? (i := 385) rfl⟩
set_option maxRecDepth 100000 in
theorem lw_p3 : lw_okq (⟨"HookPier$Reader", "isDigit", "(I)Z"⟩, 12) := ⟨⟨by decide +kernel, by decide +kernel⟩, List.mem_of_getElem? (i := 145) rfl, List.mem_of_getElem? (i := 388) rfl, List.mem_of_getElem? (i := 389) rfl⟩
set_option maxRecDepth 100000 in
theorem lw_p4 : lw_okq (⟨"HookPier$Reader", "readLine", "(LHookPier$Plan;)Z"⟩, 12) := ⟨⟨by decide +kernel, by decide +kernel⟩, List.mem_of_getElem? (i := 145) rfl, List.mem_of_getElem? (i := 392) rfl, List.mem_of_getElem? (i := 393) rfl⟩
set_option maxRecDepth 100000 in
theorem lw_p5 : lw_okq (⟨"HookPier$Reader", "isWord", "(Ljava/lang/String;)Z"⟩, 12) := ⟨⟨by decide +kernel, by decide +kernel⟩, List.mem_of_getElem? (i := 145) rfl, List.mem_of_getElem? (i := 397) rfl, List.mem_of_getElem? (i := 398) rfl⟩
set_option maxRecDepth 100000 in
theorem lw_p6 : lw_okq (⟨"HookPier$Reader", "readPier", "(LHookPier$Plan;)Z"⟩, 12) := ⟨⟨by decide +kernel, by decide +kernel⟩, List.mem_of_getElem? (i := 145) rfl, List.mem_of_getElem? (i := 449) rfl, List.mem_of_getElem? (i := 450) rfl⟩
set_option maxRecDepth 100000 in
theorem lw_p7 : lw_okq (⟨"HookPier$Reader", "takeWord", "(Ljava/lang/String;)Z"⟩, 12) := ⟨⟨by decide +kernel, by decide +kernel⟩, List.mem_of_getElem? (i := 145) rfl, List.mem_of_getElem? (i := 454) rfl, List.mem_of_getElem? (i := 455) rfl⟩
set_option maxRecDepth 100000 in
theorem lw_p8 : lw_okq (⟨"HookPier$Reader", "fail", "(I)Z"⟩, 12) := ⟨⟨by decide +kernel, by decide +kernel⟩, List.mem_of_getElem? (i := 145) rfl, List.mem_of_getElem? (i := 458) rfl, List.mem_of_getElem? (i := 459) rfl⟩
set_option maxRecDepth 100000 in
theorem lw_p9 : lw_okq (⟨"HookPier$Reader", "takeWhole", "(II)Z"⟩, 12) := ⟨⟨by decide +kernel, by decide +kernel⟩, List.mem_of_getElem? (i := 145) rfl, List.mem_of_getElem? (i := 462) rfl, List.mem_of_getElem? (i := 463) rfl⟩
set_option maxRecDepth 100000 in
theorem lw_p10 : lw_okq (⟨"HookPier$Reader", "opens", "(LHookPier$Plan;I)Z"⟩, 12) := ⟨⟨by decide +kernel, by decide +kernel⟩, List.mem_of_getElem? (i := 145) rfl, List.mem_of_getElem? (i := 471) rfl, List.mem_of_getElem? (i := 472) rfl⟩
set_option maxRecDepth 100000 in
theorem lw_p11 : lw_okq (⟨"HookPier$Reader", "readBait", "(LHookPier$Plan;)Z"⟩, 12) := ⟨⟨by decide +kernel, by decide +kernel⟩, List.mem_of_getElem? (i := 145) rfl, List.mem_of_getElem? (i := 475) rfl, List.mem_of_getElem? (i := 476) rfl⟩
set_option maxRecDepth 100000 in
theorem lw_p12 : lw_okq (⟨"HookPier$Reader", "takeNewName", "(I)Z"⟩, 12) := ⟨⟨by decide +kernel, by decide +kernel⟩, List.mem_of_getElem? (i := 145) rfl, List.mem_of_getElem? (i := 479) rfl, List.mem_of_getElem? (i := 480) rfl⟩
set_option maxRecDepth 100000 in
theorem lw_p13 : lw_okq (⟨"HookPier$Reader", "isName", "()Z"⟩, 12) := ⟨⟨by decide +kernel, by decide +kernel⟩, List.mem_of_getElem? (i := 145) rfl, List.mem_of_getElem? (i := 483) rfl, List.mem_of_getElem? (i := 484) rfl⟩
set_option maxRecDepth 100000 in
theorem lw_p14 : lw_okq (⟨"HookPier$Reader", "wordCode", "()J"⟩, 12) := ⟨⟨by decide +kernel, by decide +kernel⟩, List.mem_of_getElem? (i := 145) rfl, List.mem_of_getElem? (i := 491) rfl, List.mem_of_getElem? (i := 492) rfl⟩
set_option maxRecDepth 100000 in
theorem lw_p15 : lw_okq (⟨"HookPier$Reader", "nameOf", "(J)I"⟩, 12) := ⟨⟨by decide +kernel, by decide +kernel⟩, List.mem_of_getElem? (i := 145) rfl, List.mem_of_getElem? (i := 497) rfl, List.mem_of_getElem? (i := 498) rfl⟩
def lw_privs_1 : List (MethodName × Nat) := [(⟨"HookPier", "refused", "(I)Z"⟩, 10), (⟨"HookPier$Reader", "advance", "()V"⟩, 12), (⟨"HookPier$Reader", "isLetter", "(I)Z"⟩, 12), (⟨"HookPier$Reader", "isDigit", "(I)Z"⟩, 12), (⟨"HookPier$Reader", "readLine", "(LHookPier$Plan;)Z"⟩, 12), (⟨"HookPier$Reader", "isWord", "(Ljava/lang/String;)Z"⟩, 12), (⟨"HookPier$Reader", "readPier", "(LHookPier$Plan;)Z"⟩, 12), (⟨"HookPier$Reader", "takeWord", "(Ljava/lang/String;)Z"⟩, 12), (⟨"HookPier$Reader", "fail", "(I)Z"⟩, 12), (⟨"HookPier$Reader", "takeWhole", "(II)Z"⟩, 12), (⟨"HookPier$Reader", "opens", "(LHookPier$Plan;I)Z"⟩, 12), (⟨"HookPier$Reader", "readBait", "(LHookPier$Plan;)Z"⟩, 12), (⟨"HookPier$Reader", "takeNewName", "(I)Z"⟩, 12), (⟨"HookPier$Reader", "isName", "()Z"⟩, 12), (⟨"HookPier$Reader", "wordCode", "()J"⟩, 12), (⟨"HookPier$Reader", "nameOf", "(J)I"⟩, 12)]
theorem lw_r1 : ∀ q ∈ lw_privs_1, lw_okq q := List.forall_mem_cons.mpr ⟨lw_p0, List.forall_mem_cons.mpr ⟨lw_p1, List.forall_mem_cons.mpr ⟨lw_p2, List.forall_mem_cons.mpr ⟨lw_p3, List.forall_mem_cons.mpr ⟨lw_p4, List.forall_mem_cons.mpr ⟨lw_p5, List.forall_mem_cons.mpr ⟨lw_p6, List.forall_mem_cons.mpr ⟨lw_p7, List.forall_mem_cons.mpr ⟨lw_p8, List.forall_mem_cons.mpr ⟨lw_p9, List.forall_mem_cons.mpr ⟨lw_p10, List.forall_mem_cons.mpr ⟨lw_p11, List.forall_mem_cons.mpr ⟨lw_p12, List.forall_mem_cons.mpr ⟨lw_p13, List.forall_mem_cons.mpr ⟨lw_p14, List.forall_mem_cons.mpr ⟨lw_p15, fun _ h => absurd h List.not_mem_nil⟩⟩⟩⟩⟩⟩⟩⟩⟩⟩⟩⟩⟩⟩⟩⟩
set_option maxRecDepth 100000 in
theorem lw_p16 : lw_okq (⟨"HookPier$Reader", "readAsker", "(LHookPier$Plan;)Z"⟩, 12) := ⟨⟨by decide +kernel, by decide +kernel⟩, List.mem_of_getElem? (i := 145) rfl, List.mem_of_getElem? (i := 501) rfl, List.mem_of_getElem? (i := 502) rfl⟩
set_option maxRecDepth 100000 in
theorem lw_p17 : lw_okq (⟨"HookPier$Reader", "readAnswer", "(LHookPier$Plan;)Z"⟩, 12) := ⟨⟨by decide +kernel, by decide +kernel⟩, List.mem_of_getElem? (i := 145) rfl, List.mem_of_getElem? (i := 506) rfl, List.mem_of_getElem? (i := 507) rfl⟩
set_option maxRecDepth 100000 in
theorem lw_p18 : lw_okq (⟨"HookPier$Reader", "takeKind", "()Z"⟩, 12) := ⟨⟨by decide +kernel, by decide +kernel⟩, List.mem_of_getElem? (i := 145) rfl, List.mem_of_getElem? (i := 510) rfl, List.mem_of_getElem? (i := 511) rfl⟩
set_option maxRecDepth 100000 in
theorem lw_p19 : lw_okq (⟨"HookPier$Reader", "takeBait", "()Z"⟩, 12) := ⟨⟨by decide +kernel, by decide +kernel⟩, List.mem_of_getElem? (i := 145) rfl, List.mem_of_getElem? (i := 522) rfl, List.mem_of_getElem? (i := 523) rfl⟩
set_option maxRecDepth 100000 in
theorem lw_p20 : lw_okq (⟨"HookPier$Reader", "readDark", "(LHookPier$Plan;)Z"⟩, 12) := ⟨⟨by decide +kernel, by decide +kernel⟩, List.mem_of_getElem? (i := 145) rfl, List.mem_of_getElem? (i := 527) rfl, List.mem_of_getElem? (i := 528) rfl⟩
set_option maxRecDepth 100000 in
theorem lw_p21 : lw_okq (⟨"HookPier$Reader", "readBite", "(LHookPier$Plan;)Z"⟩, 12) := ⟨⟨by decide +kernel, by decide +kernel⟩, List.mem_of_getElem? (i := 145) rfl, List.mem_of_getElem? (i := 531) rfl, List.mem_of_getElem? (i := 532) rfl⟩
set_option maxRecDepth 100000 in
theorem lw_p22 : lw_okq (⟨"HookPier$Reader", "takeYes", "()Z"⟩, 12) := ⟨⟨by decide +kernel, by decide +kernel⟩, List.mem_of_getElem? (i := 145) rfl, List.mem_of_getElem? (i := 539) rfl, List.mem_of_getElem? (i := 540) rfl⟩
set_option maxRecDepth 100000 in
theorem lw_p23 : lw_okq (⟨"HookPier", "answerTrouble", "(I)I"⟩, 10) := ⟨⟨by decide +kernel, by decide +kernel⟩, List.mem_of_getElem? (i := 26) rfl, List.mem_of_getElem? (i := 565) rfl, List.mem_of_getElem? (i := 566) rfl⟩
set_option maxRecDepth 100000 in
theorem lw_p24 : lw_okq (⟨"HookPier", "askerTrouble", "(I)I"⟩, 10) := ⟨⟨by decide +kernel, by decide +kernel⟩, List.mem_of_getElem? (i := 26) rfl, List.mem_of_getElem? (i := 589) rfl, List.mem_of_getElem? (i := 590) rfl⟩
set_option maxRecDepth 100000 in
theorem lw_p25 : lw_okq (⟨"HookPier", "numberTrouble", "(Z)I"⟩, 10) := ⟨⟨by decide +kernel, by decide +kernel⟩, List.mem_of_getElem? (i := 26) rfl, List.mem_of_getElem? (i := 626) rfl, List.mem_of_getElem? (i := 627) rfl⟩
set_option maxRecDepth 100000 in
theorem lw_p26 : lw_okq (⟨"HookPier", "pierTrouble", "()I"⟩, 10) := ⟨⟨by decide +kernel, by decide +kernel⟩, List.mem_of_getElem? (i := 26) rfl, List.mem_of_getElem? (i := 630) rfl, List.mem_of_getElem? (i := 631) rfl⟩
set_option maxRecDepth 100000 in
theorem lw_p27 : lw_okq (⟨"HookPier", "wishTrouble", "(IIII)I"⟩, 10) := ⟨⟨by decide +kernel, by decide +kernel⟩, List.mem_of_getElem? (i := 26) rfl, List.mem_of_getElem? (i := 642) rfl, List.mem_of_getElem? (i := 643) rfl⟩
set_option maxRecDepth 100000 in
theorem lw_p28 : lw_okq (⟨"HookPier", "questionTrouble", "(III)I"⟩, 10) := ⟨⟨by decide +kernel, by decide +kernel⟩, List.mem_of_getElem? (i := 26) rfl, List.mem_of_getElem? (i := 646) rfl, List.mem_of_getElem? (i := 647) rfl⟩
set_option maxRecDepth 100000 in
theorem lw_p29 : lw_okq (⟨"HookPier", "thereTrouble", "(I)I"⟩, 10) := ⟨⟨by decide +kernel, by decide +kernel⟩, List.mem_of_getElem? (i := 26) rfl, List.mem_of_getElem? (i := 710) rfl, List.mem_of_getElem? (i := 711) rfl⟩
set_option maxRecDepth 100000 in
theorem lw_p30 : lw_okq (⟨"HookPier", "likers", "(I)I"⟩, 10) := ⟨⟨by decide +kernel, by decide +kernel⟩, List.mem_of_getElem? (i := 26) rfl, List.mem_of_getElem? (i := 743) rfl, List.mem_of_getElem? (i := 744) rfl⟩
set_option maxRecDepth 100000 in
theorem lw_p31 : lw_okq (⟨"HookPier", "everyAsker", "()I"⟩, 10) := ⟨⟨by decide +kernel, by decide +kernel⟩, List.mem_of_getElem? (i := 26) rfl, List.mem_of_getElem? (i := 765) rfl, List.mem_of_getElem? (i := 766) rfl⟩
def lw_privs_2 : List (MethodName × Nat) := [(⟨"HookPier$Reader", "readAsker", "(LHookPier$Plan;)Z"⟩, 12), (⟨"HookPier$Reader", "readAnswer", "(LHookPier$Plan;)Z"⟩, 12), (⟨"HookPier$Reader", "takeKind", "()Z"⟩, 12), (⟨"HookPier$Reader", "takeBait", "()Z"⟩, 12), (⟨"HookPier$Reader", "readDark", "(LHookPier$Plan;)Z"⟩, 12), (⟨"HookPier$Reader", "readBite", "(LHookPier$Plan;)Z"⟩, 12), (⟨"HookPier$Reader", "takeYes", "()Z"⟩, 12), (⟨"HookPier", "answerTrouble", "(I)I"⟩, 10), (⟨"HookPier", "askerTrouble", "(I)I"⟩, 10), (⟨"HookPier", "numberTrouble", "(Z)I"⟩, 10), (⟨"HookPier", "pierTrouble", "()I"⟩, 10), (⟨"HookPier", "wishTrouble", "(IIII)I"⟩, 10), (⟨"HookPier", "questionTrouble", "(III)I"⟩, 10), (⟨"HookPier", "thereTrouble", "(I)I"⟩, 10), (⟨"HookPier", "likers", "(I)I"⟩, 10), (⟨"HookPier", "everyAsker", "()I"⟩, 10)]
theorem lw_r2 : ∀ q ∈ lw_privs_2, lw_okq q := List.forall_mem_cons.mpr ⟨lw_p16, List.forall_mem_cons.mpr ⟨lw_p17, List.forall_mem_cons.mpr ⟨lw_p18, List.forall_mem_cons.mpr ⟨lw_p19, List.forall_mem_cons.mpr ⟨lw_p20, List.forall_mem_cons.mpr ⟨lw_p21, List.forall_mem_cons.mpr ⟨lw_p22, List.forall_mem_cons.mpr ⟨lw_p23, List.forall_mem_cons.mpr ⟨lw_p24, List.forall_mem_cons.mpr ⟨lw_p25, List.forall_mem_cons.mpr ⟨lw_p26, List.forall_mem_cons.mpr ⟨lw_p27, List.forall_mem_cons.mpr ⟨lw_p28, List.forall_mem_cons.mpr ⟨lw_p29, List.forall_mem_cons.mpr ⟨lw_p30, List.forall_mem_cons.mpr ⟨lw_p31, fun _ h => absurd h List.not_mem_nil⟩⟩⟩⟩⟩⟩⟩⟩⟩⟩⟩⟩⟩⟩⟩⟩
set_option maxRecDepth 100000 in
theorem lw_p32 : lw_okq (⟨"HookPier$Seats", "fill", "(LHookPier$Plan;III)V"⟩, 3) := ⟨⟨by decide +kernel, by decide +kernel⟩, List.mem_of_getElem? (i := 263) rfl, List.mem_of_getElem? (i := 773) rfl, List.mem_of_getElem? (i := 774) rfl⟩
set_option maxRecDepth 100000 in
theorem lw_p33 : lw_okq (⟨"HookPier$Seats", "keepRow", "()V"⟩, 3) := ⟨⟨by decide +kernel, by decide +kernel⟩, List.mem_of_getElem? (i := 263) rfl, List.mem_of_getElem? (i := 777) rfl, List.mem_of_getElem? (i := 778) rfl⟩
set_option maxRecDepth 100000 in
theorem lw_p34 : lw_okq (⟨"HookPier$Seats", "isFree", "(LHookPier$Plan;II)Z"⟩, 3) := ⟨⟨by decide +kernel, by decide +kernel⟩, List.mem_of_getElem? (i := 263) rfl, List.mem_of_getElem? (i := 784) rfl, List.mem_of_getElem? (i := 785) rfl⟩
set_option maxRecDepth 100000 in
theorem lw_p35 : lw_okq (⟨"HookPier", "darkTrouble", "()I"⟩, 10) := ⟨⟨by decide +kernel, by decide +kernel⟩, List.mem_of_getElem? (i := 26) rfl, List.mem_of_getElem? (i := 807) rfl, List.mem_of_getElem? (i := 808) rfl⟩
set_option maxRecDepth 100000 in
theorem lw_p36 : lw_okq (⟨"HookPier", "hooksTrouble", "(IIII)I"⟩, 10) := ⟨⟨by decide +kernel, by decide +kernel⟩, List.mem_of_getElem? (i := 26) rfl, List.mem_of_getElem? (i := 891) rfl, List.mem_of_getElem? (i := 892) rfl⟩
set_option maxRecDepth 100000 in
theorem lw_p37 : lw_okq (⟨"HookPier$Days", "taken", "(LHookPier$Plan;LHookPier$Now;II)I"⟩, 4) := ⟨⟨by decide +kernel, by decide +kernel⟩, List.mem_of_getElem? (i := 295) rfl, List.mem_of_getElem? (i := 958) rfl, List.mem_of_getElem? (i := 959) rfl⟩
set_option maxRecDepth 100000 in
theorem lw_p38 : lw_okq (⟨"HookPier$Days", "note", "(II)V"⟩, 4) := ⟨⟨by decide +kernel, by decide +kernel⟩, List.mem_of_getElem? (i := 295) rfl, List.mem_of_getElem? (i := 966) rfl, List.mem_of_getElem? (i := 967) rfl⟩
set_option maxRecDepth 100000 in
theorem lw_p39 : lw_okq (⟨"HookPier", "letTrouble", "(IIII)I"⟩, 10) := ⟨⟨by decide +kernel, by decide +kernel⟩, List.mem_of_getElem? (i := 26) rfl, List.mem_of_getElem? (i := 983) rfl, List.mem_of_getElem? (i := 984) rfl⟩
set_option maxRecDepth 100000 in
theorem lw_p40 : lw_okq (⟨"java/lang/Throwable", "fillInStackTrace", "(I)Ljava/lang/Throwable;"⟩, 6) := ⟨⟨by decide +kernel, by decide +kernel⟩, List.mem_of_getElem? (i := 1086) rfl, List.mem_of_getElem? (i := 1084) rfl, List.mem_of_getElem? (i := 1085) rfl⟩
set_option maxRecDepth 100000 in
theorem lw_p41 : lw_okq (⟨"HookPierModel", "refused", "(I)I"⟩, 30) := ⟨⟨by decide +kernel, by decide +kernel⟩, List.mem_of_getElem? (i := 1115) rfl, List.mem_of_getElem? (i := 1220) rfl, List.mem_of_getElem? (i := 1221) rfl⟩
set_option maxRecDepth 100000 in
theorem lw_p42 : lw_okq (⟨"HookPierModel", "goesOn", "()V"⟩, 30) := ⟨⟨by decide +kernel, by decide +kernel⟩, List.mem_of_getElem? (i := 1115) rfl, List.mem_of_getElem? (i := 1325) rfl, List.mem_of_getElem? (i := 1326) rfl⟩
set_option maxRecDepth 100000 in
theorem lw_p43 : lw_okq (⟨"HookPierModel", "byteAt", "(I)I"⟩, 30) := ⟨⟨by decide +kernel, by decide +kernel⟩, List.mem_of_getElem? (i := 1115) rfl, List.mem_of_getElem? (i := 1329) rfl, List.mem_of_getElem? (i := 1330) rfl⟩
set_option maxRecDepth 100000 in
theorem lw_p44 : lw_okq (⟨"HookPierModel", "readAll", "()V"⟩, 30) := ⟨⟨by decide +kernel, by decide +kernel⟩, List.mem_of_getElem? (i := 1115) rfl, List.mem_of_getElem? (i := 1340) rfl, List.mem_of_getElem? (i := 1341) rfl⟩
set_option maxRecDepth 100000 in
theorem lw_p45 : lw_okq (⟨"HookPierModel", "readLine", "()V"⟩, 30) := ⟨⟨by decide +kernel, by decide +kernel⟩, List.mem_of_getElem? (i := 1115) rfl, List.mem_of_getElem? (i := 1344) rfl, List.mem_of_getElem? (i := 1345) rfl⟩
set_option maxRecDepth 100000 in
theorem lw_p46 : lw_okq (⟨"HookPierModel", "isWord", "(Ljava/lang/String;)Z"⟩, 30) := ⟨⟨by decide +kernel, by decide +kernel⟩, List.mem_of_getElem? (i := 1115) rfl, List.mem_of_getElem? (i := 1349) rfl, List.mem_of_getElem? (i := 1350) rfl⟩
set_option maxRecDepth 100000 in
theorem lw_p47 : lw_okq (⟨"HookPierModel", "readPier", "()V"⟩, 30) := ⟨⟨by decide +kernel, by decide +kernel⟩, List.mem_of_getElem? (i := 1115) rfl, List.mem_of_getElem? (i := 1358) rfl, List.mem_of_getElem? (i := 1359) rfl⟩
def lw_privs_3 : List (MethodName × Nat) := [(⟨"HookPier$Seats", "fill", "(LHookPier$Plan;III)V"⟩, 3), (⟨"HookPier$Seats", "keepRow", "()V"⟩, 3), (⟨"HookPier$Seats", "isFree", "(LHookPier$Plan;II)Z"⟩, 3), (⟨"HookPier", "darkTrouble", "()I"⟩, 10), (⟨"HookPier", "hooksTrouble", "(IIII)I"⟩, 10), (⟨"HookPier$Days", "taken", "(LHookPier$Plan;LHookPier$Now;II)I"⟩, 4), (⟨"HookPier$Days", "note", "(II)V"⟩, 4), (⟨"HookPier", "letTrouble", "(IIII)I"⟩, 10), (⟨"java/lang/Throwable", "fillInStackTrace", "(I)Ljava/lang/Throwable;"⟩, 6), (⟨"HookPierModel", "refused", "(I)I"⟩, 30), (⟨"HookPierModel", "goesOn", "()V"⟩, 30), (⟨"HookPierModel", "byteAt", "(I)I"⟩, 30), (⟨"HookPierModel", "readAll", "()V"⟩, 30), (⟨"HookPierModel", "readLine", "()V"⟩, 30), (⟨"HookPierModel", "isWord", "(Ljava/lang/String;)Z"⟩, 30), (⟨"HookPierModel", "readPier", "()V"⟩, 30)]
theorem lw_r3 : ∀ q ∈ lw_privs_3, lw_okq q := List.forall_mem_cons.mpr ⟨lw_p32, List.forall_mem_cons.mpr ⟨lw_p33, List.forall_mem_cons.mpr ⟨lw_p34, List.forall_mem_cons.mpr ⟨lw_p35, List.forall_mem_cons.mpr ⟨lw_p36, List.forall_mem_cons.mpr ⟨lw_p37, List.forall_mem_cons.mpr ⟨lw_p38, List.forall_mem_cons.mpr ⟨lw_p39, List.forall_mem_cons.mpr ⟨lw_p40, List.forall_mem_cons.mpr ⟨lw_p41, List.forall_mem_cons.mpr ⟨lw_p42, List.forall_mem_cons.mpr ⟨lw_p43, List.forall_mem_cons.mpr ⟨lw_p44, List.forall_mem_cons.mpr ⟨lw_p45, List.forall_mem_cons.mpr ⟨lw_p46, List.forall_mem_cons.mpr ⟨lw_p47, fun _ h => absurd h List.not_mem_nil⟩⟩⟩⟩⟩⟩⟩⟩⟩⟩⟩⟩⟩⟩⟩⟩
set_option maxRecDepth 100000 in
theorem lw_p48 : lw_okq (⟨"HookPierModel", "flaw", "(I)V"⟩, 30) := ⟨⟨by decide +kernel, by decide +kernel⟩, List.mem_of_getElem? (i := 1115) rfl, List.mem_of_getElem? (i := 1362) rfl, List.mem_of_getElem? (i := 1363) rfl⟩
set_option maxRecDepth 100000 in
theorem lw_p49 : lw_okq (⟨"HookPierModel", "readPart", "(Ljava/lang/String;II)I"⟩, 30) := ⟨⟨by decide +kernel, by decide +kernel⟩, List.mem_of_getElem? (i := 1115) rfl, List.mem_of_getElem? (i := 1367) rfl, List.mem_of_getElem? (i := 1368) rfl⟩
set_option maxRecDepth 100000 in
theorem lw_p50 : lw_okq (⟨"HookPierModel", "needs", "(Ljava/lang/String;)V"⟩, 30) := ⟨⟨by decide +kernel, by decide +kernel⟩, List.mem_of_getElem? (i := 1115) rfl, List.mem_of_getElem? (i := 1371) rfl, List.mem_of_getElem? (i := 1372) rfl⟩
set_option maxRecDepth 100000 in
theorem lw_p51 : lw_okq (⟨"HookPierModel", "readWhole", "(II)I"⟩, 30) := ⟨⟨by decide +kernel, by decide +kernel⟩, List.mem_of_getElem? (i := 1115) rfl, List.mem_of_getElem? (i := 1375) rfl, List.mem_of_getElem? (i := 1376) rfl⟩
set_option maxRecDepth 100000 in
theorem lw_p52 : lw_okq (⟨"HookPierModel", "readBait", "()V"⟩, 30) := ⟨⟨by decide +kernel, by decide +kernel⟩, List.mem_of_getElem? (i := 1115) rfl, List.mem_of_getElem? (i := 1386) rfl, List.mem_of_getElem? (i := 1387) rfl⟩
set_option maxRecDepth 100000 in
theorem lw_p53 : lw_okq (⟨"HookPierModel", "lineBegins", "(II)V"⟩, 30) := ⟨⟨by decide +kernel, by decide +kernel⟩, List.mem_of_getElem? (i := 1115) rfl, List.mem_of_getElem? (i := 1390) rfl, List.mem_of_getElem? (i := 1391) rfl⟩
set_option maxRecDepth 100000 in
theorem lw_p54 : lw_okq (⟨"HookPierModel", "readFresh", "()J"⟩, 30) := ⟨⟨by decide +kernel, by decide +kernel⟩, List.mem_of_getElem? (i := 1115) rfl, List.mem_of_getElem? (i := 1394) rfl, List.mem_of_getElem? (i := 1395) rfl⟩
set_option maxRecDepth 100000 in
theorem lw_p55 : lw_okq (⟨"HookPierModel", "isName", "()Z"⟩, 30) := ⟨⟨by decide +kernel, by decide +kernel⟩, List.mem_of_getElem? (i := 1115) rfl, List.mem_of_getElem? (i := 1398) rfl, List.mem_of_getElem? (i := 1399) rfl⟩
set_option maxRecDepth 100000 in
theorem lw_p56 : lw_okq (⟨"HookPierModel", "names", "(JII)V"⟩, 30) := ⟨⟨by decide +kernel, by decide +kernel⟩, List.mem_of_getElem? (i := 1115) rfl, List.mem_of_getElem? (i := 1410) rfl, List.mem_of_getElem? (i := 1411) rfl⟩
set_option maxRecDepth 100000 in
theorem lw_p57 : lw_okq (⟨"HookPierModel", "readAsker", "()V"⟩, 30) := ⟨⟨by decide +kernel, by decide +kernel⟩, List.mem_of_getElem? (i := 1115) rfl, List.mem_of_getElem? (i := 1414) rfl, List.mem_of_getElem? (i := 1415) rfl⟩
set_option maxRecDepth 100000 in
theorem lw_p58 : lw_okq (⟨"HookPierModel", "readAnswer", "()V"⟩, 30) := ⟨⟨by decide +kernel, by decide +kernel⟩, List.mem_of_getElem? (i := 1115) rfl, List.mem_of_getElem? (i := 1419) rfl, List.mem_of_getElem? (i := 1420) rfl⟩
set_option maxRecDepth 100000 in
theorem lw_p59 : lw_okq (⟨"HookPierModel", "readPartBait", "(Ljava/lang/String;)I"⟩, 30) := ⟨⟨by decide +kernel, by decide +kernel⟩, List.mem_of_getElem? (i := 1115) rfl, List.mem_of_getElem? (i := 1431) rfl, List.mem_of_getElem? (i := 1432) rfl⟩
set_option maxRecDepth 100000 in
theorem lw_p60 : lw_okq (⟨"HookPierModel", "readDark", "()V"⟩, 30) := ⟨⟨by decide +kernel, by decide +kernel⟩, List.mem_of_getElem? (i := 1115) rfl, List.mem_of_getElem? (i := 1436) rfl, List.mem_of_getElem? (i := 1437) rfl⟩
set_option maxRecDepth 100000 in
theorem lw_p61 : lw_okq (⟨"HookPierModel", "readBite", "()V"⟩, 30) := ⟨⟨by decide +kernel, by decide +kernel⟩, List.mem_of_getElem? (i := 1115) rfl, List.mem_of_getElem? (i := 1440) rfl, List.mem_of_getElem? (i := 1441) rfl⟩
set_option maxRecDepth 100000 in
theorem lw_p62 : lw_okq (⟨"HookPierModel", "eatsSemicolon", "()Z"⟩, 30) := ⟨⟨by decide +kernel, by decide +kernel⟩, List.mem_of_getElem? (i := 1115) rfl, List.mem_of_getElem? (i := 1447) rfl, List.mem_of_getElem? (i := 1448) rfl⟩
set_option maxRecDepth 100000 in
theorem lw_p63 : lw_okq (⟨"HookPierModel", "good", "(I)I"⟩, 30) := ⟨⟨by decide +kernel, by decide +kernel⟩, List.mem_of_getElem? (i := 1115) rfl, List.mem_of_getElem? (i := 1451) rfl, List.mem_of_getElem? (i := 1452) rfl⟩
def lw_privs_4 : List (MethodName × Nat) := [(⟨"HookPierModel", "flaw", "(I)V"⟩, 30), (⟨"HookPierModel", "readPart", "(Ljava/lang/String;II)I"⟩, 30), (⟨"HookPierModel", "needs", "(Ljava/lang/String;)V"⟩, 30), (⟨"HookPierModel", "readWhole", "(II)I"⟩, 30), (⟨"HookPierModel", "readBait", "()V"⟩, 30), (⟨"HookPierModel", "lineBegins", "(II)V"⟩, 30), (⟨"HookPierModel", "readFresh", "()J"⟩, 30), (⟨"HookPierModel", "isName", "()Z"⟩, 30), (⟨"HookPierModel", "names", "(JII)V"⟩, 30), (⟨"HookPierModel", "readAsker", "()V"⟩, 30), (⟨"HookPierModel", "readAnswer", "()V"⟩, 30), (⟨"HookPierModel", "readPartBait", "(Ljava/lang/String;)I"⟩, 30), (⟨"HookPierModel", "readDark", "()V"⟩, 30), (⟨"HookPierModel", "readBite", "()V"⟩, 30), (⟨"HookPierModel", "eatsSemicolon", "()Z"⟩, 30), (⟨"HookPierModel", "good", "(I)I"⟩, 30)]
theorem lw_r4 : ∀ q ∈ lw_privs_4, lw_okq q := List.forall_mem_cons.mpr ⟨lw_p48, List.forall_mem_cons.mpr ⟨lw_p49, List.forall_mem_cons.mpr ⟨lw_p50, List.forall_mem_cons.mpr ⟨lw_p51, List.forall_mem_cons.mpr ⟨lw_p52, List.forall_mem_cons.mpr ⟨lw_p53, List.forall_mem_cons.mpr ⟨lw_p54, List.forall_mem_cons.mpr ⟨lw_p55, List.forall_mem_cons.mpr ⟨lw_p56, List.forall_mem_cons.mpr ⟨lw_p57, List.forall_mem_cons.mpr ⟨lw_p58, List.forall_mem_cons.mpr ⟨lw_p59, List.forall_mem_cons.mpr ⟨lw_p60, List.forall_mem_cons.mpr ⟨lw_p61, List.forall_mem_cons.mpr ⟨lw_p62, List.forall_mem_cons.mpr ⟨lw_p63, fun _ h => absurd h List.not_mem_nil⟩⟩⟩⟩⟩⟩⟩⟩⟩⟩⟩⟩⟩⟩⟩⟩
set_option maxRecDepth 100000 in
theorem lw_p64 : lw_okq (⟨"HookPierModel", "isAnswer", "(I)Z"⟩, 30) := ⟨⟨by decide +kernel, by decide +kernel⟩, List.mem_of_getElem? (i := 1115) rfl, List.mem_of_getElem? (i := 1467) rfl, List.mem_of_getElem? (i := 1468) rfl⟩
set_option maxRecDepth 100000 in
theorem lw_p65 : lw_okq (⟨"HookPierModel", "keeps", "(III)I"⟩, 30) := ⟨⟨by decide +kernel, by decide +kernel⟩, List.mem_of_getElem? (i := 1115) rfl, List.mem_of_getElem? (i := 1471) rfl, List.mem_of_getElem? (i := 1472) rfl⟩
set_option maxRecDepth 100000 in
theorem lw_p66 : lw_okq (⟨"HookPierModel", "isAsker", "(I)Z"⟩, 30) := ⟨⟨by decide +kernel, by decide +kernel⟩, List.mem_of_getElem? (i := 1115) rfl, List.mem_of_getElem? (i := 1479) rfl, List.mem_of_getElem? (i := 1480) rfl⟩
set_option maxRecDepth 100000 in
theorem lw_p67 : lw_okq (⟨"HookPierModel", "spotOf", "(I)I"⟩, 30) := ⟨⟨by decide +kernel, by decide +kernel⟩, List.mem_of_getElem? (i := 1115) rfl, List.mem_of_getElem? (i := 1483) rfl, List.mem_of_getElem? (i := 1484) rfl⟩
set_option maxRecDepth 100000 in
theorem lw_p68 : lw_okq (⟨"HookPierModel", "fathomsOf", "(I)I"⟩, 30) := ⟨⟨by decide +kernel, by decide +kernel⟩, List.mem_of_getElem? (i := 1115) rfl, List.mem_of_getElem? (i := 1487) rfl, List.mem_of_getElem? (i := 1488) rfl⟩
set_option maxRecDepth 100000 in
theorem lw_p69 : lw_okq (⟨"HookPierModel", "baitOf", "(I)I"⟩, 30) := ⟨⟨by decide +kernel, by decide +kernel⟩, List.mem_of_getElem? (i := 1115) rfl, List.mem_of_getElem? (i := 1491) rfl, List.mem_of_getElem? (i := 1492) rfl⟩
set_option maxRecDepth 100000 in
theorem lw_p70 : lw_okq (⟨"HookPierModel", "isTangled", "([II)Z"⟩, 30) := ⟨⟨by decide +kernel, by decide +kernel⟩, List.mem_of_getElem? (i := 1115) rfl, List.mem_of_getElem? (i := 1495) rfl, List.mem_of_getElem? (i := 1496) rfl⟩
set_option maxRecDepth 100000 in
theorem lw_p71 : lw_okq (⟨"HookPierModel", "areTangled", "(IIII)Z"⟩, 30) := ⟨⟨by decide +kernel, by decide +kernel⟩, List.mem_of_getElem? (i := 1115) rfl, List.mem_of_getElem? (i := 1499) rfl, List.mem_of_getElem? (i := 1500) rfl⟩
set_option maxRecDepth 100000 in
theorem lw_p72 : lw_okq (⟨"HookPierModel", "refusesQuestion", "(ZIII)I"⟩, 30) := ⟨⟨by decide +kernel, by decide +kernel⟩, List.mem_of_getElem? (i := 1115) rfl, List.mem_of_getElem? (i := 1518) rfl, List.mem_of_getElem? (i := 1519) rfl⟩
set_option maxRecDepth 100000 in
theorem lw_p73 : lw_okq (⟨"HookPierModel", "question", "(III)I"⟩, 30) := ⟨⟨by decide +kernel, by decide +kernel⟩, List.mem_of_getElem? (i := 1115) rfl, List.mem_of_getElem? (i := 1538) rfl, List.mem_of_getElem? (i := 1539) rfl⟩
set_option maxRecDepth 100000 in
theorem lw_p74 : lw_okq (⟨"HookPierModel", "oddsOf", "(II)J"⟩, 30) := ⟨⟨by decide +kernel, by decide +kernel⟩, List.mem_of_getElem? (i := 1115) rfl, List.mem_of_getElem? (i := 1542) rfl, List.mem_of_getElem? (i := 1543) rfl⟩
set_option maxRecDepth 100000 in
theorem lw_p75 : lw_okq (⟨"HookPierModel", "wishOf", "(II)I"⟩, 30) := ⟨⟨by decide +kernel, by decide +kernel⟩, List.mem_of_getElem? (i := 1115) rfl, List.mem_of_getElem? (i := 1547) rfl, List.mem_of_getElem? (i := 1548) rfl⟩
set_option maxRecDepth 100000 in
theorem lw_p76 : lw_okq (⟨"HookPierModel", "whole", "()J"⟩, 30) := ⟨⟨by decide +kernel, by decide +kernel⟩, List.mem_of_getElem? (i := 1115) rfl, List.mem_of_getElem? (i := 1551) rfl, List.mem_of_getElem? (i := 1552) rfl⟩
set_option maxRecDepth 100000 in
theorem lw_p77 : lw_okq (⟨"HookPierModel", "fraction", "(JJZ)J"⟩, 30) := ⟨⟨by decide +kernel, by decide +kernel⟩, List.mem_of_getElem? (i := 1115) rfl, List.mem_of_getElem? (i := 1555) rfl, List.mem_of_getElem? (i := 1556) rfl⟩
set_option maxRecDepth 100000 in
theorem lw_p78 : lw_okq (⟨"HookPierModel", "noOdds", "(I)J"⟩, 30) := ⟨⟨by decide +kernel, by decide +kernel⟩, List.mem_of_getElem? (i := 1115) rfl, List.mem_of_getElem? (i := 1566) rfl, List.mem_of_getElem? (i := 1567) rfl⟩
set_option maxRecDepth 100000 in
theorem lw_p79 : lw_okq (⟨"HookPierModel", "meanOf", "(I)J"⟩, 30) := ⟨⟨by decide +kernel, by decide +kernel⟩, List.mem_of_getElem? (i := 1115) rfl, List.mem_of_getElem? (i := 1574) rfl, List.mem_of_getElem? (i := 1575) rfl⟩
def lw_privs_5 : List (MethodName × Nat) := [(⟨"HookPierModel", "isAnswer", "(I)Z"⟩, 30), (⟨"HookPierModel", "keeps", "(III)I"⟩, 30), (⟨"HookPierModel", "isAsker", "(I)Z"⟩, 30), (⟨"HookPierModel", "spotOf", "(I)I"⟩, 30), (⟨"HookPierModel", "fathomsOf", "(I)I"⟩, 30), (⟨"HookPierModel", "baitOf", "(I)I"⟩, 30), (⟨"HookPierModel", "isTangled", "([II)Z"⟩, 30), (⟨"HookPierModel", "areTangled", "(IIII)Z"⟩, 30), (⟨"HookPierModel", "refusesQuestion", "(ZIII)I"⟩, 30), (⟨"HookPierModel", "question", "(III)I"⟩, 30), (⟨"HookPierModel", "oddsOf", "(II)J"⟩, 30), (⟨"HookPierModel", "wishOf", "(II)I"⟩, 30), (⟨"HookPierModel", "whole", "()J"⟩, 30), (⟨"HookPierModel", "fraction", "(JJZ)J"⟩, 30), (⟨"HookPierModel", "noOdds", "(I)J"⟩, 30), (⟨"HookPierModel", "meanOf", "(I)J"⟩, 30)]
theorem lw_r5 : ∀ q ∈ lw_privs_5, lw_okq q := List.forall_mem_cons.mpr ⟨lw_p64, List.forall_mem_cons.mpr ⟨lw_p65, List.forall_mem_cons.mpr ⟨lw_p66, List.forall_mem_cons.mpr ⟨lw_p67, List.forall_mem_cons.mpr ⟨lw_p68, List.forall_mem_cons.mpr ⟨lw_p69, List.forall_mem_cons.mpr ⟨lw_p70, List.forall_mem_cons.mpr ⟨lw_p71, List.forall_mem_cons.mpr ⟨lw_p72, List.forall_mem_cons.mpr ⟨lw_p73, List.forall_mem_cons.mpr ⟨lw_p74, List.forall_mem_cons.mpr ⟨lw_p75, List.forall_mem_cons.mpr ⟨lw_p76, List.forall_mem_cons.mpr ⟨lw_p77, List.forall_mem_cons.mpr ⟨lw_p78, List.forall_mem_cons.mpr ⟨lw_p79, fun _ h => absurd h List.not_mem_nil⟩⟩⟩⟩⟩⟩⟩⟩⟩⟩⟩⟩⟩⟩⟩⟩
set_option maxRecDepth 100000 in
theorem lw_p80 : lw_okq (⟨"HookPierModel", "refusesSure", "(I)I"⟩, 30) := ⟨⟨by decide +kernel, by decide +kernel⟩, List.mem_of_getElem? (i := 1115) rfl, List.mem_of_getElem? (i := 1586) rfl, List.mem_of_getElem? (i := 1587) rfl⟩
set_option maxRecDepth 100000 in
theorem lw_p81 : lw_okq (⟨"HookPierModel", "sureQuestion", "(I)I"⟩, 30) := ⟨⟨by decide +kernel, by decide +kernel⟩, List.mem_of_getElem? (i := 1115) rfl, List.mem_of_getElem? (i := 1590) rfl, List.mem_of_getElem? (i := 1591) rfl⟩
set_option maxRecDepth 100000 in
theorem lw_p82 : lw_okq (⟨"HookPierModel", "codeOf", "(I)I"⟩, 30) := ⟨⟨by decide +kernel, by decide +kernel⟩, List.mem_of_getElem? (i := 1115) rfl, List.mem_of_getElem? (i := 1598) rfl, List.mem_of_getElem? (i := 1599) rfl⟩
set_option maxRecDepth 100000 in
theorem lw_p83 : lw_okq (⟨"HookPierModel", "allAskers", "()I"⟩, 30) := ⟨⟨by decide +kernel, by decide +kernel⟩, List.mem_of_getElem? (i := 1115) rfl, List.mem_of_getElem? (i := 1631) rfl, List.mem_of_getElem? (i := 1632) rfl⟩
set_option maxRecDepth 100000 in
theorem lw_p84 : lw_okq (⟨"HookPierModel", "seats", "(I)V"⟩, 30) := ⟨⟨by decide +kernel, by decide +kernel⟩, List.mem_of_getElem? (i := 1115) rfl, List.mem_of_getElem? (i := 1635) rfl, List.mem_of_getElem? (i := 1636) rfl⟩
set_option maxRecDepth 100000 in
theorem lw_p85 : lw_okq (⟨"HookPierModel", "nextIn", "(II)I"⟩, 30) := ⟨⟨by decide +kernel, by decide +kernel⟩, List.mem_of_getElem? (i := 1115) rfl, List.mem_of_getElem? (i := 1639) rfl, List.mem_of_getElem? (i := 1640) rfl⟩
set_option maxRecDepth 100000 in
theorem lw_p86 : lw_okq (⟨"HookPierModel", "isSeat", "(II)Z"⟩, 30) := ⟨⟨by decide +kernel, by decide +kernel⟩, List.mem_of_getElem? (i := 1115) rfl, List.mem_of_getElem? (i := 1646) rfl, List.mem_of_getElem? (i := 1647) rfl⟩
set_option maxRecDepth 100000 in
theorem lw_p87 : lw_okq (⟨"HookPierModel", "lastIn", "(II)I"⟩, 30) := ⟨⟨by decide +kernel, by decide +kernel⟩, List.mem_of_getElem? (i := 1115) rfl, List.mem_of_getElem? (i := 1650) rfl, List.mem_of_getElem? (i := 1651) rfl⟩
set_option maxRecDepth 100000 in
theorem lw_p88 : lw_okq (⟨"HookPierModel", "refusesDark", "()I"⟩, 30) := ⟨⟨by decide +kernel, by decide +kernel⟩, List.mem_of_getElem? (i := 1115) rfl, List.mem_of_getElem? (i := 1669) rfl, List.mem_of_getElem? (i := 1670) rfl⟩
set_option maxRecDepth 100000 in
theorem lw_p89 : lw_okq (⟨"HookPierModel", "isDark", "(I)Z"⟩, 30) := ⟨⟨by decide +kernel, by decide +kernel⟩, List.mem_of_getElem? (i := 1115) rfl, List.mem_of_getElem? (i := 1673) rfl, List.mem_of_getElem? (i := 1674) rfl⟩
set_option maxRecDepth 100000 in
theorem lw_p90 : lw_okq (⟨"HookPierModel", "toAsk", "()I"⟩, 30) := ⟨⟨by decide +kernel, by decide +kernel⟩, List.mem_of_getElem? (i := 1115) rfl, List.mem_of_getElem? (i := 1697) rfl, List.mem_of_getElem? (i := 1698) rfl⟩
set_option maxRecDepth 100000 in
theorem lw_p91 : lw_okq (⟨"HookPierModel", "leaves", "(I)I"⟩, 30) := ⟨⟨by decide +kernel, by decide +kernel⟩, List.mem_of_getElem? (i := 1115) rfl, List.mem_of_getElem? (i := 1701) rfl, List.mem_of_getElem? (i := 1702) rfl⟩
set_option maxRecDepth 100000 in
theorem lw_p92 : lw_okq (⟨"HookPierModel", "refusesLoad", "(I)I"⟩, 30) := ⟨⟨by decide +kernel, by decide +kernel⟩, List.mem_of_getElem? (i := 1115) rfl, List.mem_of_getElem? (i := 1722) rfl, List.mem_of_getElem? (i := 1723) rfl⟩
set_option maxRecDepth 100000 in
theorem lw_p93 : lw_okq (⟨"HookPierModel", "loads", "(I)V"⟩, 30) := ⟨⟨by decide +kernel, by decide +kernel⟩, List.mem_of_getElem? (i := 1115) rfl, List.mem_of_getElem? (i := 1726) rfl, List.mem_of_getElem? (i := 1727) rfl⟩
set_option maxRecDepth 100000 in
theorem lw_p94 : lw_okq (⟨"HookPierModel", "worthNow", "(I)I"⟩, 30) := ⟨⟨by decide +kernel, by decide +kernel⟩, List.mem_of_getElem? (i := 1115) rfl, List.mem_of_getElem? (i := 1730) rfl, List.mem_of_getElem? (i := 1731) rfl⟩
set_option maxRecDepth 100000 in
theorem lw_p95 : lw_okq (⟨"HookPierModel", "lost", "(I)I"⟩, 30) := ⟨⟨by decide +kernel, by decide +kernel⟩, List.mem_of_getElem? (i := 1115) rfl, List.mem_of_getElem? (i := 1750) rfl, List.mem_of_getElem? (i := 1751) rfl⟩
def lw_privs_6 : List (MethodName × Nat) := [(⟨"HookPierModel", "refusesSure", "(I)I"⟩, 30), (⟨"HookPierModel", "sureQuestion", "(I)I"⟩, 30), (⟨"HookPierModel", "codeOf", "(I)I"⟩, 30), (⟨"HookPierModel", "allAskers", "()I"⟩, 30), (⟨"HookPierModel", "seats", "(I)V"⟩, 30), (⟨"HookPierModel", "nextIn", "(II)I"⟩, 30), (⟨"HookPierModel", "isSeat", "(II)Z"⟩, 30), (⟨"HookPierModel", "lastIn", "(II)I"⟩, 30), (⟨"HookPierModel", "refusesDark", "()I"⟩, 30), (⟨"HookPierModel", "isDark", "(I)Z"⟩, 30), (⟨"HookPierModel", "toAsk", "()I"⟩, 30), (⟨"HookPierModel", "leaves", "(I)I"⟩, 30), (⟨"HookPierModel", "refusesLoad", "(I)I"⟩, 30), (⟨"HookPierModel", "loads", "(I)V"⟩, 30), (⟨"HookPierModel", "worthNow", "(I)I"⟩, 30), (⟨"HookPierModel", "lost", "(I)I"⟩, 30)]
theorem lw_r6 : ∀ q ∈ lw_privs_6, lw_okq q := List.forall_mem_cons.mpr ⟨lw_p80, List.forall_mem_cons.mpr ⟨lw_p81, List.forall_mem_cons.mpr ⟨lw_p82, List.forall_mem_cons.mpr ⟨lw_p83, List.forall_mem_cons.mpr ⟨lw_p84, List.forall_mem_cons.mpr ⟨lw_p85, List.forall_mem_cons.mpr ⟨lw_p86, List.forall_mem_cons.mpr ⟨lw_p87, List.forall_mem_cons.mpr ⟨lw_p88, List.forall_mem_cons.mpr ⟨lw_p89, List.forall_mem_cons.mpr ⟨lw_p90, List.forall_mem_cons.mpr ⟨lw_p91, List.forall_mem_cons.mpr ⟨lw_p92, List.forall_mem_cons.mpr ⟨lw_p93, List.forall_mem_cons.mpr ⟨lw_p94, List.forall_mem_cons.mpr ⟨lw_p95, fun _ h => absurd h List.not_mem_nil⟩⟩⟩⟩⟩⟩⟩⟩⟩⟩⟩⟩⟩⟩⟩⟩
set_option maxRecDepth 100000 in
theorem lw_p96 : lw_okq (⟨"HookPierModel", "refusesStock", "(I)I"⟩, 30) := ⟨⟨by decide +kernel, by decide +kernel⟩, List.mem_of_getElem? (i := 1115) rfl, List.mem_of_getElem? (i := 1761) rfl, List.mem_of_getElem? (i := 1762) rfl⟩
set_option maxRecDepth 100000 in
theorem lw_p97 : lw_okq (⟨"HookPierModel", "refusesDays", "(ZII)I"⟩, 30) := ⟨⟨by decide +kernel, by decide +kernel⟩, List.mem_of_getElem? (i := 1115) rfl, List.mem_of_getElem? (i := 1776) rfl, List.mem_of_getElem? (i := 1777) rfl⟩
set_option maxRecDepth 100000 in
theorem lw_p98 : lw_okq (⟨"HookPierModel", "days", "(III)V"⟩, 30) := ⟨⟨by decide +kernel, by decide +kernel⟩, List.mem_of_getElem? (i := 1115) rfl, List.mem_of_getElem? (i := 1781) rfl, List.mem_of_getElem? (i := 1782) rfl⟩
set_option maxRecDepth 100000 in
theorem lw_p99 : lw_okq (⟨"HookPierModel", "tries", "()V"⟩, 30) := ⟨⟨by decide +kernel, by decide +kernel⟩, List.mem_of_getElem? (i := 1115) rfl, List.mem_of_getElem? (i := 1785) rfl, List.mem_of_getElem? (i := 1786) rfl⟩
set_option maxRecDepth 100000 in
theorem lw_p100 : lw_okq (⟨"HookPierModel", "goesBy", "([I)I"⟩, 30) := ⟨⟨by decide +kernel, by decide +kernel⟩, List.mem_of_getElem? (i := 1115) rfl, List.mem_of_getElem? (i := 1789) rfl, List.mem_of_getElem? (i := 1790) rfl⟩
set_option maxRecDepth 100000 in
theorem lw_p101 : lw_okq (⟨"HookPierModel", "taker", "([II)I"⟩, 30) := ⟨⟨by decide +kernel, by decide +kernel⟩, List.mem_of_getElem? (i := 1115) rfl, List.mem_of_getElem? (i := 1793) rfl, List.mem_of_getElem? (i := 1794) rfl⟩
set_option maxRecDepth 100000 in
theorem lw_p102 : lw_okq (⟨"HookPierModel", "denied", "(I)Z"⟩, 30) := ⟨⟨by decide +kernel, by decide +kernel⟩, List.mem_of_getElem? (i := 1115) rfl, List.mem_of_getElem? (i := 1812) rfl, List.mem_of_getElem? (i := 1813) rfl⟩
set_option maxRecDepth 100000 in
theorem lw_p103 : lw_okq (⟨"HookPierModel", "remembers", "()V"⟩, 30) := ⟨⟨by decide +kernel, by decide +kernel⟩, List.mem_of_getElem? (i := 1115) rfl, List.mem_of_getElem? (i := 1816) rfl, List.mem_of_getElem? (i := 1817) rfl⟩
set_option maxRecDepth 100000 in
theorem lw_p104 : lw_okq (⟨"HookPierModel", "granted", "()Z"⟩, 30) := ⟨⟨by decide +kernel, by decide +kernel⟩, List.mem_of_getElem? (i := 1115) rfl, List.mem_of_getElem? (i := 1820) rfl, List.mem_of_getElem? (i := 1821) rfl⟩
def lw_privs_7 : List (MethodName × Nat) := [(⟨"HookPierModel", "refusesStock", "(I)I"⟩, 30), (⟨"HookPierModel", "refusesDays", "(ZII)I"⟩, 30), (⟨"HookPierModel", "days", "(III)V"⟩, 30), (⟨"HookPierModel", "tries", "()V"⟩, 30), (⟨"HookPierModel", "goesBy", "([I)I"⟩, 30), (⟨"HookPierModel", "taker", "([II)I"⟩, 30), (⟨"HookPierModel", "denied", "(I)Z"⟩, 30), (⟨"HookPierModel", "remembers", "()V"⟩, 30), (⟨"HookPierModel", "granted", "()Z"⟩, 30)]
theorem lw_r7 : ∀ q ∈ lw_privs_7, lw_okq q := List.forall_mem_cons.mpr ⟨lw_p96, List.forall_mem_cons.mpr ⟨lw_p97, List.forall_mem_cons.mpr ⟨lw_p98, List.forall_mem_cons.mpr ⟨lw_p99, List.forall_mem_cons.mpr ⟨lw_p100, List.forall_mem_cons.mpr ⟨lw_p101, List.forall_mem_cons.mpr ⟨lw_p102, List.forall_mem_cons.mpr ⟨lw_p103, List.forall_mem_cons.mpr ⟨lw_p104, fun _ h => absurd h List.not_mem_nil⟩⟩⟩⟩⟩⟩⟩⟩⟩
def lw_privs : List (MethodName × Nat) := lw_privs_1 ++ (lw_privs_2 ++ (lw_privs_3 ++ (lw_privs_4 ++ (lw_privs_5 ++ (lw_privs_6 ++ (lw_privs_7))))))
def lw_tbl : List Cond := k2_sels lw_privs ++ tables_1
theorem lw_privs_ok : ∀ q ∈ lw_privs, lw_okq q := by
  show ∀ q ∈ lw_privs_1 ++ (lw_privs_2 ++ (lw_privs_3 ++ (lw_privs_4 ++ (lw_privs_5 ++ (lw_privs_6 ++ (lw_privs_7)))))), lw_okq q
  exact List.forall_mem_append.mpr ⟨lw_r1, List.forall_mem_append.mpr ⟨lw_r2, List.forall_mem_append.mpr ⟨lw_r3, List.forall_mem_append.mpr ⟨lw_r4, List.forall_mem_append.mpr ⟨lw_r5, List.forall_mem_append.mpr ⟨lw_r6, lw_r7⟩⟩⟩⟩⟩⟩
