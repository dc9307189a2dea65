-- ===== PART A: goes FIRST, ahead of the names: the tables' words, and 'selects' of the private methods out of them =====
/-- a private method of a class that the tables say can be made, by its rows of tables_1 -/
def lw_okq (q : MethodName × Nat) : Prop := (q.1.cls ≠ "java/lang/invoke/MethodHandle" ∧ q.1.cls ≠ "java/lang/invoke/VarHandle") ∧ Cond.instantiable q.1.cls q.2 ∈ tables_1 ∧ Cond.privateMethod q.1 ∈ tables_1 ∧ Cond.instanceMethod q.1 ∈ tables_1
theorem lz_1 {w : Cond} (h : w ∈ tables_1_1) : w ∈ tables_1 := (List.mem_append_left _ h)
theorem lz_2 {w : Cond} (h : w ∈ tables_1_2) : w ∈ tables_1 := (List.mem_append_right _ (List.mem_append_left _ h))
theorem lz_3 {w : Cond} (h : w ∈ tables_1_3) : w ∈ tables_1 := (List.mem_append_right _ (List.mem_append_right _ (List.mem_append_left _ h)))
theorem lz_4 {w : Cond} (h : w ∈ tables_1_4) : w ∈ tables_1 := (List.mem_append_right _ (List.mem_append_right _ (List.mem_append_right _ (List.mem_append_left _ h))))
theorem lz_5 {w : Cond} (h : w ∈ tables_1_5) : w ∈ tables_1 := (List.mem_append_right _ (List.mem_append_right _ (List.mem_append_right _ (List.mem_append_right _ (List.mem_append_left _ h)))))
theorem lz_6 {w : Cond} (h : w ∈ tables_1_6) : w ∈ tables_1 := (List.mem_append_right _ (List.mem_append_right _ (List.mem_append_right _ (List.mem_append_right _ (List.mem_append_right _ (List.mem_append_left _ h))))))
theorem lz_7 {w : Cond} (h : w ∈ tables_1_7) : w ∈ tables_1 := (List.mem_append_right _ (List.mem_append_right _ (List.mem_append_right _ (List.mem_append_right _ (List.mem_append_right _ (List.mem_append_right _ (List.mem_append_left _ h)))))))
theorem lz_8 {w : Cond} (h : w ∈ tables_1_8) : w ∈ tables_1 := (List.mem_append_right _ (List.mem_append_right _ (List.mem_append_right _ (List.mem_append_right _ (List.mem_append_right _ (List.mem_append_right _ (List.mem_append_right _ h)))))))
theorem lwc_0 : (("HookPier" : String) ≠ "java/lang/invoke/MethodHandle" ∧ ("HookPier" : String) ≠ "java/lang/invoke/VarHandle") := ⟨by decide +kernel, by decide +kernel⟩
set_option maxRecDepth 100000 in
theorem lwi_0 : Cond.instantiable "HookPier" 10 ∈ tables_1 := lz_1 (List.mem_of_getElem? (i := 26) rfl)
theorem lwc_1 : (("HookPier$Reader" : String) ≠ "java/lang/invoke/MethodHandle" ∧ ("HookPier$Reader" : String) ≠ "java/lang/invoke/VarHandle") := ⟨by decide +kernel, by decide +kernel⟩
set_option maxRecDepth 100000 in
theorem lwi_1 : Cond.instantiable "HookPier$Reader" 12 ∈ tables_1 := lz_1 (List.mem_of_getElem? (i := 145) rfl)
theorem lwc_2 : (("HookPier$Seats" : String) ≠ "java/lang/invoke/MethodHandle" ∧ ("HookPier$Seats" : String) ≠ "java/lang/invoke/VarHandle") := ⟨by decide +kernel, by decide +kernel⟩
set_option maxRecDepth 100000 in
theorem lwi_2 : Cond.instantiable "HookPier$Seats" 3 ∈ tables_1 := lz_2 (List.mem_of_getElem? (i := 23) rfl)
theorem lwc_3 : (("HookPier$Days" : String) ≠ "java/lang/invoke/MethodHandle" ∧ ("HookPier$Days" : String) ≠ "java/lang/invoke/VarHandle") := ⟨by decide +kernel, by decide +kernel⟩
set_option maxRecDepth 100000 in
theorem lwi_3 : Cond.instantiable "HookPier$Days" 4 ∈ tables_1 := lz_2 (List.mem_of_getElem? (i := 55) rfl)
theorem lwc_4 : (("java/lang/Throwable" : String) ≠ "java/lang/invoke/MethodHandle" ∧ ("java/lang/Throwable" : String) ≠ "java/lang/invoke/VarHandle") := ⟨by decide +kernel, by decide +kernel⟩
set_option maxRecDepth 100000 in
theorem lwi_4 : Cond.instantiable "java/lang/Throwable" 6 ∈ tables_1 := lz_5 (List.mem_of_getElem? (i := 126) rfl)
theorem lwc_5 : (("HookPierModel" : String) ≠ "java/lang/invoke/MethodHandle" ∧ ("HookPierModel" : String) ≠ "java/lang/invoke/VarHandle") := ⟨by decide +kernel, by decide +kernel⟩
set_option maxRecDepth 100000 in
theorem lwi_5 : Cond.instantiable "HookPierModel" 30 ∈ tables_1 := lz_5 (List.mem_of_getElem? (i := 155) rfl)
set_option maxRecDepth 100000 in
theorem lw_p0 : lw_okq (⟨"HookPier", "refused", "(I)Z"⟩, 10) := ⟨lwc_0, lwi_0, lz_2 (List.mem_of_getElem? (i := 125) rfl), lz_2 (List.mem_of_getElem? (i := 126) rfl)⟩
set_option maxRecDepth 100000 in
theorem lw_p1 : lw_okq (⟨"HookPier$Reader", "advance", "()V"⟩, 12) := ⟨lwc_1, lwi_1, lz_2 (List.mem_of_getElem? (i := 140) rfl), lz_2 (List.mem_of_getElem? (i := 141) rfl)⟩
set_option maxRecDepth 100000 in
theorem lw_p2 : lw_okq (⟨"HookPier$Reader", "isLetter", "(I)Z"⟩, 12) := ⟨lwc_1, lwi_1, lz_2 (List.mem_of_getElem? (i := 144) rfl), lz_2 (List.mem_of_getElem? (i := 145) rfl)⟩
set_option maxRecDepth 100000 in
theorem lw_p3 : lw_okq (⟨"HookPier$Reader", "isDigit", "(I)Z"⟩, 12) := ⟨lwc_1, lwi_1, lz_2 (List.mem_of_getElem? (i := 148) rfl), lz_2 (List.mem_of_getElem? (i := 149) rfl)⟩
set_option maxRecDepth 100000 in
theorem lw_p4 : lw_okq (⟨"HookPier$Reader", "readLine", "(LHookPier$Plan;)Z"⟩, 12) := ⟨lwc_1, lwi_1, lz_2 (List.mem_of_getElem? (i := 152) rfl), lz_2 (List.mem_of_getElem? (i := 153) rfl)⟩
set_option maxRecDepth 100000 in
theorem lw_p5 : lw_okq (⟨"HookPier$Reader", "isWord", "(Ljava/lang/String;)Z"⟩, 12) := ⟨lwc_1, lwi_1, lz_2 (List.mem_of_getElem? (i := 157) rfl), lz_2 (List.mem_of_getElem? (i := 158) rfl)⟩
set_option maxRecDepth 100000 in
theorem lw_p6 : lw_okq (⟨"HookPier$Reader", "readPier", "(LHookPier$Plan;)Z"⟩, 12) := ⟨lwc_1, lwi_1, lz_2 (List.mem_of_getElem? (i := 209) rfl), lz_2 (List.mem_of_getElem? (i := 210) rfl)⟩
set_option maxRecDepth 100000 in
theorem lw_p7 : lw_okq (⟨"HookPier$Reader", "takeWord", "(Ljava/lang/String;)Z"⟩, 12) := ⟨lwc_1, lwi_1, lz_2 (List.mem_of_getElem? (i := 214) rfl), lz_2 (List.mem_of_getElem? (i := 215) rfl)⟩
set_option maxRecDepth 100000 in
theorem lw_p8 : lw_okq (⟨"HookPier$Reader", "fail", "(I)Z"⟩, 12) := ⟨lwc_1, lwi_1, lz_2 (List.mem_of_getElem? (i := 218) rfl), lz_2 (List.mem_of_getElem? (i := 219) rfl)⟩
set_option maxRecDepth 100000 in
theorem lw_p9 : lw_okq (⟨"HookPier$Reader", "takeWhole", "(II)Z"⟩, 12) := ⟨lwc_1, lwi_1, lz_2 (List.mem_of_getElem? (i := 222) rfl), lz_2 (List.mem_of_getElem? (i := 223) rfl)⟩
set_option maxRecDepth 100000 in
theorem lw_p10 : lw_okq (⟨"HookPier$Reader", "opens", "(LHookPier$Plan;I)Z"⟩, 12) := ⟨lwc_1, lwi_1, lz_2 (List.mem_of_getElem? (i := 231) rfl), lz_2 (List.mem_of_getElem? (i := 232) rfl)⟩
set_option maxRecDepth 100000 in
theorem lw_p11 : lw_okq (⟨"HookPier$Reader", "readBait", "(LHookPier$Plan;)Z"⟩, 12) := ⟨lwc_1, lwi_1, lz_2 (List.mem_of_getElem? (i := 235) rfl), lz_2 (List.mem_of_getElem? (i := 236) rfl)⟩
set_option maxRecDepth 100000 in
theorem lw_p12 : lw_okq (⟨"HookPier$Reader", "takeNewName", "(I)Z"⟩, 12) := ⟨lwc_1, lwi_1, lz_2 (List.mem_of_getElem? (i := 239) rfl), lz_3 (List.mem_of_getElem? (i := 0) rfl)⟩
set_option maxRecDepth 100000 in
theorem lw_p13 : lw_okq (⟨"HookPier$Reader", "isName", "()Z"⟩, 12) := ⟨lwc_1, lwi_1, lz_3 (List.mem_of_getElem? (i := 3) rfl), lz_3 (List.mem_of_getElem? (i := 4) rfl)⟩
set_option maxRecDepth 100000 in
theorem lw_p14 : lw_okq (⟨"HookPier$Reader", "wordCode", "()J"⟩, 12) := ⟨lwc_1, lwi_1, lz_3 (List.mem_of_getElem? (i := 11) rfl), lz_3 (List.mem_of_getElem? (i := 12) rfl)⟩
set_option maxRecDepth 100000 in
theorem lw_p15 : lw_okq (⟨"HookPier$Reader", "nameOf", "(J)I"⟩, 12) := ⟨lwc_1, lwi_1, lz_3 (List.mem_of_getElem? (i := 17) rfl), lz_3 (List.mem_of_getElem? (i := 18) rfl)⟩
def lw_privs_1 : List (MethodName × Nat) := [(⟨"HookPier", "refused", "(I)Z"⟩, 10), (⟨"HookPier$Reader", "advance", "()V"⟩, 12), (⟨"HookPier$Reader", "isLetter", "(I)Z"⟩, 12), (⟨"HookPier$Reader", "isDigit", "(I)Z"⟩, 12), (⟨"HookPier$Reader", "readLine", "(LHookPier$Plan;)Z"⟩, 12), (⟨"HookPier$Reader", "isWord", "(Ljava/lang/String;)Z"⟩, 12), (⟨"HookPier$Reader", "readPier", "(LHookPier$Plan;)Z"⟩, 12), (⟨"HookPier$Reader", "takeWord", "(Ljava/lang/String;)Z"⟩, 12), (⟨"HookPier$Reader", "fail", "(I)Z"⟩, 12), (⟨"HookPier$Reader", "takeWhole", "(II)Z"⟩, 12), (⟨"HookPier$Reader", "opens", "(LHookPier$Plan;I)Z"⟩, 12), (⟨"HookPier$Reader", "readBait", "(LHookPier$Plan;)Z"⟩, 12), (⟨"HookPier$Reader", "takeNewName", "(I)Z"⟩, 12), (⟨"HookPier$Reader", "isName", "()Z"⟩, 12), (⟨"HookPier$Reader", "wordCode", "()J"⟩, 12), (⟨"HookPier$Reader", "nameOf", "(J)I"⟩, 12)]
theorem lw_r1 : ∀ q ∈ lw_privs_1, lw_okq q := List.forall_mem_cons.mpr ⟨lw_p0, List.forall_mem_cons.mpr ⟨lw_p1, List.forall_mem_cons.mpr ⟨lw_p2, List.forall_mem_cons.mpr ⟨lw_p3, List.forall_mem_cons.mpr ⟨lw_p4, List.forall_mem_cons.mpr ⟨lw_p5, List.forall_mem_cons.mpr ⟨lw_p6, List.forall_mem_cons.mpr ⟨lw_p7, List.forall_mem_cons.mpr ⟨lw_p8, List.forall_mem_cons.mpr ⟨lw_p9, List.forall_mem_cons.mpr ⟨lw_p10, List.forall_mem_cons.mpr ⟨lw_p11, List.forall_mem_cons.mpr ⟨lw_p12, List.forall_mem_cons.mpr ⟨lw_p13, List.forall_mem_cons.mpr ⟨lw_p14, List.forall_mem_cons.mpr ⟨lw_p15, fun _ h => absurd h List.not_mem_nil⟩⟩⟩⟩⟩⟩⟩⟩⟩⟩⟩⟩⟩⟩⟩⟩
set_option maxRecDepth 100000 in
theorem lw_p16 : lw_okq (⟨"HookPier$Reader", "readAsker", "(LHookPier$Plan;)Z"⟩, 12) := ⟨lwc_1, lwi_1, lz_3 (List.mem_of_getElem? (i := 21) rfl), lz_3 (List.mem_of_getElem? (i := 22) rfl)⟩
set_option maxRecDepth 100000 in
theorem lw_p17 : lw_okq (⟨"HookPier$Reader", "readAnswer", "(LHookPier$Plan;)Z"⟩, 12) := ⟨lwc_1, lwi_1, lz_3 (List.mem_of_getElem? (i := 26) rfl), lz_3 (List.mem_of_getElem? (i := 27) rfl)⟩
set_option maxRecDepth 100000 in
theorem lw_p18 : lw_okq (⟨"HookPier$Reader", "takeKind", "()Z"⟩, 12) := ⟨lwc_1, lwi_1, lz_3 (List.mem_of_getElem? (i := 30) rfl), lz_3 (List.mem_of_getElem? (i := 31) rfl)⟩
set_option maxRecDepth 100000 in
theorem lw_p19 : lw_okq (⟨"HookPier$Reader", "takeBait", "()Z"⟩, 12) := ⟨lwc_1, lwi_1, lz_3 (List.mem_of_getElem? (i := 42) rfl), lz_3 (List.mem_of_getElem? (i := 43) rfl)⟩
set_option maxRecDepth 100000 in
theorem lw_p20 : lw_okq (⟨"HookPier$Reader", "readDark", "(LHookPier$Plan;)Z"⟩, 12) := ⟨lwc_1, lwi_1, lz_3 (List.mem_of_getElem? (i := 47) rfl), lz_3 (List.mem_of_getElem? (i := 48) rfl)⟩
set_option maxRecDepth 100000 in
theorem lw_p21 : lw_okq (⟨"HookPier$Reader", "readBite", "(LHookPier$Plan;)Z"⟩, 12) := ⟨lwc_1, lwi_1, lz_3 (List.mem_of_getElem? (i := 51) rfl), lz_3 (List.mem_of_getElem? (i := 52) rfl)⟩
set_option maxRecDepth 100000 in
theorem lw_p22 : lw_okq (⟨"HookPier$Reader", "takeYes", "()Z"⟩, 12) := ⟨lwc_1, lwi_1, lz_3 (List.mem_of_getElem? (i := 59) rfl), lz_3 (List.mem_of_getElem? (i := 60) rfl)⟩
set_option maxRecDepth 100000 in
theorem lw_p23 : lw_okq (⟨"HookPier", "answerTrouble", "(I)I"⟩, 10) := ⟨lwc_0, lwi_0, lz_3 (List.mem_of_getElem? (i := 85) rfl), lz_3 (List.mem_of_getElem? (i := 86) rfl)⟩
set_option maxRecDepth 100000 in
theorem lw_p24 : lw_okq (⟨"HookPier", "askerTrouble", "(I)I"⟩, 10) := ⟨lwc_0, lwi_0, lz_3 (List.mem_of_getElem? (i := 109) rfl), lz_3 (List.mem_of_getElem? (i := 110) rfl)⟩
set_option maxRecDepth 100000 in
theorem lw_p25 : lw_okq (⟨"HookPier", "numberTrouble", "(Z)I"⟩, 10) := ⟨lwc_0, lwi_0, lz_3 (List.mem_of_getElem? (i := 146) rfl), lz_3 (List.mem_of_getElem? (i := 147) rfl)⟩
set_option maxRecDepth 100000 in
theorem lw_p26 : lw_okq (⟨"HookPier", "pierTrouble", "()I"⟩, 10) := ⟨lwc_0, lwi_0, lz_3 (List.mem_of_getElem? (i := 150) rfl), lz_3 (List.mem_of_getElem? (i := 151) rfl)⟩
set_option maxRecDepth 100000 in
theorem lw_p27 : lw_okq (⟨"HookPier", "wishTrouble", "(IIII)I"⟩, 10) := ⟨lwc_0, lwi_0, lz_3 (List.mem_of_getElem? (i := 162) rfl), lz_3 (List.mem_of_getElem? (i := 163) rfl)⟩
set_option maxRecDepth 100000 in
theorem lw_p28 : lw_okq (⟨"HookPier", "questionTrouble", "(III)I"⟩, 10) := ⟨lwc_0, lwi_0, lz_3 (List.mem_of_getElem? (i := 166) rfl), lz_3 (List.mem_of_getElem? (i := 167) rfl)⟩
set_option maxRecDepth 100000 in
theorem lw_p29 : lw_okq (⟨"HookPier", "thereTrouble", "(I)I"⟩, 10) := ⟨lwc_0, lwi_0, lz_3 (List.mem_of_getElem? (i := 230) rfl), lz_3 (List.mem_of_getElem? (i := 231) rfl)⟩
set_option maxRecDepth 100000 in
theorem lw_p30 : lw_okq (⟨"HookPier", "likers", "(I)I"⟩, 10) := ⟨lwc_0, lwi_0, lz_4 (List.mem_of_getElem? (i := 23) rfl), lz_4 (List.mem_of_getElem? (i := 24) rfl)⟩
set_option maxRecDepth 100000 in
theorem lw_p31 : lw_okq (⟨"HookPier", "everyAsker", "()I"⟩, 10) := ⟨lwc_0, lwi_0, lz_4 (List.mem_of_getElem? (i := 45) rfl), lz_4 (List.mem_of_getElem? (i := 46) rfl)⟩
def lw_privs_2 : List (MethodName × Nat) := [(⟨"HookPier$Reader", "readAsker", "(LHookPier$Plan;)Z"⟩, 12), (⟨"HookPier$Reader", "readAnswer", "(LHookPier$Plan;)Z"⟩, 12), (⟨"HookPier$Reader", "takeKind", "()Z"⟩, 12), (⟨"HookPier$Reader", "takeBait", "()Z"⟩, 12), (⟨"HookPier$Reader", "readDark", "(LHookPier$Plan;)Z"⟩, 12), (⟨"HookPier$Reader", "readBite", "(LHookPier$Plan;)Z"⟩, 12), (⟨"HookPier$Reader", "takeYes", "()Z"⟩, 12), (⟨"HookPier", "answerTrouble", "(I)I"⟩, 10), (⟨"HookPier", "askerTrouble", "(I)I"⟩, 10), (⟨"HookPier", "numberTrouble", "(Z)I"⟩, 10), (⟨"HookPier", "pierTrouble", "()I"⟩, 10), (⟨"HookPier", "wishTrouble", "(IIII)I"⟩, 10), (⟨"HookPier", "questionTrouble", "(III)I"⟩, 10), (⟨"HookPier", "thereTrouble", "(I)I"⟩, 10), (⟨"HookPier", "likers", "(I)I"⟩, 10), (⟨"HookPier", "everyAsker", "()I"⟩, 10)]
theorem lw_r2 : ∀ q ∈ lw_privs_2, lw_okq q := List.forall_mem_cons.mpr ⟨lw_p16, List.forall_mem_cons.mpr ⟨lw_p17, List.forall_mem_cons.mpr ⟨lw_p18, List.forall_mem_cons.mpr ⟨lw_p19, List.forall_mem_cons.mpr ⟨lw_p20, List.forall_mem_cons.mpr ⟨lw_p21, List.forall_mem_cons.mpr ⟨lw_p22, List.forall_mem_cons.mpr ⟨lw_p23, List.forall_mem_cons.mpr ⟨lw_p24, List.forall_mem_cons.mpr ⟨lw_p25, List.forall_mem_cons.mpr ⟨lw_p26, List.forall_mem_cons.mpr ⟨lw_p27, List.forall_mem_cons.mpr ⟨lw_p28, List.forall_mem_cons.mpr ⟨lw_p29, List.forall_mem_cons.mpr ⟨lw_p30, List.forall_mem_cons.mpr ⟨lw_p31, fun _ h => absurd h List.not_mem_nil⟩⟩⟩⟩⟩⟩⟩⟩⟩⟩⟩⟩⟩⟩⟩⟩
set_option maxRecDepth 100000 in
theorem lw_p32 : lw_okq (⟨"HookPier$Seats", "fill", "(LHookPier$Plan;III)V"⟩, 3) := ⟨lwc_2, lwi_2, lz_4 (List.mem_of_getElem? (i := 53) rfl), lz_4 (List.mem_of_getElem? (i := 54) rfl)⟩
set_option maxRecDepth 100000 in
theorem lw_p33 : lw_okq (⟨"HookPier$Seats", "keepRow", "()V"⟩, 3) := ⟨lwc_2, lwi_2, lz_4 (List.mem_of_getElem? (i := 57) rfl), lz_4 (List.mem_of_getElem? (i := 58) rfl)⟩
set_option maxRecDepth 100000 in
theorem lw_p34 : lw_okq (⟨"HookPier$Seats", "isFree", "(LHookPier$Plan;II)Z"⟩, 3) := ⟨lwc_2, lwi_2, lz_4 (List.mem_of_getElem? (i := 64) rfl), lz_4 (List.mem_of_getElem? (i := 65) rfl)⟩
set_option maxRecDepth 100000 in
theorem lw_p35 : lw_okq (⟨"HookPier", "darkTrouble", "()I"⟩, 10) := ⟨lwc_0, lwi_0, lz_4 (List.mem_of_getElem? (i := 87) rfl), lz_4 (List.mem_of_getElem? (i := 88) rfl)⟩
set_option maxRecDepth 100000 in
theorem lw_p36 : lw_okq (⟨"HookPier", "hooksTrouble", "(IIII)I"⟩, 10) := ⟨lwc_0, lwi_0, lz_4 (List.mem_of_getElem? (i := 171) rfl), lz_4 (List.mem_of_getElem? (i := 172) rfl)⟩
set_option maxRecDepth 100000 in
theorem lw_p37 : lw_okq (⟨"HookPier$Days", "taken", "(LHookPier$Plan;LHookPier$Now;II)I"⟩, 4) := ⟨lwc_3, lwi_3, lz_4 (List.mem_of_getElem? (i := 238) rfl), lz_4 (List.mem_of_getElem? (i := 239) rfl)⟩
set_option maxRecDepth 100000 in
theorem lw_p38 : lw_okq (⟨"HookPier$Days", "note", "(II)V"⟩, 4) := ⟨lwc_3, lwi_3, lz_5 (List.mem_of_getElem? (i := 6) rfl), lz_5 (List.mem_of_getElem? (i := 7) rfl)⟩
set_option maxRecDepth 100000 in
theorem lw_p39 : lw_okq (⟨"HookPier", "letTrouble", "(IIII)I"⟩, 10) := ⟨lwc_0, lwi_0, lz_5 (List.mem_of_getElem? (i := 23) rfl), lz_5 (List.mem_of_getElem? (i := 24) rfl)⟩
set_option maxRecDepth 100000 in
theorem lw_p40 : lw_okq (⟨"java/lang/Throwable", "fillInStackTrace", "(I)Ljava/lang/Throwable;"⟩, 6) := ⟨lwc_4, lwi_4, lz_5 (List.mem_of_getElem? (i := 124) rfl), lz_5 (List.mem_of_getElem? (i := 125) rfl)⟩
set_option maxRecDepth 100000 in
theorem lw_p41 : lw_okq (⟨"HookPierModel", "refused", "(I)I"⟩, 30) := ⟨lwc_5, lwi_5, lz_6 (List.mem_of_getElem? (i := 20) rfl), lz_6 (List.mem_of_getElem? (i := 21) rfl)⟩
set_option maxRecDepth 100000 in
theorem lw_p42 : lw_okq (⟨"HookPierModel", "goesOn", "()V"⟩, 30) := ⟨lwc_5, lwi_5, lz_6 (List.mem_of_getElem? (i := 125) rfl), lz_6 (List.mem_of_getElem? (i := 126) rfl)⟩
set_option maxRecDepth 100000 in
theorem lw_p43 : lw_okq (⟨"HookPierModel", "byteAt", "(I)I"⟩, 30) := ⟨lwc_5, lwi_5, lz_6 (List.mem_of_getElem? (i := 129) rfl), lz_6 (List.mem_of_getElem? (i := 130) rfl)⟩
set_option maxRecDepth 100000 in
theorem lw_p44 : lw_okq (⟨"HookPierModel", "readAll", "()V"⟩, 30) := ⟨lwc_5, lwi_5, lz_6 (List.mem_of_getElem? (i := 140) rfl), lz_6 (List.mem_of_getElem? (i := 141) rfl)⟩
set_option maxRecDepth 100000 in
theorem lw_p45 : lw_okq (⟨"HookPierModel", "readLine", "()V"⟩, 30) := ⟨lwc_5, lwi_5, lz_6 (List.mem_of_getElem? (i := 144) rfl), lz_6 (List.mem_of_getElem? (i := 145) rfl)⟩
set_option maxRecDepth 100000 in
theorem lw_p46 : lw_okq (⟨"HookPierModel", "isWord", "(Ljava/lang/String;)Z"⟩, 30) := ⟨lwc_5, lwi_5, lz_6 (List.mem_of_getElem? (i := 149) rfl), lz_6 (List.mem_of_getElem? (i := 150) rfl)⟩
set_option maxRecDepth 100000 in
theorem lw_p47 : lw_okq (⟨"HookPierModel", "readPier", "()V"⟩, 30) := ⟨lwc_5, lwi_5, lz_6 (List.mem_of_getElem? (i := 158) rfl), lz_6 (List.mem_of_getElem? (i := 159) rfl)⟩
def lw_privs_3 : List (MethodName × Nat) := [(⟨"HookPier$Seats", "fill", "(LHookPier$Plan;III)V"⟩, 3), (⟨"HookPier$Seats", "keepRow", "()V"⟩, 3), (⟨"HookPier$Seats", "isFree", "(LHookPier$Plan;II)Z"⟩, 3), (⟨"HookPier", "darkTrouble", "()I"⟩, 10), (⟨"HookPier", "hooksTrouble", "(IIII)I"⟩, 10), (⟨"HookPier$Days", "taken", "(LHookPier$Plan;LHookPier$Now;II)I"⟩, 4), (⟨"HookPier$Days", "note", "(II)V"⟩, 4), (⟨"HookPier", "letTrouble", "(IIII)I"⟩, 10), (⟨"java/lang/Throwable", "fillInStackTrace", "(I)Ljava/lang/Throwable;"⟩, 6), (⟨"HookPierModel", "refused", "(I)I"⟩, 30), (⟨"HookPierModel", "goesOn", "()V"⟩, 30), (⟨"HookPierModel", "byteAt", "(I)I"⟩, 30), (⟨"HookPierModel", "readAll", "()V"⟩, 30), (⟨"HookPierModel", "readLine", "()V"⟩, 30), (⟨"HookPierModel", "isWord", "(Ljava/lang/String;)Z"⟩, 30), (⟨"HookPierModel", "readPier", "()V"⟩, 30)]
theorem lw_r3 : ∀ q ∈ lw_privs_3, lw_okq q := List.forall_mem_cons.mpr ⟨lw_p32, List.forall_mem_cons.mpr ⟨lw_p33, List.forall_mem_cons.mpr ⟨lw_p34, List.forall_mem_cons.mpr ⟨lw_p35, List.forall_mem_cons.mpr ⟨lw_p36, List.forall_mem_cons.mpr ⟨lw_p37, List.forall_mem_cons.mpr ⟨lw_p38, List.forall_mem_cons.mpr ⟨lw_p39, List.forall_mem_cons.mpr ⟨lw_p40, List.forall_mem_cons.mpr ⟨lw_p41, List.forall_mem_cons.mpr ⟨lw_p42, List.forall_mem_cons.mpr ⟨lw_p43, List.forall_mem_cons.mpr ⟨lw_p44, List.forall_mem_cons.mpr ⟨lw_p45, List.forall_mem_cons.mpr ⟨lw_p46, List.forall_mem_cons.mpr ⟨lw_p47, fun _ h => absurd h List.not_mem_nil⟩⟩⟩⟩⟩⟩⟩⟩⟩⟩⟩⟩⟩⟩⟩⟩
set_option maxRecDepth 100000 in
theorem lw_p48 : lw_okq (⟨"HookPierModel", "flaw", "(I)V"⟩, 30) := ⟨lwc_5, lwi_5, lz_6 (List.mem_of_getElem? (i := 162) rfl), lz_6 (List.mem_of_getElem? (i := 163) rfl)⟩
set_option maxRecDepth 100000 in
theorem lw_p49 : lw_okq (⟨"HookPierModel", "readPart", "(Ljava/lang/String;II)I"⟩, 30) := ⟨lwc_5, lwi_5, lz_6 (List.mem_of_getElem? (i := 167) rfl), lz_6 (List.mem_of_getElem? (i := 168) rfl)⟩
set_option maxRecDepth 100000 in
theorem lw_p50 : lw_okq (⟨"HookPierModel", "needs", "(Ljava/lang/String;)V"⟩, 30) := ⟨lwc_5, lwi_5, lz_6 (List.mem_of_getElem? (i := 171) rfl), lz_6 (List.mem_of_getElem? (i := 172) rfl)⟩
set_option maxRecDepth 100000 in
theorem lw_p51 : lw_okq (⟨"HookPierModel", "readWhole", "(II)I"⟩, 30) := ⟨lwc_5, lwi_5, lz_6 (List.mem_of_getElem? (i := 175) rfl), lz_6 (List.mem_of_getElem? (i := 176) rfl)⟩
set_option maxRecDepth 100000 in
theorem lw_p52 : lw_okq (⟨"HookPierModel", "readBait", "()V"⟩, 30) := ⟨lwc_5, lwi_5, lz_6 (List.mem_of_getElem? (i := 186) rfl), lz_6 (List.mem_of_getElem? (i := 187) rfl)⟩
set_option maxRecDepth 100000 in
theorem lw_p53 : lw_okq (⟨"HookPierModel", "lineBegins", "(II)V"⟩, 30) := ⟨lwc_5, lwi_5, lz_6 (List.mem_of_getElem? (i := 190) rfl), lz_6 (List.mem_of_getElem? (i := 191) rfl)⟩
set_option maxRecDepth 100000 in
theorem lw_p54 : lw_okq (⟨"HookPierModel", "readFresh", "()J"⟩, 30) := ⟨lwc_5, lwi_5, lz_6 (List.mem_of_getElem? (i := 194) rfl), lz_6 (List.mem_of_getElem? (i := 195) rfl)⟩
set_option maxRecDepth 100000 in
theorem lw_p55 : lw_okq (⟨"HookPierModel", "isName", "()Z"⟩, 30) := ⟨lwc_5, lwi_5, lz_6 (List.mem_of_getElem? (i := 198) rfl), lz_6 (List.mem_of_getElem? (i := 199) rfl)⟩
set_option maxRecDepth 100000 in
theorem lw_p56 : lw_okq (⟨"HookPierModel", "names", "(JII)V"⟩, 30) := ⟨lwc_5, lwi_5, lz_6 (List.mem_of_getElem? (i := 210) rfl), lz_6 (List.mem_of_getElem? (i := 211) rfl)⟩
set_option maxRecDepth 100000 in
theorem lw_p57 : lw_okq (⟨"HookPierModel", "readAsker", "()V"⟩, 30) := ⟨lwc_5, lwi_5, lz_6 (List.mem_of_getElem? (i := 214) rfl), lz_6 (List.mem_of_getElem? (i := 215) rfl)⟩
set_option maxRecDepth 100000 in
theorem lw_p58 : lw_okq (⟨"HookPierModel", "readAnswer", "()V"⟩, 30) := ⟨lwc_5, lwi_5, lz_6 (List.mem_of_getElem? (i := 219) rfl), lz_6 (List.mem_of_getElem? (i := 220) rfl)⟩
set_option maxRecDepth 100000 in
theorem lw_p59 : lw_okq (⟨"HookPierModel", "readPartBait", "(Ljava/lang/String;)I"⟩, 30) := ⟨lwc_5, lwi_5, lz_6 (List.mem_of_getElem? (i := 231) rfl), lz_6 (List.mem_of_getElem? (i := 232) rfl)⟩
set_option maxRecDepth 100000 in
theorem lw_p60 : lw_okq (⟨"HookPierModel", "readDark", "()V"⟩, 30) := ⟨lwc_5, lwi_5, lz_6 (List.mem_of_getElem? (i := 236) rfl), lz_6 (List.mem_of_getElem? (i := 237) rfl)⟩
set_option maxRecDepth 100000 in
theorem lw_p61 : lw_okq (⟨"HookPierModel", "readBite", "()V"⟩, 30) := ⟨lwc_5, lwi_5, lz_7 (List.mem_of_getElem? (i := 0) rfl), lz_7 (List.mem_of_getElem? (i := 1) rfl)⟩
set_option maxRecDepth 100000 in
theorem lw_p62 : lw_okq (⟨"HookPierModel", "eatsSemicolon", "()Z"⟩, 30) := ⟨lwc_5, lwi_5, lz_7 (List.mem_of_getElem? (i := 7) rfl), lz_7 (List.mem_of_getElem? (i := 8) rfl)⟩
set_option maxRecDepth 100000 in
theorem lw_p63 : lw_okq (⟨"HookPierModel", "good", "(I)I"⟩, 30) := ⟨lwc_5, lwi_5, lz_7 (List.mem_of_getElem? (i := 11) rfl), lz_7 (List.mem_of_getElem? (i := 12) rfl)⟩
def lw_privs_4 : List (MethodName × Nat) := [(⟨"HookPierModel", "flaw", "(I)V"⟩, 30), (⟨"HookPierModel", "readPart", "(Ljava/lang/String;II)I"⟩, 30), (⟨"HookPierModel", "needs", "(Ljava/lang/String;)V"⟩, 30), (⟨"HookPierModel", "readWhole", "(II)I"⟩, 30), (⟨"HookPierModel", "readBait", "()V"⟩, 30), (⟨"HookPierModel", "lineBegins", "(II)V"⟩, 30), (⟨"HookPierModel", "readFresh", "()J"⟩, 30), (⟨"HookPierModel", "isName", "()Z"⟩, 30), (⟨"HookPierModel", "names", "(JII)V"⟩, 30), (⟨"HookPierModel", "readAsker", "()V"⟩, 30), (⟨"HookPierModel", "readAnswer", "()V"⟩, 30), (⟨"HookPierModel", "readPartBait", "(Ljava/lang/String;)I"⟩, 30), (⟨"HookPierModel", "readDark", "()V"⟩, 30), (⟨"HookPierModel", "readBite", "()V"⟩, 30), (⟨"HookPierModel", "eatsSemicolon", "()Z"⟩, 30), (⟨"HookPierModel", "good", "(I)I"⟩, 30)]
theorem lw_r4 : ∀ q ∈ lw_privs_4, lw_okq q := List.forall_mem_cons.mpr ⟨lw_p48, List.forall_mem_cons.mpr ⟨lw_p49, List.forall_mem_cons.mpr ⟨lw_p50, List.forall_mem_cons.mpr ⟨lw_p51, List.forall_mem_cons.mpr ⟨lw_p52, List.forall_mem_cons.mpr ⟨lw_p53, List.forall_mem_cons.mpr ⟨lw_p54, List.forall_mem_cons.mpr ⟨lw_p55, List.forall_mem_cons.mpr ⟨lw_p56, List.forall_mem_cons.mpr ⟨lw_p57, List.forall_mem_cons.mpr ⟨lw_p58, List.forall_mem_cons.mpr ⟨lw_p59, List.forall_mem_cons.mpr ⟨lw_p60, List.forall_mem_cons.mpr ⟨lw_p61, List.forall_mem_cons.mpr ⟨lw_p62, List.forall_mem_cons.mpr ⟨lw_p63, fun _ h => absurd h List.not_mem_nil⟩⟩⟩⟩⟩⟩⟩⟩⟩⟩⟩⟩⟩⟩⟩⟩
set_option maxRecDepth 100000 in
theorem lw_p64 : lw_okq (⟨"HookPierModel", "isAnswer", "(I)Z"⟩, 30) := ⟨lwc_5, lwi_5, lz_7 (List.mem_of_getElem? (i := 27) rfl), lz_7 (List.mem_of_getElem? (i := 28) rfl)⟩
set_option maxRecDepth 100000 in
theorem lw_p65 : lw_okq (⟨"HookPierModel", "keeps", "(III)I"⟩, 30) := ⟨lwc_5, lwi_5, lz_7 (List.mem_of_getElem? (i := 31) rfl), lz_7 (List.mem_of_getElem? (i := 32) rfl)⟩
set_option maxRecDepth 100000 in
theorem lw_p66 : lw_okq (⟨"HookPierModel", "isAsker", "(I)Z"⟩, 30) := ⟨lwc_5, lwi_5, lz_7 (List.mem_of_getElem? (i := 39) rfl), lz_7 (List.mem_of_getElem? (i := 40) rfl)⟩
set_option maxRecDepth 100000 in
theorem lw_p67 : lw_okq (⟨"HookPierModel", "spotOf", "(I)I"⟩, 30) := ⟨lwc_5, lwi_5, lz_7 (List.mem_of_getElem? (i := 43) rfl), lz_7 (List.mem_of_getElem? (i := 44) rfl)⟩
set_option maxRecDepth 100000 in
theorem lw_p68 : lw_okq (⟨"HookPierModel", "fathomsOf", "(I)I"⟩, 30) := ⟨lwc_5, lwi_5, lz_7 (List.mem_of_getElem? (i := 47) rfl), lz_7 (List.mem_of_getElem? (i := 48) rfl)⟩
set_option maxRecDepth 100000 in
theorem lw_p69 : lw_okq (⟨"HookPierModel", "baitOf", "(I)I"⟩, 30) := ⟨lwc_5, lwi_5, lz_7 (List.mem_of_getElem? (i := 51) rfl), lz_7 (List.mem_of_getElem? (i := 52) rfl)⟩
set_option maxRecDepth 100000 in
theorem lw_p70 : lw_okq (⟨"HookPierModel", "isTangled", "([II)Z"⟩, 30) := ⟨lwc_5, lwi_5, lz_7 (List.mem_of_getElem? (i := 55) rfl), lz_7 (List.mem_of_getElem? (i := 56) rfl)⟩
set_option maxRecDepth 100000 in
theorem lw_p71 : lw_okq (⟨"HookPierModel", "areTangled", "(IIII)Z"⟩, 30) := ⟨lwc_5, lwi_5, lz_7 (List.mem_of_getElem? (i := 59) rfl), lz_7 (List.mem_of_getElem? (i := 60) rfl)⟩
set_option maxRecDepth 100000 in
theorem lw_p72 : lw_okq (⟨"HookPierModel", "refusesQuestion", "(ZIII)I"⟩, 30) := ⟨lwc_5, lwi_5, lz_7 (List.mem_of_getElem? (i := 78) rfl), lz_7 (List.mem_of_getElem? (i := 79) rfl)⟩
set_option maxRecDepth 100000 in
theorem lw_p73 : lw_okq (⟨"HookPierModel", "question", "(III)I"⟩, 30) := ⟨lwc_5, lwi_5, lz_7 (List.mem_of_getElem? (i := 98) rfl), lz_7 (List.mem_of_getElem? (i := 99) rfl)⟩
set_option maxRecDepth 100000 in
theorem lw_p74 : lw_okq (⟨"HookPierModel", "oddsOf", "(II)J"⟩, 30) := ⟨lwc_5, lwi_5, lz_7 (List.mem_of_getElem? (i := 102) rfl), lz_7 (List.mem_of_getElem? (i := 103) rfl)⟩
set_option maxRecDepth 100000 in
theorem lw_p75 : lw_okq (⟨"HookPierModel", "wishOf", "(II)I"⟩, 30) := ⟨lwc_5, lwi_5, lz_7 (List.mem_of_getElem? (i := 107) rfl), lz_7 (List.mem_of_getElem? (i := 108) rfl)⟩
set_option maxRecDepth 100000 in
theorem lw_p76 : lw_okq (⟨"HookPierModel", "whole", "()J"⟩, 30) := ⟨lwc_5, lwi_5, lz_7 (List.mem_of_getElem? (i := 111) rfl), lz_7 (List.mem_of_getElem? (i := 112) rfl)⟩
set_option maxRecDepth 100000 in
theorem lw_p77 : lw_okq (⟨"HookPierModel", "fraction", "(JJZ)J"⟩, 30) := ⟨lwc_5, lwi_5, lz_7 (List.mem_of_getElem? (i := 115) rfl), lz_7 (List.mem_of_getElem? (i := 116) rfl)⟩
set_option maxRecDepth 100000 in
theorem lw_p78 : lw_okq (⟨"HookPierModel", "noOdds", "(I)J"⟩, 30) := ⟨lwc_5, lwi_5, lz_7 (List.mem_of_getElem? (i := 126) rfl), lz_7 (List.mem_of_getElem? (i := 127) rfl)⟩
set_option maxRecDepth 100000 in
theorem lw_p79 : lw_okq (⟨"HookPierModel", "meanOf", "(I)J"⟩, 30) := ⟨lwc_5, lwi_5, lz_7 (List.mem_of_getElem? (i := 134) rfl), lz_7 (List.mem_of_getElem? (i := 135) rfl)⟩
def lw_privs_5 : List (MethodName × Nat) := [(⟨"HookPierModel", "isAnswer", "(I)Z"⟩, 30), (⟨"HookPierModel", "keeps", "(III)I"⟩, 30), (⟨"HookPierModel", "isAsker", "(I)Z"⟩, 30), (⟨"HookPierModel", "spotOf", "(I)I"⟩, 30), (⟨"HookPierModel", "fathomsOf", "(I)I"⟩, 30), (⟨"HookPierModel", "baitOf", "(I)I"⟩, 30), (⟨"HookPierModel", "isTangled", "([II)Z"⟩, 30), (⟨"HookPierModel", "areTangled", "(IIII)Z"⟩, 30), (⟨"HookPierModel", "refusesQuestion", "(ZIII)I"⟩, 30), (⟨"HookPierModel", "question", "(III)I"⟩, 30), (⟨"HookPierModel", "oddsOf", "(II)J"⟩, 30), (⟨"HookPierModel", "wishOf", "(II)I"⟩, 30), (⟨"HookPierModel", "whole", "()J"⟩, 30), (⟨"HookPierModel", "fraction", "(JJZ)J"⟩, 30), (⟨"HookPierModel", "noOdds", "(I)J"⟩, 30), (⟨"HookPierModel", "meanOf", "(I)J"⟩, 30)]
theorem lw_r5 : ∀ q ∈ lw_privs_5, lw_okq q := List.forall_mem_cons.mpr ⟨lw_p64, List.forall_mem_cons.mpr ⟨lw_p65, List.forall_mem_cons.mpr ⟨lw_p66, List.forall_mem_cons.mpr ⟨lw_p67, List.forall_mem_cons.mpr ⟨lw_p68, List.forall_mem_cons.mpr ⟨lw_p69, List.forall_mem_cons.mpr ⟨lw_p70, List.forall_mem_cons.mpr ⟨lw_p71, List.forall_mem_cons.mpr ⟨lw_p72, List.forall_mem_cons.mpr ⟨lw_p73, List.forall_mem_cons.mpr ⟨lw_p74, List.forall_mem_cons.mpr ⟨lw_p75, List.forall_mem_cons.mpr ⟨lw_p76, List.forall_mem_cons.mpr ⟨lw_p77, List.forall_mem_cons.mpr ⟨lw_p78, List.forall_mem_cons.mpr ⟨lw_p79, fun _ h => absurd h List.not_mem_nil⟩⟩⟩⟩⟩⟩⟩⟩⟩⟩⟩⟩⟩⟩⟩⟩
set_option maxRecDepth 100000 in
theorem lw_p80 : lw_okq (⟨"HookPierModel", "refusesSure", "(I)I"⟩, 30) := ⟨lwc_5, lwi_5, lz_7 (List.mem_of_getElem? (i := 146) rfl), lz_7 (List.mem_of_getElem? (i := 147) rfl)⟩
set_option maxRecDepth 100000 in
theorem lw_p81 : lw_okq (⟨"HookPierModel", "sureQuestion", "(I)I"⟩, 30) := ⟨lwc_5, lwi_5, lz_7 (List.mem_of_getElem? (i := 150) rfl), lz_7 (List.mem_of_getElem? (i := 151) rfl)⟩
set_option maxRecDepth 100000 in
theorem lw_p82 : lw_okq (⟨"HookPierModel", "codeOf", "(I)I"⟩, 30) := ⟨lwc_5, lwi_5, lz_7 (List.mem_of_getElem? (i := 158) rfl), lz_7 (List.mem_of_getElem? (i := 159) rfl)⟩
set_option maxRecDepth 100000 in
theorem lw_p83 : lw_okq (⟨"HookPierModel", "allAskers", "()I"⟩, 30) := ⟨lwc_5, lwi_5, lz_7 (List.mem_of_getElem? (i := 191) rfl), lz_7 (List.mem_of_getElem? (i := 192) rfl)⟩
set_option maxRecDepth 100000 in
theorem lw_p84 : lw_okq (⟨"HookPierModel", "seats", "(I)V"⟩, 30) := ⟨lwc_5, lwi_5, lz_7 (List.mem_of_getElem? (i := 195) rfl), lz_7 (List.mem_of_getElem? (i := 196) rfl)⟩
set_option maxRecDepth 100000 in
theorem lw_p85 : lw_okq (⟨"HookPierModel", "nextIn", "(II)I"⟩, 30) := ⟨lwc_5, lwi_5, lz_7 (List.mem_of_getElem? (i := 199) rfl), lz_7 (List.mem_of_getElem? (i := 200) rfl)⟩
set_option maxRecDepth 100000 in
theorem lw_p86 : lw_okq (⟨"HookPierModel", "isSeat", "(II)Z"⟩, 30) := ⟨lwc_5, lwi_5, lz_7 (List.mem_of_getElem? (i := 206) rfl), lz_7 (List.mem_of_getElem? (i := 207) rfl)⟩
set_option maxRecDepth 100000 in
theorem lw_p87 : lw_okq (⟨"HookPierModel", "lastIn", "(II)I"⟩, 30) := ⟨lwc_5, lwi_5, lz_7 (List.mem_of_getElem? (i := 210) rfl), lz_7 (List.mem_of_getElem? (i := 211) rfl)⟩
set_option maxRecDepth 100000 in
theorem lw_p88 : lw_okq (⟨"HookPierModel", "refusesDark", "()I"⟩, 30) := ⟨lwc_5, lwi_5, lz_7 (List.mem_of_getElem? (i := 229) rfl), lz_7 (List.mem_of_getElem? (i := 230) rfl)⟩
set_option maxRecDepth 100000 in
theorem lw_p89 : lw_okq (⟨"HookPierModel", "isDark", "(I)Z"⟩, 30) := ⟨lwc_5, lwi_5, lz_7 (List.mem_of_getElem? (i := 233) rfl), lz_7 (List.mem_of_getElem? (i := 234) rfl)⟩
set_option maxRecDepth 100000 in
theorem lw_p90 : lw_okq (⟨"HookPierModel", "toAsk", "()I"⟩, 30) := ⟨lwc_5, lwi_5, lz_8 (List.mem_of_getElem? (i := 17) rfl), lz_8 (List.mem_of_getElem? (i := 18) rfl)⟩
set_option maxRecDepth 100000 in
theorem lw_p91 : lw_okq (⟨"HookPierModel", "leaves", "(I)I"⟩, 30) := ⟨lwc_5, lwi_5, lz_8 (List.mem_of_getElem? (i := 21) rfl), lz_8 (List.mem_of_getElem? (i := 22) rfl)⟩
set_option maxRecDepth 100000 in
theorem lw_p92 : lw_okq (⟨"HookPierModel", "refusesLoad", "(I)I"⟩, 30) := ⟨lwc_5, lwi_5, lz_8 (List.mem_of_getElem? (i := 42) rfl), lz_8 (List.mem_of_getElem? (i := 43) rfl)⟩
set_option maxRecDepth 100000 in
theorem lw_p93 : lw_okq (⟨"HookPierModel", "loads", "(I)V"⟩, 30) := ⟨lwc_5, lwi_5, lz_8 (List.mem_of_getElem? (i := 46) rfl), lz_8 (List.mem_of_getElem? (i := 47) rfl)⟩
set_option maxRecDepth 100000 in
theorem lw_p94 : lw_okq (⟨"HookPierModel", "worthNow", "(I)I"⟩, 30) := ⟨lwc_5, lwi_5, lz_8 (List.mem_of_getElem? (i := 50) rfl), lz_8 (List.mem_of_getElem? (i := 51) rfl)⟩
set_option maxRecDepth 100000 in
theorem lw_p95 : lw_okq (⟨"HookPierModel", "lost", "(I)I"⟩, 30) := ⟨lwc_5, lwi_5, lz_8 (List.mem_of_getElem? (i := 70) rfl), lz_8 (List.mem_of_getElem? (i := 71) rfl)⟩
def lw_privs_6 : List (MethodName × Nat) := [(⟨"HookPierModel", "refusesSure", "(I)I"⟩, 30), (⟨"HookPierModel", "sureQuestion", "(I)I"⟩, 30), (⟨"HookPierModel", "codeOf", "(I)I"⟩, 30), (⟨"HookPierModel", "allAskers", "()I"⟩, 30), (⟨"HookPierModel", "seats", "(I)V"⟩, 30), (⟨"HookPierModel", "nextIn", "(II)I"⟩, 30), (⟨"HookPierModel", "isSeat", "(II)Z"⟩, 30), (⟨"HookPierModel", "lastIn", "(II)I"⟩, 30), (⟨"HookPierModel", "refusesDark", "()I"⟩, 30), (⟨"HookPierModel", "isDark", "(I)Z"⟩, 30), (⟨"HookPierModel", "toAsk", "()I"⟩, 30), (⟨"HookPierModel", "leaves", "(I)I"⟩, 30), (⟨"HookPierModel", "refusesLoad", "(I)I"⟩, 30), (⟨"HookPierModel", "loads", "(I)V"⟩, 30), (⟨"HookPierModel", "worthNow", "(I)I"⟩, 30), (⟨"HookPierModel", "lost", "(I)I"⟩, 30)]
theorem lw_r6 : ∀ q ∈ lw_privs_6, lw_okq q := List.forall_mem_cons.mpr ⟨lw_p80, List.forall_mem_cons.mpr ⟨lw_p81, List.forall_mem_cons.mpr ⟨lw_p82, List.forall_mem_cons.mpr ⟨lw_p83, List.forall_mem_cons.mpr ⟨lw_p84, List.forall_mem_cons.mpr ⟨lw_p85, List.forall_mem_cons.mpr ⟨lw_p86, List.forall_mem_cons.mpr ⟨lw_p87, List.forall_mem_cons.mpr ⟨lw_p88, List.forall_mem_cons.mpr ⟨lw_p89, List.forall_mem_cons.mpr ⟨lw_p90, List.forall_mem_cons.mpr ⟨lw_p91, List.forall_mem_cons.mpr ⟨lw_p92, List.forall_mem_cons.mpr ⟨lw_p93, List.forall_mem_cons.mpr ⟨lw_p94, List.forall_mem_cons.mpr ⟨lw_p95, fun _ h => absurd h List.not_mem_nil⟩⟩⟩⟩⟩⟩⟩⟩⟩⟩⟩⟩⟩⟩⟩⟩
set_option maxRecDepth 100000 in
theorem lw_p96 : lw_okq (⟨"HookPierModel", "refusesStock", "(I)I"⟩, 30) := ⟨lwc_5, lwi_5, lz_8 (List.mem_of_getElem? (i := 81) rfl), lz_8 (List.mem_of_getElem? (i := 82) rfl)⟩
set_option maxRecDepth 100000 in
theorem lw_p97 : lw_okq (⟨"HookPierModel", "refusesDays", "(ZII)I"⟩, 30) := ⟨lwc_5, lwi_5, lz_8 (List.mem_of_getElem? (i := 96) rfl), lz_8 (List.mem_of_getElem? (i := 97) rfl)⟩
set_option maxRecDepth 100000 in
theorem lw_p98 : lw_okq (⟨"HookPierModel", "days", "(III)V"⟩, 30) := ⟨lwc_5, lwi_5, lz_8 (List.mem_of_getElem? (i := 101) rfl), lz_8 (List.mem_of_getElem? (i := 102) rfl)⟩
set_option maxRecDepth 100000 in
theorem lw_p99 : lw_okq (⟨"HookPierModel", "tries", "()V"⟩, 30) := ⟨lwc_5, lwi_5, lz_8 (List.mem_of_getElem? (i := 105) rfl), lz_8 (List.mem_of_getElem? (i := 106) rfl)⟩
set_option maxRecDepth 100000 in
theorem lw_p100 : lw_okq (⟨"HookPierModel", "goesBy", "([I)I"⟩, 30) := ⟨lwc_5, lwi_5, lz_8 (List.mem_of_getElem? (i := 109) rfl), lz_8 (List.mem_of_getElem? (i := 110) rfl)⟩
set_option maxRecDepth 100000 in
theorem lw_p101 : lw_okq (⟨"HookPierModel", "taker", "([II)I"⟩, 30) := ⟨lwc_5, lwi_5, lz_8 (List.mem_of_getElem? (i := 113) rfl), lz_8 (List.mem_of_getElem? (i := 114) rfl)⟩
set_option maxRecDepth 100000 in
theorem lw_p102 : lw_okq (⟨"HookPierModel", "denied", "(I)Z"⟩, 30) := ⟨lwc_5, lwi_5, lz_8 (List.mem_of_getElem? (i := 132) rfl), lz_8 (List.mem_of_getElem? (i := 133) rfl)⟩
set_option maxRecDepth 100000 in
theorem lw_p103 : lw_okq (⟨"HookPierModel", "remembers", "()V"⟩, 30) := ⟨lwc_5, lwi_5, lz_8 (List.mem_of_getElem? (i := 136) rfl), lz_8 (List.mem_of_getElem? (i := 137) rfl)⟩
set_option maxRecDepth 100000 in
theorem lw_p104 : lw_okq (⟨"HookPierModel", "granted", "()Z"⟩, 30) := ⟨lwc_5, lwi_5, lz_8 (List.mem_of_getElem? (i := 140) rfl), lz_8 (List.mem_of_getElem? (i := 141) rfl)⟩
def lw_privs_7 : List (MethodName × Nat) := [(⟨"HookPierModel", "refusesStock", "(I)I"⟩, 30), (⟨"HookPierModel", "refusesDays", "(ZII)I"⟩, 30), (⟨"HookPierModel", "days", "(III)V"⟩, 30), (⟨"HookPierModel", "tries", "()V"⟩, 30), (⟨"HookPierModel", "goesBy", "([I)I"⟩, 30), (⟨"HookPierModel", "taker", "([II)I"⟩, 30), (⟨"HookPierModel", "denied", "(I)Z"⟩, 30), (⟨"HookPierModel", "remembers", "()V"⟩, 30), (⟨"HookPierModel", "granted", "()Z"⟩, 30)]
theorem lw_r7 : ∀ q ∈ lw_privs_7, lw_okq q := List.forall_mem_cons.mpr ⟨lw_p96, List.forall_mem_cons.mpr ⟨lw_p97, List.forall_mem_cons.mpr ⟨lw_p98, List.forall_mem_cons.mpr ⟨lw_p99, List.forall_mem_cons.mpr ⟨lw_p100, List.forall_mem_cons.mpr ⟨lw_p101, List.forall_mem_cons.mpr ⟨lw_p102, List.forall_mem_cons.mpr ⟨lw_p103, List.forall_mem_cons.mpr ⟨lw_p104, fun _ h => absurd h List.not_mem_nil⟩⟩⟩⟩⟩⟩⟩⟩⟩
def lw_privs : List (MethodName × Nat) := lw_privs_1 ++ (lw_privs_2 ++ (lw_privs_3 ++ (lw_privs_4 ++ (lw_privs_5 ++ (lw_privs_6 ++ (lw_privs_7))))))
def lw_tbl : List Cond := k2_sels lw_privs ++ tables_1
theorem lw_privs_ok : ∀ q ∈ lw_privs, lw_okq q := by
  show ∀ q ∈ lw_privs_1 ++ (lw_privs_2 ++ (lw_privs_3 ++ (lw_privs_4 ++ (lw_privs_5 ++ (lw_privs_6 ++ (lw_privs_7)))))), lw_okq q
  exact List.forall_mem_append.mpr ⟨lw_r1, List.forall_mem_append.mpr ⟨lw_r2, List.forall_mem_append.mpr ⟨lw_r3, List.forall_mem_append.mpr ⟨lw_r4, List.forall_mem_append.mpr ⟨lw_r5, List.forall_mem_append.mpr ⟨lw_r6, lw_r7⟩⟩⟩⟩⟩⟩
