theorem dX10_pier_0 : decode cX10_pier 0 = .ok (.aload_n 0, 1) := by decide +kernel
theorem dX10_pier_1 : decode cX10_pier 1 = .ok (.iload_n 1, 1) := by decide +kernel
theorem dX10_pier_10 : decode cX10_pier 10 = .ok (.invokestatic 75, 3) := by decide +kernel
theorem dX10_pier_100 : decode cX10_pier 100 = .ok (.invokevirtual 93, 3) := by decide +kernel
theorem dX10_pier_103 : decode cX10_pier 103 = .ok (.aload_n 0, 1) := by decide +kernel
theorem dX10_pier_104 : decode cX10_pier 104 = .ok (.getfield 10, 3) := by decide +kernel
theorem dX10_pier_107 : decode cX10_pier 107 = .ok (.getfield 96, 3) := by decide +kernel
theorem dX10_pier_110 : decode cX10_pier 110 = .ok (.ireturn, 1) := by decide +kernel
theorem dX10_pier_13 : decode cX10_pier 13 = .ok (.ifCond .eq 7, 3) := by decide +kernel
theorem dX10_pier_16 : decode cX10_pier 16 = .ok (.iconst 0, 1) := by decide +kernel
theorem dX10_pier_17 : decode cX10_pier 17 = .ok (.goto 4, 3) := by decide +kernel
theorem dX10_pier_2 : decode cX10_pier 2 = .ok (.iconst 0, 1) := by decide +kernel
theorem dX10_pier_20 : decode cX10_pier 20 = .ok (.iconst 2, 1) := by decide +kernel
theorem dX10_pier_21 : decode cX10_pier 21 = .ok (.invokevirtual 79, 3) := by decide +kernel
theorem dX10_pier_24 : decode cX10_pier 24 = .ok (.ifCond .eq 5, 3) := by decide +kernel
theorem dX10_pier_27 : decode cX10_pier 27 = .ok (.iconst (-1), 1) := by decide +kernel
theorem dX10_pier_28 : decode cX10_pier 28 = .ok (.ireturn, 1) := by decide +kernel
theorem dX10_pier_29 : decode cX10_pier 29 = .ok (.aload_n 0, 1) := by decide +kernel
theorem dX10_pier_3 : decode cX10_pier 3 = .ok (.aload_n 0, 1) := by decide +kernel
theorem dX10_pier_30 : decode cX10_pier 30 = .ok (.getfield 22, 3) := by decide +kernel
theorem dX10_pier_33 : decode cX10_pier 33 = .ok (.iload_n 1, 1) := by decide +kernel
theorem dX10_pier_34 : decode cX10_pier 34 = .ok (.aload_n 0, 1) := by decide +kernel
theorem dX10_pier_35 : decode cX10_pier 35 = .ok (.getfield 16, 3) := by decide +kernel
theorem dX10_pier_38 : decode cX10_pier 38 = .ok (.invokevirtual 83, 3) := by decide +kernel
theorem dX10_pier_4 : decode cX10_pier 4 = .ok (.getfield 22, 3) := by decide +kernel
theorem dX10_pier_41 : decode cX10_pier 41 = .ok (.istore_n 2, 1) := by decide +kernel
theorem dX10_pier_42 : decode cX10_pier 42 = .ok (.aload_n 0, 1) := by decide +kernel
theorem dX10_pier_43 : decode cX10_pier 43 = .ok (.aload_n 0, 1) := by decide +kernel
theorem dX10_pier_44 : decode cX10_pier 44 = .ok (.getfield 22, 3) := by decide +kernel
theorem dX10_pier_47 : decode cX10_pier 47 = .ok (.getfield 87, 3) := by decide +kernel
theorem dX10_pier_50 : decode cX10_pier 50 = .ok (.putfield 65, 3) := by decide +kernel
theorem dX10_pier_53 : decode cX10_pier 53 = .ok (.aload_n 0, 1) := by decide +kernel
theorem dX10_pier_54 : decode cX10_pier 54 = .ok (.iload_n 2, 1) := by decide +kernel
theorem dX10_pier_55 : decode cX10_pier 55 = .ok (.ifCond .eq 7, 3) := by decide +kernel
theorem dX10_pier_58 : decode cX10_pier 58 = .ok (.iconst 0, 1) := by decide +kernel
theorem dX10_pier_59 : decode cX10_pier 59 = .ok (.goto 4, 3) := by decide +kernel
theorem dX10_pier_62 : decode cX10_pier 62 = .ok (.iconst 4, 1) := by decide +kernel
theorem dX10_pier_63 : decode cX10_pier 63 = .ok (.invokevirtual 79, 3) := by decide +kernel
theorem dX10_pier_66 : decode cX10_pier 66 = .ok (.ifCond .eq 5, 3) := by decide +kernel
theorem dX10_pier_69 : decode cX10_pier 69 = .ok (.iconst (-1), 1) := by decide +kernel
theorem dX10_pier_7 : decode cX10_pier 7 = .ok (.getfield 68, 3) := by decide +kernel
theorem dX10_pier_70 : decode cX10_pier 70 = .ok (.ireturn, 1) := by decide +kernel
theorem dX10_pier_71 : decode cX10_pier 71 = .ok (.aload_n 0, 1) := by decide +kernel
theorem dX10_pier_72 : decode cX10_pier 72 = .ok (.getfield 10, 3) := by decide +kernel
theorem dX10_pier_75 : decode cX10_pier 75 = .ok (.astore_n 3, 1) := by decide +kernel
theorem dX10_pier_76 : decode cX10_pier 76 = .ok (.aload_n 0, 1) := by decide +kernel
theorem dX10_pier_77 : decode cX10_pier 77 = .ok (.aload_n 0, 1) := by decide +kernel
theorem dX10_pier_78 : decode cX10_pier 78 = .ok (.getfield 16, 3) := by decide +kernel
theorem dX10_pier_81 : decode cX10_pier 81 = .ok (.putfield 10, 3) := by decide +kernel
theorem dX10_pier_84 : decode cX10_pier 84 = .ok (.aload_n 0, 1) := by decide +kernel
theorem dX10_pier_85 : decode cX10_pier 85 = .ok (.aload_n 3, 1) := by decide +kernel
theorem dX10_pier_86 : decode cX10_pier 86 = .ok (.putfield 16, 3) := by decide +kernel
theorem dX10_pier_89 : decode cX10_pier 89 = .ok (.aload_n 0, 1) := by decide +kernel
theorem dX10_pier_90 : decode cX10_pier 90 = .ok (.getfield 29, 3) := by decide +kernel
theorem dX10_pier_93 : decode cX10_pier 93 = .ok (.invokevirtual 90, 3) := by decide +kernel
theorem dX10_pier_96 : decode cX10_pier 96 = .ok (.aload_n 0, 1) := by decide +kernel
theorem dX10_pier_97 : decode cX10_pier 97 = .ok (.getfield 36, 3) := by decide +kernel
def vfX10_pier : List Cond := .code yX10_pier cX10_pier 4 (some .int) :: ([.fieldLink RX10 22 "HookPier" "reader" "LHookPier$Reader;", .fieldLink RX10 68 "HookPier$Reader" "fed" "I", .methodLink RX10 75 yX10_within, .static yX10_within, .initialized RX10, .code yX10_within cX10_within 3 (some .boolean), .methodLink RX10 79 yX10_refused, .instanceMethod yX10_refused, .selects RX10 yX10_refused yX10_refused, .code yX10_refused cX10_refused 2 (some .boolean), .fieldLink RX10 61 "HookPier" "troubleNow" "I", .fieldLink RX10 16 "HookPier" "spare" "LHookPier$Plan;", .methodLink RX10 83 yX7_read, .instanceMethod yX7_read, .selects RX7 yX7_read yX7_read, .initialized RX7, .code yX7_read cX7_read 4 (some .boolean), .fieldLink RX7 15 "HookPier$Reader" "fed" "I", .methodLink RX7 51 Lib.Math.min.name, .static Lib.Math.min.name, .initialized "java/lang/Math", .code Lib.Math.min.name Lib.Math.min.code 2 (some .int), .fieldLink RX7 19 "HookPier$Reader" "end" "I", .fieldLink RX7 28 "HookPier$Reader" "behind" "I", .fieldLink RX7 42 "HookPier$Reader" "names" "I", .fieldLink RX7 45 "HookPier$Reader" "fault" "I", .fieldLink RX7 48 "HookPier$Reader" "place" "I", .methodLink RX7 57 yX6_clear, .instanceMethod yX6_clear, .selects RX6 yX6_clear yX6_clear, .initialized RX6, .code yX6_clear cX6_clear 1 none, .fieldLink RX6 9 "HookPier$Plan" "spots" "I", .fieldLink RX6 15 "HookPier$Plan" "deep" "I", .fieldLink RX6 24 "HookPier$Plan" "baits" "I", .fieldLink RX6 27 "HookPier$Plan" "askers" "I", .fieldLink RX6 30 "HookPier$Plan" "answers" "I", .fieldLink RX6 33 "HookPier$Plan" "bites" "I", .fieldLink RX6 36 "HookPier$Plan" "darkHunger" "I", .methodLink RX7 62 yX7_advance, .instanceMethod yX7_advance, .selects RX7 yX7_advance yX7_advance, .code yX7_advance cX7_advance 1 none, .fieldLink RX7 25 "HookPier$Reader" "start" "I", .methodLink RX7 245 yX7_isLetter, .instanceMethod yX7_isLetter, .selects RX7 yX7_isLetter yX7_isLetter, .code yX7_isLetter cX7_isLetter 2 (some .boolean), .fieldLink RX7 9 "HookPier$Reader" "text" "[B", .fieldLink RX7 22 "HookPier$Reader" "token" "I", .methodLink RX7 248 yX7_isDigit, .instanceMethod yX7_isDigit, .selects RX7 yX7_isDigit yX7_isDigit, .code yX7_isDigit cX7_isDigit 2 (some .boolean), .methodLink RX7 72 yX7_fail, .instanceMethod yX7_fail, .selects RX7 yX7_fail yX7_fail, .code yX7_fail cX7_fail 2 (some .boolean), .methodLink RX7 65 yX7_readLine, .instanceMethod yX7_readLine, .selects RX7 yX7_readLine yX7_readLine, .code yX7_readLine cX7_readLine 3 (some .boolean), .methodLink RX7 78 yX7_isWord, .instanceMethod yX7_isWord, .selects RX7 yX7_isWord yX7_isWord, .code yX7_isWord cX7_isWord 3 (some .boolean), .methodLink RX7 231 yJ0_length_8abf5, .instanceMethod yJ0_length_8abf5, .selects RJ0 yJ0_length_8abf5 yJ0_length_8abf5, .initialized RJ0, .code yJ0_length_8abf5 cJ0_length_8abf5 1 (some .int), .fieldLink RJ0 9 "java/lang/String" "value" "[B", .methodLink RJ0 335 yJ0_coder_7d493, .instanceMethod yJ0_coder_7d493, .selects RJ0 yJ0_coder_7d493 yJ0_coder_7d493, .code yJ0_coder_7d493 cJ0_coder_7d493 1 (some .byte), .fieldLink RJ0 38 "java/lang/String" "COMPACT_STRINGS" "Z", .fieldLink RJ0 15 "java/lang/String" "coder" "B", .methodLink RX7 237 yJ0_charAt_5068e, .instanceMethod yJ0_charAt_5068e, .selects RJ0 yJ0_charAt_5068e yJ0_charAt_5068e, .code yJ0_charAt_5068e cJ0_charAt_5068e 2 (some .char), .methodLink RJ0 492 yJ0_isLatin1_aae02, .instanceMethod yJ0_isLatin1_aae02, .selects RJ0 yJ0_isLatin1_aae02 yJ0_isLatin1_aae02, .code yJ0_isLatin1_aae02 cJ0_isLatin1_aae02 1 (some .boolean), .methodLink RJ0 495 yJ1_charAt_3b067, .static yJ1_charAt_3b067, .initialized RJ1, .code yJ1_charAt_3b067 cJ1_charAt_3b067 2 (some .char), .methodLink RJ1 9 yJ0_checkIndex_df160, .static yJ0_checkIndex_df160, .code yJ0_checkIndex_df160 cJ0_checkIndex_df160 2 none, .fieldLink RJ0 1053 "jdk/internal/util/Preconditions" "SIOOBE_FORMATTER" "Ljava/util/function/BiFunction;", .methodLink RJ0 1059 yJ3_checkIndex_8e157, .static yJ3_checkIndex_8e157, .initialized RJ3, .code yJ3_checkIndex_8e157 cJ3_checkIndex_8e157 3 (some .int), .fieldLink RX7 115 "HookPier$Plan" "darkHunger" "I", .fieldLink RX7 123 "HookPier$Plan" "bites" "I", .methodLink RX7 90 yX7_opens, .instanceMethod yX7_opens, .selects RX7 yX7_opens yX7_opens, .code yX7_opens cX7_opens 3 (some .boolean), .fieldLink RX7 82 "HookPier$Plan" "spots" "I", .methodLink RX7 126 yX7_readBite, .instanceMethod yX7_readBite, .selects RX7 yX7_readBite yX7_readBite, .code yX7_readBite cX7_readBite 4 (some .boolean), .methodLink RX7 133 yX7_takeWhole, .instanceMethod yX7_takeWhole, .selects RX7 yX7_takeWhole yX7_takeWhole, .code yX7_takeWhole cX7_takeWhole 5 (some .boolean), .fieldLink RX7 31 "HookPier$Reader" "value" "I", .methodLink RX7 130 yX7_takeWord, .instanceMethod yX7_takeWord, .selects RX7 yX7_takeWord yX7_takeWord, .code yX7_takeWord cX7_takeWord 2 (some .boolean), .fieldLink RX7 139 "HookPier$Plan" "deep" "I", .methodLink RX7 179 yX7_takeBait, .instanceMethod yX7_takeBait, .selects RX7 yX7_takeBait yX7_takeBait, .code yX7_takeBait cX7_takeBait 2 (some .boolean), .methodLink RX7 220 yX7_isName, .instanceMethod yX7_isName, .selects RX7 yX7_isName yX7_isName, .code yX7_isName cX7_isName 1 (some .boolean), .methodLink RX7 223 yX7_wordCode, .instanceMethod yX7_wordCode, .selects RX7 yX7_wordCode yX7_wordCode, .code yX7_wordCode cX7_wordCode 4 (some .long), .constantLong RX7 241 (32), .constantLong RX7 243 (97), .methodLink RX7 227 yX7_nameOf, .instanceMethod yX7_nameOf, .selects RX7 yX7_nameOf yX7_nameOf, .code yX7_nameOf cX7_nameOf 4 (some .int), .fieldLink RX7 34 "HookPier$Reader" "name" "[J", .fieldLink RX7 38 "HookPier$Reader" "nameBait" "[I", .fieldLink RX7 191 "HookPier$Plan" "bite" "[I", .code yX10_question cX10_question 3 (some .int), .static yX10_question, .methodLink RX7 197 yX7_takeYes, .instanceMethod yX7_takeYes, .selects RX7 yX7_takeYes yX7_takeYes, .code yX7_takeYes cX7_takeYes 1 (some .boolean), .fieldLink RX7 200 "HookPier$Plan" "bit" "[Z", .methodLink RX7 118 yX7_readDark, .instanceMethod yX7_readDark, .selects RX7 yX7_readDark yX7_readDark, .code yX7_readDark cX7_readDark 2 (some .boolean), .fieldLink RX7 107 "HookPier$Plan" "answers" "I", .methodLink RX7 110 yX7_readAnswer, .instanceMethod yX7_readAnswer, .selects RX7 yX7_readAnswer yX7_readAnswer, .code yX7_readAnswer cX7_readAnswer 3 (some .boolean), .methodLink RX7 151 yX7_takeNewName, .instanceMethod yX7_takeNewName, .selects RX7 yX7_takeNewName yX7_takeNewName, .code yX7_takeNewName cX7_takeNewName 4 (some .boolean), .methodLink RX7 158 yX7_takeKind, .instanceMethod yX7_takeKind, .selects RX7 yX7_takeKind yX7_takeKind, .code yX7_takeKind cX7_takeKind 1 (some .boolean), .fieldLink RX7 162 "HookPier$Plan" "kind" "[I", .fieldLink RX7 167 "HookPier$Plan" "at" "[I", .fieldLink RX7 171 "HookPier$Plan" "depth" "[I", .fieldLink RX7 175 "HookPier$Plan" "hunger" "[I", .fieldLink RX7 182 "HookPier$Plan" "likes" "[I", .fieldLink RX7 186 "HookPier$Plan" "told" "[I", .fieldLink RX7 99 "HookPier$Plan" "askers" "I", .methodLink RX7 102 yX7_readAsker, .instanceMethod yX7_readAsker, .selects RX7 yX7_readAsker yX7_readAsker, .code yX7_readAsker cX7_readAsker 2 (some .boolean), .fieldLink RX7 156 "HookPier$Plan" "reach" "[I", .fieldLink RX7 69 "HookPier$Plan" "baits" "I", .methodLink RX7 94 yX7_readBait, .instanceMethod yX7_readBait, .selects RX7 yX7_readBait yX7_readBait, .code yX7_readBait cX7_readBait 2 (some .boolean), .methodLink RX7 85 yX7_readPier, .instanceMethod yX7_readPier, .selects RX7 yX7_readPier yX7_readPier, .code yX7_readPier cX7_readPier 2 (some .boolean), .fieldLink RX7 143 "HookPier$Plan" "closeFrom" "I", .fieldLink RX7 148 "HookPier$Plan" "closeTo" "I", .fieldLink RX10 87 "HookPier$Reader" "fault" "I", .fieldLink RX10 65 "HookPier" "faultNow" "I", .fieldLink RX10 10 "HookPier" "plan" "LHookPier$Plan;", .fieldLink RX10 29 "HookPier" "now" "LHookPier$Now;", .methodLink RX10 90 yX4_begin, .instanceMethod yX4_begin, .selects RX4 yX4_begin yX4_begin, .initialized RX4, .code yX4_begin cX4_begin 2 none, .fieldLink RX4 9 "HookPier$Now" "today" "I", .fieldLink RX4 15 "HookPier$Now" "seedNow" "I", .fieldLink RX4 18 "HookPier$Now" "soldFor" "I", .fieldLink RX4 21 "HookPier$Now" "stage" "[I", .fieldLink RX4 31 "HookPier$Now" "line" "[I", .fieldLink RX10 36 "HookPier" "history" "LHookPier$History;", .methodLink RX10 93 yX2_forgetAll, .instanceMethod yX2_forgetAll, .selects RX2 yX2_forgetAll yX2_forgetAll, .initialized RX2, .code yX2_forgetAll cX2_forgetAll 1 none, .fieldLink RX2 24 "HookPier$History" "acts" "I", .fieldLink RX2 27 "HookPier$History" "marks" "I", .fieldLink RX10 96 "HookPier$Plan" "answers" "I"] ++ wsX100 ++ wsX70 ++ wsX60 ++ wsX40 ++ wsX20)
theorem ifX10_pier_X10 : ∀ w ∈ wsX100, w ∈ vfX10_pier := fun _ h => List.mem_cons_of_mem _ (List.mem_append_left _ (List.mem_append_left _ (List.mem_append_left _ (List.mem_append_left _ (List.mem_append_right _ h)))))
theorem ifX10_pier_X7 : ∀ w ∈ wsX70, w ∈ vfX10_pier := fun _ h => List.mem_cons_of_mem _ (List.mem_append_left _ (List.mem_append_left _ (List.mem_append_left _ (List.mem_append_right _ h))))
theorem ifX10_pier_X6 : ∀ w ∈ wsX60, w ∈ vfX10_pier := fun _ h => List.mem_cons_of_mem _ (List.mem_append_left _ (List.mem_append_left _ (List.mem_append_right _ h)))
theorem ifX10_pier_X4 : ∀ w ∈ wsX40, w ∈ vfX10_pier := fun _ h => List.mem_cons_of_mem _ (List.mem_append_left _ (List.mem_append_right _ h))
theorem ifX10_pier_X2 : ∀ w ∈ wsX20, w ∈ vfX10_pier := fun _ h => List.mem_cons_of_mem _ (List.mem_append_right _ h)
set_option maxRecDepth 20000 in
theorem gfX10_pier_0 : GoodIn vfX10_pier (va_wsS RX10 75 yX10_within vfX10_within) := goodIn_app (goodIn_r [.methodLink RX10 75 yX10_within, .static yX10_within, .initialized RX10] [3, 4, 5] (by decide +kernel) (by decide +kernel)) (goodIn_r (.code yX10_within cX10_within 3 (some .boolean) :: []) [6] (by decide +kernel) (by decide +kernel) : GoodIn vfX10_pier (.code yX10_within cX10_within 3 (some .boolean) :: []))
set_option maxRecDepth 20000 in
theorem gfX10_pier_1 : GoodIn vfX10_pier (wsV RX10 79 RX10 yX10_refused vfX10_refused) := goodIn_app (goodIn_r [.methodLink RX10 79 yX10_refused, .instanceMethod yX10_refused, .selects RX10 yX10_refused yX10_refused, .initialized RX10] [7, 8, 9, 5] (by decide +kernel) (by decide +kernel)) (goodIn_ca (goodIn_r (.code yX10_refused cX10_refused 2 (some .boolean) :: [.fieldLink RX10 61 "HookPier" "troubleNow" "I"]) [10, 11] (by decide +kernel) (by decide +kernel) : GoodIn vfX10_pier (.code yX10_refused cX10_refused 2 (some .boolean) :: [.fieldLink RX10 61 "HookPier" "troubleNow" "I"])) (goodIn_sub ifX10_pier_X10 (by decide +kernel)))
set_option maxRecDepth 20000 in
theorem gfX10_pier_2 : GoodIn vfX10_pier (wsV RX10 83 RX7 yX7_read vfX7_read) := goodIn_app (goodIn_r [.methodLink RX10 83 yX7_read, .instanceMethod yX7_read, .selects RX7 yX7_read yX7_read, .initialized RX7] [13, 14, 15, 16] (by decide +kernel) (by decide +kernel)) (goodIn_ca (goodIn_ca (goodIn_r (.code yX7_read cX7_read 4 (some .boolean) :: [.fieldLink RX7 15 "HookPier$Reader" "fed" "I", .methodLink RX7 51 Lib.Math.min.name, .static Lib.Math.min.name, .initialized "java/lang/Math", .code Lib.Math.min.name Lib.Math.min.code 2 (some .int), .fieldLink RX7 19 "HookPier$Reader" "end" "I", .fieldLink RX7 28 "HookPier$Reader" "behind" "I", .fieldLink RX7 42 "HookPier$Reader" "names" "I", .fieldLink RX7 45 "HookPier$Reader" "fault" "I", .fieldLink RX7 48 "HookPier$Reader" "place" "I", .methodLink RX7 57 yX6_clear, .instanceMethod yX6_clear, .selects RX6 yX6_clear yX6_clear, .initialized RX6, .code yX6_clear cX6_clear 1 none, .fieldLink RX6 9 "HookPier$Plan" "spots" "I", .fieldLink RX6 15 "HookPier$Plan" "deep" "I", .fieldLink RX6 24 "HookPier$Plan" "baits" "I", .fieldLink RX6 27 "HookPier$Plan" "askers" "I", .fieldLink RX6 30 "HookPier$Plan" "answers" "I", .fieldLink RX6 33 "HookPier$Plan" "bites" "I", .fieldLink RX6 36 "HookPier$Plan" "darkHunger" "I", .methodLink RX7 62 yX7_advance, .instanceMethod yX7_advance, .selects RX7 yX7_advance yX7_advance, .initialized RX7, .code yX7_advance cX7_advance 1 none, .fieldLink RX7 25 "HookPier$Reader" "start" "I", .methodLink RX7 245 yX7_isLetter, .instanceMethod yX7_isLetter, .selects RX7 yX7_isLetter yX7_isLetter, .code yX7_isLetter cX7_isLetter 2 (some .boolean), .fieldLink RX7 9 "HookPier$Reader" "text" "[B", .fieldLink RX7 22 "HookPier$Reader" "token" "I", .methodLink RX7 248 yX7_isDigit, .instanceMethod yX7_isDigit, .selects RX7 yX7_isDigit yX7_isDigit, .code yX7_isDigit cX7_isDigit 2 (some .boolean), .methodLink RX7 72 yX7_fail, .instanceMethod yX7_fail, .selects RX7 yX7_fail yX7_fail, .code yX7_fail cX7_fail 2 (some .boolean), .methodLink RX7 65 yX7_readLine, .instanceMethod yX7_readLine, .selects RX7 yX7_readLine yX7_readLine, .code yX7_readLine cX7_readLine 3 (some .boolean), .methodLink RX7 78 yX7_isWord, .instanceMethod yX7_isWord, .selects RX7 yX7_isWord yX7_isWord, .code yX7_isWord cX7_isWord 3 (some .boolean), .methodLink RX7 231 yJ0_length_8abf5, .instanceMethod yJ0_length_8abf5, .selects RJ0 yJ0_length_8abf5 yJ0_length_8abf5, .initialized RJ0, .code yJ0_length_8abf5 cJ0_length_8abf5 1 (some .int), .fieldLink RJ0 9 "java/lang/String" "value" "[B", .methodLink RJ0 335 yJ0_coder_7d493, .instanceMethod yJ0_coder_7d493, .selects RJ0 yJ0_coder_7d493 yJ0_coder_7d493, .code yJ0_coder_7d493 cJ0_coder_7d493 1 (some .byte), .fieldLink RJ0 38 "java/lang/String" "COMPACT_STRINGS" "Z", .fieldLink RJ0 15 "java/lang/String" "coder" "B", .methodLink RX7 237 yJ0_charAt_5068e, .instanceMethod yJ0_charAt_5068e, .selects RJ0 yJ0_charAt_5068e yJ0_charAt_5068e, .code yJ0_charAt_5068e cJ0_charAt_5068e 2 (some .char), .methodLink RJ0 492 yJ0_isLatin1_aae02, .instanceMethod yJ0_isLatin1_aae02, .selects RJ0 yJ0_isLatin1_aae02 yJ0_isLatin1_aae02, .code yJ0_isLatin1_aae02 cJ0_isLatin1_aae02 1 (some .boolean), .methodLink RJ0 495 yJ1_charAt_3b067, .static yJ1_charAt_3b067, .initialized RJ1, .code yJ1_charAt_3b067 cJ1_charAt_3b067 2 (some .char), .methodLink RJ1 9 yJ0_checkIndex_df160, .static yJ0_checkIndex_df160, .code yJ0_checkIndex_df160 cJ0_checkIndex_df160 2 none, .fieldLink RJ0 1053 "jdk/internal/util/Preconditions" "SIOOBE_FORMATTER" "Ljava/util/function/BiFunction;", .methodLink RJ0 1059 yJ3_checkIndex_8e157, .static yJ3_checkIndex_8e157, .initialized RJ3, .code yJ3_checkIndex_8e157 cJ3_checkIndex_8e157 3 (some .int), .fieldLink RX7 115 "HookPier$Plan" "darkHunger" "I", .fieldLink RX7 123 "HookPier$Plan" "bites" "I", .methodLink RX7 90 yX7_opens, .instanceMethod yX7_opens, .selects RX7 yX7_opens yX7_opens, .code yX7_opens cX7_opens 3 (some .boolean), .fieldLink RX7 82 "HookPier$Plan" "spots" "I", .methodLink RX7 126 yX7_readBite, .instanceMethod yX7_readBite, .selects RX7 yX7_readBite yX7_readBite, .code yX7_readBite cX7_readBite 4 (some .boolean), .methodLink RX7 133 yX7_takeWhole, .instanceMethod yX7_takeWhole, .selects RX7 yX7_takeWhole yX7_takeWhole, .code yX7_takeWhole cX7_takeWhole 5 (some .boolean), .code yX10_within cX10_within 3 (some .boolean), .initialized RX10, .static yX10_within, .fieldLink RX7 31 "HookPier$Reader" "value" "I", .methodLink RX7 130 yX7_takeWord, .instanceMethod yX7_takeWord, .selects RX7 yX7_takeWord yX7_takeWord, .code yX7_takeWord cX7_takeWord 2 (some .boolean), .fieldLink RX7 139 "HookPier$Plan" "deep" "I", .methodLink RX7 179 yX7_takeBait, .instanceMethod yX7_takeBait, .selects RX7 yX7_takeBait yX7_takeBait, .code yX7_takeBait cX7_takeBait 2 (some .boolean), .methodLink RX7 220 yX7_isName, .instanceMethod yX7_isName, .selects RX7 yX7_isName yX7_isName, .code yX7_isName cX7_isName 1 (some .boolean), .methodLink RX7 223 yX7_wordCode, .instanceMethod yX7_wordCode, .selects RX7 yX7_wordCode yX7_wordCode, .code yX7_wordCode cX7_wordCode 4 (some .long), .constantLong RX7 241 (32), .constantLong RX7 243 (97), .methodLink RX7 227 yX7_nameOf, .instanceMethod yX7_nameOf, .selects RX7 yX7_nameOf yX7_nameOf, .code yX7_nameOf cX7_nameOf 4 (some .int), .fieldLink RX7 34 "HookPier$Reader" "name" "[J", .fieldLink RX7 38 "HookPier$Reader" "nameBait" "[I", .fieldLink RX7 191 "HookPier$Plan" "bite" "[I", .code yX10_question cX10_question 3 (some .int), .static yX10_question, .methodLink RX7 197 yX7_takeYes, .instanceMethod yX7_takeYes, .selects RX7 yX7_takeYes yX7_takeYes, .code yX7_takeYes cX7_takeYes 1 (some .boolean), .fieldLink RX7 200 "HookPier$Plan" "bit" "[Z", .methodLink RX7 118 yX7_readDark, .instanceMethod yX7_readDark, .selects RX7 yX7_readDark yX7_readDark, .code yX7_readDark cX7_readDark 2 (some .boolean), .fieldLink RX7 107 "HookPier$Plan" "answers" "I", .methodLink RX7 110 yX7_readAnswer, .instanceMethod yX7_readAnswer, .selects RX7 yX7_readAnswer yX7_readAnswer, .code yX7_readAnswer cX7_readAnswer 3 (some .boolean), .methodLink RX7 151 yX7_takeNewName, .instanceMethod yX7_takeNewName, .selects RX7 yX7_takeNewName yX7_takeNewName, .code yX7_takeNewName cX7_takeNewName 4 (some .boolean), .methodLink RX7 158 yX7_takeKind, .instanceMethod yX7_takeKind, .selects RX7 yX7_takeKind yX7_takeKind, .code yX7_takeKind cX7_takeKind 1 (some .boolean), .fieldLink RX7 162 "HookPier$Plan" "kind" "[I", .fieldLink RX7 167 "HookPier$Plan" "at" "[I", .fieldLink RX7 171 "HookPier$Plan" "depth" "[I", .fieldLink RX7 175 "HookPier$Plan" "hunger" "[I", .fieldLink RX7 182 "HookPier$Plan" "likes" "[I", .fieldLink RX7 186 "HookPier$Plan" "told" "[I", .fieldLink RX7 99 "HookPier$Plan" "askers" "I", .methodLink RX7 102 yX7_readAsker, .instanceMethod yX7_readAsker, .selects RX7 yX7_readAsker yX7_readAsker, .code yX7_readAsker cX7_readAsker 2 (some .boolean), .fieldLink RX7 156 "HookPier$Plan" "reach" "[I", .fieldLink RX7 69 "HookPier$Plan" "baits" "I", .methodLink RX7 94 yX7_readBait, .instanceMethod yX7_readBait, .selects RX7 yX7_readBait yX7_readBait, .code yX7_readBait cX7_readBait 2 (some .boolean), .methodLink RX7 85 yX7_readPier, .instanceMethod yX7_readPier, .selects RX7 yX7_readPier yX7_readPier, .code yX7_readPier cX7_readPier 2 (some .boolean), .fieldLink RX7 143 "HookPier$Plan" "closeFrom" "I", .fieldLink RX7 148 "HookPier$Plan" "closeTo" "I"]) [17, 18, 19, 20, 21, 22, 23, 24, 25, 26, 27, 28, 29, 30, 31, 32, 33, 34, 35, 36, 37, 38, 39, 40, 41, 42, 16, 43, 44, 45, 46, 47, 48, 49, 50, 51, 52, 53, 54, 55, 56, 57, 58, 59, 60, 61, 62, 63, 64, 65, 66, 67, 68, 69, 70, 71, 72, 73, 74, 75, 76, 77, 78, 79, 80, 81, 82, 83, 84, 85, 86, 87, 88, 89, 90, 91, 92, 93, 94, 95, 96, 97, 98, 99, 100, 101, 102, 103, 104, 105, 106, 107, 108, 109, 110, 111, 112, 113, 6, 5, 4, 114, 115, 116, 117, 118, 119, 120, 121, 122, 123, 124, 125, 126, 127, 128, 129, 130, 131, 132, 133, 134, 135, 136, 137, 138, 139, 140, 141, 142, 143, 144, 145, 146, 147, 148, 149, 150, 151, 152, 153, 154, 155, 156, 157, 158, 159, 160, 161, 162, 163, 164, 165, 166, 167, 168, 169, 170, 171, 172, 173, 174, 175, 176, 177, 178, 179, 180, 181, 182, 183, 184, 185, 186, 187] (by decide +kernel) (by decide +kernel) : GoodIn vfX10_pier (.code yX7_read cX7_read 4 (some .boolean) :: [.fieldLink RX7 15 "HookPier$Reader" "fed" "I", .methodLink RX7 51 Lib.Math.min.name, .static Lib.Math.min.name, .initialized "java/lang/Math", .code Lib.Math.min.name Lib.Math.min.code 2 (some .int), .fieldLink RX7 19 "HookPier$Reader" "end" "I", .fieldLink RX7 28 "HookPier$Reader" "behind" "I", .fieldLink RX7 42 "HookPier$Reader" "names" "I", .fieldLink RX7 45 "HookPier$Reader" "fault" "I", .fieldLink RX7 48 "HookPier$Reader" "place" "I", .methodLink RX7 57 yX6_clear, .instanceMethod yX6_clear, .selects RX6 yX6_clear yX6_clear, .initialized RX6, .code yX6_clear cX6_clear 1 none, .fieldLink RX6 9 "HookPier$Plan" "spots" "I", .fieldLink RX6 15 "HookPier$Plan" "deep" "I", .fieldLink RX6 24 "HookPier$Plan" "baits" "I", .fieldLink RX6 27 "HookPier$Plan" "askers" "I", .fieldLink RX6 30 "HookPier$Plan" "answers" "I", .fieldLink RX6 33 "HookPier$Plan" "bites" "I", .fieldLink RX6 36 "HookPier$Plan" "darkHunger" "I", .methodLink RX7 62 yX7_advance, .instanceMethod yX7_advance, .selects RX7 yX7_advance yX7_advance, .initialized RX7, .code yX7_advance cX7_advance 1 none, .fieldLink RX7 25 "HookPier$Reader" "start" "I", .methodLink RX7 245 yX7_isLetter, .instanceMethod yX7_isLetter, .selects RX7 yX7_isLetter yX7_isLetter, .code yX7_isLetter cX7_isLetter 2 (some .boolean), .fieldLink RX7 9 "HookPier$Reader" "text" "[B", .fieldLink RX7 22 "HookPier$Reader" "token" "I", .methodLink RX7 248 yX7_isDigit, .instanceMethod yX7_isDigit, .selects RX7 yX7_isDigit yX7_isDigit, .code yX7_isDigit cX7_isDigit 2 (some .boolean), .methodLink RX7 72 yX7_fail, .instanceMethod yX7_fail, .selects RX7 yX7_fail yX7_fail, .code yX7_fail cX7_fail 2 (some .boolean), .methodLink RX7 65 yX7_readLine, .instanceMethod yX7_readLine, .selects RX7 yX7_readLine yX7_readLine, .code yX7_readLine cX7_readLine 3 (some .boolean), .methodLink RX7 78 yX7_isWord, .instanceMethod yX7_isWord, .selects RX7 yX7_isWord yX7_isWord, .code yX7_isWord cX7_isWord 3 (some .boolean), .methodLink RX7 231 yJ0_length_8abf5, .instanceMethod yJ0_length_8abf5, .selects RJ0 yJ0_length_8abf5 yJ0_length_8abf5, .initialized RJ0, .code yJ0_length_8abf5 cJ0_length_8abf5 1 (some .int), .fieldLink RJ0 9 "java/lang/String" "value" "[B", .methodLink RJ0 335 yJ0_coder_7d493, .instanceMethod yJ0_coder_7d493, .selects RJ0 yJ0_coder_7d493 yJ0_coder_7d493, .code yJ0_coder_7d493 cJ0_coder_7d493 1 (some .byte), .fieldLink RJ0 38 "java/lang/String" "COMPACT_STRINGS" "Z", .fieldLink RJ0 15 "java/lang/String" "coder" "B", .methodLink RX7 237 yJ0_charAt_5068e, .instanceMethod yJ0_charAt_5068e, .selects RJ0 yJ0_charAt_5068e yJ0_charAt_5068e, .code yJ0_charAt_5068e cJ0_charAt_5068e 2 (some .char), .methodLink RJ0 492 yJ0_isLatin1_aae02, .instanceMethod yJ0_isLatin1_aae02, .selects RJ0 yJ0_isLatin1_aae02 yJ0_isLatin1_aae02, .code yJ0_isLatin1_aae02 cJ0_isLatin1_aae02 1 (some .boolean), .methodLink RJ0 495 yJ1_charAt_3b067, .static yJ1_charAt_3b067, .initialized RJ1, .code yJ1_charAt_3b067 cJ1_charAt_3b067 2 (some .char), .methodLink RJ1 9 yJ0_checkIndex_df160, .static yJ0_checkIndex_df160, .code yJ0_checkIndex_df160 cJ0_checkIndex_df160 2 none, .fieldLink RJ0 1053 "jdk/internal/util/Preconditions" "SIOOBE_FORMATTER" "Ljava/util/function/BiFunction;", .methodLink RJ0 1059 yJ3_checkIndex_8e157, .static yJ3_checkIndex_8e157, .initialized RJ3, .code yJ3_checkIndex_8e157 cJ3_checkIndex_8e157 3 (some .int), .fieldLink RX7 115 "HookPier$Plan" "darkHunger" "I", .fieldLink RX7 123 "HookPier$Plan" "bites" "I", .methodLink RX7 90 yX7_opens, .instanceMethod yX7_opens, .selects RX7 yX7_opens yX7_opens, .code yX7_opens cX7_opens 3 (some .boolean), .fieldLink RX7 82 "HookPier$Plan" "spots" "I", .methodLink RX7 126 yX7_readBite, .instanceMethod yX7_readBite, .selects RX7 yX7_readBite yX7_readBite, .code yX7_readBite cX7_readBite 4 (some .boolean), .methodLink RX7 133 yX7_takeWhole, .instanceMethod yX7_takeWhole, .selects RX7 yX7_takeWhole yX7_takeWhole, .code yX7_takeWhole cX7_takeWhole 5 (some .boolean), .code yX10_within cX10_within 3 (some .boolean), .initialized RX10, .static yX10_within, .fieldLink RX7 31 "HookPier$Reader" "value" "I", .methodLink RX7 130 yX7_takeWord, .instanceMethod yX7_takeWord, .selects RX7 yX7_takeWord yX7_takeWord, .code yX7_takeWord cX7_takeWord 2 (some .boolean), .fieldLink RX7 139 "HookPier$Plan" "deep" "I", .methodLink RX7 179 yX7_takeBait, .instanceMethod yX7_takeBait, .selects RX7 yX7_takeBait yX7_takeBait, .code yX7_takeBait cX7_takeBait 2 (some .boolean), .methodLink RX7 220 yX7_isName, .instanceMethod yX7_isName, .selects RX7 yX7_isName yX7_isName, .code yX7_isName cX7_isName 1 (some .boolean), .methodLink RX7 223 yX7_wordCode, .instanceMethod yX7_wordCode, .selects RX7 yX7_wordCode yX7_wordCode, .code yX7_wordCode cX7_wordCode 4 (some .long), .constantLong RX7 241 (32), .constantLong RX7 243 (97), .methodLink RX7 227 yX7_nameOf, .instanceMethod yX7_nameOf, .selects RX7 yX7_nameOf yX7_nameOf, .code yX7_nameOf cX7_nameOf 4 (some .int), .fieldLink RX7 34 "HookPier$Reader" "name" "[J", .fieldLink RX7 38 "HookPier$Reader" "nameBait" "[I", .fieldLink RX7 191 "HookPier$Plan" "bite" "[I", .code yX10_question cX10_question 3 (some .int), .static yX10_question, .methodLink RX7 197 yX7_takeYes, .instanceMethod yX7_takeYes, .selects RX7 yX7_takeYes yX7_takeYes, .code yX7_takeYes cX7_takeYes 1 (some .boolean), .fieldLink RX7 200 "HookPier$Plan" "bit" "[Z", .methodLink RX7 118 yX7_readDark, .instanceMethod yX7_readDark, .selects RX7 yX7_readDark yX7_readDark, .code yX7_readDark cX7_readDark 2 (some .boolean), .fieldLink RX7 107 "HookPier$Plan" "answers" "I", .methodLink RX7 110 yX7_readAnswer, .instanceMethod yX7_readAnswer, .selects RX7 yX7_readAnswer yX7_readAnswer, .code yX7_readAnswer cX7_readAnswer 3 (some .boolean), .methodLink RX7 151 yX7_takeNewName, .instanceMethod yX7_takeNewName, .selects RX7 yX7_takeNewName yX7_takeNewName, .code yX7_takeNewName cX7_takeNewName 4 (some .boolean), .methodLink RX7 158 yX7_takeKind, .instanceMethod yX7_takeKind, .selects RX7 yX7_takeKind yX7_takeKind, .code yX7_takeKind cX7_takeKind 1 (some .boolean), .fieldLink RX7 162 "HookPier$Plan" "kind" "[I", .fieldLink RX7 167 "HookPier$Plan" "at" "[I", .fieldLink RX7 171 "HookPier$Plan" "depth" "[I", .fieldLink RX7 175 "HookPier$Plan" "hunger" "[I", .fieldLink RX7 182 "HookPier$Plan" "likes" "[I", .fieldLink RX7 186 "HookPier$Plan" "told" "[I", .fieldLink RX7 99 "HookPier$Plan" "askers" "I", .methodLink RX7 102 yX7_readAsker, .instanceMethod yX7_readAsker, .selects RX7 yX7_readAsker yX7_readAsker, .code yX7_readAsker cX7_readAsker 2 (some .boolean), .fieldLink RX7 156 "HookPier$Plan" "reach" "[I", .fieldLink RX7 69 "HookPier$Plan" "baits" "I", .methodLink RX7 94 yX7_readBait, .instanceMethod yX7_readBait, .selects RX7 yX7_readBait yX7_readBait, .code yX7_readBait cX7_readBait 2 (some .boolean), .methodLink RX7 85 yX7_readPier, .instanceMethod yX7_readPier, .selects RX7 yX7_readPier yX7_readPier, .code yX7_readPier cX7_readPier 2 (some .boolean), .fieldLink RX7 143 "HookPier$Plan" "closeFrom" "I", .fieldLink RX7 148 "HookPier$Plan" "closeTo" "I"])) (goodIn_sub ifX10_pier_X7 (by decide +kernel))) (goodIn_sub ifX10_pier_X6 (by decide +kernel)))
set_option maxRecDepth 20000 in
theorem gfX10_pier_3 : GoodIn vfX10_pier (wsV RX10 90 RX4 yX4_begin vfX4_begin) := goodIn_app (goodIn_r [.methodLink RX10 90 yX4_begin, .instanceMethod yX4_begin, .selects RX4 yX4_begin yX4_begin, .initialized RX4] [192, 193, 194, 195] (by decide +kernel) (by decide +kernel)) (goodIn_ca (goodIn_r (.code yX4_begin cX4_begin 2 none :: [.fieldLink RX4 9 "HookPier$Now" "today" "I", .fieldLink RX4 15 "HookPier$Now" "seedNow" "I", .fieldLink RX4 18 "HookPier$Now" "soldFor" "I", .fieldLink RX4 21 "HookPier$Now" "stage" "[I", .fieldLink RX4 31 "HookPier$Now" "line" "[I"]) [196, 197, 198, 199, 200, 201] (by decide +kernel) (by decide +kernel) : GoodIn vfX10_pier (.code yX4_begin cX4_begin 2 none :: [.fieldLink RX4 9 "HookPier$Now" "today" "I", .fieldLink RX4 15 "HookPier$Now" "seedNow" "I", .fieldLink RX4 18 "HookPier$Now" "soldFor" "I", .fieldLink RX4 21 "HookPier$Now" "stage" "[I", .fieldLink RX4 31 "HookPier$Now" "line" "[I"])) (goodIn_sub ifX10_pier_X4 (by decide +kernel)))
set_option maxRecDepth 20000 in
theorem gfX10_pier_4 : GoodIn vfX10_pier (wsV RX10 93 RX2 yX2_forgetAll vfX2_forgetAll) := goodIn_app (goodIn_r [.methodLink RX10 93 yX2_forgetAll, .instanceMethod yX2_forgetAll, .selects RX2 yX2_forgetAll yX2_forgetAll, .initialized RX2] [203, 204, 205, 206] (by decide +kernel) (by decide +kernel)) (goodIn_ca (goodIn_r (.code yX2_forgetAll cX2_forgetAll 1 none :: [.fieldLink RX2 24 "HookPier$History" "acts" "I", .fieldLink RX2 27 "HookPier$History" "marks" "I"]) [207, 208, 209] (by decide +kernel) (by decide +kernel) : GoodIn vfX10_pier (.code yX2_forgetAll cX2_forgetAll 1 none :: [.fieldLink RX2 24 "HookPier$History" "acts" "I", .fieldLink RX2 27 "HookPier$History" "marks" "I"])) (goodIn_sub ifX10_pier_X2 (by decide +kernel)))
set_option maxHeartbeats 2000000 in
set_option maxRecDepth 100000 in
theorem kfX10_pier (l : Launch) (dC : Nat → ClassId) (dI : Nat → Nat → Nat) (a0 : Nat) (k1 : Int32) (a2 : Nat) (a3 : Nat) (a4 : Nat) (a5 : Nat) (up2 : Nat → Nat) (kp2 : Nat → ClassId) (ur : Nat → Nat) (kr : Nat → ClassId) (un : Nat → Nat) (kn : Nat → ClassId) (x_x : TX10_x) (a13 : Nat) (g14 : Value) (g15 : Value) (g16 : Value) (p2_p : TX6_p) (r_r : TX7_r) (n_n : TX4_n) (h_h : TX2_h) (g21 : Value) (g22 : Value) (sz : Nat) (B : Nat) (out : (Int32 × TX10_x × Nat × Nat × TX6_p × TX7_r × TX4_n × TX2_h)) (h : f_X10_pier k1 x_x p2_p r_r n_n h_h a2 a13 = some out) : Met l yX10_pier vfX10_pier ({ frames := 10, cells := 0, slots := 0, locals := 217 }) (PF (dC, dI) B [.ref a0, .int k1] sz ((a0, .inr (7, [.ref a13, .ref a2, .ref a3, .ref a4, .ref a5, g14, g15, g16, .int x_x.1, .int x_x.2])) :: bX6 a2 up2 kp2 p2_p (bX7 a3 ur kr r_r (bX4 a4 un kn n_n ([(a5, .inr (2, [g21, g22, .int h_h.1, .int h_h.2.1, .int h_h.2.2]))])))) (tX6 kp2 (tX7 kr (tX4 kn ([])))) []) (va_Qi (S := Unit) (fun (r : Int32) _ => r = out.1) (fun _ t => BC (dC, dI) (va_A ((a0, .inr (7, [.ref a13, .ref a2, .ref a3, .ref a4, .ref a5, g14, g15, g16, .int x_x.1, .int x_x.2])) :: bX6 a2 up2 kp2 p2_p (bX7 a3 ur kr r_r (bX4 a4 un kn n_n ([(a5, .inr (2, [g21, g22, .int h_h.1, .int h_h.2.1, .int h_h.2.2]))])))) sz) ((a0, .inr (7, [.ref out.2.2.1, .ref out.2.2.2.1, .ref a3, .ref a4, .ref a5, g14, g15, g16, .int out.2.1.1, .int out.2.1.2])) :: bX6 a2 up2 kp2 out.2.2.2.2.1 (bX7 a3 ur kr out.2.2.2.2.2.1 (bX4 a4 un kn out.2.2.2.2.2.2.1 ([(a5, .inr (2, [g21, g22, .int out.2.2.2.2.2.2.2.1, .int out.2.2.2.2.2.2.2.2.1, .int out.2.2.2.2.2.2.2.2.2]))])))) [] t) (va_A ((a0, .inr (7, [.ref a13, .ref a2, .ref a3, .ref a4, .ref a5, g14, g15, g16, .int x_x.1, .int x_x.2])) :: bX6 a2 up2 kp2 p2_p (bX7 a3 ur kr r_r (bX4 a4 un kn n_n ([(a5, .inr (2, [g21, g22, .int h_h.1, .int h_h.2.1, .int h_h.2.2]))])))) sz)) 0 0 (va_A ((a0, .inr (7, [.ref a13, .ref a2, .ref a3, .ref a4, .ref a5, g14, g15, g16, .int x_x.1, .int x_x.2])) :: bX6 a2 up2 kp2 p2_p (bX7 a3 ur kr r_r (bX4 a4 un kn n_n ([(a5, .inr (2, [g21, g22, .int h_h.1, .int h_h.2.1, .int h_h.2.2]))])))) sz) := by
  refine Met.ofW (cc := cX10_pier) (maxL := 4) (ret := (some .int)) (by decide) rfl ?_
  intro p e s m args below meth c s₁ B0 hml hv
  obtain ⟨rfl, hsz, hP, hK, hD0, hN, hBs, hE, hX⟩ := hv
  have hBA := PF_reg hD0 hBs
  have hx := B0.exec
  have hb := B0.bytes
  have hr := B0.returns
  have hts := atoms_spec (ws := vfX10_pier) B0.pre
  have hown : s.vm.findClass RX10 = some m.cls := findClass_of_methodNamed B0.named
  have hlocks := B0.notSynchronized
  subst hsz
  have hD := hD0.self (sz := s.heap.size)
  generalize hAe : va_A ((a0, .inr (7, [.ref a13, .ref a2, .ref a3, .ref a4, .ref a5, g14, g15, g16, .int x_x.1, .int x_x.2])) :: bX6 a2 up2 kp2 p2_p (bX7 a3 ur kr r_r (bX4 a4 un kn n_n ([(a5, .inr (2, [g21, g22, .int h_h.1, .int h_h.2.1, .int h_h.2.2]))])))) s.heap.size = A at hD hBA ⊢
  have hA : ∀ q : Nat, s.heap.size ≤ q → A q := fun q h => by rw [← hAe]; exact Or.inr h
  have hS : va_S A s.heap s.heap [] := va_S.rf
  have hP : va_P (dC, dI) vwCl ((a0, .inr (7, [.ref a13, .ref a2, .ref a3, .ref a4, .ref a5, g14, g15, g16, .int x_x.1, .int x_x.2])) :: bX6 a2 up2 kp2 p2_p (bX7 a3 ur kr r_r (bX4 a4 un kn n_n ([(a5, .inr (2, [g21, g22, .int h_h.1, .int h_h.2.1, .int h_h.2.2]))])))) s.heap := hP
  have hl := lv_entry ([.ref a0, .int k1]) (n := 4) (Nat.le_of_ble_eq_true rfl)
  rw [lg_entry_eq]
  generalize (lg_sl ([.ref a0, .int k1]) ++ List.replicate (4 - (lg_sl ([.ref a0, .int k1])).length) Slot.unset).toArray = ls at hl ⊢
  have hl : lv_has ls 4 [(0, .ref a0), (1, .int k1)] := hl
  have hB : RB B s A := ⟨hBA, hBs⟩
  refine W_q (fun QQ hQQ => ?_)
  rw [f_X10_pier] at h
  refine lv_aload_n hx hb dX10_pier_0 rfl (lv_at hl 0 rfl) ?_
  refine lv_iload_n hx hb dX10_pier_1 rfl (lv_at hl 1 rfl) ?_
  refine lv_iconst (v := 0) hx hb dX10_pier_2 (by decide) ?_
  refine lv_aload_n hx hb dX10_pier_3 rfl (lv_at hl 0 rfl) ?_
  refine va_get (D := (dC, dI)) (ci := 7) (v := .ref a3) (C := RX10) (T := TX10) (N := 10) hx hb hts ifX10_pier_X10 hown hK hP 0 rfl rfl 2 (by decide) (hts (.fieldLink RX10 22 "HookPier" "reader" "LHookPier$Reader;") (List.mem_of_getElem? (i := 1) rfl)) (fun _ h9 => h9) rfl dX10_pier_4 ?_
  refine va_get (D := (dC, dI)) (ci := 5) (v := .int r_r.2.1) (C := RX7) (T := TX7) (N := 12) hx hb hts ifX10_pier_X7 hown hK hP 11 rfl rfl 1 (by decide) (hts (.fieldLink RX10 68 "HookPier$Reader" "fed" "I") (List.mem_of_getElem? (i := 2) rfl)) (fun _ h9 => h9) rfl dX10_pier_7 ?_
  obtain ⟨o10, eo10⟩ : ∃ o, o = f_X10_within k1 (0 : Int32) r_r.2.1 := ⟨_, rfl⟩
  have h := nm_of h o10 eo10
  refine cl_i (wc := []) (wr := ((a0, .inr (7, [.ref a13, .ref a2, .ref a3, .ref a4, .ref a5, g14, g15, g16, .int x_x.1, .int x_x.2])) :: bX6 a2 up2 kp2 p2_p (bX7 a3 ur kr r_r (bX4 a4 un kn n_n ([(a5, .inr (2, [g21, g22, .int h_h.1, .int h_h.2.1, .int h_h.2.2]))]))))) (va_runS (As := [.int k1, .int 0, .int r_r.2.1]) (rest := [.ref a0]) ⟨hx, hb, hml, hown, hts⟩ (kfX10_within l dC dI k1 (0 : Int32) r_r.2.1 s.heap.size o10 eo10.symm) (va_cwS 3 hts gfX10_pier_0 rfl rfl rfl (by decide +kernel) ⟨(Nat.le_of_ble_eq_true rfl), (Nat.le_of_ble_eq_true rfl)⟩) (PS (hP.sub (ws' := []) [] rfl) (hK.sub (tys' := ([])) [] rfl) (hD.sub (ws' := []) [] (by decide) rfl) hN) rfl rfl hl.1 rfl (lv_room (Nat.le_of_ble_eq_true rfl)) dX10_pier_10 ⟨(Nat.le_of_ble_eq_true rfl), (Nat.le_of_ble_eq_true rfl)⟩) hP hD hK hS hA [] [0, 1, 2, 3, 4, 5, 6, 7, 8, 9, 10, 11, 12, 13, 14, 15, 16, 17, 18, 19, 20] rfl rfl (by decide) (by decide) (fun r10 _ H locs hw hP hD _ hS => ?_)
  obtain ⟨hw, br10⟩ := hw
  obtain rfl := hw.symm
  have hP : va_P (dC, dI) vwCl ((a0, .inr (7, [.ref a13, .ref a2, .ref a3, .ref a4, .ref a5, g14, g15, g16, .int x_x.1, .int x_x.2])) :: bX6 a2 up2 kp2 p2_p (bX7 a3 ur kr r_r (bX4 a4 un kn n_n ([(a5, .inr (2, [g21, g22, .int h_h.1, .int h_h.2.1, .int h_h.2.2]))])))) H := hP
  have hD : va_D A ((a0, .inr (7, [.ref a13, .ref a2, .ref a3, .ref a4, .ref a5, g14, g15, g16, .int x_x.1, .int x_x.2])) :: bX6 a2 up2 kp2 p2_p (bX7 a3 ur kr r_r (bX4 a4 un kn n_n ([(a5, .inr (2, [g21, g22, .int h_h.1, .int h_h.2.1, .int h_h.2.2]))])))) := hD
  have J21 : ∀ (v21_t1 : Int32) (H : Heap) (locs : List Loc) (ls : Array Slot), f_X10_pier_J21 k1 x_x p2_p r_r n_n h_h a2 a13 v21_t1 = some out → va_P (dC, dI) vwCl ((a0, .inr (7, [.ref a13, .ref a2, .ref a3, .ref a4, .ref a5, g14, g15, g16, .int x_x.1, .int x_x.2])) :: bX6 a2 up2 kp2 p2_p (bX7 a3 ur kr r_r (bX4 a4 un kn n_n ([(a5, .inr (2, [g21, g22, .int h_h.1, .int h_h.2.1, .int h_h.2.2]))])))) H → va_D A ((a0, .inr (7, [.ref a13, .ref a2, .ref a3, .ref a4, .ref a5, g14, g15, g16, .int x_x.1, .int x_x.2])) :: bX6 a2 up2 kp2 p2_p (bX7 a3 ur kr r_r (bX4 a4 un kn n_n ([(a5, .inr (2, [g21, g22, .int h_h.1, .int h_h.2.1, .int h_h.2.2]))])))) → va_S A s.heap H locs → lv_has ls 4 [(0, .ref a0), (1, .int k1)] → W p l e (headSpec vfX10_pier { frames := 10, cells := 0, slots := 0, locals := 217 }).room s m ([.ref a0, .int k1]).toArray below meth c H locs 0 0 QQ (F0 m 21 ls [.int v21_t1, .ref a0]) := by
    intro v21_t1 H locs ls h  hP hD hS hl
    rw [f_X10_pier_J21] at h
    obtain ⟨o21, eo21⟩ : ∃ o, o = f_X10_refused v21_t1 x_x := ⟨_, rfl⟩
    have h := nm_of h o21 eo21
    refine cl_i (wc := ([(a0, .inr (7, [.ref a13, .ref a2, .ref a3, .ref a4, .ref a5, g14, g15, g16, .int x_x.1, .int x_x.2]))])) (wr := (bX6 a2 up2 kp2 p2_p (bX7 a3 ur kr r_r (bX4 a4 un kn n_n ([(a5, .inr (2, [g21, g22, .int h_h.1, .int h_h.2.1, .int h_h.2.2]))]))))) (va_runV (As := [.int v21_t1]) (rest := []) ⟨hx, hb, hml, hown, hts⟩ (kfX10_refused l dC dI a0 v21_t1 x_x (.ref a13) (.ref a2) (.ref a3) (.ref a4) (.ref a5) (g14) (g15) (g16) H.size o21 eo21.symm) (cwV 1 hts gfX10_pier_1 rfl rfl rfl (by decide +kernel) ⟨(Nat.le_of_ble_eq_true rfl), (Nat.le_of_ble_eq_true rfl)⟩) (PV (hP.sub (ws' := ([(a0, .inr (7, [.ref a13, .ref a2, .ref a3, .ref a4, .ref a5, g14, g15, g16, .int x_x.1, .int x_x.2]))])) [0] rfl) (hK.sub (tys' := ([])) [] rfl) (hD.sub (ws' := ([(a0, .inr (7, [.ref a13, .ref a2, .ref a3, .ref a4, .ref a5, g14, g15, g16, .int x_x.1, .int x_x.2]))])) [0] (by decide) rfl) hN 0 rfl rfl) rfl rfl hl.1 rfl (lv_room (Nat.le_of_ble_eq_true rfl)) dX10_pier_21 ⟨(Nat.le_of_ble_eq_true rfl), (Nat.le_of_ble_eq_true rfl)⟩) hP hD hK hS hA [0] [1, 2, 3, 4, 5, 6, 7, 8, 9, 10, 11, 12, 13, 14, 15, 16, 17, 18, 19, 20] rfl rfl (by decide) (by decide) (fun r21 _ H locs hw hP hD _ hS => ?_)
    obtain ⟨hw, br21⟩ := hw
    obtain rfl := hw
    have hP : va_P (dC, dI) vwCl (bX6 a2 up2 kp2 p2_p (bX7 a3 ur kr r_r (bX4 a4 un kn n_n ([(a5, .inr (2, [g21, g22, .int h_h.1, .int h_h.2.1, .int h_h.2.2])), (a0, .inr (7, [.ref a13, .ref a2, .ref a3, .ref a4, .ref a5, g14, g15, g16, .int o21.2.1, .int o21.2.2]))])))) H := hP
    have hD : va_D A (bX6 a2 up2 kp2 p2_p (bX7 a3 ur kr r_r (bX4 a4 un kn n_n ([(a5, .inr (2, [g21, g22, .int h_h.1, .int h_h.2.1, .int h_h.2.2])), (a0, .inr (7, [.ref a13, .ref a2, .ref a3, .ref a4, .ref a5, g14, g15, g16, .int o21.2.1, .int o21.2.2]))])))) := hD
    refine lv_if_eq (tgt := 29) hx hb dX10_pier_24 (by decide) (fun c24 => ?_) (fun c24 => ?_)
    · have h := (if_pos c24).symm.trans h
      refine lv_aload_n hx hb dX10_pier_29 rfl (lv_at hl 0 rfl) ?_
      refine va_get (D := (dC, dI)) (ci := 7) (v := .ref a3) (C := RX10) (T := TX10) (N := 10) hx hb hts ifX10_pier_X10 hown hK hP 20 rfl rfl 2 (by decide) (hts (.fieldLink RX10 22 "HookPier" "reader" "LHookPier$Reader;") (List.mem_of_getElem? (i := 1) rfl)) (fun _ h9 => h9) rfl dX10_pier_30 ?_
      refine lv_iload_n hx hb dX10_pier_33 rfl (lv_at hl 1 rfl) ?_
      refine lv_aload_n hx hb dX10_pier_34 rfl (lv_at hl 0 rfl) ?_
      refine va_get (D := (dC, dI)) (ci := 7) (v := .ref a2) (C := RX10) (T := TX10) (N := 10) hx hb hts ifX10_pier_X10 hown hK hP 20 rfl rfl 1 (by decide) (hts (.fieldLink RX10 16 "HookPier" "spare" "LHookPier$Plan;") (List.mem_of_getElem? (i := 12) rfl)) (fun _ h9 => h9) rfl dX10_pier_35 ?_
      obtain ⟨o38, eo38, h⟩ := bd_of h
      refine cl_i (wc := (bX7 a3 ur kr r_r (bX6 a2 up2 kp2 p2_p []))) (wr := (bX4 a4 un kn n_n ([(a5, .inr (2, [g21, g22, .int h_h.1, .int h_h.2.1, .int h_h.2.2])), (a0, .inr (7, [.ref a13, .ref a2, .ref a3, .ref a4, .ref a5, g14, g15, g16, .int o21.2.1, .int o21.2.2]))]))) (va_runV (As := [.int k1, .ref a2]) (rest := []) ⟨hx, hb, hml, hown, hts⟩ (kfX7_read l dC dI a3 k1 a2 ur kr up2 kp2 r_r p2_p H.size B o38 eo38) (cwV 2 hts gfX10_pier_2 rfl rfl rfl (by decide +kernel) ⟨(Nat.le_of_ble_eq_true rfl), (Nat.le_of_ble_eq_true rfl)⟩) (PVF (hP.sub (ws' := (bX7 a3 ur kr r_r (bX6 a2 up2 kp2 p2_p []))) [10, 11, 12, 13, 0, 1, 2, 3, 4, 5, 6, 7, 8, 9] rfl) (hK.sub (tys' := (tX7 kr (tX6 kp2 ([])))) [9, 10, 11, 0, 1, 2, 3, 4, 5, 6, 7, 8] rfl) (hD.sub (ws' := (bX7 a3 ur kr r_r (bX6 a2 up2 kp2 p2_p []))) [10, 11, 12, 13, 0, 1, 2, 3, 4, 5, 6, 7, 8, 9] (by decide) rfl) hN hS hB hE S1n 0 rfl rfl) rfl rfl hl.1 rfl (lv_room (Nat.le_of_ble_eq_true rfl)) dX10_pier_38 ⟨(Nat.le_of_ble_eq_true rfl), (Nat.le_of_ble_eq_true rfl)⟩) hP hD hK hS hA [10, 11, 12, 13, 0, 1, 2, 3, 4, 5, 6, 7, 8, 9] [14, 15, 16, 17, 18, 19, 20] rfl rfl (by decide) (by decide) (fun r38 _ H locs hw hP hD _ hS => ?_)
      obtain ⟨hw, br38⟩ := hw
      obtain rfl := hw
      have hP : va_P (dC, dI) vwCl (bX4 a4 un kn n_n ((a5, .inr (2, [g21, g22, .int h_h.1, .int h_h.2.1, .int h_h.2.2])) :: (a0, .inr (7, [.ref a13, .ref a2, .ref a3, .ref a4, .ref a5, g14, g15, g16, .int o21.2.1, .int o21.2.2])) :: bX7 a3 ur kr o38.2.1 (bX6 a2 up2 kp2 o38.2.2 []))) H := hP
      have hD : va_D A (bX4 a4 un kn n_n ((a5, .inr (2, [g21, g22, .int h_h.1, .int h_h.2.1, .int h_h.2.2])) :: (a0, .inr (7, [.ref a13, .ref a2, .ref a3, .ref a4, .ref a5, g14, g15, g16, .int o21.2.1, .int o21.2.2])) :: bX7 a3 ur kr o38.2.1 (bX6 a2 up2 kp2 o38.2.2 []))) := hD
      refine lv_istore_n (lv' := [(2, .int o38.1), (0, .ref a0), (1, .int k1)]) hx hb dX10_pier_41 rfl hl (by decide) rfl (fun ls hl => ?_)
      refine lv_aload_n hx hb dX10_pier_42 rfl (lv_at hl 1 rfl) ?_
      refine lv_aload_n hx hb dX10_pier_43 rfl (lv_at hl 1 rfl) ?_
      refine va_get (D := (dC, dI)) (ci := 7) (v := .ref a3) (C := RX10) (T := TX10) (N := 10) hx hb hts ifX10_pier_X10 hown hK hP 6 rfl rfl 2 (by decide) (hts (.fieldLink RX10 22 "HookPier" "reader" "LHookPier$Reader;") (List.mem_of_getElem? (i := 1) rfl)) (fun _ h9 => h9) rfl dX10_pier_44 ?_
      refine va_get (D := (dC, dI)) (ci := 5) (v := .int o38.2.1.2.2.2.2.2.2.2.2.2.2.1) (C := RX7) (T := TX7) (N := 12) hx hb hts ifX10_pier_X7 hown hK hP 7 rfl rfl 10 (by decide) (hts (.fieldLink RX10 87 "HookPier$Reader" "fault" "I") (List.mem_of_getElem? (i := 188) rfl)) (fun _ h9 => h9) rfl dX10_pier_47 ?_
      refine va_put (D := (dC, dI)) (ci := 7) (v := .int o38.2.1.2.2.2.2.2.2.2.2.2.2.1) (ty := .int) (C := RX10) (T := TX10) (N := 10) hx hb hts ifX10_pier_X10 tyX10 tyX10_ok nmX10 hown hK hP hD hS 6 rfl rfl 9 (by decide) (hts (.fieldLink RX10 65 "HookPier" "faultNow" "I") (List.mem_of_getElem? (i := 189) rfl)) (fun _ h9 => h9) rfl (by decide +kernel) rfl rfl (Nat.le_of_ble_eq_true rfl) dX10_pier_50 (fun H locs hP hD hS => ?_)
      have hP : va_P (dC, dI) vwCl (bX4 a4 un kn n_n ((a5, .inr (2, [g21, g22, .int h_h.1, .int h_h.2.1, .int h_h.2.2])) :: (a0, .inr (7, [.ref a13, .ref a2, .ref a3, .ref a4, .ref a5, g14, g15, g16, .int o21.2.1, .int o38.2.1.2.2.2.2.2.2.2.2.2.2.1])) :: bX7 a3 ur kr o38.2.1 (bX6 a2 up2 kp2 o38.2.2 []))) H := hP
      have hD : va_D A (bX4 a4 un kn n_n ((a5, .inr (2, [g21, g22, .int h_h.1, .int h_h.2.1, .int h_h.2.2])) :: (a0, .inr (7, [.ref a13, .ref a2, .ref a3, .ref a4, .ref a5, g14, g15, g16, .int o21.2.1, .int o38.2.1.2.2.2.2.2.2.2.2.2.2.1])) :: bX7 a3 ur kr o38.2.1 (bX6 a2 up2 kp2 o38.2.2 []))) := hD
      refine lv_aload_n hx hb dX10_pier_53 rfl (lv_at hl 1 rfl) ?_
      refine lv_iload_n hx hb dX10_pier_54 rfl (lv_at hl 0 rfl) ?_
      have J63 : ∀ (v63_t1 : Int32) (H : Heap) (locs : List Loc) (ls : Array Slot), f_X10_pier_J63 n_n h_h a2 a13 o21 o38 v63_t1 = some out → va_P (dC, dI) vwCl (bX4 a4 un kn n_n ((a5, .inr (2, [g21, g22, .int h_h.1, .int h_h.2.1, .int h_h.2.2])) :: (a0, .inr (7, [.ref a13, .ref a2, .ref a3, .ref a4, .ref a5, g14, g15, g16, .int o21.2.1, .int o38.2.1.2.2.2.2.2.2.2.2.2.2.1])) :: bX7 a3 ur kr o38.2.1 (bX6 a2 up2 kp2 o38.2.2 []))) H → va_D A (bX4 a4 un kn n_n ((a5, .inr (2, [g21, g22, .int h_h.1, .int h_h.2.1, .int h_h.2.2])) :: (a0, .inr (7, [.ref a13, .ref a2, .ref a3, .ref a4, .ref a5, g14, g15, g16, .int o21.2.1, .int o38.2.1.2.2.2.2.2.2.2.2.2.2.1])) :: bX7 a3 ur kr o38.2.1 (bX6 a2 up2 kp2 o38.2.2 []))) → va_S A s.heap H locs → lv_has ls 4 [(0, .ref a0)] → W p l e (headSpec vfX10_pier { frames := 10, cells := 0, slots := 0, locals := 217 }).room s m ([.ref a0, .int k1]).toArray below meth c H locs 0 0 QQ (F0 m 63 ls [.int v63_t1, .ref a0]) := by
        intro v63_t1 H locs ls h  hP hD hS hl
        rw [f_X10_pier_J63] at h
        obtain ⟨o63, eo63⟩ : ∃ o, o = f_X10_refused v63_t1 (o21.2.1, o38.2.1.2.2.2.2.2.2.2.2.2.2.1) := ⟨_, rfl⟩
        have h := nm_of h o63 eo63
        refine cl_i (wc := ([(a0, .inr (7, [.ref a13, .ref a2, .ref a3, .ref a4, .ref a5, g14, g15, g16, .int o21.2.1, .int o38.2.1.2.2.2.2.2.2.2.2.2.2.1]))])) (wr := (bX4 a4 un kn n_n ((a5, .inr (2, [g21, g22, .int h_h.1, .int h_h.2.1, .int h_h.2.2])) :: bX7 a3 ur kr o38.2.1 (bX6 a2 up2 kp2 o38.2.2 [])))) (va_runV (As := [.int v63_t1]) (rest := []) ⟨hx, hb, hml, hown, hts⟩ (kfX10_refused l dC dI a0 v63_t1 (o21.2.1, o38.2.1.2.2.2.2.2.2.2.2.2.2.1) (.ref a13) (.ref a2) (.ref a3) (.ref a4) (.ref a5) (g14) (g15) (g16) H.size o63 eo63.symm) (cwV 1 hts gfX10_pier_1 rfl rfl rfl (by decide +kernel) ⟨(Nat.le_of_ble_eq_true rfl), (Nat.le_of_ble_eq_true rfl)⟩) (PV (hP.sub (ws' := ([(a0, .inr (7, [.ref a13, .ref a2, .ref a3, .ref a4, .ref a5, g14, g15, g16, .int o21.2.1, .int o38.2.1.2.2.2.2.2.2.2.2.2.2.1]))])) [6] rfl) (hK.sub (tys' := ([])) [] rfl) (hD.sub (ws' := ([(a0, .inr (7, [.ref a13, .ref a2, .ref a3, .ref a4, .ref a5, g14, g15, g16, .int o21.2.1, .int o38.2.1.2.2.2.2.2.2.2.2.2.2.1]))])) [6] (by decide) rfl) hN 0 rfl rfl) rfl rfl hl.1 rfl (lv_room (Nat.le_of_ble_eq_true rfl)) dX10_pier_63 ⟨(Nat.le_of_ble_eq_true rfl), (Nat.le_of_ble_eq_true rfl)⟩) hP hD hK hS hA [6] [0, 1, 2, 3, 4, 5, 7, 8, 9, 10, 11, 12, 13, 14, 15, 16, 17, 18, 19, 20] rfl rfl (by decide) (by decide) (fun r63 _ H locs hw hP hD _ hS => ?_)
        obtain ⟨hw, br63⟩ := hw
        obtain rfl := hw
        have hP : va_P (dC, dI) vwCl (bX4 a4 un kn n_n ((a5, .inr (2, [g21, g22, .int h_h.1, .int h_h.2.1, .int h_h.2.2])) :: bX7 a3 ur kr o38.2.1 (bX6 a2 up2 kp2 o38.2.2 ([(a0, .inr (7, [.ref a13, .ref a2, .ref a3, .ref a4, .ref a5, g14, g15, g16, .int o63.2.1, .int o63.2.2]))])))) H := hP
        have hD : va_D A (bX4 a4 un kn n_n ((a5, .inr (2, [g21, g22, .int h_h.1, .int h_h.2.1, .int h_h.2.2])) :: bX7 a3 ur kr o38.2.1 (bX6 a2 up2 kp2 o38.2.2 ([(a0, .inr (7, [.ref a13, .ref a2, .ref a3, .ref a4, .ref a5, g14, g15, g16, .int o63.2.1, .int o63.2.2]))])))) := hD
        refine lv_if_eq (tgt := 71) hx hb dX10_pier_66 (by decide) (fun c66 => ?_) (fun c66 => ?_)
        · have h := (if_pos c66).symm.trans h
          refine lv_aload_n hx hb dX10_pier_71 rfl (lv_at hl 0 rfl) ?_
          refine va_get (D := (dC, dI)) (ci := 7) (v := .ref a13) (C := RX10) (T := TX10) (N := 10) hx hb hts ifX10_pier_X10 hown hK hP 20 rfl rfl 0 (by decide) (hts (.fieldLink RX10 10 "HookPier" "plan" "LHookPier$Plan;") (List.mem_of_getElem? (i := 190) rfl)) (fun _ h9 => h9) rfl dX10_pier_72 ?_
          refine lv_astore_n (lv' := [(3, .ref a13), (0, .ref a0)]) hx hb dX10_pier_75 rfl hl (by decide) rfl (fun ls hl => ?_)
          refine lv_aload_n hx hb dX10_pier_76 rfl (lv_at hl 1 rfl) ?_
          refine lv_aload_n hx hb dX10_pier_77 rfl (lv_at hl 1 rfl) ?_
          refine va_get (D := (dC, dI)) (ci := 7) (v := .ref a2) (C := RX10) (T := TX10) (N := 10) hx hb hts ifX10_pier_X10 hown hK hP 20 rfl rfl 1 (by decide) (hts (.fieldLink RX10 16 "HookPier" "spare" "LHookPier$Plan;") (List.mem_of_getElem? (i := 12) rfl)) (fun _ h9 => h9) rfl dX10_pier_78 ?_
          refine va_put (D := (dC, dI)) (ci := 7) (v := .ref a2) (ty := .object "HookPier$Plan") (C := RX10) (T := TX10) (N := 10) hx hb hts ifX10_pier_X10 tyX10 tyX10_ok nmX10 hown hK hP hD hS 20 rfl rfl 0 (by decide) (hts (.fieldLink RX10 10 "HookPier" "plan" "LHookPier$Plan;") (List.mem_of_getElem? (i := 190) rfl)) (fun _ h9 => h9) rfl (by decide +kernel) rfl rfl (Nat.le_of_ble_eq_true rfl) dX10_pier_81 (fun H locs hP hD hS => ?_)
          have hP : va_P (dC, dI) vwCl (bX4 a4 un kn n_n ((a5, .inr (2, [g21, g22, .int h_h.1, .int h_h.2.1, .int h_h.2.2])) :: bX7 a3 ur kr o38.2.1 (bX6 a2 up2 kp2 o38.2.2 ([(a0, .inr (7, [.ref a2, .ref a2, .ref a3, .ref a4, .ref a5, g14, g15, g16, .int o63.2.1, .int o63.2.2]))])))) H := hP
          have hD : va_D A (bX4 a4 un kn n_n ((a5, .inr (2, [g21, g22, .int h_h.1, .int h_h.2.1, .int h_h.2.2])) :: bX7 a3 ur kr o38.2.1 (bX6 a2 up2 kp2 o38.2.2 ([(a0, .inr (7, [.ref a2, .ref a2, .ref a3, .ref a4, .ref a5, g14, g15, g16, .int o63.2.1, .int o63.2.2]))])))) := hD
          refine lv_aload_n hx hb dX10_pier_84 rfl (lv_at hl 1 rfl) ?_
          refine lv_aload_n hx hb dX10_pier_85 rfl (lv_at hl 0 rfl) ?_
          refine va_put (D := (dC, dI)) (ci := 7) (v := .ref a13) (ty := .object "HookPier$Plan") (C := RX10) (T := TX10) (N := 10) hx hb hts ifX10_pier_X10 tyX10 tyX10_ok nmX10 hown hK hP hD hS 20 rfl rfl 1 (by decide) (hts (.fieldLink RX10 16 "HookPier" "spare" "LHookPier$Plan;") (List.mem_of_getElem? (i := 12) rfl)) (fun _ h9 => h9) rfl (by decide +kernel) rfl rfl (Nat.le_of_ble_eq_true rfl) dX10_pier_86 (fun H locs hP hD hS => ?_)
          have hP : va_P (dC, dI) vwCl (bX4 a4 un kn n_n ((a5, .inr (2, [g21, g22, .int h_h.1, .int h_h.2.1, .int h_h.2.2])) :: bX7 a3 ur kr o38.2.1 (bX6 a2 up2 kp2 o38.2.2 ([(a0, .inr (7, [.ref a2, .ref a13, .ref a3, .ref a4, .ref a5, g14, g15, g16, .int o63.2.1, .int o63.2.2]))])))) H := hP
          have hD : va_D A (bX4 a4 un kn n_n ((a5, .inr (2, [g21, g22, .int h_h.1, .int h_h.2.1, .int h_h.2.2])) :: bX7 a3 ur kr o38.2.1 (bX6 a2 up2 kp2 o38.2.2 ([(a0, .inr (7, [.ref a2, .ref a13, .ref a3, .ref a4, .ref a5, g14, g15, g16, .int o63.2.1, .int o63.2.2]))])))) := hD
          refine lv_aload_n hx hb dX10_pier_89 rfl (lv_at hl 1 rfl) ?_
          refine va_get (D := (dC, dI)) (ci := 7) (v := .ref a4) (C := RX10) (T := TX10) (N := 10) hx hb hts ifX10_pier_X10 hown hK hP 20 rfl rfl 3 (by decide) (hts (.fieldLink RX10 29 "HookPier" "now" "LHookPier$Now;") (List.mem_of_getElem? (i := 191) rfl)) (fun _ h9 => h9) rfl dX10_pier_90 ?_
          obtain ⟨o93, eo93, h⟩ := bd_of h
          refine cl_v (wc := (bX4 a4 un kn n_n [])) (wr := ((a5, .inr (2, [g21, g22, .int h_h.1, .int h_h.2.1, .int h_h.2.2])) :: bX7 a3 ur kr o38.2.1 (bX6 a2 up2 kp2 o38.2.2 ([(a0, .inr (7, [.ref a2, .ref a13, .ref a3, .ref a4, .ref a5, g14, g15, g16, .int o63.2.1, .int o63.2.2]))])))) (va_runV (As := []) (rest := []) ⟨hx, hb, hml, hown, hts⟩ (kfX4_begin l dC dI a4 un kn n_n H.size o93 eo93) (cwV 0 hts gfX10_pier_3 rfl rfl rfl (by decide +kernel) ⟨(Nat.le_of_ble_eq_true rfl), (Nat.le_of_ble_eq_true rfl)⟩) (PV (hP.sub (ws' := (bX4 a4 un kn n_n [])) [0, 1, 2, 3, 4] rfl) (hK.sub (tys' := (tX4 kn ([]))) [12, 13, 14, 15] rfl) (hD.sub (ws' := (bX4 a4 un kn n_n [])) [0, 1, 2, 3, 4] (by decide) rfl) hN 0 rfl rfl) rfl rfl hl.1 rfl (lv_room (Nat.le_of_ble_eq_true rfl)) dX10_pier_93 ⟨(Nat.le_of_ble_eq_true rfl), (Nat.le_of_ble_eq_true rfl)⟩) hP hD hK hS hA [0, 1, 2, 3, 4] [5, 6, 7, 8, 9, 10, 11, 12, 13, 14, 15, 16, 17, 18, 19, 20] rfl rfl (by decide) (by decide) (fun _ H locs hw hP hD _ hS => ?_)
          have hP : va_P (dC, dI) vwCl ((a5, .inr (2, [g21, g22, .int h_h.1, .int h_h.2.1, .int h_h.2.2])) :: bX7 a3 ur kr o38.2.1 (bX6 a2 up2 kp2 o38.2.2 ((a0, .inr (7, [.ref a2, .ref a13, .ref a3, .ref a4, .ref a5, g14, g15, g16, .int o63.2.1, .int o63.2.2])) :: bX4 a4 un kn o93 []))) H := hP
          have hD : va_D A ((a5, .inr (2, [g21, g22, .int h_h.1, .int h_h.2.1, .int h_h.2.2])) :: bX7 a3 ur kr o38.2.1 (bX6 a2 up2 kp2 o38.2.2 ((a0, .inr (7, [.ref a2, .ref a13, .ref a3, .ref a4, .ref a5, g14, g15, g16, .int o63.2.1, .int o63.2.2])) :: bX4 a4 un kn o93 []))) := hD
          refine lv_aload_n hx hb dX10_pier_96 rfl (lv_at hl 1 rfl) ?_
          refine va_get (D := (dC, dI)) (ci := 7) (v := .ref a5) (C := RX10) (T := TX10) (N := 10) hx hb hts ifX10_pier_X10 hown hK hP 15 rfl rfl 4 (by decide) (hts (.fieldLink RX10 36 "HookPier" "history" "LHookPier$History;") (List.mem_of_getElem? (i := 202) rfl)) (fun _ h9 => h9) rfl dX10_pier_97 ?_
          obtain ⟨o100, eo100⟩ : ∃ o, o = f_X2_forgetAll h_h := ⟨_, rfl⟩
          have h := nm_of h o100 eo100
          refine cl_v (wc := ([(a5, .inr (2, [g21, g22, .int h_h.1, .int h_h.2.1, .int h_h.2.2]))])) (wr := (bX7 a3 ur kr o38.2.1 (bX6 a2 up2 kp2 o38.2.2 ((a0, .inr (7, [.ref a2, .ref a13, .ref a3, .ref a4, .ref a5, g14, g15, g16, .int o63.2.1, .int o63.2.2])) :: bX4 a4 un kn o93 [])))) (va_runV (As := []) (rest := []) ⟨hx, hb, hml, hown, hts⟩ (kfX2_forgetAll l dC dI a5 h_h (g21) (g22) H.size o100 eo100.symm) (cwV 0 hts gfX10_pier_4 rfl rfl rfl (by decide +kernel) ⟨(Nat.le_of_ble_eq_true rfl), (Nat.le_of_ble_eq_true rfl)⟩) (PV (hP.sub (ws' := ([(a5, .inr (2, [g21, g22, .int h_h.1, .int h_h.2.1, .int h_h.2.2]))])) [0] rfl) (hK.sub (tys' := ([])) [] rfl) (hD.sub (ws' := ([(a5, .inr (2, [g21, g22, .int h_h.1, .int h_h.2.1, .int h_h.2.2]))])) [0] (by decide) rfl) hN 0 rfl rfl) rfl rfl hl.1 rfl (lv_room (Nat.le_of_ble_eq_true rfl)) dX10_pier_100 ⟨(Nat.le_of_ble_eq_true rfl), (Nat.le_of_ble_eq_true rfl)⟩) hP hD hK hS hA [0] [1, 2, 3, 4, 5, 6, 7, 8, 9, 10, 11, 12, 13, 14, 15, 16, 17, 18, 19, 20] rfl rfl (by decide) (by decide) (fun _ H locs hw hP hD _ hS => ?_)
          have hP : va_P (dC, dI) vwCl (bX7 a3 ur kr o38.2.1 (bX6 a2 up2 kp2 o38.2.2 ((a0, .inr (7, [.ref a2, .ref a13, .ref a3, .ref a4, .ref a5, g14, g15, g16, .int o63.2.1, .int o63.2.2])) :: bX4 a4 un kn o93 ([(a5, .inr (2, [g21, g22, .int o100.1, .int o100.2.1, .int o100.2.2]))])))) H := hP
          have hD : va_D A (bX7 a3 ur kr o38.2.1 (bX6 a2 up2 kp2 o38.2.2 ((a0, .inr (7, [.ref a2, .ref a13, .ref a3, .ref a4, .ref a5, g14, g15, g16, .int o63.2.1, .int o63.2.2])) :: bX4 a4 un kn o93 ([(a5, .inr (2, [g21, g22, .int o100.1, .int o100.2.1, .int o100.2.2]))])))) := hD
          refine lv_aload_n hx hb dX10_pier_103 rfl (lv_at hl 1 rfl) ?_
          refine va_get (D := (dC, dI)) (ci := 7) (v := .ref a2) (C := RX10) (T := TX10) (N := 10) hx hb hts ifX10_pier_X10 hown hK hP 14 rfl rfl 0 (by decide) (hts (.fieldLink RX10 10 "HookPier" "plan" "LHookPier$Plan;") (List.mem_of_getElem? (i := 190) rfl)) (fun _ h9 => h9) rfl dX10_pier_104 ?_
          refine va_get (D := (dC, dI)) (ci := 4) (v := .int o38.2.2.2.2.2.2.2.2.1) (C := RX6) (T := TX6) (N := 18) hx hb hts ifX10_pier_X6 hown hK hP 4 rfl rfl 6 (by decide) (hts (.fieldLink RX10 96 "HookPier$Plan" "answers" "I") (List.mem_of_getElem? (i := 210) rfl)) (fun _ h9 => h9) rfl dX10_pier_107 ?_
          obtain rfl := Option.some.inj h
          have hP9 := hP.sub (ws' := ((a0, .inr (7, [.ref a2, .ref a13, .ref a3, .ref a4, .ref a5, g14, g15, g16, .int o63.2.1, .int o63.2.2])) :: bX6 a2 up2 kp2 o38.2.2 (bX7 a3 ur kr o38.2.1 (bX4 a4 un kn o93 ([(a5, .inr (2, [g21, g22, .int o100.1, .int o100.2.1, .int o100.2.2]))]))))) [14, 4, 5, 6, 7, 8, 9, 10, 11, 12, 13, 0, 1, 2, 3, 15, 16, 17, 18, 19, 20] rfl
          have hD9 := hD.sub (ws' := ((a0, .inr (7, [.ref a2, .ref a13, .ref a3, .ref a4, .ref a5, g14, g15, g16, .int o63.2.1, .int o63.2.2])) :: bX6 a2 up2 kp2 o38.2.2 (bX7 a3 ur kr o38.2.1 (bX4 a4 un kn o93 ([(a5, .inr (2, [g21, g22, .int o100.1, .int o100.2.1, .int o100.2.2]))]))))) [14, 4, 5, 6, 7, 8, 9, 10, 11, 12, 13, 0, 1, 2, 3, 15, 16, 17, 18, 19, 20] (by decide) rfl
          have hK9 := hK.sub (tys' := []) [] rfl
          rw [hQQ]
          exact W.iret (v := o38.2.2.2.2.2.2.2.2.1) hx hb hr (fun t ht hW => ⟨⟨o38.2.2.2.2.2.2.2.2.1, (), rfl, rfl, by rw [ht]; exact hP9, va_K.moved hW.alike hK9, hD9⟩, hS.F ht⟩) hS.2.2 dX10_pier_110
        · have h := (if_neg c66).symm.trans h
          refine lv_iconst (v := (-1)) hx hb dX10_pier_69 (by decide) ?_
          obtain rfl := Option.some.inj h
          have hP9 := hP.sub (ws' := ((a0, .inr (7, [.ref a13, .ref a2, .ref a3, .ref a4, .ref a5, g14, g15, g16, .int o63.2.1, .int o63.2.2])) :: bX6 a2 up2 kp2 o38.2.2 (bX7 a3 ur kr o38.2.1 (bX4 a4 un kn n_n ([(a5, .inr (2, [g21, g22, .int h_h.1, .int h_h.2.1, .int h_h.2.2]))]))))) [20, 10, 11, 12, 13, 14, 15, 16, 17, 18, 19, 6, 7, 8, 9, 0, 1, 2, 3, 4, 5] rfl
          have hD9 := hD.sub (ws' := ((a0, .inr (7, [.ref a13, .ref a2, .ref a3, .ref a4, .ref a5, g14, g15, g16, .int o63.2.1, .int o63.2.2])) :: bX6 a2 up2 kp2 o38.2.2 (bX7 a3 ur kr o38.2.1 (bX4 a4 un kn n_n ([(a5, .inr (2, [g21, g22, .int h_h.1, .int h_h.2.1, .int h_h.2.2]))]))))) [20, 10, 11, 12, 13, 14, 15, 16, 17, 18, 19, 6, 7, 8, 9, 0, 1, 2, 3, 4, 5] (by decide) rfl
          have hK9 := hK.sub (tys' := []) [] rfl
          rw [hQQ]
          exact W.iret (v := (-1 : Int32)) hx hb hr (fun t ht hW => ⟨⟨(-1 : Int32), (), rfl, rfl, by rw [ht]; exact hP9, va_K.moved hW.alike hK9, hD9⟩, hS.F ht⟩) hS.2.2 dX10_pier_70
      refine lv_if_eq (tgt := 62) hx hb dX10_pier_55 (by decide) (fun c55 => ?_) (fun c55 => ?_)
      · have h := (if_pos c55).symm.trans h
        refine lv_iconst (v := 4) hx hb dX10_pier_62 (by decide) ?_
        exact J63 (4 : Int32) H _ ls h  hP hD hS (lv_sub hl [1] rfl)
      · have h := (if_neg c55).symm.trans h
        refine lv_iconst (v := 0) hx hb dX10_pier_58 (by decide) ?_
        refine lv_goto (tgt := 63) hx hb dX10_pier_59 (by decide) ?_
        exact J63 (0 : Int32) H _ ls h  hP hD hS (lv_sub hl [1] rfl)
    · have h := (if_neg c24).symm.trans h
      refine lv_iconst (v := (-1)) hx hb dX10_pier_27 (by decide) ?_
      obtain rfl := Option.some.inj h
      have hP9 := hP.sub (ws' := ((a0, .inr (7, [.ref a13, .ref a2, .ref a3, .ref a4, .ref a5, g14, g15, g16, .int o21.2.1, .int o21.2.2])) :: bX6 a2 up2 kp2 p2_p (bX7 a3 ur kr r_r (bX4 a4 un kn n_n ([(a5, .inr (2, [g21, g22, .int h_h.1, .int h_h.2.1, .int h_h.2.2]))]))))) [20, 0, 1, 2, 3, 4, 5, 6, 7, 8, 9, 10, 11, 12, 13, 14, 15, 16, 17, 18, 19] rfl
      have hD9 := hD.sub (ws' := ((a0, .inr (7, [.ref a13, .ref a2, .ref a3, .ref a4, .ref a5, g14, g15, g16, .int o21.2.1, .int o21.2.2])) :: bX6 a2 up2 kp2 p2_p (bX7 a3 ur kr r_r (bX4 a4 un kn n_n ([(a5, .inr (2, [g21, g22, .int h_h.1, .int h_h.2.1, .int h_h.2.2]))]))))) [20, 0, 1, 2, 3, 4, 5, 6, 7, 8, 9, 10, 11, 12, 13, 14, 15, 16, 17, 18, 19] (by decide) rfl
      have hK9 := hK.sub (tys' := []) [] rfl
      rw [hQQ]
      exact W.iret (v := (-1 : Int32)) hx hb hr (fun t ht hW => ⟨⟨(-1 : Int32), (), rfl, rfl, by rw [ht]; exact hP9, va_K.moved hW.alike hK9, hD9⟩, hS.F ht⟩) hS.2.2 dX10_pier_28
  refine lv_if_eq (tgt := 20) hx hb dX10_pier_13 (by decide) (fun c13 => ?_) (fun c13 => ?_)
  · have h := (if_pos c13).symm.trans h
    refine lv_iconst (v := 2) hx hb dX10_pier_20 (by decide) ?_
    exact J21 (2 : Int32) H _ ls h  hP hD hS (lv_sub hl [0, 1] rfl)
  · have h := (if_neg c13).symm.trans h
    refine lv_iconst (v := 0) hx hb dX10_pier_16 (by decide) ?_
    refine lv_goto (tgt := 21) hx hb dX10_pier_17 (by decide) ?_
    exact J21 (0 : Int32) H _ ls h  hP hD hS (lv_sub hl [0, 1] rfl)
theorem dX12_isAsker_0 : decode cX12_isAsker 0 = .ok (.aload_n 0, 1) := by decide +kernel
theorem dX12_isAsker_1 : decode cX12_isAsker 1 = .ok (.getfield 299, 3) := by decide +kernel
theorem dX12_isAsker_11 : decode cX12_isAsker 11 = .ok (.iload_n 1, 1) := by decide +kernel
theorem dX12_isAsker_12 : decode cX12_isAsker 12 = .ok (.aload_n 0, 1) := by decide +kernel
theorem dX12_isAsker_13 : decode cX12_isAsker 13 = .ok (.getfield 299, 3) := by decide +kernel
theorem dX12_isAsker_16 : decode cX12_isAsker 16 = .ok (.getfield 224, 3) := by decide +kernel
theorem dX12_isAsker_19 : decode cX12_isAsker 19 = .ok (.if_icmp .ge 7, 3) := by decide +kernel
theorem dX12_isAsker_22 : decode cX12_isAsker 22 = .ok (.iconst 1, 1) := by decide +kernel
theorem dX12_isAsker_23 : decode cX12_isAsker 23 = .ok (.goto 4, 3) := by decide +kernel
theorem dX12_isAsker_26 : decode cX12_isAsker 26 = .ok (.iconst 0, 1) := by decide +kernel
theorem dX12_isAsker_27 : decode cX12_isAsker 27 = .ok (.ireturn, 1) := by decide +kernel
theorem dX12_isAsker_4 : decode cX12_isAsker 4 = .ok (.ifnull 22, 3) := by decide +kernel
theorem dX12_isAsker_7 : decode cX12_isAsker 7 = .ok (.iload_n 1, 1) := by decide +kernel
theorem dX12_isAsker_8 : decode cX12_isAsker 8 = .ok (.ifCond .lt 18, 3) := by decide +kernel
def vfX12_isAsker : List Cond := .code yX12_isAsker cX12_isAsker 2 (some .boolean) :: ([.fieldLink RX12 299 "HookPierModel" "pier" "LHookPierModel$Pier;"] ++ wsX120 ++ wsX110)
theorem ifX12_isAsker_X12 : ∀ w ∈ wsX120, w ∈ vfX12_isAsker := fun _ h => List.mem_cons_of_mem _ (List.mem_append_left _ (List.mem_append_right _ h))
theorem ifX12_isAsker_X11 : ∀ w ∈ wsX110, w ∈ vfX12_isAsker := fun _ h => List.mem_cons_of_mem _ (List.mem_append_right _ h)
set_option maxHeartbeats 2000000 in
set_option maxRecDepth 100000 in
theorem kfX12_isAsker (l : Launch) (dC : Nat → ClassId) (dI : Nat → Nat → Nat) (a0 : Nat) (k1 : Int32) (a2 : Nat) (uq : Nat → Nat) (kq : Nat → ClassId) (g5 : Value) (g6 : Value) (g7 : Value) (g8 : Value) (g9 : Value) (g10 : Value) (g11 : Value) (g12 : Value) (g13 : Value) (g14 : Value) (g15 : Value) (g16 : Value) (g17 : Value) (g18 : Value) (g19 : Value) (g20 : Value) (g21 : Value) (g22 : Value) (g23 : Value) (g24 : Value) (g25 : Value) (g26 : Value) (g27 : Value) (g28 : Value) (g29 : Value) (g30 : Value) (g31 : Value) (g32 : Value) (g33 : Value) (q_q : TX11_q) (sz : Nat) (out : Int32) (h : f_X12_isAsker k1 q_q = out) : Met l yX12_isAsker vfX12_isAsker ({ frames := 0, cells := 0, slots := 0, locals := 0 }) (PC (dC, dI) [.ref a0, .int k1] sz ((a0, .inr (9, [g5, g6, g7, .ref a2, g8, g9, g10, g11, g12, g13, g14, g15, g16, g17, g18, g19, g20, g21, g22, g23, g24, g25, g26, g27, g28, g29, g30, g31, g32, g33])) :: bX11 a2 uq kq q_q []) (tX11 kq ([]))) (va_Qi (S := Unit) (fun (r : Int32) _ => r = out ∧ (0 ≤ r.toInt ∧ r.toInt ≤ 1)) (fun _ t => BC (dC, dI) (va_A ((a0, .inr (9, [g5, g6, g7, .ref a2, g8, g9, g10, g11, g12, g13, g14, g15, g16, g17, g18, g19, g20, g21, g22, g23, g24, g25, g26, g27, g28, g29, g30, g31, g32, g33])) :: bX11 a2 uq kq q_q []) sz) ((a0, .inr (9, [g5, g6, g7, .ref a2, g8, g9, g10, g11, g12, g13, g14, g15, g16, g17, g18, g19, g20, g21, g22, g23, g24, g25, g26, g27, g28, g29, g30, g31, g32, g33])) :: bX11 a2 uq kq q_q []) [] t) (va_A ((a0, .inr (9, [g5, g6, g7, .ref a2, g8, g9, g10, g11, g12, g13, g14, g15, g16, g17, g18, g19, g20, g21, g22, g23, g24, g25, g26, g27, g28, g29, g30, g31, g32, g33])) :: bX11 a2 uq kq q_q []) sz)) 0 0 (va_A ((a0, .inr (9, [g5, g6, g7, .ref a2, g8, g9, g10, g11, g12, g13, g14, g15, g16, g17, g18, g19, g20, g21, g22, g23, g24, g25, g26, g27, g28, g29, g30, g31, g32, g33])) :: bX11 a2 uq kq q_q []) sz) := by
  refine Met.ofW (cc := cX12_isAsker) (maxL := 2) (ret := (some .boolean)) (by decide) rfl ?_
  intro p e s m args below meth c s₁ B0 hml hv
  obtain ⟨rfl, hsz, hP, hK, hD0, hN⟩ := hv
  have hx := B0.exec
  have hb := B0.bytes
  have hr := B0.returns
  have hts := atoms_spec (ws := vfX12_isAsker) B0.pre
  have hown : s.vm.findClass RX12 = some m.cls := findClass_of_methodNamed B0.named
  have hlocks := B0.notSynchronized
  subst hsz
  have hD := hD0.self (sz := s.heap.size)
  generalize hAe : va_A ((a0, .inr (9, [g5, g6, g7, .ref a2, g8, g9, g10, g11, g12, g13, g14, g15, g16, g17, g18, g19, g20, g21, g22, g23, g24, g25, g26, g27, g28, g29, g30, g31, g32, g33])) :: bX11 a2 uq kq q_q []) s.heap.size = A at hD ⊢
  have hA : ∀ q : Nat, s.heap.size ≤ q → A q := fun q h => by rw [← hAe]; exact Or.inr h
  have hS : va_S A s.heap s.heap [] := va_S.rf
  have hP : va_P (dC, dI) vwCl ((a0, .inr (9, [g5, g6, g7, .ref a2, g8, g9, g10, g11, g12, g13, g14, g15, g16, g17, g18, g19, g20, g21, g22, g23, g24, g25, g26, g27, g28, g29, g30, g31, g32, g33])) :: bX11 a2 uq kq q_q []) s.heap := hP
  have hl := lv_entry ([.ref a0, .int k1]) (n := 2) (Nat.le_of_ble_eq_true rfl)
  rw [lg_entry_eq]
  generalize (lg_sl ([.ref a0, .int k1]) ++ List.replicate (2 - (lg_sl ([.ref a0, .int k1])).length) Slot.unset).toArray = ls at hl ⊢
  have hl : lv_has ls 2 [(0, .ref a0), (1, .int k1)] := hl
  refine W_q (fun QQ hQQ => ?_)
  rw [f_X12_isAsker] at h
  refine lv_aload_n hx hb dX12_isAsker_0 rfl (lv_at hl 0 rfl) ?_
  refine va_get (D := (dC, dI)) (ci := 9) (v := .ref a2) (C := RX12) (T := TX12) (N := 30) hx hb hts ifX12_isAsker_X12 hown hK hP 0 rfl rfl 3 (by decide) (hts (.fieldLink RX12 299 "HookPierModel" "pier" "LHookPierModel$Pier;") (List.mem_of_getElem? (i := 1) rfl)) (fun _ h9 => h9) rfl dX12_isAsker_1 ?_
  refine lv_ifnull hx hb dX12_isAsker_4 ?_
  refine lv_iload_n hx hb dX12_isAsker_7 rfl (lv_at hl 1 rfl) ?_
  refine lv_if_lt (tgt := 26) hx hb dX12_isAsker_8 (by decide) (fun c8 => ?_) (fun c8 => ?_)
  · have h := (if_pos c8).symm.trans h
    refine lv_iconst (v := 0) hx hb dX12_isAsker_26 (by decide) ?_
    obtain rfl := h
    have hP9 := hP.sub (ws' := ((a0, .inr (9, [g5, g6, g7, .ref a2, g8, g9, g10, g11, g12, g13, g14, g15, g16, g17, g18, g19, g20, g21, g22, g23, g24, g25, g26, g27, g28, g29, g30, g31, g32, g33])) :: bX11 a2 uq kq q_q [])) [0, 1, 2, 3, 4, 5, 6, 7, 8, 9, 10, 11, 12, 13, 14, 15] rfl
    have hD9 := hD.sub (ws' := ((a0, .inr (9, [g5, g6, g7, .ref a2, g8, g9, g10, g11, g12, g13, g14, g15, g16, g17, g18, g19, g20, g21, g22, g23, g24, g25, g26, g27, g28, g29, g30, g31, g32, g33])) :: bX11 a2 uq kq q_q [])) [0, 1, 2, 3, 4, 5, 6, 7, 8, 9, 10, 11, 12, 13, 14, 15] (by decide) rfl
    have hK9 := hK.sub (tys' := []) [] rfl
    rw [hQQ]
    exact W.zret (v := (0 : Int32)) hx hb hr rfl (fun t ht hW => ⟨⟨(0 : Int32), (), rfl, ⟨rfl, (by decide)⟩, by rw [ht]; exact hP9, va_K.moved hW.alike hK9, hD9⟩, hS.F ht⟩) hS.2.2 dX12_isAsker_27
  · have h := (if_neg c8).symm.trans h
    refine lv_iload_n hx hb dX12_isAsker_11 rfl (lv_at hl 1 rfl) ?_
    refine lv_aload_n hx hb dX12_isAsker_12 rfl (lv_at hl 0 rfl) ?_
    refine va_get (D := (dC, dI)) (ci := 9) (v := .ref a2) (C := RX12) (T := TX12) (N := 30) hx hb hts ifX12_isAsker_X12 hown hK hP 0 rfl rfl 3 (by decide) (hts (.fieldLink RX12 299 "HookPierModel" "pier" "LHookPierModel$Pier;") (List.mem_of_getElem? (i := 1) rfl)) (fun _ h9 => h9) rfl dX12_isAsker_13 ?_
    refine va_getN (D := (dC, dI)) (ci := 8) (v := .int q_q.2.2.2.2.2.1) (C := RX11) (T := TX11) (N := 24) hx hb hts ifX12_isAsker_X11 hown hK hP 1 rfl rfl 5 (by decide) (va_Nw.use rfl (hN.1 (.fieldLinkNest RX12 224 "HookPierModel$Pier" "askers" "I" "HookPierModel") (List.mem_of_getElem? (i := 27) rfl))) (fun _ h9 => h9) rfl dX12_isAsker_16 ?_
    refine lv_icmp_ge (tgt := 26) hx hb dX12_isAsker_19 (by decide) (fun c19 => ?_) (fun c19 => ?_)
    · have h := (if_pos c19).symm.trans h
      refine lv_iconst (v := 0) hx hb dX12_isAsker_26 (by decide) ?_
      obtain rfl := h
      have hP9 := hP.sub (ws' := ((a0, .inr (9, [g5, g6, g7, .ref a2, g8, g9, g10, g11, g12, g13, g14, g15, g16, g17, g18, g19, g20, g21, g22, g23, g24, g25, g26, g27, g28, g29, g30, g31, g32, g33])) :: bX11 a2 uq kq q_q [])) [0, 1, 2, 3, 4, 5, 6, 7, 8, 9, 10, 11, 12, 13, 14, 15] rfl
      have hD9 := hD.sub (ws' := ((a0, .inr (9, [g5, g6, g7, .ref a2, g8, g9, g10, g11, g12, g13, g14, g15, g16, g17, g18, g19, g20, g21, g22, g23, g24, g25, g26, g27, g28, g29, g30, g31, g32, g33])) :: bX11 a2 uq kq q_q [])) [0, 1, 2, 3, 4, 5, 6, 7, 8, 9, 10, 11, 12, 13, 14, 15] (by decide) rfl
      have hK9 := hK.sub (tys' := []) [] rfl
      rw [hQQ]
      exact W.zret (v := (0 : Int32)) hx hb hr rfl (fun t ht hW => ⟨⟨(0 : Int32), (), rfl, ⟨rfl, (by decide)⟩, by rw [ht]; exact hP9, va_K.moved hW.alike hK9, hD9⟩, hS.F ht⟩) hS.2.2 dX12_isAsker_27
    · have h := (if_neg c19).symm.trans h
      refine lv_iconst (v := 1) hx hb dX12_isAsker_22 (by decide) ?_
      refine lv_goto (tgt := 27) hx hb dX12_isAsker_23 (by decide) ?_
      obtain rfl := h
      have hP9 := hP.sub (ws' := ((a0, .inr (9, [g5, g6, g7, .ref a2, g8, g9, g10, g11, g12, g13, g14, g15, g16, g17, g18, g19, g20, g21, g22, g23, g24, g25, g26, g27, g28, g29, g30, g31, g32, g33])) :: bX11 a2 uq kq q_q [])) [0, 1, 2, 3, 4, 5, 6, 7, 8, 9, 10, 11, 12, 13, 14, 15] rfl
      have hD9 := hD.sub (ws' := ((a0, .inr (9, [g5, g6, g7, .ref a2, g8, g9, g10, g11, g12, g13, g14, g15, g16, g17, g18, g19, g20, g21, g22, g23, g24, g25, g26, g27, g28, g29, g30, g31, g32, g33])) :: bX11 a2 uq kq q_q [])) [0, 1, 2, 3, 4, 5, 6, 7, 8, 9, 10, 11, 12, 13, 14, 15] (by decide) rfl
      have hK9 := hK.sub (tys' := []) [] rfl
      rw [hQQ]
      exact W.zret (v := (1 : Int32)) hx hb hr rfl (fun t ht hW => ⟨⟨(1 : Int32), (), rfl, ⟨rfl, (by decide)⟩, by rw [ht]; exact hP9, va_K.moved hW.alike hK9, hD9⟩, hS.F ht⟩) hS.2.2 dX12_isAsker_27
theorem dX12_refusesQuestion_0 : decode cX12_refusesQuestion 0 = .ok (.iload_n 1, 1) := by decide +kernel
theorem dX12_refusesQuestion_1 : decode cX12_refusesQuestion 1 = .ok (.ifCond .eq 38, 3) := by decide +kernel
theorem dX12_refusesQuestion_10 : decode cX12_refusesQuestion 10 = .ok (.getfield 143, 3) := by decide +kernel
theorem dX12_refusesQuestion_13 : decode cX12_refusesQuestion 13 = .ok (.iconst 1, 1) := by decide +kernel
theorem dX12_refusesQuestion_14 : decode cX12_refusesQuestion 14 = .ok (.isub, 1) := by decide +kernel
theorem dX12_refusesQuestion_15 : decode cX12_refusesQuestion 15 = .ok (.invokestatic 115, 3) := by decide +kernel
theorem dX12_refusesQuestion_18 : decode cX12_refusesQuestion 18 = .ok (.ifCond .eq 21, 3) := by decide +kernel
theorem dX12_refusesQuestion_21 : decode cX12_refusesQuestion 21 = .ok (.iload 4, 2) := by decide +kernel
theorem dX12_refusesQuestion_23 : decode cX12_refusesQuestion 23 = .ok (.iconst 0, 1) := by decide +kernel
theorem dX12_refusesQuestion_24 : decode cX12_refusesQuestion 24 = .ok (.aload_n 0, 1) := by decide +kernel
theorem dX12_refusesQuestion_25 : decode cX12_refusesQuestion 25 = .ok (.getfield 299, 3) := by decide +kernel
theorem dX12_refusesQuestion_28 : decode cX12_refusesQuestion 28 = .ok (.getfield 175, 3) := by decide +kernel
theorem dX12_refusesQuestion_31 : decode cX12_refusesQuestion 31 = .ok (.iconst 1, 1) := by decide +kernel
theorem dX12_refusesQuestion_32 : decode cX12_refusesQuestion 32 = .ok (.isub, 1) := by decide +kernel
theorem dX12_refusesQuestion_33 : decode cX12_refusesQuestion 33 = .ok (.invokestatic 115, 3) := by decide +kernel
theorem dX12_refusesQuestion_36 : decode cX12_refusesQuestion 36 = .ok (.ifCond .ne 5, 3) := by decide +kernel
theorem dX12_refusesQuestion_39 : decode cX12_refusesQuestion 39 = .ok (.iconst 1, 1) := by decide +kernel
theorem dX12_refusesQuestion_4 : decode cX12_refusesQuestion 4 = .ok (.iload_n 2, 1) := by decide +kernel
theorem dX12_refusesQuestion_40 : decode cX12_refusesQuestion 40 = .ok (.ireturn, 1) := by decide +kernel
theorem dX12_refusesQuestion_41 : decode cX12_refusesQuestion 41 = .ok (.iload_n 3, 1) := by decide +kernel
theorem dX12_refusesQuestion_42 : decode cX12_refusesQuestion 42 = .ok (.iconst 1, 1) := by decide +kernel
theorem dX12_refusesQuestion_43 : decode cX12_refusesQuestion 43 = .ok (.aload_n 0, 1) := by decide +kernel
theorem dX12_refusesQuestion_44 : decode cX12_refusesQuestion 44 = .ok (.getfield 299, 3) := by decide +kernel
theorem dX12_refusesQuestion_47 : decode cX12_refusesQuestion 47 = .ok (.getfield 207, 3) := by decide +kernel
theorem dX12_refusesQuestion_5 : decode cX12_refusesQuestion 5 = .ok (.iconst 0, 1) := by decide +kernel
theorem dX12_refusesQuestion_50 : decode cX12_refusesQuestion 50 = .ok (.invokestatic 115, 3) := by decide +kernel
theorem dX12_refusesQuestion_53 : decode cX12_refusesQuestion 53 = .ok (.ifCond .eq 7, 3) := by decide +kernel
theorem dX12_refusesQuestion_56 : decode cX12_refusesQuestion 56 = .ok (.iconst 0, 1) := by decide +kernel
theorem dX12_refusesQuestion_57 : decode cX12_refusesQuestion 57 = .ok (.goto 4, 3) := by decide +kernel
theorem dX12_refusesQuestion_6 : decode cX12_refusesQuestion 6 = .ok (.aload_n 0, 1) := by decide +kernel
theorem dX12_refusesQuestion_60 : decode cX12_refusesQuestion 60 = .ok (.iconst 2, 1) := by decide +kernel
theorem dX12_refusesQuestion_61 : decode cX12_refusesQuestion 61 = .ok (.ireturn, 1) := by decide +kernel
theorem dX12_refusesQuestion_7 : decode cX12_refusesQuestion 7 = .ok (.getfield 299, 3) := by decide +kernel
def vfX12_refusesQuestion : List Cond := .code yX12_refusesQuestion cX12_refusesQuestion 5 (some .int) :: ([.fieldLink RX12 299 "HookPierModel" "pier" "LHookPierModel$Pier;", .methodLink RX12 115 yX12_in, .static yX12_in, .initialized RX12, .code yX12_in cX12_in 3 (some .boolean)] ++ wsX120 ++ wsX110)
theorem ifX12_refusesQuestion_X12 : ∀ w ∈ wsX120, w ∈ vfX12_refusesQuestion := fun _ h => List.mem_cons_of_mem _ (List.mem_append_left _ (List.mem_append_right _ h))
theorem ifX12_refusesQuestion_X11 : ∀ w ∈ wsX110, w ∈ vfX12_refusesQuestion := fun _ h => List.mem_cons_of_mem _ (List.mem_append_right _ h)
set_option maxRecDepth 20000 in
theorem gfX12_refusesQuestion_0 : GoodIn vfX12_refusesQuestion (va_wsS RX12 115 yX12_in vfX12_in) := goodIn_app (goodIn_r [.methodLink RX12 115 yX12_in, .static yX12_in, .initialized RX12] [2, 3, 4] (by decide +kernel) (by decide +kernel)) (goodIn_r (.code yX12_in cX12_in 3 (some .boolean) :: []) [5] (by decide +kernel) (by decide +kernel) : GoodIn vfX12_refusesQuestion (.code yX12_in cX12_in 3 (some .boolean) :: []))
set_option maxHeartbeats 2000000 in
set_option maxRecDepth 100000 in
theorem kfX12_refusesQuestion (l : Launch) (dC : Nat → ClassId) (dI : Nat → Nat → Nat) (a0 : Nat) (k1 : Int32) (k2 : Int32) (k3 : Int32) (k4 : Int32) (a5 : Nat) (uq : Nat → Nat) (kq : Nat → ClassId) (g8 : Value) (g9 : Value) (g10 : Value) (g11 : Value) (g12 : Value) (g13 : Value) (g14 : Value) (g15 : Value) (g16 : Value) (g17 : Value) (g18 : Value) (g19 : Value) (g20 : Value) (g21 : Value) (g22 : Value) (g23 : Value) (g24 : Value) (g25 : Value) (g26 : Value) (g27 : Value) (g28 : Value) (g29 : Value) (g30 : Value) (g31 : Value) (g32 : Value) (g33 : Value) (g34 : Value) (g35 : Value) (g36 : Value) (q_q : TX11_q) (sz : Nat) (out : Int32) (h : f_X12_refusesQuestion k1 k2 k3 k4 q_q = out) : Met l yX12_refusesQuestion vfX12_refusesQuestion ({ frames := 1, cells := 0, slots := 0, locals := 22 }) (PC (dC, dI) [.ref a0, .int k1, .int k2, .int k3, .int k4] sz ((a0, .inr (9, [g8, g9, g10, .ref a5, g11, g12, g13, g14, g15, g16, g17, g18, g19, g20, g21, g22, g23, g24, g25, g26, g27, g28, g29, g30, g31, g32, g33, g34, g35, g36])) :: bX11 a5 uq kq q_q []) (tX11 kq ([]))) (va_Qi (S := Unit) (fun (r : Int32) _ => r = out) (fun _ t => BC (dC, dI) (va_A ((a0, .inr (9, [g8, g9, g10, .ref a5, g11, g12, g13, g14, g15, g16, g17, g18, g19, g20, g21, g22, g23, g24, g25, g26, g27, g28, g29, g30, g31, g32, g33, g34, g35, g36])) :: bX11 a5 uq kq q_q []) sz) ((a0, .inr (9, [g8, g9, g10, .ref a5, g11, g12, g13, g14, g15, g16, g17, g18, g19, g20, g21, g22, g23, g24, g25, g26, g27, g28, g29, g30, g31, g32, g33, g34, g35, g36])) :: bX11 a5 uq kq q_q []) [] t) (va_A ((a0, .inr (9, [g8, g9, g10, .ref a5, g11, g12, g13, g14, g15, g16, g17, g18, g19, g20, g21, g22, g23, g24, g25, g26, g27, g28, g29, g30, g31, g32, g33, g34, g35, g36])) :: bX11 a5 uq kq q_q []) sz)) 0 0 (va_A ((a0, .inr (9, [g8, g9, g10, .ref a5, g11, g12, g13, g14, g15, g16, g17, g18, g19, g20, g21, g22, g23, g24, g25, g26, g27, g28, g29, g30, g31, g32, g33, g34, g35, g36])) :: bX11 a5 uq kq q_q []) sz) := by
  refine Met.ofW (cc := cX12_refusesQuestion) (maxL := 5) (ret := (some .int)) (by decide) rfl ?_
  intro p e s m args below meth c s₁ B0 hml hv
  obtain ⟨rfl, hsz, hP, hK, hD0, hN⟩ := hv
  have hx := B0.exec
  have hb := B0.bytes
  have hr := B0.returns
  have hts := atoms_spec (ws := vfX12_refusesQuestion) B0.pre
  have hown : s.vm.findClass RX12 = some m.cls := findClass_of_methodNamed B0.named
  have hlocks := B0.notSynchronized
  subst hsz
  have hD := hD0.self (sz := s.heap.size)
  generalize hAe : va_A ((a0, .inr (9, [g8, g9, g10, .ref a5, g11, g12, g13, g14, g15, g16, g17, g18, g19, g20, g21, g22, g23, g24, g25, g26, g27, g28, g29, g30, g31, g32, g33, g34, g35, g36])) :: bX11 a5 uq kq q_q []) s.heap.size = A at hD ⊢
  have hA : ∀ q : Nat, s.heap.size ≤ q → A q := fun q h => by rw [← hAe]; exact Or.inr h
  have hS : va_S A s.heap s.heap [] := va_S.rf
  have hP : va_P (dC, dI) vwCl ((a0, .inr (9, [g8, g9, g10, .ref a5, g11, g12, g13, g14, g15, g16, g17, g18, g19, g20, g21, g22, g23, g24, g25, g26, g27, g28, g29, g30, g31, g32, g33, g34, g35, g36])) :: bX11 a5 uq kq q_q []) s.heap := hP
  have hl := lv_entry ([.ref a0, .int k1, .int k2, .int k3, .int k4]) (n := 5) (Nat.le_of_ble_eq_true rfl)
  rw [lg_entry_eq]
  generalize (lg_sl ([.ref a0, .int k1, .int k2, .int k3, .int k4]) ++ List.replicate (5 - (lg_sl ([.ref a0, .int k1, .int k2, .int k3, .int k4])).length) Slot.unset).toArray = ls at hl ⊢
  have hl : lv_has ls 5 [(0, .ref a0), (1, .int k1), (2, .int k2), (3, .int k3), (4, .int k4)] := hl
  refine W_q (fun QQ hQQ => ?_)
  rw [f_X12_refusesQuestion] at h
  refine lv_iload_n hx hb dX12_refusesQuestion_0 rfl (lv_at hl 1 rfl) ?_
  refine lv_if_eq (tgt := 39) hx hb dX12_refusesQuestion_1 (by decide) (fun c1 => ?_) (fun c1 => ?_)
  · have h := (if_pos c1).symm.trans h
    refine lv_iconst (v := 1) hx hb dX12_refusesQuestion_39 (by decide) ?_
    obtain rfl := h
    have hP9 := hP.sub (ws' := ((a0, .inr (9, [g8, g9, g10, .ref a5, g11, g12, g13, g14, g15, g16, g17, g18, g19, g20, g21, g22, g23, g24, g25, g26, g27, g28, g29, g30, g31, g32, g33, g34, g35, g36])) :: bX11 a5 uq kq q_q [])) [0, 1, 2, 3, 4, 5, 6, 7, 8, 9, 10, 11, 12, 13, 14, 15] rfl
    have hD9 := hD.sub (ws' := ((a0, .inr (9, [g8, g9, g10, .ref a5, g11, g12, g13, g14, g15, g16, g17, g18, g19, g20, g21, g22, g23, g24, g25, g26, g27, g28, g29, g30, g31, g32, g33, g34, g35, g36])) :: bX11 a5 uq kq q_q [])) [0, 1, 2, 3, 4, 5, 6, 7, 8, 9, 10, 11, 12, 13, 14, 15] (by decide) rfl
    have hK9 := hK.sub (tys' := []) [] rfl
    rw [hQQ]
    exact W.iret (v := (1 : Int32)) hx hb hr (fun t ht hW => ⟨⟨(1 : Int32), (), rfl, rfl, by rw [ht]; exact hP9, va_K.moved hW.alike hK9, hD9⟩, hS.F ht⟩) hS.2.2 dX12_refusesQuestion_40
  · have h := (if_neg c1).symm.trans h
    refine lv_iload_n hx hb dX12_refusesQuestion_4 rfl (lv_at hl 2 rfl) ?_
    refine lv_iconst (v := 0) hx hb dX12_refusesQuestion_5 (by decide) ?_
    refine lv_aload_n hx hb dX12_refusesQuestion_6 rfl (lv_at hl 0 rfl) ?_
    refine va_get (D := (dC, dI)) (ci := 9) (v := .ref a5) (C := RX12) (T := TX12) (N := 30) hx hb hts ifX12_refusesQuestion_X12 hown hK hP 0 rfl rfl 3 (by decide) (hts (.fieldLink RX12 299 "HookPierModel" "pier" "LHookPierModel$Pier;") (List.mem_of_getElem? (i := 1) rfl)) (fun _ h9 => h9) rfl dX12_refusesQuestion_7 ?_
    refine va_getN (D := (dC, dI)) (ci := 8) (v := .int q_q.1) (C := RX11) (T := TX11) (N := 24) hx hb hts ifX12_refusesQuestion_X11 hown hK hP 1 rfl rfl 0 (by decide) (va_Nw.use rfl (hN.1 (.fieldLinkNest RX12 143 "HookPierModel$Pier" "spots" "I" "HookPierModel") (List.mem_of_getElem? (i := 22) rfl))) (fun _ h9 => h9) rfl dX12_refusesQuestion_10 ?_
    refine lv_iconst (v := 1) hx hb dX12_refusesQuestion_13 (by decide) ?_
    refine lv_isub hx hb dX12_refusesQuestion_14 ?_
    obtain ⟨o15, eo15⟩ : ∃ o, o = f_X12_in k2 (0 : Int32) (q_q.1 - (1 : Int32)) := ⟨_, rfl⟩
    have h := nm_of h o15 eo15
    refine cl_i (wc := []) (wr := ((a0, .inr (9, [g8, g9, g10, .ref a5, g11, g12, g13, g14, g15, g16, g17, g18, g19, g20, g21, g22, g23, g24, g25, g26, g27, g28, g29, g30, g31, g32, g33, g34, g35, g36])) :: bX11 a5 uq kq q_q [])) (va_runS (As := [.int k2, .int 0, .int (q_q.1 - (1 : Int32))]) (rest := []) ⟨hx, hb, hml, hown, hts⟩ (kfX12_in l dC dI k2 (0 : Int32) (q_q.1 - (1 : Int32)) s.heap.size o15 eo15.symm) (va_cwS 3 hts gfX12_refusesQuestion_0 rfl rfl rfl (by decide +kernel) ⟨(Nat.le_of_ble_eq_true rfl), (Nat.le_of_ble_eq_true rfl)⟩) (PS (hP.sub (ws' := []) [] rfl) (hK.sub (tys' := ([])) [] rfl) (hD.sub (ws' := []) [] (by decide) rfl) hN) rfl rfl hl.1 rfl (lv_room (Nat.le_of_ble_eq_true rfl)) dX12_refusesQuestion_15 ⟨(Nat.le_of_ble_eq_true rfl), (Nat.le_of_ble_eq_true rfl)⟩) hP hD hK hS hA [] [0, 1, 2, 3, 4, 5, 6, 7, 8, 9, 10, 11, 12, 13, 14, 15] rfl rfl (by decide) (by decide) (fun r15 _ H locs hw hP hD _ hS => ?_)
    obtain ⟨hw, br15⟩ := hw
    obtain rfl := hw.symm
    have hP : va_P (dC, dI) vwCl ((a0, .inr (9, [g8, g9, g10, .ref a5, g11, g12, g13, g14, g15, g16, g17, g18, g19, g20, g21, g22, g23, g24, g25, g26, g27, g28, g29, g30, g31, g32, g33, g34, g35, g36])) :: bX11 a5 uq kq q_q []) H := hP
    have hD : va_D A ((a0, .inr (9, [g8, g9, g10, .ref a5, g11, g12, g13, g14, g15, g16, g17, g18, g19, g20, g21, g22, g23, g24, g25, g26, g27, g28, g29, g30, g31, g32, g33, g34, g35, g36])) :: bX11 a5 uq kq q_q []) := hD
    refine lv_if_eq (tgt := 39) hx hb dX12_refusesQuestion_18 (by decide) (fun c18 => ?_) (fun c18 => ?_)
    · have h := (if_pos c18).symm.trans h
      refine lv_iconst (v := 1) hx hb dX12_refusesQuestion_39 (by decide) ?_
      obtain rfl := h
      have hP9 := hP.sub (ws' := ((a0, .inr (9, [g8, g9, g10, .ref a5, g11, g12, g13, g14, g15, g16, g17, g18, g19, g20, g21, g22, g23, g24, g25, g26, g27, g28, g29, g30, g31, g32, g33, g34, g35, g36])) :: bX11 a5 uq kq q_q [])) [0, 1, 2, 3, 4, 5, 6, 7, 8, 9, 10, 11, 12, 13, 14, 15] rfl
      have hD9 := hD.sub (ws' := ((a0, .inr (9, [g8, g9, g10, .ref a5, g11, g12, g13, g14, g15, g16, g17, g18, g19, g20, g21, g22, g23, g24, g25, g26, g27, g28, g29, g30, g31, g32, g33, g34, g35, g36])) :: bX11 a5 uq kq q_q [])) [0, 1, 2, 3, 4, 5, 6, 7, 8, 9, 10, 11, 12, 13, 14, 15] (by decide) rfl
      have hK9 := hK.sub (tys' := []) [] rfl
      rw [hQQ]
      exact W.iret (v := (1 : Int32)) hx hb hr (fun t ht hW => ⟨⟨(1 : Int32), (), rfl, rfl, by rw [ht]; exact hP9, va_K.moved hW.alike hK9, hD9⟩, hS.F ht⟩) hS.2.2 dX12_refusesQuestion_40
    · have h := (if_neg c18).symm.trans h
      refine lv_iload hx hb dX12_refusesQuestion_21 (lv_at hl 4 rfl) ?_
      refine lv_iconst (v := 0) hx hb dX12_refusesQuestion_23 (by decide) ?_
      refine lv_aload_n hx hb dX12_refusesQuestion_24 rfl (lv_at hl 0 rfl) ?_
      refine va_get (D := (dC, dI)) (ci := 9) (v := .ref a5) (C := RX12) (T := TX12) (N := 30) hx hb hts ifX12_refusesQuestion_X12 hown hK hP 0 rfl rfl 3 (by decide) (hts (.fieldLink RX12 299 "HookPierModel" "pier" "LHookPierModel$Pier;") (List.mem_of_getElem? (i := 1) rfl)) (fun _ h9 => h9) rfl dX12_refusesQuestion_25 ?_
      refine va_getN (D := (dC, dI)) (ci := 8) (v := .int q_q.2.2.2.2.1) (C := RX11) (T := TX11) (N := 24) hx hb hts ifX12_refusesQuestion_X11 hown hK hP 1 rfl rfl 4 (by decide) (va_Nw.use rfl (hN.1 (.fieldLinkNest RX12 175 "HookPierModel$Pier" "baits" "I" "HookPierModel") (List.mem_of_getElem? (i := 26) rfl))) (fun _ h9 => h9) rfl dX12_refusesQuestion_28 ?_
      refine lv_iconst (v := 1) hx hb dX12_refusesQuestion_31 (by decide) ?_
      refine lv_isub hx hb dX12_refusesQuestion_32 ?_
      obtain ⟨o33, eo33⟩ : ∃ o, o = f_X12_in k4 (0 : Int32) (q_q.2.2.2.2.1 - (1 : Int32)) := ⟨_, rfl⟩
      have h := nm_of h o33 eo33
      refine cl_i (wc := []) (wr := ((a0, .inr (9, [g8, g9, g10, .ref a5, g11, g12, g13, g14, g15, g16, g17, g18, g19, g20, g21, g22, g23, g24, g25, g26, g27, g28, g29, g30, g31, g32, g33, g34, g35, g36])) :: bX11 a5 uq kq q_q [])) (va_runS (As := [.int k4, .int 0, .int (q_q.2.2.2.2.1 - (1 : Int32))]) (rest := []) ⟨hx, hb, hml, hown, hts⟩ (kfX12_in l dC dI k4 (0 : Int32) (q_q.2.2.2.2.1 - (1 : Int32)) H.size o33 eo33.symm) (va_cwS 3 hts gfX12_refusesQuestion_0 rfl rfl rfl (by decide +kernel) ⟨(Nat.le_of_ble_eq_true rfl), (Nat.le_of_ble_eq_true rfl)⟩) (PS (hP.sub (ws' := []) [] rfl) (hK.sub (tys' := ([])) [] rfl) (hD.sub (ws' := []) [] (by decide) rfl) hN) rfl rfl hl.1 rfl (lv_room (Nat.le_of_ble_eq_true rfl)) dX12_refusesQuestion_33 ⟨(Nat.le_of_ble_eq_true rfl), (Nat.le_of_ble_eq_true rfl)⟩) hP hD hK hS hA [] [0, 1, 2, 3, 4, 5, 6, 7, 8, 9, 10, 11, 12, 13, 14, 15] rfl rfl (by decide) (by decide) (fun r33 _ H locs hw hP hD _ hS => ?_)
      obtain ⟨hw, br33⟩ := hw
      obtain rfl := hw.symm
      have hP : va_P (dC, dI) vwCl ((a0, .inr (9, [g8, g9, g10, .ref a5, g11, g12, g13, g14, g15, g16, g17, g18, g19, g20, g21, g22, g23, g24, g25, g26, g27, g28, g29, g30, g31, g32, g33, g34, g35, g36])) :: bX11 a5 uq kq q_q []) H := hP
      have hD : va_D A ((a0, .inr (9, [g8, g9, g10, .ref a5, g11, g12, g13, g14, g15, g16, g17, g18, g19, g20, g21, g22, g23, g24, g25, g26, g27, g28, g29, g30, g31, g32, g33, g34, g35, g36])) :: bX11 a5 uq kq q_q []) := hD
      refine lv_if_ne (tgt := 41) hx hb dX12_refusesQuestion_36 (by decide) (fun c36 => ?_) (fun c36 => ?_)
      · have h := (if_neg c36).symm.trans h
        refine lv_iload_n hx hb dX12_refusesQuestion_41 rfl (lv_at hl 3 rfl) ?_
        refine lv_iconst (v := 1) hx hb dX12_refusesQuestion_42 (by decide) ?_
        refine lv_aload_n hx hb dX12_refusesQuestion_43 rfl (lv_at hl 0 rfl) ?_
        refine va_get (D := (dC, dI)) (ci := 9) (v := .ref a5) (C := RX12) (T := TX12) (N := 30) hx hb hts ifX12_refusesQuestion_X12 hown hK hP 0 rfl rfl 3 (by decide) (hts (.fieldLink RX12 299 "HookPierModel" "pier" "LHookPierModel$Pier;") (List.mem_of_getElem? (i := 1) rfl)) (fun _ h9 => h9) rfl dX12_refusesQuestion_44 ?_
        refine va_getN (D := (dC, dI)) (ci := 8) (v := .int q_q.2.1) (C := RX11) (T := TX11) (N := 24) hx hb hts ifX12_refusesQuestion_X11 hown hK hP 1 rfl rfl 1 (by decide) (va_Nw.use rfl (hN.1 (.fieldLinkNest RX12 207 "HookPierModel$Pier" "deep" "I" "HookPierModel") (List.mem_of_getElem? (i := 23) rfl))) (fun _ h9 => h9) rfl dX12_refusesQuestion_47 ?_
        obtain ⟨o50, eo50⟩ : ∃ o, o = f_X12_in k3 (1 : Int32) q_q.2.1 := ⟨_, rfl⟩
        have h := nm_of h o50 eo50
        refine cl_i (wc := []) (wr := ((a0, .inr (9, [g8, g9, g10, .ref a5, g11, g12, g13, g14, g15, g16, g17, g18, g19, g20, g21, g22, g23, g24, g25, g26, g27, g28, g29, g30, g31, g32, g33, g34, g35, g36])) :: bX11 a5 uq kq q_q [])) (va_runS (As := [.int k3, .int 1, .int q_q.2.1]) (rest := []) ⟨hx, hb, hml, hown, hts⟩ (kfX12_in l dC dI k3 (1 : Int32) q_q.2.1 H.size o50 eo50.symm) (va_cwS 3 hts gfX12_refusesQuestion_0 rfl rfl rfl (by decide +kernel) ⟨(Nat.le_of_ble_eq_true rfl), (Nat.le_of_ble_eq_true rfl)⟩) (PS (hP.sub (ws' := []) [] rfl) (hK.sub (tys' := ([])) [] rfl) (hD.sub (ws' := []) [] (by decide) rfl) hN) rfl rfl hl.1 rfl (lv_room (Nat.le_of_ble_eq_true rfl)) dX12_refusesQuestion_50 ⟨(Nat.le_of_ble_eq_true rfl), (Nat.le_of_ble_eq_true rfl)⟩) hP hD hK hS hA [] [0, 1, 2, 3, 4, 5, 6, 7, 8, 9, 10, 11, 12, 13, 14, 15] rfl rfl (by decide) (by decide) (fun r50 _ H locs hw hP hD _ hS => ?_)
        obtain ⟨hw, br50⟩ := hw
        obtain rfl := hw.symm
        have hP : va_P (dC, dI) vwCl ((a0, .inr (9, [g8, g9, g10, .ref a5, g11, g12, g13, g14, g15, g16, g17, g18, g19, g20, g21, g22, g23, g24, g25, g26, g27, g28, g29, g30, g31, g32, g33, g34, g35, g36])) :: bX11 a5 uq kq q_q []) H := hP
        have hD : va_D A ((a0, .inr (9, [g8, g9, g10, .ref a5, g11, g12, g13, g14, g15, g16, g17, g18, g19, g20, g21, g22, g23, g24, g25, g26, g27, g28, g29, g30, g31, g32, g33, g34, g35, g36])) :: bX11 a5 uq kq q_q []) := hD
        refine lv_if_eq (tgt := 60) hx hb dX12_refusesQuestion_53 (by decide) (fun c53 => ?_) (fun c53 => ?_)
        · have h := (if_pos c53).symm.trans h
          refine lv_iconst (v := 2) hx hb dX12_refusesQuestion_60 (by decide) ?_
          obtain rfl := h
          have hP9 := hP.sub (ws' := ((a0, .inr (9, [g8, g9, g10, .ref a5, g11, g12, g13, g14, g15, g16, g17, g18, g19, g20, g21, g22, g23, g24, g25, g26, g27, g28, g29, g30, g31, g32, g33, g34, g35, g36])) :: bX11 a5 uq kq q_q [])) [0, 1, 2, 3, 4, 5, 6, 7, 8, 9, 10, 11, 12, 13, 14, 15] rfl
          have hD9 := hD.sub (ws' := ((a0, .inr (9, [g8, g9, g10, .ref a5, g11, g12, g13, g14, g15, g16, g17, g18, g19, g20, g21, g22, g23, g24, g25, g26, g27, g28, g29, g30, g31, g32, g33, g34, g35, g36])) :: bX11 a5 uq kq q_q [])) [0, 1, 2, 3, 4, 5, 6, 7, 8, 9, 10, 11, 12, 13, 14, 15] (by decide) rfl
          have hK9 := hK.sub (tys' := []) [] rfl
          rw [hQQ]
          exact W.iret (v := (2 : Int32)) hx hb hr (fun t ht hW => ⟨⟨(2 : Int32), (), rfl, rfl, by rw [ht]; exact hP9, va_K.moved hW.alike hK9, hD9⟩, hS.F ht⟩) hS.2.2 dX12_refusesQuestion_61
        · have h := (if_neg c53).symm.trans h
          refine lv_iconst (v := 0) hx hb dX12_refusesQuestion_56 (by decide) ?_
          refine lv_goto (tgt := 61) hx hb dX12_refusesQuestion_57 (by decide) ?_
          obtain rfl := h
          have hP9 := hP.sub (ws' := ((a0, .inr (9, [g8, g9, g10, .ref a5, g11, g12, g13, g14, g15, g16, g17, g18, g19, g20, g21, g22, g23, g24, g25, g26, g27, g28, g29, g30, g31, g32, g33, g34, g35, g36])) :: bX11 a5 uq kq q_q [])) [0, 1, 2, 3, 4, 5, 6, 7, 8, 9, 10, 11, 12, 13, 14, 15] rfl
          have hD9 := hD.sub (ws' := ((a0, .inr (9, [g8, g9, g10, .ref a5, g11, g12, g13, g14, g15, g16, g17, g18, g19, g20, g21, g22, g23, g24, g25, g26, g27, g28, g29, g30, g31, g32, g33, g34, g35, g36])) :: bX11 a5 uq kq q_q [])) [0, 1, 2, 3, 4, 5, 6, 7, 8, 9, 10, 11, 12, 13, 14, 15] (by decide) rfl
          have hK9 := hK.sub (tys' := []) [] rfl
          rw [hQQ]
          exact W.iret (v := (0 : Int32)) hx hb hr (fun t ht hW => ⟨⟨(0 : Int32), (), rfl, rfl, by rw [ht]; exact hP9, va_K.moved hW.alike hK9, hD9⟩, hS.F ht⟩) hS.2.2 dX12_refusesQuestion_61
      · have h := (if_pos c36).symm.trans h
        refine lv_iconst (v := 1) hx hb dX12_refusesQuestion_39 (by decide) ?_
        obtain rfl := h
        have hP9 := hP.sub (ws' := ((a0, .inr (9, [g8, g9, g10, .ref a5, g11, g12, g13, g14, g15, g16, g17, g18, g19, g20, g21, g22, g23, g24, g25, g26, g27, g28, g29, g30, g31, g32, g33, g34, g35, g36])) :: bX11 a5 uq kq q_q [])) [0, 1, 2, 3, 4, 5, 6, 7, 8, 9, 10, 11, 12, 13, 14, 15] rfl
        have hD9 := hD.sub (ws' := ((a0, .inr (9, [g8, g9, g10, .ref a5, g11, g12, g13, g14, g15, g16, g17, g18, g19, g20, g21, g22, g23, g24, g25, g26, g27, g28, g29, g30, g31, g32, g33, g34, g35, g36])) :: bX11 a5 uq kq q_q [])) [0, 1, 2, 3, 4, 5, 6, 7, 8, 9, 10, 11, 12, 13, 14, 15] (by decide) rfl
        have hK9 := hK.sub (tys' := []) [] rfl
        rw [hQQ]
        exact W.iret (v := (1 : Int32)) hx hb hr (fun t ht hW => ⟨⟨(1 : Int32), (), rfl, rfl, by rw [ht]; exact hP9, va_K.moved hW.alike hK9, hD9⟩, hS.F ht⟩) hS.2.2 dX12_refusesQuestion_40
theorem dX11_isClose_0 : decode cX11_isClose 0 = .ok (.iload_n 1, 1) := by decide +kernel
theorem dX11_isClose_1 : decode cX11_isClose 1 = .ok (.aload_n 0, 1) := by decide +kernel
theorem dX11_isClose_10 : decode cX11_isClose 10 = .ok (.getfield 84, 3) := by decide +kernel
theorem dX11_isClose_13 : decode cX11_isClose 13 = .ok (.if_icmp .gt 7, 3) := by decide +kernel
theorem dX11_isClose_16 : decode cX11_isClose 16 = .ok (.iconst 1, 1) := by decide +kernel
theorem dX11_isClose_17 : decode cX11_isClose 17 = .ok (.goto 4, 3) := by decide +kernel
theorem dX11_isClose_2 : decode cX11_isClose 2 = .ok (.getfield 81, 3) := by decide +kernel
theorem dX11_isClose_20 : decode cX11_isClose 20 = .ok (.iconst 0, 1) := by decide +kernel
theorem dX11_isClose_21 : decode cX11_isClose 21 = .ok (.ireturn, 1) := by decide +kernel
theorem dX11_isClose_5 : decode cX11_isClose 5 = .ok (.if_icmp .lt 15, 3) := by decide +kernel
theorem dX11_isClose_8 : decode cX11_isClose 8 = .ok (.iload_n 1, 1) := by decide +kernel
theorem dX11_isClose_9 : decode cX11_isClose 9 = .ok (.aload_n 0, 1) := by decide +kernel
def vfX11_isClose : List Cond := .code yX11_isClose cX11_isClose 2 (some .boolean) :: ([.fieldLink RX11 81 "HookPierModel$Pier" "from" "I", .fieldLink RX11 84 "HookPierModel$Pier" "to" "I"] ++ wsX110)
theorem ifX11_isClose_X11 : ∀ w ∈ wsX110, w ∈ vfX11_isClose := fun _ h => List.mem_cons_of_mem _ (List.mem_append_right _ h)
set_option maxHeartbeats 2000000 in
set_option maxRecDepth 100000 in
theorem kfX11_isClose (l : Launch) (dC : Nat → ClassId) (dI : Nat → Nat → Nat) (a0 : Nat) (k1 : Int32) (uq : Nat → Nat) (kq : Nat → ClassId) (q_q : TX11_q) (sz : Nat) (out : Int32) (h : f_X11_isClose k1 q_q = out) : Met l yX11_isClose vfX11_isClose ({ frames := 0, cells := 0, slots := 0, locals := 0 }) (PC (dC, dI) [.ref a0, .int k1] sz (bX11 a0 uq kq q_q []) (tX11 kq ([]))) (va_Qi (S := Unit) (fun (r : Int32) _ => r = out ∧ (0 ≤ r.toInt ∧ r.toInt ≤ 1)) (fun _ t => BC (dC, dI) (va_A (bX11 a0 uq kq q_q []) sz) (bX11 a0 uq kq q_q []) [] t) (va_A (bX11 a0 uq kq q_q []) sz)) 0 0 (va_A (bX11 a0 uq kq q_q []) sz) := by
  refine Met.ofW (cc := cX11_isClose) (maxL := 2) (ret := (some .boolean)) (by decide) rfl ?_
  intro p e s m args below meth c s₁ B0 hml hv
  obtain ⟨rfl, hsz, hP, hK, hD0, hN⟩ := hv
  have hx := B0.exec
  have hb := B0.bytes
  have hr := B0.returns
  have hts := atoms_spec (ws := vfX11_isClose) B0.pre
  have hown : s.vm.findClass RX11 = some m.cls := findClass_of_methodNamed B0.named
  have hlocks := B0.notSynchronized
  subst hsz
  have hD := hD0.self (sz := s.heap.size)
  generalize hAe : va_A (bX11 a0 uq kq q_q []) s.heap.size = A at hD ⊢
  have hA : ∀ q : Nat, s.heap.size ≤ q → A q := fun q h => by rw [← hAe]; exact Or.inr h
  have hS : va_S A s.heap s.heap [] := va_S.rf
  have hP : va_P (dC, dI) vwCl (bX11 a0 uq kq q_q []) s.heap := hP
  have hl := lv_entry ([.ref a0, .int k1]) (n := 2) (Nat.le_of_ble_eq_true rfl)
  rw [lg_entry_eq]
  generalize (lg_sl ([.ref a0, .int k1]) ++ List.replicate (2 - (lg_sl ([.ref a0, .int k1])).length) Slot.unset).toArray = ls at hl ⊢
  have hl : lv_has ls 2 [(0, .ref a0), (1, .int k1)] := hl
  refine W_q (fun QQ hQQ => ?_)
  rw [f_X11_isClose] at h
  refine lv_iload_n hx hb dX11_isClose_0 rfl (lv_at hl 1 rfl) ?_
  refine lv_aload_n hx hb dX11_isClose_1 rfl (lv_at hl 0 rfl) ?_
  refine va_get (D := (dC, dI)) (ci := 8) (v := .int q_q.2.2.1) (C := RX11) (T := TX11) (N := 24) hx hb hts ifX11_isClose_X11 hown hK hP 0 rfl rfl 2 (by decide) (hts (.fieldLink RX11 81 "HookPierModel$Pier" "from" "I") (List.mem_of_getElem? (i := 1) rfl)) (fun _ h9 => h9) rfl dX11_isClose_2 ?_
  refine lv_icmp_lt (tgt := 20) hx hb dX11_isClose_5 (by decide) (fun c5 => ?_) (fun c5 => ?_)
  · have h := (if_pos c5).symm.trans h
    refine lv_iconst (v := 0) hx hb dX11_isClose_20 (by decide) ?_
    obtain rfl := h
    have hP9 := hP.sub (ws' := (bX11 a0 uq kq q_q [])) [0, 1, 2, 3, 4, 5, 6, 7, 8, 9, 10, 11, 12, 13, 14] rfl
    have hD9 := hD.sub (ws' := (bX11 a0 uq kq q_q [])) [0, 1, 2, 3, 4, 5, 6, 7, 8, 9, 10, 11, 12, 13, 14] (by decide) rfl
    have hK9 := hK.sub (tys' := []) [] rfl
    rw [hQQ]
    exact W.zret (v := (0 : Int32)) hx hb hr rfl (fun t ht hW => ⟨⟨(0 : Int32), (), rfl, ⟨rfl, (by decide)⟩, by rw [ht]; exact hP9, va_K.moved hW.alike hK9, hD9⟩, hS.F ht⟩) hS.2.2 dX11_isClose_21
  · have h := (if_neg c5).symm.trans h
    refine lv_iload_n hx hb dX11_isClose_8 rfl (lv_at hl 1 rfl) ?_
    refine lv_aload_n hx hb dX11_isClose_9 rfl (lv_at hl 0 rfl) ?_
    refine va_get (D := (dC, dI)) (ci := 8) (v := .int q_q.2.2.2.1) (C := RX11) (T := TX11) (N := 24) hx hb hts ifX11_isClose_X11 hown hK hP 0 rfl rfl 3 (by decide) (hts (.fieldLink RX11 84 "HookPierModel$Pier" "to" "I") (List.mem_of_getElem? (i := 2) rfl)) (fun _ h9 => h9) rfl dX11_isClose_10 ?_
    refine lv_icmp_gt (tgt := 20) hx hb dX11_isClose_13 (by decide) (fun c13 => ?_) (fun c13 => ?_)
    · have h := (if_pos c13).symm.trans h
      refine lv_iconst (v := 0) hx hb dX11_isClose_20 (by decide) ?_
      obtain rfl := h
      have hP9 := hP.sub (ws' := (bX11 a0 uq kq q_q [])) [0, 1, 2, 3, 4, 5, 6, 7, 8, 9, 10, 11, 12, 13, 14] rfl
      have hD9 := hD.sub (ws' := (bX11 a0 uq kq q_q [])) [0, 1, 2, 3, 4, 5, 6, 7, 8, 9, 10, 11, 12, 13, 14] (by decide) rfl
      have hK9 := hK.sub (tys' := []) [] rfl
      rw [hQQ]
      exact W.zret (v := (0 : Int32)) hx hb hr rfl (fun t ht hW => ⟨⟨(0 : Int32), (), rfl, ⟨rfl, (by decide)⟩, by rw [ht]; exact hP9, va_K.moved hW.alike hK9, hD9⟩, hS.F ht⟩) hS.2.2 dX11_isClose_21
    · have h := (if_neg c13).symm.trans h
      refine lv_iconst (v := 1) hx hb dX11_isClose_16 (by decide) ?_
      refine lv_goto (tgt := 21) hx hb dX11_isClose_17 (by decide) ?_
      obtain rfl := h
      have hP9 := hP.sub (ws' := (bX11 a0 uq kq q_q [])) [0, 1, 2, 3, 4, 5, 6, 7, 8, 9, 10, 11, 12, 13, 14] rfl
      have hD9 := hD.sub (ws' := (bX11 a0 uq kq q_q [])) [0, 1, 2, 3, 4, 5, 6, 7, 8, 9, 10, 11, 12, 13, 14] (by decide) rfl
      have hK9 := hK.sub (tys' := []) [] rfl
      rw [hQQ]
      exact W.zret (v := (1 : Int32)) hx hb hr rfl (fun t ht hW => ⟨⟨(1 : Int32), (), rfl, ⟨rfl, (by decide)⟩, by rw [ht]; exact hP9, va_K.moved hW.alike hK9, hD9⟩, hS.F ht⟩) hS.2.2 dX11_isClose_21
theorem dX12_remembers_0 : decode cX12_remembers 0 = .ok (.aload_n 0, 1) := by decide +kernel
theorem dX12_remembers_1 : decode cX12_remembers 1 = .ok (.getfield 301, 3) := by decide +kernel
theorem dX12_remembers_10 : decode cX12_remembers 10 = .ok (.istore_n 1, 1) := by decide +kernel
theorem dX12_remembers_11 : decode cX12_remembers 11 = .ok (.iload_n 1, 1) := by decide +kernel
theorem dX12_remembers_12 : decode cX12_remembers 12 = .ok (.sipush 390, 3) := by decide +kernel
theorem dX12_remembers_15 : decode cX12_remembers 15 = .ok (.if_icmp .ge 24, 3) := by decide +kernel
theorem dX12_remembers_18 : decode cX12_remembers 18 = .ok (.aload_n 0, 1) := by decide +kernel
theorem dX12_remembers_19 : decode cX12_remembers 19 = .ok (.getfield 24, 3) := by decide +kernel
theorem dX12_remembers_22 : decode cX12_remembers 22 = .ok (.iload_n 1, 1) := by decide +kernel
theorem dX12_remembers_23 : decode cX12_remembers 23 = .ok (.aload_n 0, 1) := by decide +kernel
theorem dX12_remembers_24 : decode cX12_remembers 24 = .ok (.getfield 24, 3) := by decide +kernel
theorem dX12_remembers_27 : decode cX12_remembers 27 = .ok (.iload_n 1, 1) := by decide +kernel
theorem dX12_remembers_28 : decode cX12_remembers 28 = .ok (.bipush 26, 2) := by decide +kernel
theorem dX12_remembers_30 : decode cX12_remembers 30 = .ok (.iadd, 1) := by decide +kernel
theorem dX12_remembers_31 : decode cX12_remembers 31 = .ok (.iaload, 1) := by decide +kernel
theorem dX12_remembers_32 : decode cX12_remembers 32 = .ok (.iastore, 1) := by decide +kernel
theorem dX12_remembers_33 : decode cX12_remembers 33 = .ok (.iinc 1 1, 3) := by decide +kernel
theorem dX12_remembers_36 : decode cX12_remembers 36 = .ok (.goto (-25), 3) := by decide +kernel
theorem dX12_remembers_39 : decode cX12_remembers 39 = .ok (.aload_n 0, 1) := by decide +kernel
theorem dX12_remembers_4 : decode cX12_remembers 4 = .ok (.bipush 16, 2) := by decide +kernel
theorem dX12_remembers_40 : decode cX12_remembers 40 = .ok (.dup, 1) := by decide +kernel
theorem dX12_remembers_41 : decode cX12_remembers 41 = .ok (.getfield 301, 3) := by decide +kernel
theorem dX12_remembers_44 : decode cX12_remembers 44 = .ok (.iconst 1, 1) := by decide +kernel
theorem dX12_remembers_45 : decode cX12_remembers 45 = .ok (.isub, 1) := by decide +kernel
theorem dX12_remembers_46 : decode cX12_remembers 46 = .ok (.putfield 301, 3) := by decide +kernel
theorem dX12_remembers_49 : decode cX12_remembers 49 = .ok (.iconst 0, 1) := by decide +kernel
theorem dX12_remembers_50 : decode cX12_remembers 50 = .ok (.istore_n 1, 1) := by decide +kernel
theorem dX12_remembers_51 : decode cX12_remembers 51 = .ok (.iload_n 1, 1) := by decide +kernel
theorem dX12_remembers_52 : decode cX12_remembers 52 = .ok (.bipush 26, 2) := by decide +kernel
theorem dX12_remembers_54 : decode cX12_remembers 54 = .ok (.if_icmp .ge 29, 3) := by decide +kernel
theorem dX12_remembers_57 : decode cX12_remembers 57 = .ok (.aload_n 0, 1) := by decide +kernel
theorem dX12_remembers_58 : decode cX12_remembers 58 = .ok (.getfield 24, 3) := by decide +kernel
theorem dX12_remembers_6 : decode cX12_remembers 6 = .ok (.if_icmp .ne 43, 3) := by decide +kernel
theorem dX12_remembers_61 : decode cX12_remembers 61 = .ok (.bipush 26, 2) := by decide +kernel
theorem dX12_remembers_63 : decode cX12_remembers 63 = .ok (.aload_n 0, 1) := by decide +kernel
theorem dX12_remembers_64 : decode cX12_remembers 64 = .ok (.getfield 301, 3) := by decide +kernel
theorem dX12_remembers_67 : decode cX12_remembers 67 = .ok (.imul, 1) := by decide +kernel
theorem dX12_remembers_68 : decode cX12_remembers 68 = .ok (.iload_n 1, 1) := by decide +kernel
theorem dX12_remembers_69 : decode cX12_remembers 69 = .ok (.iadd, 1) := by decide +kernel
theorem dX12_remembers_70 : decode cX12_remembers 70 = .ok (.aload_n 0, 1) := by decide +kernel
theorem dX12_remembers_71 : decode cX12_remembers 71 = .ok (.getfield 17, 3) := by decide +kernel
theorem dX12_remembers_74 : decode cX12_remembers 74 = .ok (.iload_n 1, 1) := by decide +kernel
theorem dX12_remembers_75 : decode cX12_remembers 75 = .ok (.iaload, 1) := by decide +kernel
theorem dX12_remembers_76 : decode cX12_remembers 76 = .ok (.iastore, 1) := by decide +kernel
theorem dX12_remembers_77 : decode cX12_remembers 77 = .ok (.iinc 1 1, 3) := by decide +kernel
theorem dX12_remembers_80 : decode cX12_remembers 80 = .ok (.goto (-29), 3) := by decide +kernel
theorem dX12_remembers_83 : decode cX12_remembers 83 = .ok (.aload_n 0, 1) := by decide +kernel
theorem dX12_remembers_84 : decode cX12_remembers 84 = .ok (.dup, 1) := by decide +kernel
theorem dX12_remembers_85 : decode cX12_remembers 85 = .ok (.getfield 301, 3) := by decide +kernel
theorem dX12_remembers_88 : decode cX12_remembers 88 = .ok (.iconst 1, 1) := by decide +kernel
theorem dX12_remembers_89 : decode cX12_remembers 89 = .ok (.iadd, 1) := by decide +kernel
theorem dX12_remembers_9 : decode cX12_remembers 9 = .ok (.iconst 0, 1) := by decide +kernel
theorem dX12_remembers_90 : decode cX12_remembers 90 = .ok (.putfield 301, 3) := by decide +kernel
theorem dX12_remembers_93 : decode cX12_remembers 93 = .ok (.return_, 1) := by decide +kernel
def vfX12_remembers : List Cond := .code yX12_remembers cX12_remembers 2 none :: ([.fieldLink RX12 301 "HookPierModel" "acts" "I", .fieldLink RX12 24 "HookPierModel" "past" "[I", .fieldLink RX12 17 "HookPierModel" "v" "[I"] ++ wsX120)
theorem ifX12_remembers_X12 : ∀ w ∈ wsX120, w ∈ vfX12_remembers := fun _ h => List.mem_cons_of_mem _ (List.mem_append_right _ h)
set_option maxHeartbeats 2000000 in
set_option maxRecDepth 100000 in
theorem kfX12_remembers (l : Launch) (dC : Nat → ClassId) (dI : Nat → Nat → Nat) (a0 : Nat) (a1 : Nat) (a2 : Nat) (a3 : Nat) (m_v : TX12_v) (m_h : TX12_h) (g6 : Value) (g7 : Value) (g8 : Value) (g9 : Value) (g10 : Value) (g11 : Value) (g12 : Value) (g13 : Value) (g14 : Value) (g15 : Value) (g16 : Value) (g17 : Value) (g18 : Value) (g19 : Value) (g20 : Value) (g21 : Value) (g22 : Value) (g23 : Value) (g24 : Value) (g25 : Value) (g26 : Value) (g27 : Value) (g28 : Value) (g29 : Value) (g30 : Value) (cB31 : ClassId) (cB32 : ClassId) (cB33 : ClassId) (sz : Nat) (out : TX12_h) (h : f_X12_remembers m_v m_h = some out) : Met l yX12_remembers vfX12_remembers ({ frames := 0, cells := 0, slots := 0, locals := 0 }) (PC (dC, dI) [.ref a0] sz ([(a0, .inr (9, [g6, g7, g8, g9, g10, g11, g12, g13, g14, g15, g16, g17, g18, g19, g20, .ref a1, g21, .ref a2, .ref a3, .int m_h.2.2.1, .int m_h.2.2.2, g22, g23, g24, g25, g26, g27, g28, g29, g30])), (a1, .inl (cB31, 26, .inl m_v)), (a2, .inl (cB32, 416, .inl m_h.1)), (a3, .inl (cB33, 78, .inl m_h.2.1))]) ((cB31, .int) :: (cB32, .int) :: (cB33, .int) :: [])) (va_Qv (S := Unit) (fun _ => True) (fun _ t => BC (dC, dI) (va_A ([(a0, .inr (9, [g6, g7, g8, g9, g10, g11, g12, g13, g14, g15, g16, g17, g18, g19, g20, .ref a1, g21, .ref a2, .ref a3, .int m_h.2.2.1, .int m_h.2.2.2, g22, g23, g24, g25, g26, g27, g28, g29, g30])), (a1, .inl (cB31, 26, .inl m_v)), (a2, .inl (cB32, 416, .inl m_h.1)), (a3, .inl (cB33, 78, .inl m_h.2.1))]) sz) ([(a0, .inr (9, [g6, g7, g8, g9, g10, g11, g12, g13, g14, g15, g16, g17, g18, g19, g20, .ref a1, g21, .ref a2, .ref a3, .int out.2.2.1, .int out.2.2.2, g22, g23, g24, g25, g26, g27, g28, g29, g30])), (a1, .inl (cB31, 26, .inl m_v)), (a2, .inl (cB32, 416, .inl out.1)), (a3, .inl (cB33, 78, .inl out.2.1))]) [] t) (va_A ([(a0, .inr (9, [g6, g7, g8, g9, g10, g11, g12, g13, g14, g15, g16, g17, g18, g19, g20, .ref a1, g21, .ref a2, .ref a3, .int m_h.2.2.1, .int m_h.2.2.2, g22, g23, g24, g25, g26, g27, g28, g29, g30])), (a1, .inl (cB31, 26, .inl m_v)), (a2, .inl (cB32, 416, .inl m_h.1)), (a3, .inl (cB33, 78, .inl m_h.2.1))]) sz)) 0 0 (va_A ([(a0, .inr (9, [g6, g7, g8, g9, g10, g11, g12, g13, g14, g15, g16, g17, g18, g19, g20, .ref a1, g21, .ref a2, .ref a3, .int m_h.2.2.1, .int m_h.2.2.2, g22, g23, g24, g25, g26, g27, g28, g29, g30])), (a1, .inl (cB31, 26, .inl m_v)), (a2, .inl (cB32, 416, .inl m_h.1)), (a3, .inl (cB33, 78, .inl m_h.2.1))]) sz) := by
  refine Met.ofW (cc := cX12_remembers) (maxL := 2) (ret := none) (by decide) rfl ?_
  intro p e s m args below meth c s₁ B0 hml hv
  obtain ⟨rfl, hsz, hP, hK, hD0, hN⟩ := hv
  have hx := B0.exec
  have hb := B0.bytes
  have hr := B0.returns
  have hts := atoms_spec (ws := vfX12_remembers) B0.pre
  have hown : s.vm.findClass RX12 = some m.cls := findClass_of_methodNamed B0.named
  have hlocks := B0.notSynchronized
  subst hsz
  have hD := hD0.self (sz := s.heap.size)
  generalize hAe : va_A ([(a0, .inr (9, [g6, g7, g8, g9, g10, g11, g12, g13, g14, g15, g16, g17, g18, g19, g20, .ref a1, g21, .ref a2, .ref a3, .int m_h.2.2.1, .int m_h.2.2.2, g22, g23, g24, g25, g26, g27, g28, g29, g30])), (a1, .inl (cB31, 26, .inl m_v)), (a2, .inl (cB32, 416, .inl m_h.1)), (a3, .inl (cB33, 78, .inl m_h.2.1))]) s.heap.size = A at hD ⊢
  have hA : ∀ q : Nat, s.heap.size ≤ q → A q := fun q h => by rw [← hAe]; exact Or.inr h
  have hS : va_S A s.heap s.heap [] := va_S.rf
  have hP : va_P (dC, dI) vwCl ([(a0, .inr (9, [g6, g7, g8, g9, g10, g11, g12, g13, g14, g15, g16, g17, g18, g19, g20, .ref a1, g21, .ref a2, .ref a3, .int m_h.2.2.1, .int m_h.2.2.2, g22, g23, g24, g25, g26, g27, g28, g29, g30])), (a1, .inl (cB31, 26, .inl m_v)), (a2, .inl (cB32, 416, .inl m_h.1)), (a3, .inl (cB33, 78, .inl m_h.2.1))]) s.heap := hP
  have hl := lv_entry ([.ref a0]) (n := 2) (Nat.le_of_ble_eq_true rfl)
  rw [lg_entry_eq]
  generalize (lg_sl ([.ref a0]) ++ List.replicate (2 - (lg_sl ([.ref a0])).length) Slot.unset).toArray = ls at hl ⊢
  have hl : lv_has ls 2 [(0, .ref a0)] := hl
  refine W_q (fun QQ hQQ => ?_)
  rw [f_X12_remembers] at h
  refine lv_aload_n hx hb dX12_remembers_0 rfl (lv_at hl 0 rfl) ?_
  refine va_get (D := (dC, dI)) (ci := 9) (v := .int m_h.2.2.1) (C := RX12) (T := TX12) (N := 30) hx hb hts ifX12_remembers_X12 hown hK hP 0 rfl rfl 19 (by decide) (hts (.fieldLink RX12 301 "HookPierModel" "acts" "I") (List.mem_of_getElem? (i := 1) rfl)) (fun _ h9 => h9) rfl dX12_remembers_1 ?_
  refine lv_bipush (v := 16) hx hb dX12_remembers_4 (by decide) ?_
  have J49 : ∀ (v49_m_h : TX12_h) (H : Heap) (locs : List Loc) (ls : Array Slot), f_X12_remembers_J49 m_v v49_m_h = some out → va_P (dC, dI) vwCl ([(a0, .inr (9, [g6, g7, g8, g9, g10, g11, g12, g13, g14, g15, g16, g17, g18, g19, g20, .ref a1, g21, .ref a2, .ref a3, .int v49_m_h.2.2.1, .int v49_m_h.2.2.2, g22, g23, g24, g25, g26, g27, g28, g29, g30])), (a1, .inl (cB31, 26, .inl m_v)), (a2, .inl (cB32, 416, .inl v49_m_h.1)), (a3, .inl (cB33, 78, .inl v49_m_h.2.1))]) H → va_D A ([(a0, .inr (9, [g6, g7, g8, g9, g10, g11, g12, g13, g14, g15, g16, g17, g18, g19, g20, .ref a1, g21, .ref a2, .ref a3, .int v49_m_h.2.2.1, .int v49_m_h.2.2.2, g22, g23, g24, g25, g26, g27, g28, g29, g30])), (a1, .inl (cB31, 26, .inl m_v)), (a2, .inl (cB32, 416, .inl v49_m_h.1)), (a3, .inl (cB33, 78, .inl v49_m_h.2.1))]) → va_S A s.heap H locs → lv_has ls 2 [(0, .ref a0)] → W p l e (headSpec vfX12_remembers { frames := 0, cells := 0, slots := 0, locals := 0 }).room s m ([.ref a0]).toArray below meth c H locs 0 0 QQ (F0 m 49 ls []) := by
    intro v49_m_h H locs ls h  hP hD hS hl
    rw [f_X12_remembers_J49] at h
    refine lv_iconst (v := 0) hx hb dX12_remembers_49 (by decide) ?_
    refine lv_istore_n (lv' := [(1, .int 0), (0, .ref a0)]) hx hb dX12_remembers_50 rfl hl (by decide) rfl (fun ls hl => ?_)
    have L51 : ∀ (n51 : Nat) (v51_l1 : Int32) (v51_m_h : TX12_h) (H : Heap) (locs : List Loc) (ls : Array Slot), f_X12_remembers_L51 m_v n51 v51_l1 v51_m_h = some out → va_P (dC, dI) vwCl ([(a0, .inr (9, [g6, g7, g8, g9, g10, g11, g12, g13, g14, g15, g16, g17, g18, g19, g20, .ref a1, g21, .ref a2, .ref a3, .int v51_m_h.2.2.1, .int v51_m_h.2.2.2, g22, g23, g24, g25, g26, g27, g28, g29, g30])), (a1, .inl (cB31, 26, .inl m_v)), (a2, .inl (cB32, 416, .inl v51_m_h.1)), (a3, .inl (cB33, 78, .inl v51_m_h.2.1))]) H → va_D A ([(a0, .inr (9, [g6, g7, g8, g9, g10, g11, g12, g13, g14, g15, g16, g17, g18, g19, g20, .ref a1, g21, .ref a2, .ref a3, .int v51_m_h.2.2.1, .int v51_m_h.2.2.2, g22, g23, g24, g25, g26, g27, g28, g29, g30])), (a1, .inl (cB31, 26, .inl m_v)), (a2, .inl (cB32, 416, .inl v51_m_h.1)), (a3, .inl (cB33, 78, .inl v51_m_h.2.1))]) → va_S A s.heap H locs → lv_has ls 2 [(1, .int v51_l1), (0, .ref a0)] → W p l e (headSpec vfX12_remembers { frames := 0, cells := 0, slots := 0, locals := 0 }).room s m ([.ref a0]).toArray below meth c H locs 0 0 QQ (F0 m 51 ls []) := by
      intro n51
      induction n51 with
      | zero =>
        intro v51_l1 v51_m_h H locs ls h  _ _ _ _
        rw [f_X12_remembers_L51] at h
        cases h
      | succ n51 ih51 =>
        intro v51_l1 v51_m_h H locs ls h  hP hD hS hl
        rw [f_X12_remembers_L51] at h
        refine lv_iload_n hx hb dX12_remembers_51 rfl (lv_at hl 0 rfl) ?_
        refine lv_bipush (v := 26) hx hb dX12_remembers_52 (by decide) ?_
        refine lv_icmp_ge (tgt := 83) hx hb dX12_remembers_54 (by decide) (fun c54 => ?_) (fun c54 => ?_)
        · have h := (if_pos c54).symm.trans h
          refine lv_aload_n hx hb dX12_remembers_83 rfl (lv_at hl 1 rfl) ?_
          refine lv_dup hx hb dX12_remembers_84 rfl ?_
          refine va_get (D := (dC, dI)) (ci := 9) (v := .int v51_m_h.2.2.1) (C := RX12) (T := TX12) (N := 30) hx hb hts ifX12_remembers_X12 hown hK hP 0 rfl rfl 19 (by decide) (hts (.fieldLink RX12 301 "HookPierModel" "acts" "I") (List.mem_of_getElem? (i := 1) rfl)) (fun _ h9 => h9) rfl dX12_remembers_85 ?_
          refine lv_iconst (v := 1) hx hb dX12_remembers_88 (by decide) ?_
          refine lv_iadd hx hb dX12_remembers_89 ?_
          refine va_put (D := (dC, dI)) (ci := 9) (v := .int (v51_m_h.2.2.1 + (1 : Int32))) (ty := .int) (C := RX12) (T := TX12) (N := 30) hx hb hts ifX12_remembers_X12 tyX12 tyX12_ok nmX12 hown hK hP hD hS 0 rfl rfl 19 (by decide) (hts (.fieldLink RX12 301 "HookPierModel" "acts" "I") (List.mem_of_getElem? (i := 1) rfl)) (fun _ h9 => h9) rfl (by decide +kernel) rfl rfl (Nat.le_of_ble_eq_true rfl) dX12_remembers_90 (fun H locs hP hD hS => ?_)
          have hP : va_P (dC, dI) vwCl ([(a0, .inr (9, [g6, g7, g8, g9, g10, g11, g12, g13, g14, g15, g16, g17, g18, g19, g20, .ref a1, g21, .ref a2, .ref a3, .int (v51_m_h.2.2.1 + (1 : Int32)), .int v51_m_h.2.2.2, g22, g23, g24, g25, g26, g27, g28, g29, g30])), (a1, .inl (cB31, 26, .inl m_v)), (a2, .inl (cB32, 416, .inl v51_m_h.1)), (a3, .inl (cB33, 78, .inl v51_m_h.2.1))]) H := hP
          have hD : va_D A ([(a0, .inr (9, [g6, g7, g8, g9, g10, g11, g12, g13, g14, g15, g16, g17, g18, g19, g20, .ref a1, g21, .ref a2, .ref a3, .int (v51_m_h.2.2.1 + (1 : Int32)), .int v51_m_h.2.2.2, g22, g23, g24, g25, g26, g27, g28, g29, g30])), (a1, .inl (cB31, 26, .inl m_v)), (a2, .inl (cB32, 416, .inl v51_m_h.1)), (a3, .inl (cB33, 78, .inl v51_m_h.2.1))]) := hD
          obtain rfl := Option.some.inj h
          have hP9 := hP.sub (ws' := ([(a0, .inr (9, [g6, g7, g8, g9, g10, g11, g12, g13, g14, g15, g16, g17, g18, g19, g20, .ref a1, g21, .ref a2, .ref a3, .int (v51_m_h.2.2.1 + (1 : Int32)), .int v51_m_h.2.2.2, g22, g23, g24, g25, g26, g27, g28, g29, g30])), (a1, .inl (cB31, 26, .inl m_v)), (a2, .inl (cB32, 416, .inl v51_m_h.1)), (a3, .inl (cB33, 78, .inl v51_m_h.2.1))])) [0, 1, 2, 3] rfl
          have hD9 := hD.sub (ws' := ([(a0, .inr (9, [g6, g7, g8, g9, g10, g11, g12, g13, g14, g15, g16, g17, g18, g19, g20, .ref a1, g21, .ref a2, .ref a3, .int (v51_m_h.2.2.1 + (1 : Int32)), .int v51_m_h.2.2.2, g22, g23, g24, g25, g26, g27, g28, g29, g30])), (a1, .inl (cB31, 26, .inl m_v)), (a2, .inl (cB32, 416, .inl v51_m_h.1)), (a3, .inl (cB33, 78, .inl v51_m_h.2.1))])) [0, 1, 2, 3] (by decide) rfl
          have hK9 := hK.sub (tys' := []) [] rfl
          rw [hQQ]
          exact W.vret hx hb hr (fun t ht hW => ⟨⟨(), rfl, trivial, by rw [ht]; exact hP9, va_K.moved hW.alike hK9, hD9⟩, hS.F ht⟩) hS.2.2 dX12_remembers_93
        · have h := (if_neg c54).symm.trans h
          refine lv_aload_n hx hb dX12_remembers_57 rfl (lv_at hl 1 rfl) ?_
          refine va_get (D := (dC, dI)) (ci := 9) (v := .ref a2) (C := RX12) (T := TX12) (N := 30) hx hb hts ifX12_remembers_X12 hown hK hP 0 rfl rfl 17 (by decide) (hts (.fieldLink RX12 24 "HookPierModel" "past" "[I") (List.mem_of_getElem? (i := 2) rfl)) (fun _ h9 => h9) rfl dX12_remembers_58 ?_
          refine lv_bipush (v := 26) hx hb dX12_remembers_61 (by decide) ?_
          refine lv_aload_n hx hb dX12_remembers_63 rfl (lv_at hl 1 rfl) ?_
          refine va_get (D := (dC, dI)) (ci := 9) (v := .int v51_m_h.2.2.1) (C := RX12) (T := TX12) (N := 30) hx hb hts ifX12_remembers_X12 hown hK hP 0 rfl rfl 19 (by decide) (hts (.fieldLink RX12 301 "HookPierModel" "acts" "I") (List.mem_of_getElem? (i := 1) rfl)) (fun _ h9 => h9) rfl dX12_remembers_64 ?_
          refine lv_imul hx hb dX12_remembers_67 ?_
          refine lv_iload_n hx hb dX12_remembers_68 rfl (lv_at hl 0 rfl) ?_
          refine lv_iadd hx hb dX12_remembers_69 ?_
          refine lv_aload_n hx hb dX12_remembers_70 rfl (lv_at hl 1 rfl) ?_
          refine va_get (D := (dC, dI)) (ci := 9) (v := .ref a1) (C := RX12) (T := TX12) (N := 30) hx hb hts ifX12_remembers_X12 hown hK hP 0 rfl rfl 15 (by decide) (hts (.fieldLink RX12 17 "HookPierModel" "v" "[I") (List.mem_of_getElem? (i := 3) rfl)) (fun _ h9 => h9) rfl dX12_remembers_71 ?_
          refine lv_iload_n hx hb dX12_remembers_74 rfl (lv_at hl 0 rfl) ?_
          obtain ⟨hg75, h⟩ := gA_of h
          refine va_iald hx hb hK hP 1 0 rfl rfl hg75 dX12_remembers_75 ?_
          obtain ⟨hg76, h⟩ := gA_of h
          refine va_iast hx hb hK hP hD hS 2 1 rfl rfl hg76 dX12_remembers_76 (fun H locs hP hD hS => ?_)
          have hP : va_P (dC, dI) vwCl ([(a0, .inr (9, [g6, g7, g8, g9, g10, g11, g12, g13, g14, g15, g16, g17, g18, g19, g20, .ref a1, g21, .ref a2, .ref a3, .int v51_m_h.2.2.1, .int v51_m_h.2.2.2, g22, g23, g24, g25, g26, g27, g28, g29, g30])), (a1, .inl (cB31, 26, .inl m_v)), (a2, .inl (cB32, 416, .inl (upd v51_m_h.1 ((((26 : Int32) * v51_m_h.2.2.1) + v51_l1)).toNatClampNeg (m_v (v51_l1).toNatClampNeg)))), (a3, .inl (cB33, 78, .inl v51_m_h.2.1))]) H := hP
          have hD : va_D A ([(a0, .inr (9, [g6, g7, g8, g9, g10, g11, g12, g13, g14, g15, g16, g17, g18, g19, g20, .ref a1, g21, .ref a2, .ref a3, .int v51_m_h.2.2.1, .int v51_m_h.2.2.2, g22, g23, g24, g25, g26, g27, g28, g29, g30])), (a1, .inl (cB31, 26, .inl m_v)), (a2, .inl (cB32, 416, .inl (upd v51_m_h.1 ((((26 : Int32) * v51_m_h.2.2.1) + v51_l1)).toNatClampNeg (m_v (v51_l1).toNatClampNeg)))), (a3, .inl (cB33, 78, .inl v51_m_h.2.1))]) := hD
          refine lv_iinc (v := (v51_l1 + (1 : Int32))) (lv' := [(1, .int (v51_l1 + (1 : Int32))), (0, .ref a0)]) hx hb dX12_remembers_77 hl (k := 0) rfl rfl (by decide) rfl (fun ls hl => ?_)
          refine lv_goto (tgt := 51) hx hb dX12_remembers_80 (by decide) ?_
          exact ih51 (v51_l1 + (1 : Int32)) ((upd v51_m_h.1 ((((26 : Int32) * v51_m_h.2.2.1) + v51_l1)).toNatClampNeg (m_v (v51_l1).toNatClampNeg)), v51_m_h.2) H _ ls h  hP hD hS (lv_sub hl [0, 1] rfl)
    exact L51 FU (0 : Int32) v49_m_h H _ ls h  hP hD hS (lv_sub hl [0, 1] rfl)
  refine lv_icmp_ne (tgt := 49) hx hb dX12_remembers_6 (by decide) (fun c6 => ?_) (fun c6 => ?_)
  · have h := (if_neg c6).symm.trans h
    exact J49 m_h s.heap _ ls h  hP hD hS (lv_sub hl [0] rfl)
  · have h := (if_pos c6).symm.trans h
    refine lv_iconst (v := 0) hx hb dX12_remembers_9 (by decide) ?_
    refine lv_istore_n (lv' := [(1, .int 0), (0, .ref a0)]) hx hb dX12_remembers_10 rfl hl (by decide) rfl (fun ls hl => ?_)
    have L11 : ∀ (n11 : Nat) (v11_l1 : Int32) (v11_m_h : TX12_h) (H : Heap) (locs : List Loc) (ls : Array Slot), f_X12_remembers_L11 m_v n11 v11_l1 v11_m_h = some out → va_P (dC, dI) vwCl ([(a0, .inr (9, [g6, g7, g8, g9, g10, g11, g12, g13, g14, g15, g16, g17, g18, g19, g20, .ref a1, g21, .ref a2, .ref a3, .int v11_m_h.2.2.1, .int v11_m_h.2.2.2, g22, g23, g24, g25, g26, g27, g28, g29, g30])), (a1, .inl (cB31, 26, .inl m_v)), (a2, .inl (cB32, 416, .inl v11_m_h.1)), (a3, .inl (cB33, 78, .inl v11_m_h.2.1))]) H → va_D A ([(a0, .inr (9, [g6, g7, g8, g9, g10, g11, g12, g13, g14, g15, g16, g17, g18, g19, g20, .ref a1, g21, .ref a2, .ref a3, .int v11_m_h.2.2.1, .int v11_m_h.2.2.2, g22, g23, g24, g25, g26, g27, g28, g29, g30])), (a1, .inl (cB31, 26, .inl m_v)), (a2, .inl (cB32, 416, .inl v11_m_h.1)), (a3, .inl (cB33, 78, .inl v11_m_h.2.1))]) → va_S A s.heap H locs → lv_has ls 2 [(1, .int v11_l1), (0, .ref a0)] → W p l e (headSpec vfX12_remembers { frames := 0, cells := 0, slots := 0, locals := 0 }).room s m ([.ref a0]).toArray below meth c H locs 0 0 QQ (F0 m 11 ls []) := by
      intro n11
      induction n11 with
      | zero =>
        intro v11_l1 v11_m_h H locs ls h  _ _ _ _
        rw [f_X12_remembers_L11] at h
        cases h
      | succ n11 ih11 =>
        intro v11_l1 v11_m_h H locs ls h  hP hD hS hl
        rw [f_X12_remembers_L11] at h
        refine lv_iload_n hx hb dX12_remembers_11 rfl (lv_at hl 0 rfl) ?_
        refine lv_sipush (v := 390) hx hb dX12_remembers_12 (by decide) ?_
        refine lv_icmp_ge (tgt := 39) hx hb dX12_remembers_15 (by decide) (fun c15 => ?_) (fun c15 => ?_)
        · have h := (if_pos c15).symm.trans h
          refine lv_aload_n hx hb dX12_remembers_39 rfl (lv_at hl 1 rfl) ?_
          refine lv_dup hx hb dX12_remembers_40 rfl ?_
          refine va_get (D := (dC, dI)) (ci := 9) (v := .int v11_m_h.2.2.1) (C := RX12) (T := TX12) (N := 30) hx hb hts ifX12_remembers_X12 hown hK hP 0 rfl rfl 19 (by decide) (hts (.fieldLink RX12 301 "HookPierModel" "acts" "I") (List.mem_of_getElem? (i := 1) rfl)) (fun _ h9 => h9) rfl dX12_remembers_41 ?_
          refine lv_iconst (v := 1) hx hb dX12_remembers_44 (by decide) ?_
          refine lv_isub hx hb dX12_remembers_45 ?_
          refine va_put (D := (dC, dI)) (ci := 9) (v := .int (v11_m_h.2.2.1 - (1 : Int32))) (ty := .int) (C := RX12) (T := TX12) (N := 30) hx hb hts ifX12_remembers_X12 tyX12 tyX12_ok nmX12 hown hK hP hD hS 0 rfl rfl 19 (by decide) (hts (.fieldLink RX12 301 "HookPierModel" "acts" "I") (List.mem_of_getElem? (i := 1) rfl)) (fun _ h9 => h9) rfl (by decide +kernel) rfl rfl (Nat.le_of_ble_eq_true rfl) dX12_remembers_46 (fun H locs hP hD hS => ?_)
          have hP : va_P (dC, dI) vwCl ([(a0, .inr (9, [g6, g7, g8, g9, g10, g11, g12, g13, g14, g15, g16, g17, g18, g19, g20, .ref a1, g21, .ref a2, .ref a3, .int (v11_m_h.2.2.1 - (1 : Int32)), .int v11_m_h.2.2.2, g22, g23, g24, g25, g26, g27, g28, g29, g30])), (a1, .inl (cB31, 26, .inl m_v)), (a2, .inl (cB32, 416, .inl v11_m_h.1)), (a3, .inl (cB33, 78, .inl v11_m_h.2.1))]) H := hP
          have hD : va_D A ([(a0, .inr (9, [g6, g7, g8, g9, g10, g11, g12, g13, g14, g15, g16, g17, g18, g19, g20, .ref a1, g21, .ref a2, .ref a3, .int (v11_m_h.2.2.1 - (1 : Int32)), .int v11_m_h.2.2.2, g22, g23, g24, g25, g26, g27, g28, g29, g30])), (a1, .inl (cB31, 26, .inl m_v)), (a2, .inl (cB32, 416, .inl v11_m_h.1)), (a3, .inl (cB33, 78, .inl v11_m_h.2.1))]) := hD
          exact J49 (v11_m_h.1, v11_m_h.2.1, (v11_m_h.2.2.1 - (1 : Int32)), v11_m_h.2.2.2) H _ ls h  hP hD hS (lv_sub hl [1] rfl)
        · have h := (if_neg c15).symm.trans h
          refine lv_aload_n hx hb dX12_remembers_18 rfl (lv_at hl 1 rfl) ?_
          refine va_get (D := (dC, dI)) (ci := 9) (v := .ref a2) (C := RX12) (T := TX12) (N := 30) hx hb hts ifX12_remembers_X12 hown hK hP 0 rfl rfl 17 (by decide) (hts (.fieldLink RX12 24 "HookPierModel" "past" "[I") (List.mem_of_getElem? (i := 2) rfl)) (fun _ h9 => h9) rfl dX12_remembers_19 ?_
          refine lv_iload_n hx hb dX12_remembers_22 rfl (lv_at hl 0 rfl) ?_
          refine lv_aload_n hx hb dX12_remembers_23 rfl (lv_at hl 1 rfl) ?_
          refine va_get (D := (dC, dI)) (ci := 9) (v := .ref a2) (C := RX12) (T := TX12) (N := 30) hx hb hts ifX12_remembers_X12 hown hK hP 0 rfl rfl 17 (by decide) (hts (.fieldLink RX12 24 "HookPierModel" "past" "[I") (List.mem_of_getElem? (i := 2) rfl)) (fun _ h9 => h9) rfl dX12_remembers_24 ?_
          refine lv_iload_n hx hb dX12_remembers_27 rfl (lv_at hl 0 rfl) ?_
          refine lv_bipush (v := 26) hx hb dX12_remembers_28 (by decide) ?_
          refine lv_iadd hx hb dX12_remembers_30 ?_
          obtain ⟨hg31, h⟩ := gA_of h
          refine va_iald hx hb hK hP 2 1 rfl rfl hg31 dX12_remembers_31 ?_
          obtain ⟨hg32, h⟩ := gA_of h
          refine va_iast hx hb hK hP hD hS 2 1 rfl rfl hg32 dX12_remembers_32 (fun H locs hP hD hS => ?_)
          have hP : va_P (dC, dI) vwCl ([(a0, .inr (9, [g6, g7, g8, g9, g10, g11, g12, g13, g14, g15, g16, g17, g18, g19, g20, .ref a1, g21, .ref a2, .ref a3, .int v11_m_h.2.2.1, .int v11_m_h.2.2.2, g22, g23, g24, g25, g26, g27, g28, g29, g30])), (a1, .inl (cB31, 26, .inl m_v)), (a2, .inl (cB32, 416, .inl (upd v11_m_h.1 (v11_l1).toNatClampNeg (v11_m_h.1 ((v11_l1 + (26 : Int32))).toNatClampNeg)))), (a3, .inl (cB33, 78, .inl v11_m_h.2.1))]) H := hP
          have hD : va_D A ([(a0, .inr (9, [g6, g7, g8, g9, g10, g11, g12, g13, g14, g15, g16, g17, g18, g19, g20, .ref a1, g21, .ref a2, .ref a3, .int v11_m_h.2.2.1, .int v11_m_h.2.2.2, g22, g23, g24, g25, g26, g27, g28, g29, g30])), (a1, .inl (cB31, 26, .inl m_v)), (a2, .inl (cB32, 416, .inl (upd v11_m_h.1 (v11_l1).toNatClampNeg (v11_m_h.1 ((v11_l1 + (26 : Int32))).toNatClampNeg)))), (a3, .inl (cB33, 78, .inl v11_m_h.2.1))]) := hD
          refine lv_iinc (v := (v11_l1 + (1 : Int32))) (lv' := [(1, .int (v11_l1 + (1 : Int32))), (0, .ref a0)]) hx hb dX12_remembers_33 hl (k := 0) rfl rfl (by decide) rfl (fun ls hl => ?_)
          refine lv_goto (tgt := 11) hx hb dX12_remembers_36 (by decide) ?_
          exact ih11 (v11_l1 + (1 : Int32)) ((upd v11_m_h.1 (v11_l1).toNatClampNeg (v11_m_h.1 ((v11_l1 + (26 : Int32))).toNatClampNeg)), v11_m_h.2) H _ ls h  hP hD hS (lv_sub hl [0, 1] rfl)
    exact L11 FU (0 : Int32) m_h s.heap _ ls h  hP hD hS (lv_sub hl [0, 1] rfl)
theorem dX12_question_0 : decode cX12_question 0 = .ok (.iload_n 1, 1) := by decide +kernel
theorem dX12_question_1 : decode cX12_question 1 = .ok (.aload_n 0, 1) := by decide +kernel
theorem dX12_question_10 : decode cX12_question 10 = .ok (.iadd, 1) := by decide +kernel
theorem dX12_question_11 : decode cX12_question 11 = .ok (.iconst 1, 1) := by decide +kernel
theorem dX12_question_12 : decode cX12_question 12 = .ok (.isub, 1) := by decide +kernel
theorem dX12_question_13 : decode cX12_question 13 = .ok (.aload_n 0, 1) := by decide +kernel
theorem dX12_question_14 : decode cX12_question 14 = .ok (.getfield 299, 3) := by decide +kernel
theorem dX12_question_17 : decode cX12_question 17 = .ok (.getfield 175, 3) := by decide +kernel
theorem dX12_question_2 : decode cX12_question 2 = .ok (.getfield 299, 3) := by decide +kernel
theorem dX12_question_20 : decode cX12_question 20 = .ok (.imul, 1) := by decide +kernel
theorem dX12_question_21 : decode cX12_question 21 = .ok (.iload_n 3, 1) := by decide +kernel
theorem dX12_question_22 : decode cX12_question 22 = .ok (.iadd, 1) := by decide +kernel
theorem dX12_question_23 : decode cX12_question 23 = .ok (.ireturn, 1) := by decide +kernel
theorem dX12_question_5 : decode cX12_question 5 = .ok (.getfield 207, 3) := by decide +kernel
theorem dX12_question_8 : decode cX12_question 8 = .ok (.imul, 1) := by decide +kernel
theorem dX12_question_9 : decode cX12_question 9 = .ok (.iload_n 2, 1) := by decide +kernel
def vfX12_question : List Cond := .code yX12_question cX12_question 4 (some .int) :: ([.fieldLink RX12 299 "HookPierModel" "pier" "LHookPierModel$Pier;"] ++ wsX120 ++ wsX110)
theorem ifX12_question_X12 : ∀ w ∈ wsX120, w ∈ vfX12_question := fun _ h => List.mem_cons_of_mem _ (List.mem_append_left _ (List.mem_append_right _ h))
theorem ifX12_question_X11 : ∀ w ∈ wsX110, w ∈ vfX12_question := fun _ h => List.mem_cons_of_mem _ (List.mem_append_right _ h)
set_option maxHeartbeats 2000000 in
set_option maxRecDepth 100000 in
theorem kfX12_question (l : Launch) (dC : Nat → ClassId) (dI : Nat → Nat → Nat) (a0 : Nat) (k1 : Int32) (k2 : Int32) (k3 : Int32) (a4 : Nat) (uq : Nat → Nat) (kq : Nat → ClassId) (g7 : Value) (g8 : Value) (g9 : Value) (g10 : Value) (g11 : Value) (g12 : Value) (g13 : Value) (g14 : Value) (g15 : Value) (g16 : Value) (g17 : Value) (g18 : Value) (g19 : Value) (g20 : Value) (g21 : Value) (g22 : Value) (g23 : Value) (g24 : Value) (g25 : Value) (g26 : Value) (g27 : Value) (g28 : Value) (g29 : Value) (g30 : Value) (g31 : Value) (g32 : Value) (g33 : Value) (g34 : Value) (g35 : Value) (q_q : TX11_q) (sz : Nat) (out : Int32) (h : f_X12_question k1 k2 k3 q_q = out) : Met l yX12_question vfX12_question ({ frames := 0, cells := 0, slots := 0, locals := 0 }) (PC (dC, dI) [.ref a0, .int k1, .int k2, .int k3] sz ((a0, .inr (9, [g7, g8, g9, .ref a4, g10, g11, g12, g13, g14, g15, g16, g17, g18, g19, g20, g21, g22, g23, g24, g25, g26, g27, g28, g29, g30, g31, g32, g33, g34, g35])) :: bX11 a4 uq kq q_q []) (tX11 kq ([]))) (va_Qi (S := Unit) (fun (r : Int32) _ => r = out) (fun _ t => BC (dC, dI) (va_A ((a0, .inr (9, [g7, g8, g9, .ref a4, g10, g11, g12, g13, g14, g15, g16, g17, g18, g19, g20, g21, g22, g23, g24, g25, g26, g27, g28, g29, g30, g31, g32, g33, g34, g35])) :: bX11 a4 uq kq q_q []) sz) ((a0, .inr (9, [g7, g8, g9, .ref a4, g10, g11, g12, g13, g14, g15, g16, g17, g18, g19, g20, g21, g22, g23, g24, g25, g26, g27, g28, g29, g30, g31, g32, g33, g34, g35])) :: bX11 a4 uq kq q_q []) [] t) (va_A ((a0, .inr (9, [g7, g8, g9, .ref a4, g10, g11, g12, g13, g14, g15, g16, g17, g18, g19, g20, g21, g22, g23, g24, g25, g26, g27, g28, g29, g30, g31, g32, g33, g34, g35])) :: bX11 a4 uq kq q_q []) sz)) 0 0 (va_A ((a0, .inr (9, [g7, g8, g9, .ref a4, g10, g11, g12, g13, g14, g15, g16, g17, g18, g19, g20, g21, g22, g23, g24, g25, g26, g27, g28, g29, g30, g31, g32, g33, g34, g35])) :: bX11 a4 uq kq q_q []) sz) := by
  refine Met.ofW (cc := cX12_question) (maxL := 4) (ret := (some .int)) (by decide) rfl ?_
  intro p e s m args below meth c s₁ B0 hml hv
  obtain ⟨rfl, hsz, hP, hK, hD0, hN⟩ := hv
  have hx := B0.exec
  have hb := B0.bytes
  have hr := B0.returns
  have hts := atoms_spec (ws := vfX12_question) B0.pre
  have hown : s.vm.findClass RX12 = some m.cls := findClass_of_methodNamed B0.named
  have hlocks := B0.notSynchronized
  subst hsz
  have hD := hD0.self (sz := s.heap.size)
  generalize hAe : va_A ((a0, .inr (9, [g7, g8, g9, .ref a4, g10, g11, g12, g13, g14, g15, g16, g17, g18, g19, g20, g21, g22, g23, g24, g25, g26, g27, g28, g29, g30, g31, g32, g33, g34, g35])) :: bX11 a4 uq kq q_q []) s.heap.size = A at hD ⊢
  have hA : ∀ q : Nat, s.heap.size ≤ q → A q := fun q h => by rw [← hAe]; exact Or.inr h
  have hS : va_S A s.heap s.heap [] := va_S.rf
  have hP : va_P (dC, dI) vwCl ((a0, .inr (9, [g7, g8, g9, .ref a4, g10, g11, g12, g13, g14, g15, g16, g17, g18, g19, g20, g21, g22, g23, g24, g25, g26, g27, g28, g29, g30, g31, g32, g33, g34, g35])) :: bX11 a4 uq kq q_q []) s.heap := hP
  have hl := lv_entry ([.ref a0, .int k1, .int k2, .int k3]) (n := 4) (Nat.le_of_ble_eq_true rfl)
  rw [lg_entry_eq]
  generalize (lg_sl ([.ref a0, .int k1, .int k2, .int k3]) ++ List.replicate (4 - (lg_sl ([.ref a0, .int k1, .int k2, .int k3])).length) Slot.unset).toArray = ls at hl ⊢
  have hl : lv_has ls 4 [(0, .ref a0), (1, .int k1), (2, .int k2), (3, .int k3)] := hl
  refine W_q (fun QQ hQQ => ?_)
  rw [f_X12_question] at h
  refine lv_iload_n hx hb dX12_question_0 rfl (lv_at hl 1 rfl) ?_
  refine lv_aload_n hx hb dX12_question_1 rfl (lv_at hl 0 rfl) ?_
  refine va_get (D := (dC, dI)) (ci := 9) (v := .ref a4) (C := RX12) (T := TX12) (N := 30) hx hb hts ifX12_question_X12 hown hK hP 0 rfl rfl 3 (by decide) (hts (.fieldLink RX12 299 "HookPierModel" "pier" "LHookPierModel$Pier;") (List.mem_of_getElem? (i := 1) rfl)) (fun _ h9 => h9) rfl dX12_question_2 ?_
  refine va_getN (D := (dC, dI)) (ci := 8) (v := .int q_q.2.1) (C := RX11) (T := TX11) (N := 24) hx hb hts ifX12_question_X11 hown hK hP 1 rfl rfl 1 (by decide) (va_Nw.use rfl (hN.1 (.fieldLinkNest RX12 207 "HookPierModel$Pier" "deep" "I" "HookPierModel") (List.mem_of_getElem? (i := 23) rfl))) (fun _ h9 => h9) rfl dX12_question_5 ?_
  refine lv_imul hx hb dX12_question_8 ?_
  refine lv_iload_n hx hb dX12_question_9 rfl (lv_at hl 2 rfl) ?_
  refine lv_iadd hx hb dX12_question_10 ?_
  refine lv_iconst (v := 1) hx hb dX12_question_11 (by decide) ?_
  refine lv_isub hx hb dX12_question_12 ?_
  refine lv_aload_n hx hb dX12_question_13 rfl (lv_at hl 0 rfl) ?_
  refine va_get (D := (dC, dI)) (ci := 9) (v := .ref a4) (C := RX12) (T := TX12) (N := 30) hx hb hts ifX12_question_X12 hown hK hP 0 rfl rfl 3 (by decide) (hts (.fieldLink RX12 299 "HookPierModel" "pier" "LHookPierModel$Pier;") (List.mem_of_getElem? (i := 1) rfl)) (fun _ h9 => h9) rfl dX12_question_14 ?_
  refine va_getN (D := (dC, dI)) (ci := 8) (v := .int q_q.2.2.2.2.1) (C := RX11) (T := TX11) (N := 24) hx hb hts ifX12_question_X11 hown hK hP 1 rfl rfl 4 (by decide) (va_Nw.use rfl (hN.1 (.fieldLinkNest RX12 175 "HookPierModel$Pier" "baits" "I" "HookPierModel") (List.mem_of_getElem? (i := 26) rfl))) (fun _ h9 => h9) rfl dX12_question_17 ?_
  refine lv_imul hx hb dX12_question_20 ?_
  refine lv_iload_n hx hb dX12_question_21 rfl (lv_at hl 3 rfl) ?_
  refine lv_iadd hx hb dX12_question_22 ?_
  refine lv_topi (fun z22 ez22 => ?_)
  have h := nm_of h z22 ez22
  obtain rfl := h
  have hP9 := hP.sub (ws' := ((a0, .inr (9, [g7, g8, g9, .ref a4, g10, g11, g12, g13, g14, g15, g16, g17, g18, g19, g20, g21, g22, g23, g24, g25, g26, g27, g28, g29, g30, g31, g32, g33, g34, g35])) :: bX11 a4 uq kq q_q [])) [0, 1, 2, 3, 4, 5, 6, 7, 8, 9, 10, 11, 12, 13, 14, 15] rfl
  have hD9 := hD.sub (ws' := ((a0, .inr (9, [g7, g8, g9, .ref a4, g10, g11, g12, g13, g14, g15, g16, g17, g18, g19, g20, g21, g22, g23, g24, g25, g26, g27, g28, g29, g30, g31, g32, g33, g34, g35])) :: bX11 a4 uq kq q_q [])) [0, 1, 2, 3, 4, 5, 6, 7, 8, 9, 10, 11, 12, 13, 14, 15] (by decide) rfl
  have hK9 := hK.sub (tys' := []) [] rfl
  rw [hQQ]
  exact W.iret (v := z22) hx hb hr (fun t ht hW => ⟨⟨z22, (), rfl, rfl, by rw [ht]; exact hP9, va_K.moved hW.alike hK9, hD9⟩, hS.F ht⟩) hS.2.2 dX12_question_23
theorem dX12_good_0 : decode cX12_good 0 = .ok (.aload_n 0, 1) := by decide +kernel
theorem dX12_good_1 : decode cX12_good 1 = .ok (.iconst 0, 1) := by decide +kernel
theorem dX12_good_10 : decode cX12_good 10 = .ok (.iload_n 1, 1) := by decide +kernel
theorem dX12_good_11 : decode cX12_good 11 = .ok (.ireturn, 1) := by decide +kernel
theorem dX12_good_2 : decode cX12_good 2 = .ok (.putfield 39, 3) := by decide +kernel
theorem dX12_good_5 : decode cX12_good 5 = .ok (.aload_n 0, 1) := by decide +kernel
theorem dX12_good_6 : decode cX12_good 6 = .ok (.iconst (-1), 1) := by decide +kernel
theorem dX12_good_7 : decode cX12_good 7 = .ok (.putfield 9, 3) := by decide +kernel
def vfX12_good : List Cond := .code yX12_good cX12_good 2 (some .int) :: ([.fieldLink RX12 39 "HookPierModel" "trouble" "I", .fieldLink RX12 9 "HookPierModel" "where" "I"] ++ wsX120)
theorem ifX12_good_X12 : ∀ w ∈ wsX120, w ∈ vfX12_good := fun _ h => List.mem_cons_of_mem _ (List.mem_append_right _ h)
set_option maxHeartbeats 2000000 in
set_option maxRecDepth 100000 in
theorem kfX12_good (l : Launch) (dC : Nat → ClassId) (dI : Nat → Nat → Nat) (a0 : Nat) (k1 : Int32) (m_t : TX12_t) (g3 : Value) (g4 : Value) (g5 : Value) (g6 : Value) (g7 : Value) (g8 : Value) (g9 : Value) (g10 : Value) (g11 : Value) (g12 : Value) (g13 : Value) (g14 : Value) (g15 : Value) (g16 : Value) (g17 : Value) (g18 : Value) (g19 : Value) (g20 : Value) (g21 : Value) (g22 : Value) (g23 : Value) (g24 : Value) (g25 : Value) (g26 : Value) (g27 : Value) (g28 : Value) (g29 : Value) (sz : Nat) (out : (Int32 × TX12_t)) (h : f_X12_good k1 m_t = out) : Met l yX12_good vfX12_good ({ frames := 0, cells := 0, slots := 0, locals := 0 }) (PC (dC, dI) [.ref a0, .int k1] sz ([(a0, .inr (9, [.int m_t.1, .int m_t.2.1, .int m_t.2.2, g3, g4, g5, g6, g7, g8, g9, g10, g11, g12, g13, g14, g15, g16, g17, g18, g19, g20, g21, g22, g23, g24, g25, g26, g27, g28, g29]))]) ([])) (va_Qi (S := Unit) (fun (r : Int32) _ => r = out.1) (fun _ t => BC (dC, dI) (va_A ([(a0, .inr (9, [.int m_t.1, .int m_t.2.1, .int m_t.2.2, g3, g4, g5, g6, g7, g8, g9, g10, g11, g12, g13, g14, g15, g16, g17, g18, g19, g20, g21, g22, g23, g24, g25, g26, g27, g28, g29]))]) sz) ([(a0, .inr (9, [.int out.2.1, .int out.2.2.1, .int out.2.2.2, g3, g4, g5, g6, g7, g8, g9, g10, g11, g12, g13, g14, g15, g16, g17, g18, g19, g20, g21, g22, g23, g24, g25, g26, g27, g28, g29]))]) [] t) (va_A ([(a0, .inr (9, [.int m_t.1, .int m_t.2.1, .int m_t.2.2, g3, g4, g5, g6, g7, g8, g9, g10, g11, g12, g13, g14, g15, g16, g17, g18, g19, g20, g21, g22, g23, g24, g25, g26, g27, g28, g29]))]) sz)) 0 0 (va_A ([(a0, .inr (9, [.int m_t.1, .int m_t.2.1, .int m_t.2.2, g3, g4, g5, g6, g7, g8, g9, g10, g11, g12, g13, g14, g15, g16, g17, g18, g19, g20, g21, g22, g23, g24, g25, g26, g27, g28, g29]))]) sz) := by
  refine Met.ofW (cc := cX12_good) (maxL := 2) (ret := (some .int)) (by decide) rfl ?_
  intro p e s m args below meth c s₁ B0 hml hv
  obtain ⟨rfl, hsz, hP, hK, hD0, hN⟩ := hv
  have hx := B0.exec
  have hb := B0.bytes
  have hr := B0.returns
  have hts := atoms_spec (ws := vfX12_good) B0.pre
  have hown : s.vm.findClass RX12 = some m.cls := findClass_of_methodNamed B0.named
  have hlocks := B0.notSynchronized
  subst hsz
  have hD := hD0.self (sz := s.heap.size)
  generalize hAe : va_A ([(a0, .inr (9, [.int m_t.1, .int m_t.2.1, .int m_t.2.2, g3, g4, g5, g6, g7, g8, g9, g10, g11, g12, g13, g14, g15, g16, g17, g18, g19, g20, g21, g22, g23, g24, g25, g26, g27, g28, g29]))]) s.heap.size = A at hD ⊢
  have hA : ∀ q : Nat, s.heap.size ≤ q → A q := fun q h => by rw [← hAe]; exact Or.inr h
  have hS : va_S A s.heap s.heap [] := va_S.rf
  have hP : va_P (dC, dI) vwCl ([(a0, .inr (9, [.int m_t.1, .int m_t.2.1, .int m_t.2.2, g3, g4, g5, g6, g7, g8, g9, g10, g11, g12, g13, g14, g15, g16, g17, g18, g19, g20, g21, g22, g23, g24, g25, g26, g27, g28, g29]))]) s.heap := hP
  have hl := lv_entry ([.ref a0, .int k1]) (n := 2) (Nat.le_of_ble_eq_true rfl)
  rw [lg_entry_eq]
  generalize (lg_sl ([.ref a0, .int k1]) ++ List.replicate (2 - (lg_sl ([.ref a0, .int k1])).length) Slot.unset).toArray = ls at hl ⊢
  have hl : lv_has ls 2 [(0, .ref a0), (1, .int k1)] := hl
  refine W_q (fun QQ hQQ => ?_)
  rw [f_X12_good] at h
  refine lv_aload_n hx hb dX12_good_0 rfl (lv_at hl 0 rfl) ?_
  refine lv_iconst (v := 0) hx hb dX12_good_1 (by decide) ?_
  refine va_put (D := (dC, dI)) (ci := 9) (v := .int 0) (ty := .int) (C := RX12) (T := TX12) (N := 30) hx hb hts ifX12_good_X12 tyX12 tyX12_ok nmX12 hown hK hP hD hS 0 rfl rfl 1 (by decide) (hts (.fieldLink RX12 39 "HookPierModel" "trouble" "I") (List.mem_of_getElem? (i := 1) rfl)) (fun _ h9 => h9) rfl (by decide +kernel) rfl rfl (Nat.le_of_ble_eq_true rfl) dX12_good_2 (fun H locs hP hD hS => ?_)
  have hP : va_P (dC, dI) vwCl ([(a0, .inr (9, [.int m_t.1, .int 0, .int m_t.2.2, g3, g4, g5, g6, g7, g8, g9, g10, g11, g12, g13, g14, g15, g16, g17, g18, g19, g20, g21, g22, g23, g24, g25, g26, g27, g28, g29]))]) H := hP
  have hD : va_D A ([(a0, .inr (9, [.int m_t.1, .int 0, .int m_t.2.2, g3, g4, g5, g6, g7, g8, g9, g10, g11, g12, g13, g14, g15, g16, g17, g18, g19, g20, g21, g22, g23, g24, g25, g26, g27, g28, g29]))]) := hD
  refine lv_aload_n hx hb dX12_good_5 rfl (lv_at hl 0 rfl) ?_
  refine lv_iconst (v := (-1)) hx hb dX12_good_6 (by decide) ?_
  refine va_put (D := (dC, dI)) (ci := 9) (v := .int (-1)) (ty := .int) (C := RX12) (T := TX12) (N := 30) hx hb hts ifX12_good_X12 tyX12 tyX12_ok nmX12 hown hK hP hD hS 0 rfl rfl 2 (by decide) (hts (.fieldLink RX12 9 "HookPierModel" "where" "I") (List.mem_of_getElem? (i := 2) rfl)) (fun _ h9 => h9) rfl (by decide +kernel) rfl rfl (Nat.le_of_ble_eq_true rfl) dX12_good_7 (fun H locs hP hD hS => ?_)
  have hP : va_P (dC, dI) vwCl ([(a0, .inr (9, [.int m_t.1, .int 0, .int (-1), g3, g4, g5, g6, g7, g8, g9, g10, g11, g12, g13, g14, g15, g16, g17, g18, g19, g20, g21, g22, g23, g24, g25, g26, g27, g28, g29]))]) H := hP
  have hD : va_D A ([(a0, .inr (9, [.int m_t.1, .int 0, .int (-1), g3, g4, g5, g6, g7, g8, g9, g10, g11, g12, g13, g14, g15, g16, g17, g18, g19, g20, g21, g22, g23, g24, g25, g26, g27, g28, g29]))]) := hD
  refine lv_iload_n hx hb dX12_good_10 rfl (lv_at hl 1 rfl) ?_
  obtain rfl := h
  have hP9 := hP.sub (ws' := ([(a0, .inr (9, [.int m_t.1, .int 0, .int (-1), g3, g4, g5, g6, g7, g8, g9, g10, g11, g12, g13, g14, g15, g16, g17, g18, g19, g20, g21, g22, g23, g24, g25, g26, g27, g28, g29]))])) [0] rfl
  have hD9 := hD.sub (ws' := ([(a0, .inr (9, [.int m_t.1, .int 0, .int (-1), g3, g4, g5, g6, g7, g8, g9, g10, g11, g12, g13, g14, g15, g16, g17, g18, g19, g20, g21, g22, g23, g24, g25, g26, g27, g28, g29]))])) [0] (by decide) rfl
  have hK9 := hK.sub (tys' := []) [] rfl
  rw [hQQ]
  exact W.iret (v := k1) hx hb hr (fun t ht hW => ⟨⟨k1, (), rfl, rfl, by rw [ht]; exact hP9, va_K.moved hW.alike hK9, hD9⟩, hS.F ht⟩) hS.2.2 dX12_good_11
theorem dX12_granted_0 : decode cX12_granted 0 = .ok (.aload_n 0, 1) := by decide +kernel
theorem dX12_granted_1 : decode cX12_granted 1 = .ok (.iconst 0, 1) := by decide +kernel
theorem dX12_granted_2 : decode cX12_granted 2 = .ok (.invokevirtual 46, 3) := by decide +kernel
theorem dX12_granted_5 : decode cX12_granted 5 = .ok (.pop, 1) := by decide +kernel
theorem dX12_granted_6 : decode cX12_granted 6 = .ok (.iconst 1, 1) := by decide +kernel
theorem dX12_granted_7 : decode cX12_granted 7 = .ok (.ireturn, 1) := by decide +kernel
def vfX12_granted : List Cond := .code yX12_granted cX12_granted 1 (some .boolean) :: ([.methodLink RX12 46 yX12_good, .instanceMethod yX12_good, .selects RX12 yX12_good yX12_good, .initialized RX12, .code yX12_good cX12_good 2 (some .int), .fieldLink RX12 39 "HookPierModel" "trouble" "I", .fieldLink RX12 9 "HookPierModel" "where" "I"] ++ wsX120)
theorem ifX12_granted_X12 : ∀ w ∈ wsX120, w ∈ vfX12_granted := fun _ h => List.mem_cons_of_mem _ (List.mem_append_right _ h)
set_option maxRecDepth 20000 in
theorem gfX12_granted_0 : GoodIn vfX12_granted (wsV RX12 46 RX12 yX12_good vfX12_good) := goodIn_app (goodIn_r [.methodLink RX12 46 yX12_good, .instanceMethod yX12_good, .selects RX12 yX12_good yX12_good, .initialized RX12] [1, 2, 3, 4] (by decide +kernel) (by decide +kernel)) (goodIn_ca (goodIn_r (.code yX12_good cX12_good 2 (some .int) :: [.fieldLink RX12 39 "HookPierModel" "trouble" "I", .fieldLink RX12 9 "HookPierModel" "where" "I"]) [5, 6, 7] (by decide +kernel) (by decide +kernel) : GoodIn vfX12_granted (.code yX12_good cX12_good 2 (some .int) :: [.fieldLink RX12 39 "HookPierModel" "trouble" "I", .fieldLink RX12 9 "HookPierModel" "where" "I"])) (goodIn_sub ifX12_granted_X12 (by decide +kernel)))
set_option maxHeartbeats 2000000 in
set_option maxRecDepth 100000 in
theorem kfX12_granted (l : Launch) (dC : Nat → ClassId) (dI : Nat → Nat → Nat) (a0 : Nat) (m_t : TX12_t) (g2 : Value) (g3 : Value) (g4 : Value) (g5 : Value) (g6 : Value) (g7 : Value) (g8 : Value) (g9 : Value) (g10 : Value) (g11 : Value) (g12 : Value) (g13 : Value) (g14 : Value) (g15 : Value) (g16 : Value) (g17 : Value) (g18 : Value) (g19 : Value) (g20 : Value) (g21 : Value) (g22 : Value) (g23 : Value) (g24 : Value) (g25 : Value) (g26 : Value) (g27 : Value) (g28 : Value) (sz : Nat) (out : TX12_t) (h : f_X12_granted m_t = out) : Met l yX12_granted vfX12_granted ({ frames := 1, cells := 0, slots := 0, locals := 21 }) (PC (dC, dI) [.ref a0] sz ([(a0, .inr (9, [.int m_t.1, .int m_t.2.1, .int m_t.2.2, g2, g3, g4, g5, g6, g7, g8, g9, g10, g11, g12, g13, g14, g15, g16, g17, g18, g19, g20, g21, g22, g23, g24, g25, g26, g27, g28]))]) ([])) (va_Qi (S := Unit) (fun (r : Int32) _ => r = 1 ∧ (0 ≤ r.toInt ∧ r.toInt ≤ 1)) (fun _ t => BC (dC, dI) (va_A ([(a0, .inr (9, [.int m_t.1, .int m_t.2.1, .int m_t.2.2, g2, g3, g4, g5, g6, g7, g8, g9, g10, g11, g12, g13, g14, g15, g16, g17, g18, g19, g20, g21, g22, g23, g24, g25, g26, g27, g28]))]) sz) ([(a0, .inr (9, [.int out.1, .int out.2.1, .int out.2.2, g2, g3, g4, g5, g6, g7, g8, g9, g10, g11, g12, g13, g14, g15, g16, g17, g18, g19, g20, g21, g22, g23, g24, g25, g26, g27, g28]))]) [] t) (va_A ([(a0, .inr (9, [.int m_t.1, .int m_t.2.1, .int m_t.2.2, g2, g3, g4, g5, g6, g7, g8, g9, g10, g11, g12, g13, g14, g15, g16, g17, g18, g19, g20, g21, g22, g23, g24, g25, g26, g27, g28]))]) sz)) 0 0 (va_A ([(a0, .inr (9, [.int m_t.1, .int m_t.2.1, .int m_t.2.2, g2, g3, g4, g5, g6, g7, g8, g9, g10, g11, g12, g13, g14, g15, g16, g17, g18, g19, g20, g21, g22, g23, g24, g25, g26, g27, g28]))]) sz) := by
  refine Met.ofW (cc := cX12_granted) (maxL := 1) (ret := (some .boolean)) (by decide) rfl ?_
  intro p e s m args below meth c s₁ B0 hml hv
  obtain ⟨rfl, hsz, hP, hK, hD0, hN⟩ := hv
  have hx := B0.exec
  have hb := B0.bytes
  have hr := B0.returns
  have hts := atoms_spec (ws := vfX12_granted) B0.pre
  have hown : s.vm.findClass RX12 = some m.cls := findClass_of_methodNamed B0.named
  have hlocks := B0.notSynchronized
  subst hsz
  have hD := hD0.self (sz := s.heap.size)
  generalize hAe : va_A ([(a0, .inr (9, [.int m_t.1, .int m_t.2.1, .int m_t.2.2, g2, g3, g4, g5, g6, g7, g8, g9, g10, g11, g12, g13, g14, g15, g16, g17, g18, g19, g20, g21, g22, g23, g24, g25, g26, g27, g28]))]) s.heap.size = A at hD ⊢
  have hA : ∀ q : Nat, s.heap.size ≤ q → A q := fun q h => by rw [← hAe]; exact Or.inr h
  have hS : va_S A s.heap s.heap [] := va_S.rf
  have hP : va_P (dC, dI) vwCl ([(a0, .inr (9, [.int m_t.1, .int m_t.2.1, .int m_t.2.2, g2, g3, g4, g5, g6, g7, g8, g9, g10, g11, g12, g13, g14, g15, g16, g17, g18, g19, g20, g21, g22, g23, g24, g25, g26, g27, g28]))]) s.heap := hP
  have hl := lv_entry ([.ref a0]) (n := 1) (Nat.le_of_ble_eq_true rfl)
  rw [lg_entry_eq]
  generalize (lg_sl ([.ref a0]) ++ List.replicate (1 - (lg_sl ([.ref a0])).length) Slot.unset).toArray = ls at hl ⊢
  have hl : lv_has ls 1 [(0, .ref a0)] := hl
  refine W_q (fun QQ hQQ => ?_)
  rw [f_X12_granted] at h
  refine lv_aload_n hx hb dX12_granted_0 rfl (lv_at hl 0 rfl) ?_
  refine lv_iconst (v := 0) hx hb dX12_granted_1 (by decide) ?_
  obtain ⟨o2, eo2⟩ : ∃ o, o = f_X12_good (0 : Int32) m_t := ⟨_, rfl⟩
  have h := nm_of h o2 eo2
  refine cl_i (wc := ([(a0, .inr (9, [.int m_t.1, .int m_t.2.1, .int m_t.2.2, g2, g3, g4, g5, g6, g7, g8, g9, g10, g11, g12, g13, g14, g15, g16, g17, g18, g19, g20, g21, g22, g23, g24, g25, g26, g27, g28]))])) (wr := []) (va_runV (As := [.int 0]) (rest := []) ⟨hx, hb, hml, hown, hts⟩ (kfX12_good l dC dI a0 (0 : Int32) m_t (g2) (g3) (g4) (g5) (g6) (g7) (g8) (g9) (g10) (g11) (g12) (g13) (g14) (g15) (g16) (g17) (g18) (g19) (g20) (g21) (g22) (g23) (g24) (g25) (g26) (g27) (g28) s.heap.size o2 eo2.symm) (cwV 1 hts gfX12_granted_0 rfl rfl rfl (by decide +kernel) ⟨(Nat.le_of_ble_eq_true rfl), (Nat.le_of_ble_eq_true rfl)⟩) (PV (hP.sub (ws' := ([(a0, .inr (9, [.int m_t.1, .int m_t.2.1, .int m_t.2.2, g2, g3, g4, g5, g6, g7, g8, g9, g10, g11, g12, g13, g14, g15, g16, g17, g18, g19, g20, g21, g22, g23, g24, g25, g26, g27, g28]))])) [0] rfl) (hK.sub (tys' := ([])) [] rfl) (hD.sub (ws' := ([(a0, .inr (9, [.int m_t.1, .int m_t.2.1, .int m_t.2.2, g2, g3, g4, g5, g6, g7, g8, g9, g10, g11, g12, g13, g14, g15, g16, g17, g18, g19, g20, g21, g22, g23, g24, g25, g26, g27, g28]))])) [0] (by decide) rfl) hN 0 rfl rfl) rfl rfl hl.1 rfl (lv_room (Nat.le_of_ble_eq_true rfl)) dX12_granted_2 ⟨(Nat.le_of_ble_eq_true rfl), (Nat.le_of_ble_eq_true rfl)⟩) hP hD hK hS hA [0] [] rfl rfl (by decide) (by decide) (fun r2 _ H locs hw hP hD _ hS => ?_)
  obtain rfl := hw
  have hP : va_P (dC, dI) vwCl ([(a0, .inr (9, [.int o2.2.1, .int o2.2.2.1, .int o2.2.2.2, g2, g3, g4, g5, g6, g7, g8, g9, g10, g11, g12, g13, g14, g15, g16, g17, g18, g19, g20, g21, g22, g23, g24, g25, g26, g27, g28]))]) H := hP
  have hD : va_D A ([(a0, .inr (9, [.int o2.2.1, .int o2.2.2.1, .int o2.2.2.2, g2, g3, g4, g5, g6, g7, g8, g9, g10, g11, g12, g13, g14, g15, g16, g17, g18, g19, g20, g21, g22, g23, g24, g25, g26, g27, g28]))]) := hD
  refine lv_pop hx hb dX12_granted_5 rfl ?_
  refine lv_iconst (v := 1) hx hb dX12_granted_6 (by decide) ?_
  obtain rfl := h
  have hP9 := hP.sub (ws' := ([(a0, .inr (9, [.int o2.2.1, .int o2.2.2.1, .int o2.2.2.2, g2, g3, g4, g5, g6, g7, g8, g9, g10, g11, g12, g13, g14, g15, g16, g17, g18, g19, g20, g21, g22, g23, g24, g25, g26, g27, g28]))])) [0] rfl
  have hD9 := hD.sub (ws' := ([(a0, .inr (9, [.int o2.2.1, .int o2.2.2.1, .int o2.2.2.2, g2, g3, g4, g5, g6, g7, g8, g9, g10, g11, g12, g13, g14, g15, g16, g17, g18, g19, g20, g21, g22, g23, g24, g25, g26, g27, g28]))])) [0] (by decide) rfl
  have hK9 := hK.sub (tys' := []) [] rfl
  rw [hQQ]
  exact W.zret (v := (1 : Int32)) hx hb hr rfl (fun t ht hW => ⟨⟨(1 : Int32), (), rfl, ⟨rfl, (by decide)⟩, by rw [ht]; exact hP9, va_K.moved hW.alike hK9, hD9⟩, hS.F ht⟩) hS.2.2 dX12_granted_7
theorem dX12_refused_0 : decode cX12_refused 0 = .ok (.aload_n 0, 1) := by decide +kernel
theorem dX12_refused_1 : decode cX12_refused 1 = .ok (.iload_n 1, 1) := by decide +kernel
theorem dX12_refused_10 : decode cX12_refused 10 = .ok (.iconst (-1), 1) := by decide +kernel
theorem dX12_refused_11 : decode cX12_refused 11 = .ok (.ireturn, 1) := by decide +kernel
theorem dX12_refused_2 : decode cX12_refused 2 = .ok (.putfield 39, 3) := by decide +kernel
theorem dX12_refused_5 : decode cX12_refused 5 = .ok (.aload_n 0, 1) := by decide +kernel
theorem dX12_refused_6 : decode cX12_refused 6 = .ok (.iconst (-1), 1) := by decide +kernel
theorem dX12_refused_7 : decode cX12_refused 7 = .ok (.putfield 9, 3) := by decide +kernel
def vfX12_refused : List Cond := .code yX12_refused cX12_refused 2 (some .int) :: ([.fieldLink RX12 39 "HookPierModel" "trouble" "I", .fieldLink RX12 9 "HookPierModel" "where" "I"] ++ wsX120)
theorem ifX12_refused_X12 : ∀ w ∈ wsX120, w ∈ vfX12_refused := fun _ h => List.mem_cons_of_mem _ (List.mem_append_right _ h)
set_option maxHeartbeats 2000000 in
set_option maxRecDepth 100000 in
theorem kfX12_refused (l : Launch) (dC : Nat → ClassId) (dI : Nat → Nat → Nat) (a0 : Nat) (k1 : Int32) (m_t : TX12_t) (g3 : Value) (g4 : Value) (g5 : Value) (g6 : Value) (g7 : Value) (g8 : Value) (g9 : Value) (g10 : Value) (g11 : Value) (g12 : Value) (g13 : Value) (g14 : Value) (g15 : Value) (g16 : Value) (g17 : Value) (g18 : Value) (g19 : Value) (g20 : Value) (g21 : Value) (g22 : Value) (g23 : Value) (g24 : Value) (g25 : Value) (g26 : Value) (g27 : Value) (g28 : Value) (g29 : Value) (sz : Nat) (out : TX12_t) (h : f_X12_refused k1 m_t = out) : Met l yX12_refused vfX12_refused ({ frames := 0, cells := 0, slots := 0, locals := 0 }) (PC (dC, dI) [.ref a0, .int k1] sz ([(a0, .inr (9, [.int m_t.1, .int m_t.2.1, .int m_t.2.2, g3, g4, g5, g6, g7, g8, g9, g10, g11, g12, g13, g14, g15, g16, g17, g18, g19, g20, g21, g22, g23, g24, g25, g26, g27, g28, g29]))]) ([])) (va_Qi (S := Unit) (fun (r : Int32) _ => r = (-1)) (fun _ t => BC (dC, dI) (va_A ([(a0, .inr (9, [.int m_t.1, .int m_t.2.1, .int m_t.2.2, g3, g4, g5, g6, g7, g8, g9, g10, g11, g12, g13, g14, g15, g16, g17, g18, g19, g20, g21, g22, g23, g24, g25, g26, g27, g28, g29]))]) sz) ([(a0, .inr (9, [.int out.1, .int out.2.1, .int out.2.2, g3, g4, g5, g6, g7, g8, g9, g10, g11, g12, g13, g14, g15, g16, g17, g18, g19, g20, g21, g22, g23, g24, g25, g26, g27, g28, g29]))]) [] t) (va_A ([(a0, .inr (9, [.int m_t.1, .int m_t.2.1, .int m_t.2.2, g3, g4, g5, g6, g7, g8, g9, g10, g11, g12, g13, g14, g15, g16, g17, g18, g19, g20, g21, g22, g23, g24, g25, g26, g27, g28, g29]))]) sz)) 0 0 (va_A ([(a0, .inr (9, [.int m_t.1, .int m_t.2.1, .int m_t.2.2, g3, g4, g5, g6, g7, g8, g9, g10, g11, g12, g13, g14, g15, g16, g17, g18, g19, g20, g21, g22, g23, g24, g25, g26, g27, g28, g29]))]) sz) := by
  refine Met.ofW (cc := cX12_refused) (maxL := 2) (ret := (some .int)) (by decide) rfl ?_
  intro p e s m args below meth c s₁ B0 hml hv
  obtain ⟨rfl, hsz, hP, hK, hD0, hN⟩ := hv
  have hx := B0.exec
  have hb := B0.bytes
  have hr := B0.returns
  have hts := atoms_spec (ws := vfX12_refused) B0.pre
  have hown : s.vm.findClass RX12 = some m.cls := findClass_of_methodNamed B0.named
  have hlocks := B0.notSynchronized
  subst hsz
  have hD := hD0.self (sz := s.heap.size)
  generalize hAe : va_A ([(a0, .inr (9, [.int m_t.1, .int m_t.2.1, .int m_t.2.2, g3, g4, g5, g6, g7, g8, g9, g10, g11, g12, g13, g14, g15, g16, g17, g18, g19, g20, g21, g22, g23, g24, g25, g26, g27, g28, g29]))]) s.heap.size = A at hD ⊢
  have hA : ∀ q : Nat, s.heap.size ≤ q → A q := fun q h => by rw [← hAe]; exact Or.inr h
  have hS : va_S A s.heap s.heap [] := va_S.rf
  have hP : va_P (dC, dI) vwCl ([(a0, .inr (9, [.int m_t.1, .int m_t.2.1, .int m_t.2.2, g3, g4, g5, g6, g7, g8, g9, g10, g11, g12, g13, g14, g15, g16, g17, g18, g19, g20, g21, g22, g23, g24, g25, g26, g27, g28, g29]))]) s.heap := hP
  have hl := lv_entry ([.ref a0, .int k1]) (n := 2) (Nat.le_of_ble_eq_true rfl)
  rw [lg_entry_eq]
  generalize (lg_sl ([.ref a0, .int k1]) ++ List.replicate (2 - (lg_sl ([.ref a0, .int k1])).length) Slot.unset).toArray = ls at hl ⊢
  have hl : lv_has ls 2 [(0, .ref a0), (1, .int k1)] := hl
  refine W_q (fun QQ hQQ => ?_)
  rw [f_X12_refused] at h
  refine lv_aload_n hx hb dX12_refused_0 rfl (lv_at hl 0 rfl) ?_
  refine lv_iload_n hx hb dX12_refused_1 rfl (lv_at hl 1 rfl) ?_
  refine va_put (D := (dC, dI)) (ci := 9) (v := .int k1) (ty := .int) (C := RX12) (T := TX12) (N := 30) hx hb hts ifX12_refused_X12 tyX12 tyX12_ok nmX12 hown hK hP hD hS 0 rfl rfl 1 (by decide) (hts (.fieldLink RX12 39 "HookPierModel" "trouble" "I") (List.mem_of_getElem? (i := 1) rfl)) (fun _ h9 => h9) rfl (by decide +kernel) rfl rfl (Nat.le_of_ble_eq_true rfl) dX12_refused_2 (fun H locs hP hD hS => ?_)
  have hP : va_P (dC, dI) vwCl ([(a0, .inr (9, [.int m_t.1, .int k1, .int m_t.2.2, g3, g4, g5, g6, g7, g8, g9, g10, g11, g12, g13, g14, g15, g16, g17, g18, g19, g20, g21, g22, g23, g24, g25, g26, g27, g28, g29]))]) H := hP
  have hD : va_D A ([(a0, .inr (9, [.int m_t.1, .int k1, .int m_t.2.2, g3, g4, g5, g6, g7, g8, g9, g10, g11, g12, g13, g14, g15, g16, g17, g18, g19, g20, g21, g22, g23, g24, g25, g26, g27, g28, g29]))]) := hD
  refine lv_aload_n hx hb dX12_refused_5 rfl (lv_at hl 0 rfl) ?_
  refine lv_iconst (v := (-1)) hx hb dX12_refused_6 (by decide) ?_
  refine va_put (D := (dC, dI)) (ci := 9) (v := .int (-1)) (ty := .int) (C := RX12) (T := TX12) (N := 30) hx hb hts ifX12_refused_X12 tyX12 tyX12_ok nmX12 hown hK hP hD hS 0 rfl rfl 2 (by decide) (hts (.fieldLink RX12 9 "HookPierModel" "where" "I") (List.mem_of_getElem? (i := 2) rfl)) (fun _ h9 => h9) rfl (by decide +kernel) rfl rfl (Nat.le_of_ble_eq_true rfl) dX12_refused_7 (fun H locs hP hD hS => ?_)
  have hP : va_P (dC, dI) vwCl ([(a0, .inr (9, [.int m_t.1, .int k1, .int (-1), g3, g4, g5, g6, g7, g8, g9, g10, g11, g12, g13, g14, g15, g16, g17, g18, g19, g20, g21, g22, g23, g24, g25, g26, g27, g28, g29]))]) H := hP
  have hD : va_D A ([(a0, .inr (9, [.int m_t.1, .int k1, .int (-1), g3, g4, g5, g6, g7, g8, g9, g10, g11, g12, g13, g14, g15, g16, g17, g18, g19, g20, g21, g22, g23, g24, g25, g26, g27, g28, g29]))]) := hD
  refine lv_iconst (v := (-1)) hx hb dX12_refused_10 (by decide) ?_
  obtain rfl := h
  have hP9 := hP.sub (ws' := ([(a0, .inr (9, [.int m_t.1, .int k1, .int (-1), g3, g4, g5, g6, g7, g8, g9, g10, g11, g12, g13, g14, g15, g16, g17, g18, g19, g20, g21, g22, g23, g24, g25, g26, g27, g28, g29]))])) [0] rfl
  have hD9 := hD.sub (ws' := ([(a0, .inr (9, [.int m_t.1, .int k1, .int (-1), g3, g4, g5, g6, g7, g8, g9, g10, g11, g12, g13, g14, g15, g16, g17, g18, g19, g20, g21, g22, g23, g24, g25, g26, g27, g28, g29]))])) [0] (by decide) rfl
  have hK9 := hK.sub (tys' := []) [] rfl
  rw [hQQ]
  exact W.iret (v := (-1 : Int32)) hx hb hr (fun t ht hW => ⟨⟨(-1 : Int32), (), rfl, rfl, by rw [ht]; exact hP9, va_K.moved hW.alike hK9, hD9⟩, hS.F ht⟩) hS.2.2 dX12_refused_11
theorem dX12_denied_0 : decode cX12_denied 0 = .ok (.aload_n 0, 1) := by decide +kernel
theorem dX12_denied_1 : decode cX12_denied 1 = .ok (.iload_n 1, 1) := by decide +kernel
theorem dX12_denied_2 : decode cX12_denied 2 = .ok (.invokevirtual 42, 3) := by decide +kernel
theorem dX12_denied_5 : decode cX12_denied 5 = .ok (.pop, 1) := by decide +kernel
theorem dX12_denied_6 : decode cX12_denied 6 = .ok (.iconst 0, 1) := by decide +kernel
theorem dX12_denied_7 : decode cX12_denied 7 = .ok (.ireturn, 1) := by decide +kernel
def vfX12_denied : List Cond := .code yX12_denied cX12_denied 2 (some .boolean) :: ([.methodLink RX12 42 yX12_refused, .instanceMethod yX12_refused, .selects RX12 yX12_refused yX12_refused, .initialized RX12, .code yX12_refused cX12_refused 2 (some .int), .fieldLink RX12 39 "HookPierModel" "trouble" "I", .fieldLink RX12 9 "HookPierModel" "where" "I"] ++ wsX120)
theorem ifX12_denied_X12 : ∀ w ∈ wsX120, w ∈ vfX12_denied := fun _ h => List.mem_cons_of_mem _ (List.mem_append_right _ h)
set_option maxRecDepth 20000 in
theorem gfX12_denied_0 : GoodIn vfX12_denied (wsV RX12 42 RX12 yX12_refused vfX12_refused) := goodIn_app (goodIn_r [.methodLink RX12 42 yX12_refused, .instanceMethod yX12_refused, .selects RX12 yX12_refused yX12_refused, .initialized RX12] [1, 2, 3, 4] (by decide +kernel) (by decide +kernel)) (goodIn_ca (goodIn_r (.code yX12_refused cX12_refused 2 (some .int) :: [.fieldLink RX12 39 "HookPierModel" "trouble" "I", .fieldLink RX12 9 "HookPierModel" "where" "I"]) [5, 6, 7] (by decide +kernel) (by decide +kernel) : GoodIn vfX12_denied (.code yX12_refused cX12_refused 2 (some .int) :: [.fieldLink RX12 39 "HookPierModel" "trouble" "I", .fieldLink RX12 9 "HookPierModel" "where" "I"])) (goodIn_sub ifX12_denied_X12 (by decide +kernel)))
set_option maxHeartbeats 2000000 in
set_option maxRecDepth 100000 in
theorem kfX12_denied (l : Launch) (dC : Nat → ClassId) (dI : Nat → Nat → Nat) (a0 : Nat) (k1 : Int32) (m_t : TX12_t) (g3 : Value) (g4 : Value) (g5 : Value) (g6 : Value) (g7 : Value) (g8 : Value) (g9 : Value) (g10 : Value) (g11 : Value) (g12 : Value) (g13 : Value) (g14 : Value) (g15 : Value) (g16 : Value) (g17 : Value) (g18 : Value) (g19 : Value) (g20 : Value) (g21 : Value) (g22 : Value) (g23 : Value) (g24 : Value) (g25 : Value) (g26 : Value) (g27 : Value) (g28 : Value) (g29 : Value) (sz : Nat) (out : TX12_t) (h : f_X12_denied k1 m_t = out) : Met l yX12_denied vfX12_denied ({ frames := 1, cells := 0, slots := 0, locals := 21 }) (PC (dC, dI) [.ref a0, .int k1] sz ([(a0, .inr (9, [.int m_t.1, .int m_t.2.1, .int m_t.2.2, g3, g4, g5, g6, g7, g8, g9, g10, g11, g12, g13, g14, g15, g16, g17, g18, g19, g20, g21, g22, g23, g24, g25, g26, g27, g28, g29]))]) ([])) (va_Qi (S := Unit) (fun (r : Int32) _ => r = 0 ∧ (0 ≤ r.toInt ∧ r.toInt ≤ 1)) (fun _ t => BC (dC, dI) (va_A ([(a0, .inr (9, [.int m_t.1, .int m_t.2.1, .int m_t.2.2, g3, g4, g5, g6, g7, g8, g9, g10, g11, g12, g13, g14, g15, g16, g17, g18, g19, g20, g21, g22, g23, g24, g25, g26, g27, g28, g29]))]) sz) ([(a0, .inr (9, [.int out.1, .int out.2.1, .int out.2.2, g3, g4, g5, g6, g7, g8, g9, g10, g11, g12, g13, g14, g15, g16, g17, g18, g19, g20, g21, g22, g23, g24, g25, g26, g27, g28, g29]))]) [] t) (va_A ([(a0, .inr (9, [.int m_t.1, .int m_t.2.1, .int m_t.2.2, g3, g4, g5, g6, g7, g8, g9, g10, g11, g12, g13, g14, g15, g16, g17, g18, g19, g20, g21, g22, g23, g24, g25, g26, g27, g28, g29]))]) sz)) 0 0 (va_A ([(a0, .inr (9, [.int m_t.1, .int m_t.2.1, .int m_t.2.2, g3, g4, g5, g6, g7, g8, g9, g10, g11, g12, g13, g14, g15, g16, g17, g18, g19, g20, g21, g22, g23, g24, g25, g26, g27, g28, g29]))]) sz) := by
  refine Met.ofW (cc := cX12_denied) (maxL := 2) (ret := (some .boolean)) (by decide) rfl ?_
  intro p e s m args below meth c s₁ B0 hml hv
  obtain ⟨rfl, hsz, hP, hK, hD0, hN⟩ := hv
  have hx := B0.exec
  have hb := B0.bytes
  have hr := B0.returns
  have hts := atoms_spec (ws := vfX12_denied) B0.pre
  have hown : s.vm.findClass RX12 = some m.cls := findClass_of_methodNamed B0.named
  have hlocks := B0.notSynchronized
  subst hsz
  have hD := hD0.self (sz := s.heap.size)
  generalize hAe : va_A ([(a0, .inr (9, [.int m_t.1, .int m_t.2.1, .int m_t.2.2, g3, g4, g5, g6, g7, g8, g9, g10, g11, g12, g13, g14, g15, g16, g17, g18, g19, g20, g21, g22, g23, g24, g25, g26, g27, g28, g29]))]) s.heap.size = A at hD ⊢
  have hA : ∀ q : Nat, s.heap.size ≤ q → A q := fun q h => by rw [← hAe]; exact Or.inr h
  have hS : va_S A s.heap s.heap [] := va_S.rf
  have hP : va_P (dC, dI) vwCl ([(a0, .inr (9, [.int m_t.1, .int m_t.2.1, .int m_t.2.2, g3, g4, g5, g6, g7, g8, g9, g10, g11, g12, g13, g14, g15, g16, g17, g18, g19, g20, g21, g22, g23, g24, g25, g26, g27, g28, g29]))]) s.heap := hP
  have hl := lv_entry ([.ref a0, .int k1]) (n := 2) (Nat.le_of_ble_eq_true rfl)
  rw [lg_entry_eq]
  generalize (lg_sl ([.ref a0, .int k1]) ++ List.replicate (2 - (lg_sl ([.ref a0, .int k1])).length) Slot.unset).toArray = ls at hl ⊢
  have hl : lv_has ls 2 [(0, .ref a0), (1, .int k1)] := hl
  refine W_q (fun QQ hQQ => ?_)
  rw [f_X12_denied] at h
  refine lv_aload_n hx hb dX12_denied_0 rfl (lv_at hl 0 rfl) ?_
  refine lv_iload_n hx hb dX12_denied_1 rfl (lv_at hl 1 rfl) ?_
  obtain ⟨o2, eo2⟩ : ∃ o, o = f_X12_refused k1 m_t := ⟨_, rfl⟩
  have h := nm_of h o2 eo2
  refine cl_i (wc := ([(a0, .inr (9, [.int m_t.1, .int m_t.2.1, .int m_t.2.2, g3, g4, g5, g6, g7, g8, g9, g10, g11, g12, g13, g14, g15, g16, g17, g18, g19, g20, g21, g22, g23, g24, g25, g26, g27, g28, g29]))])) (wr := []) (va_runV (As := [.int k1]) (rest := []) ⟨hx, hb, hml, hown, hts⟩ (kfX12_refused l dC dI a0 k1 m_t (g3) (g4) (g5) (g6) (g7) (g8) (g9) (g10) (g11) (g12) (g13) (g14) (g15) (g16) (g17) (g18) (g19) (g20) (g21) (g22) (g23) (g24) (g25) (g26) (g27) (g28) (g29) s.heap.size o2 eo2.symm) (cwV 1 hts gfX12_denied_0 rfl rfl rfl (by decide +kernel) ⟨(Nat.le_of_ble_eq_true rfl), (Nat.le_of_ble_eq_true rfl)⟩) (PV (hP.sub (ws' := ([(a0, .inr (9, [.int m_t.1, .int m_t.2.1, .int m_t.2.2, g3, g4, g5, g6, g7, g8, g9, g10, g11, g12, g13, g14, g15, g16, g17, g18, g19, g20, g21, g22, g23, g24, g25, g26, g27, g28, g29]))])) [0] rfl) (hK.sub (tys' := ([])) [] rfl) (hD.sub (ws' := ([(a0, .inr (9, [.int m_t.1, .int m_t.2.1, .int m_t.2.2, g3, g4, g5, g6, g7, g8, g9, g10, g11, g12, g13, g14, g15, g16, g17, g18, g19, g20, g21, g22, g23, g24, g25, g26, g27, g28, g29]))])) [0] (by decide) rfl) hN 0 rfl rfl) rfl rfl hl.1 rfl (lv_room (Nat.le_of_ble_eq_true rfl)) dX12_denied_2 ⟨(Nat.le_of_ble_eq_true rfl), (Nat.le_of_ble_eq_true rfl)⟩) hP hD hK hS hA [0] [] rfl rfl (by decide) (by decide) (fun r2 _ H locs hw hP hD _ hS => ?_)
  obtain rfl := hw
  have hP : va_P (dC, dI) vwCl ([(a0, .inr (9, [.int o2.1, .int o2.2.1, .int o2.2.2, g3, g4, g5, g6, g7, g8, g9, g10, g11, g12, g13, g14, g15, g16, g17, g18, g19, g20, g21, g22, g23, g24, g25, g26, g27, g28, g29]))]) H := hP
  have hD : va_D A ([(a0, .inr (9, [.int o2.1, .int o2.2.1, .int o2.2.2, g3, g4, g5, g6, g7, g8, g9, g10, g11, g12, g13, g14, g15, g16, g17, g18, g19, g20, g21, g22, g23, g24, g25, g26, g27, g28, g29]))]) := hD
  refine lv_pop hx hb dX12_denied_5 rfl ?_
  refine lv_iconst (v := 0) hx hb dX12_denied_6 (by decide) ?_
  obtain rfl := h
  have hP9 := hP.sub (ws' := ([(a0, .inr (9, [.int o2.1, .int o2.2.1, .int o2.2.2, g3, g4, g5, g6, g7, g8, g9, g10, g11, g12, g13, g14, g15, g16, g17, g18, g19, g20, g21, g22, g23, g24, g25, g26, g27, g28, g29]))])) [0] rfl
  have hD9 := hD.sub (ws' := ([(a0, .inr (9, [.int o2.1, .int o2.2.1, .int o2.2.2, g3, g4, g5, g6, g7, g8, g9, g10, g11, g12, g13, g14, g15, g16, g17, g18, g19, g20, g21, g22, g23, g24, g25, g26, g27, g28, g29]))])) [0] (by decide) rfl
  have hK9 := hK.sub (tys' := []) [] rfl
  rw [hQQ]
  exact W.zret (v := (0 : Int32)) hx hb hr rfl (fun t ht hW => ⟨⟨(0 : Int32), (), rfl, ⟨rfl, (by decide)⟩, by rw [ht]; exact hP9, va_K.moved hW.alike hK9, hD9⟩, hS.F ht⟩) hS.2.2 dX12_denied_7
theorem dX12_let_0 : decode cX12_let 0 = .ok (.aload_n 0, 1) := by decide +kernel
theorem dX12_let_1 : decode cX12_let 1 = .ok (.iconst 0, 1) := by decide +kernel
theorem dX12_let_11 : decode cX12_let 11 = .ok (.iload_n 2, 1) := by decide +kernel
theorem dX12_let_12 : decode cX12_let 12 = .ok (.iload_n 3, 1) := by decide +kernel
theorem dX12_let_13 : decode cX12_let 13 = .ok (.iload 4, 2) := by decide +kernel
theorem dX12_let_15 : decode cX12_let 15 = .ok (.invokevirtual 353, 3) := by decide +kernel
theorem dX12_let_18 : decode cX12_let 18 = .ok (.istore 5, 2) := by decide +kernel
theorem dX12_let_2 : decode cX12_let 2 = .ok (.putfield 36, 3) := by decide +kernel
theorem dX12_let_20 : decode cX12_let 20 = .ok (.iload 5, 2) := by decide +kernel
theorem dX12_let_22 : decode cX12_let 22 = .ok (.ifCond .le 10, 3) := by decide +kernel
theorem dX12_let_25 : decode cX12_let 25 = .ok (.aload_n 0, 1) := by decide +kernel
theorem dX12_let_26 : decode cX12_let 26 = .ok (.iload 5, 2) := by decide +kernel
theorem dX12_let_28 : decode cX12_let 28 = .ok (.invokevirtual 498, 3) := by decide +kernel
theorem dX12_let_31 : decode cX12_let 31 = .ok (.ireturn, 1) := by decide +kernel
theorem dX12_let_32 : decode cX12_let 32 = .ok (.aload_n 0, 1) := by decide +kernel
theorem dX12_let_33 : decode cX12_let 33 = .ok (.getfield 17, 3) := by decide +kernel
theorem dX12_let_36 : decode cX12_let 36 = .ok (.bipush 18, 2) := by decide +kernel
theorem dX12_let_38 : decode cX12_let 38 = .ok (.iload_n 1, 1) := by decide +kernel
theorem dX12_let_39 : decode cX12_let 39 = .ok (.iadd, 1) := by decide +kernel
theorem dX12_let_40 : decode cX12_let 40 = .ok (.iaload, 1) := by decide +kernel
theorem dX12_let_41 : decode cX12_let 41 = .ok (.bipush (-2), 2) := by decide +kernel
theorem dX12_let_43 : decode cX12_let 43 = .ok (.if_icmp .ne 20, 3) := by decide +kernel
theorem dX12_let_46 : decode cX12_let 46 = .ok (.aload_n 0, 1) := by decide +kernel
theorem dX12_let_47 : decode cX12_let 47 = .ok (.getfield 299, 3) := by decide +kernel
theorem dX12_let_5 : decode cX12_let 5 = .ok (.aload_n 0, 1) := by decide +kernel
theorem dX12_let_50 : decode cX12_let 50 = .ok (.aload_n 0, 1) := by decide +kernel
theorem dX12_let_51 : decode cX12_let 51 = .ok (.getfield 17, 3) := by decide +kernel
theorem dX12_let_54 : decode cX12_let 54 = .ok (.bipush 23, 2) := by decide +kernel
theorem dX12_let_56 : decode cX12_let 56 = .ok (.iaload, 1) := by decide +kernel
theorem dX12_let_57 : decode cX12_let 57 = .ok (.invokevirtual 341, 3) := by decide +kernel
theorem dX12_let_6 : decode cX12_let 6 = .ok (.aload_n 0, 1) := by decide +kernel
theorem dX12_let_60 : decode cX12_let 60 = .ok (.ifCond .eq 9, 3) := by decide +kernel
theorem dX12_let_63 : decode cX12_let 63 = .ok (.aload_n 0, 1) := by decide +kernel
theorem dX12_let_64 : decode cX12_let 64 = .ok (.iconst 5, 1) := by decide +kernel
theorem dX12_let_65 : decode cX12_let 65 = .ok (.invokevirtual 498, 3) := by decide +kernel
theorem dX12_let_68 : decode cX12_let 68 = .ok (.ireturn, 1) := by decide +kernel
theorem dX12_let_69 : decode cX12_let 69 = .ok (.aload_n 0, 1) := by decide +kernel
theorem dX12_let_7 : decode cX12_let 7 = .ok (.iload_n 1, 1) := by decide +kernel
theorem dX12_let_70 : decode cX12_let 70 = .ok (.invokevirtual 501, 3) := by decide +kernel
theorem dX12_let_73 : decode cX12_let 73 = .ok (.aload_n 0, 1) := by decide +kernel
theorem dX12_let_74 : decode cX12_let 74 = .ok (.getfield 17, 3) := by decide +kernel
theorem dX12_let_77 : decode cX12_let 77 = .ok (.bipush 18, 2) := by decide +kernel
theorem dX12_let_79 : decode cX12_let 79 = .ok (.iload_n 1, 1) := by decide +kernel
theorem dX12_let_8 : decode cX12_let 8 = .ok (.invokevirtual 334, 3) := by decide +kernel
theorem dX12_let_80 : decode cX12_let 80 = .ok (.iadd, 1) := by decide +kernel
theorem dX12_let_81 : decode cX12_let 81 = .ok (.aload_n 0, 1) := by decide +kernel
theorem dX12_let_82 : decode cX12_let 82 = .ok (.iload_n 2, 1) := by decide +kernel
theorem dX12_let_83 : decode cX12_let 83 = .ok (.iload_n 3, 1) := by decide +kernel
theorem dX12_let_84 : decode cX12_let 84 = .ok (.iload 4, 2) := by decide +kernel
theorem dX12_let_86 : decode cX12_let 86 = .ok (.invokevirtual 357, 3) := by decide +kernel
theorem dX12_let_89 : decode cX12_let 89 = .ok (.iastore, 1) := by decide +kernel
theorem dX12_let_90 : decode cX12_let 90 = .ok (.aload_n 0, 1) := by decide +kernel
theorem dX12_let_91 : decode cX12_let 91 = .ok (.invokevirtual 504, 3) := by decide +kernel
theorem dX12_let_94 : decode cX12_let 94 = .ok (.ireturn, 1) := by decide +kernel
def vfX12_let : List Cond := .code yX12_let cX12_let 6 (some .boolean) :: ([.fieldLink RX12 36 "HookPierModel" "thrown" "I", .methodLink RX12 334 yX12_isAsker, .instanceMethod yX12_isAsker, .selects RX12 yX12_isAsker yX12_isAsker, .initialized RX12, .code yX12_isAsker cX12_isAsker 2 (some .boolean), .fieldLink RX12 299 "HookPierModel" "pier" "LHookPierModel$Pier;", .methodLink RX12 353 yX12_refusesQuestion, .instanceMethod yX12_refusesQuestion, .selects RX12 yX12_refusesQuestion yX12_refusesQuestion, .code yX12_refusesQuestion cX12_refusesQuestion 5 (some .int), .methodLink RX12 115 yX12_in, .static yX12_in, .code yX12_in cX12_in 3 (some .boolean), .fieldLink RX12 17 "HookPierModel" "v" "[I", .methodLink RX12 498 yX12_denied, .instanceMethod yX12_denied, .selects RX12 yX12_denied yX12_denied, .code yX12_denied cX12_denied 2 (some .boolean), .methodLink RX12 42 yX12_refused, .instanceMethod yX12_refused, .selects RX12 yX12_refused yX12_refused, .code yX12_refused cX12_refused 2 (some .int), .fieldLink RX12 39 "HookPierModel" "trouble" "I", .fieldLink RX12 9 "HookPierModel" "where" "I", .methodLink RX12 341 yX11_isClose, .instanceMethod yX11_isClose, .selects RX11 yX11_isClose yX11_isClose, .initialized RX11, .code yX11_isClose cX11_isClose 2 (some .boolean), .fieldLink RX11 81 "HookPierModel$Pier" "from" "I", .fieldLink RX11 84 "HookPierModel$Pier" "to" "I", .methodLink RX12 501 yX12_remembers, .instanceMethod yX12_remembers, .selects RX12 yX12_remembers yX12_remembers, .code yX12_remembers cX12_remembers 2 none, .fieldLink RX12 301 "HookPierModel" "acts" "I", .fieldLink RX12 24 "HookPierModel" "past" "[I", .methodLink RX12 357 yX12_question, .instanceMethod yX12_question, .selects RX12 yX12_question yX12_question, .code yX12_question cX12_question 4 (some .int), .methodLink RX12 504 yX12_granted, .instanceMethod yX12_granted, .selects RX12 yX12_granted yX12_granted, .code yX12_granted cX12_granted 1 (some .boolean), .methodLink RX12 46 yX12_good, .instanceMethod yX12_good, .selects RX12 yX12_good yX12_good, .code yX12_good cX12_good 2 (some .int)] ++ wsX120 ++ wsX110)
theorem ifX12_let_X12 : ∀ w ∈ wsX120, w ∈ vfX12_let := fun _ h => List.mem_cons_of_mem _ (List.mem_append_left _ (List.mem_append_right _ h))
theorem ifX12_let_X11 : ∀ w ∈ wsX110, w ∈ vfX12_let := fun _ h => List.mem_cons_of_mem _ (List.mem_append_right _ h)
set_option maxRecDepth 20000 in
theorem gfX12_let_0 : GoodIn vfX12_let (wsV RX12 334 RX12 yX12_isAsker vfX12_isAsker) := goodIn_app (goodIn_r [.methodLink RX12 334 yX12_isAsker, .instanceMethod yX12_isAsker, .selects RX12 yX12_isAsker yX12_isAsker, .initialized RX12] [2, 3, 4, 5] (by decide +kernel) (by decide +kernel)) (goodIn_ca (goodIn_ca (goodIn_r (.code yX12_isAsker cX12_isAsker 2 (some .boolean) :: [.fieldLink RX12 299 "HookPierModel" "pier" "LHookPierModel$Pier;"]) [6, 7] (by decide +kernel) (by decide +kernel) : GoodIn vfX12_let (.code yX12_isAsker cX12_isAsker 2 (some .boolean) :: [.fieldLink RX12 299 "HookPierModel" "pier" "LHookPierModel$Pier;"])) (goodIn_sub ifX12_let_X12 (by decide +kernel))) (goodIn_sub ifX12_let_X11 (by decide +kernel)))
set_option maxRecDepth 20000 in
theorem gfX12_let_1 : GoodIn vfX12_let (wsV RX12 353 RX12 yX12_refusesQuestion vfX12_refusesQuestion) := goodIn_app (goodIn_r [.methodLink RX12 353 yX12_refusesQuestion, .instanceMethod yX12_refusesQuestion, .selects RX12 yX12_refusesQuestion yX12_refusesQuestion, .initialized RX12] [8, 9, 10, 5] (by decide +kernel) (by decide +kernel)) (goodIn_ca (goodIn_ca (goodIn_r (.code yX12_refusesQuestion cX12_refusesQuestion 5 (some .int) :: [.fieldLink RX12 299 "HookPierModel" "pier" "LHookPierModel$Pier;", .methodLink RX12 115 yX12_in, .static yX12_in, .initialized RX12, .code yX12_in cX12_in 3 (some .boolean)]) [11, 7, 12, 13, 5, 14] (by decide +kernel) (by decide +kernel) : GoodIn vfX12_let (.code yX12_refusesQuestion cX12_refusesQuestion 5 (some .int) :: [.fieldLink RX12 299 "HookPierModel" "pier" "LHookPierModel$Pier;", .methodLink RX12 115 yX12_in, .static yX12_in, .initialized RX12, .code yX12_in cX12_in 3 (some .boolean)])) (goodIn_sub ifX12_let_X12 (by decide +kernel))) (goodIn_sub ifX12_let_X11 (by decide +kernel)))
set_option maxRecDepth 20000 in
theorem gfX12_let_2 : GoodIn vfX12_let (wsV RX12 498 RX12 yX12_denied vfX12_denied) := goodIn_app (goodIn_r [.methodLink RX12 498 yX12_denied, .instanceMethod yX12_denied, .selects RX12 yX12_denied yX12_denied, .initialized RX12] [16, 17, 18, 5] (by decide +kernel) (by decide +kernel)) (goodIn_ca (goodIn_r (.code yX12_denied cX12_denied 2 (some .boolean) :: [.methodLink RX12 42 yX12_refused, .instanceMethod yX12_refused, .selects RX12 yX12_refused yX12_refused, .initialized RX12, .code yX12_refused cX12_refused 2 (some .int), .fieldLink RX12 39 "HookPierModel" "trouble" "I", .fieldLink RX12 9 "HookPierModel" "where" "I"]) [19, 20, 21, 22, 5, 23, 24, 25] (by decide +kernel) (by decide +kernel) : GoodIn vfX12_let (.code yX12_denied cX12_denied 2 (some .boolean) :: [.methodLink RX12 42 yX12_refused, .instanceMethod yX12_refused, .selects RX12 yX12_refused yX12_refused, .initialized RX12, .code yX12_refused cX12_refused 2 (some .int), .fieldLink RX12 39 "HookPierModel" "trouble" "I", .fieldLink RX12 9 "HookPierModel" "where" "I"])) (goodIn_sub ifX12_let_X12 (by decide +kernel)))
set_option maxRecDepth 20000 in
theorem gfX12_let_3 : GoodIn vfX12_let (wsV RX12 341 RX11 yX11_isClose vfX11_isClose) := goodIn_app (goodIn_r [.methodLink RX12 341 yX11_isClose, .instanceMethod yX11_isClose, .selects RX11 yX11_isClose yX11_isClose, .initialized RX11] [26, 27, 28, 29] (by decide +kernel) (by decide +kernel)) (goodIn_ca (goodIn_r (.code yX11_isClose cX11_isClose 2 (some .boolean) :: [.fieldLink RX11 81 "HookPierModel$Pier" "from" "I", .fieldLink RX11 84 "HookPierModel$Pier" "to" "I"]) [30, 31, 32] (by decide +kernel) (by decide +kernel) : GoodIn vfX12_let (.code yX11_isClose cX11_isClose 2 (some .boolean) :: [.fieldLink RX11 81 "HookPierModel$Pier" "from" "I", .fieldLink RX11 84 "HookPierModel$Pier" "to" "I"])) (goodIn_sub ifX12_let_X11 (by decide +kernel)))
set_option maxRecDepth 20000 in
theorem gfX12_let_4 : GoodIn vfX12_let (wsV RX12 501 RX12 yX12_remembers vfX12_remembers) := goodIn_app (goodIn_r [.methodLink RX12 501 yX12_remembers, .instanceMethod yX12_remembers, .selects RX12 yX12_remembers yX12_remembers, .initialized RX12] [33, 34, 35, 5] (by decide +kernel) (by decide +kernel)) (goodIn_ca (goodIn_r (.code yX12_remembers cX12_remembers 2 none :: [.fieldLink RX12 301 "HookPierModel" "acts" "I", .fieldLink RX12 24 "HookPierModel" "past" "[I", .fieldLink RX12 17 "HookPierModel" "v" "[I"]) [36, 37, 38, 15] (by decide +kernel) (by decide +kernel) : GoodIn vfX12_let (.code yX12_remembers cX12_remembers 2 none :: [.fieldLink RX12 301 "HookPierModel" "acts" "I", .fieldLink RX12 24 "HookPierModel" "past" "[I", .fieldLink RX12 17 "HookPierModel" "v" "[I"])) (goodIn_sub ifX12_let_X12 (by decide +kernel)))
set_option maxRecDepth 20000 in
theorem gfX12_let_5 : GoodIn vfX12_let (wsV RX12 357 RX12 yX12_question vfX12_question) := goodIn_app (goodIn_r [.methodLink RX12 357 yX12_question, .instanceMethod yX12_question, .selects RX12 yX12_question yX12_question, .initialized RX12] [39, 40, 41, 5] (by decide +kernel) (by decide +kernel)) (goodIn_ca (goodIn_ca (goodIn_r (.code yX12_question cX12_question 4 (some .int) :: [.fieldLink RX12 299 "HookPierModel" "pier" "LHookPierModel$Pier;"]) [42, 7] (by decide +kernel) (by decide +kernel) : GoodIn vfX12_let (.code yX12_question cX12_question 4 (some .int) :: [.fieldLink RX12 299 "HookPierModel" "pier" "LHookPierModel$Pier;"])) (goodIn_sub ifX12_let_X12 (by decide +kernel))) (goodIn_sub ifX12_let_X11 (by decide +kernel)))
set_option maxRecDepth 20000 in
theorem gfX12_let_6 : GoodIn vfX12_let (wsV RX12 504 RX12 yX12_granted vfX12_granted) := goodIn_app (goodIn_r [.methodLink RX12 504 yX12_granted, .instanceMethod yX12_granted, .selects RX12 yX12_granted yX12_granted, .initialized RX12] [43, 44, 45, 5] (by decide +kernel) (by decide +kernel)) (goodIn_ca (goodIn_r (.code yX12_granted cX12_granted 1 (some .boolean) :: [.methodLink RX12 46 yX12_good, .instanceMethod yX12_good, .selects RX12 yX12_good yX12_good, .initialized RX12, .code yX12_good cX12_good 2 (some .int), .fieldLink RX12 39 "HookPierModel" "trouble" "I", .fieldLink RX12 9 "HookPierModel" "where" "I"]) [46, 47, 48, 49, 5, 50, 24, 25] (by decide +kernel) (by decide +kernel) : GoodIn vfX12_let (.code yX12_granted cX12_granted 1 (some .boolean) :: [.methodLink RX12 46 yX12_good, .instanceMethod yX12_good, .selects RX12 yX12_good yX12_good, .initialized RX12, .code yX12_good cX12_good 2 (some .int), .fieldLink RX12 39 "HookPierModel" "trouble" "I", .fieldLink RX12 9 "HookPierModel" "where" "I"])) (goodIn_sub ifX12_let_X12 (by decide +kernel)))
set_option maxHeartbeats 2000000 in
set_option maxRecDepth 100000 in
theorem kfX12_let (l : Launch) (dC : Nat → ClassId) (dI : Nat → Nat → Nat) (a0 : Nat) (k1 : Int32) (k2 : Int32) (k3 : Int32) (k4 : Int32) (a5 : Nat) (a6 : Nat) (a7 : Nat) (a8 : Nat) (uq : Nat → Nat) (kq : Nat → ClassId) (m_t : TX12_t) (m_v : TX12_v) (m_h : TX12_h) (g14 : Value) (g15 : Value) (g16 : Value) (g17 : Value) (g18 : Value) (g19 : Value) (g20 : Value) (g21 : Value) (g22 : Value) (g23 : Value) (g24 : Value) (g25 : Value) (g26 : Value) (g27 : Value) (g28 : Value) (g29 : Value) (g30 : Value) (g31 : Value) (g32 : Value) (g33 : Value) (g34 : Value) (q_q : TX11_q) (cB36 : ClassId) (cB37 : ClassId) (cB38 : ClassId) (sz : Nat) (out : (Int32 × TX12_t × TX12_v × TX12_h)) (h : f_X12_let k1 k2 k3 k4 m_t m_v m_h q_q = some out) : Met l yX12_let vfX12_let ({ frames := 2, cells := 0, slots := 0, locals := 46 }) (PC (dC, dI) [.ref a0, .int k1, .int k2, .int k3, .int k4] sz ((a0, .inr (9, [.int m_t.1, .int m_t.2.1, .int m_t.2.2, .ref a5, g14, g15, g16, g17, g18, g19, g20, g21, g22, g23, g24, .ref a6, g25, .ref a7, .ref a8, .int m_h.2.2.1, .int m_h.2.2.2, g26, g27, g28, g29, g30, g31, g32, g33, g34])) :: bX11 a5 uq kq q_q ([(a6, .inl (cB36, 26, .inl m_v)), (a7, .inl (cB37, 416, .inl m_h.1)), (a8, .inl (cB38, 78, .inl m_h.2.1))])) (tX11 kq ((cB36, .int) :: (cB37, .int) :: (cB38, .int) :: []))) (va_Qi (S := Unit) (fun (r : Int32) _ => r = out.1 ∧ (0 ≤ r.toInt ∧ r.toInt ≤ 1)) (fun _ t => BC (dC, dI) (va_A ((a0, .inr (9, [.int m_t.1, .int m_t.2.1, .int m_t.2.2, .ref a5, g14, g15, g16, g17, g18, g19, g20, g21, g22, g23, g24, .ref a6, g25, .ref a7, .ref a8, .int m_h.2.2.1, .int m_h.2.2.2, g26, g27, g28, g29, g30, g31, g32, g33, g34])) :: bX11 a5 uq kq q_q ([(a6, .inl (cB36, 26, .inl m_v)), (a7, .inl (cB37, 416, .inl m_h.1)), (a8, .inl (cB38, 78, .inl m_h.2.1))])) sz) ((a0, .inr (9, [.int out.2.1.1, .int out.2.1.2.1, .int out.2.1.2.2, .ref a5, g14, g15, g16, g17, g18, g19, g20, g21, g22, g23, g24, .ref a6, g25, .ref a7, .ref a8, .int out.2.2.2.2.2.1, .int out.2.2.2.2.2.2, g26, g27, g28, g29, g30, g31, g32, g33, g34])) :: bX11 a5 uq kq q_q ([(a6, .inl (cB36, 26, .inl out.2.2.1)), (a7, .inl (cB37, 416, .inl out.2.2.2.1)), (a8, .inl (cB38, 78, .inl out.2.2.2.2.1))])) [] t) (va_A ((a0, .inr (9, [.int m_t.1, .int m_t.2.1, .int m_t.2.2, .ref a5, g14, g15, g16, g17, g18, g19, g20, g21, g22, g23, g24, .ref a6, g25, .ref a7, .ref a8, .int m_h.2.2.1, .int m_h.2.2.2, g26, g27, g28, g29, g30, g31, g32, g33, g34])) :: bX11 a5 uq kq q_q ([(a6, .inl (cB36, 26, .inl m_v)), (a7, .inl (cB37, 416, .inl m_h.1)), (a8, .inl (cB38, 78, .inl m_h.2.1))])) sz)) 0 0 (va_A ((a0, .inr (9, [.int m_t.1, .int m_t.2.1, .int m_t.2.2, .ref a5, g14, g15, g16, g17, g18, g19, g20, g21, g22, g23, g24, .ref a6, g25, .ref a7, .ref a8, .int m_h.2.2.1, .int m_h.2.2.2, g26, g27, g28, g29, g30, g31, g32, g33, g34])) :: bX11 a5 uq kq q_q ([(a6, .inl (cB36, 26, .inl m_v)), (a7, .inl (cB37, 416, .inl m_h.1)), (a8, .inl (cB38, 78, .inl m_h.2.1))])) sz) := by
  refine Met.ofW (cc := cX12_let) (maxL := 6) (ret := (some .boolean)) (by decide) rfl ?_
  intro p e s m args below meth c s₁ B0 hml hv
  obtain ⟨rfl, hsz, hP, hK, hD0, hN⟩ := hv
  have hx := B0.exec
  have hb := B0.bytes
  have hr := B0.returns
  have hts := atoms_spec (ws := vfX12_let) B0.pre
  have hown : s.vm.findClass RX12 = some m.cls := findClass_of_methodNamed B0.named
  have hlocks := B0.notSynchronized
  subst hsz
  have hD := hD0.self (sz := s.heap.size)
  generalize hAe : va_A ((a0, .inr (9, [.int m_t.1, .int m_t.2.1, .int m_t.2.2, .ref a5, g14, g15, g16, g17, g18, g19, g20, g21, g22, g23, g24, .ref a6, g25, .ref a7, .ref a8, .int m_h.2.2.1, .int m_h.2.2.2, g26, g27, g28, g29, g30, g31, g32, g33, g34])) :: bX11 a5 uq kq q_q ([(a6, .inl (cB36, 26, .inl m_v)), (a7, .inl (cB37, 416, .inl m_h.1)), (a8, .inl (cB38, 78, .inl m_h.2.1))])) s.heap.size = A at hD ⊢
  have hA : ∀ q : Nat, s.heap.size ≤ q → A q := fun q h => by rw [← hAe]; exact Or.inr h
  have hS : va_S A s.heap s.heap [] := va_S.rf
  have hP : va_P (dC, dI) vwCl ((a0, .inr (9, [.int m_t.1, .int m_t.2.1, .int m_t.2.2, .ref a5, g14, g15, g16, g17, g18, g19, g20, g21, g22, g23, g24, .ref a6, g25, .ref a7, .ref a8, .int m_h.2.2.1, .int m_h.2.2.2, g26, g27, g28, g29, g30, g31, g32, g33, g34])) :: bX11 a5 uq kq q_q ([(a6, .inl (cB36, 26, .inl m_v)), (a7, .inl (cB37, 416, .inl m_h.1)), (a8, .inl (cB38, 78, .inl m_h.2.1))])) s.heap := hP
  have hl := lv_entry ([.ref a0, .int k1, .int k2, .int k3, .int k4]) (n := 6) (Nat.le_of_ble_eq_true rfl)
  rw [lg_entry_eq]
  generalize (lg_sl ([.ref a0, .int k1, .int k2, .int k3, .int k4]) ++ List.replicate (6 - (lg_sl ([.ref a0, .int k1, .int k2, .int k3, .int k4])).length) Slot.unset).toArray = ls at hl ⊢
  have hl : lv_has ls 6 [(0, .ref a0), (1, .int k1), (2, .int k2), (3, .int k3), (4, .int k4)] := hl
  refine W_q (fun QQ hQQ => ?_)
  rw [f_X12_let] at h
  refine lv_aload_n hx hb dX12_let_0 rfl (lv_at hl 0 rfl) ?_
  refine lv_iconst (v := 0) hx hb dX12_let_1 (by decide) ?_
  refine va_put (D := (dC, dI)) (ci := 9) (v := .int 0) (ty := .int) (C := RX12) (T := TX12) (N := 30) hx hb hts ifX12_let_X12 tyX12 tyX12_ok nmX12 hown hK hP hD hS 0 rfl rfl 0 (by decide) (hts (.fieldLink RX12 36 "HookPierModel" "thrown" "I") (List.mem_of_getElem? (i := 1) rfl)) (fun _ h9 => h9) rfl (by decide +kernel) rfl rfl (Nat.le_of_ble_eq_true rfl) dX12_let_2 (fun H locs hP hD hS => ?_)
  have hP : va_P (dC, dI) vwCl ((a0, .inr (9, [.int 0, .int m_t.2.1, .int m_t.2.2, .ref a5, g14, g15, g16, g17, g18, g19, g20, g21, g22, g23, g24, .ref a6, g25, .ref a7, .ref a8, .int m_h.2.2.1, .int m_h.2.2.2, g26, g27, g28, g29, g30, g31, g32, g33, g34])) :: bX11 a5 uq kq q_q ([(a6, .inl (cB36, 26, .inl m_v)), (a7, .inl (cB37, 416, .inl m_h.1)), (a8, .inl (cB38, 78, .inl m_h.2.1))])) H := hP
  have hD : va_D A ((a0, .inr (9, [.int 0, .int m_t.2.1, .int m_t.2.2, .ref a5, g14, g15, g16, g17, g18, g19, g20, g21, g22, g23, g24, .ref a6, g25, .ref a7, .ref a8, .int m_h.2.2.1, .int m_h.2.2.2, g26, g27, g28, g29, g30, g31, g32, g33, g34])) :: bX11 a5 uq kq q_q ([(a6, .inl (cB36, 26, .inl m_v)), (a7, .inl (cB37, 416, .inl m_h.1)), (a8, .inl (cB38, 78, .inl m_h.2.1))])) := hD
  refine lv_aload_n hx hb dX12_let_5 rfl (lv_at hl 0 rfl) ?_
  refine lv_aload_n hx hb dX12_let_6 rfl (lv_at hl 0 rfl) ?_
  refine lv_iload_n hx hb dX12_let_7 rfl (lv_at hl 1 rfl) ?_
  obtain ⟨o8, eo8⟩ : ∃ o, o = f_X12_isAsker k1 q_q := ⟨_, rfl⟩
  have h := nm_of h o8 eo8
  refine cl_i (wc := ((a0, .inr (9, [.int 0, .int m_t.2.1, .int m_t.2.2, .ref a5, g14, g15, g16, g17, g18, g19, g20, g21, g22, g23, g24, .ref a6, g25, .ref a7, .ref a8, .int m_h.2.2.1, .int m_h.2.2.2, g26, g27, g28, g29, g30, g31, g32, g33, g34])) :: bX11 a5 uq kq q_q [])) (wr := ([(a6, .inl (cB36, 26, .inl m_v)), (a7, .inl (cB37, 416, .inl m_h.1)), (a8, .inl (cB38, 78, .inl m_h.2.1))])) (va_runV (As := [.int k1]) (rest := [.ref a0]) ⟨hx, hb, hml, hown, hts⟩ (kfX12_isAsker l dC dI a0 k1 a5 uq kq (.int 0) (.int m_t.2.1) (.int m_t.2.2) (g14) (g15) (g16) (g17) (g18) (g19) (g20) (g21) (g22) (g23) (g24) (.ref a6) (g25) (.ref a7) (.ref a8) (.int m_h.2.2.1) (.int m_h.2.2.2) (g26) (g27) (g28) (g29) (g30) (g31) (g32) (g33) (g34) q_q H.size o8 eo8.symm) (cwV 1 hts gfX12_let_0 rfl rfl rfl (by decide +kernel) ⟨(Nat.le_of_ble_eq_true rfl), (Nat.le_of_ble_eq_true rfl)⟩) (PV (hP.sub (ws' := ((a0, .inr (9, [.int 0, .int m_t.2.1, .int m_t.2.2, .ref a5, g14, g15, g16, g17, g18, g19, g20, g21, g22, g23, g24, .ref a6, g25, .ref a7, .ref a8, .int m_h.2.2.1, .int m_h.2.2.2, g26, g27, g28, g29, g30, g31, g32, g33, g34])) :: bX11 a5 uq kq q_q [])) [0, 1, 2, 3, 4, 5, 6, 7, 8, 9, 10, 11, 12, 13, 14, 15] rfl) (hK.sub (tys' := (tX11 kq ([]))) [0, 1, 2, 3, 4, 5, 6, 7, 8, 9, 10, 11, 12, 13] rfl) (hD.sub (ws' := ((a0, .inr (9, [.int 0, .int m_t.2.1, .int m_t.2.2, .ref a5, g14, g15, g16, g17, g18, g19, g20, g21, g22, g23, g24, .ref a6, g25, .ref a7, .ref a8, .int m_h.2.2.1, .int m_h.2.2.2, g26, g27, g28, g29, g30, g31, g32, g33, g34])) :: bX11 a5 uq kq q_q [])) [0, 1, 2, 3, 4, 5, 6, 7, 8, 9, 10, 11, 12, 13, 14, 15] (by decide) rfl) hN 0 rfl rfl) rfl rfl hl.1 rfl (lv_room (Nat.le_of_ble_eq_true rfl)) dX12_let_8 ⟨(Nat.le_of_ble_eq_true rfl), (Nat.le_of_ble_eq_true rfl)⟩) hP hD hK hS hA [0, 1, 2, 3, 4, 5, 6, 7, 8, 9, 10, 11, 12, 13, 14, 15] [16, 17, 18] rfl rfl (by decide) (by decide) (fun r8 _ H locs hw hP hD _ hS => ?_)
  obtain ⟨hw, br8⟩ := hw
  obtain rfl := hw.symm
  have hP : va_P (dC, dI) vwCl ((a6, .inl (cB36, 26, .inl m_v)) :: (a7, .inl (cB37, 416, .inl m_h.1)) :: (a8, .inl (cB38, 78, .inl m_h.2.1)) :: (a0, .inr (9, [.int 0, .int m_t.2.1, .int m_t.2.2, .ref a5, g14, g15, g16, g17, g18, g19, g20, g21, g22, g23, g24, .ref a6, g25, .ref a7, .ref a8, .int m_h.2.2.1, .int m_h.2.2.2, g26, g27, g28, g29, g30, g31, g32, g33, g34])) :: bX11 a5 uq kq q_q []) H := hP
  have hD : va_D A ((a6, .inl (cB36, 26, .inl m_v)) :: (a7, .inl (cB37, 416, .inl m_h.1)) :: (a8, .inl (cB38, 78, .inl m_h.2.1)) :: (a0, .inr (9, [.int 0, .int m_t.2.1, .int m_t.2.2, .ref a5, g14, g15, g16, g17, g18, g19, g20, g21, g22, g23, g24, .ref a6, g25, .ref a7, .ref a8, .int m_h.2.2.1, .int m_h.2.2.2, g26, g27, g28, g29, g30, g31, g32, g33, g34])) :: bX11 a5 uq kq q_q []) := hD
  refine lv_iload_n hx hb dX12_let_11 rfl (lv_at hl 2 rfl) ?_
  refine lv_iload_n hx hb dX12_let_12 rfl (lv_at hl 3 rfl) ?_
  refine lv_iload hx hb dX12_let_13 (lv_at hl 4 rfl) ?_
  obtain ⟨o15, eo15⟩ : ∃ o, o = f_X12_refusesQuestion o8 k2 k3 k4 q_q := ⟨_, rfl⟩
  have h := nm_of h o15 eo15
  refine cl_i (wc := ((a0, .inr (9, [.int 0, .int m_t.2.1, .int m_t.2.2, .ref a5, g14, g15, g16, g17, g18, g19, g20, g21, g22, g23, g24, .ref a6, g25, .ref a7, .ref a8, .int m_h.2.2.1, .int m_h.2.2.2, g26, g27, g28, g29, g30, g31, g32, g33, g34])) :: bX11 a5 uq kq q_q [])) (wr := ([(a6, .inl (cB36, 26, .inl m_v)), (a7, .inl (cB37, 416, .inl m_h.1)), (a8, .inl (cB38, 78, .inl m_h.2.1))])) (va_runV (As := [.int o8, .int k2, .int k3, .int k4]) (rest := []) ⟨hx, hb, hml, hown, hts⟩ (kfX12_refusesQuestion l dC dI a0 o8 k2 k3 k4 a5 uq kq (.int 0) (.int m_t.2.1) (.int m_t.2.2) (g14) (g15) (g16) (g17) (g18) (g19) (g20) (g21) (g22) (g23) (g24) (.ref a6) (g25) (.ref a7) (.ref a8) (.int m_h.2.2.1) (.int m_h.2.2.2) (g26) (g27) (g28) (g29) (g30) (g31) (g32) (g33) (g34) q_q H.size o15 eo15.symm) (cwV 4 hts gfX12_let_1 rfl rfl rfl (by decide +kernel) ⟨(Nat.le_of_ble_eq_true rfl), (Nat.le_of_ble_eq_true rfl)⟩) (PV (hP.sub (ws' := ((a0, .inr (9, [.int 0, .int m_t.2.1, .int m_t.2.2, .ref a5, g14, g15, g16, g17, g18, g19, g20, g21, g22, g23, g24, .ref a6, g25, .ref a7, .ref a8, .int m_h.2.2.1, .int m_h.2.2.2, g26, g27, g28, g29, g30, g31, g32, g33, g34])) :: bX11 a5 uq kq q_q [])) [3, 4, 5, 6, 7, 8, 9, 10, 11, 12, 13, 14, 15, 16, 17, 18] rfl) (hK.sub (tys' := (tX11 kq ([]))) [0, 1, 2, 3, 4, 5, 6, 7, 8, 9, 10, 11, 12, 13] rfl) (hD.sub (ws' := ((a0, .inr (9, [.int 0, .int m_t.2.1, .int m_t.2.2, .ref a5, g14, g15, g16, g17, g18, g19, g20, g21, g22, g23, g24, .ref a6, g25, .ref a7, .ref a8, .int m_h.2.2.1, .int m_h.2.2.2, g26, g27, g28, g29, g30, g31, g32, g33, g34])) :: bX11 a5 uq kq q_q [])) [3, 4, 5, 6, 7, 8, 9, 10, 11, 12, 13, 14, 15, 16, 17, 18] (by decide) rfl) hN 0 rfl rfl) rfl rfl hl.1 rfl (lv_room (Nat.le_of_ble_eq_true rfl)) dX12_let_15 ⟨(Nat.le_of_ble_eq_true rfl), (Nat.le_of_ble_eq_true rfl)⟩) hP hD hK hS hA [3, 4, 5, 6, 7, 8, 9, 10, 11, 12, 13, 14, 15, 16, 17, 18] [0, 1, 2] rfl rfl (by decide) (by decide) (fun r15 _ H locs hw hP hD _ hS => ?_)
  obtain rfl := hw.symm
  have hP : va_P (dC, dI) vwCl ((a6, .inl (cB36, 26, .inl m_v)) :: (a7, .inl (cB37, 416, .inl m_h.1)) :: (a8, .inl (cB38, 78, .inl m_h.2.1)) :: (a0, .inr (9, [.int 0, .int m_t.2.1, .int m_t.2.2, .ref a5, g14, g15, g16, g17, g18, g19, g20, g21, g22, g23, g24, .ref a6, g25, .ref a7, .ref a8, .int m_h.2.2.1, .int m_h.2.2.2, g26, g27, g28, g29, g30, g31, g32, g33, g34])) :: bX11 a5 uq kq q_q []) H := hP
  have hD : va_D A ((a6, .inl (cB36, 26, .inl m_v)) :: (a7, .inl (cB37, 416, .inl m_h.1)) :: (a8, .inl (cB38, 78, .inl m_h.2.1)) :: (a0, .inr (9, [.int 0, .int m_t.2.1, .int m_t.2.2, .ref a5, g14, g15, g16, g17, g18, g19, g20, g21, g22, g23, g24, .ref a6, g25, .ref a7, .ref a8, .int m_h.2.2.1, .int m_h.2.2.2, g26, g27, g28, g29, g30, g31, g32, g33, g34])) :: bX11 a5 uq kq q_q []) := hD
  refine lv_istore (lv' := [(5, .int o15), (0, .ref a0), (1, .int k1), (2, .int k2), (3, .int k3), (4, .int k4)]) hx hb dX12_let_18 hl (by decide) rfl (fun ls hl => ?_)
  refine lv_iload hx hb dX12_let_20 (lv_at hl 0 rfl) ?_
  refine lv_if_le (tgt := 32) hx hb dX12_let_22 (by decide) (fun c22 => ?_) (fun c22 => ?_)
  · have h := (if_pos c22).symm.trans h
    refine lv_aload_n hx hb dX12_let_32 rfl (lv_at hl 1 rfl) ?_
    refine va_get (D := (dC, dI)) (ci := 9) (v := .ref a6) (C := RX12) (T := TX12) (N := 30) hx hb hts ifX12_let_X12 hown hK hP 3 rfl rfl 15 (by decide) (hts (.fieldLink RX12 17 "HookPierModel" "v" "[I") (List.mem_of_getElem? (i := 15) rfl)) (fun _ h9 => h9) rfl dX12_let_33 ?_
    refine lv_bipush (v := 18) hx hb dX12_let_36 (by decide) ?_
    refine lv_iload_n hx hb dX12_let_38 rfl (lv_at hl 2 rfl) ?_
    refine lv_iadd hx hb dX12_let_39 ?_
    obtain ⟨hg40, h⟩ := gA_of h
    refine va_iald hx hb hK hP 0 14 rfl rfl hg40 dX12_let_40 ?_
    refine lv_bipush (v := (-2)) hx hb dX12_let_41 (by decide) ?_
    have J63 : ∀ (H : Heap) (locs : List Loc) (ls : Array Slot), f_X12_let_J63 m_t m_v m_h = some out → va_P (dC, dI) vwCl ((a6, .inl (cB36, 26, .inl m_v)) :: (a7, .inl (cB37, 416, .inl m_h.1)) :: (a8, .inl (cB38, 78, .inl m_h.2.1)) :: (a0, .inr (9, [.int 0, .int m_t.2.1, .int m_t.2.2, .ref a5, g14, g15, g16, g17, g18, g19, g20, g21, g22, g23, g24, .ref a6, g25, .ref a7, .ref a8, .int m_h.2.2.1, .int m_h.2.2.2, g26, g27, g28, g29, g30, g31, g32, g33, g34])) :: bX11 a5 uq kq q_q []) H → va_D A ((a6, .inl (cB36, 26, .inl m_v)) :: (a7, .inl (cB37, 416, .inl m_h.1)) :: (a8, .inl (cB38, 78, .inl m_h.2.1)) :: (a0, .inr (9, [.int 0, .int m_t.2.1, .int m_t.2.2, .ref a5, g14, g15, g16, g17, g18, g19, g20, g21, g22, g23, g24, .ref a6, g25, .ref a7, .ref a8, .int m_h.2.2.1, .int m_h.2.2.2, g26, g27, g28, g29, g30, g31, g32, g33, g34])) :: bX11 a5 uq kq q_q []) → va_S A s.heap H locs → lv_has ls 6 [(0, .ref a0)] → W p l e (headSpec vfX12_let { frames := 2, cells := 0, slots := 0, locals := 46 }).room s m ([.ref a0, .int k1, .int k2, .int k3, .int k4]).toArray below meth c H locs 0 0 QQ (F0 m 63 ls []) := by
      intro  H locs ls h  hP hD hS hl
      rw [f_X12_let_J63] at h
      refine lv_aload_n hx hb dX12_let_63 rfl (lv_at hl 0 rfl) ?_
      refine lv_iconst (v := 5) hx hb dX12_let_64 (by decide) ?_
      obtain ⟨o65, eo65⟩ : ∃ o, o = f_X12_denied (5 : Int32) ((0 : Int32), m_t.2) := ⟨_, rfl⟩
      have h := nm_of h o65 eo65
      refine cl_i (wc := ([(a0, .inr (9, [.int 0, .int m_t.2.1, .int m_t.2.2, .ref a5, g14, g15, g16, g17, g18, g19, g20, g21, g22, g23, g24, .ref a6, g25, .ref a7, .ref a8, .int m_h.2.2.1, .int m_h.2.2.2, g26, g27, g28, g29, g30, g31, g32, g33, g34]))])) (wr := ((a6, .inl (cB36, 26, .inl m_v)) :: (a7, .inl (cB37, 416, .inl m_h.1)) :: (a8, .inl (cB38, 78, .inl m_h.2.1)) :: bX11 a5 uq kq q_q [])) (va_runV (As := [.int 5]) (rest := []) ⟨hx, hb, hml, hown, hts⟩ (kfX12_denied l dC dI a0 (5 : Int32) ((0 : Int32), m_t.2) (.ref a5) (g14) (g15) (g16) (g17) (g18) (g19) (g20) (g21) (g22) (g23) (g24) (.ref a6) (g25) (.ref a7) (.ref a8) (.int m_h.2.2.1) (.int m_h.2.2.2) (g26) (g27) (g28) (g29) (g30) (g31) (g32) (g33) (g34) H.size o65 eo65.symm) (cwV 1 hts gfX12_let_2 rfl rfl rfl (by decide +kernel) ⟨(Nat.le_of_ble_eq_true rfl), (Nat.le_of_ble_eq_true rfl)⟩) (PV (hP.sub (ws' := ([(a0, .inr (9, [.int 0, .int m_t.2.1, .int m_t.2.2, .ref a5, g14, g15, g16, g17, g18, g19, g20, g21, g22, g23, g24, .ref a6, g25, .ref a7, .ref a8, .int m_h.2.2.1, .int m_h.2.2.2, g26, g27, g28, g29, g30, g31, g32, g33, g34]))])) [3] rfl) (hK.sub (tys' := ([])) [] rfl) (hD.sub (ws' := ([(a0, .inr (9, [.int 0, .int m_t.2.1, .int m_t.2.2, .ref a5, g14, g15, g16, g17, g18, g19, g20, g21, g22, g23, g24, .ref a6, g25, .ref a7, .ref a8, .int m_h.2.2.1, .int m_h.2.2.2, g26, g27, g28, g29, g30, g31, g32, g33, g34]))])) [3] (by decide) rfl) hN 0 rfl rfl) rfl rfl hl.1 rfl (lv_room (Nat.le_of_ble_eq_true rfl)) dX12_let_65 ⟨(Nat.le_of_ble_eq_true rfl), (Nat.le_of_ble_eq_true rfl)⟩) hP hD hK hS hA [3] [0, 1, 2, 4, 5, 6, 7, 8, 9, 10, 11, 12, 13, 14, 15, 16, 17, 18] rfl rfl (by decide) (by decide) (fun r65 _ H locs hw hP hD _ hS => ?_)
      obtain ⟨hw, br65⟩ := hw
      obtain rfl := hw
      have hP : va_P (dC, dI) vwCl ((a6, .inl (cB36, 26, .inl m_v)) :: (a7, .inl (cB37, 416, .inl m_h.1)) :: (a8, .inl (cB38, 78, .inl m_h.2.1)) :: bX11 a5 uq kq q_q ([(a0, .inr (9, [.int o65.1, .int o65.2.1, .int o65.2.2, .ref a5, g14, g15, g16, g17, g18, g19, g20, g21, g22, g23, g24, .ref a6, g25, .ref a7, .ref a8, .int m_h.2.2.1, .int m_h.2.2.2, g26, g27, g28, g29, g30, g31, g32, g33, g34]))])) H := hP
      have hD : va_D A ((a6, .inl (cB36, 26, .inl m_v)) :: (a7, .inl (cB37, 416, .inl m_h.1)) :: (a8, .inl (cB38, 78, .inl m_h.2.1)) :: bX11 a5 uq kq q_q ([(a0, .inr (9, [.int o65.1, .int o65.2.1, .int o65.2.2, .ref a5, g14, g15, g16, g17, g18, g19, g20, g21, g22, g23, g24, .ref a6, g25, .ref a7, .ref a8, .int m_h.2.2.1, .int m_h.2.2.2, g26, g27, g28, g29, g30, g31, g32, g33, g34]))])) := hD
      obtain rfl := Option.some.inj h
      have hP9 := hP.sub (ws' := ((a0, .inr (9, [.int o65.1, .int o65.2.1, .int o65.2.2, .ref a5, g14, g15, g16, g17, g18, g19, g20, g21, g22, g23, g24, .ref a6, g25, .ref a7, .ref a8, .int m_h.2.2.1, .int m_h.2.2.2, g26, g27, g28, g29, g30, g31, g32, g33, g34])) :: bX11 a5 uq kq q_q ([(a6, .inl (cB36, 26, .inl m_v)), (a7, .inl (cB37, 416, .inl m_h.1)), (a8, .inl (cB38, 78, .inl m_h.2.1))]))) [18, 3, 4, 5, 6, 7, 8, 9, 10, 11, 12, 13, 14, 15, 16, 17, 0, 1, 2] rfl
      have hD9 := hD.sub (ws' := ((a0, .inr (9, [.int o65.1, .int o65.2.1, .int o65.2.2, .ref a5, g14, g15, g16, g17, g18, g19, g20, g21, g22, g23, g24, .ref a6, g25, .ref a7, .ref a8, .int m_h.2.2.1, .int m_h.2.2.2, g26, g27, g28, g29, g30, g31, g32, g33, g34])) :: bX11 a5 uq kq q_q ([(a6, .inl (cB36, 26, .inl m_v)), (a7, .inl (cB37, 416, .inl m_h.1)), (a8, .inl (cB38, 78, .inl m_h.2.1))]))) [18, 3, 4, 5, 6, 7, 8, 9, 10, 11, 12, 13, 14, 15, 16, 17, 0, 1, 2] (by decide) rfl
      have hK9 := hK.sub (tys' := []) [] rfl
      rw [hQQ]
      exact W.zret (v := (0 : Int32)) hx hb hr rfl (fun t ht hW => ⟨⟨(0 : Int32), (), rfl, ⟨rfl, (by decide)⟩, by rw [ht]; exact hP9, va_K.moved hW.alike hK9, hD9⟩, hS.F ht⟩) hS.2.2 dX12_let_68
    refine lv_icmp_ne (tgt := 63) hx hb dX12_let_43 (by decide) (fun c43 => ?_) (fun c43 => ?_)
    · have h := (if_neg c43).symm.trans h
      exact J63  H _ ls h  hP hD hS (lv_sub hl [1] rfl)
    · have h := (if_pos c43).symm.trans h
      refine lv_aload_n hx hb dX12_let_46 rfl (lv_at hl 1 rfl) ?_
      refine va_get (D := (dC, dI)) (ci := 9) (v := .ref a5) (C := RX12) (T := TX12) (N := 30) hx hb hts ifX12_let_X12 hown hK hP 3 rfl rfl 3 (by decide) (hts (.fieldLink RX12 299 "HookPierModel" "pier" "LHookPierModel$Pier;") (List.mem_of_getElem? (i := 7) rfl)) (fun _ h9 => h9) rfl dX12_let_47 ?_
      refine lv_aload_n hx hb dX12_let_50 rfl (lv_at hl 1 rfl) ?_
      refine va_get (D := (dC, dI)) (ci := 9) (v := .ref a6) (C := RX12) (T := TX12) (N := 30) hx hb hts ifX12_let_X12 hown hK hP 3 rfl rfl 15 (by decide) (hts (.fieldLink RX12 17 "HookPierModel" "v" "[I") (List.mem_of_getElem? (i := 15) rfl)) (fun _ h9 => h9) rfl dX12_let_51 ?_
      refine lv_bipush (v := 23) hx hb dX12_let_54 (by decide) ?_
      refine va_iald hx hb hK hP 0 14 rfl rfl (by unfold vp_in; decide) dX12_let_56 ?_
      obtain ⟨o57, eo57⟩ : ∃ o, o = f_X11_isClose (m_v ((23 : Int32)).toNatClampNeg) q_q := ⟨_, rfl⟩
      have h := nm_of h o57 eo57
      refine cl_i (wc := (bX11 a5 uq kq q_q [])) (wr := ([(a6, .inl (cB36, 26, .inl m_v)), (a7, .inl (cB37, 416, .inl m_h.1)), (a8, .inl (cB38, 78, .inl m_h.2.1)), (a0, .inr (9, [.int 0, .int m_t.2.1, .int m_t.2.2, .ref a5, g14, g15, g16, g17, g18, g19, g20, g21, g22, g23, g24, .ref a6, g25, .ref a7, .ref a8, .int m_h.2.2.1, .int m_h.2.2.2, g26, g27, g28, g29, g30, g31, g32, g33, g34]))])) (va_runV (As := [.int (m_v ((23 : Int32)).toNatClampNeg)]) (rest := []) ⟨hx, hb, hml, hown, hts⟩ (kfX11_isClose l dC dI a5 (m_v ((23 : Int32)).toNatClampNeg) uq kq q_q H.size o57 eo57.symm) (cwV 1 hts gfX12_let_3 rfl rfl rfl (by decide +kernel) ⟨(Nat.le_of_ble_eq_true rfl), (Nat.le_of_ble_eq_true rfl)⟩) (PV (hP.sub (ws' := (bX11 a5 uq kq q_q [])) [4, 5, 6, 7, 8, 9, 10, 11, 12, 13, 14, 15, 16, 17, 18] rfl) (hK.sub (tys' := (tX11 kq ([]))) [0, 1, 2, 3, 4, 5, 6, 7, 8, 9, 10, 11, 12, 13] rfl) (hD.sub (ws' := (bX11 a5 uq kq q_q [])) [4, 5, 6, 7, 8, 9, 10, 11, 12, 13, 14, 15, 16, 17, 18] (by decide) rfl) hN 0 rfl rfl) rfl rfl hl.1 rfl (lv_room (Nat.le_of_ble_eq_true rfl)) dX12_let_57 ⟨(Nat.le_of_ble_eq_true rfl), (Nat.le_of_ble_eq_true rfl)⟩) hP hD hK hS hA [4, 5, 6, 7, 8, 9, 10, 11, 12, 13, 14, 15, 16, 17, 18] [0, 1, 2, 3] rfl rfl (by decide) (by decide) (fun r57 _ H locs hw hP hD _ hS => ?_)
      obtain ⟨hw, br57⟩ := hw
      obtain rfl := hw.symm
      have hP : va_P (dC, dI) vwCl ((a6, .inl (cB36, 26, .inl m_v)) :: (a7, .inl (cB37, 416, .inl m_h.1)) :: (a8, .inl (cB38, 78, .inl m_h.2.1)) :: (a0, .inr (9, [.int 0, .int m_t.2.1, .int m_t.2.2, .ref a5, g14, g15, g16, g17, g18, g19, g20, g21, g22, g23, g24, .ref a6, g25, .ref a7, .ref a8, .int m_h.2.2.1, .int m_h.2.2.2, g26, g27, g28, g29, g30, g31, g32, g33, g34])) :: bX11 a5 uq kq q_q []) H := hP
      have hD : va_D A ((a6, .inl (cB36, 26, .inl m_v)) :: (a7, .inl (cB37, 416, .inl m_h.1)) :: (a8, .inl (cB38, 78, .inl m_h.2.1)) :: (a0, .inr (9, [.int 0, .int m_t.2.1, .int m_t.2.2, .ref a5, g14, g15, g16, g17, g18, g19, g20, g21, g22, g23, g24, .ref a6, g25, .ref a7, .ref a8, .int m_h.2.2.1, .int m_h.2.2.2, g26, g27, g28, g29, g30, g31, g32, g33, g34])) :: bX11 a5 uq kq q_q []) := hD
      refine lv_if_eq (tgt := 69) hx hb dX12_let_60 (by decide) (fun c60 => ?_) (fun c60 => ?_)
      · have h := (if_pos c60).symm.trans h
        refine lv_aload_n hx hb dX12_let_69 rfl (lv_at hl 1 rfl) ?_
        obtain ⟨o70, eo70, h⟩ := bd_of h
        refine cl_v (wc := ([(a0, .inr (9, [.int 0, .int m_t.2.1, .int m_t.2.2, .ref a5, g14, g15, g16, g17, g18, g19, g20, g21, g22, g23, g24, .ref a6, g25, .ref a7, .ref a8, .int m_h.2.2.1, .int m_h.2.2.2, g26, g27, g28, g29, g30, g31, g32, g33, g34])), (a6, .inl (cB36, 26, .inl m_v)), (a7, .inl (cB37, 416, .inl m_h.1)), (a8, .inl (cB38, 78, .inl m_h.2.1))])) (wr := (bX11 a5 uq kq q_q [])) (va_runV (As := []) (rest := []) ⟨hx, hb, hml, hown, hts⟩ (kfX12_remembers l dC dI a0 a6 a7 a8 m_v m_h (.int 0) (.int m_t.2.1) (.int m_t.2.2) (.ref a5) (g14) (g15) (g16) (g17) (g18) (g19) (g20) (g21) (g22) (g23) (g24) (g25) (g26) (g27) (g28) (g29) (g30) (g31) (g32) (g33) (g34) cB36 cB37 cB38 H.size o70 eo70) (cwV 0 hts gfX12_let_4 rfl rfl rfl (by decide +kernel) ⟨(Nat.le_of_ble_eq_true rfl), (Nat.le_of_ble_eq_true rfl)⟩) (PV (hP.sub (ws' := ([(a0, .inr (9, [.int 0, .int m_t.2.1, .int m_t.2.2, .ref a5, g14, g15, g16, g17, g18, g19, g20, g21, g22, g23, g24, .ref a6, g25, .ref a7, .ref a8, .int m_h.2.2.1, .int m_h.2.2.2, g26, g27, g28, g29, g30, g31, g32, g33, g34])), (a6, .inl (cB36, 26, .inl m_v)), (a7, .inl (cB37, 416, .inl m_h.1)), (a8, .inl (cB38, 78, .inl m_h.2.1))])) [3, 0, 1, 2] rfl) (hK.sub (tys' := ((cB36, .int) :: (cB37, .int) :: (cB38, .int) :: [])) [14, 15, 16] rfl) (hD.sub (ws' := ([(a0, .inr (9, [.int 0, .int m_t.2.1, .int m_t.2.2, .ref a5, g14, g15, g16, g17, g18, g19, g20, g21, g22, g23, g24, .ref a6, g25, .ref a7, .ref a8, .int m_h.2.2.1, .int m_h.2.2.2, g26, g27, g28, g29, g30, g31, g32, g33, g34])), (a6, .inl (cB36, 26, .inl m_v)), (a7, .inl (cB37, 416, .inl m_h.1)), (a8, .inl (cB38, 78, .inl m_h.2.1))])) [3, 0, 1, 2] (by decide) rfl) hN 0 rfl rfl) rfl rfl hl.1 rfl (lv_room (Nat.le_of_ble_eq_true rfl)) dX12_let_70 ⟨(Nat.le_of_ble_eq_true rfl), (Nat.le_of_ble_eq_true rfl)⟩) hP hD hK hS hA [3, 0, 1, 2] [4, 5, 6, 7, 8, 9, 10, 11, 12, 13, 14, 15, 16, 17, 18] rfl rfl (by decide) (by decide) (fun _ H locs hw hP hD _ hS => ?_)
        have hP : va_P (dC, dI) vwCl (bX11 a5 uq kq q_q ([(a0, .inr (9, [.int 0, .int m_t.2.1, .int m_t.2.2, .ref a5, g14, g15, g16, g17, g18, g19, g20, g21, g22, g23, g24, .ref a6, g25, .ref a7, .ref a8, .int o70.2.2.1, .int o70.2.2.2, g26, g27, g28, g29, g30, g31, g32, g33, g34])), (a6, .inl (cB36, 26, .inl m_v)), (a7, .inl (cB37, 416, .inl o70.1)), (a8, .inl (cB38, 78, .inl o70.2.1))])) H := hP
        have hD : va_D A (bX11 a5 uq kq q_q ([(a0, .inr (9, [.int 0, .int m_t.2.1, .int m_t.2.2, .ref a5, g14, g15, g16, g17, g18, g19, g20, g21, g22, g23, g24, .ref a6, g25, .ref a7, .ref a8, .int o70.2.2.1, .int o70.2.2.2, g26, g27, g28, g29, g30, g31, g32, g33, g34])), (a6, .inl (cB36, 26, .inl m_v)), (a7, .inl (cB37, 416, .inl o70.1)), (a8, .inl (cB38, 78, .inl o70.2.1))])) := hD
        refine lv_aload_n hx hb dX12_let_73 rfl (lv_at hl 1 rfl) ?_
        refine va_get (D := (dC, dI)) (ci := 9) (v := .ref a6) (C := RX12) (T := TX12) (N := 30) hx hb hts ifX12_let_X12 hown hK hP 15 rfl rfl 15 (by decide) (hts (.fieldLink RX12 17 "HookPierModel" "v" "[I") (List.mem_of_getElem? (i := 15) rfl)) (fun _ h9 => h9) rfl dX12_let_74 ?_
        refine lv_bipush (v := 18) hx hb dX12_let_77 (by decide) ?_
        refine lv_iload_n hx hb dX12_let_79 rfl (lv_at hl 2 rfl) ?_
        refine lv_iadd hx hb dX12_let_80 ?_
        refine lv_aload_n hx hb dX12_let_81 rfl (lv_at hl 1 rfl) ?_
        refine lv_iload_n hx hb dX12_let_82 rfl (lv_at hl 3 rfl) ?_
        refine lv_iload_n hx hb dX12_let_83 rfl (lv_at hl 4 rfl) ?_
        refine lv_iload hx hb dX12_let_84 (lv_at hl 5 rfl) ?_
        obtain ⟨o86, eo86⟩ : ∃ o, o = f_X12_question k2 k3 k4 q_q := ⟨_, rfl⟩
        have h := nm_of h o86 eo86
        refine cl_i (wc := ((a0, .inr (9, [.int 0, .int m_t.2.1, .int m_t.2.2, .ref a5, g14, g15, g16, g17, g18, g19, g20, g21, g22, g23, g24, .ref a6, g25, .ref a7, .ref a8, .int o70.2.2.1, .int o70.2.2.2, g26, g27, g28, g29, g30, g31, g32, g33, g34])) :: bX11 a5 uq kq q_q [])) (wr := ([(a6, .inl (cB36, 26, .inl m_v)), (a7, .inl (cB37, 416, .inl o70.1)), (a8, .inl (cB38, 78, .inl o70.2.1))])) (va_runV (As := [.int k2, .int k3, .int k4]) (rest := [.int ((18 : Int32) + k1), .ref a6]) ⟨hx, hb, hml, hown, hts⟩ (kfX12_question l dC dI a0 k2 k3 k4 a5 uq kq (.int 0) (.int m_t.2.1) (.int m_t.2.2) (g14) (g15) (g16) (g17) (g18) (g19) (g20) (g21) (g22) (g23) (g24) (.ref a6) (g25) (.ref a7) (.ref a8) (.int o70.2.2.1) (.int o70.2.2.2) (g26) (g27) (g28) (g29) (g30) (g31) (g32) (g33) (g34) q_q H.size o86 eo86.symm) (cwV 3 hts gfX12_let_5 rfl rfl rfl (by decide +kernel) ⟨(Nat.le_of_ble_eq_true rfl), (Nat.le_of_ble_eq_true rfl)⟩) (PV (hP.sub (ws' := ((a0, .inr (9, [.int 0, .int m_t.2.1, .int m_t.2.2, .ref a5, g14, g15, g16, g17, g18, g19, g20, g21, g22, g23, g24, .ref a6, g25, .ref a7, .ref a8, .int o70.2.2.1, .int o70.2.2.2, g26, g27, g28, g29, g30, g31, g32, g33, g34])) :: bX11 a5 uq kq q_q [])) [15, 0, 1, 2, 3, 4, 5, 6, 7, 8, 9, 10, 11, 12, 13, 14] rfl) (hK.sub (tys' := (tX11 kq ([]))) [0, 1, 2, 3, 4, 5, 6, 7, 8, 9, 10, 11, 12, 13] rfl) (hD.sub (ws' := ((a0, .inr (9, [.int 0, .int m_t.2.1, .int m_t.2.2, .ref a5, g14, g15, g16, g17, g18, g19, g20, g21, g22, g23, g24, .ref a6, g25, .ref a7, .ref a8, .int o70.2.2.1, .int o70.2.2.2, g26, g27, g28, g29, g30, g31, g32, g33, g34])) :: bX11 a5 uq kq q_q [])) [15, 0, 1, 2, 3, 4, 5, 6, 7, 8, 9, 10, 11, 12, 13, 14] (by decide) rfl) hN 0 rfl rfl) rfl rfl hl.1 rfl (lv_room (Nat.le_of_ble_eq_true rfl)) dX12_let_86 ⟨(Nat.le_of_ble_eq_true rfl), (Nat.le_of_ble_eq_true rfl)⟩) hP hD hK hS hA [15, 0, 1, 2, 3, 4, 5, 6, 7, 8, 9, 10, 11, 12, 13, 14] [16, 17, 18] rfl rfl (by decide) (by decide) (fun r86 _ H locs hw hP hD _ hS => ?_)
        obtain rfl := hw.symm
        have hP : va_P (dC, dI) vwCl ((a6, .inl (cB36, 26, .inl m_v)) :: (a7, .inl (cB37, 416, .inl o70.1)) :: (a8, .inl (cB38, 78, .inl o70.2.1)) :: (a0, .inr (9, [.int 0, .int m_t.2.1, .int m_t.2.2, .ref a5, g14, g15, g16, g17, g18, g19, g20, g21, g22, g23, g24, .ref a6, g25, .ref a7, .ref a8, .int o70.2.2.1, .int o70.2.2.2, g26, g27, g28, g29, g30, g31, g32, g33, g34])) :: bX11 a5 uq kq q_q []) H := hP
        have hD : va_D A ((a6, .inl (cB36, 26, .inl m_v)) :: (a7, .inl (cB37, 416, .inl o70.1)) :: (a8, .inl (cB38, 78, .inl o70.2.1)) :: (a0, .inr (9, [.int 0, .int m_t.2.1, .int m_t.2.2, .ref a5, g14, g15, g16, g17, g18, g19, g20, g21, g22, g23, g24, .ref a6, g25, .ref a7, .ref a8, .int o70.2.2.1, .int o70.2.2.2, g26, g27, g28, g29, g30, g31, g32, g33, g34])) :: bX11 a5 uq kq q_q []) := hD
        obtain ⟨hg89, h⟩ := gA_of h
        refine va_iast hx hb hK hP hD hS 0 14 rfl rfl hg89 dX12_let_89 (fun H locs hP hD hS => ?_)
        have hP : va_P (dC, dI) vwCl ((a6, .inl (cB36, 26, .inl (upd m_v (((18 : Int32) + k1)).toNatClampNeg o86))) :: (a7, .inl (cB37, 416, .inl o70.1)) :: (a8, .inl (cB38, 78, .inl o70.2.1)) :: (a0, .inr (9, [.int 0, .int m_t.2.1, .int m_t.2.2, .ref a5, g14, g15, g16, g17, g18, g19, g20, g21, g22, g23, g24, .ref a6, g25, .ref a7, .ref a8, .int o70.2.2.1, .int o70.2.2.2, g26, g27, g28, g29, g30, g31, g32, g33, g34])) :: bX11 a5 uq kq q_q []) H := hP
        have hD : va_D A ((a6, .inl (cB36, 26, .inl (upd m_v (((18 : Int32) + k1)).toNatClampNeg o86))) :: (a7, .inl (cB37, 416, .inl o70.1)) :: (a8, .inl (cB38, 78, .inl o70.2.1)) :: (a0, .inr (9, [.int 0, .int m_t.2.1, .int m_t.2.2, .ref a5, g14, g15, g16, g17, g18, g19, g20, g21, g22, g23, g24, .ref a6, g25, .ref a7, .ref a8, .int o70.2.2.1, .int o70.2.2.2, g26, g27, g28, g29, g30, g31, g32, g33, g34])) :: bX11 a5 uq kq q_q []) := hD
        refine lv_aload_n hx hb dX12_let_90 rfl (lv_at hl 1 rfl) ?_
        obtain ⟨o91, eo91⟩ : ∃ o, o = f_X12_granted ((0 : Int32), m_t.2) := ⟨_, rfl⟩
        have h := nm_of h o91 eo91
        refine cl_i (wc := ([(a0, .inr (9, [.int 0, .int m_t.2.1, .int m_t.2.2, .ref a5, g14, g15, g16, g17, g18, g19, g20, g21, g22, g23, g24, .ref a6, g25, .ref a7, .ref a8, .int o70.2.2.1, .int o70.2.2.2, g26, g27, g28, g29, g30, g31, g32, g33, g34]))])) (wr := ((a6, .inl (cB36, 26, .inl (upd m_v (((18 : Int32) + k1)).toNatClampNeg o86))) :: (a7, .inl (cB37, 416, .inl o70.1)) :: (a8, .inl (cB38, 78, .inl o70.2.1)) :: bX11 a5 uq kq q_q [])) (va_runV (As := []) (rest := []) ⟨hx, hb, hml, hown, hts⟩ (kfX12_granted l dC dI a0 ((0 : Int32), m_t.2) (.ref a5) (g14) (g15) (g16) (g17) (g18) (g19) (g20) (g21) (g22) (g23) (g24) (.ref a6) (g25) (.ref a7) (.ref a8) (.int o70.2.2.1) (.int o70.2.2.2) (g26) (g27) (g28) (g29) (g30) (g31) (g32) (g33) (g34) H.size o91 eo91.symm) (cwV 0 hts gfX12_let_6 rfl rfl rfl (by decide +kernel) ⟨(Nat.le_of_ble_eq_true rfl), (Nat.le_of_ble_eq_true rfl)⟩) (PV (hP.sub (ws' := ([(a0, .inr (9, [.int 0, .int m_t.2.1, .int m_t.2.2, .ref a5, g14, g15, g16, g17, g18, g19, g20, g21, g22, g23, g24, .ref a6, g25, .ref a7, .ref a8, .int o70.2.2.1, .int o70.2.2.2, g26, g27, g28, g29, g30, g31, g32, g33, g34]))])) [3] rfl) (hK.sub (tys' := ([])) [] rfl) (hD.sub (ws' := ([(a0, .inr (9, [.int 0, .int m_t.2.1, .int m_t.2.2, .ref a5, g14, g15, g16, g17, g18, g19, g20, g21, g22, g23, g24, .ref a6, g25, .ref a7, .ref a8, .int o70.2.2.1, .int o70.2.2.2, g26, g27, g28, g29, g30, g31, g32, g33, g34]))])) [3] (by decide) rfl) hN 0 rfl rfl) rfl rfl hl.1 rfl (lv_room (Nat.le_of_ble_eq_true rfl)) dX12_let_91 ⟨(Nat.le_of_ble_eq_true rfl), (Nat.le_of_ble_eq_true rfl)⟩) hP hD hK hS hA [3] [0, 1, 2, 4, 5, 6, 7, 8, 9, 10, 11, 12, 13, 14, 15, 16, 17, 18] rfl rfl (by decide) (by decide) (fun r91 _ H locs hw hP hD _ hS => ?_)
        obtain ⟨hw, br91⟩ := hw
        obtain rfl := hw
        have hP : va_P (dC, dI) vwCl ((a6, .inl (cB36, 26, .inl (upd m_v (((18 : Int32) + k1)).toNatClampNeg o86))) :: (a7, .inl (cB37, 416, .inl o70.1)) :: (a8, .inl (cB38, 78, .inl o70.2.1)) :: bX11 a5 uq kq q_q ([(a0, .inr (9, [.int o91.1, .int o91.2.1, .int o91.2.2, .ref a5, g14, g15, g16, g17, g18, g19, g20, g21, g22, g23, g24, .ref a6, g25, .ref a7, .ref a8, .int o70.2.2.1, .int o70.2.2.2, g26, g27, g28, g29, g30, g31, g32, g33, g34]))])) H := hP
        have hD : va_D A ((a6, .inl (cB36, 26, .inl (upd m_v (((18 : Int32) + k1)).toNatClampNeg o86))) :: (a7, .inl (cB37, 416, .inl o70.1)) :: (a8, .inl (cB38, 78, .inl o70.2.1)) :: bX11 a5 uq kq q_q ([(a0, .inr (9, [.int o91.1, .int o91.2.1, .int o91.2.2, .ref a5, g14, g15, g16, g17, g18, g19, g20, g21, g22, g23, g24, .ref a6, g25, .ref a7, .ref a8, .int o70.2.2.1, .int o70.2.2.2, g26, g27, g28, g29, g30, g31, g32, g33, g34]))])) := hD
        obtain rfl := Option.some.inj h
        have hP9 := hP.sub (ws' := ((a0, .inr (9, [.int o91.1, .int o91.2.1, .int o91.2.2, .ref a5, g14, g15, g16, g17, g18, g19, g20, g21, g22, g23, g24, .ref a6, g25, .ref a7, .ref a8, .int o70.2.2.1, .int o70.2.2.2, g26, g27, g28, g29, g30, g31, g32, g33, g34])) :: bX11 a5 uq kq q_q ([(a6, .inl (cB36, 26, .inl (upd m_v (((18 : Int32) + k1)).toNatClampNeg o86))), (a7, .inl (cB37, 416, .inl o70.1)), (a8, .inl (cB38, 78, .inl o70.2.1))]))) [18, 3, 4, 5, 6, 7, 8, 9, 10, 11, 12, 13, 14, 15, 16, 17, 0, 1, 2] rfl
        have hD9 := hD.sub (ws' := ((a0, .inr (9, [.int o91.1, .int o91.2.1, .int o91.2.2, .ref a5, g14, g15, g16, g17, g18, g19, g20, g21, g22, g23, g24, .ref a6, g25, .ref a7, .ref a8, .int o70.2.2.1, .int o70.2.2.2, g26, g27, g28, g29, g30, g31, g32, g33, g34])) :: bX11 a5 uq kq q_q ([(a6, .inl (cB36, 26, .inl (upd m_v (((18 : Int32) + k1)).toNatClampNeg o86))), (a7, .inl (cB37, 416, .inl o70.1)), (a8, .inl (cB38, 78, .inl o70.2.1))]))) [18, 3, 4, 5, 6, 7, 8, 9, 10, 11, 12, 13, 14, 15, 16, 17, 0, 1, 2] (by decide) rfl
        have hK9 := hK.sub (tys' := []) [] rfl
        rw [hQQ]
        exact W.zret (v := (1 : Int32)) hx hb hr rfl (fun t ht hW => ⟨⟨(1 : Int32), (), rfl, ⟨rfl, (by decide)⟩, by rw [ht]; exact hP9, va_K.moved hW.alike hK9, hD9⟩, hS.F ht⟩) hS.2.2 dX12_let_94
      · have h := (if_neg c60).symm.trans h
        exact J63  H _ ls h  hP hD hS (lv_sub hl [1] rfl)
  · have h := (if_neg c22).symm.trans h
    refine lv_aload_n hx hb dX12_let_25 rfl (lv_at hl 1 rfl) ?_
    refine lv_iload hx hb dX12_let_26 (lv_at hl 0 rfl) ?_
    obtain ⟨o28, eo28⟩ : ∃ o, o = f_X12_denied o15 ((0 : Int32), m_t.2) := ⟨_, rfl⟩
    have h := nm_of h o28 eo28
    refine cl_i (wc := ([(a0, .inr (9, [.int 0, .int m_t.2.1, .int m_t.2.2, .ref a5, g14, g15, g16, g17, g18, g19, g20, g21, g22, g23, g24, .ref a6, g25, .ref a7, .ref a8, .int m_h.2.2.1, .int m_h.2.2.2, g26, g27, g28, g29, g30, g31, g32, g33, g34]))])) (wr := ((a6, .inl (cB36, 26, .inl m_v)) :: (a7, .inl (cB37, 416, .inl m_h.1)) :: (a8, .inl (cB38, 78, .inl m_h.2.1)) :: bX11 a5 uq kq q_q [])) (va_runV (As := [.int o15]) (rest := []) ⟨hx, hb, hml, hown, hts⟩ (kfX12_denied l dC dI a0 o15 ((0 : Int32), m_t.2) (.ref a5) (g14) (g15) (g16) (g17) (g18) (g19) (g20) (g21) (g22) (g23) (g24) (.ref a6) (g25) (.ref a7) (.ref a8) (.int m_h.2.2.1) (.int m_h.2.2.2) (g26) (g27) (g28) (g29) (g30) (g31) (g32) (g33) (g34) H.size o28 eo28.symm) (cwV 1 hts gfX12_let_2 rfl rfl rfl (by decide +kernel) ⟨(Nat.le_of_ble_eq_true rfl), (Nat.le_of_ble_eq_true rfl)⟩) (PV (hP.sub (ws' := ([(a0, .inr (9, [.int 0, .int m_t.2.1, .int m_t.2.2, .ref a5, g14, g15, g16, g17, g18, g19, g20, g21, g22, g23, g24, .ref a6, g25, .ref a7, .ref a8, .int m_h.2.2.1, .int m_h.2.2.2, g26, g27, g28, g29, g30, g31, g32, g33, g34]))])) [3] rfl) (hK.sub (tys' := ([])) [] rfl) (hD.sub (ws' := ([(a0, .inr (9, [.int 0, .int m_t.2.1, .int m_t.2.2, .ref a5, g14, g15, g16, g17, g18, g19, g20, g21, g22, g23, g24, .ref a6, g25, .ref a7, .ref a8, .int m_h.2.2.1, .int m_h.2.2.2, g26, g27, g28, g29, g30, g31, g32, g33, g34]))])) [3] (by decide) rfl) hN 0 rfl rfl) rfl rfl hl.1 rfl (lv_room (Nat.le_of_ble_eq_true rfl)) dX12_let_28 ⟨(Nat.le_of_ble_eq_true rfl), (Nat.le_of_ble_eq_true rfl)⟩) hP hD hK hS hA [3] [0, 1, 2, 4, 5, 6, 7, 8, 9, 10, 11, 12, 13, 14, 15, 16, 17, 18] rfl rfl (by decide) (by decide) (fun r28 _ H locs hw hP hD _ hS => ?_)
    obtain ⟨hw, br28⟩ := hw
    obtain rfl := hw
    have hP : va_P (dC, dI) vwCl ((a6, .inl (cB36, 26, .inl m_v)) :: (a7, .inl (cB37, 416, .inl m_h.1)) :: (a8, .inl (cB38, 78, .inl m_h.2.1)) :: bX11 a5 uq kq q_q ([(a0, .inr (9, [.int o28.1, .int o28.2.1, .int o28.2.2, .ref a5, g14, g15, g16, g17, g18, g19, g20, g21, g22, g23, g24, .ref a6, g25, .ref a7, .ref a8, .int m_h.2.2.1, .int m_h.2.2.2, g26, g27, g28, g29, g30, g31, g32, g33, g34]))])) H := hP
    have hD : va_D A ((a6, .inl (cB36, 26, .inl m_v)) :: (a7, .inl (cB37, 416, .inl m_h.1)) :: (a8, .inl (cB38, 78, .inl m_h.2.1)) :: bX11 a5 uq kq q_q ([(a0, .inr (9, [.int o28.1, .int o28.2.1, .int o28.2.2, .ref a5, g14, g15, g16, g17, g18, g19, g20, g21, g22, g23, g24, .ref a6, g25, .ref a7, .ref a8, .int m_h.2.2.1, .int m_h.2.2.2, g26, g27, g28, g29, g30, g31, g32, g33, g34]))])) := hD
    obtain rfl := Option.some.inj h
    have hP9 := hP.sub (ws' := ((a0, .inr (9, [.int o28.1, .int o28.2.1, .int o28.2.2, .ref a5, g14, g15, g16, g17, g18, g19, g20, g21, g22, g23, g24, .ref a6, g25, .ref a7, .ref a8, .int m_h.2.2.1, .int m_h.2.2.2, g26, g27, g28, g29, g30, g31, g32, g33, g34])) :: bX11 a5 uq kq q_q ([(a6, .inl (cB36, 26, .inl m_v)), (a7, .inl (cB37, 416, .inl m_h.1)), (a8, .inl (cB38, 78, .inl m_h.2.1))]))) [18, 3, 4, 5, 6, 7, 8, 9, 10, 11, 12, 13, 14, 15, 16, 17, 0, 1, 2] rfl
    have hD9 := hD.sub (ws' := ((a0, .inr (9, [.int o28.1, .int o28.2.1, .int o28.2.2, .ref a5, g14, g15, g16, g17, g18, g19, g20, g21, g22, g23, g24, .ref a6, g25, .ref a7, .ref a8, .int m_h.2.2.1, .int m_h.2.2.2, g26, g27, g28, g29, g30, g31, g32, g33, g34])) :: bX11 a5 uq kq q_q ([(a6, .inl (cB36, 26, .inl m_v)), (a7, .inl (cB37, 416, .inl m_h.1)), (a8, .inl (cB38, 78, .inl m_h.2.1))]))) [18, 3, 4, 5, 6, 7, 8, 9, 10, 11, 12, 13, 14, 15, 16, 17, 0, 1, 2] (by decide) rfl
    have hK9 := hK.sub (tys' := []) [] rfl
    rw [hQQ]
    exact W.zret (v := (0 : Int32)) hx hb hr rfl (fun t ht hW => ⟨⟨(0 : Int32), (), rfl, ⟨rfl, (by decide)⟩, by rw [ht]; exact hP9, va_K.moved hW.alike hK9, hD9⟩, hS.F ht⟩) hS.2.2 dX12_let_31
