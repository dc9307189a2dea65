theorem dX12_hooks_0 : decode cX12_hooks 0 = .ok (.aload_n 0, 1) := by decide +kernel
theorem dX12_hooks_1 : decode cX12_hooks 1 = .ok (.iconst 0, 1) := by decide +kernel
theorem dX12_hooks_10 : decode cX12_hooks 10 = .ok (.ifCond .eq 24, 3) := by decide +kernel
theorem dX12_hooks_100 : decode cX12_hooks 100 = .ok (.iload_n 2, 1) := by decide +kernel
theorem dX12_hooks_101 : decode cX12_hooks 101 = .ok (.iadd, 1) := by decide +kernel
theorem dX12_hooks_102 : decode cX12_hooks 102 = .ok (.iaload, 1) := by decide +kernel
theorem dX12_hooks_103 : decode cX12_hooks 103 = .ok (.invokevirtual 346, 3) := by decide +kernel
theorem dX12_hooks_106 : decode cX12_hooks 106 = .ok (.istore 6, 2) := by decide +kernel
theorem dX12_hooks_108 : decode cX12_hooks 108 = .ok (.aload_n 0, 1) := by decide +kernel
theorem dX12_hooks_109 : decode cX12_hooks 109 = .ok (.iload_n 1, 1) := by decide +kernel
theorem dX12_hooks_110 : decode cX12_hooks 110 = .ok (.aload_n 0, 1) := by decide +kernel
theorem dX12_hooks_111 : decode cX12_hooks 111 = .ok (.getfield 17, 3) := by decide +kernel
theorem dX12_hooks_114 : decode cX12_hooks 114 = .ok (.bipush 18, 2) := by decide +kernel
theorem dX12_hooks_116 : decode cX12_hooks 116 = .ok (.iload_n 3, 1) := by decide +kernel
theorem dX12_hooks_117 : decode cX12_hooks 117 = .ok (.iadd, 1) := by decide +kernel
theorem dX12_hooks_118 : decode cX12_hooks 118 = .ok (.iaload, 1) := by decide +kernel
theorem dX12_hooks_119 : decode cX12_hooks 119 = .ok (.invokevirtual 346, 3) := by decide +kernel
theorem dX12_hooks_122 : decode cX12_hooks 122 = .ok (.istore 7, 2) := by decide +kernel
theorem dX12_hooks_124 : decode cX12_hooks 124 = .ok (.iload 6, 2) := by decide +kernel
theorem dX12_hooks_126 : decode cX12_hooks 126 = .ok (.iload 7, 2) := by decide +kernel
theorem dX12_hooks_128 : decode cX12_hooks 128 = .ok (.iadd, 1) := by decide +kernel
theorem dX12_hooks_129 : decode cX12_hooks 129 = .ok (.ifCond .ne 9, 3) := by decide +kernel
theorem dX12_hooks_13 : decode cX12_hooks 13 = .ok (.aload_n 0, 1) := by decide +kernel
theorem dX12_hooks_132 : decode cX12_hooks 132 = .ok (.aload_n 0, 1) := by decide +kernel
theorem dX12_hooks_133 : decode cX12_hooks 133 = .ok (.iconst 0, 1) := by decide +kernel
theorem dX12_hooks_134 : decode cX12_hooks 134 = .ok (.invokevirtual 46, 3) := by decide +kernel
theorem dX12_hooks_137 : decode cX12_hooks 137 = .ok (.ireturn, 1) := by decide +kernel
theorem dX12_hooks_138 : decode cX12_hooks 138 = .ok (.iload 4, 2) := by decide +kernel
theorem dX12_hooks_14 : decode cX12_hooks 14 = .ok (.iload_n 2, 1) := by decide +kernel
theorem dX12_hooks_140 : decode cX12_hooks 140 = .ok (.iload 6, 2) := by decide +kernel
theorem dX12_hooks_142 : decode cX12_hooks 142 = .ok (.imul, 1) := by decide +kernel
theorem dX12_hooks_143 : decode cX12_hooks 143 = .ok (.iload 6, 2) := by decide +kernel
theorem dX12_hooks_145 : decode cX12_hooks 145 = .ok (.iload 7, 2) := by decide +kernel
theorem dX12_hooks_147 : decode cX12_hooks 147 = .ok (.iadd, 1) := by decide +kernel
theorem dX12_hooks_148 : decode cX12_hooks 148 = .ok (.idiv, 1) := by decide +kernel
theorem dX12_hooks_149 : decode cX12_hooks 149 = .ok (.istore 8, 2) := by decide +kernel
theorem dX12_hooks_15 : decode cX12_hooks 15 = .ok (.invokevirtual 334, 3) := by decide +kernel
theorem dX12_hooks_151 : decode cX12_hooks 151 = .ok (.iload 4, 2) := by decide +kernel
theorem dX12_hooks_153 : decode cX12_hooks 153 = .ok (.iload 7, 2) := by decide +kernel
theorem dX12_hooks_155 : decode cX12_hooks 155 = .ok (.imul, 1) := by decide +kernel
theorem dX12_hooks_156 : decode cX12_hooks 156 = .ok (.iload 6, 2) := by decide +kernel
theorem dX12_hooks_158 : decode cX12_hooks 158 = .ok (.iload 7, 2) := by decide +kernel
theorem dX12_hooks_160 : decode cX12_hooks 160 = .ok (.iadd, 1) := by decide +kernel
theorem dX12_hooks_161 : decode cX12_hooks 161 = .ok (.idiv, 1) := by decide +kernel
theorem dX12_hooks_162 : decode cX12_hooks 162 = .ok (.istore 9, 2) := by decide +kernel
theorem dX12_hooks_164 : decode cX12_hooks 164 = .ok (.iload 4, 2) := by decide +kernel
theorem dX12_hooks_166 : decode cX12_hooks 166 = .ok (.iload 8, 2) := by decide +kernel
theorem dX12_hooks_168 : decode cX12_hooks 168 = .ok (.isub, 1) := by decide +kernel
theorem dX12_hooks_169 : decode cX12_hooks 169 = .ok (.iload 9, 2) := by decide +kernel
theorem dX12_hooks_171 : decode cX12_hooks 171 = .ok (.isub, 1) := by decide +kernel
theorem dX12_hooks_172 : decode cX12_hooks 172 = .ok (.istore 10, 2) := by decide +kernel
theorem dX12_hooks_174 : decode cX12_hooks 174 = .ok (.iload 5, 2) := by decide +kernel
theorem dX12_hooks_176 : decode cX12_hooks 176 = .ok (.ifCond .eq 24, 3) := by decide +kernel
theorem dX12_hooks_179 : decode cX12_hooks 179 = .ok (.aload_n 0, 1) := by decide +kernel
theorem dX12_hooks_18 : decode cX12_hooks 18 = .ok (.ifCond .eq 16, 3) := by decide +kernel
theorem dX12_hooks_180 : decode cX12_hooks 180 = .ok (.iload 9, 2) := by decide +kernel
theorem dX12_hooks_182 : decode cX12_hooks 182 = .ok (.iload 6, 2) := by decide +kernel
theorem dX12_hooks_184 : decode cX12_hooks 184 = .ok (.iload 7, 2) := by decide +kernel
theorem dX12_hooks_186 : decode cX12_hooks 186 = .ok (.if_icmp .ge 8, 3) := by decide +kernel
theorem dX12_hooks_189 : decode cX12_hooks 189 = .ok (.iload 10, 2) := by decide +kernel
theorem dX12_hooks_191 : decode cX12_hooks 191 = .ok (.goto 4, 3) := by decide +kernel
theorem dX12_hooks_194 : decode cX12_hooks 194 = .ok (.iconst 0, 1) := by decide +kernel
theorem dX12_hooks_195 : decode cX12_hooks 195 = .ok (.iadd, 1) := by decide +kernel
theorem dX12_hooks_196 : decode cX12_hooks 196 = .ok (.invokevirtual 46, 3) := by decide +kernel
theorem dX12_hooks_199 : decode cX12_hooks 199 = .ok (.ireturn, 1) := by decide +kernel
theorem dX12_hooks_2 : decode cX12_hooks 2 = .ok (.putfield 36, 3) := by decide +kernel
theorem dX12_hooks_200 : decode cX12_hooks 200 = .ok (.aload_n 0, 1) := by decide +kernel
theorem dX12_hooks_201 : decode cX12_hooks 201 = .ok (.iload 8, 2) := by decide +kernel
theorem dX12_hooks_203 : decode cX12_hooks 203 = .ok (.iload 6, 2) := by decide +kernel
theorem dX12_hooks_205 : decode cX12_hooks 205 = .ok (.iload 7, 2) := by decide +kernel
theorem dX12_hooks_207 : decode cX12_hooks 207 = .ok (.if_icmp .lt 8, 3) := by decide +kernel
theorem dX12_hooks_21 : decode cX12_hooks 21 = .ok (.aload_n 0, 1) := by decide +kernel
theorem dX12_hooks_210 : decode cX12_hooks 210 = .ok (.iload 10, 2) := by decide +kernel
theorem dX12_hooks_212 : decode cX12_hooks 212 = .ok (.goto 4, 3) := by decide +kernel
theorem dX12_hooks_215 : decode cX12_hooks 215 = .ok (.iconst 0, 1) := by decide +kernel
theorem dX12_hooks_216 : decode cX12_hooks 216 = .ok (.iadd, 1) := by decide +kernel
theorem dX12_hooks_217 : decode cX12_hooks 217 = .ok (.invokevirtual 46, 3) := by decide +kernel
theorem dX12_hooks_22 : decode cX12_hooks 22 = .ok (.iload_n 3, 1) := by decide +kernel
theorem dX12_hooks_220 : decode cX12_hooks 220 = .ok (.ireturn, 1) := by decide +kernel
theorem dX12_hooks_23 : decode cX12_hooks 23 = .ok (.invokevirtual 334, 3) := by decide +kernel
theorem dX12_hooks_26 : decode cX12_hooks 26 = .ok (.ifCond .eq 8, 3) := by decide +kernel
theorem dX12_hooks_29 : decode cX12_hooks 29 = .ok (.iload_n 2, 1) := by decide +kernel
theorem dX12_hooks_30 : decode cX12_hooks 30 = .ok (.iload_n 3, 1) := by decide +kernel
theorem dX12_hooks_31 : decode cX12_hooks 31 = .ok (.if_icmp .ne 9, 3) := by decide +kernel
theorem dX12_hooks_34 : decode cX12_hooks 34 = .ok (.aload_n 0, 1) := by decide +kernel
theorem dX12_hooks_35 : decode cX12_hooks 35 = .ok (.iconst 1, 1) := by decide +kernel
theorem dX12_hooks_36 : decode cX12_hooks 36 = .ok (.invokevirtual 42, 3) := by decide +kernel
theorem dX12_hooks_39 : decode cX12_hooks 39 = .ok (.ireturn, 1) := by decide +kernel
theorem dX12_hooks_40 : decode cX12_hooks 40 = .ok (.iload 4, 2) := by decide +kernel
theorem dX12_hooks_42 : decode cX12_hooks 42 = .ok (.iconst 0, 1) := by decide +kernel
theorem dX12_hooks_43 : decode cX12_hooks 43 = .ok (.sipush 999, 3) := by decide +kernel
theorem dX12_hooks_46 : decode cX12_hooks 46 = .ok (.invokestatic 115, 3) := by decide +kernel
theorem dX12_hooks_49 : decode cX12_hooks 49 = .ok (.ifCond .ne 9, 3) := by decide +kernel
theorem dX12_hooks_5 : decode cX12_hooks 5 = .ok (.aload_n 0, 1) := by decide +kernel
theorem dX12_hooks_52 : decode cX12_hooks 52 = .ok (.aload_n 0, 1) := by decide +kernel
theorem dX12_hooks_53 : decode cX12_hooks 53 = .ok (.iconst 2, 1) := by decide +kernel
theorem dX12_hooks_54 : decode cX12_hooks 54 = .ok (.invokevirtual 42, 3) := by decide +kernel
theorem dX12_hooks_57 : decode cX12_hooks 57 = .ok (.ireturn, 1) := by decide +kernel
theorem dX12_hooks_58 : decode cX12_hooks 58 = .ok (.aload_n 0, 1) := by decide +kernel
theorem dX12_hooks_59 : decode cX12_hooks 59 = .ok (.getfield 17, 3) := by decide +kernel
theorem dX12_hooks_6 : decode cX12_hooks 6 = .ok (.iload_n 1, 1) := by decide +kernel
theorem dX12_hooks_62 : decode cX12_hooks 62 = .ok (.bipush 18, 2) := by decide +kernel
theorem dX12_hooks_64 : decode cX12_hooks 64 = .ok (.iload_n 2, 1) := by decide +kernel
theorem dX12_hooks_65 : decode cX12_hooks 65 = .ok (.iadd, 1) := by decide +kernel
theorem dX12_hooks_66 : decode cX12_hooks 66 = .ok (.iaload, 1) := by decide +kernel
theorem dX12_hooks_67 : decode cX12_hooks 67 = .ok (.bipush (-2), 2) := by decide +kernel
theorem dX12_hooks_69 : decode cX12_hooks 69 = .ok (.if_icmp .eq 17, 3) := by decide +kernel
theorem dX12_hooks_7 : decode cX12_hooks 7 = .ok (.invokevirtual 320, 3) := by decide +kernel
theorem dX12_hooks_72 : decode cX12_hooks 72 = .ok (.aload_n 0, 1) := by decide +kernel
theorem dX12_hooks_73 : decode cX12_hooks 73 = .ok (.getfield 17, 3) := by decide +kernel
theorem dX12_hooks_76 : decode cX12_hooks 76 = .ok (.bipush 18, 2) := by decide +kernel
theorem dX12_hooks_78 : decode cX12_hooks 78 = .ok (.iload_n 3, 1) := by decide +kernel
theorem dX12_hooks_79 : decode cX12_hooks 79 = .ok (.iadd, 1) := by decide +kernel
theorem dX12_hooks_80 : decode cX12_hooks 80 = .ok (.iaload, 1) := by decide +kernel
theorem dX12_hooks_81 : decode cX12_hooks 81 = .ok (.bipush (-2), 2) := by decide +kernel
theorem dX12_hooks_83 : decode cX12_hooks 83 = .ok (.if_icmp .ne 9, 3) := by decide +kernel
theorem dX12_hooks_86 : decode cX12_hooks 86 = .ok (.aload_n 0, 1) := by decide +kernel
theorem dX12_hooks_87 : decode cX12_hooks 87 = .ok (.iconst 5, 1) := by decide +kernel
theorem dX12_hooks_88 : decode cX12_hooks 88 = .ok (.invokevirtual 42, 3) := by decide +kernel
theorem dX12_hooks_91 : decode cX12_hooks 91 = .ok (.ireturn, 1) := by decide +kernel
theorem dX12_hooks_92 : decode cX12_hooks 92 = .ok (.aload_n 0, 1) := by decide +kernel
theorem dX12_hooks_93 : decode cX12_hooks 93 = .ok (.iload_n 1, 1) := by decide +kernel
theorem dX12_hooks_94 : decode cX12_hooks 94 = .ok (.aload_n 0, 1) := by decide +kernel
theorem dX12_hooks_95 : decode cX12_hooks 95 = .ok (.getfield 17, 3) := by decide +kernel
theorem dX12_hooks_98 : decode cX12_hooks 98 = .ok (.bipush 18, 2) := by decide +kernel
def vfX12_hooks : List Cond := .code yX12_hooks cX12_hooks 11 (some .int) :: ([.fieldLink RX12 36 "HookPierModel" "thrown" "I", .methodLink RX12 320 yX12_isAnswer, .instanceMethod yX12_isAnswer, .selects RX12 yX12_isAnswer yX12_isAnswer, .initialized RX12, .code yX12_isAnswer cX12_isAnswer 2 (some .boolean), .fieldLink RX12 299 "HookPierModel" "pier" "LHookPierModel$Pier;", .methodLink RX12 42 yX12_refused, .instanceMethod yX12_refused, .selects RX12 yX12_refused yX12_refused, .code yX12_refused cX12_refused 2 (some .int), .fieldLink RX12 39 "HookPierModel" "trouble" "I", .fieldLink RX12 9 "HookPierModel" "where" "I", .methodLink RX12 334 yX12_isAsker, .instanceMethod yX12_isAsker, .selects RX12 yX12_isAsker yX12_isAsker, .code yX12_isAsker cX12_isAsker 2 (some .boolean), .methodLink RX12 115 yX12_in, .static yX12_in, .code yX12_in cX12_in 3 (some .boolean), .fieldLink RX12 17 "HookPierModel" "v" "[I", .methodLink RX12 346 yX12_wishOf, .instanceMethod yX12_wishOf, .selects RX12 yX12_wishOf yX12_wishOf, .code yX12_wishOf cX12_wishOf 3 (some .int), .methodLink RX12 307 yX12_spotOf, .instanceMethod yX12_spotOf, .selects RX12 yX12_spotOf yX12_spotOf, .code yX12_spotOf cX12_spotOf 2 (some .int), .methodLink RX12 310 yX12_fathomsOf, .instanceMethod yX12_fathomsOf, .selects RX12 yX12_fathomsOf yX12_fathomsOf, .code yX12_fathomsOf cX12_fathomsOf 2 (some .int), .methodLink RX12 313 yX12_baitOf, .instanceMethod yX12_baitOf, .selects RX12 yX12_baitOf yX12_baitOf, .code yX12_baitOf cX12_baitOf 2 (some .int), .methodLink RX12 316 yX11_wish, .instanceMethod yX11_wish, .selects RX11 yX11_wish yX11_wish, .initialized RX11, .code yX11_wish cX11_wish 5 (some .int), .fieldLink RX11 28 "HookPierModel$Pier" "hunger" "[I", .methodLink RX11 62 yX11_wishBy, .instanceMethod yX11_wishBy, .selects RX11 yX11_wishBy yX11_wishBy, .code yX11_wishBy cX11_wishBy 7 (some .int), .fieldLink RX11 19 "HookPierModel$Pier" "kind" "[I", .fieldLink RX11 22 "HookPierModel$Pier" "spot" "[I", .code yX12_apart cX12_apart 2 (some .int), .static yX12_apart, .methodLink RX11 70 yX11_cut, .static yX11_cut, .code yX11_cut cX11_cut 1 (some .int), .fieldLink RX11 25 "HookPierModel$Pier" "depth" "[I", .fieldLink RX11 31 "HookPierModel$Pier" "likes" "[I", .methodLink RX12 46 yX12_good, .instanceMethod yX12_good, .selects RX12 yX12_good yX12_good, .code yX12_good cX12_good 2 (some .int)] ++ wsX120 ++ wsX110)
theorem ifX12_hooks_X12 : ∀ w ∈ wsX120, w ∈ vfX12_hooks := fun _ h => List.mem_cons_of_mem _ (List.mem_append_left _ (List.mem_append_right _ h))
theorem ifX12_hooks_X11 : ∀ w ∈ wsX110, w ∈ vfX12_hooks := fun _ h => List.mem_cons_of_mem _ (List.mem_append_right _ h)
set_option maxRecDepth 20000 in
theorem gfX12_hooks_0 : GoodIn vfX12_hooks (wsV RX12 320 RX12 yX12_isAnswer vfX12_isAnswer) := goodIn_app (goodIn_r [.methodLink RX12 320 yX12_isAnswer, .instanceMethod yX12_isAnswer, .selects RX12 yX12_isAnswer yX12_isAnswer, .initialized RX12] [2, 3, 4, 5] (by decide +kernel) (by decide +kernel)) (goodIn_ca (goodIn_ca (goodIn_r (.code yX12_isAnswer cX12_isAnswer 2 (some .boolean) :: [.fieldLink RX12 299 "HookPierModel" "pier" "LHookPierModel$Pier;"]) [6, 7] (by decide +kernel) (by decide +kernel) : GoodIn vfX12_hooks (.code yX12_isAnswer cX12_isAnswer 2 (some .boolean) :: [.fieldLink RX12 299 "HookPierModel" "pier" "LHookPierModel$Pier;"])) (goodIn_sub ifX12_hooks_X12 (by decide +kernel))) (goodIn_sub ifX12_hooks_X11 (by decide +kernel)))
set_option maxRecDepth 20000 in
theorem gfX12_hooks_1 : GoodIn vfX12_hooks (wsV RX12 42 RX12 yX12_refused vfX12_refused) := goodIn_app (goodIn_r [.methodLink RX12 42 yX12_refused, .instanceMethod yX12_refused, .selects RX12 yX12_refused yX12_refused, .initialized RX12] [8, 9, 10, 5] (by decide +kernel) (by decide +kernel)) (goodIn_ca (goodIn_r (.code yX12_refused cX12_refused 2 (some .int) :: [.fieldLink RX12 39 "HookPierModel" "trouble" "I", .fieldLink RX12 9 "HookPierModel" "where" "I"]) [11, 12, 13] (by decide +kernel) (by decide +kernel) : GoodIn vfX12_hooks (.code yX12_refused cX12_refused 2 (some .int) :: [.fieldLink RX12 39 "HookPierModel" "trouble" "I", .fieldLink RX12 9 "HookPierModel" "where" "I"])) (goodIn_sub ifX12_hooks_X12 (by decide +kernel)))
set_option maxRecDepth 20000 in
theorem gfX12_hooks_2 : GoodIn vfX12_hooks (wsV RX12 334 RX12 yX12_isAsker vfX12_isAsker) := goodIn_app (goodIn_r [.methodLink RX12 334 yX12_isAsker, .instanceMethod yX12_isAsker, .selects RX12 yX12_isAsker yX12_isAsker, .initialized RX12] [14, 15, 16, 5] (by decide +kernel) (by decide +kernel)) (goodIn_ca (goodIn_ca (goodIn_r (.code yX12_isAsker cX12_isAsker 2 (some .boolean) :: [.fieldLink RX12 299 "HookPierModel" "pier" "LHookPierModel$Pier;"]) [17, 7] (by decide +kernel) (by decide +kernel) : GoodIn vfX12_hooks (.code yX12_isAsker cX12_isAsker 2 (some .boolean) :: [.fieldLink RX12 299 "HookPierModel" "pier" "LHookPierModel$Pier;"])) (goodIn_sub ifX12_hooks_X12 (by decide +kernel))) (goodIn_sub ifX12_hooks_X11 (by decide +kernel)))
set_option maxRecDepth 20000 in
theorem gfX12_hooks_3 : GoodIn vfX12_hooks (va_wsS RX12 115 yX12_in vfX12_in) := goodIn_app (goodIn_r [.methodLink RX12 115 yX12_in, .static yX12_in, .initialized RX12] [18, 19, 5] (by decide +kernel) (by decide +kernel)) (goodIn_r (.code yX12_in cX12_in 3 (some .boolean) :: []) [20] (by decide +kernel) (by decide +kernel) : GoodIn vfX12_hooks (.code yX12_in cX12_in 3 (some .boolean) :: []))
set_option maxRecDepth 20000 in
theorem gfX12_hooks_4 : GoodIn vfX12_hooks (wsV RX12 346 RX12 yX12_wishOf vfX12_wishOf) := goodIn_app (goodIn_r [.methodLink RX12 346 yX12_wishOf, .instanceMethod yX12_wishOf, .selects RX12 yX12_wishOf yX12_wishOf, .initialized RX12] [22, 23, 24, 5] (by decide +kernel) (by decide +kernel)) (goodIn_ca (goodIn_ca (goodIn_r (.code yX12_wishOf cX12_wishOf 3 (some .int) :: [.fieldLink RX12 299 "HookPierModel" "pier" "LHookPierModel$Pier;", .methodLink RX12 307 yX12_spotOf, .instanceMethod yX12_spotOf, .selects RX12 yX12_spotOf yX12_spotOf, .initialized RX12, .code yX12_spotOf cX12_spotOf 2 (some .int), .methodLink RX12 310 yX12_fathomsOf, .instanceMethod yX12_fathomsOf, .selects RX12 yX12_fathomsOf yX12_fathomsOf, .code yX12_fathomsOf cX12_fathomsOf 2 (some .int), .methodLink RX12 313 yX12_baitOf, .instanceMethod yX12_baitOf, .selects RX12 yX12_baitOf yX12_baitOf, .code yX12_baitOf cX12_baitOf 2 (some .int), .methodLink RX12 316 yX11_wish, .instanceMethod yX11_wish, .selects RX11 yX11_wish yX11_wish, .initialized RX11, .code yX11_wish cX11_wish 5 (some .int), .fieldLink RX11 28 "HookPierModel$Pier" "hunger" "[I", .methodLink RX11 62 yX11_wishBy, .instanceMethod yX11_wishBy, .selects RX11 yX11_wishBy yX11_wishBy, .code yX11_wishBy cX11_wishBy 7 (some .int), .fieldLink RX11 19 "HookPierModel$Pier" "kind" "[I", .fieldLink RX11 22 "HookPierModel$Pier" "spot" "[I", .code yX12_apart cX12_apart 2 (some .int), .static yX12_apart, .methodLink RX11 70 yX11_cut, .static yX11_cut, .code yX11_cut cX11_cut 1 (some .int), .fieldLink RX11 25 "HookPierModel$Pier" "depth" "[I", .fieldLink RX11 31 "HookPierModel$Pier" "likes" "[I"]) [25, 7, 26, 27, 28, 5, 29, 30, 31, 32, 33, 34, 35, 36, 37, 38, 39, 40, 41, 42, 43, 44, 45, 46, 47, 48, 49, 50, 51, 52, 53, 54, 55, 56] (by decide +kernel) (by decide +kernel) : GoodIn vfX12_hooks (.code yX12_wishOf cX12_wishOf 3 (some .int) :: [.fieldLink RX12 299 "HookPierModel" "pier" "LHookPierModel$Pier;", .methodLink RX12 307 yX12_spotOf, .instanceMethod yX12_spotOf, .selects RX12 yX12_spotOf yX12_spotOf, .initialized RX12, .code yX12_spotOf cX12_spotOf 2 (some .int), .methodLink RX12 310 yX12_fathomsOf, .instanceMethod yX12_fathomsOf, .selects RX12 yX12_fathomsOf yX12_fathomsOf, .code yX12_fathomsOf cX12_fathomsOf 2 (some .int), .methodLink RX12 313 yX12_baitOf, .instanceMethod yX12_baitOf, .selects RX12 yX12_baitOf yX12_baitOf, .code yX12_baitOf cX12_baitOf 2 (some .int), .methodLink RX12 316 yX11_wish, .instanceMethod yX11_wish, .selects RX11 yX11_wish yX11_wish, .initialized RX11, .code yX11_wish cX11_wish 5 (some .int), .fieldLink RX11 28 "HookPierModel$Pier" "hunger" "[I", .methodLink RX11 62 yX11_wishBy, .instanceMethod yX11_wishBy, .selects RX11 yX11_wishBy yX11_wishBy, .code yX11_wishBy cX11_wishBy 7 (some .int), .fieldLink RX11 19 "HookPierModel$Pier" "kind" "[I", .fieldLink RX11 22 "HookPierModel$Pier" "spot" "[I", .code yX12_apart cX12_apart 2 (some .int), .static yX12_apart, .methodLink RX11 70 yX11_cut, .static yX11_cut, .code yX11_cut cX11_cut 1 (some .int), .fieldLink RX11 25 "HookPierModel$Pier" "depth" "[I", .fieldLink RX11 31 "HookPierModel$Pier" "likes" "[I"])) (goodIn_sub ifX12_hooks_X12 (by decide +kernel))) (goodIn_sub ifX12_hooks_X11 (by decide +kernel)))
set_option maxRecDepth 20000 in
theorem gfX12_hooks_5 : GoodIn vfX12_hooks (wsV RX12 46 RX12 yX12_good vfX12_good) := goodIn_app (goodIn_r [.methodLink RX12 46 yX12_good, .instanceMethod yX12_good, .selects RX12 yX12_good yX12_good, .initialized RX12] [57, 58, 59, 5] (by decide +kernel) (by decide +kernel)) (goodIn_ca (goodIn_r (.code yX12_good cX12_good 2 (some .int) :: [.fieldLink RX12 39 "HookPierModel" "trouble" "I", .fieldLink RX12 9 "HookPierModel" "where" "I"]) [60, 12, 13] (by decide +kernel) (by decide +kernel) : GoodIn vfX12_hooks (.code yX12_good cX12_good 2 (some .int) :: [.fieldLink RX12 39 "HookPierModel" "trouble" "I", .fieldLink RX12 9 "HookPierModel" "where" "I"])) (goodIn_sub ifX12_hooks_X12 (by decide +kernel)))
set_option maxHeartbeats 2000000 in
set_option maxRecDepth 100000 in
theorem kfX12_hooks (l : Launch) (dC : Nat → ClassId) (dI : Nat → Nat → Nat) (a0 : Nat) (k1 : Int32) (k2 : Int32) (k3 : Int32) (k4 : Int32) (k5 : Int32) (a6 : Nat) (a7 : Nat) (uq : Nat → Nat) (kq : Nat → ClassId) (m_t : TX12_t) (m_v : TX12_v) (g12 : Value) (g13 : Value) (g14 : Value) (g15 : Value) (g16 : Value) (g17 : Value) (g18 : Value) (g19 : Value) (g20 : Value) (g21 : Value) (g22 : Value) (g23 : Value) (g24 : Value) (g25 : Value) (g26 : Value) (g27 : Value) (g28 : Value) (g29 : Value) (g30 : Value) (g31 : Value) (g32 : Value) (g33 : Value) (g34 : Value) (g35 : Value) (g36 : Value) (q_q : TX11_q) (cB38 : ClassId) (sz : Nat) (out : (Int32 × TX12_t)) (h : f_X12_hooks k1 k2 k3 k4 k5 m_t m_v q_q = some out) : Met l yX12_hooks vfX12_hooks ({ frames := 4, cells := 0, slots := 0, locals := 93 }) (PC (dC, dI) [.ref a0, .int k1, .int k2, .int k3, .int k4, .int k5] sz ((a0, .inr (9, [.int m_t.1, .int m_t.2.1, .int m_t.2.2, .ref a6, g12, g13, g14, g15, g16, g17, g18, g19, g20, g21, g22, .ref a7, g23, g24, g25, g26, g27, g28, g29, g30, g31, g32, g33, g34, g35, g36])) :: bX11 a6 uq kq q_q ([(a7, .inl (cB38, 26, .inl m_v))])) (tX11 kq ((cB38, .int) :: []))) (va_Qi (S := Unit) (fun (r : Int32) _ => r = out.1) (fun _ t => BC (dC, dI) (va_A ((a0, .inr (9, [.int m_t.1, .int m_t.2.1, .int m_t.2.2, .ref a6, g12, g13, g14, g15, g16, g17, g18, g19, g20, g21, g22, .ref a7, g23, g24, g25, g26, g27, g28, g29, g30, g31, g32, g33, g34, g35, g36])) :: bX11 a6 uq kq q_q ([(a7, .inl (cB38, 26, .inl m_v))])) sz) ((a0, .inr (9, [.int out.2.1, .int out.2.2.1, .int out.2.2.2, .ref a6, g12, g13, g14, g15, g16, g17, g18, g19, g20, g21, g22, .ref a7, g23, g24, g25, g26, g27, g28, g29, g30, g31, g32, g33, g34, g35, g36])) :: bX11 a6 uq kq q_q ([(a7, .inl (cB38, 26, .inl m_v))])) [] t) (va_A ((a0, .inr (9, [.int m_t.1, .int m_t.2.1, .int m_t.2.2, .ref a6, g12, g13, g14, g15, g16, g17, g18, g19, g20, g21, g22, .ref a7, g23, g24, g25, g26, g27, g28, g29, g30, g31, g32, g33, g34, g35, g36])) :: bX11 a6 uq kq q_q ([(a7, .inl (cB38, 26, .inl m_v))])) sz)) 0 0 (va_A ((a0, .inr (9, [.int m_t.1, .int m_t.2.1, .int m_t.2.2, .ref a6, g12, g13, g14, g15, g16, g17, g18, g19, g20, g21, g22, .ref a7, g23, g24, g25, g26, g27, g28, g29, g30, g31, g32, g33, g34, g35, g36])) :: bX11 a6 uq kq q_q ([(a7, .inl (cB38, 26, .inl m_v))])) sz) := by
  refine Met.ofW (cc := cX12_hooks) (maxL := 11) (ret := (some .int)) (by decide) rfl ?_
  intro p e s m args below meth c s₁ B0 hml hv
  obtain ⟨rfl, hsz, hP, hK, hD0, hN⟩ := hv
  have hx := B0.exec
  have hb := B0.bytes
  have hr := B0.returns
  have hts := atoms_spec (ws := vfX12_hooks) B0.pre
  have hown : s.vm.findClass RX12 = some m.cls := findClass_of_methodNamed B0.named
  have hlocks := B0.notSynchronized
  subst hsz
  have hD := hD0.self (sz := s.heap.size)
  generalize hAe : va_A ((a0, .inr (9, [.int m_t.1, .int m_t.2.1, .int m_t.2.2, .ref a6, g12, g13, g14, g15, g16, g17, g18, g19, g20, g21, g22, .ref a7, g23, g24, g25, g26, g27, g28, g29, g30, g31, g32, g33, g34, g35, g36])) :: bX11 a6 uq kq q_q ([(a7, .inl (cB38, 26, .inl m_v))])) s.heap.size = A at hD ⊢
  have hA : ∀ q : Nat, s.heap.size ≤ q → A q := fun q h => by rw [← hAe]; exact Or.inr h
  have hS : va_S A s.heap s.heap [] := va_S.rf
  have hP : va_P (dC, dI) vwCl ((a0, .inr (9, [.int m_t.1, .int m_t.2.1, .int m_t.2.2, .ref a6, g12, g13, g14, g15, g16, g17, g18, g19, g20, g21, g22, .ref a7, g23, g24, g25, g26, g27, g28, g29, g30, g31, g32, g33, g34, g35, g36])) :: bX11 a6 uq kq q_q ([(a7, .inl (cB38, 26, .inl m_v))])) s.heap := hP
  have hl := lv_entry ([.ref a0, .int k1, .int k2, .int k3, .int k4, .int k5]) (n := 11) (Nat.le_of_ble_eq_true rfl)
  rw [lg_entry_eq]
  generalize (lg_sl ([.ref a0, .int k1, .int k2, .int k3, .int k4, .int k5]) ++ List.replicate (11 - (lg_sl ([.ref a0, .int k1, .int k2, .int k3, .int k4, .int k5])).length) Slot.unset).toArray = ls at hl ⊢
  have hl : lv_has ls 11 [(0, .ref a0), (1, .int k1), (2, .int k2), (3, .int k3), (4, .int k4), (5, .int k5)] := hl
  refine W_q (fun QQ hQQ => ?_)
  rw [f_X12_hooks] at h
  refine lv_aload_n hx hb dX12_hooks_0 rfl (lv_at hl 0 rfl) ?_
  refine lv_iconst (v := 0) hx hb dX12_hooks_1 (by decide) ?_
  refine va_put (D := (dC, dI)) (ci := 9) (v := .int 0) (ty := .int) (C := RX12) (T := TX12) (N := 30) hx hb hts ifX12_hooks_X12 tyX12 tyX12_ok nmX12 hown hK hP hD hS 0 rfl rfl 0 (by decide) (hts (.fieldLink RX12 36 "HookPierModel" "thrown" "I") (List.mem_of_getElem? (i := 1) rfl)) (fun _ h9 => h9) rfl (by decide +kernel) rfl rfl (Nat.le_of_ble_eq_true rfl) dX12_hooks_2 (fun H locs hP hD hS => ?_)
  have hP : va_P (dC, dI) vwCl ((a0, .inr (9, [.int 0, .int m_t.2.1, .int m_t.2.2, .ref a6, g12, g13, g14, g15, g16, g17, g18, g19, g20, g21, g22, .ref a7, g23, g24, g25, g26, g27, g28, g29, g30, g31, g32, g33, g34, g35, g36])) :: bX11 a6 uq kq q_q ([(a7, .inl (cB38, 26, .inl m_v))])) H := hP
  have hD : va_D A ((a0, .inr (9, [.int 0, .int m_t.2.1, .int m_t.2.2, .ref a6, g12, g13, g14, g15, g16, g17, g18, g19, g20, g21, g22, .ref a7, g23, g24, g25, g26, g27, g28, g29, g30, g31, g32, g33, g34, g35, g36])) :: bX11 a6 uq kq q_q ([(a7, .inl (cB38, 26, .inl m_v))])) := hD
  refine lv_aload_n hx hb dX12_hooks_5 rfl (lv_at hl 0 rfl) ?_
  refine lv_iload_n hx hb dX12_hooks_6 rfl (lv_at hl 1 rfl) ?_
  obtain ⟨o7, eo7⟩ : ∃ o, o = f_X12_isAnswer k1 q_q := ⟨_, rfl⟩
  have h := nm_of h o7 eo7
  refine cl_i (wc := ((a0, .inr (9, [.int 0, .int m_t.2.1, .int m_t.2.2, .ref a6, g12, g13, g14, g15, g16, g17, g18, g19, g20, g21, g22, .ref a7, g23, g24, g25, g26, g27, g28, g29, g30, g31, g32, g33, g34, g35, g36])) :: bX11 a6 uq kq q_q [])) (wr := ([(a7, .inl (cB38, 26, .inl m_v))])) (va_runV (As := [.int k1]) (rest := []) ⟨hx, hb, hml, hown, hts⟩ (kfX12_isAnswer l dC dI a0 k1 a6 uq kq (.int 0) (.int m_t.2.1) (.int m_t.2.2) (g12) (g13) (g14) (g15) (g16) (g17) (g18) (g19) (g20) (g21) (g22) (.ref a7) (g23) (g24) (g25) (g26) (g27) (g28) (g29) (g30) (g31) (g32) (g33) (g34) (g35) (g36) q_q H.size o7 eo7.symm) (cwV 1 hts gfX12_hooks_0 rfl rfl rfl (by decide +kernel) ⟨(Nat.le_of_ble_eq_true rfl), (Nat.le_of_ble_eq_true rfl)⟩) (PV (hP.sub (ws' := ((a0, .inr (9, [.int 0, .int m_t.2.1, .int m_t.2.2, .ref a6, g12, g13, g14, g15, g16, g17, g18, g19, g20, g21, g22, .ref a7, g23, g24, g25, g26, g27, g28, g29, g30, g31, g32, g33, g34, g35, g36])) :: bX11 a6 uq kq q_q [])) [0, 1, 2, 3, 4, 5, 6, 7, 8, 9, 10, 11, 12, 13, 14, 15] rfl) (hK.sub (tys' := (tX11 kq ([]))) [0, 1, 2, 3, 4, 5, 6, 7, 8, 9, 10, 11, 12, 13] rfl) (hD.sub (ws' := ((a0, .inr (9, [.int 0, .int m_t.2.1, .int m_t.2.2, .ref a6, g12, g13, g14, g15, g16, g17, g18, g19, g20, g21, g22, .ref a7, g23, g24, g25, g26, g27, g28, g29, g30, g31, g32, g33, g34, g35, g36])) :: bX11 a6 uq kq q_q [])) [0, 1, 2, 3, 4, 5, 6, 7, 8, 9, 10, 11, 12, 13, 14, 15] (by decide) rfl) hN 0 rfl rfl) rfl rfl hl.1 rfl (lv_room (Nat.le_of_ble_eq_true rfl)) dX12_hooks_7 ⟨(Nat.le_of_ble_eq_true rfl), (Nat.le_of_ble_eq_true rfl)⟩) hP hD hK hS hA [0, 1, 2, 3, 4, 5, 6, 7, 8, 9, 10, 11, 12, 13, 14, 15] [16] rfl rfl (by decide) (by decide) (fun r7 _ H locs hw hP hD _ hS => ?_)
  obtain ⟨hw, br7⟩ := hw
  obtain rfl := hw.symm
  have hP : va_P (dC, dI) vwCl ((a7, .inl (cB38, 26, .inl m_v)) :: (a0, .inr (9, [.int 0, .int m_t.2.1, .int m_t.2.2, .ref a6, g12, g13, g14, g15, g16, g17, g18, g19, g20, g21, g22, .ref a7, g23, g24, g25, g26, g27, g28, g29, g30, g31, g32, g33, g34, g35, g36])) :: bX11 a6 uq kq q_q []) H := hP
  have hD : va_D A ((a7, .inl (cB38, 26, .inl m_v)) :: (a0, .inr (9, [.int 0, .int m_t.2.1, .int m_t.2.2, .ref a6, g12, g13, g14, g15, g16, g17, g18, g19, g20, g21, g22, .ref a7, g23, g24, g25, g26, g27, g28, g29, g30, g31, g32, g33, g34, g35, g36])) :: bX11 a6 uq kq q_q []) := hD
  have J34 : ∀ (H : Heap) (locs : List Loc) (ls : Array Slot), f_X12_hooks_J34 m_t = some out → va_P (dC, dI) vwCl ((a7, .inl (cB38, 26, .inl m_v)) :: (a0, .inr (9, [.int 0, .int m_t.2.1, .int m_t.2.2, .ref a6, g12, g13, g14, g15, g16, g17, g18, g19, g20, g21, g22, .ref a7, g23, g24, g25, g26, g27, g28, g29, g30, g31, g32, g33, g34, g35, g36])) :: bX11 a6 uq kq q_q []) H → va_D A ((a7, .inl (cB38, 26, .inl m_v)) :: (a0, .inr (9, [.int 0, .int m_t.2.1, .int m_t.2.2, .ref a6, g12, g13, g14, g15, g16, g17, g18, g19, g20, g21, g22, .ref a7, g23, g24, g25, g26, g27, g28, g29, g30, g31, g32, g33, g34, g35, g36])) :: bX11 a6 uq kq q_q []) → va_S A s.heap H locs → lv_has ls 11 [(0, .ref a0)] → W p l e (headSpec vfX12_hooks { frames := 4, cells := 0, slots := 0, locals := 93 }).room s m ([.ref a0, .int k1, .int k2, .int k3, .int k4, .int k5]).toArray below meth c H locs 0 0 QQ (F0 m 34 ls []) := by
    intro  H locs ls h  hP hD hS hl
    rw [f_X12_hooks_J34] at h
    refine lv_aload_n hx hb dX12_hooks_34 rfl (lv_at hl 0 rfl) ?_
    refine lv_iconst (v := 1) hx hb dX12_hooks_35 (by decide) ?_
    obtain ⟨o36, eo36⟩ : ∃ o, o = f_X12_refused (1 : Int32) ((0 : Int32), m_t.2) := ⟨_, rfl⟩
    have h := nm_of h o36 eo36
    refine cl_i (wc := ([(a0, .inr (9, [.int 0, .int m_t.2.1, .int m_t.2.2, .ref a6, g12, g13, g14, g15, g16, g17, g18, g19, g20, g21, g22, .ref a7, g23, g24, g25, g26, g27, g28, g29, g30, g31, g32, g33, g34, g35, g36]))])) (wr := ((a7, .inl (cB38, 26, .inl m_v)) :: bX11 a6 uq kq q_q [])) (va_runV (As := [.int 1]) (rest := []) ⟨hx, hb, hml, hown, hts⟩ (kfX12_refused l dC dI a0 (1 : Int32) ((0 : Int32), m_t.2) (.ref a6) (g12) (g13) (g14) (g15) (g16) (g17) (g18) (g19) (g20) (g21) (g22) (.ref a7) (g23) (g24) (g25) (g26) (g27) (g28) (g29) (g30) (g31) (g32) (g33) (g34) (g35) (g36) H.size o36 eo36.symm) (cwV 1 hts gfX12_hooks_1 rfl rfl rfl (by decide +kernel) ⟨(Nat.le_of_ble_eq_true rfl), (Nat.le_of_ble_eq_true rfl)⟩) (PV (hP.sub (ws' := ([(a0, .inr (9, [.int 0, .int m_t.2.1, .int m_t.2.2, .ref a6, g12, g13, g14, g15, g16, g17, g18, g19, g20, g21, g22, .ref a7, g23, g24, g25, g26, g27, g28, g29, g30, g31, g32, g33, g34, g35, g36]))])) [1] rfl) (hK.sub (tys' := ([])) [] rfl) (hD.sub (ws' := ([(a0, .inr (9, [.int 0, .int m_t.2.1, .int m_t.2.2, .ref a6, g12, g13, g14, g15, g16, g17, g18, g19, g20, g21, g22, .ref a7, g23, g24, g25, g26, g27, g28, g29, g30, g31, g32, g33, g34, g35, g36]))])) [1] (by decide) rfl) hN 0 rfl rfl) rfl rfl hl.1 rfl (lv_room (Nat.le_of_ble_eq_true rfl)) dX12_hooks_36 ⟨(Nat.le_of_ble_eq_true rfl), (Nat.le_of_ble_eq_true rfl)⟩) hP hD hK hS hA [1] [0, 2, 3, 4, 5, 6, 7, 8, 9, 10, 11, 12, 13, 14, 15, 16] rfl rfl (by decide) (by decide) (fun r36 _ H locs hw hP hD _ hS => ?_)
    obtain rfl := hw
    have hP : va_P (dC, dI) vwCl ((a7, .inl (cB38, 26, .inl m_v)) :: bX11 a6 uq kq q_q ([(a0, .inr (9, [.int o36.1, .int o36.2.1, .int o36.2.2, .ref a6, g12, g13, g14, g15, g16, g17, g18, g19, g20, g21, g22, .ref a7, g23, g24, g25, g26, g27, g28, g29, g30, g31, g32, g33, g34, g35, g36]))])) H := hP
    have hD : va_D A ((a7, .inl (cB38, 26, .inl m_v)) :: bX11 a6 uq kq q_q ([(a0, .inr (9, [.int o36.1, .int o36.2.1, .int o36.2.2, .ref a6, g12, g13, g14, g15, g16, g17, g18, g19, g20, g21, g22, .ref a7, g23, g24, g25, g26, g27, g28, g29, g30, g31, g32, g33, g34, g35, g36]))])) := hD
    obtain rfl := Option.some.inj h
    have hP9 := hP.sub (ws' := ((a0, .inr (9, [.int o36.1, .int o36.2.1, .int o36.2.2, .ref a6, g12, g13, g14, g15, g16, g17, g18, g19, g20, g21, g22, .ref a7, g23, g24, g25, g26, g27, g28, g29, g30, g31, g32, g33, g34, g35, g36])) :: bX11 a6 uq kq q_q ([(a7, .inl (cB38, 26, .inl m_v))]))) [16, 1, 2, 3, 4, 5, 6, 7, 8, 9, 10, 11, 12, 13, 14, 15, 0] rfl
    have hD9 := hD.sub (ws' := ((a0, .inr (9, [.int o36.1, .int o36.2.1, .int o36.2.2, .ref a6, g12, g13, g14, g15, g16, g17, g18, g19, g20, g21, g22, .ref a7, g23, g24, g25, g26, g27, g28, g29, g30, g31, g32, g33, g34, g35, g36])) :: bX11 a6 uq kq q_q ([(a7, .inl (cB38, 26, .inl m_v))]))) [16, 1, 2, 3, 4, 5, 6, 7, 8, 9, 10, 11, 12, 13, 14, 15, 0] (by decide) rfl
    have hK9 := hK.sub (tys' := []) [] rfl
    rw [hQQ]
    exact W.iret (v := (-1 : Int32)) hx hb hr (fun t ht hW => ⟨⟨(-1 : Int32), (), rfl, rfl, by rw [ht]; exact hP9, va_K.moved hW.alike hK9, hD9⟩, hS.F ht⟩) hS.2.2 dX12_hooks_39
  refine lv_if_eq (tgt := 34) hx hb dX12_hooks_10 (by decide) (fun c10 => ?_) (fun c10 => ?_)
  · have h := (if_pos c10).symm.trans h
    exact J34  H _ ls h  hP hD hS (lv_sub hl [0] rfl)
  · have h := (if_neg c10).symm.trans h
    refine lv_aload_n hx hb dX12_hooks_13 rfl (lv_at hl 0 rfl) ?_
    refine lv_iload_n hx hb dX12_hooks_14 rfl (lv_at hl 2 rfl) ?_
    obtain ⟨o15, eo15⟩ : ∃ o, o = f_X12_isAsker k2 q_q := ⟨_, rfl⟩
    have h := nm_of h o15 eo15
    refine cl_i (wc := ((a0, .inr (9, [.int 0, .int m_t.2.1, .int m_t.2.2, .ref a6, g12, g13, g14, g15, g16, g17, g18, g19, g20, g21, g22, .ref a7, g23, g24, g25, g26, g27, g28, g29, g30, g31, g32, g33, g34, g35, g36])) :: bX11 a6 uq kq q_q [])) (wr := ([(a7, .inl (cB38, 26, .inl m_v))])) (va_runV (As := [.int k2]) (rest := []) ⟨hx, hb, hml, hown, hts⟩ (kfX12_isAsker l dC dI a0 k2 a6 uq kq (.int 0) (.int m_t.2.1) (.int m_t.2.2) (g12) (g13) (g14) (g15) (g16) (g17) (g18) (g19) (g20) (g21) (g22) (.ref a7) (g23) (g24) (g25) (g26) (g27) (g28) (g29) (g30) (g31) (g32) (g33) (g34) (g35) (g36) q_q H.size o15 eo15.symm) (cwV 1 hts gfX12_hooks_2 rfl rfl rfl (by decide +kernel) ⟨(Nat.le_of_ble_eq_true rfl), (Nat.le_of_ble_eq_true rfl)⟩) (PV (hP.sub (ws' := ((a0, .inr (9, [.int 0, .int m_t.2.1, .int m_t.2.2, .ref a6, g12, g13, g14, g15, g16, g17, g18, g19, g20, g21, g22, .ref a7, g23, g24, g25, g26, g27, g28, g29, g30, g31, g32, g33, g34, g35, g36])) :: bX11 a6 uq kq q_q [])) [1, 2, 3, 4, 5, 6, 7, 8, 9, 10, 11, 12, 13, 14, 15, 16] rfl) (hK.sub (tys' := (tX11 kq ([]))) [0, 1, 2, 3, 4, 5, 6, 7, 8, 9, 10, 11, 12, 13] rfl) (hD.sub (ws' := ((a0, .inr (9, [.int 0, .int m_t.2.1, .int m_t.2.2, .ref a6, g12, g13, g14, g15, g16, g17, g18, g19, g20, g21, g22, .ref a7, g23, g24, g25, g26, g27, g28, g29, g30, g31, g32, g33, g34, g35, g36])) :: bX11 a6 uq kq q_q [])) [1, 2, 3, 4, 5, 6, 7, 8, 9, 10, 11, 12, 13, 14, 15, 16] (by decide) rfl) hN 0 rfl rfl) rfl rfl hl.1 rfl (lv_room (Nat.le_of_ble_eq_true rfl)) dX12_hooks_15 ⟨(Nat.le_of_ble_eq_true rfl), (Nat.le_of_ble_eq_true rfl)⟩) hP hD hK hS hA [1, 2, 3, 4, 5, 6, 7, 8, 9, 10, 11, 12, 13, 14, 15, 16] [0] rfl rfl (by decide) (by decide) (fun r15 _ H locs hw hP hD _ hS => ?_)
    obtain ⟨hw, br15⟩ := hw
    obtain rfl := hw.symm
    have hP : va_P (dC, dI) vwCl ((a7, .inl (cB38, 26, .inl m_v)) :: (a0, .inr (9, [.int 0, .int m_t.2.1, .int m_t.2.2, .ref a6, g12, g13, g14, g15, g16, g17, g18, g19, g20, g21, g22, .ref a7, g23, g24, g25, g26, g27, g28, g29, g30, g31, g32, g33, g34, g35, g36])) :: bX11 a6 uq kq q_q []) H := hP
    have hD : va_D A ((a7, .inl (cB38, 26, .inl m_v)) :: (a0, .inr (9, [.int 0, .int m_t.2.1, .int m_t.2.2, .ref a6, g12, g13, g14, g15, g16, g17, g18, g19, g20, g21, g22, .ref a7, g23, g24, g25, g26, g27, g28, g29, g30, g31, g32, g33, g34, g35, g36])) :: bX11 a6 uq kq q_q []) := hD
    refine lv_if_eq (tgt := 34) hx hb dX12_hooks_18 (by decide) (fun c18 => ?_) (fun c18 => ?_)
    · have h := (if_pos c18).symm.trans h
      exact J34  H _ ls h  hP hD hS (lv_sub hl [0] rfl)
    · have h := (if_neg c18).symm.trans h
      refine lv_aload_n hx hb dX12_hooks_21 rfl (lv_at hl 0 rfl) ?_
      refine lv_iload_n hx hb dX12_hooks_22 rfl (lv_at hl 3 rfl) ?_
      obtain ⟨o23, eo23⟩ : ∃ o, o = f_X12_isAsker k3 q_q := ⟨_, rfl⟩
      have h := nm_of h o23 eo23
      refine cl_i (wc := ((a0, .inr (9, [.int 0, .int m_t.2.1, .int m_t.2.2, .ref a6, g12, g13, g14, g15, g16, g17, g18, g19, g20, g21, g22, .ref a7, g23, g24, g25, g26, g27, g28, g29, g30, g31, g32, g33, g34, g35, g36])) :: bX11 a6 uq kq q_q [])) (wr := ([(a7, .inl (cB38, 26, .inl m_v))])) (va_runV (As := [.int k3]) (rest := []) ⟨hx, hb, hml, hown, hts⟩ (kfX12_isAsker l dC dI a0 k3 a6 uq kq (.int 0) (.int m_t.2.1) (.int m_t.2.2) (g12) (g13) (g14) (g15) (g16) (g17) (g18) (g19) (g20) (g21) (g22) (.ref a7) (g23) (g24) (g25) (g26) (g27) (g28) (g29) (g30) (g31) (g32) (g33) (g34) (g35) (g36) q_q H.size o23 eo23.symm) (cwV 1 hts gfX12_hooks_2 rfl rfl rfl (by decide +kernel) ⟨(Nat.le_of_ble_eq_true rfl), (Nat.le_of_ble_eq_true rfl)⟩) (PV (hP.sub (ws' := ((a0, .inr (9, [.int 0, .int m_t.2.1, .int m_t.2.2, .ref a6, g12, g13, g14, g15, g16, g17, g18, g19, g20, g21, g22, .ref a7, g23, g24, g25, g26, g27, g28, g29, g30, g31, g32, g33, g34, g35, g36])) :: bX11 a6 uq kq q_q [])) [1, 2, 3, 4, 5, 6, 7, 8, 9, 10, 11, 12, 13, 14, 15, 16] rfl) (hK.sub (tys' := (tX11 kq ([]))) [0, 1, 2, 3, 4, 5, 6, 7, 8, 9, 10, 11, 12, 13] rfl) (hD.sub (ws' := ((a0, .inr (9, [.int 0, .int m_t.2.1, .int m_t.2.2, .ref a6, g12, g13, g14, g15, g16, g17, g18, g19, g20, g21, g22, .ref a7, g23, g24, g25, g26, g27, g28, g29, g30, g31, g32, g33, g34, g35, g36])) :: bX11 a6 uq kq q_q [])) [1, 2, 3, 4, 5, 6, 7, 8, 9, 10, 11, 12, 13, 14, 15, 16] (by decide) rfl) hN 0 rfl rfl) rfl rfl hl.1 rfl (lv_room (Nat.le_of_ble_eq_true rfl)) dX12_hooks_23 ⟨(Nat.le_of_ble_eq_true rfl), (Nat.le_of_ble_eq_true rfl)⟩) hP hD hK hS hA [1, 2, 3, 4, 5, 6, 7, 8, 9, 10, 11, 12, 13, 14, 15, 16] [0] rfl rfl (by decide) (by decide) (fun r23 _ H locs hw hP hD _ hS => ?_)
      obtain ⟨hw, br23⟩ := hw
      obtain rfl := hw.symm
      have hP : va_P (dC, dI) vwCl ((a7, .inl (cB38, 26, .inl m_v)) :: (a0, .inr (9, [.int 0, .int m_t.2.1, .int m_t.2.2, .ref a6, g12, g13, g14, g15, g16, g17, g18, g19, g20, g21, g22, .ref a7, g23, g24, g25, g26, g27, g28, g29, g30, g31, g32, g33, g34, g35, g36])) :: bX11 a6 uq kq q_q []) H := hP
      have hD : va_D A ((a7, .inl (cB38, 26, .inl m_v)) :: (a0, .inr (9, [.int 0, .int m_t.2.1, .int m_t.2.2, .ref a6, g12, g13, g14, g15, g16, g17, g18, g19, g20, g21, g22, .ref a7, g23, g24, g25, g26, g27, g28, g29, g30, g31, g32, g33, g34, g35, g36])) :: bX11 a6 uq kq q_q []) := hD
      refine lv_if_eq (tgt := 34) hx hb dX12_hooks_26 (by decide) (fun c26 => ?_) (fun c26 => ?_)
      · have h := (if_pos c26).symm.trans h
        exact J34  H _ ls h  hP hD hS (lv_sub hl [0] rfl)
      · have h := (if_neg c26).symm.trans h
        refine lv_iload_n hx hb dX12_hooks_29 rfl (lv_at hl 2 rfl) ?_
        refine lv_iload_n hx hb dX12_hooks_30 rfl (lv_at hl 3 rfl) ?_
        refine lv_icmp_ne (tgt := 40) hx hb dX12_hooks_31 (by decide) (fun c31 => ?_) (fun c31 => ?_)
        · have h := (if_neg c31).symm.trans h
          refine lv_iload hx hb dX12_hooks_40 (lv_at hl 4 rfl) ?_
          refine lv_iconst (v := 0) hx hb dX12_hooks_42 (by decide) ?_
          refine lv_sipush (v := 999) hx hb dX12_hooks_43 (by decide) ?_
          obtain ⟨o46, eo46⟩ : ∃ o, o = f_X12_in k4 (0 : Int32) (999 : Int32) := ⟨_, rfl⟩
          have h := nm_of h o46 eo46
          refine cl_i (wc := []) (wr := ((a7, .inl (cB38, 26, .inl m_v)) :: (a0, .inr (9, [.int 0, .int m_t.2.1, .int m_t.2.2, .ref a6, g12, g13, g14, g15, g16, g17, g18, g19, g20, g21, g22, .ref a7, g23, g24, g25, g26, g27, g28, g29, g30, g31, g32, g33, g34, g35, g36])) :: bX11 a6 uq kq q_q [])) (va_runS (As := [.int k4, .int 0, .int 999]) (rest := []) ⟨hx, hb, hml, hown, hts⟩ (kfX12_in l dC dI k4 (0 : Int32) (999 : Int32) H.size o46 eo46.symm) (va_cwS 3 hts gfX12_hooks_3 rfl rfl rfl (by decide +kernel) ⟨(Nat.le_of_ble_eq_true rfl), (Nat.le_of_ble_eq_true rfl)⟩) (PS (hP.sub (ws' := []) [] rfl) (hK.sub (tys' := ([])) [] rfl) (hD.sub (ws' := []) [] (by decide) rfl) hN) rfl rfl hl.1 rfl (lv_room (Nat.le_of_ble_eq_true rfl)) dX12_hooks_46 ⟨(Nat.le_of_ble_eq_true rfl), (Nat.le_of_ble_eq_true rfl)⟩) hP hD hK hS hA [] [0, 1, 2, 3, 4, 5, 6, 7, 8, 9, 10, 11, 12, 13, 14, 15, 16] rfl rfl (by decide) (by decide) (fun r46 _ H locs hw hP hD _ hS => ?_)
          obtain ⟨hw, br46⟩ := hw
          obtain rfl := hw.symm
          have hP : va_P (dC, dI) vwCl ((a7, .inl (cB38, 26, .inl m_v)) :: (a0, .inr (9, [.int 0, .int m_t.2.1, .int m_t.2.2, .ref a6, g12, g13, g14, g15, g16, g17, g18, g19, g20, g21, g22, .ref a7, g23, g24, g25, g26, g27, g28, g29, g30, g31, g32, g33, g34, g35, g36])) :: bX11 a6 uq kq q_q []) H := hP
          have hD : va_D A ((a7, .inl (cB38, 26, .inl m_v)) :: (a0, .inr (9, [.int 0, .int m_t.2.1, .int m_t.2.2, .ref a6, g12, g13, g14, g15, g16, g17, g18, g19, g20, g21, g22, .ref a7, g23, g24, g25, g26, g27, g28, g29, g30, g31, g32, g33, g34, g35, g36])) :: bX11 a6 uq kq q_q []) := hD
          refine lv_if_ne (tgt := 58) hx hb dX12_hooks_49 (by decide) (fun c49 => ?_) (fun c49 => ?_)
          · have h := (if_neg c49).symm.trans h
            refine lv_aload_n hx hb dX12_hooks_58 rfl (lv_at hl 0 rfl) ?_
            refine va_get (D := (dC, dI)) (ci := 9) (v := .ref a7) (C := RX12) (T := TX12) (N := 30) hx hb hts ifX12_hooks_X12 hown hK hP 1 rfl rfl 15 (by decide) (hts (.fieldLink RX12 17 "HookPierModel" "v" "[I") (List.mem_of_getElem? (i := 21) rfl)) (fun _ h9 => h9) rfl dX12_hooks_59 ?_
            refine lv_bipush (v := 18) hx hb dX12_hooks_62 (by decide) ?_
            refine lv_iload_n hx hb dX12_hooks_64 rfl (lv_at hl 2 rfl) ?_
            refine lv_iadd hx hb dX12_hooks_65 ?_
            obtain ⟨hg66, h⟩ := gA_of h
            refine va_iald hx hb hK hP 0 14 rfl rfl hg66 dX12_hooks_66 ?_
            refine lv_bipush (v := (-2)) hx hb dX12_hooks_67 (by decide) ?_
            have J86 : ∀ (H : Heap) (locs : List Loc) (ls : Array Slot), f_X12_hooks_J86 m_t = some out → va_P (dC, dI) vwCl ((a7, .inl (cB38, 26, .inl m_v)) :: (a0, .inr (9, [.int 0, .int m_t.2.1, .int m_t.2.2, .ref a6, g12, g13, g14, g15, g16, g17, g18, g19, g20, g21, g22, .ref a7, g23, g24, g25, g26, g27, g28, g29, g30, g31, g32, g33, g34, g35, g36])) :: bX11 a6 uq kq q_q []) H → va_D A ((a7, .inl (cB38, 26, .inl m_v)) :: (a0, .inr (9, [.int 0, .int m_t.2.1, .int m_t.2.2, .ref a6, g12, g13, g14, g15, g16, g17, g18, g19, g20, g21, g22, .ref a7, g23, g24, g25, g26, g27, g28, g29, g30, g31, g32, g33, g34, g35, g36])) :: bX11 a6 uq kq q_q []) → va_S A s.heap H locs → lv_has ls 11 [(0, .ref a0)] → W p l e (headSpec vfX12_hooks { frames := 4, cells := 0, slots := 0, locals := 93 }).room s m ([.ref a0, .int k1, .int k2, .int k3, .int k4, .int k5]).toArray below meth c H locs 0 0 QQ (F0 m 86 ls []) := by
              intro  H locs ls h  hP hD hS hl
              rw [f_X12_hooks_J86] at h
              refine lv_aload_n hx hb dX12_hooks_86 rfl (lv_at hl 0 rfl) ?_
              refine lv_iconst (v := 5) hx hb dX12_hooks_87 (by decide) ?_
              obtain ⟨o88, eo88⟩ : ∃ o, o = f_X12_refused (5 : Int32) ((0 : Int32), m_t.2) := ⟨_, rfl⟩
              have h := nm_of h o88 eo88
              refine cl_i (wc := ([(a0, .inr (9, [.int 0, .int m_t.2.1, .int m_t.2.2, .ref a6, g12, g13, g14, g15, g16, g17, g18, g19, g20, g21, g22, .ref a7, g23, g24, g25, g26, g27, g28, g29, g30, g31, g32, g33, g34, g35, g36]))])) (wr := ((a7, .inl (cB38, 26, .inl m_v)) :: bX11 a6 uq kq q_q [])) (va_runV (As := [.int 5]) (rest := []) ⟨hx, hb, hml, hown, hts⟩ (kfX12_refused l dC dI a0 (5 : Int32) ((0 : Int32), m_t.2) (.ref a6) (g12) (g13) (g14) (g15) (g16) (g17) (g18) (g19) (g20) (g21) (g22) (.ref a7) (g23) (g24) (g25) (g26) (g27) (g28) (g29) (g30) (g31) (g32) (g33) (g34) (g35) (g36) H.size o88 eo88.symm) (cwV 1 hts gfX12_hooks_1 rfl rfl rfl (by decide +kernel) ⟨(Nat.le_of_ble_eq_true rfl), (Nat.le_of_ble_eq_true rfl)⟩) (PV (hP.sub (ws' := ([(a0, .inr (9, [.int 0, .int m_t.2.1, .int m_t.2.2, .ref a6, g12, g13, g14, g15, g16, g17, g18, g19, g20, g21, g22, .ref a7, g23, g24, g25, g26, g27, g28, g29, g30, g31, g32, g33, g34, g35, g36]))])) [1] rfl) (hK.sub (tys' := ([])) [] rfl) (hD.sub (ws' := ([(a0, .inr (9, [.int 0, .int m_t.2.1, .int m_t.2.2, .ref a6, g12, g13, g14, g15, g16, g17, g18, g19, g20, g21, g22, .ref a7, g23, g24, g25, g26, g27, g28, g29, g30, g31, g32, g33, g34, g35, g36]))])) [1] (by decide) rfl) hN 0 rfl rfl) rfl rfl hl.1 rfl (lv_room (Nat.le_of_ble_eq_true rfl)) dX12_hooks_88 ⟨(Nat.le_of_ble_eq_true rfl), (Nat.le_of_ble_eq_true rfl)⟩) hP hD hK hS hA [1] [0, 2, 3, 4, 5, 6, 7, 8, 9, 10, 11, 12, 13, 14, 15, 16] rfl rfl (by decide) (by decide) (fun r88 _ H locs hw hP hD _ hS => ?_)
              obtain rfl := hw
              have hP : va_P (dC, dI) vwCl ((a7, .inl (cB38, 26, .inl m_v)) :: bX11 a6 uq kq q_q ([(a0, .inr (9, [.int o88.1, .int o88.2.1, .int o88.2.2, .ref a6, g12, g13, g14, g15, g16, g17, g18, g19, g20, g21, g22, .ref a7, g23, g24, g25, g26, g27, g28, g29, g30, g31, g32, g33, g34, g35, g36]))])) H := hP
              have hD : va_D A ((a7, .inl (cB38, 26, .inl m_v)) :: bX11 a6 uq kq q_q ([(a0, .inr (9, [.int o88.1, .int o88.2.1, .int o88.2.2, .ref a6, g12, g13, g14, g15, g16, g17, g18, g19, g20, g21, g22, .ref a7, g23, g24, g25, g26, g27, g28, g29, g30, g31, g32, g33, g34, g35, g36]))])) := hD
              obtain rfl := Option.some.inj h
              have hP9 := hP.sub (ws' := ((a0, .inr (9, [.int o88.1, .int o88.2.1, .int o88.2.2, .ref a6, g12, g13, g14, g15, g16, g17, g18, g19, g20, g21, g22, .ref a7, g23, g24, g25, g26, g27, g28, g29, g30, g31, g32, g33, g34, g35, g36])) :: bX11 a6 uq kq q_q ([(a7, .inl (cB38, 26, .inl m_v))]))) [16, 1, 2, 3, 4, 5, 6, 7, 8, 9, 10, 11, 12, 13, 14, 15, 0] rfl
              have hD9 := hD.sub (ws' := ((a0, .inr (9, [.int o88.1, .int o88.2.1, .int o88.2.2, .ref a6, g12, g13, g14, g15, g16, g17, g18, g19, g20, g21, g22, .ref a7, g23, g24, g25, g26, g27, g28, g29, g30, g31, g32, g33, g34, g35, g36])) :: bX11 a6 uq kq q_q ([(a7, .inl (cB38, 26, .inl m_v))]))) [16, 1, 2, 3, 4, 5, 6, 7, 8, 9, 10, 11, 12, 13, 14, 15, 0] (by decide) rfl
              have hK9 := hK.sub (tys' := []) [] rfl
              rw [hQQ]
              exact W.iret (v := (-1 : Int32)) hx hb hr (fun t ht hW => ⟨⟨(-1 : Int32), (), rfl, rfl, by rw [ht]; exact hP9, va_K.moved hW.alike hK9, hD9⟩, hS.F ht⟩) hS.2.2 dX12_hooks_91
            refine lv_icmp_eq (tgt := 86) hx hb dX12_hooks_69 (by decide) (fun c69 => ?_) (fun c69 => ?_)
            · have h := (if_pos c69).symm.trans h
              exact J86  H _ ls h  hP hD hS (lv_sub hl [0] rfl)
            · have h := (if_neg c69).symm.trans h
              refine lv_aload_n hx hb dX12_hooks_72 rfl (lv_at hl 0 rfl) ?_
              refine va_get (D := (dC, dI)) (ci := 9) (v := .ref a7) (C := RX12) (T := TX12) (N := 30) hx hb hts ifX12_hooks_X12 hown hK hP 1 rfl rfl 15 (by decide) (hts (.fieldLink RX12 17 "HookPierModel" "v" "[I") (List.mem_of_getElem? (i := 21) rfl)) (fun _ h9 => h9) rfl dX12_hooks_73 ?_
              refine lv_bipush (v := 18) hx hb dX12_hooks_76 (by decide) ?_
              refine lv_iload_n hx hb dX12_hooks_78 rfl (lv_at hl 3 rfl) ?_
              refine lv_iadd hx hb dX12_hooks_79 ?_
              obtain ⟨hg80, h⟩ := gA_of h
              refine va_iald hx hb hK hP 0 14 rfl rfl hg80 dX12_hooks_80 ?_
              refine lv_bipush (v := (-2)) hx hb dX12_hooks_81 (by decide) ?_
              refine lv_icmp_ne (tgt := 92) hx hb dX12_hooks_83 (by decide) (fun c83 => ?_) (fun c83 => ?_)
              · have h := (if_neg c83).symm.trans h
                refine lv_aload_n hx hb dX12_hooks_92 rfl (lv_at hl 0 rfl) ?_
                refine lv_iload_n hx hb dX12_hooks_93 rfl (lv_at hl 1 rfl) ?_
                refine lv_aload_n hx hb dX12_hooks_94 rfl (lv_at hl 0 rfl) ?_
                refine va_get (D := (dC, dI)) (ci := 9) (v := .ref a7) (C := RX12) (T := TX12) (N := 30) hx hb hts ifX12_hooks_X12 hown hK hP 1 rfl rfl 15 (by decide) (hts (.fieldLink RX12 17 "HookPierModel" "v" "[I") (List.mem_of_getElem? (i := 21) rfl)) (fun _ h9 => h9) rfl dX12_hooks_95 ?_
                refine lv_bipush (v := 18) hx hb dX12_hooks_98 (by decide) ?_
                refine lv_iload_n hx hb dX12_hooks_100 rfl (lv_at hl 2 rfl) ?_
                refine lv_iadd hx hb dX12_hooks_101 ?_
                obtain ⟨hg102, h⟩ := gA_of h
                refine va_iald hx hb hK hP 0 14 rfl rfl hg102 dX12_hooks_102 ?_
                obtain ⟨o103, eo103, h⟩ := bd_of h
                refine cl_i (wc := ((a0, .inr (9, [.int 0, .int m_t.2.1, .int m_t.2.2, .ref a6, g12, g13, g14, g15, g16, g17, g18, g19, g20, g21, g22, .ref a7, g23, g24, g25, g26, g27, g28, g29, g30, g31, g32, g33, g34, g35, g36])) :: bX11 a6 uq kq q_q [])) (wr := ([(a7, .inl (cB38, 26, .inl m_v))])) (va_runV (As := [.int k1, .int (m_v (((18 : Int32) + k2)).toNatClampNeg)]) (rest := []) ⟨hx, hb, hml, hown, hts⟩ (kfX12_wishOf l dC dI a0 k1 (m_v (((18 : Int32) + k2)).toNatClampNeg) a6 uq kq (.int 0) (.int m_t.2.1) (.int m_t.2.2) (g12) (g13) (g14) (g15) (g16) (g17) (g18) (g19) (g20) (g21) (g22) (.ref a7) (g23) (g24) (g25) (g26) (g27) (g28) (g29) (g30) (g31) (g32) (g33) (g34) (g35) (g36) q_q H.size o103 eo103) (cwV 2 hts gfX12_hooks_4 rfl rfl rfl (by decide +kernel) ⟨(Nat.le_of_ble_eq_true rfl), (Nat.le_of_ble_eq_true rfl)⟩) (PV (hP.sub (ws' := ((a0, .inr (9, [.int 0, .int m_t.2.1, .int m_t.2.2, .ref a6, g12, g13, g14, g15, g16, g17, g18, g19, g20, g21, g22, .ref a7, g23, g24, g25, g26, g27, g28, g29, g30, g31, g32, g33, g34, g35, g36])) :: bX11 a6 uq kq q_q [])) [1, 2, 3, 4, 5, 6, 7, 8, 9, 10, 11, 12, 13, 14, 15, 16] rfl) (hK.sub (tys' := (tX11 kq ([]))) [0, 1, 2, 3, 4, 5, 6, 7, 8, 9, 10, 11, 12, 13] rfl) (hD.sub (ws' := ((a0, .inr (9, [.int 0, .int m_t.2.1, .int m_t.2.2, .ref a6, g12, g13, g14, g15, g16, g17, g18, g19, g20, g21, g22, .ref a7, g23, g24, g25, g26, g27, g28, g29, g30, g31, g32, g33, g34, g35, g36])) :: bX11 a6 uq kq q_q [])) [1, 2, 3, 4, 5, 6, 7, 8, 9, 10, 11, 12, 13, 14, 15, 16] (by decide) rfl) hN 0 rfl rfl) rfl rfl hl.1 rfl (lv_room (Nat.le_of_ble_eq_true rfl)) dX12_hooks_103 ⟨(Nat.le_of_ble_eq_true rfl), (Nat.le_of_ble_eq_true rfl)⟩) hP hD hK hS hA [1, 2, 3, 4, 5, 6, 7, 8, 9, 10, 11, 12, 13, 14, 15, 16] [0] rfl rfl (by decide) (by decide) (fun r103 _ H locs hw hP hD _ hS => ?_)
                obtain rfl := hw.symm
                have hP : va_P (dC, dI) vwCl ((a7, .inl (cB38, 26, .inl m_v)) :: (a0, .inr (9, [.int 0, .int m_t.2.1, .int m_t.2.2, .ref a6, g12, g13, g14, g15, g16, g17, g18, g19, g20, g21, g22, .ref a7, g23, g24, g25, g26, g27, g28, g29, g30, g31, g32, g33, g34, g35, g36])) :: bX11 a6 uq kq q_q []) H := hP
                have hD : va_D A ((a7, .inl (cB38, 26, .inl m_v)) :: (a0, .inr (9, [.int 0, .int m_t.2.1, .int m_t.2.2, .ref a6, g12, g13, g14, g15, g16, g17, g18, g19, g20, g21, g22, .ref a7, g23, g24, g25, g26, g27, g28, g29, g30, g31, g32, g33, g34, g35, g36])) :: bX11 a6 uq kq q_q []) := hD
                refine lv_istore (lv' := [(6, .int o103), (0, .ref a0), (1, .int k1), (2, .int k2), (3, .int k3), (4, .int k4), (5, .int k5)]) hx hb dX12_hooks_106 hl (by decide) rfl (fun ls hl => ?_)
                refine lv_aload_n hx hb dX12_hooks_108 rfl (lv_at hl 1 rfl) ?_
                refine lv_iload_n hx hb dX12_hooks_109 rfl (lv_at hl 2 rfl) ?_
                refine lv_aload_n hx hb dX12_hooks_110 rfl (lv_at hl 1 rfl) ?_
                refine va_get (D := (dC, dI)) (ci := 9) (v := .ref a7) (C := RX12) (T := TX12) (N := 30) hx hb hts ifX12_hooks_X12 hown hK hP 1 rfl rfl 15 (by decide) (hts (.fieldLink RX12 17 "HookPierModel" "v" "[I") (List.mem_of_getElem? (i := 21) rfl)) (fun _ h9 => h9) rfl dX12_hooks_111 ?_
                refine lv_bipush (v := 18) hx hb dX12_hooks_114 (by decide) ?_
                refine lv_iload_n hx hb dX12_hooks_116 rfl (lv_at hl 4 rfl) ?_
                refine lv_iadd hx hb dX12_hooks_117 ?_
                obtain ⟨hg118, h⟩ := gA_of h
                refine va_iald hx hb hK hP 0 14 rfl rfl hg118 dX12_hooks_118 ?_
                obtain ⟨o119, eo119, h⟩ := bd_of h
                refine cl_i (wc := ((a0, .inr (9, [.int 0, .int m_t.2.1, .int m_t.2.2, .ref a6, g12, g13, g14, g15, g16, g17, g18, g19, g20, g21, g22, .ref a7, g23, g24, g25, g26, g27, g28, g29, g30, g31, g32, g33, g34, g35, g36])) :: bX11 a6 uq kq q_q [])) (wr := ([(a7, .inl (cB38, 26, .inl m_v))])) (va_runV (As := [.int k1, .int (m_v (((18 : Int32) + k3)).toNatClampNeg)]) (rest := []) ⟨hx, hb, hml, hown, hts⟩ (kfX12_wishOf l dC dI a0 k1 (m_v (((18 : Int32) + k3)).toNatClampNeg) a6 uq kq (.int 0) (.int m_t.2.1) (.int m_t.2.2) (g12) (g13) (g14) (g15) (g16) (g17) (g18) (g19) (g20) (g21) (g22) (.ref a7) (g23) (g24) (g25) (g26) (g27) (g28) (g29) (g30) (g31) (g32) (g33) (g34) (g35) (g36) q_q H.size o119 eo119) (cwV 2 hts gfX12_hooks_4 rfl rfl rfl (by decide +kernel) ⟨(Nat.le_of_ble_eq_true rfl), (Nat.le_of_ble_eq_true rfl)⟩) (PV (hP.sub (ws' := ((a0, .inr (9, [.int 0, .int m_t.2.1, .int m_t.2.2, .ref a6, g12, g13, g14, g15, g16, g17, g18, g19, g20, g21, g22, .ref a7, g23, g24, g25, g26, g27, g28, g29, g30, g31, g32, g33, g34, g35, g36])) :: bX11 a6 uq kq q_q [])) [1, 2, 3, 4, 5, 6, 7, 8, 9, 10, 11, 12, 13, 14, 15, 16] rfl) (hK.sub (tys' := (tX11 kq ([]))) [0, 1, 2, 3, 4, 5, 6, 7, 8, 9, 10, 11, 12, 13] rfl) (hD.sub (ws' := ((a0, .inr (9, [.int 0, .int m_t.2.1, .int m_t.2.2, .ref a6, g12, g13, g14, g15, g16, g17, g18, g19, g20, g21, g22, .ref a7, g23, g24, g25, g26, g27, g28, g29, g30, g31, g32, g33, g34, g35, g36])) :: bX11 a6 uq kq q_q [])) [1, 2, 3, 4, 5, 6, 7, 8, 9, 10, 11, 12, 13, 14, 15, 16] (by decide) rfl) hN 0 rfl rfl) rfl rfl hl.1 rfl (lv_room (Nat.le_of_ble_eq_true rfl)) dX12_hooks_119 ⟨(Nat.le_of_ble_eq_true rfl), (Nat.le_of_ble_eq_true rfl)⟩) hP hD hK hS hA [1, 2, 3, 4, 5, 6, 7, 8, 9, 10, 11, 12, 13, 14, 15, 16] [0] rfl rfl (by decide) (by decide) (fun r119 _ H locs hw hP hD _ hS => ?_)
                obtain rfl := hw.symm
                have hP : va_P (dC, dI) vwCl ((a7, .inl (cB38, 26, .inl m_v)) :: (a0, .inr (9, [.int 0, .int m_t.2.1, .int m_t.2.2, .ref a6, g12, g13, g14, g15, g16, g17, g18, g19, g20, g21, g22, .ref a7, g23, g24, g25, g26, g27, g28, g29, g30, g31, g32, g33, g34, g35, g36])) :: bX11 a6 uq kq q_q []) H := hP
                have hD : va_D A ((a7, .inl (cB38, 26, .inl m_v)) :: (a0, .inr (9, [.int 0, .int m_t.2.1, .int m_t.2.2, .ref a6, g12, g13, g14, g15, g16, g17, g18, g19, g20, g21, g22, .ref a7, g23, g24, g25, g26, g27, g28, g29, g30, g31, g32, g33, g34, g35, g36])) :: bX11 a6 uq kq q_q []) := hD
                refine lv_istore (lv' := [(7, .int o119), (6, .int o103), (0, .ref a0), (1, .int k1), (2, .int k2), (3, .int k3), (4, .int k4), (5, .int k5)]) hx hb dX12_hooks_122 hl (by decide) rfl (fun ls hl => ?_)
                refine lv_iload hx hb dX12_hooks_124 (lv_at hl 1 rfl) ?_
                refine lv_iload hx hb dX12_hooks_126 (lv_at hl 0 rfl) ?_
                refine lv_iadd hx hb dX12_hooks_128 ?_
                refine lv_if_ne (tgt := 138) hx hb dX12_hooks_129 (by decide) (fun c129 => ?_) (fun c129 => ?_)
                · have h := (if_neg c129).symm.trans h
                  refine lv_iload hx hb dX12_hooks_138 (lv_at hl 6 rfl) ?_
                  refine lv_iload hx hb dX12_hooks_140 (lv_at hl 1 rfl) ?_
                  refine lv_imul hx hb dX12_hooks_142 ?_
                  refine lv_iload hx hb dX12_hooks_143 (lv_at hl 1 rfl) ?_
                  refine lv_iload hx hb dX12_hooks_145 (lv_at hl 0 rfl) ?_
                  refine lv_iadd hx hb dX12_hooks_147 ?_
                  obtain ⟨hg148, h⟩ := gZi_of h
                  refine lv_idiv hx hb dX12_hooks_148 hg148 ?_
                  refine lv_istore (lv' := [(8, .int ((k4 * o103) / (o103 + o119))), (7, .int o119), (6, .int o103), (0, .ref a0), (1, .int k1), (2, .int k2), (3, .int k3), (4, .int k4), (5, .int k5)]) hx hb dX12_hooks_149 hl (by decide) rfl (fun ls hl => ?_)
                  refine lv_iload hx hb dX12_hooks_151 (lv_at hl 7 rfl) ?_
                  refine lv_iload hx hb dX12_hooks_153 (lv_at hl 1 rfl) ?_
                  refine lv_imul hx hb dX12_hooks_155 ?_
                  refine lv_iload hx hb dX12_hooks_156 (lv_at hl 2 rfl) ?_
                  refine lv_iload hx hb dX12_hooks_158 (lv_at hl 1 rfl) ?_
                  refine lv_iadd hx hb dX12_hooks_160 ?_
                  obtain ⟨hg161, h⟩ := gZi_of h
                  refine lv_idiv hx hb dX12_hooks_161 hg161 ?_
                  refine lv_istore (lv' := [(9, .int ((k4 * o119) / (o103 + o119))), (8, .int ((k4 * o103) / (o103 + o119))), (7, .int o119), (6, .int o103), (0, .ref a0), (1, .int k1), (2, .int k2), (3, .int k3), (4, .int k4), (5, .int k5)]) hx hb dX12_hooks_162 hl (by decide) rfl (fun ls hl => ?_)
                  refine lv_iload hx hb dX12_hooks_164 (lv_at hl 8 rfl) ?_
                  refine lv_iload hx hb dX12_hooks_166 (lv_at hl 1 rfl) ?_
                  refine lv_isub hx hb dX12_hooks_168 ?_
                  refine lv_iload hx hb dX12_hooks_169 (lv_at hl 0 rfl) ?_
                  refine lv_isub hx hb dX12_hooks_171 ?_
                  refine lv_topi (fun z171 ez171 => ?_)
                  have h := nm_of h z171 ez171
                  refine lv_istore (lv' := [(10, .int z171), (9, .int ((k4 * o119) / (o103 + o119))), (8, .int ((k4 * o103) / (o103 + o119))), (7, .int o119), (6, .int o103), (0, .ref a0), (1, .int k1), (2, .int k2), (3, .int k3), (4, .int k4), (5, .int k5)]) hx hb dX12_hooks_172 hl (by decide) rfl (fun ls hl => ?_)
                  refine lv_iload hx hb dX12_hooks_174 (lv_at hl 10 rfl) ?_
                  refine lv_if_eq (tgt := 200) hx hb dX12_hooks_176 (by decide) (fun c176 => ?_) (fun c176 => ?_)
                  · have h := (if_pos c176).symm.trans h
                    refine lv_aload_n hx hb dX12_hooks_200 rfl (lv_at hl 5 rfl) ?_
                    refine lv_iload hx hb dX12_hooks_201 (lv_at hl 2 rfl) ?_
                    refine lv_iload hx hb dX12_hooks_203 (lv_at hl 4 rfl) ?_
                    refine lv_iload hx hb dX12_hooks_205 (lv_at hl 3 rfl) ?_
                    have J216 : ∀ (v216_t2 : Int32) (H : Heap) (locs : List Loc) (ls : Array Slot), f_X12_hooks_J216 k4 m_t o103 o119 v216_t2 = some out → va_P (dC, dI) vwCl ((a7, .inl (cB38, 26, .inl m_v)) :: (a0, .inr (9, [.int 0, .int m_t.2.1, .int m_t.2.2, .ref a6, g12, g13, g14, g15, g16, g17, g18, g19, g20, g21, g22, .ref a7, g23, g24, g25, g26, g27, g28, g29, g30, g31, g32, g33, g34, g35, g36])) :: bX11 a6 uq kq q_q []) H → va_D A ((a7, .inl (cB38, 26, .inl m_v)) :: (a0, .inr (9, [.int 0, .int m_t.2.1, .int m_t.2.2, .ref a6, g12, g13, g14, g15, g16, g17, g18, g19, g20, g21, g22, .ref a7, g23, g24, g25, g26, g27, g28, g29, g30, g31, g32, g33, g34, g35, g36])) :: bX11 a6 uq kq q_q []) → va_S A s.heap H locs → lv_has ls 11 [] → W p l e (headSpec vfX12_hooks { frames := 4, cells := 0, slots := 0, locals := 93 }).room s m ([.ref a0, .int k1, .int k2, .int k3, .int k4, .int k5]).toArray below meth c H locs 0 0 QQ (F0 m 216 ls [.int v216_t2, .int ((k4 * o103) / (o103 + o119)), .ref a0]) := by
                      intro v216_t2 H locs ls h  hP hD hS hl
                      rw [f_X12_hooks_J216] at h
                      refine lv_iadd hx hb dX12_hooks_216 ?_
                      obtain ⟨o217, eo217⟩ : ∃ o, o = f_X12_good (((k4 * o103) / (o103 + o119)) + v216_t2) ((0 : Int32), m_t.2) := ⟨_, rfl⟩
                      have h := nm_of h o217 eo217
                      refine cl_i (wc := ([(a0, .inr (9, [.int 0, .int m_t.2.1, .int m_t.2.2, .ref a6, g12, g13, g14, g15, g16, g17, g18, g19, g20, g21, g22, .ref a7, g23, g24, g25, g26, g27, g28, g29, g30, g31, g32, g33, g34, g35, g36]))])) (wr := ((a7, .inl (cB38, 26, .inl m_v)) :: bX11 a6 uq kq q_q [])) (va_runV (As := [.int (((k4 * o103) / (o103 + o119)) + v216_t2)]) (rest := []) ⟨hx, hb, hml, hown, hts⟩ (kfX12_good l dC dI a0 (((k4 * o103) / (o103 + o119)) + v216_t2) ((0 : Int32), m_t.2) (.ref a6) (g12) (g13) (g14) (g15) (g16) (g17) (g18) (g19) (g20) (g21) (g22) (.ref a7) (g23) (g24) (g25) (g26) (g27) (g28) (g29) (g30) (g31) (g32) (g33) (g34) (g35) (g36) H.size o217 eo217.symm) (cwV 1 hts gfX12_hooks_5 rfl rfl rfl (by decide +kernel) ⟨(Nat.le_of_ble_eq_true rfl), (Nat.le_of_ble_eq_true rfl)⟩) (PV (hP.sub (ws' := ([(a0, .inr (9, [.int 0, .int m_t.2.1, .int m_t.2.2, .ref a6, g12, g13, g14, g15, g16, g17, g18, g19, g20, g21, g22, .ref a7, g23, g24, g25, g26, g27, g28, g29, g30, g31, g32, g33, g34, g35, g36]))])) [1] rfl) (hK.sub (tys' := ([])) [] rfl) (hD.sub (ws' := ([(a0, .inr (9, [.int 0, .int m_t.2.1, .int m_t.2.2, .ref a6, g12, g13, g14, g15, g16, g17, g18, g19, g20, g21, g22, .ref a7, g23, g24, g25, g26, g27, g28, g29, g30, g31, g32, g33, g34, g35, g36]))])) [1] (by decide) rfl) hN 0 rfl rfl) rfl rfl hl.1 rfl (lv_room (Nat.le_of_ble_eq_true rfl)) dX12_hooks_217 ⟨(Nat.le_of_ble_eq_true rfl), (Nat.le_of_ble_eq_true rfl)⟩) hP hD hK hS hA [1] [0, 2, 3, 4, 5, 6, 7, 8, 9, 10, 11, 12, 13, 14, 15, 16] rfl rfl (by decide) (by decide) (fun r217 _ H locs hw hP hD _ hS => ?_)
                      obtain rfl := hw
                      have hP : va_P (dC, dI) vwCl ((a7, .inl (cB38, 26, .inl m_v)) :: bX11 a6 uq kq q_q ([(a0, .inr (9, [.int o217.2.1, .int o217.2.2.1, .int o217.2.2.2, .ref a6, g12, g13, g14, g15, g16, g17, g18, g19, g20, g21, g22, .ref a7, g23, g24, g25, g26, g27, g28, g29, g30, g31, g32, g33, g34, g35, g36]))])) H := hP
                      have hD : va_D A ((a7, .inl (cB38, 26, .inl m_v)) :: bX11 a6 uq kq q_q ([(a0, .inr (9, [.int o217.2.1, .int o217.2.2.1, .int o217.2.2.2, .ref a6, g12, g13, g14, g15, g16, g17, g18, g19, g20, g21, g22, .ref a7, g23, g24, g25, g26, g27, g28, g29, g30, g31, g32, g33, g34, g35, g36]))])) := hD
                      obtain rfl := Option.some.inj h
                      have hP9 := hP.sub (ws' := ((a0, .inr (9, [.int o217.2.1, .int o217.2.2.1, .int o217.2.2.2, .ref a6, g12, g13, g14, g15, g16, g17, g18, g19, g20, g21, g22, .ref a7, g23, g24, g25, g26, g27, g28, g29, g30, g31, g32, g33, g34, g35, g36])) :: bX11 a6 uq kq q_q ([(a7, .inl (cB38, 26, .inl m_v))]))) [16, 1, 2, 3, 4, 5, 6, 7, 8, 9, 10, 11, 12, 13, 14, 15, 0] rfl
                      have hD9 := hD.sub (ws' := ((a0, .inr (9, [.int o217.2.1, .int o217.2.2.1, .int o217.2.2.2, .ref a6, g12, g13, g14, g15, g16, g17, g18, g19, g20, g21, g22, .ref a7, g23, g24, g25, g26, g27, g28, g29, g30, g31, g32, g33, g34, g35, g36])) :: bX11 a6 uq kq q_q ([(a7, .inl (cB38, 26, .inl m_v))]))) [16, 1, 2, 3, 4, 5, 6, 7, 8, 9, 10, 11, 12, 13, 14, 15, 0] (by decide) rfl
                      have hK9 := hK.sub (tys' := []) [] rfl
                      rw [hQQ]
                      exact W.iret (v := o217.1) hx hb hr (fun t ht hW => ⟨⟨o217.1, (), rfl, rfl, by rw [ht]; exact hP9, va_K.moved hW.alike hK9, hD9⟩, hS.F ht⟩) hS.2.2 dX12_hooks_220
                    refine lv_icmp_lt (tgt := 215) hx hb dX12_hooks_207 (by decide) (fun c207 => ?_) (fun c207 => ?_)
                    · have h := (if_pos c207).symm.trans h
                      refine lv_iconst (v := 0) hx hb dX12_hooks_215 (by decide) ?_
                      exact J216 (0 : Int32) H _ ls h  hP hD hS (lv_sub hl [] rfl)
                    · have h := (if_neg c207).symm.trans h
                      refine lv_iload hx hb dX12_hooks_210 (lv_at hl 0 rfl) ?_
                      refine lv_goto (tgt := 216) hx hb dX12_hooks_212 (by decide) ?_
                      exact J216 z171 H _ ls h  hP hD hS (lv_sub hl [] rfl)
                  · have h := (if_neg c176).symm.trans h
                    refine lv_aload_n hx hb dX12_hooks_179 rfl (lv_at hl 5 rfl) ?_
                    refine lv_iload hx hb dX12_hooks_180 (lv_at hl 1 rfl) ?_
                    refine lv_iload hx hb dX12_hooks_182 (lv_at hl 4 rfl) ?_
                    refine lv_iload hx hb dX12_hooks_184 (lv_at hl 3 rfl) ?_
                    have J195 : ∀ (v195_t2 : Int32) (H : Heap) (locs : List Loc) (ls : Array Slot), f_X12_hooks_J195 k4 m_t o103 o119 v195_t2 = some out → va_P (dC, dI) vwCl ((a7, .inl (cB38, 26, .inl m_v)) :: (a0, .inr (9, [.int 0, .int m_t.2.1, .int m_t.2.2, .ref a6, g12, g13, g14, g15, g16, g17, g18, g19, g20, g21, g22, .ref a7, g23, g24, g25, g26, g27, g28, g29, g30, g31, g32, g33, g34, g35, g36])) :: bX11 a6 uq kq q_q []) H → va_D A ((a7, .inl (cB38, 26, .inl m_v)) :: (a0, .inr (9, [.int 0, .int m_t.2.1, .int m_t.2.2, .ref a6, g12, g13, g14, g15, g16, g17, g18, g19, g20, g21, g22, .ref a7, g23, g24, g25, g26, g27, g28, g29, g30, g31, g32, g33, g34, g35, g36])) :: bX11 a6 uq kq q_q []) → va_S A s.heap H locs → lv_has ls 11 [] → W p l e (headSpec vfX12_hooks { frames := 4, cells := 0, slots := 0, locals := 93 }).room s m ([.ref a0, .int k1, .int k2, .int k3, .int k4, .int k5]).toArray below meth c H locs 0 0 QQ (F0 m 195 ls [.int v195_t2, .int ((k4 * o119) / (o103 + o119)), .ref a0]) := by
                      intro v195_t2 H locs ls h  hP hD hS hl
                      rw [f_X12_hooks_J195] at h
                      refine lv_iadd hx hb dX12_hooks_195 ?_
                      obtain ⟨o196, eo196⟩ : ∃ o, o = f_X12_good (((k4 * o119) / (o103 + o119)) + v195_t2) ((0 : Int32), m_t.2) := ⟨_, rfl⟩
                      have h := nm_of h o196 eo196
                      refine cl_i (wc := ([(a0, .inr (9, [.int 0, .int m_t.2.1, .int m_t.2.2, .ref a6, g12, g13, g14, g15, g16, g17, g18, g19, g20, g21, g22, .ref a7, g23, g24, g25, g26, g27, g28, g29, g30, g31, g32, g33, g34, g35, g36]))])) (wr := ((a7, .inl (cB38, 26, .inl m_v)) :: bX11 a6 uq kq q_q [])) (va_runV (As := [.int (((k4 * o119) / (o103 + o119)) + v195_t2)]) (rest := []) ⟨hx, hb, hml, hown, hts⟩ (kfX12_good l dC dI a0 (((k4 * o119) / (o103 + o119)) + v195_t2) ((0 : Int32), m_t.2) (.ref a6) (g12) (g13) (g14) (g15) (g16) (g17) (g18) (g19) (g20) (g21) (g22) (.ref a7) (g23) (g24) (g25) (g26) (g27) (g28) (g29) (g30) (g31) (g32) (g33) (g34) (g35) (g36) H.size o196 eo196.symm) (cwV 1 hts gfX12_hooks_5 rfl rfl rfl (by decide +kernel) ⟨(Nat.le_of_ble_eq_true rfl), (Nat.le_of_ble_eq_true rfl)⟩) (PV (hP.sub (ws' := ([(a0, .inr (9, [.int 0, .int m_t.2.1, .int m_t.2.2, .ref a6, g12, g13, g14, g15, g16, g17, g18, g19, g20, g21, g22, .ref a7, g23, g24, g25, g26, g27, g28, g29, g30, g31, g32, g33, g34, g35, g36]))])) [1] rfl) (hK.sub (tys' := ([])) [] rfl) (hD.sub (ws' := ([(a0, .inr (9, [.int 0, .int m_t.2.1, .int m_t.2.2, .ref a6, g12, g13, g14, g15, g16, g17, g18, g19, g20, g21, g22, .ref a7, g23, g24, g25, g26, g27, g28, g29, g30, g31, g32, g33, g34, g35, g36]))])) [1] (by decide) rfl) hN 0 rfl rfl) rfl rfl hl.1 rfl (lv_room (Nat.le_of_ble_eq_true rfl)) dX12_hooks_196 ⟨(Nat.le_of_ble_eq_true rfl), (Nat.le_of_ble_eq_true rfl)⟩) hP hD hK hS hA [1] [0, 2, 3, 4, 5, 6, 7, 8, 9, 10, 11, 12, 13, 14, 15, 16] rfl rfl (by decide) (by decide) (fun r196 _ H locs hw hP hD _ hS => ?_)
                      obtain rfl := hw
                      have hP : va_P (dC, dI) vwCl ((a7, .inl (cB38, 26, .inl m_v)) :: bX11 a6 uq kq q_q ([(a0, .inr (9, [.int o196.2.1, .int o196.2.2.1, .int o196.2.2.2, .ref a6, g12, g13, g14, g15, g16, g17, g18, g19, g20, g21, g22, .ref a7, g23, g24, g25, g26, g27, g28, g29, g30, g31, g32, g33, g34, g35, g36]))])) H := hP
                      have hD : va_D A ((a7, .inl (cB38, 26, .inl m_v)) :: bX11 a6 uq kq q_q ([(a0, .inr (9, [.int o196.2.1, .int o196.2.2.1, .int o196.2.2.2, .ref a6, g12, g13, g14, g15, g16, g17, g18, g19, g20, g21, g22, .ref a7, g23, g24, g25, g26, g27, g28, g29, g30, g31, g32, g33, g34, g35, g36]))])) := hD
                      obtain rfl := Option.some.inj h
                      have hP9 := hP.sub (ws' := ((a0, .inr (9, [.int o196.2.1, .int o196.2.2.1, .int o196.2.2.2, .ref a6, g12, g13, g14, g15, g16, g17, g18, g19, g20, g21, g22, .ref a7, g23, g24, g25, g26, g27, g28, g29, g30, g31, g32, g33, g34, g35, g36])) :: bX11 a6 uq kq q_q ([(a7, .inl (cB38, 26, .inl m_v))]))) [16, 1, 2, 3, 4, 5, 6, 7, 8, 9, 10, 11, 12, 13, 14, 15, 0] rfl
                      have hD9 := hD.sub (ws' := ((a0, .inr (9, [.int o196.2.1, .int o196.2.2.1, .int o196.2.2.2, .ref a6, g12, g13, g14, g15, g16, g17, g18, g19, g20, g21, g22, .ref a7, g23, g24, g25, g26, g27, g28, g29, g30, g31, g32, g33, g34, g35, g36])) :: bX11 a6 uq kq q_q ([(a7, .inl (cB38, 26, .inl m_v))]))) [16, 1, 2, 3, 4, 5, 6, 7, 8, 9, 10, 11, 12, 13, 14, 15, 0] (by decide) rfl
                      have hK9 := hK.sub (tys' := []) [] rfl
                      rw [hQQ]
                      exact W.iret (v := o196.1) hx hb hr (fun t ht hW => ⟨⟨o196.1, (), rfl, rfl, by rw [ht]; exact hP9, va_K.moved hW.alike hK9, hD9⟩, hS.F ht⟩) hS.2.2 dX12_hooks_199
                    refine lv_icmp_ge (tgt := 194) hx hb dX12_hooks_186 (by decide) (fun c186 => ?_) (fun c186 => ?_)
                    · have h := (if_pos c186).symm.trans h
                      refine lv_iconst (v := 0) hx hb dX12_hooks_194 (by decide) ?_
                      exact J195 (0 : Int32) H _ ls h  hP hD hS (lv_sub hl [] rfl)
                    · have h := (if_neg c186).symm.trans h
                      refine lv_iload hx hb dX12_hooks_189 (lv_at hl 0 rfl) ?_
                      refine lv_goto (tgt := 195) hx hb dX12_hooks_191 (by decide) ?_
                      exact J195 z171 H _ ls h  hP hD hS (lv_sub hl [] rfl)
                · have h := (if_pos c129).symm.trans h
                  refine lv_aload_n hx hb dX12_hooks_132 rfl (lv_at hl 2 rfl) ?_
                  refine lv_iconst (v := 0) hx hb dX12_hooks_133 (by decide) ?_
                  obtain ⟨o134, eo134⟩ : ∃ o, o = f_X12_good (0 : Int32) ((0 : Int32), m_t.2) := ⟨_, rfl⟩
                  have h := nm_of h o134 eo134
                  refine cl_i (wc := ([(a0, .inr (9, [.int 0, .int m_t.2.1, .int m_t.2.2, .ref a6, g12, g13, g14, g15, g16, g17, g18, g19, g20, g21, g22, .ref a7, g23, g24, g25, g26, g27, g28, g29, g30, g31, g32, g33, g34, g35, g36]))])) (wr := ((a7, .inl (cB38, 26, .inl m_v)) :: bX11 a6 uq kq q_q [])) (va_runV (As := [.int 0]) (rest := []) ⟨hx, hb, hml, hown, hts⟩ (kfX12_good l dC dI a0 (0 : Int32) ((0 : Int32), m_t.2) (.ref a6) (g12) (g13) (g14) (g15) (g16) (g17) (g18) (g19) (g20) (g21) (g22) (.ref a7) (g23) (g24) (g25) (g26) (g27) (g28) (g29) (g30) (g31) (g32) (g33) (g34) (g35) (g36) H.size o134 eo134.symm) (cwV 1 hts gfX12_hooks_5 rfl rfl rfl (by decide +kernel) ⟨(Nat.le_of_ble_eq_true rfl), (Nat.le_of_ble_eq_true rfl)⟩) (PV (hP.sub (ws' := ([(a0, .inr (9, [.int 0, .int m_t.2.1, .int m_t.2.2, .ref a6, g12, g13, g14, g15, g16, g17, g18, g19, g20, g21, g22, .ref a7, g23, g24, g25, g26, g27, g28, g29, g30, g31, g32, g33, g34, g35, g36]))])) [1] rfl) (hK.sub (tys' := ([])) [] rfl) (hD.sub (ws' := ([(a0, .inr (9, [.int 0, .int m_t.2.1, .int m_t.2.2, .ref a6, g12, g13, g14, g15, g16, g17, g18, g19, g20, g21, g22, .ref a7, g23, g24, g25, g26, g27, g28, g29, g30, g31, g32, g33, g34, g35, g36]))])) [1] (by decide) rfl) hN 0 rfl rfl) rfl rfl hl.1 rfl (lv_room (Nat.le_of_ble_eq_true rfl)) dX12_hooks_134 ⟨(Nat.le_of_ble_eq_true rfl), (Nat.le_of_ble_eq_true rfl)⟩) hP hD hK hS hA [1] [0, 2, 3, 4, 5, 6, 7, 8, 9, 10, 11, 12, 13, 14, 15, 16] rfl rfl (by decide) (by decide) (fun r134 _ H locs hw hP hD _ hS => ?_)
                  obtain rfl := hw
                  have hP : va_P (dC, dI) vwCl ((a7, .inl (cB38, 26, .inl m_v)) :: bX11 a6 uq kq q_q ([(a0, .inr (9, [.int o134.2.1, .int o134.2.2.1, .int o134.2.2.2, .ref a6, g12, g13, g14, g15, g16, g17, g18, g19, g20, g21, g22, .ref a7, g23, g24, g25, g26, g27, g28, g29, g30, g31, g32, g33, g34, g35, g36]))])) H := hP
                  have hD : va_D A ((a7, .inl (cB38, 26, .inl m_v)) :: bX11 a6 uq kq q_q ([(a0, .inr (9, [.int o134.2.1, .int o134.2.2.1, .int o134.2.2.2, .ref a6, g12, g13, g14, g15, g16, g17, g18, g19, g20, g21, g22, .ref a7, g23, g24, g25, g26, g27, g28, g29, g30, g31, g32, g33, g34, g35, g36]))])) := hD
                  obtain rfl := Option.some.inj h
                  have hP9 := hP.sub (ws' := ((a0, .inr (9, [.int o134.2.1, .int o134.2.2.1, .int o134.2.2.2, .ref a6, g12, g13, g14, g15, g16, g17, g18, g19, g20, g21, g22, .ref a7, g23, g24, g25, g26, g27, g28, g29, g30, g31, g32, g33, g34, g35, g36])) :: bX11 a6 uq kq q_q ([(a7, .inl (cB38, 26, .inl m_v))]))) [16, 1, 2, 3, 4, 5, 6, 7, 8, 9, 10, 11, 12, 13, 14, 15, 0] rfl
                  have hD9 := hD.sub (ws' := ((a0, .inr (9, [.int o134.2.1, .int o134.2.2.1, .int o134.2.2.2, .ref a6, g12, g13, g14, g15, g16, g17, g18, g19, g20, g21, g22, .ref a7, g23, g24, g25, g26, g27, g28, g29, g30, g31, g32, g33, g34, g35, g36])) :: bX11 a6 uq kq q_q ([(a7, .inl (cB38, 26, .inl m_v))]))) [16, 1, 2, 3, 4, 5, 6, 7, 8, 9, 10, 11, 12, 13, 14, 15, 0] (by decide) rfl
                  have hK9 := hK.sub (tys' := []) [] rfl
                  rw [hQQ]
                  exact W.iret (v := o134.1) hx hb hr (fun t ht hW => ⟨⟨o134.1, (), rfl, rfl, by rw [ht]; exact hP9, va_K.moved hW.alike hK9, hD9⟩, hS.F ht⟩) hS.2.2 dX12_hooks_137
              · have h := (if_pos c83).symm.trans h
                exact J86  H _ ls h  hP hD hS (lv_sub hl [0] rfl)
          · have h := (if_pos c49).symm.trans h
            refine lv_aload_n hx hb dX12_hooks_52 rfl (lv_at hl 0 rfl) ?_
            refine lv_iconst (v := 2) hx hb dX12_hooks_53 (by decide) ?_
            obtain ⟨o54, eo54⟩ : ∃ o, o = f_X12_refused (2 : Int32) ((0 : Int32), m_t.2) := ⟨_, rfl⟩
            have h := nm_of h o54 eo54
            refine cl_i (wc := ([(a0, .inr (9, [.int 0, .int m_t.2.1, .int m_t.2.2, .ref a6, g12, g13, g14, g15, g16, g17, g18, g19, g20, g21, g22, .ref a7, g23, g24, g25, g26, g27, g28, g29, g30, g31, g32, g33, g34, g35, g36]))])) (wr := ((a7, .inl (cB38, 26, .inl m_v)) :: bX11 a6 uq kq q_q [])) (va_runV (As := [.int 2]) (rest := []) ⟨hx, hb, hml, hown, hts⟩ (kfX12_refused l dC dI a0 (2 : Int32) ((0 : Int32), m_t.2) (.ref a6) (g12) (g13) (g14) (g15) (g16) (g17) (g18) (g19) (g20) (g21) (g22) (.ref a7) (g23) (g24) (g25) (g26) (g27) (g28) (g29) (g30) (g31) (g32) (g33) (g34) (g35) (g36) H.size o54 eo54.symm) (cwV 1 hts gfX12_hooks_1 rfl rfl rfl (by decide +kernel) ⟨(Nat.le_of_ble_eq_true rfl), (Nat.le_of_ble_eq_true rfl)⟩) (PV (hP.sub (ws' := ([(a0, .inr (9, [.int 0, .int m_t.2.1, .int m_t.2.2, .ref a6, g12, g13, g14, g15, g16, g17, g18, g19, g20, g21, g22, .ref a7, g23, g24, g25, g26, g27, g28, g29, g30, g31, g32, g33, g34, g35, g36]))])) [1] rfl) (hK.sub (tys' := ([])) [] rfl) (hD.sub (ws' := ([(a0, .inr (9, [.int 0, .int m_t.2.1, .int m_t.2.2, .ref a6, g12, g13, g14, g15, g16, g17, g18, g19, g20, g21, g22, .ref a7, g23, g24, g25, g26, g27, g28, g29, g30, g31, g32, g33, g34, g35, g36]))])) [1] (by decide) rfl) hN 0 rfl rfl) rfl rfl hl.1 rfl (lv_room (Nat.le_of_ble_eq_true rfl)) dX12_hooks_54 ⟨(Nat.le_of_ble_eq_true rfl), (Nat.le_of_ble_eq_true rfl)⟩) hP hD hK hS hA [1] [0, 2, 3, 4, 5, 6, 7, 8, 9, 10, 11, 12, 13, 14, 15, 16] rfl rfl (by decide) (by decide) (fun r54 _ H locs hw hP hD _ hS => ?_)
            obtain rfl := hw
            have hP : va_P (dC, dI) vwCl ((a7, .inl (cB38, 26, .inl m_v)) :: bX11 a6 uq kq q_q ([(a0, .inr (9, [.int o54.1, .int o54.2.1, .int o54.2.2, .ref a6, g12, g13, g14, g15, g16, g17, g18, g19, g20, g21, g22, .ref a7, g23, g24, g25, g26, g27, g28, g29, g30, g31, g32, g33, g34, g35, g36]))])) H := hP
            have hD : va_D A ((a7, .inl (cB38, 26, .inl m_v)) :: bX11 a6 uq kq q_q ([(a0, .inr (9, [.int o54.1, .int o54.2.1, .int o54.2.2, .ref a6, g12, g13, g14, g15, g16, g17, g18, g19, g20, g21, g22, .ref a7, g23, g24, g25, g26, g27, g28, g29, g30, g31, g32, g33, g34, g35, g36]))])) := hD
            obtain rfl := Option.some.inj h
            have hP9 := hP.sub (ws' := ((a0, .inr (9, [.int o54.1, .int o54.2.1, .int o54.2.2, .ref a6, g12, g13, g14, g15, g16, g17, g18, g19, g20, g21, g22, .ref a7, g23, g24, g25, g26, g27, g28, g29, g30, g31, g32, g33, g34, g35, g36])) :: bX11 a6 uq kq q_q ([(a7, .inl (cB38, 26, .inl m_v))]))) [16, 1, 2, 3, 4, 5, 6, 7, 8, 9, 10, 11, 12, 13, 14, 15, 0] rfl
            have hD9 := hD.sub (ws' := ((a0, .inr (9, [.int o54.1, .int o54.2.1, .int o54.2.2, .ref a6, g12, g13, g14, g15, g16, g17, g18, g19, g20, g21, g22, .ref a7, g23, g24, g25, g26, g27, g28, g29, g30, g31, g32, g33, g34, g35, g36])) :: bX11 a6 uq kq q_q ([(a7, .inl (cB38, 26, .inl m_v))]))) [16, 1, 2, 3, 4, 5, 6, 7, 8, 9, 10, 11, 12, 13, 14, 15, 0] (by decide) rfl
            have hK9 := hK.sub (tys' := []) [] rfl
            rw [hQQ]
            exact W.iret (v := (-1 : Int32)) hx hb hr (fun t ht hW => ⟨⟨(-1 : Int32), (), rfl, rfl, by rw [ht]; exact hP9, va_K.moved hW.alike hK9, hD9⟩, hS.F ht⟩) hS.2.2 dX12_hooks_57
        · have h := (if_pos c31).symm.trans h
          exact J34  H _ ls h  hP hD hS (lv_sub hl [0] rfl)
theorem dX12_gets_0 : decode cX12_gets 0 = .ok (.iload_n 1, 1) := by decide +kernel
theorem dX12_gets_1 : decode cX12_gets 1 = .ok (.ifCond .ne 7, 3) := by decide +kernel
theorem dX12_gets_10 : decode cX12_gets 10 = .ok (.imul, 1) := by decide +kernel
theorem dX12_gets_11 : decode cX12_gets 11 = .ok (.iload_n 1, 1) := by decide +kernel
theorem dX12_gets_12 : decode cX12_gets 12 = .ok (.iload_n 2, 1) := by decide +kernel
theorem dX12_gets_13 : decode cX12_gets 13 = .ok (.iadd, 1) := by decide +kernel
theorem dX12_gets_14 : decode cX12_gets 14 = .ok (.idiv, 1) := by decide +kernel
theorem dX12_gets_15 : decode cX12_gets 15 = .ok (.iconst 2, 1) := by decide +kernel
theorem dX12_gets_16 : decode cX12_gets 16 = .ok (.iload_n 1, 1) := by decide +kernel
theorem dX12_gets_17 : decode cX12_gets 17 = .ok (.imul, 1) := by decide +kernel
theorem dX12_gets_18 : decode cX12_gets 18 = .ok (.isub, 1) := by decide +kernel
theorem dX12_gets_19 : decode cX12_gets 19 = .ok (.ireturn, 1) := by decide +kernel
theorem dX12_gets_4 : decode cX12_gets 4 = .ok (.iconst 0, 1) := by decide +kernel
theorem dX12_gets_5 : decode cX12_gets 5 = .ok (.goto 10, 3) := by decide +kernel
theorem dX12_gets_8 : decode cX12_gets 8 = .ok (.iload_n 0, 1) := by decide +kernel
theorem dX12_gets_9 : decode cX12_gets 9 = .ok (.iload_n 1, 1) := by decide +kernel
def vfX12_gets : List Cond := .code yX12_gets cX12_gets 3 (some .int) :: ([])
set_option maxHeartbeats 2000000 in
set_option maxRecDepth 100000 in
theorem kfX12_gets (l : Launch) (dC : Nat → ClassId) (dI : Nat → Nat → Nat) (k0 : Int32) (k1 : Int32) (k2 : Int32) (sz : Nat) (out : Int32) (h : f_X12_gets k0 k1 k2 = some out) : Met l yX12_gets vfX12_gets ({ frames := 0, cells := 0, slots := 0, locals := 0 }) (PC (dC, dI) [.int k0, .int k1, .int k2] sz [] ([])) (va_Qi (S := Unit) (fun (r : Int32) _ => r = out) (fun _ t => BC (dC, dI) (va_A [] sz) [] [] t) (va_A [] sz)) 0 0 (va_A [] sz) := by
  refine Met.ofW (cc := cX12_gets) (maxL := 3) (ret := (some .int)) (by decide) rfl ?_
  intro p e s m args below meth c s₁ B0 hml hv
  obtain ⟨rfl, hsz, hP, hK, hD0, hN⟩ := hv
  have hx := B0.exec
  have hb := B0.bytes
  have hr := B0.returns
  have hts := atoms_spec (ws := vfX12_gets) B0.pre
  have hown : s.vm.findClass RX12 = some m.cls := findClass_of_methodNamed B0.named
  have hlocks := B0.notSynchronized
  subst hsz
  have hD := hD0.self (sz := s.heap.size)
  generalize hAe : va_A [] s.heap.size = A at hD ⊢
  have hA : ∀ q : Nat, s.heap.size ≤ q → A q := fun q h => by rw [← hAe]; exact Or.inr h
  have hS : va_S A s.heap s.heap [] := va_S.rf
  have hP : va_P (dC, dI) vwCl [] s.heap := hP
  have hl := lv_entry ([.int k0, .int k1, .int k2]) (n := 3) (Nat.le_of_ble_eq_true rfl)
  rw [lg_entry_eq]
  generalize (lg_sl ([.int k0, .int k1, .int k2]) ++ List.replicate (3 - (lg_sl ([.int k0, .int k1, .int k2])).length) Slot.unset).toArray = ls at hl ⊢
  have hl : lv_has ls 3 [(0, .int k0), (1, .int k1), (2, .int k2)] := hl
  refine W_q (fun QQ hQQ => ?_)
  rw [f_X12_gets] at h
  refine lv_iload_n hx hb dX12_gets_0 rfl (lv_at hl 1 rfl) ?_
  have J15 : ∀ (v15_t0 : Int32) (H : Heap) (locs : List Loc) (ls : Array Slot), f_X12_gets_J15 k1 v15_t0 = some out → va_P (dC, dI) vwCl [] H → va_D A [] → va_S A s.heap H locs → lv_has ls 3 [(1, .int k1)] → W p l e (headSpec vfX12_gets { frames := 0, cells := 0, slots := 0, locals := 0 }).room s m ([.int k0, .int k1, .int k2]).toArray below meth c H locs 0 0 QQ (F0 m 15 ls [.int v15_t0]) := by
    intro v15_t0 H locs ls h  hP hD hS hl
    rw [f_X12_gets_J15] at h
    refine lv_iconst (v := 2) hx hb dX12_gets_15 (by decide) ?_
    refine lv_iload_n hx hb dX12_gets_16 rfl (lv_at hl 0 rfl) ?_
    refine lv_imul hx hb dX12_gets_17 ?_
    refine lv_isub hx hb dX12_gets_18 ?_
    obtain rfl := Option.some.inj h
    have hP9 := hP.sub (ws' := []) [] rfl
    have hD9 := hD.sub (ws' := []) [] (by decide) rfl
    have hK9 := hK.sub (tys' := []) [] rfl
    rw [hQQ]
    exact W.iret (v := (v15_t0 - ((2 : Int32) * k1))) hx hb hr (fun t ht hW => ⟨⟨(v15_t0 - ((2 : Int32) * k1)), (), rfl, rfl, by rw [ht]; exact hP9, va_K.moved hW.alike hK9, hD9⟩, hS.F ht⟩) hS.2.2 dX12_gets_19
  refine lv_if_ne (tgt := 8) hx hb dX12_gets_1 (by decide) (fun c1 => ?_) (fun c1 => ?_)
  · have h := (if_neg c1).symm.trans h
    refine lv_iload_n hx hb dX12_gets_8 rfl (lv_at hl 0 rfl) ?_
    refine lv_iload_n hx hb dX12_gets_9 rfl (lv_at hl 1 rfl) ?_
    refine lv_imul hx hb dX12_gets_10 ?_
    refine lv_iload_n hx hb dX12_gets_11 rfl (lv_at hl 1 rfl) ?_
    refine lv_iload_n hx hb dX12_gets_12 rfl (lv_at hl 2 rfl) ?_
    refine lv_iadd hx hb dX12_gets_13 ?_
    obtain ⟨hg14, h⟩ := gZi_of h
    refine lv_idiv hx hb dX12_gets_14 hg14 ?_
    exact J15 ((k0 * k1) / (k1 + k2)) s.heap _ ls h  hP hD hS (lv_sub hl [1] rfl)
  · have h := (if_pos c1).symm.trans h
    refine lv_iconst (v := 0) hx hb dX12_gets_4 (by decide) ?_
    refine lv_goto (tgt := 15) hx hb dX12_gets_5 (by decide) ?_
    exact J15 (0 : Int32) s.heap _ ls h  hP hD hS (lv_sub hl [1] rfl)
theorem dX12_lost_0 : decode cX12_lost 0 = .ok (.aload_n 0, 1) := by decide +kernel
theorem dX12_lost_1 : decode cX12_lost 1 = .ok (.iload_n 1, 1) := by decide +kernel
theorem dX12_lost_2 : decode cX12_lost 2 = .ok (.invokevirtual 42, 3) := by decide +kernel
theorem dX12_lost_5 : decode cX12_lost 5 = .ok (.pop, 1) := by decide +kernel
theorem dX12_lost_6 : decode cX12_lost 6 = .ok (.bipush (-100), 2) := by decide +kernel
theorem dX12_lost_8 : decode cX12_lost 8 = .ok (.ireturn, 1) := by decide +kernel
def vfX12_lost : List Cond := .code yX12_lost cX12_lost 2 (some .int) :: ([.methodLink RX12 42 yX12_refused, .instanceMethod yX12_refused, .selects RX12 yX12_refused yX12_refused, .initialized RX12, .code yX12_refused cX12_refused 2 (some .int), .fieldLink RX12 39 "HookPierModel" "trouble" "I", .fieldLink RX12 9 "HookPierModel" "where" "I"] ++ wsX120)
theorem ifX12_lost_X12 : ∀ w ∈ wsX120, w ∈ vfX12_lost := fun _ h => List.mem_cons_of_mem _ (List.mem_append_right _ h)
set_option maxRecDepth 20000 in
theorem gfX12_lost_0 : GoodIn vfX12_lost (wsV RX12 42 RX12 yX12_refused vfX12_refused) := goodIn_app (goodIn_r [.methodLink RX12 42 yX12_refused, .instanceMethod yX12_refused, .selects RX12 yX12_refused yX12_refused, .initialized RX12] [1, 2, 3, 4] (by decide +kernel) (by decide +kernel)) (goodIn_ca (goodIn_r (.code yX12_refused cX12_refused 2 (some .int) :: [.fieldLink RX12 39 "HookPierModel" "trouble" "I", .fieldLink RX12 9 "HookPierModel" "where" "I"]) [5, 6, 7] (by decide +kernel) (by decide +kernel) : GoodIn vfX12_lost (.code yX12_refused cX12_refused 2 (some .int) :: [.fieldLink RX12 39 "HookPierModel" "trouble" "I", .fieldLink RX12 9 "HookPierModel" "where" "I"])) (goodIn_sub ifX12_lost_X12 (by decide +kernel)))
set_option maxHeartbeats 2000000 in
set_option maxRecDepth 100000 in
theorem kfX12_lost (l : Launch) (dC : Nat → ClassId) (dI : Nat → Nat → Nat) (a0 : Nat) (k1 : Int32) (m_t : TX12_t) (g3 : Value) (g4 : Value) (g5 : Value) (g6 : Value) (g7 : Value) (g8 : Value) (g9 : Value) (g10 : Value) (g11 : Value) (g12 : Value) (g13 : Value) (g14 : Value) (g15 : Value) (g16 : Value) (g17 : Value) (g18 : Value) (g19 : Value) (g20 : Value) (g21 : Value) (g22 : Value) (g23 : Value) (g24 : Value) (g25 : Value) (g26 : Value) (g27 : Value) (g28 : Value) (g29 : Value) (sz : Nat) (out : TX12_t) (h : f_X12_lost k1 m_t = out) : Met l yX12_lost vfX12_lost ({ frames := 1, cells := 0, slots := 0, locals := 21 }) (PC (dC, dI) [.ref a0, .int k1] sz ([(a0, .inr (9, [.int m_t.1, .int m_t.2.1, .int m_t.2.2, g3, g4, g5, g6, g7, g8, g9, g10, g11, g12, g13, g14, g15, g16, g17, g18, g19, g20, g21, g22, g23, g24, g25, g26, g27, g28, g29]))]) ([])) (va_Qi (S := Unit) (fun (r : Int32) _ => r = (-100)) (fun _ t => BC (dC, dI) (va_A ([(a0, .inr (9, [.int m_t.1, .int m_t.2.1, .int m_t.2.2, g3, g4, g5, g6, g7, g8, g9, g10, g11, g12, g13, g14, g15, g16, g17, g18, g19, g20, g21, g22, g23, g24, g25, g26, g27, g28, g29]))]) sz) ([(a0, .inr (9, [.int out.1, .int out.2.1, .int out.2.2, g3, g4, g5, g6, g7, g8, g9, g10, g11, g12, g13, g14, g15, g16, g17, g18, g19, g20, g21, g22, g23, g24, g25, g26, g27, g28, g29]))]) [] t) (va_A ([(a0, .inr (9, [.int m_t.1, .int m_t.2.1, .int m_t.2.2, g3, g4, g5, g6, g7, g8, g9, g10, g11, g12, g13, g14, g15, g16, g17, g18, g19, g20, g21, g22, g23, g24, g25, g26, g27, g28, g29]))]) sz)) 0 0 (va_A ([(a0, .inr (9, [.int m_t.1, .int m_t.2.1, .int m_t.2.2, g3, g4, g5, g6, g7, g8, g9, g10, g11, g12, g13, g14, g15, g16, g17, g18, g19, g20, g21, g22, g23, g24, g25, g26, g27, g28, g29]))]) sz) := by
  refine Met.ofW (cc := cX12_lost) (maxL := 2) (ret := (some .int)) (by decide) rfl ?_
  intro p e s m args below meth c s₁ B0 hml hv
  obtain ⟨rfl, hsz, hP, hK, hD0, hN⟩ := hv
  have hx := B0.exec
  have hb := B0.bytes
  have hr := B0.returns
  have hts := atoms_spec (ws := vfX12_lost) B0.pre
  have hown : s.vm.findClass RX12 = some m.cls := findClass_of_methodNamed B0.named
  have hlocks := B0.notSynchronized
  subst hsz
  have hD := hD0.self (sz := s.heap.size)
  generalize hAe : va_A ([(a0, .inr (9, [.int m_t.1, .int m_t.2.1, .int m_t.2.2, g3, g4, g5, g6, g7, g8, g9, g10, g11, g12, g13, g14, g15, g16, g17, g18, g19, g20, g21, g22, g23, g24, g25, g26, g27, g28, g29]))]) s.heap.size = A at hD ⊢
  have hA : ∀ q : Nat, s.heap.size ≤ q → A q := fun q h => by rw [← hAe]; exact Or.inr h
  have hS : va_S A s.heap s.heap [] := va_S.rf
  have hP : va_P (dC, dI) vwCl ([(a0, .inr (9, [.int m_t.1, .int m_t.2.1, .int m_t.2.2, g3, g4, g5, g6, g7, g8, g9, g10, g11, g12, g13, g14, g15, g16, g17, g18, g19, g20, g21, g22, g23, g24, g25, g26, g27, g28, g29]))]) s.heap := hP
  have hl := lv_entry ([.ref a0, .int k1]) (n := 2) (Nat.le_of_ble_eq_true rfl)
  rw [lg_entry_eq]
  generalize (lg_sl ([.ref a0, .int k1]) ++ List.replicate (2 - (lg_sl ([.ref a0, .int k1])).length) Slot.unset).toArray = ls at hl ⊢
  have hl : lv_has ls 2 [(0, .ref a0), (1, .int k1)] := hl
  refine W_q (fun QQ hQQ => ?_)
  rw [f_X12_lost] at h
  refine lv_aload_n hx hb dX12_lost_0 rfl (lv_at hl 0 rfl) ?_
  refine lv_iload_n hx hb dX12_lost_1 rfl (lv_at hl 1 rfl) ?_
  obtain ⟨o2, eo2⟩ : ∃ o, o = f_X12_refused k1 m_t := ⟨_, rfl⟩
  have h := nm_of h o2 eo2
  refine cl_i (wc := ([(a0, .inr (9, [.int m_t.1, .int m_t.2.1, .int m_t.2.2, g3, g4, g5, g6, g7, g8, g9, g10, g11, g12, g13, g14, g15, g16, g17, g18, g19, g20, g21, g22, g23, g24, g25, g26, g27, g28, g29]))])) (wr := []) (va_runV (As := [.int k1]) (rest := []) ⟨hx, hb, hml, hown, hts⟩ (kfX12_refused l dC dI a0 k1 m_t (g3) (g4) (g5) (g6) (g7) (g8) (g9) (g10) (g11) (g12) (g13) (g14) (g15) (g16) (g17) (g18) (g19) (g20) (g21) (g22) (g23) (g24) (g25) (g26) (g27) (g28) (g29) s.heap.size o2 eo2.symm) (cwV 1 hts gfX12_lost_0 rfl rfl rfl (by decide +kernel) ⟨(Nat.le_of_ble_eq_true rfl), (Nat.le_of_ble_eq_true rfl)⟩) (PV (hP.sub (ws' := ([(a0, .inr (9, [.int m_t.1, .int m_t.2.1, .int m_t.2.2, g3, g4, g5, g6, g7, g8, g9, g10, g11, g12, g13, g14, g15, g16, g17, g18, g19, g20, g21, g22, g23, g24, g25, g26, g27, g28, g29]))])) [0] rfl) (hK.sub (tys' := ([])) [] rfl) (hD.sub (ws' := ([(a0, .inr (9, [.int m_t.1, .int m_t.2.1, .int m_t.2.2, g3, g4, g5, g6, g7, g8, g9, g10, g11, g12, g13, g14, g15, g16, g17, g18, g19, g20, g21, g22, g23, g24, g25, g26, g27, g28, g29]))])) [0] (by decide) rfl) hN 0 rfl rfl) rfl rfl hl.1 rfl (lv_room (Nat.le_of_ble_eq_true rfl)) dX12_lost_2 ⟨(Nat.le_of_ble_eq_true rfl), (Nat.le_of_ble_eq_true rfl)⟩) hP hD hK hS hA [0] [] rfl rfl (by decide) (by decide) (fun r2 _ H locs hw hP hD _ hS => ?_)
  obtain rfl := hw
  have hP : va_P (dC, dI) vwCl ([(a0, .inr (9, [.int o2.1, .int o2.2.1, .int o2.2.2, g3, g4, g5, g6, g7, g8, g9, g10, g11, g12, g13, g14, g15, g16, g17, g18, g19, g20, g21, g22, g23, g24, g25, g26, g27, g28, g29]))]) H := hP
  have hD : va_D A ([(a0, .inr (9, [.int o2.1, .int o2.2.1, .int o2.2.2, g3, g4, g5, g6, g7, g8, g9, g10, g11, g12, g13, g14, g15, g16, g17, g18, g19, g20, g21, g22, g23, g24, g25, g26, g27, g28, g29]))]) := hD
  refine lv_pop hx hb dX12_lost_5 rfl ?_
  refine lv_bipush (v := (-100)) hx hb dX12_lost_6 (by decide) ?_
  obtain rfl := h
  have hP9 := hP.sub (ws' := ([(a0, .inr (9, [.int o2.1, .int o2.2.1, .int o2.2.2, g3, g4, g5, g6, g7, g8, g9, g10, g11, g12, g13, g14, g15, g16, g17, g18, g19, g20, g21, g22, g23, g24, g25, g26, g27, g28, g29]))])) [0] rfl
  have hD9 := hD.sub (ws' := ([(a0, .inr (9, [.int o2.1, .int o2.2.1, .int o2.2.2, g3, g4, g5, g6, g7, g8, g9, g10, g11, g12, g13, g14, g15, g16, g17, g18, g19, g20, g21, g22, g23, g24, g25, g26, g27, g28, g29]))])) [0] (by decide) rfl
  have hK9 := hK.sub (tys' := []) [] rfl
  rw [hQQ]
  exact W.iret (v := (-100 : Int32)) hx hb hr (fun t ht hW => ⟨⟨(-100 : Int32), (), rfl, rfl, by rw [ht]; exact hP9, va_K.moved hW.alike hK9, hD9⟩, hS.F ht⟩) hS.2.2 dX12_lost_8
theorem dX12_lines_0 : decode cX12_lines 0 = .ok (.aload_n 0, 1) := by decide +kernel
theorem dX12_lines_1 : decode cX12_lines 1 = .ok (.iconst 0, 1) := by decide +kernel
theorem dX12_lines_18 : decode cX12_lines 18 = .ok (.iload_n 1, 1) := by decide +kernel
theorem dX12_lines_19 : decode cX12_lines 19 = .ok (.iconst 0, 1) := by decide +kernel
theorem dX12_lines_2 : decode cX12_lines 2 = .ok (.putfield 36, 3) := by decide +kernel
theorem dX12_lines_20 : decode cX12_lines 20 = .ok (.bipush 99, 2) := by decide +kernel
theorem dX12_lines_22 : decode cX12_lines 22 = .ok (.invokestatic 115, 3) := by decide +kernel
theorem dX12_lines_25 : decode cX12_lines 25 = .ok (.ifCond .eq 23, 3) := by decide +kernel
theorem dX12_lines_28 : decode cX12_lines 28 = .ok (.iload_n 2, 1) := by decide +kernel
theorem dX12_lines_29 : decode cX12_lines 29 = .ok (.iconst 0, 1) := by decide +kernel
theorem dX12_lines_30 : decode cX12_lines 30 = .ok (.bipush 6, 2) := by decide +kernel
theorem dX12_lines_32 : decode cX12_lines 32 = .ok (.invokestatic 115, 3) := by decide +kernel
theorem dX12_lines_35 : decode cX12_lines 35 = .ok (.ifCond .eq 13, 3) := by decide +kernel
theorem dX12_lines_38 : decode cX12_lines 38 = .ok (.iload_n 3, 1) := by decide +kernel
theorem dX12_lines_39 : decode cX12_lines 39 = .ok (.iconst 0, 1) := by decide +kernel
theorem dX12_lines_40 : decode cX12_lines 40 = .ok (.bipush 6, 2) := by decide +kernel
theorem dX12_lines_42 : decode cX12_lines 42 = .ok (.invokestatic 115, 3) := by decide +kernel
theorem dX12_lines_45 : decode cX12_lines 45 = .ok (.ifCond .ne 9, 3) := by decide +kernel
theorem dX12_lines_48 : decode cX12_lines 48 = .ok (.aload_n 0, 1) := by decide +kernel
theorem dX12_lines_49 : decode cX12_lines 49 = .ok (.iconst 2, 1) := by decide +kernel
theorem dX12_lines_5 : decode cX12_lines 5 = .ok (.aload_n 0, 1) := by decide +kernel
theorem dX12_lines_50 : decode cX12_lines 50 = .ok (.invokevirtual 451, 3) := by decide +kernel
theorem dX12_lines_53 : decode cX12_lines 53 = .ok (.ireturn, 1) := by decide +kernel
theorem dX12_lines_54 : decode cX12_lines 54 = .ok (.aload_n 0, 1) := by decide +kernel
theorem dX12_lines_55 : decode cX12_lines 55 = .ok (.iload 4, 2) := by decide +kernel
theorem dX12_lines_57 : decode cX12_lines 57 = .ok (.ifCond .eq 12, 3) := by decide +kernel
theorem dX12_lines_6 : decode cX12_lines 6 = .ok (.getfield 299, 3) := by decide +kernel
theorem dX12_lines_60 : decode cX12_lines 60 = .ok (.iload_n 1, 1) := by decide +kernel
theorem dX12_lines_61 : decode cX12_lines 61 = .ok (.iload_n 3, 1) := by decide +kernel
theorem dX12_lines_62 : decode cX12_lines 62 = .ok (.iload_n 2, 1) := by decide +kernel
theorem dX12_lines_63 : decode cX12_lines 63 = .ok (.invokestatic 454, 3) := by decide +kernel
theorem dX12_lines_66 : decode cX12_lines 66 = .ok (.goto 9, 3) := by decide +kernel
theorem dX12_lines_69 : decode cX12_lines 69 = .ok (.iload_n 1, 1) := by decide +kernel
theorem dX12_lines_70 : decode cX12_lines 70 = .ok (.iload_n 2, 1) := by decide +kernel
theorem dX12_lines_71 : decode cX12_lines 71 = .ok (.iload_n 3, 1) := by decide +kernel
theorem dX12_lines_72 : decode cX12_lines 72 = .ok (.invokestatic 454, 3) := by decide +kernel
theorem dX12_lines_75 : decode cX12_lines 75 = .ok (.invokevirtual 46, 3) := by decide +kernel
theorem dX12_lines_78 : decode cX12_lines 78 = .ok (.ireturn, 1) := by decide +kernel
theorem dX12_lines_9 : decode cX12_lines 9 = .ok (.ifnonnull 9, 3) := by decide +kernel
def vfX12_lines : List Cond := .code yX12_lines cX12_lines 5 (some .int) :: ([.fieldLink RX12 36 "HookPierModel" "thrown" "I", .fieldLink RX12 299 "HookPierModel" "pier" "LHookPierModel$Pier;", .methodLink RX12 115 yX12_in, .static yX12_in, .initialized RX12, .code yX12_in cX12_in 3 (some .boolean), .methodLink RX12 451 yX12_lost, .instanceMethod yX12_lost, .selects RX12 yX12_lost yX12_lost, .code yX12_lost cX12_lost 2 (some .int), .methodLink RX12 42 yX12_refused, .instanceMethod yX12_refused, .selects RX12 yX12_refused yX12_refused, .code yX12_refused cX12_refused 2 (some .int), .fieldLink RX12 39 "HookPierModel" "trouble" "I", .fieldLink RX12 9 "HookPierModel" "where" "I", .methodLink RX12 46 yX12_good, .instanceMethod yX12_good, .selects RX12 yX12_good yX12_good, .code yX12_good cX12_good 2 (some .int), .methodLink RX12 454 yX12_gets, .static yX12_gets, .code yX12_gets cX12_gets 3 (some .int)] ++ wsX120)
theorem ifX12_lines_X12 : ∀ w ∈ wsX120, w ∈ vfX12_lines := fun _ h => List.mem_cons_of_mem _ (List.mem_append_right _ h)
set_option maxRecDepth 20000 in
theorem gfX12_lines_0 : GoodIn vfX12_lines (va_wsS RX12 115 yX12_in vfX12_in) := goodIn_app (goodIn_r [.methodLink RX12 115 yX12_in, .static yX12_in, .initialized RX12] [3, 4, 5] (by decide +kernel) (by decide +kernel)) (goodIn_r (.code yX12_in cX12_in 3 (some .boolean) :: []) [6] (by decide +kernel) (by decide +kernel) : GoodIn vfX12_lines (.code yX12_in cX12_in 3 (some .boolean) :: []))
set_option maxRecDepth 20000 in
theorem gfX12_lines_1 : GoodIn vfX12_lines (wsV RX12 451 RX12 yX12_lost vfX12_lost) := goodIn_app (goodIn_r [.methodLink RX12 451 yX12_lost, .instanceMethod yX12_lost, .selects RX12 yX12_lost yX12_lost, .initialized RX12] [7, 8, 9, 5] (by decide +kernel) (by decide +kernel)) (goodIn_ca (goodIn_r (.code yX12_lost cX12_lost 2 (some .int) :: [.methodLink RX12 42 yX12_refused, .instanceMethod yX12_refused, .selects RX12 yX12_refused yX12_refused, .initialized RX12, .code yX12_refused cX12_refused 2 (some .int), .fieldLink RX12 39 "HookPierModel" "trouble" "I", .fieldLink RX12 9 "HookPierModel" "where" "I"]) [10, 11, 12, 13, 5, 14, 15, 16] (by decide +kernel) (by decide +kernel) : GoodIn vfX12_lines (.code yX12_lost cX12_lost 2 (some .int) :: [.methodLink RX12 42 yX12_refused, .instanceMethod yX12_refused, .selects RX12 yX12_refused yX12_refused, .initialized RX12, .code yX12_refused cX12_refused 2 (some .int), .fieldLink RX12 39 "HookPierModel" "trouble" "I", .fieldLink RX12 9 "HookPierModel" "where" "I"])) (goodIn_sub ifX12_lines_X12 (by decide +kernel)))
set_option maxRecDepth 20000 in
theorem gfX12_lines_2 : GoodIn vfX12_lines (wsV RX12 46 RX12 yX12_good vfX12_good) := goodIn_app (goodIn_r [.methodLink RX12 46 yX12_good, .instanceMethod yX12_good, .selects RX12 yX12_good yX12_good, .initialized RX12] [17, 18, 19, 5] (by decide +kernel) (by decide +kernel)) (goodIn_ca (goodIn_r (.code yX12_good cX12_good 2 (some .int) :: [.fieldLink RX12 39 "HookPierModel" "trouble" "I", .fieldLink RX12 9 "HookPierModel" "where" "I"]) [20, 15, 16] (by decide +kernel) (by decide +kernel) : GoodIn vfX12_lines (.code yX12_good cX12_good 2 (some .int) :: [.fieldLink RX12 39 "HookPierModel" "trouble" "I", .fieldLink RX12 9 "HookPierModel" "where" "I"])) (goodIn_sub ifX12_lines_X12 (by decide +kernel)))
set_option maxRecDepth 20000 in
theorem gfX12_lines_3 : GoodIn vfX12_lines (va_wsS RX12 454 yX12_gets vfX12_gets) := goodIn_app (goodIn_r [.methodLink RX12 454 yX12_gets, .static yX12_gets, .initialized RX12] [21, 22, 5] (by decide +kernel) (by decide +kernel)) (goodIn_r (.code yX12_gets cX12_gets 3 (some .int) :: []) [23] (by decide +kernel) (by decide +kernel) : GoodIn vfX12_lines (.code yX12_gets cX12_gets 3 (some .int) :: []))
set_option maxHeartbeats 2000000 in
set_option maxRecDepth 100000 in
theorem kfX12_lines (l : Launch) (dC : Nat → ClassId) (dI : Nat → Nat → Nat) (a0 : Nat) (k1 : Int32) (k2 : Int32) (k3 : Int32) (k4 : Int32) (m_t : TX12_t) (a6 : Nat) (g7 : Value) (g8 : Value) (g9 : Value) (g10 : Value) (g11 : Value) (g12 : Value) (g13 : Value) (g14 : Value) (g15 : Value) (g16 : Value) (g17 : Value) (g18 : Value) (g19 : Value) (g20 : Value) (g21 : Value) (g22 : Value) (g23 : Value) (g24 : Value) (g25 : Value) (g26 : Value) (g27 : Value) (g28 : Value) (g29 : Value) (g30 : Value) (g31 : Value) (g32 : Value) (sz : Nat) (out : (Int32 × TX12_t)) (h : f_X12_lines k1 k2 k3 k4 m_t = some out) : Met l yX12_lines vfX12_lines ({ frames := 2, cells := 0, slots := 0, locals := 42 }) (PC (dC, dI) [.ref a0, .int k1, .int k2, .int k3, .int k4] sz ([(a0, .inr (9, [.int m_t.1, .int m_t.2.1, .int m_t.2.2, .ref a6, g7, g8, g9, g10, g11, g12, g13, g14, g15, g16, g17, g18, g19, g20, g21, g22, g23, g24, g25, g26, g27, g28, g29, g30, g31, g32]))]) ([])) (va_Qi (S := Unit) (fun (r : Int32) _ => r = out.1) (fun _ t => BC (dC, dI) (va_A ([(a0, .inr (9, [.int m_t.1, .int m_t.2.1, .int m_t.2.2, .ref a6, g7, g8, g9, g10, g11, g12, g13, g14, g15, g16, g17, g18, g19, g20, g21, g22, g23, g24, g25, g26, g27, g28, g29, g30, g31, g32]))]) sz) ([(a0, .inr (9, [.int out.2.1, .int out.2.2.1, .int out.2.2.2, .ref a6, g7, g8, g9, g10, g11, g12, g13, g14, g15, g16, g17, g18, g19, g20, g21, g22, g23, g24, g25, g26, g27, g28, g29, g30, g31, g32]))]) [] t) (va_A ([(a0, .inr (9, [.int m_t.1, .int m_t.2.1, .int m_t.2.2, .ref a6, g7, g8, g9, g10, g11, g12, g13, g14, g15, g16, g17, g18, g19, g20, g21, g22, g23, g24, g25, g26, g27, g28, g29, g30, g31, g32]))]) sz)) 0 0 (va_A ([(a0, .inr (9, [.int m_t.1, .int m_t.2.1, .int m_t.2.2, .ref a6, g7, g8, g9, g10, g11, g12, g13, g14, g15, g16, g17, g18, g19, g20, g21, g22, g23, g24, g25, g26, g27, g28, g29, g30, g31, g32]))]) sz) := by
  refine Met.ofW (cc := cX12_lines) (maxL := 5) (ret := (some .int)) (by decide) rfl ?_
  intro p e s m args below meth c s₁ B0 hml hv
  obtain ⟨rfl, hsz, hP, hK, hD0, hN⟩ := hv
  have hx := B0.exec
  have hb := B0.bytes
  have hr := B0.returns
  have hts := atoms_spec (ws := vfX12_lines) B0.pre
  have hown : s.vm.findClass RX12 = some m.cls := findClass_of_methodNamed B0.named
  have hlocks := B0.notSynchronized
  subst hsz
  have hD := hD0.self (sz := s.heap.size)
  generalize hAe : va_A ([(a0, .inr (9, [.int m_t.1, .int m_t.2.1, .int m_t.2.2, .ref a6, g7, g8, g9, g10, g11, g12, g13, g14, g15, g16, g17, g18, g19, g20, g21, g22, g23, g24, g25, g26, g27, g28, g29, g30, g31, g32]))]) s.heap.size = A at hD ⊢
  have hA : ∀ q : Nat, s.heap.size ≤ q → A q := fun q h => by rw [← hAe]; exact Or.inr h
  have hS : va_S A s.heap s.heap [] := va_S.rf
  have hP : va_P (dC, dI) vwCl ([(a0, .inr (9, [.int m_t.1, .int m_t.2.1, .int m_t.2.2, .ref a6, g7, g8, g9, g10, g11, g12, g13, g14, g15, g16, g17, g18, g19, g20, g21, g22, g23, g24, g25, g26, g27, g28, g29, g30, g31, g32]))]) s.heap := hP
  have hl := lv_entry ([.ref a0, .int k1, .int k2, .int k3, .int k4]) (n := 5) (Nat.le_of_ble_eq_true rfl)
  rw [lg_entry_eq]
  generalize (lg_sl ([.ref a0, .int k1, .int k2, .int k3, .int k4]) ++ List.replicate (5 - (lg_sl ([.ref a0, .int k1, .int k2, .int k3, .int k4])).length) Slot.unset).toArray = ls at hl ⊢
  have hl : lv_has ls 5 [(0, .ref a0), (1, .int k1), (2, .int k2), (3, .int k3), (4, .int k4)] := hl
  refine W_q (fun QQ hQQ => ?_)
  rw [f_X12_lines] at h
  refine lv_aload_n hx hb dX12_lines_0 rfl (lv_at hl 0 rfl) ?_
  refine lv_iconst (v := 0) hx hb dX12_lines_1 (by decide) ?_
  refine va_put (D := (dC, dI)) (ci := 9) (v := .int 0) (ty := .int) (C := RX12) (T := TX12) (N := 30) hx hb hts ifX12_lines_X12 tyX12 tyX12_ok nmX12 hown hK hP hD hS 0 rfl rfl 0 (by decide) (hts (.fieldLink RX12 36 "HookPierModel" "thrown" "I") (List.mem_of_getElem? (i := 1) rfl)) (fun _ h9 => h9) rfl (by decide +kernel) rfl rfl (Nat.le_of_ble_eq_true rfl) dX12_lines_2 (fun H locs hP hD hS => ?_)
  have hP : va_P (dC, dI) vwCl ([(a0, .inr (9, [.int 0, .int m_t.2.1, .int m_t.2.2, .ref a6, g7, g8, g9, g10, g11, g12, g13, g14, g15, g16, g17, g18, g19, g20, g21, g22, g23, g24, g25, g26, g27, g28, g29, g30, g31, g32]))]) H := hP
  have hD : va_D A ([(a0, .inr (9, [.int 0, .int m_t.2.1, .int m_t.2.2, .ref a6, g7, g8, g9, g10, g11, g12, g13, g14, g15, g16, g17, g18, g19, g20, g21, g22, g23, g24, g25, g26, g27, g28, g29, g30, g31, g32]))]) := hD
  refine lv_aload_n hx hb dX12_lines_5 rfl (lv_at hl 0 rfl) ?_
  refine va_get (D := (dC, dI)) (ci := 9) (v := .ref a6) (C := RX12) (T := TX12) (N := 30) hx hb hts ifX12_lines_X12 hown hK hP 0 rfl rfl 3 (by decide) (hts (.fieldLink RX12 299 "HookPierModel" "pier" "LHookPierModel$Pier;") (List.mem_of_getElem? (i := 2) rfl)) (fun _ h9 => h9) rfl dX12_lines_6 ?_
  refine lv_ifnonnull (tgt := 18) hx hb dX12_lines_9 (by decide) ?_
  refine lv_iload_n hx hb dX12_lines_18 rfl (lv_at hl 1 rfl) ?_
  refine lv_iconst (v := 0) hx hb dX12_lines_19 (by decide) ?_
  refine lv_bipush (v := 99) hx hb dX12_lines_20 (by decide) ?_
  obtain ⟨o22, eo22⟩ : ∃ o, o = f_X12_in k1 (0 : Int32) (99 : Int32) := ⟨_, rfl⟩
  have h := nm_of h o22 eo22
  refine cl_i (wc := []) (wr := ([(a0, .inr (9, [.int 0, .int m_t.2.1, .int m_t.2.2, .ref a6, g7, g8, g9, g10, g11, g12, g13, g14, g15, g16, g17, g18, g19, g20, g21, g22, g23, g24, g25, g26, g27, g28, g29, g30, g31, g32]))])) (va_runS (As := [.int k1, .int 0, .int 99]) (rest := []) ⟨hx, hb, hml, hown, hts⟩ (kfX12_in l dC dI k1 (0 : Int32) (99 : Int32) H.size o22 eo22.symm) (va_cwS 3 hts gfX12_lines_0 rfl rfl rfl (by decide +kernel) ⟨(Nat.le_of_ble_eq_true rfl), (Nat.le_of_ble_eq_true rfl)⟩) (PS (hP.sub (ws' := []) [] rfl) (hK.sub (tys' := ([])) [] rfl) (hD.sub (ws' := []) [] (by decide) rfl) hN) rfl rfl hl.1 rfl (lv_room (Nat.le_of_ble_eq_true rfl)) dX12_lines_22 ⟨(Nat.le_of_ble_eq_true rfl), (Nat.le_of_ble_eq_true rfl)⟩) hP hD hK hS hA [] [0] rfl rfl (by decide) (by decide) (fun r22 _ H locs hw hP hD _ hS => ?_)
  obtain ⟨hw, br22⟩ := hw
  obtain rfl := hw.symm
  have hP : va_P (dC, dI) vwCl ([(a0, .inr (9, [.int 0, .int m_t.2.1, .int m_t.2.2, .ref a6, g7, g8, g9, g10, g11, g12, g13, g14, g15, g16, g17, g18, g19, g20, g21, g22, g23, g24, g25, g26, g27, g28, g29, g30, g31, g32]))]) H := hP
  have hD : va_D A ([(a0, .inr (9, [.int 0, .int m_t.2.1, .int m_t.2.2, .ref a6, g7, g8, g9, g10, g11, g12, g13, g14, g15, g16, g17, g18, g19, g20, g21, g22, g23, g24, g25, g26, g27, g28, g29, g30, g31, g32]))]) := hD
  have J48 : ∀ (H : Heap) (locs : List Loc) (ls : Array Slot), f_X12_lines_J48 m_t = some out → va_P (dC, dI) vwCl ([(a0, .inr (9, [.int 0, .int m_t.2.1, .int m_t.2.2, .ref a6, g7, g8, g9, g10, g11, g12, g13, g14, g15, g16, g17, g18, g19, g20, g21, g22, g23, g24, g25, g26, g27, g28, g29, g30, g31, g32]))]) H → va_D A ([(a0, .inr (9, [.int 0, .int m_t.2.1, .int m_t.2.2, .ref a6, g7, g8, g9, g10, g11, g12, g13, g14, g15, g16, g17, g18, g19, g20, g21, g22, g23, g24, g25, g26, g27, g28, g29, g30, g31, g32]))]) → va_S A s.heap H locs → lv_has ls 5 [(0, .ref a0)] → W p l e (headSpec vfX12_lines { frames := 2, cells := 0, slots := 0, locals := 42 }).room s m ([.ref a0, .int k1, .int k2, .int k3, .int k4]).toArray below meth c H locs 0 0 QQ (F0 m 48 ls []) := by
    intro  H locs ls h  hP hD hS hl
    rw [f_X12_lines_J48] at h
    refine lv_aload_n hx hb dX12_lines_48 rfl (lv_at hl 0 rfl) ?_
    refine lv_iconst (v := 2) hx hb dX12_lines_49 (by decide) ?_
    obtain ⟨o50, eo50⟩ : ∃ o, o = f_X12_lost (2 : Int32) ((0 : Int32), m_t.2) := ⟨_, rfl⟩
    have h := nm_of h o50 eo50
    refine cl_i (wc := ([(a0, .inr (9, [.int 0, .int m_t.2.1, .int m_t.2.2, .ref a6, g7, g8, g9, g10, g11, g12, g13, g14, g15, g16, g17, g18, g19, g20, g21, g22, g23, g24, g25, g26, g27, g28, g29, g30, g31, g32]))])) (wr := []) (va_runV (As := [.int 2]) (rest := []) ⟨hx, hb, hml, hown, hts⟩ (kfX12_lost l dC dI a0 (2 : Int32) ((0 : Int32), m_t.2) (.ref a6) (g7) (g8) (g9) (g10) (g11) (g12) (g13) (g14) (g15) (g16) (g17) (g18) (g19) (g20) (g21) (g22) (g23) (g24) (g25) (g26) (g27) (g28) (g29) (g30) (g31) (g32) H.size o50 eo50.symm) (cwV 1 hts gfX12_lines_1 rfl rfl rfl (by decide +kernel) ⟨(Nat.le_of_ble_eq_true rfl), (Nat.le_of_ble_eq_true rfl)⟩) (PV (hP.sub (ws' := ([(a0, .inr (9, [.int 0, .int m_t.2.1, .int m_t.2.2, .ref a6, g7, g8, g9, g10, g11, g12, g13, g14, g15, g16, g17, g18, g19, g20, g21, g22, g23, g24, g25, g26, g27, g28, g29, g30, g31, g32]))])) [0] rfl) (hK.sub (tys' := ([])) [] rfl) (hD.sub (ws' := ([(a0, .inr (9, [.int 0, .int m_t.2.1, .int m_t.2.2, .ref a6, g7, g8, g9, g10, g11, g12, g13, g14, g15, g16, g17, g18, g19, g20, g21, g22, g23, g24, g25, g26, g27, g28, g29, g30, g31, g32]))])) [0] (by decide) rfl) hN 0 rfl rfl) rfl rfl hl.1 rfl (lv_room (Nat.le_of_ble_eq_true rfl)) dX12_lines_50 ⟨(Nat.le_of_ble_eq_true rfl), (Nat.le_of_ble_eq_true rfl)⟩) hP hD hK hS hA [0] [] rfl rfl (by decide) (by decide) (fun r50 _ H locs hw hP hD _ hS => ?_)
    obtain rfl := hw
    have hP : va_P (dC, dI) vwCl ([(a0, .inr (9, [.int o50.1, .int o50.2.1, .int o50.2.2, .ref a6, g7, g8, g9, g10, g11, g12, g13, g14, g15, g16, g17, g18, g19, g20, g21, g22, g23, g24, g25, g26, g27, g28, g29, g30, g31, g32]))]) H := hP
    have hD : va_D A ([(a0, .inr (9, [.int o50.1, .int o50.2.1, .int o50.2.2, .ref a6, g7, g8, g9, g10, g11, g12, g13, g14, g15, g16, g17, g18, g19, g20, g21, g22, g23, g24, g25, g26, g27, g28, g29, g30, g31, g32]))]) := hD
    obtain rfl := Option.some.inj h
    have hP9 := hP.sub (ws' := ([(a0, .inr (9, [.int o50.1, .int o50.2.1, .int o50.2.2, .ref a6, g7, g8, g9, g10, g11, g12, g13, g14, g15, g16, g17, g18, g19, g20, g21, g22, g23, g24, g25, g26, g27, g28, g29, g30, g31, g32]))])) [0] rfl
    have hD9 := hD.sub (ws' := ([(a0, .inr (9, [.int o50.1, .int o50.2.1, .int o50.2.2, .ref a6, g7, g8, g9, g10, g11, g12, g13, g14, g15, g16, g17, g18, g19, g20, g21, g22, g23, g24, g25, g26, g27, g28, g29, g30, g31, g32]))])) [0] (by decide) rfl
    have hK9 := hK.sub (tys' := []) [] rfl
    rw [hQQ]
    exact W.iret (v := (-100 : Int32)) hx hb hr (fun t ht hW => ⟨⟨(-100 : Int32), (), rfl, rfl, by rw [ht]; exact hP9, va_K.moved hW.alike hK9, hD9⟩, hS.F ht⟩) hS.2.2 dX12_lines_53
  refine lv_if_eq (tgt := 48) hx hb dX12_lines_25 (by decide) (fun c25 => ?_) (fun c25 => ?_)
  · have h := (if_pos c25).symm.trans h
    exact J48  H _ ls h  hP hD hS (lv_sub hl [0] rfl)
  · have h := (if_neg c25).symm.trans h
    refine lv_iload_n hx hb dX12_lines_28 rfl (lv_at hl 2 rfl) ?_
    refine lv_iconst (v := 0) hx hb dX12_lines_29 (by decide) ?_
    refine lv_bipush (v := 6) hx hb dX12_lines_30 (by decide) ?_
    obtain ⟨o32, eo32⟩ : ∃ o, o = f_X12_in k2 (0 : Int32) (6 : Int32) := ⟨_, rfl⟩
    have h := nm_of h o32 eo32
    refine cl_i (wc := []) (wr := ([(a0, .inr (9, [.int 0, .int m_t.2.1, .int m_t.2.2, .ref a6, g7, g8, g9, g10, g11, g12, g13, g14, g15, g16, g17, g18, g19, g20, g21, g22, g23, g24, g25, g26, g27, g28, g29, g30, g31, g32]))])) (va_runS (As := [.int k2, .int 0, .int 6]) (rest := []) ⟨hx, hb, hml, hown, hts⟩ (kfX12_in l dC dI k2 (0 : Int32) (6 : Int32) H.size o32 eo32.symm) (va_cwS 3 hts gfX12_lines_0 rfl rfl rfl (by decide +kernel) ⟨(Nat.le_of_ble_eq_true rfl), (Nat.le_of_ble_eq_true rfl)⟩) (PS (hP.sub (ws' := []) [] rfl) (hK.sub (tys' := ([])) [] rfl) (hD.sub (ws' := []) [] (by decide) rfl) hN) rfl rfl hl.1 rfl (lv_room (Nat.le_of_ble_eq_true rfl)) dX12_lines_32 ⟨(Nat.le_of_ble_eq_true rfl), (Nat.le_of_ble_eq_true rfl)⟩) hP hD hK hS hA [] [0] rfl rfl (by decide) (by decide) (fun r32 _ H locs hw hP hD _ hS => ?_)
    obtain ⟨hw, br32⟩ := hw
    obtain rfl := hw.symm
    have hP : va_P (dC, dI) vwCl ([(a0, .inr (9, [.int 0, .int m_t.2.1, .int m_t.2.2, .ref a6, g7, g8, g9, g10, g11, g12, g13, g14, g15, g16, g17, g18, g19, g20, g21, g22, g23, g24, g25, g26, g27, g28, g29, g30, g31, g32]))]) H := hP
    have hD : va_D A ([(a0, .inr (9, [.int 0, .int m_t.2.1, .int m_t.2.2, .ref a6, g7, g8, g9, g10, g11, g12, g13, g14, g15, g16, g17, g18, g19, g20, g21, g22, g23, g24, g25, g26, g27, g28, g29, g30, g31, g32]))]) := hD
    refine lv_if_eq (tgt := 48) hx hb dX12_lines_35 (by decide) (fun c35 => ?_) (fun c35 => ?_)
    · have h := (if_pos c35).symm.trans h
      exact J48  H _ ls h  hP hD hS (lv_sub hl [0] rfl)
    · have h := (if_neg c35).symm.trans h
      refine lv_iload_n hx hb dX12_lines_38 rfl (lv_at hl 3 rfl) ?_
      refine lv_iconst (v := 0) hx hb dX12_lines_39 (by decide) ?_
      refine lv_bipush (v := 6) hx hb dX12_lines_40 (by decide) ?_
      obtain ⟨o42, eo42⟩ : ∃ o, o = f_X12_in k3 (0 : Int32) (6 : Int32) := ⟨_, rfl⟩
      have h := nm_of h o42 eo42
      refine cl_i (wc := []) (wr := ([(a0, .inr (9, [.int 0, .int m_t.2.1, .int m_t.2.2, .ref a6, g7, g8, g9, g10, g11, g12, g13, g14, g15, g16, g17, g18, g19, g20, g21, g22, g23, g24, g25, g26, g27, g28, g29, g30, g31, g32]))])) (va_runS (As := [.int k3, .int 0, .int 6]) (rest := []) ⟨hx, hb, hml, hown, hts⟩ (kfX12_in l dC dI k3 (0 : Int32) (6 : Int32) H.size o42 eo42.symm) (va_cwS 3 hts gfX12_lines_0 rfl rfl rfl (by decide +kernel) ⟨(Nat.le_of_ble_eq_true rfl), (Nat.le_of_ble_eq_true rfl)⟩) (PS (hP.sub (ws' := []) [] rfl) (hK.sub (tys' := ([])) [] rfl) (hD.sub (ws' := []) [] (by decide) rfl) hN) rfl rfl hl.1 rfl (lv_room (Nat.le_of_ble_eq_true rfl)) dX12_lines_42 ⟨(Nat.le_of_ble_eq_true rfl), (Nat.le_of_ble_eq_true rfl)⟩) hP hD hK hS hA [] [0] rfl rfl (by decide) (by decide) (fun r42 _ H locs hw hP hD _ hS => ?_)
      obtain ⟨hw, br42⟩ := hw
      obtain rfl := hw.symm
      have hP : va_P (dC, dI) vwCl ([(a0, .inr (9, [.int 0, .int m_t.2.1, .int m_t.2.2, .ref a6, g7, g8, g9, g10, g11, g12, g13, g14, g15, g16, g17, g18, g19, g20, g21, g22, g23, g24, g25, g26, g27, g28, g29, g30, g31, g32]))]) H := hP
      have hD : va_D A ([(a0, .inr (9, [.int 0, .int m_t.2.1, .int m_t.2.2, .ref a6, g7, g8, g9, g10, g11, g12, g13, g14, g15, g16, g17, g18, g19, g20, g21, g22, g23, g24, g25, g26, g27, g28, g29, g30, g31, g32]))]) := hD
      refine lv_if_ne (tgt := 54) hx hb dX12_lines_45 (by decide) (fun c45 => ?_) (fun c45 => ?_)
      · have h := (if_neg c45).symm.trans h
        refine lv_aload_n hx hb dX12_lines_54 rfl (lv_at hl 0 rfl) ?_
        refine lv_iload hx hb dX12_lines_55 (lv_at hl 4 rfl) ?_
        have J75 : ∀ (v75_t1 : Int32) (H : Heap) (locs : List Loc) (ls : Array Slot), f_X12_lines_J75 m_t v75_t1 = some out → va_P (dC, dI) vwCl ([(a0, .inr (9, [.int 0, .int m_t.2.1, .int m_t.2.2, .ref a6, g7, g8, g9, g10, g11, g12, g13, g14, g15, g16, g17, g18, g19, g20, g21, g22, g23, g24, g25, g26, g27, g28, g29, g30, g31, g32]))]) H → va_D A ([(a0, .inr (9, [.int 0, .int m_t.2.1, .int m_t.2.2, .ref a6, g7, g8, g9, g10, g11, g12, g13, g14, g15, g16, g17, g18, g19, g20, g21, g22, g23, g24, g25, g26, g27, g28, g29, g30, g31, g32]))]) → va_S A s.heap H locs → lv_has ls 5 [] → W p l e (headSpec vfX12_lines { frames := 2, cells := 0, slots := 0, locals := 42 }).room s m ([.ref a0, .int k1, .int k2, .int k3, .int k4]).toArray below meth c H locs 0 0 QQ (F0 m 75 ls [.int v75_t1, .ref a0]) := by
          intro v75_t1 H locs ls h  hP hD hS hl
          rw [f_X12_lines_J75] at h
          obtain ⟨o75, eo75⟩ : ∃ o, o = f_X12_good v75_t1 ((0 : Int32), m_t.2) := ⟨_, rfl⟩
          have h := nm_of h o75 eo75
          refine cl_i (wc := ([(a0, .inr (9, [.int 0, .int m_t.2.1, .int m_t.2.2, .ref a6, g7, g8, g9, g10, g11, g12, g13, g14, g15, g16, g17, g18, g19, g20, g21, g22, g23, g24, g25, g26, g27, g28, g29, g30, g31, g32]))])) (wr := []) (va_runV (As := [.int v75_t1]) (rest := []) ⟨hx, hb, hml, hown, hts⟩ (kfX12_good l dC dI a0 v75_t1 ((0 : Int32), m_t.2) (.ref a6) (g7) (g8) (g9) (g10) (g11) (g12) (g13) (g14) (g15) (g16) (g17) (g18) (g19) (g20) (g21) (g22) (g23) (g24) (g25) (g26) (g27) (g28) (g29) (g30) (g31) (g32) H.size o75 eo75.symm) (cwV 1 hts gfX12_lines_2 rfl rfl rfl (by decide +kernel) ⟨(Nat.le_of_ble_eq_true rfl), (Nat.le_of_ble_eq_true rfl)⟩) (PV (hP.sub (ws' := ([(a0, .inr (9, [.int 0, .int m_t.2.1, .int m_t.2.2, .ref a6, g7, g8, g9, g10, g11, g12, g13, g14, g15, g16, g17, g18, g19, g20, g21, g22, g23, g24, g25, g26, g27, g28, g29, g30, g31, g32]))])) [0] rfl) (hK.sub (tys' := ([])) [] rfl) (hD.sub (ws' := ([(a0, .inr (9, [.int 0, .int m_t.2.1, .int m_t.2.2, .ref a6, g7, g8, g9, g10, g11, g12, g13, g14, g15, g16, g17, g18, g19, g20, g21, g22, g23, g24, g25, g26, g27, g28, g29, g30, g31, g32]))])) [0] (by decide) rfl) hN 0 rfl rfl) rfl rfl hl.1 rfl (lv_room (Nat.le_of_ble_eq_true rfl)) dX12_lines_75 ⟨(Nat.le_of_ble_eq_true rfl), (Nat.le_of_ble_eq_true rfl)⟩) hP hD hK hS hA [0] [] rfl rfl (by decide) (by decide) (fun r75 _ H locs hw hP hD _ hS => ?_)
          obtain rfl := hw
          have hP : va_P (dC, dI) vwCl ([(a0, .inr (9, [.int o75.2.1, .int o75.2.2.1, .int o75.2.2.2, .ref a6, g7, g8, g9, g10, g11, g12, g13, g14, g15, g16, g17, g18, g19, g20, g21, g22, g23, g24, g25, g26, g27, g28, g29, g30, g31, g32]))]) H := hP
          have hD : va_D A ([(a0, .inr (9, [.int o75.2.1, .int o75.2.2.1, .int o75.2.2.2, .ref a6, g7, g8, g9, g10, g11, g12, g13, g14, g15, g16, g17, g18, g19, g20, g21, g22, g23, g24, g25, g26, g27, g28, g29, g30, g31, g32]))]) := hD
          obtain rfl := Option.some.inj h
          have hP9 := hP.sub (ws' := ([(a0, .inr (9, [.int o75.2.1, .int o75.2.2.1, .int o75.2.2.2, .ref a6, g7, g8, g9, g10, g11, g12, g13, g14, g15, g16, g17, g18, g19, g20, g21, g22, g23, g24, g25, g26, g27, g28, g29, g30, g31, g32]))])) [0] rfl
          have hD9 := hD.sub (ws' := ([(a0, .inr (9, [.int o75.2.1, .int o75.2.2.1, .int o75.2.2.2, .ref a6, g7, g8, g9, g10, g11, g12, g13, g14, g15, g16, g17, g18, g19, g20, g21, g22, g23, g24, g25, g26, g27, g28, g29, g30, g31, g32]))])) [0] (by decide) rfl
          have hK9 := hK.sub (tys' := []) [] rfl
          rw [hQQ]
          exact W.iret (v := o75.1) hx hb hr (fun t ht hW => ⟨⟨o75.1, (), rfl, rfl, by rw [ht]; exact hP9, va_K.moved hW.alike hK9, hD9⟩, hS.F ht⟩) hS.2.2 dX12_lines_78
        refine lv_if_eq (tgt := 69) hx hb dX12_lines_57 (by decide) (fun c57 => ?_) (fun c57 => ?_)
        · have h := (if_pos c57).symm.trans h
          refine lv_iload_n hx hb dX12_lines_69 rfl (lv_at hl 1 rfl) ?_
          refine lv_iload_n hx hb dX12_lines_70 rfl (lv_at hl 2 rfl) ?_
          refine lv_iload_n hx hb dX12_lines_71 rfl (lv_at hl 3 rfl) ?_
          obtain ⟨o72, eo72, h⟩ := bd_of h
          refine cl_i (wc := []) (wr := ([(a0, .inr (9, [.int 0, .int m_t.2.1, .int m_t.2.2, .ref a6, g7, g8, g9, g10, g11, g12, g13, g14, g15, g16, g17, g18, g19, g20, g21, g22, g23, g24, g25, g26, g27, g28, g29, g30, g31, g32]))])) (va_runS (As := [.int k1, .int k2, .int k3]) (rest := [.ref a0]) ⟨hx, hb, hml, hown, hts⟩ (kfX12_gets l dC dI k1 k2 k3 H.size o72 eo72) (va_cwS 3 hts gfX12_lines_3 rfl rfl rfl (by decide +kernel) ⟨(Nat.le_of_ble_eq_true rfl), (Nat.le_of_ble_eq_true rfl)⟩) (PS (hP.sub (ws' := []) [] rfl) (hK.sub (tys' := ([])) [] rfl) (hD.sub (ws' := []) [] (by decide) rfl) hN) rfl rfl hl.1 rfl (lv_room (Nat.le_of_ble_eq_true rfl)) dX12_lines_72 ⟨(Nat.le_of_ble_eq_true rfl), (Nat.le_of_ble_eq_true rfl)⟩) hP hD hK hS hA [] [0] rfl rfl (by decide) (by decide) (fun r72 _ H locs hw hP hD _ hS => ?_)
          obtain rfl := hw.symm
          have hP : va_P (dC, dI) vwCl ([(a0, .inr (9, [.int 0, .int m_t.2.1, .int m_t.2.2, .ref a6, g7, g8, g9, g10, g11, g12, g13, g14, g15, g16, g17, g18, g19, g20, g21, g22, g23, g24, g25, g26, g27, g28, g29, g30, g31, g32]))]) H := hP
          have hD : va_D A ([(a0, .inr (9, [.int 0, .int m_t.2.1, .int m_t.2.2, .ref a6, g7, g8, g9, g10, g11, g12, g13, g14, g15, g16, g17, g18, g19, g20, g21, g22, g23, g24, g25, g26, g27, g28, g29, g30, g31, g32]))]) := hD
          exact J75 o72 H _ ls h  hP hD hS (lv_sub hl [] rfl)
        · have h := (if_neg c57).symm.trans h
          refine lv_iload_n hx hb dX12_lines_60 rfl (lv_at hl 1 rfl) ?_
          refine lv_iload_n hx hb dX12_lines_61 rfl (lv_at hl 3 rfl) ?_
          refine lv_iload_n hx hb dX12_lines_62 rfl (lv_at hl 2 rfl) ?_
          obtain ⟨o63, eo63, h⟩ := bd_of h
          refine cl_i (wc := []) (wr := ([(a0, .inr (9, [.int 0, .int m_t.2.1, .int m_t.2.2, .ref a6, g7, g8, g9, g10, g11, g12, g13, g14, g15, g16, g17, g18, g19, g20, g21, g22, g23, g24, g25, g26, g27, g28, g29, g30, g31, g32]))])) (va_runS (As := [.int k1, .int k3, .int k2]) (rest := [.ref a0]) ⟨hx, hb, hml, hown, hts⟩ (kfX12_gets l dC dI k1 k3 k2 H.size o63 eo63) (va_cwS 3 hts gfX12_lines_3 rfl rfl rfl (by decide +kernel) ⟨(Nat.le_of_ble_eq_true rfl), (Nat.le_of_ble_eq_true rfl)⟩) (PS (hP.sub (ws' := []) [] rfl) (hK.sub (tys' := ([])) [] rfl) (hD.sub (ws' := []) [] (by decide) rfl) hN) rfl rfl hl.1 rfl (lv_room (Nat.le_of_ble_eq_true rfl)) dX12_lines_63 ⟨(Nat.le_of_ble_eq_true rfl), (Nat.le_of_ble_eq_true rfl)⟩) hP hD hK hS hA [] [0] rfl rfl (by decide) (by decide) (fun r63 _ H locs hw hP hD _ hS => ?_)
          obtain rfl := hw.symm
          have hP : va_P (dC, dI) vwCl ([(a0, .inr (9, [.int 0, .int m_t.2.1, .int m_t.2.2, .ref a6, g7, g8, g9, g10, g11, g12, g13, g14, g15, g16, g17, g18, g19, g20, g21, g22, g23, g24, g25, g26, g27, g28, g29, g30, g31, g32]))]) H := hP
          have hD : va_D A ([(a0, .inr (9, [.int 0, .int m_t.2.1, .int m_t.2.2, .ref a6, g7, g8, g9, g10, g11, g12, g13, g14, g15, g16, g17, g18, g19, g20, g21, g22, g23, g24, g25, g26, g27, g28, g29, g30, g31, g32]))]) := hD
          refine lv_goto (tgt := 75) hx hb dX12_lines_66 (by decide) ?_
          exact J75 o63 H _ ls h  hP hD hS (lv_sub hl [] rfl)
      · have h := (if_pos c45).symm.trans h
        exact J48  H _ ls h  hP hD hS (lv_sub hl [0] rfl)
theorem dX12_refusesStock_0 : decode cX12_refusesStock 0 = .ok (.aload_n 0, 1) := by decide +kernel
theorem dX12_refusesStock_1 : decode cX12_refusesStock 1 = .ok (.getfield 299, 3) := by decide +kernel
theorem dX12_refusesStock_11 : decode cX12_refusesStock 11 = .ok (.iload_n 1, 1) := by decide +kernel
theorem dX12_refusesStock_12 : decode cX12_refusesStock 12 = .ok (.iconst 0, 1) := by decide +kernel
theorem dX12_refusesStock_13 : decode cX12_refusesStock 13 = .ok (.bipush 99, 2) := by decide +kernel
theorem dX12_refusesStock_15 : decode cX12_refusesStock 15 = .ok (.invokestatic 115, 3) := by decide +kernel
theorem dX12_refusesStock_18 : decode cX12_refusesStock 18 = .ok (.ifCond .eq 7, 3) := by decide +kernel
theorem dX12_refusesStock_21 : decode cX12_refusesStock 21 = .ok (.iconst 0, 1) := by decide +kernel
theorem dX12_refusesStock_22 : decode cX12_refusesStock 22 = .ok (.goto 4, 3) := by decide +kernel
theorem dX12_refusesStock_25 : decode cX12_refusesStock 25 = .ok (.iconst 2, 1) := by decide +kernel
theorem dX12_refusesStock_26 : decode cX12_refusesStock 26 = .ok (.ireturn, 1) := by decide +kernel
theorem dX12_refusesStock_4 : decode cX12_refusesStock 4 = .ok (.ifnonnull 7, 3) := by decide +kernel
def vfX12_refusesStock : List Cond := .code yX12_refusesStock cX12_refusesStock 2 (some .int) :: ([.fieldLink RX12 299 "HookPierModel" "pier" "LHookPierModel$Pier;", .methodLink RX12 115 yX12_in, .static yX12_in, .initialized RX12, .code yX12_in cX12_in 3 (some .boolean)] ++ wsX120)
theorem ifX12_refusesStock_X12 : ∀ w ∈ wsX120, w ∈ vfX12_refusesStock := fun _ h => List.mem_cons_of_mem _ (List.mem_append_right _ h)
set_option maxRecDepth 20000 in
theorem gfX12_refusesStock_0 : GoodIn vfX12_refusesStock (va_wsS RX12 115 yX12_in vfX12_in) := goodIn_app (goodIn_r [.methodLink RX12 115 yX12_in, .static yX12_in, .initialized RX12] [2, 3, 4] (by decide +kernel) (by decide +kernel)) (goodIn_r (.code yX12_in cX12_in 3 (some .boolean) :: []) [5] (by decide +kernel) (by decide +kernel) : GoodIn vfX12_refusesStock (.code yX12_in cX12_in 3 (some .boolean) :: []))
set_option maxHeartbeats 2000000 in
set_option maxRecDepth 100000 in
theorem kfX12_refusesStock (l : Launch) (dC : Nat → ClassId) (dI : Nat → Nat → Nat) (a0 : Nat) (k1 : Int32) (g2 : Value) (g3 : Value) (g4 : Value) (a5 : Nat) (g6 : Value) (g7 : Value) (g8 : Value) (g9 : Value) (g10 : Value) (g11 : Value) (g12 : Value) (g13 : Value) (g14 : Value) (g15 : Value) (g16 : Value) (g17 : Value) (g18 : Value) (g19 : Value) (g20 : Value) (g21 : Value) (g22 : Value) (g23 : Value) (g24 : Value) (g25 : Value) (g26 : Value) (g27 : Value) (g28 : Value) (g29 : Value) (g30 : Value) (g31 : Value) (sz : Nat) (out : Int32) (h : f_X12_refusesStock k1 = out) : Met l yX12_refusesStock vfX12_refusesStock ({ frames := 1, cells := 0, slots := 0, locals := 22 }) (PC (dC, dI) [.ref a0, .int k1] sz ([(a0, .inr (9, [g2, g3, g4, .ref a5, g6, g7, g8, g9, g10, g11, g12, g13, g14, g15, g16, g17, g18, g19, g20, g21, g22, g23, g24, g25, g26, g27, g28, g29, g30, g31]))]) ([])) (va_Qi (S := Unit) (fun (r : Int32) _ => r = out) (fun _ t => BC (dC, dI) (va_A ([(a0, .inr (9, [g2, g3, g4, .ref a5, g6, g7, g8, g9, g10, g11, g12, g13, g14, g15, g16, g17, g18, g19, g20, g21, g22, g23, g24, g25, g26, g27, g28, g29, g30, g31]))]) sz) ([(a0, .inr (9, [g2, g3, g4, .ref a5, g6, g7, g8, g9, g10, g11, g12, g13, g14, g15, g16, g17, g18, g19, g20, g21, g22, g23, g24, g25, g26, g27, g28, g29, g30, g31]))]) [] t) (va_A ([(a0, .inr (9, [g2, g3, g4, .ref a5, g6, g7, g8, g9, g10, g11, g12, g13, g14, g15, g16, g17, g18, g19, g20, g21, g22, g23, g24, g25, g26, g27, g28, g29, g30, g31]))]) sz)) 0 0 (va_A ([(a0, .inr (9, [g2, g3, g4, .ref a5, g6, g7, g8, g9, g10, g11, g12, g13, g14, g15, g16, g17, g18, g19, g20, g21, g22, g23, g24, g25, g26, g27, g28, g29, g30, g31]))]) sz) := by
  refine Met.ofW (cc := cX12_refusesStock) (maxL := 2) (ret := (some .int)) (by decide) rfl ?_
  intro p e s m args below meth c s₁ B0 hml hv
  obtain ⟨rfl, hsz, hP, hK, hD0, hN⟩ := hv
  have hx := B0.exec
  have hb := B0.bytes
  have hr := B0.returns
  have hts := atoms_spec (ws := vfX12_refusesStock) B0.pre
  have hown : s.vm.findClass RX12 = some m.cls := findClass_of_methodNamed B0.named
  have hlocks := B0.notSynchronized
  subst hsz
  have hD := hD0.self (sz := s.heap.size)
  generalize hAe : va_A ([(a0, .inr (9, [g2, g3, g4, .ref a5, g6, g7, g8, g9, g10, g11, g12, g13, g14, g15, g16, g17, g18, g19, g20, g21, g22, g23, g24, g25, g26, g27, g28, g29, g30, g31]))]) s.heap.size = A at hD ⊢
  have hA : ∀ q : Nat, s.heap.size ≤ q → A q := fun q h => by rw [← hAe]; exact Or.inr h
  have hS : va_S A s.heap s.heap [] := va_S.rf
  have hP : va_P (dC, dI) vwCl ([(a0, .inr (9, [g2, g3, g4, .ref a5, g6, g7, g8, g9, g10, g11, g12, g13, g14, g15, g16, g17, g18, g19, g20, g21, g22, g23, g24, g25, g26, g27, g28, g29, g30, g31]))]) s.heap := hP
  have hl := lv_entry ([.ref a0, .int k1]) (n := 2) (Nat.le_of_ble_eq_true rfl)
  rw [lg_entry_eq]
  generalize (lg_sl ([.ref a0, .int k1]) ++ List.replicate (2 - (lg_sl ([.ref a0, .int k1])).length) Slot.unset).toArray = ls at hl ⊢
  have hl : lv_has ls 2 [(0, .ref a0), (1, .int k1)] := hl
  refine W_q (fun QQ hQQ => ?_)
  rw [f_X12_refusesStock] at h
  refine lv_aload_n hx hb dX12_refusesStock_0 rfl (lv_at hl 0 rfl) ?_
  refine va_get (D := (dC, dI)) (ci := 9) (v := .ref a5) (C := RX12) (T := TX12) (N := 30) hx hb hts ifX12_refusesStock_X12 hown hK hP 0 rfl rfl 3 (by decide) (hts (.fieldLink RX12 299 "HookPierModel" "pier" "LHookPierModel$Pier;") (List.mem_of_getElem? (i := 1) rfl)) (fun _ h9 => h9) rfl dX12_refusesStock_1 ?_
  refine lv_ifnonnull (tgt := 11) hx hb dX12_refusesStock_4 (by decide) ?_
  refine lv_iload_n hx hb dX12_refusesStock_11 rfl (lv_at hl 1 rfl) ?_
  refine lv_iconst (v := 0) hx hb dX12_refusesStock_12 (by decide) ?_
  refine lv_bipush (v := 99) hx hb dX12_refusesStock_13 (by decide) ?_
  obtain ⟨o15, eo15⟩ : ∃ o, o = f_X12_in k1 (0 : Int32) (99 : Int32) := ⟨_, rfl⟩
  have h := nm_of h o15 eo15
  refine cl_i (wc := []) (wr := ([(a0, .inr (9, [g2, g3, g4, .ref a5, g6, g7, g8, g9, g10, g11, g12, g13, g14, g15, g16, g17, g18, g19, g20, g21, g22, g23, g24, g25, g26, g27, g28, g29, g30, g31]))])) (va_runS (As := [.int k1, .int 0, .int 99]) (rest := []) ⟨hx, hb, hml, hown, hts⟩ (kfX12_in l dC dI k1 (0 : Int32) (99 : Int32) s.heap.size o15 eo15.symm) (va_cwS 3 hts gfX12_refusesStock_0 rfl rfl rfl (by decide +kernel) ⟨(Nat.le_of_ble_eq_true rfl), (Nat.le_of_ble_eq_true rfl)⟩) (PS (hP.sub (ws' := []) [] rfl) (hK.sub (tys' := ([])) [] rfl) (hD.sub (ws' := []) [] (by decide) rfl) hN) rfl rfl hl.1 rfl (lv_room (Nat.le_of_ble_eq_true rfl)) dX12_refusesStock_15 ⟨(Nat.le_of_ble_eq_true rfl), (Nat.le_of_ble_eq_true rfl)⟩) hP hD hK hS hA [] [0] rfl rfl (by decide) (by decide) (fun r15 _ H locs hw hP hD _ hS => ?_)
  obtain ⟨hw, br15⟩ := hw
  obtain rfl := hw.symm
  have hP : va_P (dC, dI) vwCl ([(a0, .inr (9, [g2, g3, g4, .ref a5, g6, g7, g8, g9, g10, g11, g12, g13, g14, g15, g16, g17, g18, g19, g20, g21, g22, g23, g24, g25, g26, g27, g28, g29, g30, g31]))]) H := hP
  have hD : va_D A ([(a0, .inr (9, [g2, g3, g4, .ref a5, g6, g7, g8, g9, g10, g11, g12, g13, g14, g15, g16, g17, g18, g19, g20, g21, g22, g23, g24, g25, g26, g27, g28, g29, g30, g31]))]) := hD
  refine lv_if_eq (tgt := 25) hx hb dX12_refusesStock_18 (by decide) (fun c18 => ?_) (fun c18 => ?_)
  · have h := (if_pos c18).symm.trans h
    refine lv_iconst (v := 2) hx hb dX12_refusesStock_25 (by decide) ?_
    obtain rfl := h
    have hP9 := hP.sub (ws' := ([(a0, .inr (9, [g2, g3, g4, .ref a5, g6, g7, g8, g9, g10, g11, g12, g13, g14, g15, g16, g17, g18, g19, g20, g21, g22, g23, g24, g25, g26, g27, g28, g29, g30, g31]))])) [0] rfl
    have hD9 := hD.sub (ws' := ([(a0, .inr (9, [g2, g3, g4, .ref a5, g6, g7, g8, g9, g10, g11, g12, g13, g14, g15, g16, g17, g18, g19, g20, g21, g22, g23, g24, g25, g26, g27, g28, g29, g30, g31]))])) [0] (by decide) rfl
    have hK9 := hK.sub (tys' := []) [] rfl
    rw [hQQ]
    exact W.iret (v := (2 : Int32)) hx hb hr (fun t ht hW => ⟨⟨(2 : Int32), (), rfl, rfl, by rw [ht]; exact hP9, va_K.moved hW.alike hK9, hD9⟩, hS.F ht⟩) hS.2.2 dX12_refusesStock_26
  · have h := (if_neg c18).symm.trans h
    refine lv_iconst (v := 0) hx hb dX12_refusesStock_21 (by decide) ?_
    refine lv_goto (tgt := 26) hx hb dX12_refusesStock_22 (by decide) ?_
    obtain rfl := h
    have hP9 := hP.sub (ws' := ([(a0, .inr (9, [g2, g3, g4, .ref a5, g6, g7, g8, g9, g10, g11, g12, g13, g14, g15, g16, g17, g18, g19, g20, g21, g22, g23, g24, g25, g26, g27, g28, g29, g30, g31]))])) [0] rfl
    have hD9 := hD.sub (ws' := ([(a0, .inr (9, [g2, g3, g4, .ref a5, g6, g7, g8, g9, g10, g11, g12, g13, g14, g15, g16, g17, g18, g19, g20, g21, g22, g23, g24, g25, g26, g27, g28, g29, g30, g31]))])) [0] (by decide) rfl
    have hK9 := hK.sub (tys' := []) [] rfl
    rw [hQQ]
    exact W.iret (v := (0 : Int32)) hx hb hr (fun t ht hW => ⟨⟨(0 : Int32), (), rfl, rfl, by rw [ht]; exact hP9, va_K.moved hW.alike hK9, hD9⟩, hS.F ht⟩) hS.2.2 dX12_refusesStock_26
theorem dX12_isRest_0 : decode cX12_isRest 0 = .ok (.iconst 0, 1) := by decide +kernel
theorem dX12_isRest_1 : decode cX12_isRest 1 = .ok (.istore_n 3, 1) := by decide +kernel
theorem dX12_isRest_10 : decode cX12_isRest 10 = .ok (.iload_n 2, 1) := by decide +kernel
theorem dX12_isRest_11 : decode cX12_isRest 11 = .ok (.invokestatic 454, 3) := by decide +kernel
theorem dX12_isRest_14 : decode cX12_isRest 14 = .ok (.iload_n 0, 1) := by decide +kernel
theorem dX12_isRest_15 : decode cX12_isRest 15 = .ok (.iload_n 1, 1) := by decide +kernel
theorem dX12_isRest_16 : decode cX12_isRest 16 = .ok (.iload_n 2, 1) := by decide +kernel
theorem dX12_isRest_17 : decode cX12_isRest 17 = .ok (.invokestatic 454, 3) := by decide +kernel
theorem dX12_isRest_2 : decode cX12_isRest 2 = .ok (.iload_n 3, 1) := by decide +kernel
theorem dX12_isRest_20 : decode cX12_isRest 20 = .ok (.if_icmp .gt 18, 3) := by decide +kernel
theorem dX12_isRest_23 : decode cX12_isRest 23 = .ok (.iload_n 0, 1) := by decide +kernel
theorem dX12_isRest_24 : decode cX12_isRest 24 = .ok (.iload_n 3, 1) := by decide +kernel
theorem dX12_isRest_25 : decode cX12_isRest 25 = .ok (.iload_n 1, 1) := by decide +kernel
theorem dX12_isRest_26 : decode cX12_isRest 26 = .ok (.invokestatic 454, 3) := by decide +kernel
theorem dX12_isRest_29 : decode cX12_isRest 29 = .ok (.iload_n 0, 1) := by decide +kernel
theorem dX12_isRest_3 : decode cX12_isRest 3 = .ok (.bipush 7, 2) := by decide +kernel
theorem dX12_isRest_30 : decode cX12_isRest 30 = .ok (.iload_n 2, 1) := by decide +kernel
theorem dX12_isRest_31 : decode cX12_isRest 31 = .ok (.iload_n 1, 1) := by decide +kernel
theorem dX12_isRest_32 : decode cX12_isRest 32 = .ok (.invokestatic 454, 3) := by decide +kernel
theorem dX12_isRest_35 : decode cX12_isRest 35 = .ok (.if_icmp .le 5, 3) := by decide +kernel
theorem dX12_isRest_38 : decode cX12_isRest 38 = .ok (.iconst 0, 1) := by decide +kernel
theorem dX12_isRest_39 : decode cX12_isRest 39 = .ok (.ireturn, 1) := by decide +kernel
theorem dX12_isRest_40 : decode cX12_isRest 40 = .ok (.iinc 3 1, 3) := by decide +kernel
theorem dX12_isRest_43 : decode cX12_isRest 43 = .ok (.goto (-41), 3) := by decide +kernel
theorem dX12_isRest_46 : decode cX12_isRest 46 = .ok (.iconst 1, 1) := by decide +kernel
theorem dX12_isRest_47 : decode cX12_isRest 47 = .ok (.ireturn, 1) := by decide +kernel
theorem dX12_isRest_5 : decode cX12_isRest 5 = .ok (.if_icmp .ge 41, 3) := by decide +kernel
theorem dX12_isRest_8 : decode cX12_isRest 8 = .ok (.iload_n 0, 1) := by decide +kernel
theorem dX12_isRest_9 : decode cX12_isRest 9 = .ok (.iload_n 3, 1) := by decide +kernel
def vfX12_isRest : List Cond := .code yX12_isRest cX12_isRest 4 (some .boolean) :: ([.methodLink RX12 454 yX12_gets, .static yX12_gets, .initialized RX12, .code yX12_gets cX12_gets 3 (some .int)])
set_option maxRecDepth 20000 in
theorem gfX12_isRest_0 : GoodIn vfX12_isRest (va_wsS RX12 454 yX12_gets vfX12_gets) := goodIn_app (goodIn_r [.methodLink RX12 454 yX12_gets, .static yX12_gets, .initialized RX12] [1, 2, 3] (by decide +kernel) (by decide +kernel)) (goodIn_r (.code yX12_gets cX12_gets 3 (some .int) :: []) [4] (by decide +kernel) (by decide +kernel) : GoodIn vfX12_isRest (.code yX12_gets cX12_gets 3 (some .int) :: []))
set_option maxHeartbeats 2000000 in
set_option maxRecDepth 100000 in
theorem kfX12_isRest (l : Launch) (dC : Nat → ClassId) (dI : Nat → Nat → Nat) (k0 : Int32) (k1 : Int32) (k2 : Int32) (sz : Nat) (out : Int32) (h : f_X12_isRest k0 k1 k2 = some out) : Met l yX12_isRest vfX12_isRest ({ frames := 1, cells := 0, slots := 0, locals := 22 }) (PC (dC, dI) [.int k0, .int k1, .int k2] sz [] ([])) (va_Qi (S := Unit) (fun (r : Int32) _ => r = out ∧ (0 ≤ r.toInt ∧ r.toInt ≤ 1)) (fun _ t => BC (dC, dI) (va_A [] sz) [] [] t) (va_A [] sz)) 0 0 (va_A [] sz) := by
  refine Met.ofW (cc := cX12_isRest) (maxL := 4) (ret := (some .boolean)) (by decide) rfl ?_
  intro p e s m args below meth c s₁ B0 hml hv
  obtain ⟨rfl, hsz, hP, hK, hD0, hN⟩ := hv
  have hx := B0.exec
  have hb := B0.bytes
  have hr := B0.returns
  have hts := atoms_spec (ws := vfX12_isRest) B0.pre
  have hown : s.vm.findClass RX12 = some m.cls := findClass_of_methodNamed B0.named
  have hlocks := B0.notSynchronized
  subst hsz
  have hD := hD0.self (sz := s.heap.size)
  generalize hAe : va_A [] s.heap.size = A at hD ⊢
  have hA : ∀ q : Nat, s.heap.size ≤ q → A q := fun q h => by rw [← hAe]; exact Or.inr h
  have hS : va_S A s.heap s.heap [] := va_S.rf
  have hP : va_P (dC, dI) vwCl [] s.heap := hP
  have hl := lv_entry ([.int k0, .int k1, .int k2]) (n := 4) (Nat.le_of_ble_eq_true rfl)
  rw [lg_entry_eq]
  generalize (lg_sl ([.int k0, .int k1, .int k2]) ++ List.replicate (4 - (lg_sl ([.int k0, .int k1, .int k2])).length) Slot.unset).toArray = ls at hl ⊢
  have hl : lv_has ls 4 [(0, .int k0), (1, .int k1), (2, .int k2)] := hl
  refine W_q (fun QQ hQQ => ?_)
  rw [f_X12_isRest] at h
  refine lv_iconst (v := 0) hx hb dX12_isRest_0 (by decide) ?_
  refine lv_istore_n (lv' := [(3, .int 0), (0, .int k0), (1, .int k1), (2, .int k2)]) hx hb dX12_isRest_1 rfl hl (by decide) rfl (fun ls hl => ?_)
  have L2 : ∀ (n2 : Nat) (v2_l3 : Int32) (H : Heap) (locs : List Loc) (ls : Array Slot), f_X12_isRest_L2 k0 k1 k2 n2 v2_l3 = some out → va_P (dC, dI) vwCl [] H → va_D A [] → va_S A s.heap H locs → lv_has ls 4 [(3, .int v2_l3), (0, .int k0), (1, .int k1), (2, .int k2)] → W p l e (headSpec vfX12_isRest { frames := 1, cells := 0, slots := 0, locals := 22 }).room s m ([.int k0, .int k1, .int k2]).toArray below meth c H locs 0 0 QQ (F0 m 2 ls []) := by
    intro n2
    induction n2 with
    | zero =>
      intro v2_l3 H locs ls h  _ _ _ _
      rw [f_X12_isRest_L2] at h
      cases h
    | succ n2 ih2 =>
      intro v2_l3 H locs ls h  hP hD hS hl
      rw [f_X12_isRest_L2] at h
      refine lv_iload_n hx hb dX12_isRest_2 rfl (lv_at hl 0 rfl) ?_
      refine lv_bipush (v := 7) hx hb dX12_isRest_3 (by decide) ?_
      refine lv_icmp_ge (tgt := 46) hx hb dX12_isRest_5 (by decide) (fun c5 => ?_) (fun c5 => ?_)
      · have h := (if_pos c5).symm.trans h
        refine lv_iconst (v := 1) hx hb dX12_isRest_46 (by decide) ?_
        obtain rfl := Option.some.inj h
        have hP9 := hP.sub (ws' := []) [] rfl
        have hD9 := hD.sub (ws' := []) [] (by decide) rfl
        have hK9 := hK.sub (tys' := []) [] rfl
        rw [hQQ]
        exact W.zret (v := (1 : Int32)) hx hb hr rfl (fun t ht hW => ⟨⟨(1 : Int32), (), rfl, ⟨rfl, (by decide)⟩, by rw [ht]; exact hP9, va_K.moved hW.alike hK9, hD9⟩, hS.F ht⟩) hS.2.2 dX12_isRest_47
      · have h := (if_neg c5).symm.trans h
        refine lv_iload_n hx hb dX12_isRest_8 rfl (lv_at hl 1 rfl) ?_
        refine lv_iload_n hx hb dX12_isRest_9 rfl (lv_at hl 0 rfl) ?_
        refine lv_iload_n hx hb dX12_isRest_10 rfl (lv_at hl 3 rfl) ?_
        obtain ⟨o11, eo11, h⟩ := bd_of h
        refine cl_i (wc := []) (wr := []) (va_runS (As := [.int k0, .int v2_l3, .int k2]) (rest := []) ⟨hx, hb, hml, hown, hts⟩ (kfX12_gets l dC dI k0 v2_l3 k2 H.size o11 eo11) (va_cwS 3 hts gfX12_isRest_0 rfl rfl rfl (by decide +kernel) ⟨(Nat.le_of_ble_eq_true rfl), (Nat.le_of_ble_eq_true rfl)⟩) (PS (hP.sub (ws' := []) [] rfl) (hK.sub (tys' := ([])) [] rfl) (hD.sub (ws' := []) [] (by decide) rfl) hN) rfl rfl hl.1 rfl (lv_room (Nat.le_of_ble_eq_true rfl)) dX12_isRest_11 ⟨(Nat.le_of_ble_eq_true rfl), (Nat.le_of_ble_eq_true rfl)⟩) hP hD hK hS hA [] [] rfl rfl (by decide) (by decide) (fun r11 _ H locs hw hP hD _ hS => ?_)
        obtain rfl := hw.symm
        have hP : va_P (dC, dI) vwCl [] H := hP
        have hD : va_D A [] := hD
        refine lv_iload_n hx hb dX12_isRest_14 rfl (lv_at hl 1 rfl) ?_
        refine lv_iload_n hx hb dX12_isRest_15 rfl (lv_at hl 2 rfl) ?_
        refine lv_iload_n hx hb dX12_isRest_16 rfl (lv_at hl 3 rfl) ?_
        obtain ⟨o17, eo17, h⟩ := bd_of h
        refine cl_i (wc := []) (wr := []) (va_runS (As := [.int k0, .int k1, .int k2]) (rest := [.int o11]) ⟨hx, hb, hml, hown, hts⟩ (kfX12_gets l dC dI k0 k1 k2 H.size o17 eo17) (va_cwS 3 hts gfX12_isRest_0 rfl rfl rfl (by decide +kernel) ⟨(Nat.le_of_ble_eq_true rfl), (Nat.le_of_ble_eq_true rfl)⟩) (PS (hP.sub (ws' := []) [] rfl) (hK.sub (tys' := ([])) [] rfl) (hD.sub (ws' := []) [] (by decide) rfl) hN) rfl rfl hl.1 rfl (lv_room (Nat.le_of_ble_eq_true rfl)) dX12_isRest_17 ⟨(Nat.le_of_ble_eq_true rfl), (Nat.le_of_ble_eq_true rfl)⟩) hP hD hK hS hA [] [] rfl rfl (by decide) (by decide) (fun r17 _ H locs hw hP hD _ hS => ?_)
        obtain rfl := hw.symm
        have hP : va_P (dC, dI) vwCl [] H := hP
        have hD : va_D A [] := hD
        refine lv_icmp_gt (tgt := 38) hx hb dX12_isRest_20 (by decide) (fun c20 => ?_) (fun c20 => ?_)
        · have h := (if_pos c20).symm.trans h
          refine lv_iconst (v := 0) hx hb dX12_isRest_38 (by decide) ?_
          obtain rfl := Option.some.inj h
          have hP9 := hP.sub (ws' := []) [] rfl
          have hD9 := hD.sub (ws' := []) [] (by decide) rfl
          have hK9 := hK.sub (tys' := []) [] rfl
          rw [hQQ]
          exact W.zret (v := (0 : Int32)) hx hb hr rfl (fun t ht hW => ⟨⟨(0 : Int32), (), rfl, ⟨rfl, (by decide)⟩, by rw [ht]; exact hP9, va_K.moved hW.alike hK9, hD9⟩, hS.F ht⟩) hS.2.2 dX12_isRest_39
        · have h := (if_neg c20).symm.trans h
          refine lv_iload_n hx hb dX12_isRest_23 rfl (lv_at hl 1 rfl) ?_
          refine lv_iload_n hx hb dX12_isRest_24 rfl (lv_at hl 0 rfl) ?_
          refine lv_iload_n hx hb dX12_isRest_25 rfl (lv_at hl 2 rfl) ?_
          obtain ⟨o26, eo26, h⟩ := bd_of h
          refine cl_i (wc := []) (wr := []) (va_runS (As := [.int k0, .int v2_l3, .int k1]) (rest := []) ⟨hx, hb, hml, hown, hts⟩ (kfX12_gets l dC dI k0 v2_l3 k1 H.size o26 eo26) (va_cwS 3 hts gfX12_isRest_0 rfl rfl rfl (by decide +kernel) ⟨(Nat.le_of_ble_eq_true rfl), (Nat.le_of_ble_eq_true rfl)⟩) (PS (hP.sub (ws' := []) [] rfl) (hK.sub (tys' := ([])) [] rfl) (hD.sub (ws' := []) [] (by decide) rfl) hN) rfl rfl hl.1 rfl (lv_room (Nat.le_of_ble_eq_true rfl)) dX12_isRest_26 ⟨(Nat.le_of_ble_eq_true rfl), (Nat.le_of_ble_eq_true rfl)⟩) hP hD hK hS hA [] [] rfl rfl (by decide) (by decide) (fun r26 _ H locs hw hP hD _ hS => ?_)
          obtain rfl := hw.symm
          have hP : va_P (dC, dI) vwCl [] H := hP
          have hD : va_D A [] := hD
          refine lv_iload_n hx hb dX12_isRest_29 rfl (lv_at hl 1 rfl) ?_
          refine lv_iload_n hx hb dX12_isRest_30 rfl (lv_at hl 3 rfl) ?_
          refine lv_iload_n hx hb dX12_isRest_31 rfl (lv_at hl 2 rfl) ?_
          obtain ⟨o32, eo32, h⟩ := bd_of h
          refine cl_i (wc := []) (wr := []) (va_runS (As := [.int k0, .int k2, .int k1]) (rest := [.int o26]) ⟨hx, hb, hml, hown, hts⟩ (kfX12_gets l dC dI k0 k2 k1 H.size o32 eo32) (va_cwS 3 hts gfX12_isRest_0 rfl rfl rfl (by decide +kernel) ⟨(Nat.le_of_ble_eq_true rfl), (Nat.le_of_ble_eq_true rfl)⟩) (PS (hP.sub (ws' := []) [] rfl) (hK.sub (tys' := ([])) [] rfl) (hD.sub (ws' := []) [] (by decide) rfl) hN) rfl rfl hl.1 rfl (lv_room (Nat.le_of_ble_eq_true rfl)) dX12_isRest_32 ⟨(Nat.le_of_ble_eq_true rfl), (Nat.le_of_ble_eq_true rfl)⟩) hP hD hK hS hA [] [] rfl rfl (by decide) (by decide) (fun r32 _ H locs hw hP hD _ hS => ?_)
          obtain rfl := hw.symm
          have hP : va_P (dC, dI) vwCl [] H := hP
          have hD : va_D A [] := hD
          refine lv_icmp_le (tgt := 40) hx hb dX12_isRest_35 (by decide) (fun c35 => ?_) (fun c35 => ?_)
          · have h := (if_pos c35).symm.trans h
            refine lv_iinc (v := (v2_l3 + (1 : Int32))) (lv' := [(3, .int (v2_l3 + (1 : Int32))), (0, .int k0), (1, .int k1), (2, .int k2)]) hx hb dX12_isRest_40 hl (k := 0) rfl rfl (by decide) rfl (fun ls hl => ?_)
            refine lv_goto (tgt := 2) hx hb dX12_isRest_43 (by decide) ?_
            exact ih2 (v2_l3 + (1 : Int32)) H _ ls h  hP hD hS (lv_sub hl [0, 1, 2, 3] rfl)
          · have h := (if_neg c35).symm.trans h
            refine lv_iconst (v := 0) hx hb dX12_isRest_38 (by decide) ?_
            obtain rfl := Option.some.inj h
            have hP9 := hP.sub (ws' := []) [] rfl
            have hD9 := hD.sub (ws' := []) [] (by decide) rfl
            have hK9 := hK.sub (tys' := []) [] rfl
            rw [hQQ]
            exact W.zret (v := (0 : Int32)) hx hb hr rfl (fun t ht hW => ⟨⟨(0 : Int32), (), rfl, ⟨rfl, (by decide)⟩, by rw [ht]; exact hP9, va_K.moved hW.alike hK9, hD9⟩, hS.F ht⟩) hS.2.2 dX12_isRest_39
  exact L2 FU (0 : Int32) s.heap _ ls h  hP hD hS (lv_sub hl [0, 1, 2, 3] rfl)
theorem dX12_rests_0 : decode cX12_rests 0 = .ok (.aload_n 0, 1) := by decide +kernel
theorem dX12_rests_1 : decode cX12_rests 1 = .ok (.iconst 0, 1) := by decide +kernel
theorem dX12_rests_10 : decode cX12_rests 10 = .ok (.istore_n 2, 1) := by decide +kernel
theorem dX12_rests_11 : decode cX12_rests 11 = .ok (.iload_n 2, 1) := by decide +kernel
theorem dX12_rests_12 : decode cX12_rests 12 = .ok (.ifCond .le 9, 3) := by decide +kernel
theorem dX12_rests_15 : decode cX12_rests 15 = .ok (.aload_n 0, 1) := by decide +kernel
theorem dX12_rests_16 : decode cX12_rests 16 = .ok (.iload_n 2, 1) := by decide +kernel
theorem dX12_rests_17 : decode cX12_rests 17 = .ok (.invokevirtual 42, 3) := by decide +kernel
theorem dX12_rests_2 : decode cX12_rests 2 = .ok (.putfield 36, 3) := by decide +kernel
theorem dX12_rests_20 : decode cX12_rests 20 = .ok (.ireturn, 1) := by decide +kernel
theorem dX12_rests_21 : decode cX12_rests 21 = .ok (.iconst 0, 1) := by decide +kernel
theorem dX12_rests_22 : decode cX12_rests 22 = .ok (.istore_n 3, 1) := by decide +kernel
theorem dX12_rests_23 : decode cX12_rests 23 = .ok (.iconst 0, 1) := by decide +kernel
theorem dX12_rests_24 : decode cX12_rests 24 = .ok (.istore 4, 2) := by decide +kernel
theorem dX12_rests_26 : decode cX12_rests 26 = .ok (.iload 4, 2) := by decide +kernel
theorem dX12_rests_28 : decode cX12_rests 28 = .ok (.bipush 49, 2) := by decide +kernel
theorem dX12_rests_30 : decode cX12_rests 30 = .ok (.if_icmp .ge 34, 3) := by decide +kernel
theorem dX12_rests_33 : decode cX12_rests 33 = .ok (.iload_n 3, 1) := by decide +kernel
theorem dX12_rests_34 : decode cX12_rests 34 = .ok (.iload_n 1, 1) := by decide +kernel
theorem dX12_rests_35 : decode cX12_rests 35 = .ok (.iload 4, 2) := by decide +kernel
theorem dX12_rests_37 : decode cX12_rests 37 = .ok (.bipush 7, 2) := by decide +kernel
theorem dX12_rests_39 : decode cX12_rests 39 = .ok (.idiv, 1) := by decide +kernel
theorem dX12_rests_40 : decode cX12_rests 40 = .ok (.iload 4, 2) := by decide +kernel
theorem dX12_rests_42 : decode cX12_rests 42 = .ok (.bipush 7, 2) := by decide +kernel
theorem dX12_rests_44 : decode cX12_rests 44 = .ok (.irem, 1) := by decide +kernel
theorem dX12_rests_45 : decode cX12_rests 45 = .ok (.invokestatic 460, 3) := by decide +kernel
theorem dX12_rests_48 : decode cX12_rests 48 = .ok (.ifCond .eq 7, 3) := by decide +kernel
theorem dX12_rests_5 : decode cX12_rests 5 = .ok (.aload_n 0, 1) := by decide +kernel
theorem dX12_rests_51 : decode cX12_rests 51 = .ok (.iconst 1, 1) := by decide +kernel
theorem dX12_rests_52 : decode cX12_rests 52 = .ok (.goto 4, 3) := by decide +kernel
theorem dX12_rests_55 : decode cX12_rests 55 = .ok (.iconst 0, 1) := by decide +kernel
theorem dX12_rests_56 : decode cX12_rests 56 = .ok (.iadd, 1) := by decide +kernel
theorem dX12_rests_57 : decode cX12_rests 57 = .ok (.istore_n 3, 1) := by decide +kernel
theorem dX12_rests_58 : decode cX12_rests 58 = .ok (.iinc 4 1, 3) := by decide +kernel
theorem dX12_rests_6 : decode cX12_rests 6 = .ok (.iload_n 1, 1) := by decide +kernel
theorem dX12_rests_61 : decode cX12_rests 61 = .ok (.goto (-35), 3) := by decide +kernel
theorem dX12_rests_64 : decode cX12_rests 64 = .ok (.aload_n 0, 1) := by decide +kernel
theorem dX12_rests_65 : decode cX12_rests 65 = .ok (.iload_n 3, 1) := by decide +kernel
theorem dX12_rests_66 : decode cX12_rests 66 = .ok (.invokevirtual 46, 3) := by decide +kernel
theorem dX12_rests_69 : decode cX12_rests 69 = .ok (.ireturn, 1) := by decide +kernel
theorem dX12_rests_7 : decode cX12_rests 7 = .ok (.invokevirtual 457, 3) := by decide +kernel
def vfX12_rests : List Cond := .code yX12_rests cX12_rests 5 (some .int) :: ([.fieldLink RX12 36 "HookPierModel" "thrown" "I", .methodLink RX12 457 yX12_refusesStock, .instanceMethod yX12_refusesStock, .selects RX12 yX12_refusesStock yX12_refusesStock, .initialized RX12, .code yX12_refusesStock cX12_refusesStock 2 (some .int), .fieldLink RX12 299 "HookPierModel" "pier" "LHookPierModel$Pier;", .methodLink RX12 115 yX12_in, .static yX12_in, .code yX12_in cX12_in 3 (some .boolean), .methodLink RX12 46 yX12_good, .instanceMethod yX12_good, .selects RX12 yX12_good yX12_good, .code yX12_good cX12_good 2 (some .int), .fieldLink RX12 39 "HookPierModel" "trouble" "I", .fieldLink RX12 9 "HookPierModel" "where" "I", .methodLink RX12 460 yX12_isRest, .static yX12_isRest, .code yX12_isRest cX12_isRest 4 (some .boolean), .methodLink RX12 454 yX12_gets, .static yX12_gets, .code yX12_gets cX12_gets 3 (some .int), .methodLink RX12 42 yX12_refused, .instanceMethod yX12_refused, .selects RX12 yX12_refused yX12_refused, .code yX12_refused cX12_refused 2 (some .int)] ++ wsX120)
theorem ifX12_rests_X12 : ∀ w ∈ wsX120, w ∈ vfX12_rests := fun _ h => List.mem_cons_of_mem _ (List.mem_append_right _ h)
set_option maxRecDepth 20000 in
theorem gfX12_rests_0 : GoodIn vfX12_rests (wsV RX12 457 RX12 yX12_refusesStock vfX12_refusesStock) := goodIn_app (goodIn_r [.methodLink RX12 457 yX12_refusesStock, .instanceMethod yX12_refusesStock, .selects RX12 yX12_refusesStock yX12_refusesStock, .initialized RX12] [2, 3, 4, 5] (by decide +kernel) (by decide +kernel)) (goodIn_ca (goodIn_r (.code yX12_refusesStock cX12_refusesStock 2 (some .int) :: [.fieldLink RX12 299 "HookPierModel" "pier" "LHookPierModel$Pier;", .methodLink RX12 115 yX12_in, .static yX12_in, .initialized RX12, .code yX12_in cX12_in 3 (some .boolean)]) [6, 7, 8, 9, 5, 10] (by decide +kernel) (by decide +kernel) : GoodIn vfX12_rests (.code yX12_refusesStock cX12_refusesStock 2 (some .int) :: [.fieldLink RX12 299 "HookPierModel" "pier" "LHookPierModel$Pier;", .methodLink RX12 115 yX12_in, .static yX12_in, .initialized RX12, .code yX12_in cX12_in 3 (some .boolean)])) (goodIn_sub ifX12_rests_X12 (by decide +kernel)))
set_option maxRecDepth 20000 in
theorem gfX12_rests_1 : GoodIn vfX12_rests (wsV RX12 46 RX12 yX12_good vfX12_good) := goodIn_app (goodIn_r [.methodLink RX12 46 yX12_good, .instanceMethod yX12_good, .selects RX12 yX12_good yX12_good, .initialized RX12] [11, 12, 13, 5] (by decide +kernel) (by decide +kernel)) (goodIn_ca (goodIn_r (.code yX12_good cX12_good 2 (some .int) :: [.fieldLink RX12 39 "HookPierModel" "trouble" "I", .fieldLink RX12 9 "HookPierModel" "where" "I"]) [14, 15, 16] (by decide +kernel) (by decide +kernel) : GoodIn vfX12_rests (.code yX12_good cX12_good 2 (some .int) :: [.fieldLink RX12 39 "HookPierModel" "trouble" "I", .fieldLink RX12 9 "HookPierModel" "where" "I"])) (goodIn_sub ifX12_rests_X12 (by decide +kernel)))
set_option maxRecDepth 20000 in
theorem gfX12_rests_2 : GoodIn vfX12_rests (va_wsS RX12 460 yX12_isRest vfX12_isRest) := goodIn_app (goodIn_r [.methodLink RX12 460 yX12_isRest, .static yX12_isRest, .initialized RX12] [17, 18, 5] (by decide +kernel) (by decide +kernel)) (goodIn_r (.code yX12_isRest cX12_isRest 4 (some .boolean) :: [.methodLink RX12 454 yX12_gets, .static yX12_gets, .initialized RX12, .code yX12_gets cX12_gets 3 (some .int)]) [19, 20, 21, 5, 22] (by decide +kernel) (by decide +kernel) : GoodIn vfX12_rests (.code yX12_isRest cX12_isRest 4 (some .boolean) :: [.methodLink RX12 454 yX12_gets, .static yX12_gets, .initialized RX12, .code yX12_gets cX12_gets 3 (some .int)]))
set_option maxRecDepth 20000 in
theorem gfX12_rests_3 : GoodIn vfX12_rests (wsV RX12 42 RX12 yX12_refused vfX12_refused) := goodIn_app (goodIn_r [.methodLink RX12 42 yX12_refused, .instanceMethod yX12_refused, .selects RX12 yX12_refused yX12_refused, .initialized RX12] [23, 24, 25, 5] (by decide +kernel) (by decide +kernel)) (goodIn_ca (goodIn_r (.code yX12_refused cX12_refused 2 (some .int) :: [.fieldLink RX12 39 "HookPierModel" "trouble" "I", .fieldLink RX12 9 "HookPierModel" "where" "I"]) [26, 15, 16] (by decide +kernel) (by decide +kernel) : GoodIn vfX12_rests (.code yX12_refused cX12_refused 2 (some .int) :: [.fieldLink RX12 39 "HookPierModel" "trouble" "I", .fieldLink RX12 9 "HookPierModel" "where" "I"])) (goodIn_sub ifX12_rests_X12 (by decide +kernel)))
set_option maxHeartbeats 2000000 in
set_option maxRecDepth 100000 in
theorem kfX12_rests (l : Launch) (dC : Nat → ClassId) (dI : Nat → Nat → Nat) (a0 : Nat) (k1 : Int32) (m_t : TX12_t) (a3 : Nat) (g4 : Value) (g5 : Value) (g6 : Value) (g7 : Value) (g8 : Value) (g9 : Value) (g10 : Value) (g11 : Value) (g12 : Value) (g13 : Value) (g14 : Value) (g15 : Value) (g16 : Value) (g17 : Value) (g18 : Value) (g19 : Value) (g20 : Value) (g21 : Value) (g22 : Value) (g23 : Value) (g24 : Value) (g25 : Value) (g26 : Value) (g27 : Value) (g28 : Value) (g29 : Value) (sz : Nat) (out : (Int32 × TX12_t)) (h : f_X12_rests k1 m_t = some out) : Met l yX12_rests vfX12_rests ({ frames := 2, cells := 0, slots := 0, locals := 45 }) (PC (dC, dI) [.ref a0, .int k1] sz ([(a0, .inr (9, [.int m_t.1, .int m_t.2.1, .int m_t.2.2, .ref a3, g4, g5, g6, g7, g8, g9, g10, g11, g12, g13, g14, g15, g16, g17, g18, g19, g20, g21, g22, g23, g24, g25, g26, g27, g28, g29]))]) ([])) (va_Qi (S := Unit) (fun (r : Int32) _ => r = out.1) (fun _ t => BC (dC, dI) (va_A ([(a0, .inr (9, [.int m_t.1, .int m_t.2.1, .int m_t.2.2, .ref a3, g4, g5, g6, g7, g8, g9, g10, g11, g12, g13, g14, g15, g16, g17, g18, g19, g20, g21, g22, g23, g24, g25, g26, g27, g28, g29]))]) sz) ([(a0, .inr (9, [.int out.2.1, .int out.2.2.1, .int out.2.2.2, .ref a3, g4, g5, g6, g7, g8, g9, g10, g11, g12, g13, g14, g15, g16, g17, g18, g19, g20, g21, g22, g23, g24, g25, g26, g27, g28, g29]))]) [] t) (va_A ([(a0, .inr (9, [.int m_t.1, .int m_t.2.1, .int m_t.2.2, .ref a3, g4, g5, g6, g7, g8, g9, g10, g11, g12, g13, g14, g15, g16, g17, g18, g19, g20, g21, g22, g23, g24, g25, g26, g27, g28, g29]))]) sz)) 0 0 (va_A ([(a0, .inr (9, [.int m_t.1, .int m_t.2.1, .int m_t.2.2, .ref a3, g4, g5, g6, g7, g8, g9, g10, g11, g12, g13, g14, g15, g16, g17, g18, g19, g20, g21, g22, g23, g24, g25, g26, g27, g28, g29]))]) sz) := by
  refine Met.ofW (cc := cX12_rests) (maxL := 5) (ret := (some .int)) (by decide) rfl ?_
  intro p e s m args below meth c s₁ B0 hml hv
  obtain ⟨rfl, hsz, hP, hK, hD0, hN⟩ := hv
  have hx := B0.exec
  have hb := B0.bytes
  have hr := B0.returns
  have hts := atoms_spec (ws := vfX12_rests) B0.pre
  have hown : s.vm.findClass RX12 = some m.cls := findClass_of_methodNamed B0.named
  have hlocks := B0.notSynchronized
  subst hsz
  have hD := hD0.self (sz := s.heap.size)
  generalize hAe : va_A ([(a0, .inr (9, [.int m_t.1, .int m_t.2.1, .int m_t.2.2, .ref a3, g4, g5, g6, g7, g8, g9, g10, g11, g12, g13, g14, g15, g16, g17, g18, g19, g20, g21, g22, g23, g24, g25, g26, g27, g28, g29]))]) s.heap.size = A at hD ⊢
  have hA : ∀ q : Nat, s.heap.size ≤ q → A q := fun q h => by rw [← hAe]; exact Or.inr h
  have hS : va_S A s.heap s.heap [] := va_S.rf
  have hP : va_P (dC, dI) vwCl ([(a0, .inr (9, [.int m_t.1, .int m_t.2.1, .int m_t.2.2, .ref a3, g4, g5, g6, g7, g8, g9, g10, g11, g12, g13, g14, g15, g16, g17, g18, g19, g20, g21, g22, g23, g24, g25, g26, g27, g28, g29]))]) s.heap := hP
  have hl := lv_entry ([.ref a0, .int k1]) (n := 5) (Nat.le_of_ble_eq_true rfl)
  rw [lg_entry_eq]
  generalize (lg_sl ([.ref a0, .int k1]) ++ List.replicate (5 - (lg_sl ([.ref a0, .int k1])).length) Slot.unset).toArray = ls at hl ⊢
  have hl : lv_has ls 5 [(0, .ref a0), (1, .int k1)] := hl
  refine W_q (fun QQ hQQ => ?_)
  rw [f_X12_rests] at h
  refine lv_aload_n hx hb dX12_rests_0 rfl (lv_at hl 0 rfl) ?_
  refine lv_iconst (v := 0) hx hb dX12_rests_1 (by decide) ?_
  refine va_put (D := (dC, dI)) (ci := 9) (v := .int 0) (ty := .int) (C := RX12) (T := TX12) (N := 30) hx hb hts ifX12_rests_X12 tyX12 tyX12_ok nmX12 hown hK hP hD hS 0 rfl rfl 0 (by decide) (hts (.fieldLink RX12 36 "HookPierModel" "thrown" "I") (List.mem_of_getElem? (i := 1) rfl)) (fun _ h9 => h9) rfl (by decide +kernel) rfl rfl (Nat.le_of_ble_eq_true rfl) dX12_rests_2 (fun H locs hP hD hS => ?_)
  have hP : va_P (dC, dI) vwCl ([(a0, .inr (9, [.int 0, .int m_t.2.1, .int m_t.2.2, .ref a3, g4, g5, g6, g7, g8, g9, g10, g11, g12, g13, g14, g15, g16, g17, g18, g19, g20, g21, g22, g23, g24, g25, g26, g27, g28, g29]))]) H := hP
  have hD : va_D A ([(a0, .inr (9, [.int 0, .int m_t.2.1, .int m_t.2.2, .ref a3, g4, g5, g6, g7, g8, g9, g10, g11, g12, g13, g14, g15, g16, g17, g18, g19, g20, g21, g22, g23, g24, g25, g26, g27, g28, g29]))]) := hD
  refine lv_aload_n hx hb dX12_rests_5 rfl (lv_at hl 0 rfl) ?_
  refine lv_iload_n hx hb dX12_rests_6 rfl (lv_at hl 1 rfl) ?_
  obtain ⟨o7, eo7⟩ : ∃ o, o = f_X12_refusesStock k1 := ⟨_, rfl⟩
  have h := nm_of h o7 eo7
  refine cl_i (wc := ([(a0, .inr (9, [.int 0, .int m_t.2.1, .int m_t.2.2, .ref a3, g4, g5, g6, g7, g8, g9, g10, g11, g12, g13, g14, g15, g16, g17, g18, g19, g20, g21, g22, g23, g24, g25, g26, g27, g28, g29]))])) (wr := []) (va_runV (As := [.int k1]) (rest := []) ⟨hx, hb, hml, hown, hts⟩ (kfX12_refusesStock l dC dI a0 k1 (.int 0) (.int m_t.2.1) (.int m_t.2.2) a3 (g4) (g5) (g6) (g7) (g8) (g9) (g10) (g11) (g12) (g13) (g14) (g15) (g16) (g17) (g18) (g19) (g20) (g21) (g22) (g23) (g24) (g25) (g26) (g27) (g28) (g29) H.size o7 eo7.symm) (cwV 1 hts gfX12_rests_0 rfl rfl rfl (by decide +kernel) ⟨(Nat.le_of_ble_eq_true rfl), (Nat.le_of_ble_eq_true rfl)⟩) (PV (hP.sub (ws' := ([(a0, .inr (9, [.int 0, .int m_t.2.1, .int m_t.2.2, .ref a3, g4, g5, g6, g7, g8, g9, g10, g11, g12, g13, g14, g15, g16, g17, g18, g19, g20, g21, g22, g23, g24, g25, g26, g27, g28, g29]))])) [0] rfl) (hK.sub (tys' := ([])) [] rfl) (hD.sub (ws' := ([(a0, .inr (9, [.int 0, .int m_t.2.1, .int m_t.2.2, .ref a3, g4, g5, g6, g7, g8, g9, g10, g11, g12, g13, g14, g15, g16, g17, g18, g19, g20, g21, g22, g23, g24, g25, g26, g27, g28, g29]))])) [0] (by decide) rfl) hN 0 rfl rfl) rfl rfl hl.1 rfl (lv_room (Nat.le_of_ble_eq_true rfl)) dX12_rests_7 ⟨(Nat.le_of_ble_eq_true rfl), (Nat.le_of_ble_eq_true rfl)⟩) hP hD hK hS hA [0] [] rfl rfl (by decide) (by decide) (fun r7 _ H locs hw hP hD _ hS => ?_)
  obtain rfl := hw.symm
  have hP : va_P (dC, dI) vwCl ([(a0, .inr (9, [.int 0, .int m_t.2.1, .int m_t.2.2, .ref a3, g4, g5, g6, g7, g8, g9, g10, g11, g12, g13, g14, g15, g16, g17, g18, g19, g20, g21, g22, g23, g24, g25, g26, g27, g28, g29]))]) H := hP
  have hD : va_D A ([(a0, .inr (9, [.int 0, .int m_t.2.1, .int m_t.2.2, .ref a3, g4, g5, g6, g7, g8, g9, g10, g11, g12, g13, g14, g15, g16, g17, g18, g19, g20, g21, g22, g23, g24, g25, g26, g27, g28, g29]))]) := hD
  refine lv_istore_n (lv' := [(2, .int o7), (0, .ref a0), (1, .int k1)]) hx hb dX12_rests_10 rfl hl (by decide) rfl (fun ls hl => ?_)
  refine lv_iload_n hx hb dX12_rests_11 rfl (lv_at hl 0 rfl) ?_
  refine lv_if_le (tgt := 21) hx hb dX12_rests_12 (by decide) (fun c12 => ?_) (fun c12 => ?_)
  · have h := (if_pos c12).symm.trans h
    refine lv_iconst (v := 0) hx hb dX12_rests_21 (by decide) ?_
    refine lv_istore_n (lv' := [(3, .int 0), (2, .int o7), (0, .ref a0), (1, .int k1)]) hx hb dX12_rests_22 rfl hl (by decide) rfl (fun ls hl => ?_)
    refine lv_iconst (v := 0) hx hb dX12_rests_23 (by decide) ?_
    refine lv_istore (lv' := [(4, .int 0), (3, .int 0), (2, .int o7), (0, .ref a0), (1, .int k1)]) hx hb dX12_rests_24 hl (by decide) rfl (fun ls hl => ?_)
    have L26 : ∀ (n26 : Nat) (v26_l4 : Int32) (v26_l3 : Int32) (H : Heap) (locs : List Loc) (ls : Array Slot), f_X12_rests_L26 k1 m_t n26 v26_l4 v26_l3 = some out → va_P (dC, dI) vwCl ([(a0, .inr (9, [.int 0, .int m_t.2.1, .int m_t.2.2, .ref a3, g4, g5, g6, g7, g8, g9, g10, g11, g12, g13, g14, g15, g16, g17, g18, g19, g20, g21, g22, g23, g24, g25, g26, g27, g28, g29]))]) H → va_D A ([(a0, .inr (9, [.int 0, .int m_t.2.1, .int m_t.2.2, .ref a3, g4, g5, g6, g7, g8, g9, g10, g11, g12, g13, g14, g15, g16, g17, g18, g19, g20, g21, g22, g23, g24, g25, g26, g27, g28, g29]))]) → va_S A s.heap H locs → lv_has ls 5 [(4, .int v26_l4), (3, .int v26_l3), (0, .ref a0), (1, .int k1)] → W p l e (headSpec vfX12_rests { frames := 2, cells := 0, slots := 0, locals := 45 }).room s m ([.ref a0, .int k1]).toArray below meth c H locs 0 0 QQ (F0 m 26 ls []) := by
      intro n26
      induction n26 with
      | zero =>
        intro v26_l4 v26_l3 H locs ls h  _ _ _ _
        rw [f_X12_rests_L26] at h
        cases h
      | succ n26 ih26 =>
        intro v26_l4 v26_l3 H locs ls h  hP hD hS hl
        rw [f_X12_rests_L26] at h
        refine lv_iload hx hb dX12_rests_26 (lv_at hl 0 rfl) ?_
        refine lv_bipush (v := 49) hx hb dX12_rests_28 (by decide) ?_
        refine lv_icmp_ge (tgt := 64) hx hb dX12_rests_30 (by decide) (fun c30 => ?_) (fun c30 => ?_)
        · have h := (if_pos c30).symm.trans h
          refine lv_aload_n hx hb dX12_rests_64 rfl (lv_at hl 2 rfl) ?_
          refine lv_iload_n hx hb dX12_rests_65 rfl (lv_at hl 1 rfl) ?_
          obtain ⟨o66, eo66⟩ : ∃ o, o = f_X12_good v26_l3 ((0 : Int32), m_t.2) := ⟨_, rfl⟩
          have h := nm_of h o66 eo66
          refine cl_i (wc := ([(a0, .inr (9, [.int 0, .int m_t.2.1, .int m_t.2.2, .ref a3, g4, g5, g6, g7, g8, g9, g10, g11, g12, g13, g14, g15, g16, g17, g18, g19, g20, g21, g22, g23, g24, g25, g26, g27, g28, g29]))])) (wr := []) (va_runV (As := [.int v26_l3]) (rest := []) ⟨hx, hb, hml, hown, hts⟩ (kfX12_good l dC dI a0 v26_l3 ((0 : Int32), m_t.2) (.ref a3) (g4) (g5) (g6) (g7) (g8) (g9) (g10) (g11) (g12) (g13) (g14) (g15) (g16) (g17) (g18) (g19) (g20) (g21) (g22) (g23) (g24) (g25) (g26) (g27) (g28) (g29) H.size o66 eo66.symm) (cwV 1 hts gfX12_rests_1 rfl rfl rfl (by decide +kernel) ⟨(Nat.le_of_ble_eq_true rfl), (Nat.le_of_ble_eq_true rfl)⟩) (PV (hP.sub (ws' := ([(a0, .inr (9, [.int 0, .int m_t.2.1, .int m_t.2.2, .ref a3, g4, g5, g6, g7, g8, g9, g10, g11, g12, g13, g14, g15, g16, g17, g18, g19, g20, g21, g22, g23, g24, g25, g26, g27, g28, g29]))])) [0] rfl) (hK.sub (tys' := ([])) [] rfl) (hD.sub (ws' := ([(a0, .inr (9, [.int 0, .int m_t.2.1, .int m_t.2.2, .ref a3, g4, g5, g6, g7, g8, g9, g10, g11, g12, g13, g14, g15, g16, g17, g18, g19, g20, g21, g22, g23, g24, g25, g26, g27, g28, g29]))])) [0] (by decide) rfl) hN 0 rfl rfl) rfl rfl hl.1 rfl (lv_room (Nat.le_of_ble_eq_true rfl)) dX12_rests_66 ⟨(Nat.le_of_ble_eq_true rfl), (Nat.le_of_ble_eq_true rfl)⟩) hP hD hK hS hA [0] [] rfl rfl (by decide) (by decide) (fun r66 _ H locs hw hP hD _ hS => ?_)
          obtain rfl := hw
          have hP : va_P (dC, dI) vwCl ([(a0, .inr (9, [.int o66.2.1, .int o66.2.2.1, .int o66.2.2.2, .ref a3, g4, g5, g6, g7, g8, g9, g10, g11, g12, g13, g14, g15, g16, g17, g18, g19, g20, g21, g22, g23, g24, g25, g26, g27, g28, g29]))]) H := hP
          have hD : va_D A ([(a0, .inr (9, [.int o66.2.1, .int o66.2.2.1, .int o66.2.2.2, .ref a3, g4, g5, g6, g7, g8, g9, g10, g11, g12, g13, g14, g15, g16, g17, g18, g19, g20, g21, g22, g23, g24, g25, g26, g27, g28, g29]))]) := hD
          obtain rfl := Option.some.inj h
          have hP9 := hP.sub (ws' := ([(a0, .inr (9, [.int o66.2.1, .int o66.2.2.1, .int o66.2.2.2, .ref a3, g4, g5, g6, g7, g8, g9, g10, g11, g12, g13, g14, g15, g16, g17, g18, g19, g20, g21, g22, g23, g24, g25, g26, g27, g28, g29]))])) [0] rfl
          have hD9 := hD.sub (ws' := ([(a0, .inr (9, [.int o66.2.1, .int o66.2.2.1, .int o66.2.2.2, .ref a3, g4, g5, g6, g7, g8, g9, g10, g11, g12, g13, g14, g15, g16, g17, g18, g19, g20, g21, g22, g23, g24, g25, g26, g27, g28, g29]))])) [0] (by decide) rfl
          have hK9 := hK.sub (tys' := []) [] rfl
          rw [hQQ]
          exact W.iret (v := o66.1) hx hb hr (fun t ht hW => ⟨⟨o66.1, (), rfl, rfl, by rw [ht]; exact hP9, va_K.moved hW.alike hK9, hD9⟩, hS.F ht⟩) hS.2.2 dX12_rests_69
        · have h := (if_neg c30).symm.trans h
          refine lv_iload_n hx hb dX12_rests_33 rfl (lv_at hl 1 rfl) ?_
          refine lv_iload_n hx hb dX12_rests_34 rfl (lv_at hl 3 rfl) ?_
          refine lv_iload hx hb dX12_rests_35 (lv_at hl 0 rfl) ?_
          refine lv_bipush (v := 7) hx hb dX12_rests_37 (by decide) ?_
          refine lv_idiv hx hb dX12_rests_39 (by decide) ?_
          refine lv_iload hx hb dX12_rests_40 (lv_at hl 0 rfl) ?_
          refine lv_bipush (v := 7) hx hb dX12_rests_42 (by decide) ?_
          refine lv_irem hx hb dX12_rests_44 (by decide) ?_
          obtain ⟨o45, eo45, h⟩ := bd_of h
          refine cl_i (wc := []) (wr := ([(a0, .inr (9, [.int 0, .int m_t.2.1, .int m_t.2.2, .ref a3, g4, g5, g6, g7, g8, g9, g10, g11, g12, g13, g14, g15, g16, g17, g18, g19, g20, g21, g22, g23, g24, g25, g26, g27, g28, g29]))])) (va_runS (As := [.int k1, .int (v26_l4 / (7 : Int32)), .int (v26_l4 - v26_l4 / (7 : Int32) * (7 : Int32))]) (rest := [.int v26_l3]) ⟨hx, hb, hml, hown, hts⟩ (kfX12_isRest l dC dI k1 (v26_l4 / (7 : Int32)) (v26_l4 - v26_l4 / (7 : Int32) * (7 : Int32)) H.size o45 eo45) (va_cwS 3 hts gfX12_rests_2 rfl rfl rfl (by decide +kernel) ⟨(Nat.le_of_ble_eq_true rfl), (Nat.le_of_ble_eq_true rfl)⟩) (PS (hP.sub (ws' := []) [] rfl) (hK.sub (tys' := ([])) [] rfl) (hD.sub (ws' := []) [] (by decide) rfl) hN) rfl rfl hl.1 rfl (lv_room (Nat.le_of_ble_eq_true rfl)) dX12_rests_45 ⟨(Nat.le_of_ble_eq_true rfl), (Nat.le_of_ble_eq_true rfl)⟩) hP hD hK hS hA [] [0] rfl rfl (by decide) (by decide) (fun r45 _ H locs hw hP hD _ hS => ?_)
          obtain ⟨hw, br45⟩ := hw
          obtain rfl := hw.symm
          have hP : va_P (dC, dI) vwCl ([(a0, .inr (9, [.int 0, .int m_t.2.1, .int m_t.2.2, .ref a3, g4, g5, g6, g7, g8, g9, g10, g11, g12, g13, g14, g15, g16, g17, g18, g19, g20, g21, g22, g23, g24, g25, g26, g27, g28, g29]))]) H := hP
          have hD : va_D A ([(a0, .inr (9, [.int 0, .int m_t.2.1, .int m_t.2.2, .ref a3, g4, g5, g6, g7, g8, g9, g10, g11, g12, g13, g14, g15, g16, g17, g18, g19, g20, g21, g22, g23, g24, g25, g26, g27, g28, g29]))]) := hD
          have J56 : ∀ (v56_t1 : Int32) (H : Heap) (locs : List Loc) (ls : Array Slot), f_X12_rests_J56 (f_X12_rests_L26 k1 m_t n26) v26_l3 v26_l4 v56_t1 = some out → 0 ≤ v56_t1.toInt ∧ v56_t1.toInt ≤ 1 → va_P (dC, dI) vwCl ([(a0, .inr (9, [.int 0, .int m_t.2.1, .int m_t.2.2, .ref a3, g4, g5, g6, g7, g8, g9, g10, g11, g12, g13, g14, g15, g16, g17, g18, g19, g20, g21, g22, g23, g24, g25, g26, g27, g28, g29]))]) H → va_D A ([(a0, .inr (9, [.int 0, .int m_t.2.1, .int m_t.2.2, .ref a3, g4, g5, g6, g7, g8, g9, g10, g11, g12, g13, g14, g15, g16, g17, g18, g19, g20, g21, g22, g23, g24, g25, g26, g27, g28, g29]))]) → va_S A s.heap H locs → lv_has ls 5 [(4, .int v26_l4), (0, .ref a0), (1, .int k1)] → W p l e (headSpec vfX12_rests { frames := 2, cells := 0, slots := 0, locals := 45 }).room s m ([.ref a0, .int k1]).toArray below meth c H locs 0 0 QQ (F0 m 56 ls [.int v56_t1, .int v26_l3]) := by
            intro v56_t1 H locs ls h zb_v56_t1 hP hD hS hl
            rw [f_X12_rests_J56] at h
            refine lv_iadd hx hb dX12_rests_56 ?_
            refine lv_istore_n (lv' := [(3, .int (v26_l3 + v56_t1)), (4, .int v26_l4), (0, .ref a0), (1, .int k1)]) hx hb dX12_rests_57 rfl hl (by decide) rfl (fun ls hl => ?_)
            refine lv_iinc (v := (v26_l4 + (1 : Int32))) (lv' := [(4, .int (v26_l4 + (1 : Int32))), (3, .int (v26_l3 + v56_t1)), (0, .ref a0), (1, .int k1)]) hx hb dX12_rests_58 hl (k := 1) rfl rfl (by decide) rfl (fun ls hl => ?_)
            refine lv_goto (tgt := 26) hx hb dX12_rests_61 (by decide) ?_
            exact ih26 (v26_l4 + (1 : Int32)) (v26_l3 + v56_t1) H _ ls h  hP hD hS (lv_sub hl [0, 1, 2, 3] rfl)
          refine lv_if_eq (tgt := 55) hx hb dX12_rests_48 (by decide) (fun c48 => ?_) (fun c48 => ?_)
          · have h := (if_pos c48).symm.trans h
            refine lv_iconst (v := 0) hx hb dX12_rests_55 (by decide) ?_
            exact J56 (0 : Int32) H _ ls h (by decide) hP hD hS (lv_sub hl [0, 2, 3] rfl)
          · have h := (if_neg c48).symm.trans h
            refine lv_iconst (v := 1) hx hb dX12_rests_51 (by decide) ?_
            refine lv_goto (tgt := 56) hx hb dX12_rests_52 (by decide) ?_
            exact J56 (1 : Int32) H _ ls h (by decide) hP hD hS (lv_sub hl [0, 2, 3] rfl)
    exact L26 FU (0 : Int32) (0 : Int32) H _ ls h  hP hD hS (lv_sub hl [0, 1, 3, 4] rfl)
  · have h := (if_neg c12).symm.trans h
    refine lv_aload_n hx hb dX12_rests_15 rfl (lv_at hl 1 rfl) ?_
    refine lv_iload_n hx hb dX12_rests_16 rfl (lv_at hl 0 rfl) ?_
    obtain ⟨o17, eo17⟩ : ∃ o, o = f_X12_refused o7 ((0 : Int32), m_t.2) := ⟨_, rfl⟩
    have h := nm_of h o17 eo17
    refine cl_i (wc := ([(a0, .inr (9, [.int 0, .int m_t.2.1, .int m_t.2.2, .ref a3, g4, g5, g6, g7, g8, g9, g10, g11, g12, g13, g14, g15, g16, g17, g18, g19, g20, g21, g22, g23, g24, g25, g26, g27, g28, g29]))])) (wr := []) (va_runV (As := [.int o7]) (rest := []) ⟨hx, hb, hml, hown, hts⟩ (kfX12_refused l dC dI a0 o7 ((0 : Int32), m_t.2) (.ref a3) (g4) (g5) (g6) (g7) (g8) (g9) (g10) (g11) (g12) (g13) (g14) (g15) (g16) (g17) (g18) (g19) (g20) (g21) (g22) (g23) (g24) (g25) (g26) (g27) (g28) (g29) H.size o17 eo17.symm) (cwV 1 hts gfX12_rests_3 rfl rfl rfl (by decide +kernel) ⟨(Nat.le_of_ble_eq_true rfl), (Nat.le_of_ble_eq_true rfl)⟩) (PV (hP.sub (ws' := ([(a0, .inr (9, [.int 0, .int m_t.2.1, .int m_t.2.2, .ref a3, g4, g5, g6, g7, g8, g9, g10, g11, g12, g13, g14, g15, g16, g17, g18, g19, g20, g21, g22, g23, g24, g25, g26, g27, g28, g29]))])) [0] rfl) (hK.sub (tys' := ([])) [] rfl) (hD.sub (ws' := ([(a0, .inr (9, [.int 0, .int m_t.2.1, .int m_t.2.2, .ref a3, g4, g5, g6, g7, g8, g9, g10, g11, g12, g13, g14, g15, g16, g17, g18, g19, g20, g21, g22, g23, g24, g25, g26, g27, g28, g29]))])) [0] (by decide) rfl) hN 0 rfl rfl) rfl rfl hl.1 rfl (lv_room (Nat.le_of_ble_eq_true rfl)) dX12_rests_17 ⟨(Nat.le_of_ble_eq_true rfl), (Nat.le_of_ble_eq_true rfl)⟩) hP hD hK hS hA [0] [] rfl rfl (by decide) (by decide) (fun r17 _ H locs hw hP hD _ hS => ?_)
    obtain rfl := hw
    have hP : va_P (dC, dI) vwCl ([(a0, .inr (9, [.int o17.1, .int o17.2.1, .int o17.2.2, .ref a3, g4, g5, g6, g7, g8, g9, g10, g11, g12, g13, g14, g15, g16, g17, g18, g19, g20, g21, g22, g23, g24, g25, g26, g27, g28, g29]))]) H := hP
    have hD : va_D A ([(a0, .inr (9, [.int o17.1, .int o17.2.1, .int o17.2.2, .ref a3, g4, g5, g6, g7, g8, g9, g10, g11, g12, g13, g14, g15, g16, g17, g18, g19, g20, g21, g22, g23, g24, g25, g26, g27, g28, g29]))]) := hD
    obtain rfl := Option.some.inj h
    have hP9 := hP.sub (ws' := ([(a0, .inr (9, [.int o17.1, .int o17.2.1, .int o17.2.2, .ref a3, g4, g5, g6, g7, g8, g9, g10, g11, g12, g13, g14, g15, g16, g17, g18, g19, g20, g21, g22, g23, g24, g25, g26, g27, g28, g29]))])) [0] rfl
    have hD9 := hD.sub (ws' := ([(a0, .inr (9, [.int o17.1, .int o17.2.1, .int o17.2.2, .ref a3, g4, g5, g6, g7, g8, g9, g10, g11, g12, g13, g14, g15, g16, g17, g18, g19, g20, g21, g22, g23, g24, g25, g26, g27, g28, g29]))])) [0] (by decide) rfl
    have hK9 := hK.sub (tys' := []) [] rfl
    rw [hQQ]
    exact W.iret (v := (-1 : Int32)) hx hb hr (fun t ht hW => ⟨⟨(-1 : Int32), (), rfl, rfl, by rw [ht]; exact hP9, va_K.moved hW.alike hK9, hD9⟩, hS.F ht⟩) hS.2.2 dX12_rests_20
theorem dX12_rest_0 : decode cX12_rest 0 = .ok (.aload_n 0, 1) := by decide +kernel
theorem dX12_rest_1 : decode cX12_rest 1 = .ok (.iconst 0, 1) := by decide +kernel
theorem dX12_rest_10 : decode cX12_rest 10 = .ok (.istore_n 2, 1) := by decide +kernel
theorem dX12_rest_11 : decode cX12_rest 11 = .ok (.iload_n 2, 1) := by decide +kernel
theorem dX12_rest_12 : decode cX12_rest 12 = .ok (.ifCond .le 9, 3) := by decide +kernel
theorem dX12_rest_15 : decode cX12_rest 15 = .ok (.aload_n 0, 1) := by decide +kernel
theorem dX12_rest_16 : decode cX12_rest 16 = .ok (.iload_n 2, 1) := by decide +kernel
theorem dX12_rest_17 : decode cX12_rest 17 = .ok (.invokevirtual 42, 3) := by decide +kernel
theorem dX12_rest_2 : decode cX12_rest 2 = .ok (.putfield 36, 3) := by decide +kernel
theorem dX12_rest_20 : decode cX12_rest 20 = .ok (.ireturn, 1) := by decide +kernel
theorem dX12_rest_21 : decode cX12_rest 21 = .ok (.iconst 0, 1) := by decide +kernel
theorem dX12_rest_22 : decode cX12_rest 22 = .ok (.istore_n 3, 1) := by decide +kernel
theorem dX12_rest_23 : decode cX12_rest 23 = .ok (.iload_n 3, 1) := by decide +kernel
theorem dX12_rest_24 : decode cX12_rest 24 = .ok (.bipush 49, 2) := by decide +kernel
theorem dX12_rest_26 : decode cX12_rest 26 = .ok (.if_icmp .ge 41, 3) := by decide +kernel
theorem dX12_rest_29 : decode cX12_rest 29 = .ok (.iload_n 1, 1) := by decide +kernel
theorem dX12_rest_30 : decode cX12_rest 30 = .ok (.iload_n 3, 1) := by decide +kernel
theorem dX12_rest_31 : decode cX12_rest 31 = .ok (.bipush 7, 2) := by decide +kernel
theorem dX12_rest_33 : decode cX12_rest 33 = .ok (.idiv, 1) := by decide +kernel
theorem dX12_rest_34 : decode cX12_rest 34 = .ok (.iload_n 3, 1) := by decide +kernel
theorem dX12_rest_35 : decode cX12_rest 35 = .ok (.bipush 7, 2) := by decide +kernel
theorem dX12_rest_37 : decode cX12_rest 37 = .ok (.irem, 1) := by decide +kernel
theorem dX12_rest_38 : decode cX12_rest 38 = .ok (.invokestatic 460, 3) := by decide +kernel
theorem dX12_rest_41 : decode cX12_rest 41 = .ok (.ifCond .eq 20, 3) := by decide +kernel
theorem dX12_rest_44 : decode cX12_rest 44 = .ok (.aload_n 0, 1) := by decide +kernel
theorem dX12_rest_45 : decode cX12_rest 45 = .ok (.bipush 10, 2) := by decide +kernel
theorem dX12_rest_47 : decode cX12_rest 47 = .ok (.iload_n 3, 1) := by decide +kernel
theorem dX12_rest_48 : decode cX12_rest 48 = .ok (.bipush 7, 2) := by decide +kernel
theorem dX12_rest_5 : decode cX12_rest 5 = .ok (.aload_n 0, 1) := by decide +kernel
theorem dX12_rest_50 : decode cX12_rest 50 = .ok (.idiv, 1) := by decide +kernel
theorem dX12_rest_51 : decode cX12_rest 51 = .ok (.imul, 1) := by decide +kernel
theorem dX12_rest_52 : decode cX12_rest 52 = .ok (.iload_n 3, 1) := by decide +kernel
theorem dX12_rest_53 : decode cX12_rest 53 = .ok (.bipush 7, 2) := by decide +kernel
theorem dX12_rest_55 : decode cX12_rest 55 = .ok (.irem, 1) := by decide +kernel
theorem dX12_rest_56 : decode cX12_rest 56 = .ok (.iadd, 1) := by decide +kernel
theorem dX12_rest_57 : decode cX12_rest 57 = .ok (.invokevirtual 46, 3) := by decide +kernel
theorem dX12_rest_6 : decode cX12_rest 6 = .ok (.iload_n 1, 1) := by decide +kernel
theorem dX12_rest_60 : decode cX12_rest 60 = .ok (.ireturn, 1) := by decide +kernel
theorem dX12_rest_61 : decode cX12_rest 61 = .ok (.iinc 3 1, 3) := by decide +kernel
theorem dX12_rest_64 : decode cX12_rest 64 = .ok (.goto (-41), 3) := by decide +kernel
theorem dX12_rest_67 : decode cX12_rest 67 = .ok (.aload_n 0, 1) := by decide +kernel
theorem dX12_rest_68 : decode cX12_rest 68 = .ok (.bipush (-2), 2) := by decide +kernel
theorem dX12_rest_7 : decode cX12_rest 7 = .ok (.invokevirtual 457, 3) := by decide +kernel
theorem dX12_rest_70 : decode cX12_rest 70 = .ok (.invokevirtual 46, 3) := by decide +kernel
theorem dX12_rest_73 : decode cX12_rest 73 = .ok (.ireturn, 1) := by decide +kernel
def vfX12_rest : List Cond := .code yX12_rest cX12_rest 4 (some .int) :: ([.fieldLink RX12 36 "HookPierModel" "thrown" "I", .methodLink RX12 457 yX12_refusesStock, .instanceMethod yX12_refusesStock, .selects RX12 yX12_refusesStock yX12_refusesStock, .initialized RX12, .code yX12_refusesStock cX12_refusesStock 2 (some .int), .fieldLink RX12 299 "HookPierModel" "pier" "LHookPierModel$Pier;", .methodLink RX12 115 yX12_in, .static yX12_in, .code yX12_in cX12_in 3 (some .boolean), .methodLink RX12 46 yX12_good, .instanceMethod yX12_good, .selects RX12 yX12_good yX12_good, .code yX12_good cX12_good 2 (some .int), .fieldLink RX12 39 "HookPierModel" "trouble" "I", .fieldLink RX12 9 "HookPierModel" "where" "I", .methodLink RX12 460 yX12_isRest, .static yX12_isRest, .code yX12_isRest cX12_isRest 4 (some .boolean), .methodLink RX12 454 yX12_gets, .static yX12_gets, .code yX12_gets cX12_gets 3 (some .int), .methodLink RX12 42 yX12_refused, .instanceMethod yX12_refused, .selects RX12 yX12_refused yX12_refused, .code yX12_refused cX12_refused 2 (some .int)] ++ wsX120)
theorem ifX12_rest_X12 : ∀ w ∈ wsX120, w ∈ vfX12_rest := fun _ h => List.mem_cons_of_mem _ (List.mem_append_right _ h)
set_option maxRecDepth 20000 in
theorem gfX12_rest_0 : GoodIn vfX12_rest (wsV RX12 457 RX12 yX12_refusesStock vfX12_refusesStock) := goodIn_app (goodIn_r [.methodLink RX12 457 yX12_refusesStock, .instanceMethod yX12_refusesStock, .selects RX12 yX12_refusesStock yX12_refusesStock, .initialized RX12] [2, 3, 4, 5] (by decide +kernel) (by decide +kernel)) (goodIn_ca (goodIn_r (.code yX12_refusesStock cX12_refusesStock 2 (some .int) :: [.fieldLink RX12 299 "HookPierModel" "pier" "LHookPierModel$Pier;", .methodLink RX12 115 yX12_in, .static yX12_in, .initialized RX12, .code yX12_in cX12_in 3 (some .boolean)]) [6, 7, 8, 9, 5, 10] (by decide +kernel) (by decide +kernel) : GoodIn vfX12_rest (.code yX12_refusesStock cX12_refusesStock 2 (some .int) :: [.fieldLink RX12 299 "HookPierModel" "pier" "LHookPierModel$Pier;", .methodLink RX12 115 yX12_in, .static yX12_in, .initialized RX12, .code yX12_in cX12_in 3 (some .boolean)])) (goodIn_sub ifX12_rest_X12 (by decide +kernel)))
set_option maxRecDepth 20000 in
theorem gfX12_rest_1 : GoodIn vfX12_rest (wsV RX12 46 RX12 yX12_good vfX12_good) := goodIn_app (goodIn_r [.methodLink RX12 46 yX12_good, .instanceMethod yX12_good, .selects RX12 yX12_good yX12_good, .initialized RX12] [11, 12, 13, 5] (by decide +kernel) (by decide +kernel)) (goodIn_ca (goodIn_r (.code yX12_good cX12_good 2 (some .int) :: [.fieldLink RX12 39 "HookPierModel" "trouble" "I", .fieldLink RX12 9 "HookPierModel" "where" "I"]) [14, 15, 16] (by decide +kernel) (by decide +kernel) : GoodIn vfX12_rest (.code yX12_good cX12_good 2 (some .int) :: [.fieldLink RX12 39 "HookPierModel" "trouble" "I", .fieldLink RX12 9 "HookPierModel" "where" "I"])) (goodIn_sub ifX12_rest_X12 (by decide +kernel)))
set_option maxRecDepth 20000 in
theorem gfX12_rest_2 : GoodIn vfX12_rest (va_wsS RX12 460 yX12_isRest vfX12_isRest) := goodIn_app (goodIn_r [.methodLink RX12 460 yX12_isRest, .static yX12_isRest, .initialized RX12] [17, 18, 5] (by decide +kernel) (by decide +kernel)) (goodIn_r (.code yX12_isRest cX12_isRest 4 (some .boolean) :: [.methodLink RX12 454 yX12_gets, .static yX12_gets, .initialized RX12, .code yX12_gets cX12_gets 3 (some .int)]) [19, 20, 21, 5, 22] (by decide +kernel) (by decide +kernel) : GoodIn vfX12_rest (.code yX12_isRest cX12_isRest 4 (some .boolean) :: [.methodLink RX12 454 yX12_gets, .static yX12_gets, .initialized RX12, .code yX12_gets cX12_gets 3 (some .int)]))
set_option maxRecDepth 20000 in
theorem gfX12_rest_3 : GoodIn vfX12_rest (wsV RX12 42 RX12 yX12_refused vfX12_refused) := goodIn_app (goodIn_r [.methodLink RX12 42 yX12_refused, .instanceMethod yX12_refused, .selects RX12 yX12_refused yX12_refused, .initialized RX12] [23, 24, 25, 5] (by decide +kernel) (by decide +kernel)) (goodIn_ca (goodIn_r (.code yX12_refused cX12_refused 2 (some .int) :: [.fieldLink RX12 39 "HookPierModel" "trouble" "I", .fieldLink RX12 9 "HookPierModel" "where" "I"]) [26, 15, 16] (by decide +kernel) (by decide +kernel) : GoodIn vfX12_rest (.code yX12_refused cX12_refused 2 (some .int) :: [.fieldLink RX12 39 "HookPierModel" "trouble" "I", .fieldLink RX12 9 "HookPierModel" "where" "I"])) (goodIn_sub ifX12_rest_X12 (by decide +kernel)))
set_option maxHeartbeats 2000000 in
set_option maxRecDepth 100000 in
theorem kfX12_rest (l : Launch) (dC : Nat → ClassId) (dI : Nat → Nat → Nat) (a0 : Nat) (k1 : Int32) (m_t : TX12_t) (a3 : Nat) (g4 : Value) (g5 : Value) (g6 : Value) (g7 : Value) (g8 : Value) (g9 : Value) (g10 : Value) (g11 : Value) (g12 : Value) (g13 : Value) (g14 : Value) (g15 : Value) (g16 : Value) (g17 : Value) (g18 : Value) (g19 : Value) (g20 : Value) (g21 : Value) (g22 : Value) (g23 : Value) (g24 : Value) (g25 : Value) (g26 : Value) (g27 : Value) (g28 : Value) (g29 : Value) (sz : Nat) (out : (Int32 × TX12_t)) (h : f_X12_rest k1 m_t = some out) : Met l yX12_rest vfX12_rest ({ frames := 2, cells := 0, slots := 0, locals := 45 }) (PC (dC, dI) [.ref a0, .int k1] sz ([(a0, .inr (9, [.int m_t.1, .int m_t.2.1, .int m_t.2.2, .ref a3, g4, g5, g6, g7, g8, g9, g10, g11, g12, g13, g14, g15, g16, g17, g18, g19, g20, g21, g22, g23, g24, g25, g26, g27, g28, g29]))]) ([])) (va_Qi (S := Unit) (fun (r : Int32) _ => r = out.1) (fun _ t => BC (dC, dI) (va_A ([(a0, .inr (9, [.int m_t.1, .int m_t.2.1, .int m_t.2.2, .ref a3, g4, g5, g6, g7, g8, g9, g10, g11, g12, g13, g14, g15, g16, g17, g18, g19, g20, g21, g22, g23, g24, g25, g26, g27, g28, g29]))]) sz) ([(a0, .inr (9, [.int out.2.1, .int out.2.2.1, .int out.2.2.2, .ref a3, g4, g5, g6, g7, g8, g9, g10, g11, g12, g13, g14, g15, g16, g17, g18, g19, g20, g21, g22, g23, g24, g25, g26, g27, g28, g29]))]) [] t) (va_A ([(a0, .inr (9, [.int m_t.1, .int m_t.2.1, .int m_t.2.2, .ref a3, g4, g5, g6, g7, g8, g9, g10, g11, g12, g13, g14, g15, g16, g17, g18, g19, g20, g21, g22, g23, g24, g25, g26, g27, g28, g29]))]) sz)) 0 0 (va_A ([(a0, .inr (9, [.int m_t.1, .int m_t.2.1, .int m_t.2.2, .ref a3, g4, g5, g6, g7, g8, g9, g10, g11, g12, g13, g14, g15, g16, g17, g18, g19, g20, g21, g22, g23, g24, g25, g26, g27, g28, g29]))]) sz) := by
  refine Met.ofW (cc := cX12_rest) (maxL := 4) (ret := (some .int)) (by decide) rfl ?_
  intro p e s m args below meth c s₁ B0 hml hv
  obtain ⟨rfl, hsz, hP, hK, hD0, hN⟩ := hv
  have hx := B0.exec
  have hb := B0.bytes
  have hr := B0.returns
  have hts := atoms_spec (ws := vfX12_rest) B0.pre
  have hown : s.vm.findClass RX12 = some m.cls := findClass_of_methodNamed B0.named
  have hlocks := B0.notSynchronized
  subst hsz
  have hD := hD0.self (sz := s.heap.size)
  generalize hAe : va_A ([(a0, .inr (9, [.int m_t.1, .int m_t.2.1, .int m_t.2.2, .ref a3, g4, g5, g6, g7, g8, g9, g10, g11, g12, g13, g14, g15, g16, g17, g18, g19, g20, g21, g22, g23, g24, g25, g26, g27, g28, g29]))]) s.heap.size = A at hD ⊢
  have hA : ∀ q : Nat, s.heap.size ≤ q → A q := fun q h => by rw [← hAe]; exact Or.inr h
  have hS : va_S A s.heap s.heap [] := va_S.rf
  have hP : va_P (dC, dI) vwCl ([(a0, .inr (9, [.int m_t.1, .int m_t.2.1, .int m_t.2.2, .ref a3, g4, g5, g6, g7, g8, g9, g10, g11, g12, g13, g14, g15, g16, g17, g18, g19, g20, g21, g22, g23, g24, g25, g26, g27, g28, g29]))]) s.heap := hP
  have hl := lv_entry ([.ref a0, .int k1]) (n := 4) (Nat.le_of_ble_eq_true rfl)
  rw [lg_entry_eq]
  generalize (lg_sl ([.ref a0, .int k1]) ++ List.replicate (4 - (lg_sl ([.ref a0, .int k1])).length) Slot.unset).toArray = ls at hl ⊢
  have hl : lv_has ls 4 [(0, .ref a0), (1, .int k1)] := hl
  refine W_q (fun QQ hQQ => ?_)
  rw [f_X12_rest] at h
  refine lv_aload_n hx hb dX12_rest_0 rfl (lv_at hl 0 rfl) ?_
  refine lv_iconst (v := 0) hx hb dX12_rest_1 (by decide) ?_
  refine va_put (D := (dC, dI)) (ci := 9) (v := .int 0) (ty := .int) (C := RX12) (T := TX12) (N := 30) hx hb hts ifX12_rest_X12 tyX12 tyX12_ok nmX12 hown hK hP hD hS 0 rfl rfl 0 (by decide) (hts (.fieldLink RX12 36 "HookPierModel" "thrown" "I") (List.mem_of_getElem? (i := 1) rfl)) (fun _ h9 => h9) rfl (by decide +kernel) rfl rfl (Nat.le_of_ble_eq_true rfl) dX12_rest_2 (fun H locs hP hD hS => ?_)
  have hP : va_P (dC, dI) vwCl ([(a0, .inr (9, [.int 0, .int m_t.2.1, .int m_t.2.2, .ref a3, g4, g5, g6, g7, g8, g9, g10, g11, g12, g13, g14, g15, g16, g17, g18, g19, g20, g21, g22, g23, g24, g25, g26, g27, g28, g29]))]) H := hP
  have hD : va_D A ([(a0, .inr (9, [.int 0, .int m_t.2.1, .int m_t.2.2, .ref a3, g4, g5, g6, g7, g8, g9, g10, g11, g12, g13, g14, g15, g16, g17, g18, g19, g20, g21, g22, g23, g24, g25, g26, g27, g28, g29]))]) := hD
  refine lv_aload_n hx hb dX12_rest_5 rfl (lv_at hl 0 rfl) ?_
  refine lv_iload_n hx hb dX12_rest_6 rfl (lv_at hl 1 rfl) ?_
  obtain ⟨o7, eo7⟩ : ∃ o, o = f_X12_refusesStock k1 := ⟨_, rfl⟩
  have h := nm_of h o7 eo7
  refine cl_i (wc := ([(a0, .inr (9, [.int 0, .int m_t.2.1, .int m_t.2.2, .ref a3, g4, g5, g6, g7, g8, g9, g10, g11, g12, g13, g14, g15, g16, g17, g18, g19, g20, g21, g22, g23, g24, g25, g26, g27, g28, g29]))])) (wr := []) (va_runV (As := [.int k1]) (rest := []) ⟨hx, hb, hml, hown, hts⟩ (kfX12_refusesStock l dC dI a0 k1 (.int 0) (.int m_t.2.1) (.int m_t.2.2) a3 (g4) (g5) (g6) (g7) (g8) (g9) (g10) (g11) (g12) (g13) (g14) (g15) (g16) (g17) (g18) (g19) (g20) (g21) (g22) (g23) (g24) (g25) (g26) (g27) (g28) (g29) H.size o7 eo7.symm) (cwV 1 hts gfX12_rest_0 rfl rfl rfl (by decide +kernel) ⟨(Nat.le_of_ble_eq_true rfl), (Nat.le_of_ble_eq_true rfl)⟩) (PV (hP.sub (ws' := ([(a0, .inr (9, [.int 0, .int m_t.2.1, .int m_t.2.2, .ref a3, g4, g5, g6, g7, g8, g9, g10, g11, g12, g13, g14, g15, g16, g17, g18, g19, g20, g21, g22, g23, g24, g25, g26, g27, g28, g29]))])) [0] rfl) (hK.sub (tys' := ([])) [] rfl) (hD.sub (ws' := ([(a0, .inr (9, [.int 0, .int m_t.2.1, .int m_t.2.2, .ref a3, g4, g5, g6, g7, g8, g9, g10, g11, g12, g13, g14, g15, g16, g17, g18, g19, g20, g21, g22, g23, g24, g25, g26, g27, g28, g29]))])) [0] (by decide) rfl) hN 0 rfl rfl) rfl rfl hl.1 rfl (lv_room (Nat.le_of_ble_eq_true rfl)) dX12_rest_7 ⟨(Nat.le_of_ble_eq_true rfl), (Nat.le_of_ble_eq_true rfl)⟩) hP hD hK hS hA [0] [] rfl rfl (by decide) (by decide) (fun r7 _ H locs hw hP hD _ hS => ?_)
  obtain rfl := hw.symm
  have hP : va_P (dC, dI) vwCl ([(a0, .inr (9, [.int 0, .int m_t.2.1, .int m_t.2.2, .ref a3, g4, g5, g6, g7, g8, g9, g10, g11, g12, g13, g14, g15, g16, g17, g18, g19, g20, g21, g22, g23, g24, g25, g26, g27, g28, g29]))]) H := hP
  have hD : va_D A ([(a0, .inr (9, [.int 0, .int m_t.2.1, .int m_t.2.2, .ref a3, g4, g5, g6, g7, g8, g9, g10, g11, g12, g13, g14, g15, g16, g17, g18, g19, g20, g21, g22, g23, g24, g25, g26, g27, g28, g29]))]) := hD
  refine lv_istore_n (lv' := [(2, .int o7), (0, .ref a0), (1, .int k1)]) hx hb dX12_rest_10 rfl hl (by decide) rfl (fun ls hl => ?_)
  refine lv_iload_n hx hb dX12_rest_11 rfl (lv_at hl 0 rfl) ?_
  refine lv_if_le (tgt := 21) hx hb dX12_rest_12 (by decide) (fun c12 => ?_) (fun c12 => ?_)
  · have h := (if_pos c12).symm.trans h
    refine lv_iconst (v := 0) hx hb dX12_rest_21 (by decide) ?_
    refine lv_istore_n (lv' := [(3, .int 0), (2, .int o7), (0, .ref a0), (1, .int k1)]) hx hb dX12_rest_22 rfl hl (by decide) rfl (fun ls hl => ?_)
    have L23 : ∀ (n23 : Nat) (v23_l3 : Int32) (H : Heap) (locs : List Loc) (ls : Array Slot), f_X12_rest_L23 k1 m_t n23 v23_l3 = some out → va_P (dC, dI) vwCl ([(a0, .inr (9, [.int 0, .int m_t.2.1, .int m_t.2.2, .ref a3, g4, g5, g6, g7, g8, g9, g10, g11, g12, g13, g14, g15, g16, g17, g18, g19, g20, g21, g22, g23, g24, g25, g26, g27, g28, g29]))]) H → va_D A ([(a0, .inr (9, [.int 0, .int m_t.2.1, .int m_t.2.2, .ref a3, g4, g5, g6, g7, g8, g9, g10, g11, g12, g13, g14, g15, g16, g17, g18, g19, g20, g21, g22, g23, g24, g25, g26, g27, g28, g29]))]) → va_S A s.heap H locs → lv_has ls 4 [(3, .int v23_l3), (0, .ref a0), (1, .int k1)] → W p l e (headSpec vfX12_rest { frames := 2, cells := 0, slots := 0, locals := 45 }).room s m ([.ref a0, .int k1]).toArray below meth c H locs 0 0 QQ (F0 m 23 ls []) := by
      intro n23
      induction n23 with
      | zero =>
        intro v23_l3 H locs ls h  _ _ _ _
        rw [f_X12_rest_L23] at h
        cases h
      | succ n23 ih23 =>
        intro v23_l3 H locs ls h  hP hD hS hl
        rw [f_X12_rest_L23] at h
        refine lv_iload_n hx hb dX12_rest_23 rfl (lv_at hl 0 rfl) ?_
        refine lv_bipush (v := 49) hx hb dX12_rest_24 (by decide) ?_
        refine lv_icmp_ge (tgt := 67) hx hb dX12_rest_26 (by decide) (fun c26 => ?_) (fun c26 => ?_)
        · have h := (if_pos c26).symm.trans h
          refine lv_aload_n hx hb dX12_rest_67 rfl (lv_at hl 1 rfl) ?_
          refine lv_bipush (v := (-2)) hx hb dX12_rest_68 (by decide) ?_
          obtain ⟨o70, eo70⟩ : ∃ o, o = f_X12_good (-2 : Int32) ((0 : Int32), m_t.2) := ⟨_, rfl⟩
          have h := nm_of h o70 eo70
          refine cl_i (wc := ([(a0, .inr (9, [.int 0, .int m_t.2.1, .int m_t.2.2, .ref a3, g4, g5, g6, g7, g8, g9, g10, g11, g12, g13, g14, g15, g16, g17, g18, g19, g20, g21, g22, g23, g24, g25, g26, g27, g28, g29]))])) (wr := []) (va_runV (As := [.int (-2)]) (rest := []) ⟨hx, hb, hml, hown, hts⟩ (kfX12_good l dC dI a0 (-2 : Int32) ((0 : Int32), m_t.2) (.ref a3) (g4) (g5) (g6) (g7) (g8) (g9) (g10) (g11) (g12) (g13) (g14) (g15) (g16) (g17) (g18) (g19) (g20) (g21) (g22) (g23) (g24) (g25) (g26) (g27) (g28) (g29) H.size o70 eo70.symm) (cwV 1 hts gfX12_rest_1 rfl rfl rfl (by decide +kernel) ⟨(Nat.le_of_ble_eq_true rfl), (Nat.le_of_ble_eq_true rfl)⟩) (PV (hP.sub (ws' := ([(a0, .inr (9, [.int 0, .int m_t.2.1, .int m_t.2.2, .ref a3, g4, g5, g6, g7, g8, g9, g10, g11, g12, g13, g14, g15, g16, g17, g18, g19, g20, g21, g22, g23, g24, g25, g26, g27, g28, g29]))])) [0] rfl) (hK.sub (tys' := ([])) [] rfl) (hD.sub (ws' := ([(a0, .inr (9, [.int 0, .int m_t.2.1, .int m_t.2.2, .ref a3, g4, g5, g6, g7, g8, g9, g10, g11, g12, g13, g14, g15, g16, g17, g18, g19, g20, g21, g22, g23, g24, g25, g26, g27, g28, g29]))])) [0] (by decide) rfl) hN 0 rfl rfl) rfl rfl hl.1 rfl (lv_room (Nat.le_of_ble_eq_true rfl)) dX12_rest_70 ⟨(Nat.le_of_ble_eq_true rfl), (Nat.le_of_ble_eq_true rfl)⟩) hP hD hK hS hA [0] [] rfl rfl (by decide) (by decide) (fun r70 _ H locs hw hP hD _ hS => ?_)
          obtain rfl := hw
          have hP : va_P (dC, dI) vwCl ([(a0, .inr (9, [.int o70.2.1, .int o70.2.2.1, .int o70.2.2.2, .ref a3, g4, g5, g6, g7, g8, g9, g10, g11, g12, g13, g14, g15, g16, g17, g18, g19, g20, g21, g22, g23, g24, g25, g26, g27, g28, g29]))]) H := hP
          have hD : va_D A ([(a0, .inr (9, [.int o70.2.1, .int o70.2.2.1, .int o70.2.2.2, .ref a3, g4, g5, g6, g7, g8, g9, g10, g11, g12, g13, g14, g15, g16, g17, g18, g19, g20, g21, g22, g23, g24, g25, g26, g27, g28, g29]))]) := hD
          obtain rfl := Option.some.inj h
          have hP9 := hP.sub (ws' := ([(a0, .inr (9, [.int o70.2.1, .int o70.2.2.1, .int o70.2.2.2, .ref a3, g4, g5, g6, g7, g8, g9, g10, g11, g12, g13, g14, g15, g16, g17, g18, g19, g20, g21, g22, g23, g24, g25, g26, g27, g28, g29]))])) [0] rfl
          have hD9 := hD.sub (ws' := ([(a0, .inr (9, [.int o70.2.1, .int o70.2.2.1, .int o70.2.2.2, .ref a3, g4, g5, g6, g7, g8, g9, g10, g11, g12, g13, g14, g15, g16, g17, g18, g19, g20, g21, g22, g23, g24, g25, g26, g27, g28, g29]))])) [0] (by decide) rfl
          have hK9 := hK.sub (tys' := []) [] rfl
          rw [hQQ]
          exact W.iret (v := o70.1) hx hb hr (fun t ht hW => ⟨⟨o70.1, (), rfl, rfl, by rw [ht]; exact hP9, va_K.moved hW.alike hK9, hD9⟩, hS.F ht⟩) hS.2.2 dX12_rest_73
        · have h := (if_neg c26).symm.trans h
          refine lv_iload_n hx hb dX12_rest_29 rfl (lv_at hl 2 rfl) ?_
          refine lv_iload_n hx hb dX12_rest_30 rfl (lv_at hl 0 rfl) ?_
          refine lv_bipush (v := 7) hx hb dX12_rest_31 (by decide) ?_
          refine lv_idiv hx hb dX12_rest_33 (by decide) ?_
          refine lv_iload_n hx hb dX12_rest_34 rfl (lv_at hl 0 rfl) ?_
          refine lv_bipush (v := 7) hx hb dX12_rest_35 (by decide) ?_
          refine lv_irem hx hb dX12_rest_37 (by decide) ?_
          obtain ⟨o38, eo38, h⟩ := bd_of h
          refine cl_i (wc := []) (wr := ([(a0, .inr (9, [.int 0, .int m_t.2.1, .int m_t.2.2, .ref a3, g4, g5, g6, g7, g8, g9, g10, g11, g12, g13, g14, g15, g16, g17, g18, g19, g20, g21, g22, g23, g24, g25, g26, g27, g28, g29]))])) (va_runS (As := [.int k1, .int (v23_l3 / (7 : Int32)), .int (v23_l3 - v23_l3 / (7 : Int32) * (7 : Int32))]) (rest := []) ⟨hx, hb, hml, hown, hts⟩ (kfX12_isRest l dC dI k1 (v23_l3 / (7 : Int32)) (v23_l3 - v23_l3 / (7 : Int32) * (7 : Int32)) H.size o38 eo38) (va_cwS 3 hts gfX12_rest_2 rfl rfl rfl (by decide +kernel) ⟨(Nat.le_of_ble_eq_true rfl), (Nat.le_of_ble_eq_true rfl)⟩) (PS (hP.sub (ws' := []) [] rfl) (hK.sub (tys' := ([])) [] rfl) (hD.sub (ws' := []) [] (by decide) rfl) hN) rfl rfl hl.1 rfl (lv_room (Nat.le_of_ble_eq_true rfl)) dX12_rest_38 ⟨(Nat.le_of_ble_eq_true rfl), (Nat.le_of_ble_eq_true rfl)⟩) hP hD hK hS hA [] [0] rfl rfl (by decide) (by decide) (fun r38 _ H locs hw hP hD _ hS => ?_)
          obtain ⟨hw, br38⟩ := hw
          obtain rfl := hw.symm
          have hP : va_P (dC, dI) vwCl ([(a0, .inr (9, [.int 0, .int m_t.2.1, .int m_t.2.2, .ref a3, g4, g5, g6, g7, g8, g9, g10, g11, g12, g13, g14, g15, g16, g17, g18, g19, g20, g21, g22, g23, g24, g25, g26, g27, g28, g29]))]) H := hP
          have hD : va_D A ([(a0, .inr (9, [.int 0, .int m_t.2.1, .int m_t.2.2, .ref a3, g4, g5, g6, g7, g8, g9, g10, g11, g12, g13, g14, g15, g16, g17, g18, g19, g20, g21, g22, g23, g24, g25, g26, g27, g28, g29]))]) := hD
          refine lv_if_eq (tgt := 61) hx hb dX12_rest_41 (by decide) (fun c41 => ?_) (fun c41 => ?_)
          · have h := (if_pos c41).symm.trans h
            refine lv_iinc (v := (v23_l3 + (1 : Int32))) (lv' := [(3, .int (v23_l3 + (1 : Int32))), (0, .ref a0), (1, .int k1)]) hx hb dX12_rest_61 hl (k := 0) rfl rfl (by decide) rfl (fun ls hl => ?_)
            refine lv_goto (tgt := 23) hx hb dX12_rest_64 (by decide) ?_
            exact ih23 (v23_l3 + (1 : Int32)) H _ ls h  hP hD hS (lv_sub hl [0, 1, 2] rfl)
          · have h := (if_neg c41).symm.trans h
            refine lv_aload_n hx hb dX12_rest_44 rfl (lv_at hl 1 rfl) ?_
            refine lv_bipush (v := 10) hx hb dX12_rest_45 (by decide) ?_
            refine lv_iload_n hx hb dX12_rest_47 rfl (lv_at hl 0 rfl) ?_
            refine lv_bipush (v := 7) hx hb dX12_rest_48 (by decide) ?_
            refine lv_idiv hx hb dX12_rest_50 (by decide) ?_
            refine lv_imul hx hb dX12_rest_51 ?_
            refine lv_iload_n hx hb dX12_rest_52 rfl (lv_at hl 0 rfl) ?_
            refine lv_bipush (v := 7) hx hb dX12_rest_53 (by decide) ?_
            refine lv_irem hx hb dX12_rest_55 (by decide) ?_
            refine lv_iadd hx hb dX12_rest_56 ?_
            refine lv_topi (fun z56 ez56 => ?_)
            have h := nm_of h z56 ez56
            obtain ⟨o57, eo57⟩ : ∃ o, o = f_X12_good z56 ((0 : Int32), m_t.2) := ⟨_, rfl⟩
            have h := nm_of h o57 eo57
            refine cl_i (wc := ([(a0, .inr (9, [.int 0, .int m_t.2.1, .int m_t.2.2, .ref a3, g4, g5, g6, g7, g8, g9, g10, g11, g12, g13, g14, g15, g16, g17, g18, g19, g20, g21, g22, g23, g24, g25, g26, g27, g28, g29]))])) (wr := []) (va_runV (As := [.int z56]) (rest := []) ⟨hx, hb, hml, hown, hts⟩ (kfX12_good l dC dI a0 z56 ((0 : Int32), m_t.2) (.ref a3) (g4) (g5) (g6) (g7) (g8) (g9) (g10) (g11) (g12) (g13) (g14) (g15) (g16) (g17) (g18) (g19) (g20) (g21) (g22) (g23) (g24) (g25) (g26) (g27) (g28) (g29) H.size o57 eo57.symm) (cwV 1 hts gfX12_rest_1 rfl rfl rfl (by decide +kernel) ⟨(Nat.le_of_ble_eq_true rfl), (Nat.le_of_ble_eq_true rfl)⟩) (PV (hP.sub (ws' := ([(a0, .inr (9, [.int 0, .int m_t.2.1, .int m_t.2.2, .ref a3, g4, g5, g6, g7, g8, g9, g10, g11, g12, g13, g14, g15, g16, g17, g18, g19, g20, g21, g22, g23, g24, g25, g26, g27, g28, g29]))])) [0] rfl) (hK.sub (tys' := ([])) [] rfl) (hD.sub (ws' := ([(a0, .inr (9, [.int 0, .int m_t.2.1, .int m_t.2.2, .ref a3, g4, g5, g6, g7, g8, g9, g10, g11, g12, g13, g14, g15, g16, g17, g18, g19, g20, g21, g22, g23, g24, g25, g26, g27, g28, g29]))])) [0] (by decide) rfl) hN 0 rfl rfl) rfl rfl hl.1 rfl (lv_room (Nat.le_of_ble_eq_true rfl)) dX12_rest_57 ⟨(Nat.le_of_ble_eq_true rfl), (Nat.le_of_ble_eq_true rfl)⟩) hP hD hK hS hA [0] [] rfl rfl (by decide) (by decide) (fun r57 _ H locs hw hP hD _ hS => ?_)
            obtain rfl := hw
            have hP : va_P (dC, dI) vwCl ([(a0, .inr (9, [.int o57.2.1, .int o57.2.2.1, .int o57.2.2.2, .ref a3, g4, g5, g6, g7, g8, g9, g10, g11, g12, g13, g14, g15, g16, g17, g18, g19, g20, g21, g22, g23, g24, g25, g26, g27, g28, g29]))]) H := hP
            have hD : va_D A ([(a0, .inr (9, [.int o57.2.1, .int o57.2.2.1, .int o57.2.2.2, .ref a3, g4, g5, g6, g7, g8, g9, g10, g11, g12, g13, g14, g15, g16, g17, g18, g19, g20, g21, g22, g23, g24, g25, g26, g27, g28, g29]))]) := hD
            obtain rfl := Option.some.inj h
            have hP9 := hP.sub (ws' := ([(a0, .inr (9, [.int o57.2.1, .int o57.2.2.1, .int o57.2.2.2, .ref a3, g4, g5, g6, g7, g8, g9, g10, g11, g12, g13, g14, g15, g16, g17, g18, g19, g20, g21, g22, g23, g24, g25, g26, g27, g28, g29]))])) [0] rfl
            have hD9 := hD.sub (ws' := ([(a0, .inr (9, [.int o57.2.1, .int o57.2.2.1, .int o57.2.2.2, .ref a3, g4, g5, g6, g7, g8, g9, g10, g11, g12, g13, g14, g15, g16, g17, g18, g19, g20, g21, g22, g23, g24, g25, g26, g27, g28, g29]))])) [0] (by decide) rfl
            have hK9 := hK.sub (tys' := []) [] rfl
            rw [hQQ]
            exact W.iret (v := o57.1) hx hb hr (fun t ht hW => ⟨⟨o57.1, (), rfl, rfl, by rw [ht]; exact hP9, va_K.moved hW.alike hK9, hD9⟩, hS.F ht⟩) hS.2.2 dX12_rest_60
    exact L23 FU (0 : Int32) H _ ls h  hP hD hS (lv_sub hl [0, 2, 3] rfl)
  · have h := (if_neg c12).symm.trans h
    refine lv_aload_n hx hb dX12_rest_15 rfl (lv_at hl 1 rfl) ?_
    refine lv_iload_n hx hb dX12_rest_16 rfl (lv_at hl 0 rfl) ?_
    obtain ⟨o17, eo17⟩ : ∃ o, o = f_X12_refused o7 ((0 : Int32), m_t.2) := ⟨_, rfl⟩
    have h := nm_of h o17 eo17
    refine cl_i (wc := ([(a0, .inr (9, [.int 0, .int m_t.2.1, .int m_t.2.2, .ref a3, g4, g5, g6, g7, g8, g9, g10, g11, g12, g13, g14, g15, g16, g17, g18, g19, g20, g21, g22, g23, g24, g25, g26, g27, g28, g29]))])) (wr := []) (va_runV (As := [.int o7]) (rest := []) ⟨hx, hb, hml, hown, hts⟩ (kfX12_refused l dC dI a0 o7 ((0 : Int32), m_t.2) (.ref a3) (g4) (g5) (g6) (g7) (g8) (g9) (g10) (g11) (g12) (g13) (g14) (g15) (g16) (g17) (g18) (g19) (g20) (g21) (g22) (g23) (g24) (g25) (g26) (g27) (g28) (g29) H.size o17 eo17.symm) (cwV 1 hts gfX12_rest_3 rfl rfl rfl (by decide +kernel) ⟨(Nat.le_of_ble_eq_true rfl), (Nat.le_of_ble_eq_true rfl)⟩) (PV (hP.sub (ws' := ([(a0, .inr (9, [.int 0, .int m_t.2.1, .int m_t.2.2, .ref a3, g4, g5, g6, g7, g8, g9, g10, g11, g12, g13, g14, g15, g16, g17, g18, g19, g20, g21, g22, g23, g24, g25, g26, g27, g28, g29]))])) [0] rfl) (hK.sub (tys' := ([])) [] rfl) (hD.sub (ws' := ([(a0, .inr (9, [.int 0, .int m_t.2.1, .int m_t.2.2, .ref a3, g4, g5, g6, g7, g8, g9, g10, g11, g12, g13, g14, g15, g16, g17, g18, g19, g20, g21, g22, g23, g24, g25, g26, g27, g28, g29]))])) [0] (by decide) rfl) hN 0 rfl rfl) rfl rfl hl.1 rfl (lv_room (Nat.le_of_ble_eq_true rfl)) dX12_rest_17 ⟨(Nat.le_of_ble_eq_true rfl), (Nat.le_of_ble_eq_true rfl)⟩) hP hD hK hS hA [0] [] rfl rfl (by decide) (by decide) (fun r17 _ H locs hw hP hD _ hS => ?_)
    obtain rfl := hw
    have hP : va_P (dC, dI) vwCl ([(a0, .inr (9, [.int o17.1, .int o17.2.1, .int o17.2.2, .ref a3, g4, g5, g6, g7, g8, g9, g10, g11, g12, g13, g14, g15, g16, g17, g18, g19, g20, g21, g22, g23, g24, g25, g26, g27, g28, g29]))]) H := hP
    have hD : va_D A ([(a0, .inr (9, [.int o17.1, .int o17.2.1, .int o17.2.2, .ref a3, g4, g5, g6, g7, g8, g9, g10, g11, g12, g13, g14, g15, g16, g17, g18, g19, g20, g21, g22, g23, g24, g25, g26, g27, g28, g29]))]) := hD
    obtain rfl := Option.some.inj h
    have hP9 := hP.sub (ws' := ([(a0, .inr (9, [.int o17.1, .int o17.2.1, .int o17.2.2, .ref a3, g4, g5, g6, g7, g8, g9, g10, g11, g12, g13, g14, g15, g16, g17, g18, g19, g20, g21, g22, g23, g24, g25, g26, g27, g28, g29]))])) [0] rfl
    have hD9 := hD.sub (ws' := ([(a0, .inr (9, [.int o17.1, .int o17.2.1, .int o17.2.2, .ref a3, g4, g5, g6, g7, g8, g9, g10, g11, g12, g13, g14, g15, g16, g17, g18, g19, g20, g21, g22, g23, g24, g25, g26, g27, g28, g29]))])) [0] (by decide) rfl
    have hK9 := hK.sub (tys' := []) [] rfl
    rw [hQQ]
    exact W.iret (v := (-1 : Int32)) hx hb hr (fun t ht hW => ⟨⟨(-1 : Int32), (), rfl, rfl, by rw [ht]; exact hP9, va_K.moved hW.alike hK9, hD9⟩, hS.F ht⟩) hS.2.2 dX12_rest_20
theorem dX12_refusesDays_0 : decode cX12_refusesDays 0 = .ok (.iload_n 1, 1) := by decide +kernel
theorem dX12_refusesDays_1 : decode cX12_refusesDays 1 = .ok (.ifCond .ne 7, 3) := by decide +kernel
theorem dX12_refusesDays_10 : decode cX12_refusesDays 10 = .ok (.ldc_w 489, 3) := by decide +kernel
theorem dX12_refusesDays_13 : decode cX12_refusesDays 13 = .ok (.invokestatic 115, 3) := by decide +kernel
theorem dX12_refusesDays_16 : decode cX12_refusesDays 16 = .ok (.ifCond .eq 17, 3) := by decide +kernel
theorem dX12_refusesDays_19 : decode cX12_refusesDays 19 = .ok (.iload_n 3, 1) := by decide +kernel
theorem dX12_refusesDays_20 : decode cX12_refusesDays 20 = .ok (.iconst 0, 1) := by decide +kernel
theorem dX12_refusesDays_21 : decode cX12_refusesDays 21 = .ok (.bipush 60, 2) := by decide +kernel
theorem dX12_refusesDays_23 : decode cX12_refusesDays 23 = .ok (.invokestatic 115, 3) := by decide +kernel
theorem dX12_refusesDays_26 : decode cX12_refusesDays 26 = .ok (.ifCond .eq 7, 3) := by decide +kernel
theorem dX12_refusesDays_29 : decode cX12_refusesDays 29 = .ok (.iconst 0, 1) := by decide +kernel
theorem dX12_refusesDays_30 : decode cX12_refusesDays 30 = .ok (.goto 4, 3) := by decide +kernel
theorem dX12_refusesDays_33 : decode cX12_refusesDays 33 = .ok (.iconst 2, 1) := by decide +kernel
theorem dX12_refusesDays_34 : decode cX12_refusesDays 34 = .ok (.ireturn, 1) := by decide +kernel
theorem dX12_refusesDays_4 : decode cX12_refusesDays 4 = .ok (.iconst 1, 1) := by decide +kernel
theorem dX12_refusesDays_5 : decode cX12_refusesDays 5 = .ok (.goto 29, 3) := by decide +kernel
theorem dX12_refusesDays_8 : decode cX12_refusesDays 8 = .ok (.iload_n 2, 1) := by decide +kernel
theorem dX12_refusesDays_9 : decode cX12_refusesDays 9 = .ok (.iconst 0, 1) := by decide +kernel
def vfX12_refusesDays : List Cond := .code yX12_refusesDays cX12_refusesDays 4 (some .int) :: ([.constant RX12 489 (65536), .methodLink RX12 115 yX12_in, .static yX12_in, .initialized RX12, .code yX12_in cX12_in 3 (some .boolean)])
set_option maxRecDepth 20000 in
theorem gfX12_refusesDays_0 : GoodIn vfX12_refusesDays (va_wsS RX12 115 yX12_in vfX12_in) := goodIn_app (goodIn_r [.methodLink RX12 115 yX12_in, .static yX12_in, .initialized RX12] [2, 3, 4] (by decide +kernel) (by decide +kernel)) (goodIn_r (.code yX12_in cX12_in 3 (some .boolean) :: []) [5] (by decide +kernel) (by decide +kernel) : GoodIn vfX12_refusesDays (.code yX12_in cX12_in 3 (some .boolean) :: []))
set_option maxHeartbeats 2000000 in
set_option maxRecDepth 100000 in
theorem kfX12_refusesDays (l : Launch) (dC : Nat → ClassId) (dI : Nat → Nat → Nat) (a0 : Nat) (k1 : Int32) (k2 : Int32) (k3 : Int32) (g4 : Value) (g5 : Value) (g6 : Value) (g7 : Value) (g8 : Value) (g9 : Value) (g10 : Value) (g11 : Value) (g12 : Value) (g13 : Value) (g14 : Value) (g15 : Value) (g16 : Value) (g17 : Value) (g18 : Value) (g19 : Value) (g20 : Value) (g21 : Value) (g22 : Value) (g23 : Value) (g24 : Value) (g25 : Value) (g26 : Value) (g27 : Value) (g28 : Value) (g29 : Value) (g30 : Value) (g31 : Value) (g32 : Value) (g33 : Value) (sz : Nat) (out : Int32) (h : f_X12_refusesDays k1 k2 k3 = out) : Met l yX12_refusesDays vfX12_refusesDays ({ frames := 1, cells := 0, slots := 0, locals := 22 }) (PC (dC, dI) [.ref a0, .int k1, .int k2, .int k3] sz ([(a0, .inr (9, [g4, g5, g6, g7, g8, g9, g10, g11, g12, g13, g14, g15, g16, g17, g18, g19, g20, g21, g22, g23, g24, g25, g26, g27, g28, g29, g30, g31, g32, g33]))]) ([])) (va_Qi (S := Unit) (fun (r : Int32) _ => r = out) (fun _ t => BC (dC, dI) (va_A ([(a0, .inr (9, [g4, g5, g6, g7, g8, g9, g10, g11, g12, g13, g14, g15, g16, g17, g18, g19, g20, g21, g22, g23, g24, g25, g26, g27, g28, g29, g30, g31, g32, g33]))]) sz) ([(a0, .inr (9, [g4, g5, g6, g7, g8, g9, g10, g11, g12, g13, g14, g15, g16, g17, g18, g19, g20, g21, g22, g23, g24, g25, g26, g27, g28, g29, g30, g31, g32, g33]))]) [] t) (va_A ([(a0, .inr (9, [g4, g5, g6, g7, g8, g9, g10, g11, g12, g13, g14, g15, g16, g17, g18, g19, g20, g21, g22, g23, g24, g25, g26, g27, g28, g29, g30, g31, g32, g33]))]) sz)) 0 0 (va_A ([(a0, .inr (9, [g4, g5, g6, g7, g8, g9, g10, g11, g12, g13, g14, g15, g16, g17, g18, g19, g20, g21, g22, g23, g24, g25, g26, g27, g28, g29, g30, g31, g32, g33]))]) sz) := by
  refine Met.ofW (cc := cX12_refusesDays) (maxL := 4) (ret := (some .int)) (by decide) rfl ?_
  intro p e s m args below meth c s₁ B0 hml hv
  obtain ⟨rfl, hsz, hP, hK, hD0, hN⟩ := hv
  have hx := B0.exec
  have hb := B0.bytes
  have hr := B0.returns
  have hts := atoms_spec (ws := vfX12_refusesDays) B0.pre
  have hown : s.vm.findClass RX12 = some m.cls := findClass_of_methodNamed B0.named
  have hlocks := B0.notSynchronized
  subst hsz
  have hD := hD0.self (sz := s.heap.size)
  generalize hAe : va_A ([(a0, .inr (9, [g4, g5, g6, g7, g8, g9, g10, g11, g12, g13, g14, g15, g16, g17, g18, g19, g20, g21, g22, g23, g24, g25, g26, g27, g28, g29, g30, g31, g32, g33]))]) s.heap.size = A at hD ⊢
  have hA : ∀ q : Nat, s.heap.size ≤ q → A q := fun q h => by rw [← hAe]; exact Or.inr h
  have hS : va_S A s.heap s.heap [] := va_S.rf
  have hP : va_P (dC, dI) vwCl ([(a0, .inr (9, [g4, g5, g6, g7, g8, g9, g10, g11, g12, g13, g14, g15, g16, g17, g18, g19, g20, g21, g22, g23, g24, g25, g26, g27, g28, g29, g30, g31, g32, g33]))]) s.heap := hP
  have hl := lv_entry ([.ref a0, .int k1, .int k2, .int k3]) (n := 4) (Nat.le_of_ble_eq_true rfl)
  rw [lg_entry_eq]
  generalize (lg_sl ([.ref a0, .int k1, .int k2, .int k3]) ++ List.replicate (4 - (lg_sl ([.ref a0, .int k1, .int k2, .int k3])).length) Slot.unset).toArray = ls at hl ⊢
  have hl : lv_has ls 4 [(0, .ref a0), (1, .int k1), (2, .int k2), (3, .int k3)] := hl
  refine W_q (fun QQ hQQ => ?_)
  rw [f_X12_refusesDays] at h
  refine lv_iload_n hx hb dX12_refusesDays_0 rfl (lv_at hl 1 rfl) ?_
  refine lv_if_ne (tgt := 8) hx hb dX12_refusesDays_1 (by decide) (fun c1 => ?_) (fun c1 => ?_)
  · have h := (if_neg c1).symm.trans h
    refine lv_iload_n hx hb dX12_refusesDays_8 rfl (lv_at hl 2 rfl) ?_
    refine lv_iconst (v := 0) hx hb dX12_refusesDays_9 (by decide) ?_
    refine lv_ldcw hx hb hown (hts (.constant RX12 489 (65536)) (List.mem_of_getElem? (i := 1) rfl)) dX12_refusesDays_10 ?_
    obtain ⟨o13, eo13⟩ : ∃ o, o = f_X12_in k2 (0 : Int32) (65536 : Int32) := ⟨_, rfl⟩
    have h := nm_of h o13 eo13
    refine cl_i (wc := []) (wr := ([(a0, .inr (9, [g4, g5, g6, g7, g8, g9, g10, g11, g12, g13, g14, g15, g16, g17, g18, g19, g20, g21, g22, g23, g24, g25, g26, g27, g28, g29, g30, g31, g32, g33]))])) (va_runS (As := [.int k2, .int 0, .int 65536]) (rest := []) ⟨hx, hb, hml, hown, hts⟩ (kfX12_in l dC dI k2 (0 : Int32) (65536 : Int32) s.heap.size o13 eo13.symm) (va_cwS 3 hts gfX12_refusesDays_0 rfl rfl rfl (by decide +kernel) ⟨(Nat.le_of_ble_eq_true rfl), (Nat.le_of_ble_eq_true rfl)⟩) (PS (hP.sub (ws' := []) [] rfl) (hK.sub (tys' := ([])) [] rfl) (hD.sub (ws' := []) [] (by decide) rfl) hN) rfl rfl hl.1 rfl (lv_room (Nat.le_of_ble_eq_true rfl)) dX12_refusesDays_13 ⟨(Nat.le_of_ble_eq_true rfl), (Nat.le_of_ble_eq_true rfl)⟩) hP hD hK hS hA [] [0] rfl rfl (by decide) (by decide) (fun r13 _ H locs hw hP hD _ hS => ?_)
    obtain ⟨hw, br13⟩ := hw
    obtain rfl := hw.symm
    have hP : va_P (dC, dI) vwCl ([(a0, .inr (9, [g4, g5, g6, g7, g8, g9, g10, g11, g12, g13, g14, g15, g16, g17, g18, g19, g20, g21, g22, g23, g24, g25, g26, g27, g28, g29, g30, g31, g32, g33]))]) H := hP
    have hD : va_D A ([(a0, .inr (9, [g4, g5, g6, g7, g8, g9, g10, g11, g12, g13, g14, g15, g16, g17, g18, g19, g20, g21, g22, g23, g24, g25, g26, g27, g28, g29, g30, g31, g32, g33]))]) := hD
    refine lv_if_eq (tgt := 33) hx hb dX12_refusesDays_16 (by decide) (fun c16 => ?_) (fun c16 => ?_)
    · have h := (if_pos c16).symm.trans h
      refine lv_iconst (v := 2) hx hb dX12_refusesDays_33 (by decide) ?_
      obtain rfl := h
      have hP9 := hP.sub (ws' := ([(a0, .inr (9, [g4, g5, g6, g7, g8, g9, g10, g11, g12, g13, g14, g15, g16, g17, g18, g19, g20, g21, g22, g23, g24, g25, g26, g27, g28, g29, g30, g31, g32, g33]))])) [0] rfl
      have hD9 := hD.sub (ws' := ([(a0, .inr (9, [g4, g5, g6, g7, g8, g9, g10, g11, g12, g13, g14, g15, g16, g17, g18, g19, g20, g21, g22, g23, g24, g25, g26, g27, g28, g29, g30, g31, g32, g33]))])) [0] (by decide) rfl
      have hK9 := hK.sub (tys' := []) [] rfl
      rw [hQQ]
      exact W.iret (v := (2 : Int32)) hx hb hr (fun t ht hW => ⟨⟨(2 : Int32), (), rfl, rfl, by rw [ht]; exact hP9, va_K.moved hW.alike hK9, hD9⟩, hS.F ht⟩) hS.2.2 dX12_refusesDays_34
    · have h := (if_neg c16).symm.trans h
      refine lv_iload_n hx hb dX12_refusesDays_19 rfl (lv_at hl 3 rfl) ?_
      refine lv_iconst (v := 0) hx hb dX12_refusesDays_20 (by decide) ?_
      refine lv_bipush (v := 60) hx hb dX12_refusesDays_21 (by decide) ?_
      obtain ⟨o23, eo23⟩ : ∃ o, o = f_X12_in k3 (0 : Int32) (60 : Int32) := ⟨_, rfl⟩
      have h := nm_of h o23 eo23
      refine cl_i (wc := []) (wr := ([(a0, .inr (9, [g4, g5, g6, g7, g8, g9, g10, g11, g12, g13, g14, g15, g16, g17, g18, g19, g20, g21, g22, g23, g24, g25, g26, g27, g28, g29, g30, g31, g32, g33]))])) (va_runS (As := [.int k3, .int 0, .int 60]) (rest := []) ⟨hx, hb, hml, hown, hts⟩ (kfX12_in l dC dI k3 (0 : Int32) (60 : Int32) H.size o23 eo23.symm) (va_cwS 3 hts gfX12_refusesDays_0 rfl rfl rfl (by decide +kernel) ⟨(Nat.le_of_ble_eq_true rfl), (Nat.le_of_ble_eq_true rfl)⟩) (PS (hP.sub (ws' := []) [] rfl) (hK.sub (tys' := ([])) [] rfl) (hD.sub (ws' := []) [] (by decide) rfl) hN) rfl rfl hl.1 rfl (lv_room (Nat.le_of_ble_eq_true rfl)) dX12_refusesDays_23 ⟨(Nat.le_of_ble_eq_true rfl), (Nat.le_of_ble_eq_true rfl)⟩) hP hD hK hS hA [] [0] rfl rfl (by decide) (by decide) (fun r23 _ H locs hw hP hD _ hS => ?_)
      obtain ⟨hw, br23⟩ := hw
      obtain rfl := hw.symm
      have hP : va_P (dC, dI) vwCl ([(a0, .inr (9, [g4, g5, g6, g7, g8, g9, g10, g11, g12, g13, g14, g15, g16, g17, g18, g19, g20, g21, g22, g23, g24, g25, g26, g27, g28, g29, g30, g31, g32, g33]))]) H := hP
      have hD : va_D A ([(a0, .inr (9, [g4, g5, g6, g7, g8, g9, g10, g11, g12, g13, g14, g15, g16, g17, g18, g19, g20, g21, g22, g23, g24, g25, g26, g27, g28, g29, g30, g31, g32, g33]))]) := hD
      refine lv_if_eq (tgt := 33) hx hb dX12_refusesDays_26 (by decide) (fun c26 => ?_) (fun c26 => ?_)
      · have h := (if_pos c26).symm.trans h
        refine lv_iconst (v := 2) hx hb dX12_refusesDays_33 (by decide) ?_
        obtain rfl := h
        have hP9 := hP.sub (ws' := ([(a0, .inr (9, [g4, g5, g6, g7, g8, g9, g10, g11, g12, g13, g14, g15, g16, g17, g18, g19, g20, g21, g22, g23, g24, g25, g26, g27, g28, g29, g30, g31, g32, g33]))])) [0] rfl
        have hD9 := hD.sub (ws' := ([(a0, .inr (9, [g4, g5, g6, g7, g8, g9, g10, g11, g12, g13, g14, g15, g16, g17, g18, g19, g20, g21, g22, g23, g24, g25, g26, g27, g28, g29, g30, g31, g32, g33]))])) [0] (by decide) rfl
        have hK9 := hK.sub (tys' := []) [] rfl
        rw [hQQ]
        exact W.iret (v := (2 : Int32)) hx hb hr (fun t ht hW => ⟨⟨(2 : Int32), (), rfl, rfl, by rw [ht]; exact hP9, va_K.moved hW.alike hK9, hD9⟩, hS.F ht⟩) hS.2.2 dX12_refusesDays_34
      · have h := (if_neg c26).symm.trans h
        refine lv_iconst (v := 0) hx hb dX12_refusesDays_29 (by decide) ?_
        refine lv_goto (tgt := 34) hx hb dX12_refusesDays_30 (by decide) ?_
        obtain rfl := h
        have hP9 := hP.sub (ws' := ([(a0, .inr (9, [g4, g5, g6, g7, g8, g9, g10, g11, g12, g13, g14, g15, g16, g17, g18, g19, g20, g21, g22, g23, g24, g25, g26, g27, g28, g29, g30, g31, g32, g33]))])) [0] rfl
        have hD9 := hD.sub (ws' := ([(a0, .inr (9, [g4, g5, g6, g7, g8, g9, g10, g11, g12, g13, g14, g15, g16, g17, g18, g19, g20, g21, g22, g23, g24, g25, g26, g27, g28, g29, g30, g31, g32, g33]))])) [0] (by decide) rfl
        have hK9 := hK.sub (tys' := []) [] rfl
        rw [hQQ]
        exact W.iret (v := (0 : Int32)) hx hb hr (fun t ht hW => ⟨⟨(0 : Int32), (), rfl, rfl, by rw [ht]; exact hP9, va_K.moved hW.alike hK9, hD9⟩, hS.F ht⟩) hS.2.2 dX12_refusesDays_34
  · have h := (if_pos c1).symm.trans h
    refine lv_iconst (v := 1) hx hb dX12_refusesDays_4 (by decide) ?_
    refine lv_goto (tgt := 34) hx hb dX12_refusesDays_5 (by decide) ?_
    obtain rfl := h
    have hP9 := hP.sub (ws' := ([(a0, .inr (9, [g4, g5, g6, g7, g8, g9, g10, g11, g12, g13, g14, g15, g16, g17, g18, g19, g20, g21, g22, g23, g24, g25, g26, g27, g28, g29, g30, g31, g32, g33]))])) [0] rfl
    have hD9 := hD.sub (ws' := ([(a0, .inr (9, [g4, g5, g6, g7, g8, g9, g10, g11, g12, g13, g14, g15, g16, g17, g18, g19, g20, g21, g22, g23, g24, g25, g26, g27, g28, g29, g30, g31, g32, g33]))])) [0] (by decide) rfl
    have hK9 := hK.sub (tys' := []) [] rfl
    rw [hQQ]
    exact W.iret (v := (1 : Int32)) hx hb hr (fun t ht hW => ⟨⟨(1 : Int32), (), rfl, rfl, by rw [ht]; exact hP9, va_K.moved hW.alike hK9, hD9⟩, hS.F ht⟩) hS.2.2 dX12_refusesDays_34
theorem dX12_tries_0 : decode cX12_tries 0 = .ok (.iconst 0, 1) := by decide +kernel
theorem dX12_tries_1 : decode cX12_tries 1 = .ok (.istore_n 1, 1) := by decide +kernel
theorem dX12_tries_12 : decode cX12_tries 12 = .ok (.iload_n 1, 1) := by decide +kernel
theorem dX12_tries_13 : decode cX12_tries 13 = .ok (.aload_n 0, 1) := by decide +kernel
theorem dX12_tries_14 : decode cX12_tries 14 = .ok (.getfield 17, 3) := by decide +kernel
theorem dX12_tries_17 : decode cX12_tries 17 = .ok (.iload_n 1, 1) := by decide +kernel
theorem dX12_tries_18 : decode cX12_tries 18 = .ok (.iaload, 1) := by decide +kernel
theorem dX12_tries_19 : decode cX12_tries 19 = .ok (.iastore, 1) := by decide +kernel
theorem dX12_tries_2 : decode cX12_tries 2 = .ok (.iload_n 1, 1) := by decide +kernel
theorem dX12_tries_20 : decode cX12_tries 20 = .ok (.iinc 1 1, 3) := by decide +kernel
theorem dX12_tries_23 : decode cX12_tries 23 = .ok (.goto (-21), 3) := by decide +kernel
theorem dX12_tries_26 : decode cX12_tries 26 = .ok (.return_, 1) := by decide +kernel
theorem dX12_tries_3 : decode cX12_tries 3 = .ok (.bipush 26, 2) := by decide +kernel
theorem dX12_tries_5 : decode cX12_tries 5 = .ok (.if_icmp .ge 21, 3) := by decide +kernel
theorem dX12_tries_8 : decode cX12_tries 8 = .ok (.aload_n 0, 1) := by decide +kernel
theorem dX12_tries_9 : decode cX12_tries 9 = .ok (.getfield 21, 3) := by decide +kernel
def vfX12_tries : List Cond := .code yX12_tries cX12_tries 2 none :: ([.fieldLink RX12 21 "HookPierModel" "x" "[I", .fieldLink RX12 17 "HookPierModel" "v" "[I"] ++ wsX120)
theorem ifX12_tries_X12 : ∀ w ∈ wsX120, w ∈ vfX12_tries := fun _ h => List.mem_cons_of_mem _ (List.mem_append_right _ h)
set_option maxHeartbeats 2000000 in
set_option maxRecDepth 100000 in
theorem kfX12_tries (l : Launch) (dC : Nat → ClassId) (dI : Nat → Nat → Nat) (a0 : Nat) (a1 : Nat) (a2 : Nat) (m_v : TX12_v) (m_w : TX12_w) (g5 : Value) (g6 : Value) (g7 : Value) (g8 : Value) (g9 : Value) (g10 : Value) (g11 : Value) (g12 : Value) (g13 : Value) (g14 : Value) (g15 : Value) (g16 : Value) (g17 : Value) (g18 : Value) (g19 : Value) (g20 : Value) (g21 : Value) (g22 : Value) (g23 : Value) (g24 : Value) (g25 : Value) (g26 : Value) (g27 : Value) (g28 : Value) (g29 : Value) (g30 : Value) (g31 : Value) (g32 : Value) (cB33 : ClassId) (cB34 : ClassId) (sz : Nat) (out : TX12_w) (h : f_X12_tries m_v m_w = some out) : Met l yX12_tries vfX12_tries ({ frames := 0, cells := 0, slots := 0, locals := 0 }) (PC (dC, dI) [.ref a0] sz ([(a0, .inr (9, [g5, g6, g7, g8, g9, g10, g11, g12, g13, g14, g15, g16, g17, g18, g19, .ref a1, .ref a2, g20, g21, g22, g23, g24, g25, g26, g27, g28, g29, g30, g31, g32])), (a1, .inl (cB33, 26, .inl m_v)), (a2, .inl (cB34, 26, .inl m_w))]) ((cB33, .int) :: (cB34, .int) :: [])) (va_Qv (S := Unit) (fun _ => True) (fun _ t => BC (dC, dI) (va_A ([(a0, .inr (9, [g5, g6, g7, g8, g9, g10, g11, g12, g13, g14, g15, g16, g17, g18, g19, .ref a1, .ref a2, g20, g21, g22, g23, g24, g25, g26, g27, g28, g29, g30, g31, g32])), (a1, .inl (cB33, 26, .inl m_v)), (a2, .inl (cB34, 26, .inl m_w))]) sz) ([(a0, .inr (9, [g5, g6, g7, g8, g9, g10, g11, g12, g13, g14, g15, g16, g17, g18, g19, .ref a1, .ref a2, g20, g21, g22, g23, g24, g25, g26, g27, g28, g29, g30, g31, g32])), (a1, .inl (cB33, 26, .inl m_v)), (a2, .inl (cB34, 26, .inl out))]) [] t) (va_A ([(a0, .inr (9, [g5, g6, g7, g8, g9, g10, g11, g12, g13, g14, g15, g16, g17, g18, g19, .ref a1, .ref a2, g20, g21, g22, g23, g24, g25, g26, g27, g28, g29, g30, g31, g32])), (a1, .inl (cB33, 26, .inl m_v)), (a2, .inl (cB34, 26, .inl m_w))]) sz)) 0 0 (va_A ([(a0, .inr (9, [g5, g6, g7, g8, g9, g10, g11, g12, g13, g14, g15, g16, g17, g18, g19, .ref a1, .ref a2, g20, g21, g22, g23, g24, g25, g26, g27, g28, g29, g30, g31, g32])), (a1, .inl (cB33, 26, .inl m_v)), (a2, .inl (cB34, 26, .inl m_w))]) sz) := by
  refine Met.ofW (cc := cX12_tries) (maxL := 2) (ret := none) (by decide) rfl ?_
  intro p e s m args below meth c s₁ B0 hml hv
  obtain ⟨rfl, hsz, hP, hK, hD0, hN⟩ := hv
  have hx := B0.exec
  have hb := B0.bytes
  have hr := B0.returns
  have hts := atoms_spec (ws := vfX12_tries) B0.pre
  have hown : s.vm.findClass RX12 = some m.cls := findClass_of_methodNamed B0.named
  have hlocks := B0.notSynchronized
  subst hsz
  have hD := hD0.self (sz := s.heap.size)
  generalize hAe : va_A ([(a0, .inr (9, [g5, g6, g7, g8, g9, g10, g11, g12, g13, g14, g15, g16, g17, g18, g19, .ref a1, .ref a2, g20, g21, g22, g23, g24, g25, g26, g27, g28, g29, g30, g31, g32])), (a1, .inl (cB33, 26, .inl m_v)), (a2, .inl (cB34, 26, .inl m_w))]) s.heap.size = A at hD ⊢
  have hA : ∀ q : Nat, s.heap.size ≤ q → A q := fun q h => by rw [← hAe]; exact Or.inr h
  have hS : va_S A s.heap s.heap [] := va_S.rf
  have hP : va_P (dC, dI) vwCl ([(a0, .inr (9, [g5, g6, g7, g8, g9, g10, g11, g12, g13, g14, g15, g16, g17, g18, g19, .ref a1, .ref a2, g20, g21, g22, g23, g24, g25, g26, g27, g28, g29, g30, g31, g32])), (a1, .inl (cB33, 26, .inl m_v)), (a2, .inl (cB34, 26, .inl m_w))]) s.heap := hP
  have hl := lv_entry ([.ref a0]) (n := 2) (Nat.le_of_ble_eq_true rfl)
  rw [lg_entry_eq]
  generalize (lg_sl ([.ref a0]) ++ List.replicate (2 - (lg_sl ([.ref a0])).length) Slot.unset).toArray = ls at hl ⊢
  have hl : lv_has ls 2 [(0, .ref a0)] := hl
  refine W_q (fun QQ hQQ => ?_)
  rw [f_X12_tries] at h
  refine lv_iconst (v := 0) hx hb dX12_tries_0 (by decide) ?_
  refine lv_istore_n (lv' := [(1, .int 0), (0, .ref a0)]) hx hb dX12_tries_1 rfl hl (by decide) rfl (fun ls hl => ?_)
  have L2 : ∀ (n2 : Nat) (v2_l1 : Int32) (v2_m_w : TX12_w) (H : Heap) (locs : List Loc) (ls : Array Slot), f_X12_tries_L2 m_v n2 v2_l1 v2_m_w = some out → va_P (dC, dI) vwCl ([(a0, .inr (9, [g5, g6, g7, g8, g9, g10, g11, g12, g13, g14, g15, g16, g17, g18, g19, .ref a1, .ref a2, g20, g21, g22, g23, g24, g25, g26, g27, g28, g29, g30, g31, g32])), (a1, .inl (cB33, 26, .inl m_v)), (a2, .inl (cB34, 26, .inl v2_m_w))]) H → va_D A ([(a0, .inr (9, [g5, g6, g7, g8, g9, g10, g11, g12, g13, g14, g15, g16, g17, g18, g19, .ref a1, .ref a2, g20, g21, g22, g23, g24, g25, g26, g27, g28, g29, g30, g31, g32])), (a1, .inl (cB33, 26, .inl m_v)), (a2, .inl (cB34, 26, .inl v2_m_w))]) → va_S A s.heap H locs → lv_has ls 2 [(1, .int v2_l1), (0, .ref a0)] → W p l e (headSpec vfX12_tries { frames := 0, cells := 0, slots := 0, locals := 0 }).room s m ([.ref a0]).toArray below meth c H locs 0 0 QQ (F0 m 2 ls []) := by
    intro n2
    induction n2 with
    | zero =>
      intro v2_l1 v2_m_w H locs ls h  _ _ _ _
      rw [f_X12_tries_L2] at h
      cases h
    | succ n2 ih2 =>
      intro v2_l1 v2_m_w H locs ls h  hP hD hS hl
      rw [f_X12_tries_L2] at h
      refine lv_iload_n hx hb dX12_tries_2 rfl (lv_at hl 0 rfl) ?_
      refine lv_bipush (v := 26) hx hb dX12_tries_3 (by decide) ?_
      refine lv_icmp_ge (tgt := 26) hx hb dX12_tries_5 (by decide) (fun c5 => ?_) (fun c5 => ?_)
      · have h := (if_pos c5).symm.trans h
        obtain rfl := Option.some.inj h
        have hP9 := hP.sub (ws' := ([(a0, .inr (9, [g5, g6, g7, g8, g9, g10, g11, g12, g13, g14, g15, g16, g17, g18, g19, .ref a1, .ref a2, g20, g21, g22, g23, g24, g25, g26, g27, g28, g29, g30, g31, g32])), (a1, .inl (cB33, 26, .inl m_v)), (a2, .inl (cB34, 26, .inl v2_m_w))])) [0, 1, 2] rfl
        have hD9 := hD.sub (ws' := ([(a0, .inr (9, [g5, g6, g7, g8, g9, g10, g11, g12, g13, g14, g15, g16, g17, g18, g19, .ref a1, .ref a2, g20, g21, g22, g23, g24, g25, g26, g27, g28, g29, g30, g31, g32])), (a1, .inl (cB33, 26, .inl m_v)), (a2, .inl (cB34, 26, .inl v2_m_w))])) [0, 1, 2] (by decide) rfl
        have hK9 := hK.sub (tys' := []) [] rfl
        rw [hQQ]
        exact W.vret hx hb hr (fun t ht hW => ⟨⟨(), rfl, trivial, by rw [ht]; exact hP9, va_K.moved hW.alike hK9, hD9⟩, hS.F ht⟩) hS.2.2 dX12_tries_26
      · have h := (if_neg c5).symm.trans h
        refine lv_aload_n hx hb dX12_tries_8 rfl (lv_at hl 1 rfl) ?_
        refine va_get (D := (dC, dI)) (ci := 9) (v := .ref a2) (C := RX12) (T := TX12) (N := 30) hx hb hts ifX12_tries_X12 hown hK hP 0 rfl rfl 16 (by decide) (hts (.fieldLink RX12 21 "HookPierModel" "x" "[I") (List.mem_of_getElem? (i := 1) rfl)) (fun _ h9 => h9) rfl dX12_tries_9 ?_
        refine lv_iload_n hx hb dX12_tries_12 rfl (lv_at hl 0 rfl) ?_
        refine lv_aload_n hx hb dX12_tries_13 rfl (lv_at hl 1 rfl) ?_
        refine va_get (D := (dC, dI)) (ci := 9) (v := .ref a1) (C := RX12) (T := TX12) (N := 30) hx hb hts ifX12_tries_X12 hown hK hP 0 rfl rfl 15 (by decide) (hts (.fieldLink RX12 17 "HookPierModel" "v" "[I") (List.mem_of_getElem? (i := 2) rfl)) (fun _ h9 => h9) rfl dX12_tries_14 ?_
        refine lv_iload_n hx hb dX12_tries_17 rfl (lv_at hl 0 rfl) ?_
        obtain ⟨hg18, h⟩ := gA_of h
        refine va_iald hx hb hK hP 1 0 rfl rfl hg18 dX12_tries_18 ?_
        obtain ⟨hg19, h⟩ := gA_of h
        refine va_iast hx hb hK hP hD hS 2 1 rfl rfl hg19 dX12_tries_19 (fun H locs hP hD hS => ?_)
        have hP : va_P (dC, dI) vwCl ([(a0, .inr (9, [g5, g6, g7, g8, g9, g10, g11, g12, g13, g14, g15, g16, g17, g18, g19, .ref a1, .ref a2, g20, g21, g22, g23, g24, g25, g26, g27, g28, g29, g30, g31, g32])), (a1, .inl (cB33, 26, .inl m_v)), (a2, .inl (cB34, 26, .inl (upd v2_m_w (v2_l1).toNatClampNeg (m_v (v2_l1).toNatClampNeg))))]) H := hP
        have hD : va_D A ([(a0, .inr (9, [g5, g6, g7, g8, g9, g10, g11, g12, g13, g14, g15, g16, g17, g18, g19, .ref a1, .ref a2, g20, g21, g22, g23, g24, g25, g26, g27, g28, g29, g30, g31, g32])), (a1, .inl (cB33, 26, .inl m_v)), (a2, .inl (cB34, 26, .inl (upd v2_m_w (v2_l1).toNatClampNeg (m_v (v2_l1).toNatClampNeg))))]) := hD
        refine lv_iinc (v := (v2_l1 + (1 : Int32))) (lv' := [(1, .int (v2_l1 + (1 : Int32))), (0, .ref a0)]) hx hb dX12_tries_20 hl (k := 0) rfl rfl (by decide) rfl (fun ls hl => ?_)
        refine lv_goto (tgt := 2) hx hb dX12_tries_23 (by decide) ?_
        exact ih2 (v2_l1 + (1 : Int32)) (upd v2_m_w (v2_l1).toNatClampNeg (m_v (v2_l1).toNatClampNeg)) H _ ls h  hP hD hS (lv_sub hl [0, 1] rfl)
  exact L2 FU (0 : Int32) m_w s.heap _ ls h  hP hD hS (lv_sub hl [0, 1] rfl)
