theorem dX12_asker_0 : decode cX12_asker 0 = .ok (.aload_n 0, 1) := by decide +kernel
theorem dX12_asker_1 : decode cX12_asker 1 = .ok (.iconst 0, 1) := by decide +kernel
theorem dX12_asker_10 : decode cX12_asker 10 = .ok (.ifCond .eq 12, 3) := by decide +kernel
theorem dX12_asker_124 : decode cX12_asker 124 = .ok (.aload_n 0, 1) := by decide +kernel
theorem dX12_asker_125 : decode cX12_asker 125 = .ok (.aload_n 0, 1) := by decide +kernel
theorem dX12_asker_126 : decode cX12_asker 126 = .ok (.getfield 299, 3) := by decide +kernel
theorem dX12_asker_129 : decode cX12_asker 129 = .ok (.getfield 229, 3) := by decide +kernel
theorem dX12_asker_13 : decode cX12_asker 13 = .ok (.iload_n 2, 1) := by decide +kernel
theorem dX12_asker_132 : decode cX12_asker 132 = .ok (.iload_n 1, 1) := by decide +kernel
theorem dX12_asker_133 : decode cX12_asker 133 = .ok (.iaload, 1) := by decide +kernel
theorem dX12_asker_134 : decode cX12_asker 134 = .ok (.invokevirtual 46, 3) := by decide +kernel
theorem dX12_asker_137 : decode cX12_asker 137 = .ok (.ireturn, 1) := by decide +kernel
theorem dX12_asker_138 : decode cX12_asker 138 = .ok (.aload_n 0, 1) := by decide +kernel
theorem dX12_asker_139 : decode cX12_asker 139 = .ok (.iload_n 3, 1) := by decide +kernel
theorem dX12_asker_14 : decode cX12_asker 14 = .ok (.iconst 0, 1) := by decide +kernel
theorem dX12_asker_140 : decode cX12_asker 140 = .ok (.bipush (-2), 2) := by decide +kernel
theorem dX12_asker_142 : decode cX12_asker 142 = .ok (.if_icmp .ne 8, 3) := by decide +kernel
theorem dX12_asker_145 : decode cX12_asker 145 = .ok (.bipush (-2), 2) := by decide +kernel
theorem dX12_asker_147 : decode cX12_asker 147 = .ok (.goto 8, 3) := by decide +kernel
theorem dX12_asker_15 : decode cX12_asker 15 = .ok (.iconst 5, 1) := by decide +kernel
theorem dX12_asker_150 : decode cX12_asker 150 = .ok (.aload_n 0, 1) := by decide +kernel
theorem dX12_asker_151 : decode cX12_asker 151 = .ok (.iload_n 3, 1) := by decide +kernel
theorem dX12_asker_152 : decode cX12_asker 152 = .ok (.invokevirtual 307, 3) := by decide +kernel
theorem dX12_asker_155 : decode cX12_asker 155 = .ok (.invokevirtual 46, 3) := by decide +kernel
theorem dX12_asker_158 : decode cX12_asker 158 = .ok (.ireturn, 1) := by decide +kernel
theorem dX12_asker_159 : decode cX12_asker 159 = .ok (.aload_n 0, 1) := by decide +kernel
theorem dX12_asker_16 : decode cX12_asker 16 = .ok (.invokestatic 115, 3) := by decide +kernel
theorem dX12_asker_160 : decode cX12_asker 160 = .ok (.iload_n 3, 1) := by decide +kernel
theorem dX12_asker_161 : decode cX12_asker 161 = .ok (.bipush (-2), 2) := by decide +kernel
theorem dX12_asker_163 : decode cX12_asker 163 = .ok (.if_icmp .ne 8, 3) := by decide +kernel
theorem dX12_asker_166 : decode cX12_asker 166 = .ok (.bipush (-2), 2) := by decide +kernel
theorem dX12_asker_168 : decode cX12_asker 168 = .ok (.goto 8, 3) := by decide +kernel
theorem dX12_asker_171 : decode cX12_asker 171 = .ok (.aload_n 0, 1) := by decide +kernel
theorem dX12_asker_172 : decode cX12_asker 172 = .ok (.iload_n 3, 1) := by decide +kernel
theorem dX12_asker_173 : decode cX12_asker 173 = .ok (.invokevirtual 310, 3) := by decide +kernel
theorem dX12_asker_176 : decode cX12_asker 176 = .ok (.invokevirtual 46, 3) := by decide +kernel
theorem dX12_asker_179 : decode cX12_asker 179 = .ok (.ireturn, 1) := by decide +kernel
theorem dX12_asker_180 : decode cX12_asker 180 = .ok (.aload_n 0, 1) := by decide +kernel
theorem dX12_asker_181 : decode cX12_asker 181 = .ok (.iload_n 3, 1) := by decide +kernel
theorem dX12_asker_182 : decode cX12_asker 182 = .ok (.bipush (-2), 2) := by decide +kernel
theorem dX12_asker_184 : decode cX12_asker 184 = .ok (.if_icmp .ne 8, 3) := by decide +kernel
theorem dX12_asker_187 : decode cX12_asker 187 = .ok (.bipush (-2), 2) := by decide +kernel
theorem dX12_asker_189 : decode cX12_asker 189 = .ok (.goto 8, 3) := by decide +kernel
theorem dX12_asker_19 : decode cX12_asker 19 = .ok (.ifCond .ne 9, 3) := by decide +kernel
theorem dX12_asker_192 : decode cX12_asker 192 = .ok (.aload_n 0, 1) := by decide +kernel
theorem dX12_asker_193 : decode cX12_asker 193 = .ok (.iload_n 3, 1) := by decide +kernel
theorem dX12_asker_194 : decode cX12_asker 194 = .ok (.invokevirtual 313, 3) := by decide +kernel
theorem dX12_asker_197 : decode cX12_asker 197 = .ok (.invokevirtual 46, 3) := by decide +kernel
theorem dX12_asker_2 : decode cX12_asker 2 = .ok (.putfield 36, 3) := by decide +kernel
theorem dX12_asker_200 : decode cX12_asker 200 = .ok (.ireturn, 1) := by decide +kernel
theorem dX12_asker_201 : decode cX12_asker 201 = .ok (.aload_n 0, 1) := by decide +kernel
theorem dX12_asker_202 : decode cX12_asker 202 = .ok (.iload 4, 2) := by decide +kernel
theorem dX12_asker_204 : decode cX12_asker 204 = .ok (.invokevirtual 46, 3) := by decide +kernel
theorem dX12_asker_207 : decode cX12_asker 207 = .ok (.ireturn, 1) := by decide +kernel
theorem dX12_asker_208 : decode cX12_asker 208 = .ok (.aload_n 0, 1) := by decide +kernel
theorem dX12_asker_209 : decode cX12_asker 209 = .ok (.iload_n 3, 1) := by decide +kernel
theorem dX12_asker_210 : decode cX12_asker 210 = .ok (.bipush (-2), 2) := by decide +kernel
theorem dX12_asker_212 : decode cX12_asker 212 = .ok (.if_icmp .eq 19, 3) := by decide +kernel
theorem dX12_asker_215 : decode cX12_asker 215 = .ok (.aload_n 0, 1) := by decide +kernel
theorem dX12_asker_216 : decode cX12_asker 216 = .ok (.aload_n 0, 1) := by decide +kernel
theorem dX12_asker_217 : decode cX12_asker 217 = .ok (.getfield 17, 3) := by decide +kernel
theorem dX12_asker_22 : decode cX12_asker 22 = .ok (.aload_n 0, 1) := by decide +kernel
theorem dX12_asker_220 : decode cX12_asker 220 = .ok (.iload_n 1, 1) := by decide +kernel
theorem dX12_asker_221 : decode cX12_asker 221 = .ok (.invokevirtual 337, 3) := by decide +kernel
theorem dX12_asker_224 : decode cX12_asker 224 = .ok (.ifCond .eq 7, 3) := by decide +kernel
theorem dX12_asker_227 : decode cX12_asker 227 = .ok (.iconst 1, 1) := by decide +kernel
theorem dX12_asker_228 : decode cX12_asker 228 = .ok (.goto 4, 3) := by decide +kernel
theorem dX12_asker_23 : decode cX12_asker 23 = .ok (.iconst 1, 1) := by decide +kernel
theorem dX12_asker_231 : decode cX12_asker 231 = .ok (.iconst 0, 1) := by decide +kernel
theorem dX12_asker_232 : decode cX12_asker 232 = .ok (.invokevirtual 46, 3) := by decide +kernel
theorem dX12_asker_235 : decode cX12_asker 235 = .ok (.ireturn, 1) := by decide +kernel
theorem dX12_asker_24 : decode cX12_asker 24 = .ok (.invokevirtual 42, 3) := by decide +kernel
theorem dX12_asker_27 : decode cX12_asker 27 = .ok (.ireturn, 1) := by decide +kernel
theorem dX12_asker_28 : decode cX12_asker 28 = .ok (.aload_n 0, 1) := by decide +kernel
theorem dX12_asker_29 : decode cX12_asker 29 = .ok (.getfield 17, 3) := by decide +kernel
theorem dX12_asker_32 : decode cX12_asker 32 = .ok (.bipush 18, 2) := by decide +kernel
theorem dX12_asker_34 : decode cX12_asker 34 = .ok (.iload_n 1, 1) := by decide +kernel
theorem dX12_asker_35 : decode cX12_asker 35 = .ok (.iadd, 1) := by decide +kernel
theorem dX12_asker_36 : decode cX12_asker 36 = .ok (.iaload, 1) := by decide +kernel
theorem dX12_asker_37 : decode cX12_asker 37 = .ok (.istore_n 3, 1) := by decide +kernel
theorem dX12_asker_38 : decode cX12_asker 38 = .ok (.iconst 0, 1) := by decide +kernel
theorem dX12_asker_39 : decode cX12_asker 39 = .ok (.istore 4, 2) := by decide +kernel
theorem dX12_asker_41 : decode cX12_asker 41 = .ok (.iconst 0, 1) := by decide +kernel
theorem dX12_asker_42 : decode cX12_asker 42 = .ok (.istore 5, 2) := by decide +kernel
theorem dX12_asker_44 : decode cX12_asker 44 = .ok (.iload 5, 2) := by decide +kernel
theorem dX12_asker_46 : decode cX12_asker 46 = .ok (.aload_n 0, 1) := by decide +kernel
theorem dX12_asker_47 : decode cX12_asker 47 = .ok (.getfield 299, 3) := by decide +kernel
theorem dX12_asker_5 : decode cX12_asker 5 = .ok (.aload_n 0, 1) := by decide +kernel
theorem dX12_asker_50 : decode cX12_asker 50 = .ok (.getfield 231, 3) := by decide +kernel
theorem dX12_asker_53 : decode cX12_asker 53 = .ok (.if_icmp .ge 36, 3) := by decide +kernel
theorem dX12_asker_56 : decode cX12_asker 56 = .ok (.iload 4, 2) := by decide +kernel
theorem dX12_asker_58 : decode cX12_asker 58 = .ok (.aload_n 0, 1) := by decide +kernel
theorem dX12_asker_59 : decode cX12_asker 59 = .ok (.getfield 17, 3) := by decide +kernel
theorem dX12_asker_6 : decode cX12_asker 6 = .ok (.iload_n 1, 1) := by decide +kernel
theorem dX12_asker_62 : decode cX12_asker 62 = .ok (.bipush 12, 2) := by decide +kernel
theorem dX12_asker_64 : decode cX12_asker 64 = .ok (.iload 5, 2) := by decide +kernel
theorem dX12_asker_66 : decode cX12_asker 66 = .ok (.iadd, 1) := by decide +kernel
theorem dX12_asker_67 : decode cX12_asker 67 = .ok (.iaload, 1) := by decide +kernel
theorem dX12_asker_68 : decode cX12_asker 68 = .ok (.iload_n 1, 1) := by decide +kernel
theorem dX12_asker_69 : decode cX12_asker 69 = .ok (.if_icmp .ne 10, 3) := by decide +kernel
theorem dX12_asker_7 : decode cX12_asker 7 = .ok (.invokevirtual 334, 3) := by decide +kernel
theorem dX12_asker_72 : decode cX12_asker 72 = .ok (.iconst 1, 1) := by decide +kernel
theorem dX12_asker_73 : decode cX12_asker 73 = .ok (.iload 5, 2) := by decide +kernel
theorem dX12_asker_75 : decode cX12_asker 75 = .ok (.ishl, 1) := by decide +kernel
theorem dX12_asker_76 : decode cX12_asker 76 = .ok (.goto 4, 3) := by decide +kernel
theorem dX12_asker_79 : decode cX12_asker 79 = .ok (.iconst 0, 1) := by decide +kernel
theorem dX12_asker_80 : decode cX12_asker 80 = .ok (.ior, 1) := by decide +kernel
theorem dX12_asker_81 : decode cX12_asker 81 = .ok (.istore 4, 2) := by decide +kernel
theorem dX12_asker_83 : decode cX12_asker 83 = .ok (.iinc 5 1, 3) := by decide +kernel
theorem dX12_asker_86 : decode cX12_asker 86 = .ok (.goto (-42), 3) := by decide +kernel
theorem dX12_asker_89 : decode cX12_asker 89 = .ok (.iload_n 2, 1) := by decide +kernel
theorem dX12_asker_90 : decode cX12_asker 90 = .ok (.tableswitch 118 0 4 #[34, 48, 69, 90, 111], 34) := by decide +kernel
def vfX12_asker : List Cond := .code yX12_asker cX12_asker 6 (some .int) :: ([.fieldLink RX12 36 "HookPierModel" "thrown" "I", .methodLink RX12 334 yX12_isAsker, .instanceMethod yX12_isAsker, .selects RX12 yX12_isAsker yX12_isAsker, .initialized RX12, .code yX12_isAsker cX12_isAsker 2 (some .boolean), .fieldLink RX12 299 "HookPierModel" "pier" "LHookPierModel$Pier;", .methodLink RX12 42 yX12_refused, .instanceMethod yX12_refused, .selects RX12 yX12_refused yX12_refused, .code yX12_refused cX12_refused 2 (some .int), .fieldLink RX12 39 "HookPierModel" "trouble" "I", .fieldLink RX12 9 "HookPierModel" "where" "I", .methodLink RX12 115 yX12_in, .static yX12_in, .code yX12_in cX12_in 3 (some .boolean), .fieldLink RX12 17 "HookPierModel" "v" "[I", .methodLink RX12 46 yX12_good, .instanceMethod yX12_good, .selects RX12 yX12_good yX12_good, .code yX12_good cX12_good 2 (some .int), .methodLink RX12 307 yX12_spotOf, .instanceMethod yX12_spotOf, .selects RX12 yX12_spotOf yX12_spotOf, .code yX12_spotOf cX12_spotOf 2 (some .int), .methodLink RX12 310 yX12_fathomsOf, .instanceMethod yX12_fathomsOf, .selects RX12 yX12_fathomsOf yX12_fathomsOf, .code yX12_fathomsOf cX12_fathomsOf 2 (some .int), .methodLink RX12 313 yX12_baitOf, .instanceMethod yX12_baitOf, .selects RX12 yX12_baitOf yX12_baitOf, .code yX12_baitOf cX12_baitOf 2 (some .int), .methodLink RX12 337 yX12_isTangled, .instanceMethod yX12_isTangled, .selects RX12 yX12_isTangled yX12_isTangled, .code yX12_isTangled cX12_isTangled 4 (some .boolean), .methodLink RX12 330 yX12_areTangled, .instanceMethod yX12_areTangled, .selects RX12 yX12_areTangled yX12_areTangled, .code yX12_areTangled cX12_areTangled 5 (some .boolean), .methodLink RX12 327 yX12_apart, .static yX12_apart, .code yX12_apart cX12_apart 2 (some .int)] ++ wsX120 ++ wsX110)
theorem ifX12_asker_X12 : ∀ w ∈ wsX120, w ∈ vfX12_asker := fun _ h => List.mem_cons_of_mem _ (List.mem_append_left _ (List.mem_append_right _ h))
theorem ifX12_asker_X11 : ∀ w ∈ wsX110, w ∈ vfX12_asker := fun _ h => List.mem_cons_of_mem _ (List.mem_append_right _ h)
set_option maxRecDepth 20000 in
theorem gfX12_asker_0 : GoodIn vfX12_asker (wsV RX12 334 RX12 yX12_isAsker vfX12_isAsker) := goodIn_app (goodIn_r [.methodLink RX12 334 yX12_isAsker, .instanceMethod yX12_isAsker, .selects RX12 yX12_isAsker yX12_isAsker, .initialized RX12] [2, 3, 4, 5] (by decide +kernel) (by decide +kernel)) (goodIn_ca (goodIn_ca (goodIn_r (.code yX12_isAsker cX12_isAsker 2 (some .boolean) :: [.fieldLink RX12 299 "HookPierModel" "pier" "LHookPierModel$Pier;"]) [6, 7] (by decide +kernel) (by decide +kernel) : GoodIn vfX12_asker (.code yX12_isAsker cX12_isAsker 2 (some .boolean) :: [.fieldLink RX12 299 "HookPierModel" "pier" "LHookPierModel$Pier;"])) (goodIn_sub ifX12_asker_X12 (by decide +kernel))) (goodIn_sub ifX12_asker_X11 (by decide +kernel)))
set_option maxRecDepth 20000 in
theorem gfX12_asker_1 : GoodIn vfX12_asker (wsV RX12 42 RX12 yX12_refused vfX12_refused) := goodIn_app (goodIn_r [.methodLink RX12 42 yX12_refused, .instanceMethod yX12_refused, .selects RX12 yX12_refused yX12_refused, .initialized RX12] [8, 9, 10, 5] (by decide +kernel) (by decide +kernel)) (goodIn_ca (goodIn_r (.code yX12_refused cX12_refused 2 (some .int) :: [.fieldLink RX12 39 "HookPierModel" "trouble" "I", .fieldLink RX12 9 "HookPierModel" "where" "I"]) [11, 12, 13] (by decide +kernel) (by decide +kernel) : GoodIn vfX12_asker (.code yX12_refused cX12_refused 2 (some .int) :: [.fieldLink RX12 39 "HookPierModel" "trouble" "I", .fieldLink RX12 9 "HookPierModel" "where" "I"])) (goodIn_sub ifX12_asker_X12 (by decide +kernel)))
set_option maxRecDepth 20000 in
theorem gfX12_asker_2 : GoodIn vfX12_asker (va_wsS RX12 115 yX12_in vfX12_in) := goodIn_app (goodIn_r [.methodLink RX12 115 yX12_in, .static yX12_in, .initialized RX12] [14, 15, 5] (by decide +kernel) (by decide +kernel)) (goodIn_r (.code yX12_in cX12_in 3 (some .boolean) :: []) [16] (by decide +kernel) (by decide +kernel) : GoodIn vfX12_asker (.code yX12_in cX12_in 3 (some .boolean) :: []))
set_option maxRecDepth 20000 in
theorem gfX12_asker_3 : GoodIn vfX12_asker (wsV RX12 46 RX12 yX12_good vfX12_good) := goodIn_app (goodIn_r [.methodLink RX12 46 yX12_good, .instanceMethod yX12_good, .selects RX12 yX12_good yX12_good, .initialized RX12] [18, 19, 20, 5] (by decide +kernel) (by decide +kernel)) (goodIn_ca (goodIn_r (.code yX12_good cX12_good 2 (some .int) :: [.fieldLink RX12 39 "HookPierModel" "trouble" "I", .fieldLink RX12 9 "HookPierModel" "where" "I"]) [21, 12, 13] (by decide +kernel) (by decide +kernel) : GoodIn vfX12_asker (.code yX12_good cX12_good 2 (some .int) :: [.fieldLink RX12 39 "HookPierModel" "trouble" "I", .fieldLink RX12 9 "HookPierModel" "where" "I"])) (goodIn_sub ifX12_asker_X12 (by decide +kernel)))
set_option maxRecDepth 20000 in
theorem gfX12_asker_4 : GoodIn vfX12_asker (wsV RX12 307 RX12 yX12_spotOf vfX12_spotOf) := goodIn_app (goodIn_r [.methodLink RX12 307 yX12_spotOf, .instanceMethod yX12_spotOf, .selects RX12 yX12_spotOf yX12_spotOf, .initialized RX12] [22, 23, 24, 5] (by decide +kernel) (by decide +kernel)) (goodIn_ca (goodIn_ca (goodIn_r (.code yX12_spotOf cX12_spotOf 2 (some .int) :: [.fieldLink RX12 299 "HookPierModel" "pier" "LHookPierModel$Pier;"]) [25, 7] (by decide +kernel) (by decide +kernel) : GoodIn vfX12_asker (.code yX12_spotOf cX12_spotOf 2 (some .int) :: [.fieldLink RX12 299 "HookPierModel" "pier" "LHookPierModel$Pier;"])) (goodIn_sub ifX12_asker_X12 (by decide +kernel))) (goodIn_sub ifX12_asker_X11 (by decide +kernel)))
set_option maxRecDepth 20000 in
theorem gfX12_asker_5 : GoodIn vfX12_asker (wsV RX12 310 RX12 yX12_fathomsOf vfX12_fathomsOf) := goodIn_app (goodIn_r [.methodLink RX12 310 yX12_fathomsOf, .instanceMethod yX12_fathomsOf, .selects RX12 yX12_fathomsOf yX12_fathomsOf, .initialized RX12] [26, 27, 28, 5] (by decide +kernel) (by decide +kernel)) (goodIn_ca (goodIn_ca (goodIn_r (.code yX12_fathomsOf cX12_fathomsOf 2 (some .int) :: [.fieldLink RX12 299 "HookPierModel" "pier" "LHookPierModel$Pier;"]) [29, 7] (by decide +kernel) (by decide +kernel) : GoodIn vfX12_asker (.code yX12_fathomsOf cX12_fathomsOf 2 (some .int) :: [.fieldLink RX12 299 "HookPierModel" "pier" "LHookPierModel$Pier;"])) (goodIn_sub ifX12_asker_X12 (by decide +kernel))) (goodIn_sub ifX12_asker_X11 (by decide +kernel)))
set_option maxRecDepth 20000 in
theorem gfX12_asker_6 : GoodIn vfX12_asker (wsV RX12 313 RX12 yX12_baitOf vfX12_baitOf) := goodIn_app (goodIn_r [.methodLink RX12 313 yX12_baitOf, .instanceMethod yX12_baitOf, .selects RX12 yX12_baitOf yX12_baitOf, .initialized RX12] [30, 31, 32, 5] (by decide +kernel) (by decide +kernel)) (goodIn_ca (goodIn_ca (goodIn_r (.code yX12_baitOf cX12_baitOf 2 (some .int) :: [.fieldLink RX12 299 "HookPierModel" "pier" "LHookPierModel$Pier;"]) [33, 7] (by decide +kernel) (by decide +kernel) : GoodIn vfX12_asker (.code yX12_baitOf cX12_baitOf 2 (some .int) :: [.fieldLink RX12 299 "HookPierModel" "pier" "LHookPierModel$Pier;"])) (goodIn_sub ifX12_asker_X12 (by decide +kernel))) (goodIn_sub ifX12_asker_X11 (by decide +kernel)))
set_option maxRecDepth 20000 in
theorem gfX12_asker_7 : GoodIn vfX12_asker (wsV RX12 337 RX12 yX12_isTangled vfX12_isTangled) := goodIn_app (goodIn_r [.methodLink RX12 337 yX12_isTangled, .instanceMethod yX12_isTangled, .selects RX12 yX12_isTangled yX12_isTangled, .initialized RX12] [34, 35, 36, 5] (by decide +kernel) (by decide +kernel)) (goodIn_ca (goodIn_ca (goodIn_r (.code yX12_isTangled cX12_isTangled 4 (some .boolean) :: [.fieldLink RX12 299 "HookPierModel" "pier" "LHookPierModel$Pier;", .methodLink RX12 307 yX12_spotOf, .instanceMethod yX12_spotOf, .selects RX12 yX12_spotOf yX12_spotOf, .initialized RX12, .code yX12_spotOf cX12_spotOf 2 (some .int), .methodLink RX12 330 yX12_areTangled, .instanceMethod yX12_areTangled, .selects RX12 yX12_areTangled yX12_areTangled, .code yX12_areTangled cX12_areTangled 5 (some .boolean), .methodLink RX12 327 yX12_apart, .static yX12_apart, .code yX12_apart cX12_apart 2 (some .int)]) [37, 7, 22, 23, 24, 5, 25, 38, 39, 40, 41, 42, 43, 44] (by decide +kernel) (by decide +kernel) : GoodIn vfX12_asker (.code yX12_isTangled cX12_isTangled 4 (some .boolean) :: [.fieldLink RX12 299 "HookPierModel" "pier" "LHookPierModel$Pier;", .methodLink RX12 307 yX12_spotOf, .instanceMethod yX12_spotOf, .selects RX12 yX12_spotOf yX12_spotOf, .initialized RX12, .code yX12_spotOf cX12_spotOf 2 (some .int), .methodLink RX12 330 yX12_areTangled, .instanceMethod yX12_areTangled, .selects RX12 yX12_areTangled yX12_areTangled, .code yX12_areTangled cX12_areTangled 5 (some .boolean), .methodLink RX12 327 yX12_apart, .static yX12_apart, .code yX12_apart cX12_apart 2 (some .int)])) (goodIn_sub ifX12_asker_X12 (by decide +kernel))) (goodIn_sub ifX12_asker_X11 (by decide +kernel)))
set_option maxHeartbeats 2000000 in
set_option maxRecDepth 100000 in
theorem kfX12_asker (l : Launch) (dC : Nat → ClassId) (dI : Nat → Nat → Nat) (a0 : Nat) (k1 : Int32) (k2 : Int32) (a3 : Nat) (a4 : Nat) (uq : Nat → Nat) (kq : Nat → ClassId) (m_t : TX12_t) (m_v : TX12_v) (g9 : Value) (g10 : Value) (g11 : Value) (g12 : Value) (g13 : Value) (g14 : Value) (g15 : Value) (g16 : Value) (g17 : Value) (g18 : Value) (g19 : Value) (g20 : Value) (g21 : Value) (g22 : Value) (g23 : Value) (g24 : Value) (g25 : Value) (g26 : Value) (g27 : Value) (g28 : Value) (g29 : Value) (g30 : Value) (g31 : Value) (g32 : Value) (g33 : Value) (q_q : TX11_q) (cB35 : ClassId) (sz : Nat) (out : (Int32 × TX12_t)) (h : f_X12_asker k1 k2 m_t m_v q_q = some out) : Met l yX12_asker vfX12_asker ({ frames := 3, cells := 0, slots := 0, locals := 68 }) (PC (dC, dI) [.ref a0, .int k1, .int k2] sz ((a0, .inr (9, [.int m_t.1, .int m_t.2.1, .int m_t.2.2, .ref a3, g9, g10, g11, g12, g13, g14, g15, g16, g17, g18, g19, .ref a4, g20, g21, g22, g23, g24, g25, g26, g27, g28, g29, g30, g31, g32, g33])) :: bX11 a3 uq kq q_q ([(a4, .inl (cB35, 26, .inl m_v))])) (tX11 kq ((cB35, .int) :: []))) (va_Qi (S := Unit) (fun (r : Int32) _ => r = out.1) (fun _ t => BC (dC, dI) (va_A ((a0, .inr (9, [.int m_t.1, .int m_t.2.1, .int m_t.2.2, .ref a3, g9, g10, g11, g12, g13, g14, g15, g16, g17, g18, g19, .ref a4, g20, g21, g22, g23, g24, g25, g26, g27, g28, g29, g30, g31, g32, g33])) :: bX11 a3 uq kq q_q ([(a4, .inl (cB35, 26, .inl m_v))])) sz) ((a0, .inr (9, [.int out.2.1, .int out.2.2.1, .int out.2.2.2, .ref a3, g9, g10, g11, g12, g13, g14, g15, g16, g17, g18, g19, .ref a4, g20, g21, g22, g23, g24, g25, g26, g27, g28, g29, g30, g31, g32, g33])) :: bX11 a3 uq kq q_q ([(a4, .inl (cB35, 26, .inl m_v))])) [] t) (va_A ((a0, .inr (9, [.int m_t.1, .int m_t.2.1, .int m_t.2.2, .ref a3, g9, g10, g11, g12, g13, g14, g15, g16, g17, g18, g19, .ref a4, g20, g21, g22, g23, g24, g25, g26, g27, g28, g29, g30, g31, g32, g33])) :: bX11 a3 uq kq q_q ([(a4, .inl (cB35, 26, .inl m_v))])) sz)) 0 0 (va_A ((a0, .inr (9, [.int m_t.1, .int m_t.2.1, .int m_t.2.2, .ref a3, g9, g10, g11, g12, g13, g14, g15, g16, g17, g18, g19, .ref a4, g20, g21, g22, g23, g24, g25, g26, g27, g28, g29, g30, g31, g32, g33])) :: bX11 a3 uq kq q_q ([(a4, .inl (cB35, 26, .inl m_v))])) sz) := by
  refine Met.ofW (cc := cX12_asker) (maxL := 6) (ret := (some .int)) (by decide) rfl ?_
  intro p e s m args below meth c s₁ B0 hml hv
  obtain ⟨rfl, hsz, hP, hK, hD0, hN⟩ := hv
  have hx := B0.exec
  have hb := B0.bytes
  have hr := B0.returns
  have hts := atoms_spec (ws := vfX12_asker) B0.pre
  have hown : s.vm.findClass RX12 = some m.cls := findClass_of_methodNamed B0.named
  have hlocks := B0.notSynchronized
  subst hsz
  have hD := hD0.self (sz := s.heap.size)
  generalize hAe : va_A ((a0, .inr (9, [.int m_t.1, .int m_t.2.1, .int m_t.2.2, .ref a3, g9, g10, g11, g12, g13, g14, g15, g16, g17, g18, g19, .ref a4, g20, g21, g22, g23, g24, g25, g26, g27, g28, g29, g30, g31, g32, g33])) :: bX11 a3 uq kq q_q ([(a4, .inl (cB35, 26, .inl m_v))])) s.heap.size = A at hD ⊢
  have hA : ∀ q : Nat, s.heap.size ≤ q → A q := fun q h => by rw [← hAe]; exact Or.inr h
  have hS : va_S A s.heap s.heap [] := va_S.rf
  have hP : va_P (dC, dI) vwCl ((a0, .inr (9, [.int m_t.1, .int m_t.2.1, .int m_t.2.2, .ref a3, g9, g10, g11, g12, g13, g14, g15, g16, g17, g18, g19, .ref a4, g20, g21, g22, g23, g24, g25, g26, g27, g28, g29, g30, g31, g32, g33])) :: bX11 a3 uq kq q_q ([(a4, .inl (cB35, 26, .inl m_v))])) s.heap := hP
  have hl := lv_entry ([.ref a0, .int k1, .int k2]) (n := 6) (Nat.le_of_ble_eq_true rfl)
  rw [lg_entry_eq]
  generalize (lg_sl ([.ref a0, .int k1, .int k2]) ++ List.replicate (6 - (lg_sl ([.ref a0, .int k1, .int k2])).length) Slot.unset).toArray = ls at hl ⊢
  have hl : lv_has ls 6 [(0, .ref a0), (1, .int k1), (2, .int k2)] := hl
  refine W_q (fun QQ hQQ => ?_)
  rw [f_X12_asker] at h
  refine lv_aload_n hx hb dX12_asker_0 rfl (lv_at hl 0 rfl) ?_
  refine lv_iconst (v := 0) hx hb dX12_asker_1 (by decide) ?_
  refine va_put (D := (dC, dI)) (ci := 9) (v := .int 0) (ty := .int) (C := RX12) (T := TX12) (N := 30) hx hb hts ifX12_asker_X12 tyX12 tyX12_ok nmX12 hown hK hP hD hS 0 rfl rfl 0 (by decide) (hts (.fieldLink RX12 36 "HookPierModel" "thrown" "I") (List.mem_of_getElem? (i := 1) rfl)) (fun _ h9 => h9) rfl (by decide +kernel) rfl rfl (Nat.le_of_ble_eq_true rfl) dX12_asker_2 (fun H locs hP hD hS => ?_)
  have hP : va_P (dC, dI) vwCl ((a0, .inr (9, [.int 0, .int m_t.2.1, .int m_t.2.2, .ref a3, g9, g10, g11, g12, g13, g14, g15, g16, g17, g18, g19, .ref a4, g20, g21, g22, g23, g24, g25, g26, g27, g28, g29, g30, g31, g32, g33])) :: bX11 a3 uq kq q_q ([(a4, .inl (cB35, 26, .inl m_v))])) H := hP
  have hD : va_D A ((a0, .inr (9, [.int 0, .int m_t.2.1, .int m_t.2.2, .ref a3, g9, g10, g11, g12, g13, g14, g15, g16, g17, g18, g19, .ref a4, g20, g21, g22, g23, g24, g25, g26, g27, g28, g29, g30, g31, g32, g33])) :: bX11 a3 uq kq q_q ([(a4, .inl (cB35, 26, .inl m_v))])) := hD
  refine lv_aload_n hx hb dX12_asker_5 rfl (lv_at hl 0 rfl) ?_
  refine lv_iload_n hx hb dX12_asker_6 rfl (lv_at hl 1 rfl) ?_
  obtain ⟨o7, eo7⟩ : ∃ o, o = f_X12_isAsker k1 q_q := ⟨_, rfl⟩
  have h := nm_of h o7 eo7
  refine cl_i (wc := ((a0, .inr (9, [.int 0, .int m_t.2.1, .int m_t.2.2, .ref a3, g9, g10, g11, g12, g13, g14, g15, g16, g17, g18, g19, .ref a4, g20, g21, g22, g23, g24, g25, g26, g27, g28, g29, g30, g31, g32, g33])) :: bX11 a3 uq kq q_q [])) (wr := ([(a4, .inl (cB35, 26, .inl m_v))])) (va_runV (As := [.int k1]) (rest := []) ⟨hx, hb, hml, hown, hts⟩ (kfX12_isAsker l dC dI a0 k1 a3 uq kq (.int 0) (.int m_t.2.1) (.int m_t.2.2) (g9) (g10) (g11) (g12) (g13) (g14) (g15) (g16) (g17) (g18) (g19) (.ref a4) (g20) (g21) (g22) (g23) (g24) (g25) (g26) (g27) (g28) (g29) (g30) (g31) (g32) (g33) q_q H.size o7 eo7.symm) (cwV 1 hts gfX12_asker_0 rfl rfl rfl (by decide +kernel) ⟨(Nat.le_of_ble_eq_true rfl), (Nat.le_of_ble_eq_true rfl)⟩) (PV (hP.sub (ws' := ((a0, .inr (9, [.int 0, .int m_t.2.1, .int m_t.2.2, .ref a3, g9, g10, g11, g12, g13, g14, g15, g16, g17, g18, g19, .ref a4, g20, g21, g22, g23, g24, g25, g26, g27, g28, g29, g30, g31, g32, g33])) :: bX11 a3 uq kq q_q [])) [0, 1, 2, 3, 4, 5, 6, 7, 8, 9, 10, 11, 12, 13, 14, 15] rfl) (hK.sub (tys' := (tX11 kq ([]))) [0, 1, 2, 3, 4, 5, 6, 7, 8, 9, 10, 11, 12, 13] rfl) (hD.sub (ws' := ((a0, .inr (9, [.int 0, .int m_t.2.1, .int m_t.2.2, .ref a3, g9, g10, g11, g12, g13, g14, g15, g16, g17, g18, g19, .ref a4, g20, g21, g22, g23, g24, g25, g26, g27, g28, g29, g30, g31, g32, g33])) :: bX11 a3 uq kq q_q [])) [0, 1, 2, 3, 4, 5, 6, 7, 8, 9, 10, 11, 12, 13, 14, 15] (by decide) rfl) hN 0 rfl rfl) rfl rfl hl.1 rfl (lv_room (Nat.le_of_ble_eq_true rfl)) dX12_asker_7 ⟨(Nat.le_of_ble_eq_true rfl), (Nat.le_of_ble_eq_true rfl)⟩) hP hD hK hS hA [0, 1, 2, 3, 4, 5, 6, 7, 8, 9, 10, 11, 12, 13, 14, 15] [16] rfl rfl (by decide) (by decide) (fun r7 _ H locs hw hP hD _ hS => ?_)
  obtain ⟨hw, br7⟩ := hw
  obtain rfl := hw.symm
  have hP : va_P (dC, dI) vwCl ((a4, .inl (cB35, 26, .inl m_v)) :: (a0, .inr (9, [.int 0, .int m_t.2.1, .int m_t.2.2, .ref a3, g9, g10, g11, g12, g13, g14, g15, g16, g17, g18, g19, .ref a4, g20, g21, g22, g23, g24, g25, g26, g27, g28, g29, g30, g31, g32, g33])) :: bX11 a3 uq kq q_q []) H := hP
  have hD : va_D A ((a4, .inl (cB35, 26, .inl m_v)) :: (a0, .inr (9, [.int 0, .int m_t.2.1, .int m_t.2.2, .ref a3, g9, g10, g11, g12, g13, g14, g15, g16, g17, g18, g19, .ref a4, g20, g21, g22, g23, g24, g25, g26, g27, g28, g29, g30, g31, g32, g33])) :: bX11 a3 uq kq q_q []) := hD
  have J22 : ∀ (H : Heap) (locs : List Loc) (ls : Array Slot), f_X12_asker_J22 m_t = some out → va_P (dC, dI) vwCl ((a4, .inl (cB35, 26, .inl m_v)) :: (a0, .inr (9, [.int 0, .int m_t.2.1, .int m_t.2.2, .ref a3, g9, g10, g11, g12, g13, g14, g15, g16, g17, g18, g19, .ref a4, g20, g21, g22, g23, g24, g25, g26, g27, g28, g29, g30, g31, g32, g33])) :: bX11 a3 uq kq q_q []) H → va_D A ((a4, .inl (cB35, 26, .inl m_v)) :: (a0, .inr (9, [.int 0, .int m_t.2.1, .int m_t.2.2, .ref a3, g9, g10, g11, g12, g13, g14, g15, g16, g17, g18, g19, .ref a4, g20, g21, g22, g23, g24, g25, g26, g27, g28, g29, g30, g31, g32, g33])) :: bX11 a3 uq kq q_q []) → va_S A s.heap H locs → lv_has ls 6 [(0, .ref a0)] → W p l e (headSpec vfX12_asker { frames := 3, cells := 0, slots := 0, locals := 68 }).room s m ([.ref a0, .int k1, .int k2]).toArray below meth c H locs 0 0 QQ (F0 m 22 ls []) := by
    intro  H locs ls h  hP hD hS hl
    rw [f_X12_asker_J22] at h
    refine lv_aload_n hx hb dX12_asker_22 rfl (lv_at hl 0 rfl) ?_
    refine lv_iconst (v := 1) hx hb dX12_asker_23 (by decide) ?_
    obtain ⟨o24, eo24⟩ : ∃ o, o = f_X12_refused (1 : Int32) ((0 : Int32), m_t.2) := ⟨_, rfl⟩
    have h := nm_of h o24 eo24
    refine cl_i (wc := ([(a0, .inr (9, [.int 0, .int m_t.2.1, .int m_t.2.2, .ref a3, g9, g10, g11, g12, g13, g14, g15, g16, g17, g18, g19, .ref a4, g20, g21, g22, g23, g24, g25, g26, g27, g28, g29, g30, g31, g32, g33]))])) (wr := ((a4, .inl (cB35, 26, .inl m_v)) :: bX11 a3 uq kq q_q [])) (va_runV (As := [.int 1]) (rest := []) ⟨hx, hb, hml, hown, hts⟩ (kfX12_refused l dC dI a0 (1 : Int32) ((0 : Int32), m_t.2) (.ref a3) (g9) (g10) (g11) (g12) (g13) (g14) (g15) (g16) (g17) (g18) (g19) (.ref a4) (g20) (g21) (g22) (g23) (g24) (g25) (g26) (g27) (g28) (g29) (g30) (g31) (g32) (g33) H.size o24 eo24.symm) (cwV 1 hts gfX12_asker_1 rfl rfl rfl (by decide +kernel) ⟨(Nat.le_of_ble_eq_true rfl), (Nat.le_of_ble_eq_true rfl)⟩) (PV (hP.sub (ws' := ([(a0, .inr (9, [.int 0, .int m_t.2.1, .int m_t.2.2, .ref a3, g9, g10, g11, g12, g13, g14, g15, g16, g17, g18, g19, .ref a4, g20, g21, g22, g23, g24, g25, g26, g27, g28, g29, g30, g31, g32, g33]))])) [1] rfl) (hK.sub (tys' := ([])) [] rfl) (hD.sub (ws' := ([(a0, .inr (9, [.int 0, .int m_t.2.1, .int m_t.2.2, .ref a3, g9, g10, g11, g12, g13, g14, g15, g16, g17, g18, g19, .ref a4, g20, g21, g22, g23, g24, g25, g26, g27, g28, g29, g30, g31, g32, g33]))])) [1] (by decide) rfl) hN 0 rfl rfl) rfl rfl hl.1 rfl (lv_room (Nat.le_of_ble_eq_true rfl)) dX12_asker_24 ⟨(Nat.le_of_ble_eq_true rfl), (Nat.le_of_ble_eq_true rfl)⟩) hP hD hK hS hA [1] [0, 2, 3, 4, 5, 6, 7, 8, 9, 10, 11, 12, 13, 14, 15, 16] rfl rfl (by decide) (by decide) (fun r24 _ H locs hw hP hD _ hS => ?_)
    obtain rfl := hw
    have hP : va_P (dC, dI) vwCl ((a4, .inl (cB35, 26, .inl m_v)) :: bX11 a3 uq kq q_q ([(a0, .inr (9, [.int o24.1, .int o24.2.1, .int o24.2.2, .ref a3, g9, g10, g11, g12, g13, g14, g15, g16, g17, g18, g19, .ref a4, g20, g21, g22, g23, g24, g25, g26, g27, g28, g29, g30, g31, g32, g33]))])) H := hP
    have hD : va_D A ((a4, .inl (cB35, 26, .inl m_v)) :: bX11 a3 uq kq q_q ([(a0, .inr (9, [.int o24.1, .int o24.2.1, .int o24.2.2, .ref a3, g9, g10, g11, g12, g13, g14, g15, g16, g17, g18, g19, .ref a4, g20, g21, g22, g23, g24, g25, g26, g27, g28, g29, g30, g31, g32, g33]))])) := hD
    obtain rfl := Option.some.inj h
    have hP9 := hP.sub (ws' := ((a0, .inr (9, [.int o24.1, .int o24.2.1, .int o24.2.2, .ref a3, g9, g10, g11, g12, g13, g14, g15, g16, g17, g18, g19, .ref a4, g20, g21, g22, g23, g24, g25, g26, g27, g28, g29, g30, g31, g32, g33])) :: bX11 a3 uq kq q_q ([(a4, .inl (cB35, 26, .inl m_v))]))) [16, 1, 2, 3, 4, 5, 6, 7, 8, 9, 10, 11, 12, 13, 14, 15, 0] rfl
    have hD9 := hD.sub (ws' := ((a0, .inr (9, [.int o24.1, .int o24.2.1, .int o24.2.2, .ref a3, g9, g10, g11, g12, g13, g14, g15, g16, g17, g18, g19, .ref a4, g20, g21, g22, g23, g24, g25, g26, g27, g28, g29, g30, g31, g32, g33])) :: bX11 a3 uq kq q_q ([(a4, .inl (cB35, 26, .inl m_v))]))) [16, 1, 2, 3, 4, 5, 6, 7, 8, 9, 10, 11, 12, 13, 14, 15, 0] (by decide) rfl
    have hK9 := hK.sub (tys' := []) [] rfl
    rw [hQQ]
    exact W.iret (v := (-1 : Int32)) hx hb hr (fun t ht hW => ⟨⟨(-1 : Int32), (), rfl, rfl, by rw [ht]; exact hP9, va_K.moved hW.alike hK9, hD9⟩, hS.F ht⟩) hS.2.2 dX12_asker_27
  refine lv_if_eq (tgt := 22) hx hb dX12_asker_10 (by decide) (fun c10 => ?_) (fun c10 => ?_)
  · have h := (if_pos c10).symm.trans h
    exact J22  H _ ls h  hP hD hS (lv_sub hl [0] rfl)
  · have h := (if_neg c10).symm.trans h
    refine lv_iload_n hx hb dX12_asker_13 rfl (lv_at hl 2 rfl) ?_
    refine lv_iconst (v := 0) hx hb dX12_asker_14 (by decide) ?_
    refine lv_iconst (v := 5) hx hb dX12_asker_15 (by decide) ?_
    obtain ⟨o16, eo16⟩ : ∃ o, o = f_X12_in k2 (0 : Int32) (5 : Int32) := ⟨_, rfl⟩
    have h := nm_of h o16 eo16
    refine cl_i (wc := []) (wr := ((a4, .inl (cB35, 26, .inl m_v)) :: (a0, .inr (9, [.int 0, .int m_t.2.1, .int m_t.2.2, .ref a3, g9, g10, g11, g12, g13, g14, g15, g16, g17, g18, g19, .ref a4, g20, g21, g22, g23, g24, g25, g26, g27, g28, g29, g30, g31, g32, g33])) :: bX11 a3 uq kq q_q [])) (va_runS (As := [.int k2, .int 0, .int 5]) (rest := []) ⟨hx, hb, hml, hown, hts⟩ (kfX12_in l dC dI k2 (0 : Int32) (5 : Int32) H.size o16 eo16.symm) (va_cwS 3 hts gfX12_asker_2 rfl rfl rfl (by decide +kernel) ⟨(Nat.le_of_ble_eq_true rfl), (Nat.le_of_ble_eq_true rfl)⟩) (PS (hP.sub (ws' := []) [] rfl) (hK.sub (tys' := ([])) [] rfl) (hD.sub (ws' := []) [] (by decide) rfl) hN) rfl rfl hl.1 rfl (lv_room (Nat.le_of_ble_eq_true rfl)) dX12_asker_16 ⟨(Nat.le_of_ble_eq_true rfl), (Nat.le_of_ble_eq_true rfl)⟩) hP hD hK hS hA [] [0, 1, 2, 3, 4, 5, 6, 7, 8, 9, 10, 11, 12, 13, 14, 15, 16] rfl rfl (by decide) (by decide) (fun r16 _ H locs hw hP hD _ hS => ?_)
    obtain ⟨hw, br16⟩ := hw
    obtain rfl := hw.symm
    have hP : va_P (dC, dI) vwCl ((a4, .inl (cB35, 26, .inl m_v)) :: (a0, .inr (9, [.int 0, .int m_t.2.1, .int m_t.2.2, .ref a3, g9, g10, g11, g12, g13, g14, g15, g16, g17, g18, g19, .ref a4, g20, g21, g22, g23, g24, g25, g26, g27, g28, g29, g30, g31, g32, g33])) :: bX11 a3 uq kq q_q []) H := hP
    have hD : va_D A ((a4, .inl (cB35, 26, .inl m_v)) :: (a0, .inr (9, [.int 0, .int m_t.2.1, .int m_t.2.2, .ref a3, g9, g10, g11, g12, g13, g14, g15, g16, g17, g18, g19, .ref a4, g20, g21, g22, g23, g24, g25, g26, g27, g28, g29, g30, g31, g32, g33])) :: bX11 a3 uq kq q_q []) := hD
    refine lv_if_ne (tgt := 28) hx hb dX12_asker_19 (by decide) (fun c19 => ?_) (fun c19 => ?_)
    · have h := (if_neg c19).symm.trans h
      refine lv_aload_n hx hb dX12_asker_28 rfl (lv_at hl 0 rfl) ?_
      refine va_get (D := (dC, dI)) (ci := 9) (v := .ref a4) (C := RX12) (T := TX12) (N := 30) hx hb hts ifX12_asker_X12 hown hK hP 1 rfl rfl 15 (by decide) (hts (.fieldLink RX12 17 "HookPierModel" "v" "[I") (List.mem_of_getElem? (i := 17) rfl)) (fun _ h9 => h9) rfl dX12_asker_29 ?_
      refine lv_bipush (v := 18) hx hb dX12_asker_32 (by decide) ?_
      refine lv_iload_n hx hb dX12_asker_34 rfl (lv_at hl 1 rfl) ?_
      refine lv_iadd hx hb dX12_asker_35 ?_
      obtain ⟨hg36, h⟩ := gA_of h
      refine va_iald hx hb hK hP 0 14 rfl rfl hg36 dX12_asker_36 ?_
      refine lv_istore_n (lv' := [(3, .int (m_v (((18 : Int32) + k1)).toNatClampNeg)), (0, .ref a0), (1, .int k1), (2, .int k2)]) hx hb dX12_asker_37 rfl hl (by decide) rfl (fun ls hl => ?_)
      refine lv_iconst (v := 0) hx hb dX12_asker_38 (by decide) ?_
      refine lv_istore (lv' := [(4, .int 0), (3, .int (m_v (((18 : Int32) + k1)).toNatClampNeg)), (0, .ref a0), (1, .int k1), (2, .int k2)]) hx hb dX12_asker_39 hl (by decide) rfl (fun ls hl => ?_)
      refine lv_iconst (v := 0) hx hb dX12_asker_41 (by decide) ?_
      refine lv_istore (lv' := [(5, .int 0), (4, .int 0), (3, .int (m_v (((18 : Int32) + k1)).toNatClampNeg)), (0, .ref a0), (1, .int k1), (2, .int k2)]) hx hb dX12_asker_42 hl (by decide) rfl (fun ls hl => ?_)
      have L44 : ∀ (n44 : Nat) (v44_l5 : Int32) (v44_l4 : Int32) (H : Heap) (locs : List Loc) (ls : Array Slot), f_X12_asker_L44 k1 k2 m_t m_v q_q n44 v44_l5 v44_l4 = some out → va_P (dC, dI) vwCl ((a4, .inl (cB35, 26, .inl m_v)) :: (a0, .inr (9, [.int 0, .int m_t.2.1, .int m_t.2.2, .ref a3, g9, g10, g11, g12, g13, g14, g15, g16, g17, g18, g19, .ref a4, g20, g21, g22, g23, g24, g25, g26, g27, g28, g29, g30, g31, g32, g33])) :: bX11 a3 uq kq q_q []) H → va_D A ((a4, .inl (cB35, 26, .inl m_v)) :: (a0, .inr (9, [.int 0, .int m_t.2.1, .int m_t.2.2, .ref a3, g9, g10, g11, g12, g13, g14, g15, g16, g17, g18, g19, .ref a4, g20, g21, g22, g23, g24, g25, g26, g27, g28, g29, g30, g31, g32, g33])) :: bX11 a3 uq kq q_q []) → va_S A s.heap H locs → lv_has ls 6 [(5, .int v44_l5), (4, .int v44_l4), (3, .int (m_v (((18 : Int32) + k1)).toNatClampNeg)), (0, .ref a0), (1, .int k1), (2, .int k2)] → W p l e (headSpec vfX12_asker { frames := 3, cells := 0, slots := 0, locals := 68 }).room s m ([.ref a0, .int k1, .int k2]).toArray below meth c H locs 0 0 QQ (F0 m 44 ls []) := by
        intro n44
        induction n44 with
        | zero =>
          intro v44_l5 v44_l4 H locs ls h  _ _ _ _
          rw [f_X12_asker_L44] at h
          cases h
        | succ n44 ih44 =>
          intro v44_l5 v44_l4 H locs ls h  hP hD hS hl
          rw [f_X12_asker_L44] at h
          refine lv_iload hx hb dX12_asker_44 (lv_at hl 0 rfl) ?_
          refine lv_aload_n hx hb dX12_asker_46 rfl (lv_at hl 3 rfl) ?_
          refine va_get (D := (dC, dI)) (ci := 9) (v := .ref a3) (C := RX12) (T := TX12) (N := 30) hx hb hts ifX12_asker_X12 hown hK hP 1 rfl rfl 3 (by decide) (hts (.fieldLink RX12 299 "HookPierModel" "pier" "LHookPierModel$Pier;") (List.mem_of_getElem? (i := 7) rfl)) (fun _ h9 => h9) rfl dX12_asker_47 ?_
          refine va_getN (D := (dC, dI)) (ci := 8) (v := .int q_q.2.2.2.2.2.2.1) (C := RX11) (T := TX11) (N := 24) hx hb hts ifX12_asker_X11 hown hK hP 2 rfl rfl 6 (by decide) (va_Nw.use rfl (hN.1 (.fieldLinkNest RX12 231 "HookPierModel$Pier" "answers" "I" "HookPierModel") (List.mem_of_getElem? (i := 28) rfl))) (fun _ h9 => h9) rfl dX12_asker_50 ?_
          refine lv_icmp_ge (tgt := 89) hx hb dX12_asker_53 (by decide) (fun c53 => ?_) (fun c53 => ?_)
          · have h := (if_pos c53).symm.trans h
            refine lv_iload_n hx hb dX12_asker_89 rfl (lv_at hl 5 rfl) ?_
            by_cases c90_0 : k2 = 0
            · have h := (if_pos c90_0).symm.trans h
              refine lv_tableIn (tgt := 124) hx hb dX12_asker_90 (by rw [c90_0]; decide) (by rw [c90_0]; decide) (by rw [c90_0]; rfl) (by decide) ?_
              refine lv_aload_n hx hb dX12_asker_124 rfl (lv_at hl 3 rfl) ?_
              refine lv_aload_n hx hb dX12_asker_125 rfl (lv_at hl 3 rfl) ?_
              refine va_get (D := (dC, dI)) (ci := 9) (v := .ref a3) (C := RX12) (T := TX12) (N := 30) hx hb hts ifX12_asker_X12 hown hK hP 1 rfl rfl 3 (by decide) (hts (.fieldLink RX12 299 "HookPierModel" "pier" "LHookPierModel$Pier;") (List.mem_of_getElem? (i := 7) rfl)) (fun _ h9 => h9) rfl dX12_asker_126 ?_
              refine va_getN (D := (dC, dI)) (ci := 8) (v := .ref (uq 0)) (C := RX11) (T := TX11) (N := 24) hx hb hts ifX12_asker_X11 hown hK hP 2 rfl rfl 10 (by decide) (va_Nw.use rfl (hN.1 (.fieldLinkNest RX12 229 "HookPierModel$Pier" "reach" "[I" "HookPierModel") (List.mem_of_getElem? (i := 32) rfl))) (fun _ h9 => h9) rfl dX12_asker_129 ?_
              refine lv_iload_n hx hb dX12_asker_132 rfl (lv_at hl 4 rfl) ?_
              obtain ⟨hg133, h⟩ := gA_of h
              refine va_iald hx hb hK hP 3 0 rfl rfl hg133 dX12_asker_133 ?_
              obtain ⟨o134, eo134⟩ : ∃ o, o = f_X12_good (q_q.2.2.2.2.2.2.2.2.2.2.1 (k1).toNatClampNeg) ((0 : Int32), m_t.2) := ⟨_, rfl⟩
              have h := nm_of h o134 eo134
              refine cl_i (wc := ([(a0, .inr (9, [.int 0, .int m_t.2.1, .int m_t.2.2, .ref a3, g9, g10, g11, g12, g13, g14, g15, g16, g17, g18, g19, .ref a4, g20, g21, g22, g23, g24, g25, g26, g27, g28, g29, g30, g31, g32, g33]))])) (wr := ((a4, .inl (cB35, 26, .inl m_v)) :: bX11 a3 uq kq q_q [])) (va_runV (As := [.int (q_q.2.2.2.2.2.2.2.2.2.2.1 (k1).toNatClampNeg)]) (rest := []) ⟨hx, hb, hml, hown, hts⟩ (kfX12_good l dC dI a0 (q_q.2.2.2.2.2.2.2.2.2.2.1 (k1).toNatClampNeg) ((0 : Int32), m_t.2) (.ref a3) (g9) (g10) (g11) (g12) (g13) (g14) (g15) (g16) (g17) (g18) (g19) (.ref a4) (g20) (g21) (g22) (g23) (g24) (g25) (g26) (g27) (g28) (g29) (g30) (g31) (g32) (g33) H.size o134 eo134.symm) (cwV 1 hts gfX12_asker_3 rfl rfl rfl (by decide +kernel) ⟨(Nat.le_of_ble_eq_true rfl), (Nat.le_of_ble_eq_true rfl)⟩) (PV (hP.sub (ws' := ([(a0, .inr (9, [.int 0, .int m_t.2.1, .int m_t.2.2, .ref a3, g9, g10, g11, g12, g13, g14, g15, g16, g17, g18, g19, .ref a4, g20, g21, g22, g23, g24, g25, g26, g27, g28, g29, g30, g31, g32, g33]))])) [1] rfl) (hK.sub (tys' := ([])) [] rfl) (hD.sub (ws' := ([(a0, .inr (9, [.int 0, .int m_t.2.1, .int m_t.2.2, .ref a3, g9, g10, g11, g12, g13, g14, g15, g16, g17, g18, g19, .ref a4, g20, g21, g22, g23, g24, g25, g26, g27, g28, g29, g30, g31, g32, g33]))])) [1] (by decide) rfl) hN 0 rfl rfl) rfl rfl hl.1 rfl (lv_room (Nat.le_of_ble_eq_true rfl)) dX12_asker_134 ⟨(Nat.le_of_ble_eq_true rfl), (Nat.le_of_ble_eq_true rfl)⟩) hP hD hK hS hA [1] [0, 2, 3, 4, 5, 6, 7, 8, 9, 10, 11, 12, 13, 14, 15, 16] rfl rfl (by decide) (by decide) (fun r134 _ H locs hw hP hD _ hS => ?_)
              obtain rfl := hw
              have hP : va_P (dC, dI) vwCl ((a4, .inl (cB35, 26, .inl m_v)) :: bX11 a3 uq kq q_q ([(a0, .inr (9, [.int o134.2.1, .int o134.2.2.1, .int o134.2.2.2, .ref a3, g9, g10, g11, g12, g13, g14, g15, g16, g17, g18, g19, .ref a4, g20, g21, g22, g23, g24, g25, g26, g27, g28, g29, g30, g31, g32, g33]))])) H := hP
              have hD : va_D A ((a4, .inl (cB35, 26, .inl m_v)) :: bX11 a3 uq kq q_q ([(a0, .inr (9, [.int o134.2.1, .int o134.2.2.1, .int o134.2.2.2, .ref a3, g9, g10, g11, g12, g13, g14, g15, g16, g17, g18, g19, .ref a4, g20, g21, g22, g23, g24, g25, g26, g27, g28, g29, g30, g31, g32, g33]))])) := hD
              obtain rfl := Option.some.inj h
              have hP9 := hP.sub (ws' := ((a0, .inr (9, [.int o134.2.1, .int o134.2.2.1, .int o134.2.2.2, .ref a3, g9, g10, g11, g12, g13, g14, g15, g16, g17, g18, g19, .ref a4, g20, g21, g22, g23, g24, g25, g26, g27, g28, g29, g30, g31, g32, g33])) :: bX11 a3 uq kq q_q ([(a4, .inl (cB35, 26, .inl m_v))]))) [16, 1, 2, 3, 4, 5, 6, 7, 8, 9, 10, 11, 12, 13, 14, 15, 0] rfl
              have hD9 := hD.sub (ws' := ((a0, .inr (9, [.int o134.2.1, .int o134.2.2.1, .int o134.2.2.2, .ref a3, g9, g10, g11, g12, g13, g14, g15, g16, g17, g18, g19, .ref a4, g20, g21, g22, g23, g24, g25, g26, g27, g28, g29, g30, g31, g32, g33])) :: bX11 a3 uq kq q_q ([(a4, .inl (cB35, 26, .inl m_v))]))) [16, 1, 2, 3, 4, 5, 6, 7, 8, 9, 10, 11, 12, 13, 14, 15, 0] (by decide) rfl
              have hK9 := hK.sub (tys' := []) [] rfl
              rw [hQQ]
              exact W.iret (v := o134.1) hx hb hr (fun t ht hW => ⟨⟨o134.1, (), rfl, rfl, by rw [ht]; exact hP9, va_K.moved hW.alike hK9, hD9⟩, hS.F ht⟩) hS.2.2 dX12_asker_137
            have h := (if_neg c90_0).symm.trans h
            by_cases c90_1 : k2 = 1
            · have h := (if_pos c90_1).symm.trans h
              refine lv_tableIn (tgt := 138) hx hb dX12_asker_90 (by rw [c90_1]; decide) (by rw [c90_1]; decide) (by rw [c90_1]; rfl) (by decide) ?_
              refine lv_aload_n hx hb dX12_asker_138 rfl (lv_at hl 3 rfl) ?_
              refine lv_iload_n hx hb dX12_asker_139 rfl (lv_at hl 2 rfl) ?_
              refine lv_bipush (v := (-2)) hx hb dX12_asker_140 (by decide) ?_
              have J155 : ∀ (v155_t1 : Int32) (H : Heap) (locs : List Loc) (ls : Array Slot), f_X12_asker_J155 m_t v155_t1 = some out → va_P (dC, dI) vwCl ((a4, .inl (cB35, 26, .inl m_v)) :: (a0, .inr (9, [.int 0, .int m_t.2.1, .int m_t.2.2, .ref a3, g9, g10, g11, g12, g13, g14, g15, g16, g17, g18, g19, .ref a4, g20, g21, g22, g23, g24, g25, g26, g27, g28, g29, g30, g31, g32, g33])) :: bX11 a3 uq kq q_q []) H → va_D A ((a4, .inl (cB35, 26, .inl m_v)) :: (a0, .inr (9, [.int 0, .int m_t.2.1, .int m_t.2.2, .ref a3, g9, g10, g11, g12, g13, g14, g15, g16, g17, g18, g19, .ref a4, g20, g21, g22, g23, g24, g25, g26, g27, g28, g29, g30, g31, g32, g33])) :: bX11 a3 uq kq q_q []) → va_S A s.heap H locs → lv_has ls 6 [] → W p l e (headSpec vfX12_asker { frames := 3, cells := 0, slots := 0, locals := 68 }).room s m ([.ref a0, .int k1, .int k2]).toArray below meth c H locs 0 0 QQ (F0 m 155 ls [.int v155_t1, .ref a0]) := by
                intro v155_t1 H locs ls h  hP hD hS hl
                rw [f_X12_asker_J155] at h
                obtain ⟨o155, eo155⟩ : ∃ o, o = f_X12_good v155_t1 ((0 : Int32), m_t.2) := ⟨_, rfl⟩
                have h := nm_of h o155 eo155
                refine cl_i (wc := ([(a0, .inr (9, [.int 0, .int m_t.2.1, .int m_t.2.2, .ref a3, g9, g10, g11, g12, g13, g14, g15, g16, g17, g18, g19, .ref a4, g20, g21, g22, g23, g24, g25, g26, g27, g28, g29, g30, g31, g32, g33]))])) (wr := ((a4, .inl (cB35, 26, .inl m_v)) :: bX11 a3 uq kq q_q [])) (va_runV (As := [.int v155_t1]) (rest := []) ⟨hx, hb, hml, hown, hts⟩ (kfX12_good l dC dI a0 v155_t1 ((0 : Int32), m_t.2) (.ref a3) (g9) (g10) (g11) (g12) (g13) (g14) (g15) (g16) (g17) (g18) (g19) (.ref a4) (g20) (g21) (g22) (g23) (g24) (g25) (g26) (g27) (g28) (g29) (g30) (g31) (g32) (g33) H.size o155 eo155.symm) (cwV 1 hts gfX12_asker_3 rfl rfl rfl (by decide +kernel) ⟨(Nat.le_of_ble_eq_true rfl), (Nat.le_of_ble_eq_true rfl)⟩) (PV (hP.sub (ws' := ([(a0, .inr (9, [.int 0, .int m_t.2.1, .int m_t.2.2, .ref a3, g9, g10, g11, g12, g13, g14, g15, g16, g17, g18, g19, .ref a4, g20, g21, g22, g23, g24, g25, g26, g27, g28, g29, g30, g31, g32, g33]))])) [1] rfl) (hK.sub (tys' := ([])) [] rfl) (hD.sub (ws' := ([(a0, .inr (9, [.int 0, .int m_t.2.1, .int m_t.2.2, .ref a3, g9, g10, g11, g12, g13, g14, g15, g16, g17, g18, g19, .ref a4, g20, g21, g22, g23, g24, g25, g26, g27, g28, g29, g30, g31, g32, g33]))])) [1] (by decide) rfl) hN 0 rfl rfl) rfl rfl hl.1 rfl (lv_room (Nat.le_of_ble_eq_true rfl)) dX12_asker_155 ⟨(Nat.le_of_ble_eq_true rfl), (Nat.le_of_ble_eq_true rfl)⟩) hP hD hK hS hA [1] [0, 2, 3, 4, 5, 6, 7, 8, 9, 10, 11, 12, 13, 14, 15, 16] rfl rfl (by decide) (by decide) (fun r155 _ H locs hw hP hD _ hS => ?_)
                obtain rfl := hw
                have hP : va_P (dC, dI) vwCl ((a4, .inl (cB35, 26, .inl m_v)) :: bX11 a3 uq kq q_q ([(a0, .inr (9, [.int o155.2.1, .int o155.2.2.1, .int o155.2.2.2, .ref a3, g9, g10, g11, g12, g13, g14, g15, g16, g17, g18, g19, .ref a4, g20, g21, g22, g23, g24, g25, g26, g27, g28, g29, g30, g31, g32, g33]))])) H := hP
                have hD : va_D A ((a4, .inl (cB35, 26, .inl m_v)) :: bX11 a3 uq kq q_q ([(a0, .inr (9, [.int o155.2.1, .int o155.2.2.1, .int o155.2.2.2, .ref a3, g9, g10, g11, g12, g13, g14, g15, g16, g17, g18, g19, .ref a4, g20, g21, g22, g23, g24, g25, g26, g27, g28, g29, g30, g31, g32, g33]))])) := hD
                obtain rfl := Option.some.inj h
                have hP9 := hP.sub (ws' := ((a0, .inr (9, [.int o155.2.1, .int o155.2.2.1, .int o155.2.2.2, .ref a3, g9, g10, g11, g12, g13, g14, g15, g16, g17, g18, g19, .ref a4, g20, g21, g22, g23, g24, g25, g26, g27, g28, g29, g30, g31, g32, g33])) :: bX11 a3 uq kq q_q ([(a4, .inl (cB35, 26, .inl m_v))]))) [16, 1, 2, 3, 4, 5, 6, 7, 8, 9, 10, 11, 12, 13, 14, 15, 0] rfl
                have hD9 := hD.sub (ws' := ((a0, .inr (9, [.int o155.2.1, .int o155.2.2.1, .int o155.2.2.2, .ref a3, g9, g10, g11, g12, g13, g14, g15, g16, g17, g18, g19, .ref a4, g20, g21, g22, g23, g24, g25, g26, g27, g28, g29, g30, g31, g32, g33])) :: bX11 a3 uq kq q_q ([(a4, .inl (cB35, 26, .inl m_v))]))) [16, 1, 2, 3, 4, 5, 6, 7, 8, 9, 10, 11, 12, 13, 14, 15, 0] (by decide) rfl
                have hK9 := hK.sub (tys' := []) [] rfl
                rw [hQQ]
                exact W.iret (v := o155.1) hx hb hr (fun t ht hW => ⟨⟨o155.1, (), rfl, rfl, by rw [ht]; exact hP9, va_K.moved hW.alike hK9, hD9⟩, hS.F ht⟩) hS.2.2 dX12_asker_158
              refine lv_icmp_ne (tgt := 150) hx hb dX12_asker_142 (by decide) (fun c142 => ?_) (fun c142 => ?_)
              · have h := (if_neg c142).symm.trans h
                refine lv_aload_n hx hb dX12_asker_150 rfl (lv_at hl 3 rfl) ?_
                refine lv_iload_n hx hb dX12_asker_151 rfl (lv_at hl 2 rfl) ?_
                obtain ⟨o152, eo152, h⟩ := bd_of h
                refine cl_i (wc := ((a0, .inr (9, [.int 0, .int m_t.2.1, .int m_t.2.2, .ref a3, g9, g10, g11, g12, g13, g14, g15, g16, g17, g18, g19, .ref a4, g20, g21, g22, g23, g24, g25, g26, g27, g28, g29, g30, g31, g32, g33])) :: bX11 a3 uq kq q_q [])) (wr := ([(a4, .inl (cB35, 26, .inl m_v))])) (va_runV (As := [.int (m_v (((18 : Int32) + k1)).toNatClampNeg)]) (rest := [.ref a0]) ⟨hx, hb, hml, hown, hts⟩ (kfX12_spotOf l dC dI a0 (m_v (((18 : Int32) + k1)).toNatClampNeg) a3 uq kq (.int 0) (.int m_t.2.1) (.int m_t.2.2) (g9) (g10) (g11) (g12) (g13) (g14) (g15) (g16) (g17) (g18) (g19) (.ref a4) (g20) (g21) (g22) (g23) (g24) (g25) (g26) (g27) (g28) (g29) (g30) (g31) (g32) (g33) q_q H.size o152 eo152) (cwV 1 hts gfX12_asker_4 rfl rfl rfl (by decide +kernel) ⟨(Nat.le_of_ble_eq_true rfl), (Nat.le_of_ble_eq_true rfl)⟩) (PV (hP.sub (ws' := ((a0, .inr (9, [.int 0, .int m_t.2.1, .int m_t.2.2, .ref a3, g9, g10, g11, g12, g13, g14, g15, g16, g17, g18, g19, .ref a4, g20, g21, g22, g23, g24, g25, g26, g27, g28, g29, g30, g31, g32, g33])) :: bX11 a3 uq kq q_q [])) [1, 2, 3, 4, 5, 6, 7, 8, 9, 10, 11, 12, 13, 14, 15, 16] rfl) (hK.sub (tys' := (tX11 kq ([]))) [0, 1, 2, 3, 4, 5, 6, 7, 8, 9, 10, 11, 12, 13] rfl) (hD.sub (ws' := ((a0, .inr (9, [.int 0, .int m_t.2.1, .int m_t.2.2, .ref a3, g9, g10, g11, g12, g13, g14, g15, g16, g17, g18, g19, .ref a4, g20, g21, g22, g23, g24, g25, g26, g27, g28, g29, g30, g31, g32, g33])) :: bX11 a3 uq kq q_q [])) [1, 2, 3, 4, 5, 6, 7, 8, 9, 10, 11, 12, 13, 14, 15, 16] (by decide) rfl) hN 0 rfl rfl) rfl rfl hl.1 rfl (lv_room (Nat.le_of_ble_eq_true rfl)) dX12_asker_152 ⟨(Nat.le_of_ble_eq_true rfl), (Nat.le_of_ble_eq_true rfl)⟩) hP hD hK hS hA [1, 2, 3, 4, 5, 6, 7, 8, 9, 10, 11, 12, 13, 14, 15, 16] [0] rfl rfl (by decide) (by decide) (fun r152 _ H locs hw hP hD _ hS => ?_)
                obtain rfl := hw.symm
                have hP : va_P (dC, dI) vwCl ((a4, .inl (cB35, 26, .inl m_v)) :: (a0, .inr (9, [.int 0, .int m_t.2.1, .int m_t.2.2, .ref a3, g9, g10, g11, g12, g13, g14, g15, g16, g17, g18, g19, .ref a4, g20, g21, g22, g23, g24, g25, g26, g27, g28, g29, g30, g31, g32, g33])) :: bX11 a3 uq kq q_q []) H := hP
                have hD : va_D A ((a4, .inl (cB35, 26, .inl m_v)) :: (a0, .inr (9, [.int 0, .int m_t.2.1, .int m_t.2.2, .ref a3, g9, g10, g11, g12, g13, g14, g15, g16, g17, g18, g19, .ref a4, g20, g21, g22, g23, g24, g25, g26, g27, g28, g29, g30, g31, g32, g33])) :: bX11 a3 uq kq q_q []) := hD
                exact J155 o152 H _ ls h  hP hD hS (lv_sub hl [] rfl)
              · have h := (if_pos c142).symm.trans h
                refine lv_bipush (v := (-2)) hx hb dX12_asker_145 (by decide) ?_
                refine lv_goto (tgt := 155) hx hb dX12_asker_147 (by decide) ?_
                exact J155 (-2 : Int32) H _ ls h  hP hD hS (lv_sub hl [] rfl)
            have h := (if_neg c90_1).symm.trans h
            by_cases c90_2 : k2 = 2
            · have h := (if_pos c90_2).symm.trans h
              refine lv_tableIn (tgt := 159) hx hb dX12_asker_90 (by rw [c90_2]; decide) (by rw [c90_2]; decide) (by rw [c90_2]; rfl) (by decide) ?_
              refine lv_aload_n hx hb dX12_asker_159 rfl (lv_at hl 3 rfl) ?_
              refine lv_iload_n hx hb dX12_asker_160 rfl (lv_at hl 2 rfl) ?_
              refine lv_bipush (v := (-2)) hx hb dX12_asker_161 (by decide) ?_
              have J176 : ∀ (v176_t1 : Int32) (H : Heap) (locs : List Loc) (ls : Array Slot), f_X12_asker_J176 m_t v176_t1 = some out → va_P (dC, dI) vwCl ((a4, .inl (cB35, 26, .inl m_v)) :: (a0, .inr (9, [.int 0, .int m_t.2.1, .int m_t.2.2, .ref a3, g9, g10, g11, g12, g13, g14, g15, g16, g17, g18, g19, .ref a4, g20, g21, g22, g23, g24, g25, g26, g27, g28, g29, g30, g31, g32, g33])) :: bX11 a3 uq kq q_q []) H → va_D A ((a4, .inl (cB35, 26, .inl m_v)) :: (a0, .inr (9, [.int 0, .int m_t.2.1, .int m_t.2.2, .ref a3, g9, g10, g11, g12, g13, g14, g15, g16, g17, g18, g19, .ref a4, g20, g21, g22, g23, g24, g25, g26, g27, g28, g29, g30, g31, g32, g33])) :: bX11 a3 uq kq q_q []) → va_S A s.heap H locs → lv_has ls 6 [] → W p l e (headSpec vfX12_asker { frames := 3, cells := 0, slots := 0, locals := 68 }).room s m ([.ref a0, .int k1, .int k2]).toArray below meth c H locs 0 0 QQ (F0 m 176 ls [.int v176_t1, .ref a0]) := by
                intro v176_t1 H locs ls h  hP hD hS hl
                rw [f_X12_asker_J176] at h
                obtain ⟨o176, eo176⟩ : ∃ o, o = f_X12_good v176_t1 ((0 : Int32), m_t.2) := ⟨_, rfl⟩
                have h := nm_of h o176 eo176
                refine cl_i (wc := ([(a0, .inr (9, [.int 0, .int m_t.2.1, .int m_t.2.2, .ref a3, g9, g10, g11, g12, g13, g14, g15, g16, g17, g18, g19, .ref a4, g20, g21, g22, g23, g24, g25, g26, g27, g28, g29, g30, g31, g32, g33]))])) (wr := ((a4, .inl (cB35, 26, .inl m_v)) :: bX11 a3 uq kq q_q [])) (va_runV (As := [.int v176_t1]) (rest := []) ⟨hx, hb, hml, hown, hts⟩ (kfX12_good l dC dI a0 v176_t1 ((0 : Int32), m_t.2) (.ref a3) (g9) (g10) (g11) (g12) (g13) (g14) (g15) (g16) (g17) (g18) (g19) (.ref a4) (g20) (g21) (g22) (g23) (g24) (g25) (g26) (g27) (g28) (g29) (g30) (g31) (g32) (g33) H.size o176 eo176.symm) (cwV 1 hts gfX12_asker_3 rfl rfl rfl (by decide +kernel) ⟨(Nat.le_of_ble_eq_true rfl), (Nat.le_of_ble_eq_true rfl)⟩) (PV (hP.sub (ws' := ([(a0, .inr (9, [.int 0, .int m_t.2.1, .int m_t.2.2, .ref a3, g9, g10, g11, g12, g13, g14, g15, g16, g17, g18, g19, .ref a4, g20, g21, g22, g23, g24, g25, g26, g27, g28, g29, g30, g31, g32, g33]))])) [1] rfl) (hK.sub (tys' := ([])) [] rfl) (hD.sub (ws' := ([(a0, .inr (9, [.int 0, .int m_t.2.1, .int m_t.2.2, .ref a3, g9, g10, g11, g12, g13, g14, g15, g16, g17, g18, g19, .ref a4, g20, g21, g22, g23, g24, g25, g26, g27, g28, g29, g30, g31, g32, g33]))])) [1] (by decide) rfl) hN 0 rfl rfl) rfl rfl hl.1 rfl (lv_room (Nat.le_of_ble_eq_true rfl)) dX12_asker_176 ⟨(Nat.le_of_ble_eq_true rfl), (Nat.le_of_ble_eq_true rfl)⟩) hP hD hK hS hA [1] [0, 2, 3, 4, 5, 6, 7, 8, 9, 10, 11, 12, 13, 14, 15, 16] rfl rfl (by decide) (by decide) (fun r176 _ H locs hw hP hD _ hS => ?_)
                obtain rfl := hw
                have hP : va_P (dC, dI) vwCl ((a4, .inl (cB35, 26, .inl m_v)) :: bX11 a3 uq kq q_q ([(a0, .inr (9, [.int o176.2.1, .int o176.2.2.1, .int o176.2.2.2, .ref a3, g9, g10, g11, g12, g13, g14, g15, g16, g17, g18, g19, .ref a4, g20, g21, g22, g23, g24, g25, g26, g27, g28, g29, g30, g31, g32, g33]))])) H := hP
                have hD : va_D A ((a4, .inl (cB35, 26, .inl m_v)) :: bX11 a3 uq kq q_q ([(a0, .inr (9, [.int o176.2.1, .int o176.2.2.1, .int o176.2.2.2, .ref a3, g9, g10, g11, g12, g13, g14, g15, g16, g17, g18, g19, .ref a4, g20, g21, g22, g23, g24, g25, g26, g27, g28, g29, g30, g31, g32, g33]))])) := hD
                obtain rfl := Option.some.inj h
                have hP9 := hP.sub (ws' := ((a0, .inr (9, [.int o176.2.1, .int o176.2.2.1, .int o176.2.2.2, .ref a3, g9, g10, g11, g12, g13, g14, g15, g16, g17, g18, g19, .ref a4, g20, g21, g22, g23, g24, g25, g26, g27, g28, g29, g30, g31, g32, g33])) :: bX11 a3 uq kq q_q ([(a4, .inl (cB35, 26, .inl m_v))]))) [16, 1, 2, 3, 4, 5, 6, 7, 8, 9, 10, 11, 12, 13, 14, 15, 0] rfl
                have hD9 := hD.sub (ws' := ((a0, .inr (9, [.int o176.2.1, .int o176.2.2.1, .int o176.2.2.2, .ref a3, g9, g10, g11, g12, g13, g14, g15, g16, g17, g18, g19, .ref a4, g20, g21, g22, g23, g24, g25, g26, g27, g28, g29, g30, g31, g32, g33])) :: bX11 a3 uq kq q_q ([(a4, .inl (cB35, 26, .inl m_v))]))) [16, 1, 2, 3, 4, 5, 6, 7, 8, 9, 10, 11, 12, 13, 14, 15, 0] (by decide) rfl
                have hK9 := hK.sub (tys' := []) [] rfl
                rw [hQQ]
                exact W.iret (v := o176.1) hx hb hr (fun t ht hW => ⟨⟨o176.1, (), rfl, rfl, by rw [ht]; exact hP9, va_K.moved hW.alike hK9, hD9⟩, hS.F ht⟩) hS.2.2 dX12_asker_179
              refine lv_icmp_ne (tgt := 171) hx hb dX12_asker_163 (by decide) (fun c163 => ?_) (fun c163 => ?_)
              · have h := (if_neg c163).symm.trans h
                refine lv_aload_n hx hb dX12_asker_171 rfl (lv_at hl 3 rfl) ?_
                refine lv_iload_n hx hb dX12_asker_172 rfl (lv_at hl 2 rfl) ?_
                obtain ⟨o173, eo173, h⟩ := bd_of h
                refine cl_i (wc := ((a0, .inr (9, [.int 0, .int m_t.2.1, .int m_t.2.2, .ref a3, g9, g10, g11, g12, g13, g14, g15, g16, g17, g18, g19, .ref a4, g20, g21, g22, g23, g24, g25, g26, g27, g28, g29, g30, g31, g32, g33])) :: bX11 a3 uq kq q_q [])) (wr := ([(a4, .inl (cB35, 26, .inl m_v))])) (va_runV (As := [.int (m_v (((18 : Int32) + k1)).toNatClampNeg)]) (rest := [.ref a0]) ⟨hx, hb, hml, hown, hts⟩ (kfX12_fathomsOf l dC dI a0 (m_v (((18 : Int32) + k1)).toNatClampNeg) a3 uq kq (.int 0) (.int m_t.2.1) (.int m_t.2.2) (g9) (g10) (g11) (g12) (g13) (g14) (g15) (g16) (g17) (g18) (g19) (.ref a4) (g20) (g21) (g22) (g23) (g24) (g25) (g26) (g27) (g28) (g29) (g30) (g31) (g32) (g33) q_q H.size o173 eo173) (cwV 1 hts gfX12_asker_5 rfl rfl rfl (by decide +kernel) ⟨(Nat.le_of_ble_eq_true rfl), (Nat.le_of_ble_eq_true rfl)⟩) (PV (hP.sub (ws' := ((a0, .inr (9, [.int 0, .int m_t.2.1, .int m_t.2.2, .ref a3, g9, g10, g11, g12, g13, g14, g15, g16, g17, g18, g19, .ref a4, g20, g21, g22, g23, g24, g25, g26, g27, g28, g29, g30, g31, g32, g33])) :: bX11 a3 uq kq q_q [])) [1, 2, 3, 4, 5, 6, 7, 8, 9, 10, 11, 12, 13, 14, 15, 16] rfl) (hK.sub (tys' := (tX11 kq ([]))) [0, 1, 2, 3, 4, 5, 6, 7, 8, 9, 10, 11, 12, 13] rfl) (hD.sub (ws' := ((a0, .inr (9, [.int 0, .int m_t.2.1, .int m_t.2.2, .ref a3, g9, g10, g11, g12, g13, g14, g15, g16, g17, g18, g19, .ref a4, g20, g21, g22, g23, g24, g25, g26, g27, g28, g29, g30, g31, g32, g33])) :: bX11 a3 uq kq q_q [])) [1, 2, 3, 4, 5, 6, 7, 8, 9, 10, 11, 12, 13, 14, 15, 16] (by decide) rfl) hN 0 rfl rfl) rfl rfl hl.1 rfl (lv_room (Nat.le_of_ble_eq_true rfl)) dX12_asker_173 ⟨(Nat.le_of_ble_eq_true rfl), (Nat.le_of_ble_eq_true rfl)⟩) hP hD hK hS hA [1, 2, 3, 4, 5, 6, 7, 8, 9, 10, 11, 12, 13, 14, 15, 16] [0] rfl rfl (by decide) (by decide) (fun r173 _ H locs hw hP hD _ hS => ?_)
                obtain rfl := hw.symm
                have hP : va_P (dC, dI) vwCl ((a4, .inl (cB35, 26, .inl m_v)) :: (a0, .inr (9, [.int 0, .int m_t.2.1, .int m_t.2.2, .ref a3, g9, g10, g11, g12, g13, g14, g15, g16, g17, g18, g19, .ref a4, g20, g21, g22, g23, g24, g25, g26, g27, g28, g29, g30, g31, g32, g33])) :: bX11 a3 uq kq q_q []) H := hP
                have hD : va_D A ((a4, .inl (cB35, 26, .inl m_v)) :: (a0, .inr (9, [.int 0, .int m_t.2.1, .int m_t.2.2, .ref a3, g9, g10, g11, g12, g13, g14, g15, g16, g17, g18, g19, .ref a4, g20, g21, g22, g23, g24, g25, g26, g27, g28, g29, g30, g31, g32, g33])) :: bX11 a3 uq kq q_q []) := hD
                exact J176 o173 H _ ls h  hP hD hS (lv_sub hl [] rfl)
              · have h := (if_pos c163).symm.trans h
                refine lv_bipush (v := (-2)) hx hb dX12_asker_166 (by decide) ?_
                refine lv_goto (tgt := 176) hx hb dX12_asker_168 (by decide) ?_
                exact J176 (-2 : Int32) H _ ls h  hP hD hS (lv_sub hl [] rfl)
            have h := (if_neg c90_2).symm.trans h
            by_cases c90_3 : k2 = 3
            · have h := (if_pos c90_3).symm.trans h
              refine lv_tableIn (tgt := 180) hx hb dX12_asker_90 (by rw [c90_3]; decide) (by rw [c90_3]; decide) (by rw [c90_3]; rfl) (by decide) ?_
              refine lv_aload_n hx hb dX12_asker_180 rfl (lv_at hl 3 rfl) ?_
              refine lv_iload_n hx hb dX12_asker_181 rfl (lv_at hl 2 rfl) ?_
              refine lv_bipush (v := (-2)) hx hb dX12_asker_182 (by decide) ?_
              have J197 : ∀ (v197_t1 : Int32) (H : Heap) (locs : List Loc) (ls : Array Slot), f_X12_asker_J197 m_t v197_t1 = some out → va_P (dC, dI) vwCl ((a4, .inl (cB35, 26, .inl m_v)) :: (a0, .inr (9, [.int 0, .int m_t.2.1, .int m_t.2.2, .ref a3, g9, g10, g11, g12, g13, g14, g15, g16, g17, g18, g19, .ref a4, g20, g21, g22, g23, g24, g25, g26, g27, g28, g29, g30, g31, g32, g33])) :: bX11 a3 uq kq q_q []) H → va_D A ((a4, .inl (cB35, 26, .inl m_v)) :: (a0, .inr (9, [.int 0, .int m_t.2.1, .int m_t.2.2, .ref a3, g9, g10, g11, g12, g13, g14, g15, g16, g17, g18, g19, .ref a4, g20, g21, g22, g23, g24, g25, g26, g27, g28, g29, g30, g31, g32, g33])) :: bX11 a3 uq kq q_q []) → va_S A s.heap H locs → lv_has ls 6 [] → W p l e (headSpec vfX12_asker { frames := 3, cells := 0, slots := 0, locals := 68 }).room s m ([.ref a0, .int k1, .int k2]).toArray below meth c H locs 0 0 QQ (F0 m 197 ls [.int v197_t1, .ref a0]) := by
                intro v197_t1 H locs ls h  hP hD hS hl
                rw [f_X12_asker_J197] at h
                obtain ⟨o197, eo197⟩ : ∃ o, o = f_X12_good v197_t1 ((0 : Int32), m_t.2) := ⟨_, rfl⟩
                have h := nm_of h o197 eo197
                refine cl_i (wc := ([(a0, .inr (9, [.int 0, .int m_t.2.1, .int m_t.2.2, .ref a3, g9, g10, g11, g12, g13, g14, g15, g16, g17, g18, g19, .ref a4, g20, g21, g22, g23, g24, g25, g26, g27, g28, g29, g30, g31, g32, g33]))])) (wr := ((a4, .inl (cB35, 26, .inl m_v)) :: bX11 a3 uq kq q_q [])) (va_runV (As := [.int v197_t1]) (rest := []) ⟨hx, hb, hml, hown, hts⟩ (kfX12_good l dC dI a0 v197_t1 ((0 : Int32), m_t.2) (.ref a3) (g9) (g10) (g11) (g12) (g13) (g14) (g15) (g16) (g17) (g18) (g19) (.ref a4) (g20) (g21) (g22) (g23) (g24) (g25) (g26) (g27) (g28) (g29) (g30) (g31) (g32) (g33) H.size o197 eo197.symm) (cwV 1 hts gfX12_asker_3 rfl rfl rfl (by decide +kernel) ⟨(Nat.le_of_ble_eq_true rfl), (Nat.le_of_ble_eq_true rfl)⟩) (PV (hP.sub (ws' := ([(a0, .inr (9, [.int 0, .int m_t.2.1, .int m_t.2.2, .ref a3, g9, g10, g11, g12, g13, g14, g15, g16, g17, g18, g19, .ref a4, g20, g21, g22, g23, g24, g25, g26, g27, g28, g29, g30, g31, g32, g33]))])) [1] rfl) (hK.sub (tys' := ([])) [] rfl) (hD.sub (ws' := ([(a0, .inr (9, [.int 0, .int m_t.2.1, .int m_t.2.2, .ref a3, g9, g10, g11, g12, g13, g14, g15, g16, g17, g18, g19, .ref a4, g20, g21, g22, g23, g24, g25, g26, g27, g28, g29, g30, g31, g32, g33]))])) [1] (by decide) rfl) hN 0 rfl rfl) rfl rfl hl.1 rfl (lv_room (Nat.le_of_ble_eq_true rfl)) dX12_asker_197 ⟨(Nat.le_of_ble_eq_true rfl), (Nat.le_of_ble_eq_true rfl)⟩) hP hD hK hS hA [1] [0, 2, 3, 4, 5, 6, 7, 8, 9, 10, 11, 12, 13, 14, 15, 16] rfl rfl (by decide) (by decide) (fun r197 _ H locs hw hP hD _ hS => ?_)
                obtain rfl := hw
                have hP : va_P (dC, dI) vwCl ((a4, .inl (cB35, 26, .inl m_v)) :: bX11 a3 uq kq q_q ([(a0, .inr (9, [.int o197.2.1, .int o197.2.2.1, .int o197.2.2.2, .ref a3, g9, g10, g11, g12, g13, g14, g15, g16, g17, g18, g19, .ref a4, g20, g21, g22, g23, g24, g25, g26, g27, g28, g29, g30, g31, g32, g33]))])) H := hP
                have hD : va_D A ((a4, .inl (cB35, 26, .inl m_v)) :: bX11 a3 uq kq q_q ([(a0, .inr (9, [.int o197.2.1, .int o197.2.2.1, .int o197.2.2.2, .ref a3, g9, g10, g11, g12, g13, g14, g15, g16, g17, g18, g19, .ref a4, g20, g21, g22, g23, g24, g25, g26, g27, g28, g29, g30, g31, g32, g33]))])) := hD
                obtain rfl := Option.some.inj h
                have hP9 := hP.sub (ws' := ((a0, .inr (9, [.int o197.2.1, .int o197.2.2.1, .int o197.2.2.2, .ref a3, g9, g10, g11, g12, g13, g14, g15, g16, g17, g18, g19, .ref a4, g20, g21, g22, g23, g24, g25, g26, g27, g28, g29, g30, g31, g32, g33])) :: bX11 a3 uq kq q_q ([(a4, .inl (cB35, 26, .inl m_v))]))) [16, 1, 2, 3, 4, 5, 6, 7, 8, 9, 10, 11, 12, 13, 14, 15, 0] rfl
                have hD9 := hD.sub (ws' := ((a0, .inr (9, [.int o197.2.1, .int o197.2.2.1, .int o197.2.2.2, .ref a3, g9, g10, g11, g12, g13, g14, g15, g16, g17, g18, g19, .ref a4, g20, g21, g22, g23, g24, g25, g26, g27, g28, g29, g30, g31, g32, g33])) :: bX11 a3 uq kq q_q ([(a4, .inl (cB35, 26, .inl m_v))]))) [16, 1, 2, 3, 4, 5, 6, 7, 8, 9, 10, 11, 12, 13, 14, 15, 0] (by decide) rfl
                have hK9 := hK.sub (tys' := []) [] rfl
                rw [hQQ]
                exact W.iret (v := o197.1) hx hb hr (fun t ht hW => ⟨⟨o197.1, (), rfl, rfl, by rw [ht]; exact hP9, va_K.moved hW.alike hK9, hD9⟩, hS.F ht⟩) hS.2.2 dX12_asker_200
              refine lv_icmp_ne (tgt := 192) hx hb dX12_asker_184 (by decide) (fun c184 => ?_) (fun c184 => ?_)
              · have h := (if_neg c184).symm.trans h
                refine lv_aload_n hx hb dX12_asker_192 rfl (lv_at hl 3 rfl) ?_
                refine lv_iload_n hx hb dX12_asker_193 rfl (lv_at hl 2 rfl) ?_
                obtain ⟨o194, eo194, h⟩ := bd_of h
                refine cl_i (wc := ((a0, .inr (9, [.int 0, .int m_t.2.1, .int m_t.2.2, .ref a3, g9, g10, g11, g12, g13, g14, g15, g16, g17, g18, g19, .ref a4, g20, g21, g22, g23, g24, g25, g26, g27, g28, g29, g30, g31, g32, g33])) :: bX11 a3 uq kq q_q [])) (wr := ([(a4, .inl (cB35, 26, .inl m_v))])) (va_runV (As := [.int (m_v (((18 : Int32) + k1)).toNatClampNeg)]) (rest := [.ref a0]) ⟨hx, hb, hml, hown, hts⟩ (kfX12_baitOf l dC dI a0 (m_v (((18 : Int32) + k1)).toNatClampNeg) a3 uq kq (.int 0) (.int m_t.2.1) (.int m_t.2.2) (g9) (g10) (g11) (g12) (g13) (g14) (g15) (g16) (g17) (g18) (g19) (.ref a4) (g20) (g21) (g22) (g23) (g24) (g25) (g26) (g27) (g28) (g29) (g30) (g31) (g32) (g33) q_q H.size o194 eo194) (cwV 1 hts gfX12_asker_6 rfl rfl rfl (by decide +kernel) ⟨(Nat.le_of_ble_eq_true rfl), (Nat.le_of_ble_eq_true rfl)⟩) (PV (hP.sub (ws' := ((a0, .inr (9, [.int 0, .int m_t.2.1, .int m_t.2.2, .ref a3, g9, g10, g11, g12, g13, g14, g15, g16, g17, g18, g19, .ref a4, g20, g21, g22, g23, g24, g25, g26, g27, g28, g29, g30, g31, g32, g33])) :: bX11 a3 uq kq q_q [])) [1, 2, 3, 4, 5, 6, 7, 8, 9, 10, 11, 12, 13, 14, 15, 16] rfl) (hK.sub (tys' := (tX11 kq ([]))) [0, 1, 2, 3, 4, 5, 6, 7, 8, 9, 10, 11, 12, 13] rfl) (hD.sub (ws' := ((a0, .inr (9, [.int 0, .int m_t.2.1, .int m_t.2.2, .ref a3, g9, g10, g11, g12, g13, g14, g15, g16, g17, g18, g19, .ref a4, g20, g21, g22, g23, g24, g25, g26, g27, g28, g29, g30, g31, g32, g33])) :: bX11 a3 uq kq q_q [])) [1, 2, 3, 4, 5, 6, 7, 8, 9, 10, 11, 12, 13, 14, 15, 16] (by decide) rfl) hN 0 rfl rfl) rfl rfl hl.1 rfl (lv_room (Nat.le_of_ble_eq_true rfl)) dX12_asker_194 ⟨(Nat.le_of_ble_eq_true rfl), (Nat.le_of_ble_eq_true rfl)⟩) hP hD hK hS hA [1, 2, 3, 4, 5, 6, 7, 8, 9, 10, 11, 12, 13, 14, 15, 16] [0] rfl rfl (by decide) (by decide) (fun r194 _ H locs hw hP hD _ hS => ?_)
                obtain rfl := hw.symm
                have hP : va_P (dC, dI) vwCl ((a4, .inl (cB35, 26, .inl m_v)) :: (a0, .inr (9, [.int 0, .int m_t.2.1, .int m_t.2.2, .ref a3, g9, g10, g11, g12, g13, g14, g15, g16, g17, g18, g19, .ref a4, g20, g21, g22, g23, g24, g25, g26, g27, g28, g29, g30, g31, g32, g33])) :: bX11 a3 uq kq q_q []) H := hP
                have hD : va_D A ((a4, .inl (cB35, 26, .inl m_v)) :: (a0, .inr (9, [.int 0, .int m_t.2.1, .int m_t.2.2, .ref a3, g9, g10, g11, g12, g13, g14, g15, g16, g17, g18, g19, .ref a4, g20, g21, g22, g23, g24, g25, g26, g27, g28, g29, g30, g31, g32, g33])) :: bX11 a3 uq kq q_q []) := hD
                exact J197 o194 H _ ls h  hP hD hS (lv_sub hl [] rfl)
              · have h := (if_pos c184).symm.trans h
                refine lv_bipush (v := (-2)) hx hb dX12_asker_187 (by decide) ?_
                refine lv_goto (tgt := 197) hx hb dX12_asker_189 (by decide) ?_
                exact J197 (-2 : Int32) H _ ls h  hP hD hS (lv_sub hl [] rfl)
            have h := (if_neg c90_3).symm.trans h
            by_cases c90_4 : k2 = 4
            · have h := (if_pos c90_4).symm.trans h
              refine lv_tableIn (tgt := 201) hx hb dX12_asker_90 (by rw [c90_4]; decide) (by rw [c90_4]; decide) (by rw [c90_4]; rfl) (by decide) ?_
              refine lv_aload_n hx hb dX12_asker_201 rfl (lv_at hl 3 rfl) ?_
              refine lv_iload hx hb dX12_asker_202 (lv_at hl 1 rfl) ?_
              obtain ⟨o204, eo204⟩ : ∃ o, o = f_X12_good v44_l4 ((0 : Int32), m_t.2) := ⟨_, rfl⟩
              have h := nm_of h o204 eo204
              refine cl_i (wc := ([(a0, .inr (9, [.int 0, .int m_t.2.1, .int m_t.2.2, .ref a3, g9, g10, g11, g12, g13, g14, g15, g16, g17, g18, g19, .ref a4, g20, g21, g22, g23, g24, g25, g26, g27, g28, g29, g30, g31, g32, g33]))])) (wr := ((a4, .inl (cB35, 26, .inl m_v)) :: bX11 a3 uq kq q_q [])) (va_runV (As := [.int v44_l4]) (rest := []) ⟨hx, hb, hml, hown, hts⟩ (kfX12_good l dC dI a0 v44_l4 ((0 : Int32), m_t.2) (.ref a3) (g9) (g10) (g11) (g12) (g13) (g14) (g15) (g16) (g17) (g18) (g19) (.ref a4) (g20) (g21) (g22) (g23) (g24) (g25) (g26) (g27) (g28) (g29) (g30) (g31) (g32) (g33) H.size o204 eo204.symm) (cwV 1 hts gfX12_asker_3 rfl rfl rfl (by decide +kernel) ⟨(Nat.le_of_ble_eq_true rfl), (Nat.le_of_ble_eq_true rfl)⟩) (PV (hP.sub (ws' := ([(a0, .inr (9, [.int 0, .int m_t.2.1, .int m_t.2.2, .ref a3, g9, g10, g11, g12, g13, g14, g15, g16, g17, g18, g19, .ref a4, g20, g21, g22, g23, g24, g25, g26, g27, g28, g29, g30, g31, g32, g33]))])) [1] rfl) (hK.sub (tys' := ([])) [] rfl) (hD.sub (ws' := ([(a0, .inr (9, [.int 0, .int m_t.2.1, .int m_t.2.2, .ref a3, g9, g10, g11, g12, g13, g14, g15, g16, g17, g18, g19, .ref a4, g20, g21, g22, g23, g24, g25, g26, g27, g28, g29, g30, g31, g32, g33]))])) [1] (by decide) rfl) hN 0 rfl rfl) rfl rfl hl.1 rfl (lv_room (Nat.le_of_ble_eq_true rfl)) dX12_asker_204 ⟨(Nat.le_of_ble_eq_true rfl), (Nat.le_of_ble_eq_true rfl)⟩) hP hD hK hS hA [1] [0, 2, 3, 4, 5, 6, 7, 8, 9, 10, 11, 12, 13, 14, 15, 16] rfl rfl (by decide) (by decide) (fun r204 _ H locs hw hP hD _ hS => ?_)
              obtain rfl := hw
              have hP : va_P (dC, dI) vwCl ((a4, .inl (cB35, 26, .inl m_v)) :: bX11 a3 uq kq q_q ([(a0, .inr (9, [.int o204.2.1, .int o204.2.2.1, .int o204.2.2.2, .ref a3, g9, g10, g11, g12, g13, g14, g15, g16, g17, g18, g19, .ref a4, g20, g21, g22, g23, g24, g25, g26, g27, g28, g29, g30, g31, g32, g33]))])) H := hP
              have hD : va_D A ((a4, .inl (cB35, 26, .inl m_v)) :: bX11 a3 uq kq q_q ([(a0, .inr (9, [.int o204.2.1, .int o204.2.2.1, .int o204.2.2.2, .ref a3, g9, g10, g11, g12, g13, g14, g15, g16, g17, g18, g19, .ref a4, g20, g21, g22, g23, g24, g25, g26, g27, g28, g29, g30, g31, g32, g33]))])) := hD
              obtain rfl := Option.some.inj h
              have hP9 := hP.sub (ws' := ((a0, .inr (9, [.int o204.2.1, .int o204.2.2.1, .int o204.2.2.2, .ref a3, g9, g10, g11, g12, g13, g14, g15, g16, g17, g18, g19, .ref a4, g20, g21, g22, g23, g24, g25, g26, g27, g28, g29, g30, g31, g32, g33])) :: bX11 a3 uq kq q_q ([(a4, .inl (cB35, 26, .inl m_v))]))) [16, 1, 2, 3, 4, 5, 6, 7, 8, 9, 10, 11, 12, 13, 14, 15, 0] rfl
              have hD9 := hD.sub (ws' := ((a0, .inr (9, [.int o204.2.1, .int o204.2.2.1, .int o204.2.2.2, .ref a3, g9, g10, g11, g12, g13, g14, g15, g16, g17, g18, g19, .ref a4, g20, g21, g22, g23, g24, g25, g26, g27, g28, g29, g30, g31, g32, g33])) :: bX11 a3 uq kq q_q ([(a4, .inl (cB35, 26, .inl m_v))]))) [16, 1, 2, 3, 4, 5, 6, 7, 8, 9, 10, 11, 12, 13, 14, 15, 0] (by decide) rfl
              have hK9 := hK.sub (tys' := []) [] rfl
              rw [hQQ]
              exact W.iret (v := o204.1) hx hb hr (fun t ht hW => ⟨⟨o204.1, (), rfl, rfl, by rw [ht]; exact hP9, va_K.moved hW.alike hK9, hD9⟩, hS.F ht⟩) hS.2.2 dX12_asker_207
            have h := (if_neg c90_4).symm.trans h
            refine lv_tableOut (tgt := 208) hx hb dX12_asker_90 (by simp only [fa_eq, ltv_0, ltv_1, ltv_2, ltv_3, ltv_4] at c90_0 c90_1 c90_2 c90_3 c90_4; omega) (by decide) ?_
            refine lv_aload_n hx hb dX12_asker_208 rfl (lv_at hl 3 rfl) ?_
            refine lv_iload_n hx hb dX12_asker_209 rfl (lv_at hl 2 rfl) ?_
            refine lv_bipush (v := (-2)) hx hb dX12_asker_210 (by decide) ?_
            have J232 : ∀ (v232_t1 : Int32) (H : Heap) (locs : List Loc) (ls : Array Slot), f_X12_asker_J232 m_t v232_t1 = some out → 0 ≤ v232_t1.toInt ∧ v232_t1.toInt ≤ 1 → va_P (dC, dI) vwCl ((a0, .inr (9, [.int 0, .int m_t.2.1, .int m_t.2.2, .ref a3, g9, g10, g11, g12, g13, g14, g15, g16, g17, g18, g19, .ref a4, g20, g21, g22, g23, g24, g25, g26, g27, g28, g29, g30, g31, g32, g33])) :: bX11 a3 uq kq q_q ([(a4, .inl (cB35, 26, .inl m_v))])) H → va_D A ((a0, .inr (9, [.int 0, .int m_t.2.1, .int m_t.2.2, .ref a3, g9, g10, g11, g12, g13, g14, g15, g16, g17, g18, g19, .ref a4, g20, g21, g22, g23, g24, g25, g26, g27, g28, g29, g30, g31, g32, g33])) :: bX11 a3 uq kq q_q ([(a4, .inl (cB35, 26, .inl m_v))])) → va_S A s.heap H locs → lv_has ls 6 [] → W p l e (headSpec vfX12_asker { frames := 3, cells := 0, slots := 0, locals := 68 }).room s m ([.ref a0, .int k1, .int k2]).toArray below meth c H locs 0 0 QQ (F0 m 232 ls [.int v232_t1, .ref a0]) := by
              intro v232_t1 H locs ls h zb_v232_t1 hP hD hS hl
              rw [f_X12_asker_J232] at h
              obtain ⟨o232, eo232⟩ : ∃ o, o = f_X12_good v232_t1 ((0 : Int32), m_t.2) := ⟨_, rfl⟩
              have h := nm_of h o232 eo232
              refine cl_i (wc := ([(a0, .inr (9, [.int 0, .int m_t.2.1, .int m_t.2.2, .ref a3, g9, g10, g11, g12, g13, g14, g15, g16, g17, g18, g19, .ref a4, g20, g21, g22, g23, g24, g25, g26, g27, g28, g29, g30, g31, g32, g33]))])) (wr := (bX11 a3 uq kq q_q ([(a4, .inl (cB35, 26, .inl m_v))]))) (va_runV (As := [.int v232_t1]) (rest := []) ⟨hx, hb, hml, hown, hts⟩ (kfX12_good l dC dI a0 v232_t1 ((0 : Int32), m_t.2) (.ref a3) (g9) (g10) (g11) (g12) (g13) (g14) (g15) (g16) (g17) (g18) (g19) (.ref a4) (g20) (g21) (g22) (g23) (g24) (g25) (g26) (g27) (g28) (g29) (g30) (g31) (g32) (g33) H.size o232 eo232.symm) (cwV 1 hts gfX12_asker_3 rfl rfl rfl (by decide +kernel) ⟨(Nat.le_of_ble_eq_true rfl), (Nat.le_of_ble_eq_true rfl)⟩) (PV (hP.sub (ws' := ([(a0, .inr (9, [.int 0, .int m_t.2.1, .int m_t.2.2, .ref a3, g9, g10, g11, g12, g13, g14, g15, g16, g17, g18, g19, .ref a4, g20, g21, g22, g23, g24, g25, g26, g27, g28, g29, g30, g31, g32, g33]))])) [0] rfl) (hK.sub (tys' := ([])) [] rfl) (hD.sub (ws' := ([(a0, .inr (9, [.int 0, .int m_t.2.1, .int m_t.2.2, .ref a3, g9, g10, g11, g12, g13, g14, g15, g16, g17, g18, g19, .ref a4, g20, g21, g22, g23, g24, g25, g26, g27, g28, g29, g30, g31, g32, g33]))])) [0] (by decide) rfl) hN 0 rfl rfl) rfl rfl hl.1 rfl (lv_room (Nat.le_of_ble_eq_true rfl)) dX12_asker_232 ⟨(Nat.le_of_ble_eq_true rfl), (Nat.le_of_ble_eq_true rfl)⟩) hP hD hK hS hA [0] [1, 2, 3, 4, 5, 6, 7, 8, 9, 10, 11, 12, 13, 14, 15, 16] rfl rfl (by decide) (by decide) (fun r232 _ H locs hw hP hD _ hS => ?_)
              obtain rfl := hw
              have hP : va_P (dC, dI) vwCl (bX11 a3 uq kq q_q ([(a4, .inl (cB35, 26, .inl m_v)), (a0, .inr (9, [.int o232.2.1, .int o232.2.2.1, .int o232.2.2.2, .ref a3, g9, g10, g11, g12, g13, g14, g15, g16, g17, g18, g19, .ref a4, g20, g21, g22, g23, g24, g25, g26, g27, g28, g29, g30, g31, g32, g33]))])) H := hP
              have hD : va_D A (bX11 a3 uq kq q_q ([(a4, .inl (cB35, 26, .inl m_v)), (a0, .inr (9, [.int o232.2.1, .int o232.2.2.1, .int o232.2.2.2, .ref a3, g9, g10, g11, g12, g13, g14, g15, g16, g17, g18, g19, .ref a4, g20, g21, g22, g23, g24, g25, g26, g27, g28, g29, g30, g31, g32, g33]))])) := hD
              obtain rfl := Option.some.inj h
              have hP9 := hP.sub (ws' := ((a0, .inr (9, [.int o232.2.1, .int o232.2.2.1, .int o232.2.2.2, .ref a3, g9, g10, g11, g12, g13, g14, g15, g16, g17, g18, g19, .ref a4, g20, g21, g22, g23, g24, g25, g26, g27, g28, g29, g30, g31, g32, g33])) :: bX11 a3 uq kq q_q ([(a4, .inl (cB35, 26, .inl m_v))]))) [16, 0, 1, 2, 3, 4, 5, 6, 7, 8, 9, 10, 11, 12, 13, 14, 15] rfl
              have hD9 := hD.sub (ws' := ((a0, .inr (9, [.int o232.2.1, .int o232.2.2.1, .int o232.2.2.2, .ref a3, g9, g10, g11, g12, g13, g14, g15, g16, g17, g18, g19, .ref a4, g20, g21, g22, g23, g24, g25, g26, g27, g28, g29, g30, g31, g32, g33])) :: bX11 a3 uq kq q_q ([(a4, .inl (cB35, 26, .inl m_v))]))) [16, 0, 1, 2, 3, 4, 5, 6, 7, 8, 9, 10, 11, 12, 13, 14, 15] (by decide) rfl
              have hK9 := hK.sub (tys' := []) [] rfl
              rw [hQQ]
              exact W.iret (v := o232.1) hx hb hr (fun t ht hW => ⟨⟨o232.1, (), rfl, rfl, by rw [ht]; exact hP9, va_K.moved hW.alike hK9, hD9⟩, hS.F ht⟩) hS.2.2 dX12_asker_235
            have J231 : ∀ (H : Heap) (locs : List Loc) (ls : Array Slot), f_X12_asker_J231 m_t = some out → va_P (dC, dI) vwCl ((a4, .inl (cB35, 26, .inl m_v)) :: (a0, .inr (9, [.int 0, .int m_t.2.1, .int m_t.2.2, .ref a3, g9, g10, g11, g12, g13, g14, g15, g16, g17, g18, g19, .ref a4, g20, g21, g22, g23, g24, g25, g26, g27, g28, g29, g30, g31, g32, g33])) :: bX11 a3 uq kq q_q []) H → va_D A ((a4, .inl (cB35, 26, .inl m_v)) :: (a0, .inr (9, [.int 0, .int m_t.2.1, .int m_t.2.2, .ref a3, g9, g10, g11, g12, g13, g14, g15, g16, g17, g18, g19, .ref a4, g20, g21, g22, g23, g24, g25, g26, g27, g28, g29, g30, g31, g32, g33])) :: bX11 a3 uq kq q_q []) → va_S A s.heap H locs → lv_has ls 6 [] → W p l e (headSpec vfX12_asker { frames := 3, cells := 0, slots := 0, locals := 68 }).room s m ([.ref a0, .int k1, .int k2]).toArray below meth c H locs 0 0 QQ (F0 m 231 ls [.ref a0]) := by
              intro  H locs ls h  hP hD hS hl
              rw [f_X12_asker_J231] at h
              refine lv_iconst (v := 0) hx hb dX12_asker_231 (by decide) ?_
              exact J232 (0 : Int32) H _ ls h (by decide) (hP.sub (ws' := ((a0, .inr (9, [.int 0, .int m_t.2.1, .int m_t.2.2, .ref a3, g9, g10, g11, g12, g13, g14, g15, g16, g17, g18, g19, .ref a4, g20, g21, g22, g23, g24, g25, g26, g27, g28, g29, g30, g31, g32, g33])) :: bX11 a3 uq kq q_q ([(a4, .inl (cB35, 26, .inl m_v))]))) [1, 2, 3, 4, 5, 6, 7, 8, 9, 10, 11, 12, 13, 14, 15, 16, 0] rfl) (hD.sub (ws' := ((a0, .inr (9, [.int 0, .int m_t.2.1, .int m_t.2.2, .ref a3, g9, g10, g11, g12, g13, g14, g15, g16, g17, g18, g19, .ref a4, g20, g21, g22, g23, g24, g25, g26, g27, g28, g29, g30, g31, g32, g33])) :: bX11 a3 uq kq q_q ([(a4, .inl (cB35, 26, .inl m_v))]))) [1, 2, 3, 4, 5, 6, 7, 8, 9, 10, 11, 12, 13, 14, 15, 16, 0] (by decide) rfl) hS (lv_sub hl [] rfl)
            refine lv_icmp_eq (tgt := 231) hx hb dX12_asker_212 (by decide) (fun c212 => ?_) (fun c212 => ?_)
            · have h := (if_pos c212).symm.trans h
              exact J231  H _ ls h  hP hD hS (lv_sub hl [] rfl)
            · have h := (if_neg c212).symm.trans h
              refine lv_aload_n hx hb dX12_asker_215 rfl (lv_at hl 3 rfl) ?_
              refine lv_aload_n hx hb dX12_asker_216 rfl (lv_at hl 3 rfl) ?_
              refine va_get (D := (dC, dI)) (ci := 9) (v := .ref a4) (C := RX12) (T := TX12) (N := 30) hx hb hts ifX12_asker_X12 hown hK hP 1 rfl rfl 15 (by decide) (hts (.fieldLink RX12 17 "HookPierModel" "v" "[I") (List.mem_of_getElem? (i := 17) rfl)) (fun _ h9 => h9) rfl dX12_asker_217 ?_
              refine lv_iload_n hx hb dX12_asker_220 rfl (lv_at hl 4 rfl) ?_
              obtain ⟨o221, eo221, h⟩ := bd_of h
              refine cl_i (wc := ((a0, .inr (9, [.int 0, .int m_t.2.1, .int m_t.2.2, .ref a3, g9, g10, g11, g12, g13, g14, g15, g16, g17, g18, g19, .ref a4, g20, g21, g22, g23, g24, g25, g26, g27, g28, g29, g30, g31, g32, g33])) :: bX11 a3 uq kq q_q ([(a4, .inl (cB35, 26, .inl m_v))]))) (wr := []) (va_runV (As := [.ref a4, .int k1]) (rest := [.ref a0]) ⟨hx, hb, hml, hown, hts⟩ (kfX12_isTangled l dC dI a0 a4 k1 a3 uq kq m_v (.int 0) (.int m_t.2.1) (.int m_t.2.2) (g9) (g10) (g11) (g12) (g13) (g14) (g15) (g16) (g17) (g18) (g19) (g20) (g21) (g22) (g23) (g24) (g25) (g26) (g27) (g28) (g29) (g30) (g31) (g32) (g33) q_q cB35 H.size o221 eo221) (cwV 2 hts gfX12_asker_7 rfl rfl rfl (by decide +kernel) ⟨(Nat.le_of_ble_eq_true rfl), (Nat.le_of_ble_eq_true rfl)⟩) (PV (hP.sub (ws' := ((a0, .inr (9, [.int 0, .int m_t.2.1, .int m_t.2.2, .ref a3, g9, g10, g11, g12, g13, g14, g15, g16, g17, g18, g19, .ref a4, g20, g21, g22, g23, g24, g25, g26, g27, g28, g29, g30, g31, g32, g33])) :: bX11 a3 uq kq q_q ([(a4, .inl (cB35, 26, .inl m_v))]))) [1, 2, 3, 4, 5, 6, 7, 8, 9, 10, 11, 12, 13, 14, 15, 16, 0] rfl) (hK.sub (tys' := (tX11 kq ((cB35, .int) :: []))) [0, 1, 2, 3, 4, 5, 6, 7, 8, 9, 10, 11, 12, 13, 14] rfl) (hD.sub (ws' := ((a0, .inr (9, [.int 0, .int m_t.2.1, .int m_t.2.2, .ref a3, g9, g10, g11, g12, g13, g14, g15, g16, g17, g18, g19, .ref a4, g20, g21, g22, g23, g24, g25, g26, g27, g28, g29, g30, g31, g32, g33])) :: bX11 a3 uq kq q_q ([(a4, .inl (cB35, 26, .inl m_v))]))) [1, 2, 3, 4, 5, 6, 7, 8, 9, 10, 11, 12, 13, 14, 15, 16, 0] (by decide) rfl) hN 0 rfl rfl) rfl rfl hl.1 rfl (lv_room (Nat.le_of_ble_eq_true rfl)) dX12_asker_221 ⟨(Nat.le_of_ble_eq_true rfl), (Nat.le_of_ble_eq_true rfl)⟩) hP hD hK hS hA [1, 2, 3, 4, 5, 6, 7, 8, 9, 10, 11, 12, 13, 14, 15, 16, 0] [] rfl rfl (by decide) (by decide) (fun r221 _ H locs hw hP hD _ hS => ?_)
              obtain ⟨hw, br221⟩ := hw
              obtain rfl := hw.symm
              have hP : va_P (dC, dI) vwCl ((a0, .inr (9, [.int 0, .int m_t.2.1, .int m_t.2.2, .ref a3, g9, g10, g11, g12, g13, g14, g15, g16, g17, g18, g19, .ref a4, g20, g21, g22, g23, g24, g25, g26, g27, g28, g29, g30, g31, g32, g33])) :: bX11 a3 uq kq q_q ([(a4, .inl (cB35, 26, .inl m_v))])) H := hP
              have hD : va_D A ((a0, .inr (9, [.int 0, .int m_t.2.1, .int m_t.2.2, .ref a3, g9, g10, g11, g12, g13, g14, g15, g16, g17, g18, g19, .ref a4, g20, g21, g22, g23, g24, g25, g26, g27, g28, g29, g30, g31, g32, g33])) :: bX11 a3 uq kq q_q ([(a4, .inl (cB35, 26, .inl m_v))])) := hD
              refine lv_if_eq (tgt := 231) hx hb dX12_asker_224 (by decide) (fun c224 => ?_) (fun c224 => ?_)
              · have h := (if_pos c224).symm.trans h
                exact J231  H _ ls h  (hP.sub (ws' := ((a4, .inl (cB35, 26, .inl m_v)) :: (a0, .inr (9, [.int 0, .int m_t.2.1, .int m_t.2.2, .ref a3, g9, g10, g11, g12, g13, g14, g15, g16, g17, g18, g19, .ref a4, g20, g21, g22, g23, g24, g25, g26, g27, g28, g29, g30, g31, g32, g33])) :: bX11 a3 uq kq q_q [])) [16, 0, 1, 2, 3, 4, 5, 6, 7, 8, 9, 10, 11, 12, 13, 14, 15] rfl) (hD.sub (ws' := ((a4, .inl (cB35, 26, .inl m_v)) :: (a0, .inr (9, [.int 0, .int m_t.2.1, .int m_t.2.2, .ref a3, g9, g10, g11, g12, g13, g14, g15, g16, g17, g18, g19, .ref a4, g20, g21, g22, g23, g24, g25, g26, g27, g28, g29, g30, g31, g32, g33])) :: bX11 a3 uq kq q_q [])) [16, 0, 1, 2, 3, 4, 5, 6, 7, 8, 9, 10, 11, 12, 13, 14, 15] (by decide) rfl) hS (lv_sub hl [] rfl)
              · have h := (if_neg c224).symm.trans h
                refine lv_iconst (v := 1) hx hb dX12_asker_227 (by decide) ?_
                refine lv_goto (tgt := 232) hx hb dX12_asker_228 (by decide) ?_
                exact J232 (1 : Int32) H _ ls h (by decide) hP hD hS (lv_sub hl [] rfl)
          · have h := (if_neg c53).symm.trans h
            refine lv_iload hx hb dX12_asker_56 (lv_at hl 1 rfl) ?_
            refine lv_aload_n hx hb dX12_asker_58 rfl (lv_at hl 3 rfl) ?_
            refine va_get (D := (dC, dI)) (ci := 9) (v := .ref a4) (C := RX12) (T := TX12) (N := 30) hx hb hts ifX12_asker_X12 hown hK hP 1 rfl rfl 15 (by decide) (hts (.fieldLink RX12 17 "HookPierModel" "v" "[I") (List.mem_of_getElem? (i := 17) rfl)) (fun _ h9 => h9) rfl dX12_asker_59 ?_
            refine lv_bipush (v := 12) hx hb dX12_asker_62 (by decide) ?_
            refine lv_iload hx hb dX12_asker_64 (lv_at hl 0 rfl) ?_
            refine lv_iadd hx hb dX12_asker_66 ?_
            obtain ⟨hg67, h⟩ := gA_of h
            refine va_iald hx hb hK hP 0 14 rfl rfl hg67 dX12_asker_67 ?_
            refine lv_iload_n hx hb dX12_asker_68 rfl (lv_at hl 4 rfl) ?_
            have J80 : ∀ (v80_t1 : Int32) (H : Heap) (locs : List Loc) (ls : Array Slot), f_X12_asker_J80 (f_X12_asker_L44 k1 k2 m_t m_v q_q n44) v44_l4 v44_l5 v80_t1 = some out → va_P (dC, dI) vwCl ((a4, .inl (cB35, 26, .inl m_v)) :: (a0, .inr (9, [.int 0, .int m_t.2.1, .int m_t.2.2, .ref a3, g9, g10, g11, g12, g13, g14, g15, g16, g17, g18, g19, .ref a4, g20, g21, g22, g23, g24, g25, g26, g27, g28, g29, g30, g31, g32, g33])) :: bX11 a3 uq kq q_q []) H → va_D A ((a4, .inl (cB35, 26, .inl m_v)) :: (a0, .inr (9, [.int 0, .int m_t.2.1, .int m_t.2.2, .ref a3, g9, g10, g11, g12, g13, g14, g15, g16, g17, g18, g19, .ref a4, g20, g21, g22, g23, g24, g25, g26, g27, g28, g29, g30, g31, g32, g33])) :: bX11 a3 uq kq q_q []) → va_S A s.heap H locs → lv_has ls 6 [(5, .int v44_l5), (3, .int (m_v (((18 : Int32) + k1)).toNatClampNeg)), (0, .ref a0), (1, .int k1), (2, .int k2)] → W p l e (headSpec vfX12_asker { frames := 3, cells := 0, slots := 0, locals := 68 }).room s m ([.ref a0, .int k1, .int k2]).toArray below meth c H locs 0 0 QQ (F0 m 80 ls [.int v80_t1, .int v44_l4]) := by
              intro v80_t1 H locs ls h  hP hD hS hl
              rw [f_X12_asker_J80] at h
              refine lv_ior hx hb dX12_asker_80 ?_
              refine lv_istore (lv' := [(4, .int (v44_l4 ||| v80_t1)), (5, .int v44_l5), (3, .int (m_v (((18 : Int32) + k1)).toNatClampNeg)), (0, .ref a0), (1, .int k1), (2, .int k2)]) hx hb dX12_asker_81 hl (by decide) rfl (fun ls hl => ?_)
              refine lv_iinc (v := (v44_l5 + (1 : Int32))) (lv' := [(5, .int (v44_l5 + (1 : Int32))), (4, .int (v44_l4 ||| v80_t1)), (3, .int (m_v (((18 : Int32) + k1)).toNatClampNeg)), (0, .ref a0), (1, .int k1), (2, .int k2)]) hx hb dX12_asker_83 hl (k := 1) rfl rfl (by decide) rfl (fun ls hl => ?_)
              refine lv_goto (tgt := 44) hx hb dX12_asker_86 (by decide) ?_
              exact ih44 (v44_l5 + (1 : Int32)) (v44_l4 ||| v80_t1) H _ ls h  hP hD hS (lv_sub hl [0, 1, 2, 3, 4, 5] rfl)
            refine lv_icmp_ne (tgt := 79) hx hb dX12_asker_69 (by decide) (fun c69 => ?_) (fun c69 => ?_)
            · have h := (if_neg c69).symm.trans h
              refine lv_iconst (v := 0) hx hb dX12_asker_79 (by decide) ?_
              exact J80 (0 : Int32) H _ ls h  hP hD hS (lv_sub hl [0, 2, 3, 4, 5] rfl)
            · have h := (if_pos c69).symm.trans h
              refine lv_iconst (v := 1) hx hb dX12_asker_72 (by decide) ?_
              refine lv_iload hx hb dX12_asker_73 (lv_at hl 0 rfl) ?_
              refine lv_ishl hx hb dX12_asker_75 ?_
              refine lv_goto (tgt := 80) hx hb dX12_asker_76 (by decide) ?_
              exact J80 ((1 : Int32) <<< (v44_l5 &&& 31)) H _ ls h  hP hD hS (lv_sub hl [0, 2, 3, 4, 5] rfl)
      exact L44 FU (0 : Int32) (0 : Int32) H _ ls h  hP hD hS (lv_sub hl [0, 1, 2, 3, 4, 5] rfl)
    · have h := (if_pos c19).symm.trans h
      exact J22  H _ ls h  hP hD hS (lv_sub hl [0] rfl)
theorem dX12_close_0 : decode cX12_close 0 = .ok (.aload_n 0, 1) := by decide +kernel
theorem dX12_close_1 : decode cX12_close 1 = .ok (.iconst 0, 1) := by decide +kernel
theorem dX12_close_18 : decode cX12_close 18 = .ok (.iload_n 1, 1) := by decide +kernel
theorem dX12_close_19 : decode cX12_close 19 = .ok (.iconst 0, 1) := by decide +kernel
theorem dX12_close_2 : decode cX12_close 2 = .ok (.putfield 36, 3) := by decide +kernel
theorem dX12_close_20 : decode cX12_close 20 = .ok (.sipush 999, 3) := by decide +kernel
theorem dX12_close_23 : decode cX12_close 23 = .ok (.invokestatic 115, 3) := by decide +kernel
theorem dX12_close_26 : decode cX12_close 26 = .ok (.ifCond .eq 26, 3) := by decide +kernel
theorem dX12_close_29 : decode cX12_close 29 = .ok (.aload_n 0, 1) := by decide +kernel
theorem dX12_close_30 : decode cX12_close 30 = .ok (.aload_n 0, 1) := by decide +kernel
theorem dX12_close_31 : decode cX12_close 31 = .ok (.getfield 299, 3) := by decide +kernel
theorem dX12_close_34 : decode cX12_close 34 = .ok (.iload_n 1, 1) := by decide +kernel
theorem dX12_close_35 : decode cX12_close 35 = .ok (.invokevirtual 341, 3) := by decide +kernel
theorem dX12_close_38 : decode cX12_close 38 = .ok (.ifCond .eq 7, 3) := by decide +kernel
theorem dX12_close_41 : decode cX12_close 41 = .ok (.iconst 1, 1) := by decide +kernel
theorem dX12_close_42 : decode cX12_close 42 = .ok (.goto 4, 3) := by decide +kernel
theorem dX12_close_45 : decode cX12_close 45 = .ok (.iconst 0, 1) := by decide +kernel
theorem dX12_close_46 : decode cX12_close 46 = .ok (.invokevirtual 46, 3) := by decide +kernel
theorem dX12_close_49 : decode cX12_close 49 = .ok (.goto 8, 3) := by decide +kernel
theorem dX12_close_5 : decode cX12_close 5 = .ok (.aload_n 0, 1) := by decide +kernel
theorem dX12_close_52 : decode cX12_close 52 = .ok (.aload_n 0, 1) := by decide +kernel
theorem dX12_close_53 : decode cX12_close 53 = .ok (.iconst 2, 1) := by decide +kernel
theorem dX12_close_54 : decode cX12_close 54 = .ok (.invokevirtual 42, 3) := by decide +kernel
theorem dX12_close_57 : decode cX12_close 57 = .ok (.ireturn, 1) := by decide +kernel
theorem dX12_close_6 : decode cX12_close 6 = .ok (.getfield 299, 3) := by decide +kernel
theorem dX12_close_9 : decode cX12_close 9 = .ok (.ifnonnull 9, 3) := by decide +kernel
def vfX12_close : List Cond := .code yX12_close cX12_close 2 (some .int) :: ([.fieldLink RX12 36 "HookPierModel" "thrown" "I", .fieldLink RX12 299 "HookPierModel" "pier" "LHookPierModel$Pier;", .methodLink RX12 115 yX12_in, .static yX12_in, .initialized RX12, .code yX12_in cX12_in 3 (some .boolean), .methodLink RX12 42 yX12_refused, .instanceMethod yX12_refused, .selects RX12 yX12_refused yX12_refused, .code yX12_refused cX12_refused 2 (some .int), .fieldLink RX12 39 "HookPierModel" "trouble" "I", .fieldLink RX12 9 "HookPierModel" "where" "I", .methodLink RX12 341 yX11_isClose, .instanceMethod yX11_isClose, .selects RX11 yX11_isClose yX11_isClose, .initialized RX11, .code yX11_isClose cX11_isClose 2 (some .boolean), .fieldLink RX11 81 "HookPierModel$Pier" "from" "I", .fieldLink RX11 84 "HookPierModel$Pier" "to" "I", .methodLink RX12 46 yX12_good, .instanceMethod yX12_good, .selects RX12 yX12_good yX12_good, .code yX12_good cX12_good 2 (some .int)] ++ wsX120 ++ wsX110)
theorem ifX12_close_X12 : ∀ w ∈ wsX120, w ∈ vfX12_close := fun _ h => List.mem_cons_of_mem _ (List.mem_append_left _ (List.mem_append_right _ h))
theorem ifX12_close_X11 : ∀ w ∈ wsX110, w ∈ vfX12_close := fun _ h => List.mem_cons_of_mem _ (List.mem_append_right _ h)
set_option maxRecDepth 20000 in
theorem gfX12_close_0 : GoodIn vfX12_close (va_wsS RX12 115 yX12_in vfX12_in) := goodIn_app (goodIn_r [.methodLink RX12 115 yX12_in, .static yX12_in, .initialized RX12] [3, 4, 5] (by decide +kernel) (by decide +kernel)) (goodIn_r (.code yX12_in cX12_in 3 (some .boolean) :: []) [6] (by decide +kernel) (by decide +kernel) : GoodIn vfX12_close (.code yX12_in cX12_in 3 (some .boolean) :: []))
set_option maxRecDepth 20000 in
theorem gfX12_close_1 : GoodIn vfX12_close (wsV RX12 42 RX12 yX12_refused vfX12_refused) := goodIn_app (goodIn_r [.methodLink RX12 42 yX12_refused, .instanceMethod yX12_refused, .selects RX12 yX12_refused yX12_refused, .initialized RX12] [7, 8, 9, 5] (by decide +kernel) (by decide +kernel)) (goodIn_ca (goodIn_r (.code yX12_refused cX12_refused 2 (some .int) :: [.fieldLink RX12 39 "HookPierModel" "trouble" "I", .fieldLink RX12 9 "HookPierModel" "where" "I"]) [10, 11, 12] (by decide +kernel) (by decide +kernel) : GoodIn vfX12_close (.code yX12_refused cX12_refused 2 (some .int) :: [.fieldLink RX12 39 "HookPierModel" "trouble" "I", .fieldLink RX12 9 "HookPierModel" "where" "I"])) (goodIn_sub ifX12_close_X12 (by decide +kernel)))
set_option maxRecDepth 20000 in
theorem gfX12_close_2 : GoodIn vfX12_close (wsV RX12 341 RX11 yX11_isClose vfX11_isClose) := goodIn_app (goodIn_r [.methodLink RX12 341 yX11_isClose, .instanceMethod yX11_isClose, .selects RX11 yX11_isClose yX11_isClose, .initialized RX11] [13, 14, 15, 16] (by decide +kernel) (by decide +kernel)) (goodIn_ca (goodIn_r (.code yX11_isClose cX11_isClose 2 (some .boolean) :: [.fieldLink RX11 81 "HookPierModel$Pier" "from" "I", .fieldLink RX11 84 "HookPierModel$Pier" "to" "I"]) [17, 18, 19] (by decide +kernel) (by decide +kernel) : GoodIn vfX12_close (.code yX11_isClose cX11_isClose 2 (some .boolean) :: [.fieldLink RX11 81 "HookPierModel$Pier" "from" "I", .fieldLink RX11 84 "HookPierModel$Pier" "to" "I"])) (goodIn_sub ifX12_close_X11 (by decide +kernel)))
set_option maxRecDepth 20000 in
theorem gfX12_close_3 : GoodIn vfX12_close (wsV RX12 46 RX12 yX12_good vfX12_good) := goodIn_app (goodIn_r [.methodLink RX12 46 yX12_good, .instanceMethod yX12_good, .selects RX12 yX12_good yX12_good, .initialized RX12] [20, 21, 22, 5] (by decide +kernel) (by decide +kernel)) (goodIn_ca (goodIn_r (.code yX12_good cX12_good 2 (some .int) :: [.fieldLink RX12 39 "HookPierModel" "trouble" "I", .fieldLink RX12 9 "HookPierModel" "where" "I"]) [23, 11, 12] (by decide +kernel) (by decide +kernel) : GoodIn vfX12_close (.code yX12_good cX12_good 2 (some .int) :: [.fieldLink RX12 39 "HookPierModel" "trouble" "I", .fieldLink RX12 9 "HookPierModel" "where" "I"])) (goodIn_sub ifX12_close_X12 (by decide +kernel)))
set_option maxHeartbeats 2000000 in
set_option maxRecDepth 100000 in
theorem kfX12_close (l : Launch) (dC : Nat → ClassId) (dI : Nat → Nat → Nat) (a0 : Nat) (k1 : Int32) (a2 : Nat) (uq : Nat → Nat) (kq : Nat → ClassId) (m_t : TX12_t) (g6 : Value) (g7 : Value) (g8 : Value) (g9 : Value) (g10 : Value) (g11 : Value) (g12 : Value) (g13 : Value) (g14 : Value) (g15 : Value) (g16 : Value) (g17 : Value) (g18 : Value) (g19 : Value) (g20 : Value) (g21 : Value) (g22 : Value) (g23 : Value) (g24 : Value) (g25 : Value) (g26 : Value) (g27 : Value) (g28 : Value) (g29 : Value) (g30 : Value) (g31 : Value) (q_q : TX11_q) (sz : Nat) (out : (Int32 × TX12_t)) (h : f_X12_close k1 m_t q_q = out) : Met l yX12_close vfX12_close ({ frames := 1, cells := 0, slots := 0, locals := 22 }) (PC (dC, dI) [.ref a0, .int k1] sz ((a0, .inr (9, [.int m_t.1, .int m_t.2.1, .int m_t.2.2, .ref a2, g6, g7, g8, g9, g10, g11, g12, g13, g14, g15, g16, g17, g18, g19, g20, g21, g22, g23, g24, g25, g26, g27, g28, g29, g30, g31])) :: bX11 a2 uq kq q_q []) (tX11 kq ([]))) (va_Qi (S := Unit) (fun (r : Int32) _ => r = out.1) (fun _ t => BC (dC, dI) (va_A ((a0, .inr (9, [.int m_t.1, .int m_t.2.1, .int m_t.2.2, .ref a2, g6, g7, g8, g9, g10, g11, g12, g13, g14, g15, g16, g17, g18, g19, g20, g21, g22, g23, g24, g25, g26, g27, g28, g29, g30, g31])) :: bX11 a2 uq kq q_q []) sz) ((a0, .inr (9, [.int out.2.1, .int out.2.2.1, .int out.2.2.2, .ref a2, g6, g7, g8, g9, g10, g11, g12, g13, g14, g15, g16, g17, g18, g19, g20, g21, g22, g23, g24, g25, g26, g27, g28, g29, g30, g31])) :: bX11 a2 uq kq q_q []) [] t) (va_A ((a0, .inr (9, [.int m_t.1, .int m_t.2.1, .int m_t.2.2, .ref a2, g6, g7, g8, g9, g10, g11, g12, g13, g14, g15, g16, g17, g18, g19, g20, g21, g22, g23, g24, g25, g26, g27, g28, g29, g30, g31])) :: bX11 a2 uq kq q_q []) sz)) 0 0 (va_A ((a0, .inr (9, [.int m_t.1, .int m_t.2.1, .int m_t.2.2, .ref a2, g6, g7, g8, g9, g10, g11, g12, g13, g14, g15, g16, g17, g18, g19, g20, g21, g22, g23, g24, g25, g26, g27, g28, g29, g30, g31])) :: bX11 a2 uq kq q_q []) sz) := by
  refine Met.ofW (cc := cX12_close) (maxL := 2) (ret := (some .int)) (by decide) rfl ?_
  intro p e s m args below meth c s₁ B0 hml hv
  obtain ⟨rfl, hsz, hP, hK, hD0, hN⟩ := hv
  have hx := B0.exec
  have hb := B0.bytes
  have hr := B0.returns
  have hts := atoms_spec (ws := vfX12_close) B0.pre
  have hown : s.vm.findClass RX12 = some m.cls := findClass_of_methodNamed B0.named
  have hlocks := B0.notSynchronized
  subst hsz
  have hD := hD0.self (sz := s.heap.size)
  generalize hAe : va_A ((a0, .inr (9, [.int m_t.1, .int m_t.2.1, .int m_t.2.2, .ref a2, g6, g7, g8, g9, g10, g11, g12, g13, g14, g15, g16, g17, g18, g19, g20, g21, g22, g23, g24, g25, g26, g27, g28, g29, g30, g31])) :: bX11 a2 uq kq q_q []) s.heap.size = A at hD ⊢
  have hA : ∀ q : Nat, s.heap.size ≤ q → A q := fun q h => by rw [← hAe]; exact Or.inr h
  have hS : va_S A s.heap s.heap [] := va_S.rf
  have hP : va_P (dC, dI) vwCl ((a0, .inr (9, [.int m_t.1, .int m_t.2.1, .int m_t.2.2, .ref a2, g6, g7, g8, g9, g10, g11, g12, g13, g14, g15, g16, g17, g18, g19, g20, g21, g22, g23, g24, g25, g26, g27, g28, g29, g30, g31])) :: bX11 a2 uq kq q_q []) s.heap := hP
  have hl := lv_entry ([.ref a0, .int k1]) (n := 2) (Nat.le_of_ble_eq_true rfl)
  rw [lg_entry_eq]
  generalize (lg_sl ([.ref a0, .int k1]) ++ List.replicate (2 - (lg_sl ([.ref a0, .int k1])).length) Slot.unset).toArray = ls at hl ⊢
  have hl : lv_has ls 2 [(0, .ref a0), (1, .int k1)] := hl
  refine W_q (fun QQ hQQ => ?_)
  rw [f_X12_close] at h
  refine lv_aload_n hx hb dX12_close_0 rfl (lv_at hl 0 rfl) ?_
  refine lv_iconst (v := 0) hx hb dX12_close_1 (by decide) ?_
  refine va_put (D := (dC, dI)) (ci := 9) (v := .int 0) (ty := .int) (C := RX12) (T := TX12) (N := 30) hx hb hts ifX12_close_X12 tyX12 tyX12_ok nmX12 hown hK hP hD hS 0 rfl rfl 0 (by decide) (hts (.fieldLink RX12 36 "HookPierModel" "thrown" "I") (List.mem_of_getElem? (i := 1) rfl)) (fun _ h9 => h9) rfl (by decide +kernel) rfl rfl (Nat.le_of_ble_eq_true rfl) dX12_close_2 (fun H locs hP hD hS => ?_)
  have hP : va_P (dC, dI) vwCl ((a0, .inr (9, [.int 0, .int m_t.2.1, .int m_t.2.2, .ref a2, g6, g7, g8, g9, g10, g11, g12, g13, g14, g15, g16, g17, g18, g19, g20, g21, g22, g23, g24, g25, g26, g27, g28, g29, g30, g31])) :: bX11 a2 uq kq q_q []) H := hP
  have hD : va_D A ((a0, .inr (9, [.int 0, .int m_t.2.1, .int m_t.2.2, .ref a2, g6, g7, g8, g9, g10, g11, g12, g13, g14, g15, g16, g17, g18, g19, g20, g21, g22, g23, g24, g25, g26, g27, g28, g29, g30, g31])) :: bX11 a2 uq kq q_q []) := hD
  refine lv_aload_n hx hb dX12_close_5 rfl (lv_at hl 0 rfl) ?_
  refine va_get (D := (dC, dI)) (ci := 9) (v := .ref a2) (C := RX12) (T := TX12) (N := 30) hx hb hts ifX12_close_X12 hown hK hP 0 rfl rfl 3 (by decide) (hts (.fieldLink RX12 299 "HookPierModel" "pier" "LHookPierModel$Pier;") (List.mem_of_getElem? (i := 2) rfl)) (fun _ h9 => h9) rfl dX12_close_6 ?_
  refine lv_ifnonnull (tgt := 18) hx hb dX12_close_9 (by decide) ?_
  refine lv_iload_n hx hb dX12_close_18 rfl (lv_at hl 1 rfl) ?_
  refine lv_iconst (v := 0) hx hb dX12_close_19 (by decide) ?_
  refine lv_sipush (v := 999) hx hb dX12_close_20 (by decide) ?_
  obtain ⟨o23, eo23⟩ : ∃ o, o = f_X12_in k1 (0 : Int32) (999 : Int32) := ⟨_, rfl⟩
  have h := nm_of h o23 eo23
  refine cl_i (wc := []) (wr := ((a0, .inr (9, [.int 0, .int m_t.2.1, .int m_t.2.2, .ref a2, g6, g7, g8, g9, g10, g11, g12, g13, g14, g15, g16, g17, g18, g19, g20, g21, g22, g23, g24, g25, g26, g27, g28, g29, g30, g31])) :: bX11 a2 uq kq q_q [])) (va_runS (As := [.int k1, .int 0, .int 999]) (rest := []) ⟨hx, hb, hml, hown, hts⟩ (kfX12_in l dC dI k1 (0 : Int32) (999 : Int32) H.size o23 eo23.symm) (va_cwS 3 hts gfX12_close_0 rfl rfl rfl (by decide +kernel) ⟨(Nat.le_of_ble_eq_true rfl), (Nat.le_of_ble_eq_true rfl)⟩) (PS (hP.sub (ws' := []) [] rfl) (hK.sub (tys' := ([])) [] rfl) (hD.sub (ws' := []) [] (by decide) rfl) hN) rfl rfl hl.1 rfl (lv_room (Nat.le_of_ble_eq_true rfl)) dX12_close_23 ⟨(Nat.le_of_ble_eq_true rfl), (Nat.le_of_ble_eq_true rfl)⟩) hP hD hK hS hA [] [0, 1, 2, 3, 4, 5, 6, 7, 8, 9, 10, 11, 12, 13, 14, 15] rfl rfl (by decide) (by decide) (fun r23 _ H locs hw hP hD _ hS => ?_)
  obtain ⟨hw, br23⟩ := hw
  obtain rfl := hw.symm
  have hP : va_P (dC, dI) vwCl ((a0, .inr (9, [.int 0, .int m_t.2.1, .int m_t.2.2, .ref a2, g6, g7, g8, g9, g10, g11, g12, g13, g14, g15, g16, g17, g18, g19, g20, g21, g22, g23, g24, g25, g26, g27, g28, g29, g30, g31])) :: bX11 a2 uq kq q_q []) H := hP
  have hD : va_D A ((a0, .inr (9, [.int 0, .int m_t.2.1, .int m_t.2.2, .ref a2, g6, g7, g8, g9, g10, g11, g12, g13, g14, g15, g16, g17, g18, g19, g20, g21, g22, g23, g24, g25, g26, g27, g28, g29, g30, g31])) :: bX11 a2 uq kq q_q []) := hD
  refine lv_if_eq (tgt := 52) hx hb dX12_close_26 (by decide) (fun c26 => ?_) (fun c26 => ?_)
  · have h := (if_pos c26).symm.trans h
    refine lv_aload_n hx hb dX12_close_52 rfl (lv_at hl 0 rfl) ?_
    refine lv_iconst (v := 2) hx hb dX12_close_53 (by decide) ?_
    obtain ⟨o54, eo54⟩ : ∃ o, o = f_X12_refused (2 : Int32) ((0 : Int32), m_t.2) := ⟨_, rfl⟩
    have h := nm_of h o54 eo54
    refine cl_i (wc := ([(a0, .inr (9, [.int 0, .int m_t.2.1, .int m_t.2.2, .ref a2, g6, g7, g8, g9, g10, g11, g12, g13, g14, g15, g16, g17, g18, g19, g20, g21, g22, g23, g24, g25, g26, g27, g28, g29, g30, g31]))])) (wr := (bX11 a2 uq kq q_q [])) (va_runV (As := [.int 2]) (rest := []) ⟨hx, hb, hml, hown, hts⟩ (kfX12_refused l dC dI a0 (2 : Int32) ((0 : Int32), m_t.2) (.ref a2) (g6) (g7) (g8) (g9) (g10) (g11) (g12) (g13) (g14) (g15) (g16) (g17) (g18) (g19) (g20) (g21) (g22) (g23) (g24) (g25) (g26) (g27) (g28) (g29) (g30) (g31) H.size o54 eo54.symm) (cwV 1 hts gfX12_close_1 rfl rfl rfl (by decide +kernel) ⟨(Nat.le_of_ble_eq_true rfl), (Nat.le_of_ble_eq_true rfl)⟩) (PV (hP.sub (ws' := ([(a0, .inr (9, [.int 0, .int m_t.2.1, .int m_t.2.2, .ref a2, g6, g7, g8, g9, g10, g11, g12, g13, g14, g15, g16, g17, g18, g19, g20, g21, g22, g23, g24, g25, g26, g27, g28, g29, g30, g31]))])) [0] rfl) (hK.sub (tys' := ([])) [] rfl) (hD.sub (ws' := ([(a0, .inr (9, [.int 0, .int m_t.2.1, .int m_t.2.2, .ref a2, g6, g7, g8, g9, g10, g11, g12, g13, g14, g15, g16, g17, g18, g19, g20, g21, g22, g23, g24, g25, g26, g27, g28, g29, g30, g31]))])) [0] (by decide) rfl) hN 0 rfl rfl) rfl rfl hl.1 rfl (lv_room (Nat.le_of_ble_eq_true rfl)) dX12_close_54 ⟨(Nat.le_of_ble_eq_true rfl), (Nat.le_of_ble_eq_true rfl)⟩) hP hD hK hS hA [0] [1, 2, 3, 4, 5, 6, 7, 8, 9, 10, 11, 12, 13, 14, 15] rfl rfl (by decide) (by decide) (fun r54 _ H locs hw hP hD _ hS => ?_)
    obtain rfl := hw
    have hP : va_P (dC, dI) vwCl (bX11 a2 uq kq q_q ([(a0, .inr (9, [.int o54.1, .int o54.2.1, .int o54.2.2, .ref a2, g6, g7, g8, g9, g10, g11, g12, g13, g14, g15, g16, g17, g18, g19, g20, g21, g22, g23, g24, g25, g26, g27, g28, g29, g30, g31]))])) H := hP
    have hD : va_D A (bX11 a2 uq kq q_q ([(a0, .inr (9, [.int o54.1, .int o54.2.1, .int o54.2.2, .ref a2, g6, g7, g8, g9, g10, g11, g12, g13, g14, g15, g16, g17, g18, g19, g20, g21, g22, g23, g24, g25, g26, g27, g28, g29, g30, g31]))])) := hD
    obtain rfl := h
    have hP9 := hP.sub (ws' := ((a0, .inr (9, [.int o54.1, .int o54.2.1, .int o54.2.2, .ref a2, g6, g7, g8, g9, g10, g11, g12, g13, g14, g15, g16, g17, g18, g19, g20, g21, g22, g23, g24, g25, g26, g27, g28, g29, g30, g31])) :: bX11 a2 uq kq q_q [])) [15, 0, 1, 2, 3, 4, 5, 6, 7, 8, 9, 10, 11, 12, 13, 14] rfl
    have hD9 := hD.sub (ws' := ((a0, .inr (9, [.int o54.1, .int o54.2.1, .int o54.2.2, .ref a2, g6, g7, g8, g9, g10, g11, g12, g13, g14, g15, g16, g17, g18, g19, g20, g21, g22, g23, g24, g25, g26, g27, g28, g29, g30, g31])) :: bX11 a2 uq kq q_q [])) [15, 0, 1, 2, 3, 4, 5, 6, 7, 8, 9, 10, 11, 12, 13, 14] (by decide) rfl
    have hK9 := hK.sub (tys' := []) [] rfl
    rw [hQQ]
    exact W.iret (v := (-1 : Int32)) hx hb hr (fun t ht hW => ⟨⟨(-1 : Int32), (), rfl, rfl, by rw [ht]; exact hP9, va_K.moved hW.alike hK9, hD9⟩, hS.F ht⟩) hS.2.2 dX12_close_57
  · have h := (if_neg c26).symm.trans h
    refine lv_aload_n hx hb dX12_close_29 rfl (lv_at hl 0 rfl) ?_
    refine lv_aload_n hx hb dX12_close_30 rfl (lv_at hl 0 rfl) ?_
    refine va_get (D := (dC, dI)) (ci := 9) (v := .ref a2) (C := RX12) (T := TX12) (N := 30) hx hb hts ifX12_close_X12 hown hK hP 0 rfl rfl 3 (by decide) (hts (.fieldLink RX12 299 "HookPierModel" "pier" "LHookPierModel$Pier;") (List.mem_of_getElem? (i := 2) rfl)) (fun _ h9 => h9) rfl dX12_close_31 ?_
    refine lv_iload_n hx hb dX12_close_34 rfl (lv_at hl 1 rfl) ?_
    obtain ⟨o35, eo35⟩ : ∃ o, o = f_X11_isClose k1 q_q := ⟨_, rfl⟩
    have h := nm_of h o35 eo35
    refine cl_i (wc := (bX11 a2 uq kq q_q [])) (wr := ([(a0, .inr (9, [.int 0, .int m_t.2.1, .int m_t.2.2, .ref a2, g6, g7, g8, g9, g10, g11, g12, g13, g14, g15, g16, g17, g18, g19, g20, g21, g22, g23, g24, g25, g26, g27, g28, g29, g30, g31]))])) (va_runV (As := [.int k1]) (rest := [.ref a0]) ⟨hx, hb, hml, hown, hts⟩ (kfX11_isClose l dC dI a2 k1 uq kq q_q H.size o35 eo35.symm) (cwV 1 hts gfX12_close_2 rfl rfl rfl (by decide +kernel) ⟨(Nat.le_of_ble_eq_true rfl), (Nat.le_of_ble_eq_true rfl)⟩) (PV (hP.sub (ws' := (bX11 a2 uq kq q_q [])) [1, 2, 3, 4, 5, 6, 7, 8, 9, 10, 11, 12, 13, 14, 15] rfl) (hK.sub (tys' := (tX11 kq ([]))) [0, 1, 2, 3, 4, 5, 6, 7, 8, 9, 10, 11, 12, 13] rfl) (hD.sub (ws' := (bX11 a2 uq kq q_q [])) [1, 2, 3, 4, 5, 6, 7, 8, 9, 10, 11, 12, 13, 14, 15] (by decide) rfl) hN 0 rfl rfl) rfl rfl hl.1 rfl (lv_room (Nat.le_of_ble_eq_true rfl)) dX12_close_35 ⟨(Nat.le_of_ble_eq_true rfl), (Nat.le_of_ble_eq_true rfl)⟩) hP hD hK hS hA [1, 2, 3, 4, 5, 6, 7, 8, 9, 10, 11, 12, 13, 14, 15] [0] rfl rfl (by decide) (by decide) (fun r35 _ H locs hw hP hD _ hS => ?_)
    obtain ⟨hw, br35⟩ := hw
    obtain rfl := hw.symm
    have hP : va_P (dC, dI) vwCl ((a0, .inr (9, [.int 0, .int m_t.2.1, .int m_t.2.2, .ref a2, g6, g7, g8, g9, g10, g11, g12, g13, g14, g15, g16, g17, g18, g19, g20, g21, g22, g23, g24, g25, g26, g27, g28, g29, g30, g31])) :: bX11 a2 uq kq q_q []) H := hP
    have hD : va_D A ((a0, .inr (9, [.int 0, .int m_t.2.1, .int m_t.2.2, .ref a2, g6, g7, g8, g9, g10, g11, g12, g13, g14, g15, g16, g17, g18, g19, g20, g21, g22, g23, g24, g25, g26, g27, g28, g29, g30, g31])) :: bX11 a2 uq kq q_q []) := hD
    have J46 : ∀ (v46_t1 : Int32) (H : Heap) (locs : List Loc) (ls : Array Slot), f_X12_close_J46 m_t v46_t1 = out → 0 ≤ v46_t1.toInt ∧ v46_t1.toInt ≤ 1 → va_P (dC, dI) vwCl ((a0, .inr (9, [.int 0, .int m_t.2.1, .int m_t.2.2, .ref a2, g6, g7, g8, g9, g10, g11, g12, g13, g14, g15, g16, g17, g18, g19, g20, g21, g22, g23, g24, g25, g26, g27, g28, g29, g30, g31])) :: bX11 a2 uq kq q_q []) H → va_D A ((a0, .inr (9, [.int 0, .int m_t.2.1, .int m_t.2.2, .ref a2, g6, g7, g8, g9, g10, g11, g12, g13, g14, g15, g16, g17, g18, g19, g20, g21, g22, g23, g24, g25, g26, g27, g28, g29, g30, g31])) :: bX11 a2 uq kq q_q []) → va_S A s.heap H locs → lv_has ls 2 [] → W p l e (headSpec vfX12_close { frames := 1, cells := 0, slots := 0, locals := 22 }).room s m ([.ref a0, .int k1]).toArray below meth c H locs 0 0 QQ (F0 m 46 ls [.int v46_t1, .ref a0]) := by
      intro v46_t1 H locs ls h zb_v46_t1 hP hD hS hl
      rw [f_X12_close_J46] at h
      obtain ⟨o46, eo46⟩ : ∃ o, o = f_X12_good v46_t1 ((0 : Int32), m_t.2) := ⟨_, rfl⟩
      have h := nm_of h o46 eo46
      refine cl_i (wc := ([(a0, .inr (9, [.int 0, .int m_t.2.1, .int m_t.2.2, .ref a2, g6, g7, g8, g9, g10, g11, g12, g13, g14, g15, g16, g17, g18, g19, g20, g21, g22, g23, g24, g25, g26, g27, g28, g29, g30, g31]))])) (wr := (bX11 a2 uq kq q_q [])) (va_runV (As := [.int v46_t1]) (rest := []) ⟨hx, hb, hml, hown, hts⟩ (kfX12_good l dC dI a0 v46_t1 ((0 : Int32), m_t.2) (.ref a2) (g6) (g7) (g8) (g9) (g10) (g11) (g12) (g13) (g14) (g15) (g16) (g17) (g18) (g19) (g20) (g21) (g22) (g23) (g24) (g25) (g26) (g27) (g28) (g29) (g30) (g31) H.size o46 eo46.symm) (cwV 1 hts gfX12_close_3 rfl rfl rfl (by decide +kernel) ⟨(Nat.le_of_ble_eq_true rfl), (Nat.le_of_ble_eq_true rfl)⟩) (PV (hP.sub (ws' := ([(a0, .inr (9, [.int 0, .int m_t.2.1, .int m_t.2.2, .ref a2, g6, g7, g8, g9, g10, g11, g12, g13, g14, g15, g16, g17, g18, g19, g20, g21, g22, g23, g24, g25, g26, g27, g28, g29, g30, g31]))])) [0] rfl) (hK.sub (tys' := ([])) [] rfl) (hD.sub (ws' := ([(a0, .inr (9, [.int 0, .int m_t.2.1, .int m_t.2.2, .ref a2, g6, g7, g8, g9, g10, g11, g12, g13, g14, g15, g16, g17, g18, g19, g20, g21, g22, g23, g24, g25, g26, g27, g28, g29, g30, g31]))])) [0] (by decide) rfl) hN 0 rfl rfl) rfl rfl hl.1 rfl (lv_room (Nat.le_of_ble_eq_true rfl)) dX12_close_46 ⟨(Nat.le_of_ble_eq_true rfl), (Nat.le_of_ble_eq_true rfl)⟩) hP hD hK hS hA [0] [1, 2, 3, 4, 5, 6, 7, 8, 9, 10, 11, 12, 13, 14, 15] rfl rfl (by decide) (by decide) (fun r46 _ H locs hw hP hD _ hS => ?_)
      obtain rfl := hw
      have hP : va_P (dC, dI) vwCl (bX11 a2 uq kq q_q ([(a0, .inr (9, [.int o46.2.1, .int o46.2.2.1, .int o46.2.2.2, .ref a2, g6, g7, g8, g9, g10, g11, g12, g13, g14, g15, g16, g17, g18, g19, g20, g21, g22, g23, g24, g25, g26, g27, g28, g29, g30, g31]))])) H := hP
      have hD : va_D A (bX11 a2 uq kq q_q ([(a0, .inr (9, [.int o46.2.1, .int o46.2.2.1, .int o46.2.2.2, .ref a2, g6, g7, g8, g9, g10, g11, g12, g13, g14, g15, g16, g17, g18, g19, g20, g21, g22, g23, g24, g25, g26, g27, g28, g29, g30, g31]))])) := hD
      refine lv_goto (tgt := 57) hx hb dX12_close_49 (by decide) ?_
      obtain rfl := h
      have hP9 := hP.sub (ws' := ((a0, .inr (9, [.int o46.2.1, .int o46.2.2.1, .int o46.2.2.2, .ref a2, g6, g7, g8, g9, g10, g11, g12, g13, g14, g15, g16, g17, g18, g19, g20, g21, g22, g23, g24, g25, g26, g27, g28, g29, g30, g31])) :: bX11 a2 uq kq q_q [])) [15, 0, 1, 2, 3, 4, 5, 6, 7, 8, 9, 10, 11, 12, 13, 14] rfl
      have hD9 := hD.sub (ws' := ((a0, .inr (9, [.int o46.2.1, .int o46.2.2.1, .int o46.2.2.2, .ref a2, g6, g7, g8, g9, g10, g11, g12, g13, g14, g15, g16, g17, g18, g19, g20, g21, g22, g23, g24, g25, g26, g27, g28, g29, g30, g31])) :: bX11 a2 uq kq q_q [])) [15, 0, 1, 2, 3, 4, 5, 6, 7, 8, 9, 10, 11, 12, 13, 14] (by decide) rfl
      have hK9 := hK.sub (tys' := []) [] rfl
      rw [hQQ]
      exact W.iret (v := o46.1) hx hb hr (fun t ht hW => ⟨⟨o46.1, (), rfl, rfl, by rw [ht]; exact hP9, va_K.moved hW.alike hK9, hD9⟩, hS.F ht⟩) hS.2.2 dX12_close_57
    refine lv_if_eq (tgt := 45) hx hb dX12_close_38 (by decide) (fun c38 => ?_) (fun c38 => ?_)
    · have h := (if_pos c38).symm.trans h
      refine lv_iconst (v := 0) hx hb dX12_close_45 (by decide) ?_
      exact J46 (0 : Int32) H _ ls h (by decide) hP hD hS (lv_sub hl [] rfl)
    · have h := (if_neg c38).symm.trans h
      refine lv_iconst (v := 1) hx hb dX12_close_41 (by decide) ?_
      refine lv_goto (tgt := 46) hx hb dX12_close_42 (by decide) ?_
      exact J46 (1 : Int32) H _ ls h (by decide) hP hD hS (lv_sub hl [] rfl)
theorem dX12_wish_0 : decode cX12_wish 0 = .ok (.aload_n 0, 1) := by decide +kernel
theorem dX12_wish_1 : decode cX12_wish 1 = .ok (.iconst 0, 1) := by decide +kernel
theorem dX12_wish_11 : decode cX12_wish 11 = .ok (.iload_n 2, 1) := by decide +kernel
theorem dX12_wish_12 : decode cX12_wish 12 = .ok (.iload_n 3, 1) := by decide +kernel
theorem dX12_wish_13 : decode cX12_wish 13 = .ok (.iload 4, 2) := by decide +kernel
theorem dX12_wish_15 : decode cX12_wish 15 = .ok (.invokevirtual 353, 3) := by decide +kernel
theorem dX12_wish_18 : decode cX12_wish 18 = .ok (.istore 5, 2) := by decide +kernel
theorem dX12_wish_2 : decode cX12_wish 2 = .ok (.putfield 36, 3) := by decide +kernel
theorem dX12_wish_20 : decode cX12_wish 20 = .ok (.iload 5, 2) := by decide +kernel
theorem dX12_wish_22 : decode cX12_wish 22 = .ok (.ifCond .le 12, 3) := by decide +kernel
theorem dX12_wish_25 : decode cX12_wish 25 = .ok (.aload_n 0, 1) := by decide +kernel
theorem dX12_wish_26 : decode cX12_wish 26 = .ok (.iload 5, 2) := by decide +kernel
theorem dX12_wish_28 : decode cX12_wish 28 = .ok (.invokevirtual 42, 3) := by decide +kernel
theorem dX12_wish_31 : decode cX12_wish 31 = .ok (.goto 19, 3) := by decide +kernel
theorem dX12_wish_34 : decode cX12_wish 34 = .ok (.aload_n 0, 1) := by decide +kernel
theorem dX12_wish_35 : decode cX12_wish 35 = .ok (.aload_n 0, 1) := by decide +kernel
theorem dX12_wish_36 : decode cX12_wish 36 = .ok (.getfield 299, 3) := by decide +kernel
theorem dX12_wish_39 : decode cX12_wish 39 = .ok (.iload_n 1, 1) := by decide +kernel
theorem dX12_wish_40 : decode cX12_wish 40 = .ok (.iload_n 2, 1) := by decide +kernel
theorem dX12_wish_41 : decode cX12_wish 41 = .ok (.iload_n 3, 1) := by decide +kernel
theorem dX12_wish_42 : decode cX12_wish 42 = .ok (.iload 4, 2) := by decide +kernel
theorem dX12_wish_44 : decode cX12_wish 44 = .ok (.invokevirtual 316, 3) := by decide +kernel
theorem dX12_wish_47 : decode cX12_wish 47 = .ok (.invokevirtual 46, 3) := by decide +kernel
theorem dX12_wish_5 : decode cX12_wish 5 = .ok (.aload_n 0, 1) := by decide +kernel
theorem dX12_wish_50 : decode cX12_wish 50 = .ok (.ireturn, 1) := by decide +kernel
theorem dX12_wish_6 : decode cX12_wish 6 = .ok (.aload_n 0, 1) := by decide +kernel
theorem dX12_wish_7 : decode cX12_wish 7 = .ok (.iload_n 1, 1) := by decide +kernel
theorem dX12_wish_8 : decode cX12_wish 8 = .ok (.invokevirtual 320, 3) := by decide +kernel
def vfX12_wish : List Cond := .code yX12_wish cX12_wish 6 (some .int) :: ([.fieldLink RX12 36 "HookPierModel" "thrown" "I", .methodLink RX12 320 yX12_isAnswer, .instanceMethod yX12_isAnswer, .selects RX12 yX12_isAnswer yX12_isAnswer, .initialized RX12, .code yX12_isAnswer cX12_isAnswer 2 (some .boolean), .fieldLink RX12 299 "HookPierModel" "pier" "LHookPierModel$Pier;", .methodLink RX12 353 yX12_refusesQuestion, .instanceMethod yX12_refusesQuestion, .selects RX12 yX12_refusesQuestion yX12_refusesQuestion, .code yX12_refusesQuestion cX12_refusesQuestion 5 (some .int), .methodLink RX12 115 yX12_in, .static yX12_in, .code yX12_in cX12_in 3 (some .boolean), .methodLink RX12 316 yX11_wish, .instanceMethod yX11_wish, .selects RX11 yX11_wish yX11_wish, .initialized RX11, .code yX11_wish cX11_wish 5 (some .int), .fieldLink RX11 28 "HookPierModel$Pier" "hunger" "[I", .methodLink RX11 62 yX11_wishBy, .instanceMethod yX11_wishBy, .selects RX11 yX11_wishBy yX11_wishBy, .code yX11_wishBy cX11_wishBy 7 (some .int), .fieldLink RX11 19 "HookPierModel$Pier" "kind" "[I", .fieldLink RX11 22 "HookPierModel$Pier" "spot" "[I", .code yX12_apart cX12_apart 2 (some .int), .static yX12_apart, .methodLink RX11 70 yX11_cut, .static yX11_cut, .code yX11_cut cX11_cut 1 (some .int), .fieldLink RX11 25 "HookPierModel$Pier" "depth" "[I", .fieldLink RX11 31 "HookPierModel$Pier" "likes" "[I", .methodLink RX12 46 yX12_good, .instanceMethod yX12_good, .selects RX12 yX12_good yX12_good, .code yX12_good cX12_good 2 (some .int), .fieldLink RX12 39 "HookPierModel" "trouble" "I", .fieldLink RX12 9 "HookPierModel" "where" "I", .methodLink RX12 42 yX12_refused, .instanceMethod yX12_refused, .selects RX12 yX12_refused yX12_refused, .code yX12_refused cX12_refused 2 (some .int)] ++ wsX120 ++ wsX110)
theorem ifX12_wish_X12 : ∀ w ∈ wsX120, w ∈ vfX12_wish := fun _ h => List.mem_cons_of_mem _ (List.mem_append_left _ (List.mem_append_right _ h))
theorem ifX12_wish_X11 : ∀ w ∈ wsX110, w ∈ vfX12_wish := fun _ h => List.mem_cons_of_mem _ (List.mem_append_right _ h)
set_option maxRecDepth 20000 in
theorem gfX12_wish_0 : GoodIn vfX12_wish (wsV RX12 320 RX12 yX12_isAnswer vfX12_isAnswer) := goodIn_app (goodIn_r [.methodLink RX12 320 yX12_isAnswer, .instanceMethod yX12_isAnswer, .selects RX12 yX12_isAnswer yX12_isAnswer, .initialized RX12] [2, 3, 4, 5] (by decide +kernel) (by decide +kernel)) (goodIn_ca (goodIn_ca (goodIn_r (.code yX12_isAnswer cX12_isAnswer 2 (some .boolean) :: [.fieldLink RX12 299 "HookPierModel" "pier" "LHookPierModel$Pier;"]) [6, 7] (by decide +kernel) (by decide +kernel) : GoodIn vfX12_wish (.code yX12_isAnswer cX12_isAnswer 2 (some .boolean) :: [.fieldLink RX12 299 "HookPierModel" "pier" "LHookPierModel$Pier;"])) (goodIn_sub ifX12_wish_X12 (by decide +kernel))) (goodIn_sub ifX12_wish_X11 (by decide +kernel)))
set_option maxRecDepth 20000 in
theorem gfX12_wish_1 : GoodIn vfX12_wish (wsV RX12 353 RX12 yX12_refusesQuestion vfX12_refusesQuestion) := goodIn_app (goodIn_r [.methodLink RX12 353 yX12_refusesQuestion, .instanceMethod yX12_refusesQuestion, .selects RX12 yX12_refusesQuestion yX12_refusesQuestion, .initialized RX12] [8, 9, 10, 5] (by decide +kernel) (by decide +kernel)) (goodIn_ca (goodIn_ca (goodIn_r (.code yX12_refusesQuestion cX12_refusesQuestion 5 (some .int) :: [.fieldLink RX12 299 "HookPierModel" "pier" "LHookPierModel$Pier;", .methodLink RX12 115 yX12_in, .static yX12_in, .initialized RX12, .code yX12_in cX12_in 3 (some .boolean)]) [11, 7, 12, 13, 5, 14] (by decide +kernel) (by decide +kernel) : GoodIn vfX12_wish (.code yX12_refusesQuestion cX12_refusesQuestion 5 (some .int) :: [.fieldLink RX12 299 "HookPierModel" "pier" "LHookPierModel$Pier;", .methodLink RX12 115 yX12_in, .static yX12_in, .initialized RX12, .code yX12_in cX12_in 3 (some .boolean)])) (goodIn_sub ifX12_wish_X12 (by decide +kernel))) (goodIn_sub ifX12_wish_X11 (by decide +kernel)))
set_option maxRecDepth 20000 in
theorem gfX12_wish_2 : GoodIn vfX12_wish (wsV RX12 316 RX11 yX11_wish vfX11_wish) := goodIn_app (goodIn_r [.methodLink RX12 316 yX11_wish, .instanceMethod yX11_wish, .selects RX11 yX11_wish yX11_wish, .initialized RX11] [15, 16, 17, 18] (by decide +kernel) (by decide +kernel)) (goodIn_ca (goodIn_r (.code yX11_wish cX11_wish 5 (some .int) :: [.fieldLink RX11 28 "HookPierModel$Pier" "hunger" "[I", .methodLink RX11 62 yX11_wishBy, .instanceMethod yX11_wishBy, .selects RX11 yX11_wishBy yX11_wishBy, .initialized RX11, .code yX11_wishBy cX11_wishBy 7 (some .int), .fieldLink RX11 19 "HookPierModel$Pier" "kind" "[I", .fieldLink RX11 22 "HookPierModel$Pier" "spot" "[I", .code yX12_apart cX12_apart 2 (some .int), .initialized RX12, .static yX12_apart, .methodLink RX11 70 yX11_cut, .static yX11_cut, .code yX11_cut cX11_cut 1 (some .int), .fieldLink RX11 25 "HookPierModel$Pier" "depth" "[I", .fieldLink RX11 31 "HookPierModel$Pier" "likes" "[I"]) [19, 20, 21, 22, 23, 18, 24, 25, 26, 27, 5, 28, 29, 30, 31, 32, 33] (by decide +kernel) (by decide +kernel) : GoodIn vfX12_wish (.code yX11_wish cX11_wish 5 (some .int) :: [.fieldLink RX11 28 "HookPierModel$Pier" "hunger" "[I", .methodLink RX11 62 yX11_wishBy, .instanceMethod yX11_wishBy, .selects RX11 yX11_wishBy yX11_wishBy, .initialized RX11, .code yX11_wishBy cX11_wishBy 7 (some .int), .fieldLink RX11 19 "HookPierModel$Pier" "kind" "[I", .fieldLink RX11 22 "HookPierModel$Pier" "spot" "[I", .code yX12_apart cX12_apart 2 (some .int), .initialized RX12, .static yX12_apart, .methodLink RX11 70 yX11_cut, .static yX11_cut, .code yX11_cut cX11_cut 1 (some .int), .fieldLink RX11 25 "HookPierModel$Pier" "depth" "[I", .fieldLink RX11 31 "HookPierModel$Pier" "likes" "[I"])) (goodIn_sub ifX12_wish_X11 (by decide +kernel)))
set_option maxRecDepth 20000 in
theorem gfX12_wish_3 : GoodIn vfX12_wish (wsV RX12 46 RX12 yX12_good vfX12_good) := goodIn_app (goodIn_r [.methodLink RX12 46 yX12_good, .instanceMethod yX12_good, .selects RX12 yX12_good yX12_good, .initialized RX12] [34, 35, 36, 5] (by decide +kernel) (by decide +kernel)) (goodIn_ca (goodIn_r (.code yX12_good cX12_good 2 (some .int) :: [.fieldLink RX12 39 "HookPierModel" "trouble" "I", .fieldLink RX12 9 "HookPierModel" "where" "I"]) [37, 38, 39] (by decide +kernel) (by decide +kernel) : GoodIn vfX12_wish (.code yX12_good cX12_good 2 (some .int) :: [.fieldLink RX12 39 "HookPierModel" "trouble" "I", .fieldLink RX12 9 "HookPierModel" "where" "I"])) (goodIn_sub ifX12_wish_X12 (by decide +kernel)))
set_option maxRecDepth 20000 in
theorem gfX12_wish_4 : GoodIn vfX12_wish (wsV RX12 42 RX12 yX12_refused vfX12_refused) := goodIn_app (goodIn_r [.methodLink RX12 42 yX12_refused, .instanceMethod yX12_refused, .selects RX12 yX12_refused yX12_refused, .initialized RX12] [40, 41, 42, 5] (by decide +kernel) (by decide +kernel)) (goodIn_ca (goodIn_r (.code yX12_refused cX12_refused 2 (some .int) :: [.fieldLink RX12 39 "HookPierModel" "trouble" "I", .fieldLink RX12 9 "HookPierModel" "where" "I"]) [43, 38, 39] (by decide +kernel) (by decide +kernel) : GoodIn vfX12_wish (.code yX12_refused cX12_refused 2 (some .int) :: [.fieldLink RX12 39 "HookPierModel" "trouble" "I", .fieldLink RX12 9 "HookPierModel" "where" "I"])) (goodIn_sub ifX12_wish_X12 (by decide +kernel)))
set_option maxHeartbeats 2000000 in
set_option maxRecDepth 100000 in
theorem kfX12_wish (l : Launch) (dC : Nat → ClassId) (dI : Nat → Nat → Nat) (a0 : Nat) (k1 : Int32) (k2 : Int32) (k3 : Int32) (k4 : Int32) (a5 : Nat) (uq : Nat → Nat) (kq : Nat → ClassId) (m_t : TX12_t) (g9 : Value) (g10 : Value) (g11 : Value) (g12 : Value) (g13 : Value) (g14 : Value) (g15 : Value) (g16 : Value) (g17 : Value) (g18 : Value) (g19 : Value) (g20 : Value) (g21 : Value) (g22 : Value) (g23 : Value) (g24 : Value) (g25 : Value) (g26 : Value) (g27 : Value) (g28 : Value) (g29 : Value) (g30 : Value) (g31 : Value) (g32 : Value) (g33 : Value) (g34 : Value) (q_q : TX11_q) (sz : Nat) (out : (Int32 × TX12_t)) (h : f_X12_wish k1 k2 k3 k4 m_t q_q = some out) : Met l yX12_wish vfX12_wish ({ frames := 3, cells := 0, slots := 0, locals := 71 }) (PC (dC, dI) [.ref a0, .int k1, .int k2, .int k3, .int k4] sz ((a0, .inr (9, [.int m_t.1, .int m_t.2.1, .int m_t.2.2, .ref a5, g9, g10, g11, g12, g13, g14, g15, g16, g17, g18, g19, g20, g21, g22, g23, g24, g25, g26, g27, g28, g29, g30, g31, g32, g33, g34])) :: bX11 a5 uq kq q_q []) (tX11 kq ([]))) (va_Qi (S := Unit) (fun (r : Int32) _ => r = out.1) (fun _ t => BC (dC, dI) (va_A ((a0, .inr (9, [.int m_t.1, .int m_t.2.1, .int m_t.2.2, .ref a5, g9, g10, g11, g12, g13, g14, g15, g16, g17, g18, g19, g20, g21, g22, g23, g24, g25, g26, g27, g28, g29, g30, g31, g32, g33, g34])) :: bX11 a5 uq kq q_q []) sz) ((a0, .inr (9, [.int out.2.1, .int out.2.2.1, .int out.2.2.2, .ref a5, g9, g10, g11, g12, g13, g14, g15, g16, g17, g18, g19, g20, g21, g22, g23, g24, g25, g26, g27, g28, g29, g30, g31, g32, g33, g34])) :: bX11 a5 uq kq q_q []) [] t) (va_A ((a0, .inr (9, [.int m_t.1, .int m_t.2.1, .int m_t.2.2, .ref a5, g9, g10, g11, g12, g13, g14, g15, g16, g17, g18, g19, g20, g21, g22, g23, g24, g25, g26, g27, g28, g29, g30, g31, g32, g33, g34])) :: bX11 a5 uq kq q_q []) sz)) 0 0 (va_A ((a0, .inr (9, [.int m_t.1, .int m_t.2.1, .int m_t.2.2, .ref a5, g9, g10, g11, g12, g13, g14, g15, g16, g17, g18, g19, g20, g21, g22, g23, g24, g25, g26, g27, g28, g29, g30, g31, g32, g33, g34])) :: bX11 a5 uq kq q_q []) sz) := by
  refine Met.ofW (cc := cX12_wish) (maxL := 6) (ret := (some .int)) (by decide) rfl ?_
  intro p e s m args below meth c s₁ B0 hml hv
  obtain ⟨rfl, hsz, hP, hK, hD0, hN⟩ := hv
  have hx := B0.exec
  have hb := B0.bytes
  have hr := B0.returns
  have hts := atoms_spec (ws := vfX12_wish) B0.pre
  have hown : s.vm.findClass RX12 = some m.cls := findClass_of_methodNamed B0.named
  have hlocks := B0.notSynchronized
  subst hsz
  have hD := hD0.self (sz := s.heap.size)
  generalize hAe : va_A ((a0, .inr (9, [.int m_t.1, .int m_t.2.1, .int m_t.2.2, .ref a5, g9, g10, g11, g12, g13, g14, g15, g16, g17, g18, g19, g20, g21, g22, g23, g24, g25, g26, g27, g28, g29, g30, g31, g32, g33, g34])) :: bX11 a5 uq kq q_q []) s.heap.size = A at hD ⊢
  have hA : ∀ q : Nat, s.heap.size ≤ q → A q := fun q h => by rw [← hAe]; exact Or.inr h
  have hS : va_S A s.heap s.heap [] := va_S.rf
  have hP : va_P (dC, dI) vwCl ((a0, .inr (9, [.int m_t.1, .int m_t.2.1, .int m_t.2.2, .ref a5, g9, g10, g11, g12, g13, g14, g15, g16, g17, g18, g19, g20, g21, g22, g23, g24, g25, g26, g27, g28, g29, g30, g31, g32, g33, g34])) :: bX11 a5 uq kq q_q []) s.heap := hP
  have hl := lv_entry ([.ref a0, .int k1, .int k2, .int k3, .int k4]) (n := 6) (Nat.le_of_ble_eq_true rfl)
  rw [lg_entry_eq]
  generalize (lg_sl ([.ref a0, .int k1, .int k2, .int k3, .int k4]) ++ List.replicate (6 - (lg_sl ([.ref a0, .int k1, .int k2, .int k3, .int k4])).length) Slot.unset).toArray = ls at hl ⊢
  have hl : lv_has ls 6 [(0, .ref a0), (1, .int k1), (2, .int k2), (3, .int k3), (4, .int k4)] := hl
  refine W_q (fun QQ hQQ => ?_)
  rw [f_X12_wish] at h
  refine lv_aload_n hx hb dX12_wish_0 rfl (lv_at hl 0 rfl) ?_
  refine lv_iconst (v := 0) hx hb dX12_wish_1 (by decide) ?_
  refine va_put (D := (dC, dI)) (ci := 9) (v := .int 0) (ty := .int) (C := RX12) (T := TX12) (N := 30) hx hb hts ifX12_wish_X12 tyX12 tyX12_ok nmX12 hown hK hP hD hS 0 rfl rfl 0 (by decide) (hts (.fieldLink RX12 36 "HookPierModel" "thrown" "I") (List.mem_of_getElem? (i := 1) rfl)) (fun _ h9 => h9) rfl (by decide +kernel) rfl rfl (Nat.le_of_ble_eq_true rfl) dX12_wish_2 (fun H locs hP hD hS => ?_)
  have hP : va_P (dC, dI) vwCl ((a0, .inr (9, [.int 0, .int m_t.2.1, .int m_t.2.2, .ref a5, g9, g10, g11, g12, g13, g14, g15, g16, g17, g18, g19, g20, g21, g22, g23, g24, g25, g26, g27, g28, g29, g30, g31, g32, g33, g34])) :: bX11 a5 uq kq q_q []) H := hP
  have hD : va_D A ((a0, .inr (9, [.int 0, .int m_t.2.1, .int m_t.2.2, .ref a5, g9, g10, g11, g12, g13, g14, g15, g16, g17, g18, g19, g20, g21, g22, g23, g24, g25, g26, g27, g28, g29, g30, g31, g32, g33, g34])) :: bX11 a5 uq kq q_q []) := hD
  refine lv_aload_n hx hb dX12_wish_5 rfl (lv_at hl 0 rfl) ?_
  refine lv_aload_n hx hb dX12_wish_6 rfl (lv_at hl 0 rfl) ?_
  refine lv_iload_n hx hb dX12_wish_7 rfl (lv_at hl 1 rfl) ?_
  obtain ⟨o8, eo8⟩ : ∃ o, o = f_X12_isAnswer k1 q_q := ⟨_, rfl⟩
  have h := nm_of h o8 eo8
  refine cl_i (wc := ((a0, .inr (9, [.int 0, .int m_t.2.1, .int m_t.2.2, .ref a5, g9, g10, g11, g12, g13, g14, g15, g16, g17, g18, g19, g20, g21, g22, g23, g24, g25, g26, g27, g28, g29, g30, g31, g32, g33, g34])) :: bX11 a5 uq kq q_q [])) (wr := []) (va_runV (As := [.int k1]) (rest := [.ref a0]) ⟨hx, hb, hml, hown, hts⟩ (kfX12_isAnswer l dC dI a0 k1 a5 uq kq (.int 0) (.int m_t.2.1) (.int m_t.2.2) (g9) (g10) (g11) (g12) (g13) (g14) (g15) (g16) (g17) (g18) (g19) (g20) (g21) (g22) (g23) (g24) (g25) (g26) (g27) (g28) (g29) (g30) (g31) (g32) (g33) (g34) q_q H.size o8 eo8.symm) (cwV 1 hts gfX12_wish_0 rfl rfl rfl (by decide +kernel) ⟨(Nat.le_of_ble_eq_true rfl), (Nat.le_of_ble_eq_true rfl)⟩) (PV (hP.sub (ws' := ((a0, .inr (9, [.int 0, .int m_t.2.1, .int m_t.2.2, .ref a5, g9, g10, g11, g12, g13, g14, g15, g16, g17, g18, g19, g20, g21, g22, g23, g24, g25, g26, g27, g28, g29, g30, g31, g32, g33, g34])) :: bX11 a5 uq kq q_q [])) [0, 1, 2, 3, 4, 5, 6, 7, 8, 9, 10, 11, 12, 13, 14, 15] rfl) (hK.sub (tys' := (tX11 kq ([]))) [0, 1, 2, 3, 4, 5, 6, 7, 8, 9, 10, 11, 12, 13] rfl) (hD.sub (ws' := ((a0, .inr (9, [.int 0, .int m_t.2.1, .int m_t.2.2, .ref a5, g9, g10, g11, g12, g13, g14, g15, g16, g17, g18, g19, g20, g21, g22, g23, g24, g25, g26, g27, g28, g29, g30, g31, g32, g33, g34])) :: bX11 a5 uq kq q_q [])) [0, 1, 2, 3, 4, 5, 6, 7, 8, 9, 10, 11, 12, 13, 14, 15] (by decide) rfl) hN 0 rfl rfl) rfl rfl hl.1 rfl (lv_room (Nat.le_of_ble_eq_true rfl)) dX12_wish_8 ⟨(Nat.le_of_ble_eq_true rfl), (Nat.le_of_ble_eq_true rfl)⟩) hP hD hK hS hA [0, 1, 2, 3, 4, 5, 6, 7, 8, 9, 10, 11, 12, 13, 14, 15] [] rfl rfl (by decide) (by decide) (fun r8 _ H locs hw hP hD _ hS => ?_)
  obtain ⟨hw, br8⟩ := hw
  obtain rfl := hw.symm
  have hP : va_P (dC, dI) vwCl ((a0, .inr (9, [.int 0, .int m_t.2.1, .int m_t.2.2, .ref a5, g9, g10, g11, g12, g13, g14, g15, g16, g17, g18, g19, g20, g21, g22, g23, g24, g25, g26, g27, g28, g29, g30, g31, g32, g33, g34])) :: bX11 a5 uq kq q_q []) H := hP
  have hD : va_D A ((a0, .inr (9, [.int 0, .int m_t.2.1, .int m_t.2.2, .ref a5, g9, g10, g11, g12, g13, g14, g15, g16, g17, g18, g19, g20, g21, g22, g23, g24, g25, g26, g27, g28, g29, g30, g31, g32, g33, g34])) :: bX11 a5 uq kq q_q []) := hD
  refine lv_iload_n hx hb dX12_wish_11 rfl (lv_at hl 2 rfl) ?_
  refine lv_iload_n hx hb dX12_wish_12 rfl (lv_at hl 3 rfl) ?_
  refine lv_iload hx hb dX12_wish_13 (lv_at hl 4 rfl) ?_
  obtain ⟨o15, eo15⟩ : ∃ o, o = f_X12_refusesQuestion o8 k2 k3 k4 q_q := ⟨_, rfl⟩
  have h := nm_of h o15 eo15
  refine cl_i (wc := ((a0, .inr (9, [.int 0, .int m_t.2.1, .int m_t.2.2, .ref a5, g9, g10, g11, g12, g13, g14, g15, g16, g17, g18, g19, g20, g21, g22, g23, g24, g25, g26, g27, g28, g29, g30, g31, g32, g33, g34])) :: bX11 a5 uq kq q_q [])) (wr := []) (va_runV (As := [.int o8, .int k2, .int k3, .int k4]) (rest := []) ⟨hx, hb, hml, hown, hts⟩ (kfX12_refusesQuestion l dC dI a0 o8 k2 k3 k4 a5 uq kq (.int 0) (.int m_t.2.1) (.int m_t.2.2) (g9) (g10) (g11) (g12) (g13) (g14) (g15) (g16) (g17) (g18) (g19) (g20) (g21) (g22) (g23) (g24) (g25) (g26) (g27) (g28) (g29) (g30) (g31) (g32) (g33) (g34) q_q H.size o15 eo15.symm) (cwV 4 hts gfX12_wish_1 rfl rfl rfl (by decide +kernel) ⟨(Nat.le_of_ble_eq_true rfl), (Nat.le_of_ble_eq_true rfl)⟩) (PV (hP.sub (ws' := ((a0, .inr (9, [.int 0, .int m_t.2.1, .int m_t.2.2, .ref a5, g9, g10, g11, g12, g13, g14, g15, g16, g17, g18, g19, g20, g21, g22, g23, g24, g25, g26, g27, g28, g29, g30, g31, g32, g33, g34])) :: bX11 a5 uq kq q_q [])) [0, 1, 2, 3, 4, 5, 6, 7, 8, 9, 10, 11, 12, 13, 14, 15] rfl) (hK.sub (tys' := (tX11 kq ([]))) [0, 1, 2, 3, 4, 5, 6, 7, 8, 9, 10, 11, 12, 13] rfl) (hD.sub (ws' := ((a0, .inr (9, [.int 0, .int m_t.2.1, .int m_t.2.2, .ref a5, g9, g10, g11, g12, g13, g14, g15, g16, g17, g18, g19, g20, g21, g22, g23, g24, g25, g26, g27, g28, g29, g30, g31, g32, g33, g34])) :: bX11 a5 uq kq q_q [])) [0, 1, 2, 3, 4, 5, 6, 7, 8, 9, 10, 11, 12, 13, 14, 15] (by decide) rfl) hN 0 rfl rfl) rfl rfl hl.1 rfl (lv_room (Nat.le_of_ble_eq_true rfl)) dX12_wish_15 ⟨(Nat.le_of_ble_eq_true rfl), (Nat.le_of_ble_eq_true rfl)⟩) hP hD hK hS hA [0, 1, 2, 3, 4, 5, 6, 7, 8, 9, 10, 11, 12, 13, 14, 15] [] rfl rfl (by decide) (by decide) (fun r15 _ H locs hw hP hD _ hS => ?_)
  obtain rfl := hw.symm
  have hP : va_P (dC, dI) vwCl ((a0, .inr (9, [.int 0, .int m_t.2.1, .int m_t.2.2, .ref a5, g9, g10, g11, g12, g13, g14, g15, g16, g17, g18, g19, g20, g21, g22, g23, g24, g25, g26, g27, g28, g29, g30, g31, g32, g33, g34])) :: bX11 a5 uq kq q_q []) H := hP
  have hD : va_D A ((a0, .inr (9, [.int 0, .int m_t.2.1, .int m_t.2.2, .ref a5, g9, g10, g11, g12, g13, g14, g15, g16, g17, g18, g19, g20, g21, g22, g23, g24, g25, g26, g27, g28, g29, g30, g31, g32, g33, g34])) :: bX11 a5 uq kq q_q []) := hD
  refine lv_istore (lv' := [(5, .int o15), (0, .ref a0), (1, .int k1), (2, .int k2), (3, .int k3), (4, .int k4)]) hx hb dX12_wish_18 hl (by decide) rfl (fun ls hl => ?_)
  refine lv_iload hx hb dX12_wish_20 (lv_at hl 0 rfl) ?_
  refine lv_if_le (tgt := 34) hx hb dX12_wish_22 (by decide) (fun c22 => ?_) (fun c22 => ?_)
  · have h := (if_pos c22).symm.trans h
    refine lv_aload_n hx hb dX12_wish_34 rfl (lv_at hl 1 rfl) ?_
    refine lv_aload_n hx hb dX12_wish_35 rfl (lv_at hl 1 rfl) ?_
    refine va_get (D := (dC, dI)) (ci := 9) (v := .ref a5) (C := RX12) (T := TX12) (N := 30) hx hb hts ifX12_wish_X12 hown hK hP 0 rfl rfl 3 (by decide) (hts (.fieldLink RX12 299 "HookPierModel" "pier" "LHookPierModel$Pier;") (List.mem_of_getElem? (i := 7) rfl)) (fun _ h9 => h9) rfl dX12_wish_36 ?_
    refine lv_iload_n hx hb dX12_wish_39 rfl (lv_at hl 2 rfl) ?_
    refine lv_iload_n hx hb dX12_wish_40 rfl (lv_at hl 3 rfl) ?_
    refine lv_iload_n hx hb dX12_wish_41 rfl (lv_at hl 4 rfl) ?_
    refine lv_iload hx hb dX12_wish_42 (lv_at hl 5 rfl) ?_
    obtain ⟨o44, eo44, h⟩ := bd_of h
    refine cl_i (wc := (bX11 a5 uq kq q_q [])) (wr := ([(a0, .inr (9, [.int 0, .int m_t.2.1, .int m_t.2.2, .ref a5, g9, g10, g11, g12, g13, g14, g15, g16, g17, g18, g19, g20, g21, g22, g23, g24, g25, g26, g27, g28, g29, g30, g31, g32, g33, g34]))])) (va_runV (As := [.int k1, .int k2, .int k3, .int k4]) (rest := [.ref a0]) ⟨hx, hb, hml, hown, hts⟩ (kfX11_wish l dC dI a5 k1 k2 k3 k4 uq kq q_q H.size o44 eo44) (cwV 4 hts gfX12_wish_2 rfl rfl rfl (by decide +kernel) ⟨(Nat.le_of_ble_eq_true rfl), (Nat.le_of_ble_eq_true rfl)⟩) (PV (hP.sub (ws' := (bX11 a5 uq kq q_q [])) [1, 2, 3, 4, 5, 6, 7, 8, 9, 10, 11, 12, 13, 14, 15] rfl) (hK.sub (tys' := (tX11 kq ([]))) [0, 1, 2, 3, 4, 5, 6, 7, 8, 9, 10, 11, 12, 13] rfl) (hD.sub (ws' := (bX11 a5 uq kq q_q [])) [1, 2, 3, 4, 5, 6, 7, 8, 9, 10, 11, 12, 13, 14, 15] (by decide) rfl) hN 0 rfl rfl) rfl rfl hl.1 rfl (lv_room (Nat.le_of_ble_eq_true rfl)) dX12_wish_44 ⟨(Nat.le_of_ble_eq_true rfl), (Nat.le_of_ble_eq_true rfl)⟩) hP hD hK hS hA [1, 2, 3, 4, 5, 6, 7, 8, 9, 10, 11, 12, 13, 14, 15] [0] rfl rfl (by decide) (by decide) (fun r44 _ H locs hw hP hD _ hS => ?_)
    obtain rfl := hw.symm
    have hP : va_P (dC, dI) vwCl ((a0, .inr (9, [.int 0, .int m_t.2.1, .int m_t.2.2, .ref a5, g9, g10, g11, g12, g13, g14, g15, g16, g17, g18, g19, g20, g21, g22, g23, g24, g25, g26, g27, g28, g29, g30, g31, g32, g33, g34])) :: bX11 a5 uq kq q_q []) H := hP
    have hD : va_D A ((a0, .inr (9, [.int 0, .int m_t.2.1, .int m_t.2.2, .ref a5, g9, g10, g11, g12, g13, g14, g15, g16, g17, g18, g19, g20, g21, g22, g23, g24, g25, g26, g27, g28, g29, g30, g31, g32, g33, g34])) :: bX11 a5 uq kq q_q []) := hD
    obtain ⟨o47, eo47⟩ : ∃ o, o = f_X12_good o44 ((0 : Int32), m_t.2) := ⟨_, rfl⟩
    have h := nm_of h o47 eo47
    refine cl_i (wc := ([(a0, .inr (9, [.int 0, .int m_t.2.1, .int m_t.2.2, .ref a5, g9, g10, g11, g12, g13, g14, g15, g16, g17, g18, g19, g20, g21, g22, g23, g24, g25, g26, g27, g28, g29, g30, g31, g32, g33, g34]))])) (wr := (bX11 a5 uq kq q_q [])) (va_runV (As := [.int o44]) (rest := []) ⟨hx, hb, hml, hown, hts⟩ (kfX12_good l dC dI a0 o44 ((0 : Int32), m_t.2) (.ref a5) (g9) (g10) (g11) (g12) (g13) (g14) (g15) (g16) (g17) (g18) (g19) (g20) (g21) (g22) (g23) (g24) (g25) (g26) (g27) (g28) (g29) (g30) (g31) (g32) (g33) (g34) H.size o47 eo47.symm) (cwV 1 hts gfX12_wish_3 rfl rfl rfl (by decide +kernel) ⟨(Nat.le_of_ble_eq_true rfl), (Nat.le_of_ble_eq_true rfl)⟩) (PV (hP.sub (ws' := ([(a0, .inr (9, [.int 0, .int m_t.2.1, .int m_t.2.2, .ref a5, g9, g10, g11, g12, g13, g14, g15, g16, g17, g18, g19, g20, g21, g22, g23, g24, g25, g26, g27, g28, g29, g30, g31, g32, g33, g34]))])) [0] rfl) (hK.sub (tys' := ([])) [] rfl) (hD.sub (ws' := ([(a0, .inr (9, [.int 0, .int m_t.2.1, .int m_t.2.2, .ref a5, g9, g10, g11, g12, g13, g14, g15, g16, g17, g18, g19, g20, g21, g22, g23, g24, g25, g26, g27, g28, g29, g30, g31, g32, g33, g34]))])) [0] (by decide) rfl) hN 0 rfl rfl) rfl rfl hl.1 rfl (lv_room (Nat.le_of_ble_eq_true rfl)) dX12_wish_47 ⟨(Nat.le_of_ble_eq_true rfl), (Nat.le_of_ble_eq_true rfl)⟩) hP hD hK hS hA [0] [1, 2, 3, 4, 5, 6, 7, 8, 9, 10, 11, 12, 13, 14, 15] rfl rfl (by decide) (by decide) (fun r47 _ H locs hw hP hD _ hS => ?_)
    obtain rfl := hw
    have hP : va_P (dC, dI) vwCl (bX11 a5 uq kq q_q ([(a0, .inr (9, [.int o47.2.1, .int o47.2.2.1, .int o47.2.2.2, .ref a5, g9, g10, g11, g12, g13, g14, g15, g16, g17, g18, g19, g20, g21, g22, g23, g24, g25, g26, g27, g28, g29, g30, g31, g32, g33, g34]))])) H := hP
    have hD : va_D A (bX11 a5 uq kq q_q ([(a0, .inr (9, [.int o47.2.1, .int o47.2.2.1, .int o47.2.2.2, .ref a5, g9, g10, g11, g12, g13, g14, g15, g16, g17, g18, g19, g20, g21, g22, g23, g24, g25, g26, g27, g28, g29, g30, g31, g32, g33, g34]))])) := hD
    obtain rfl := Option.some.inj h
    have hP9 := hP.sub (ws' := ((a0, .inr (9, [.int o47.2.1, .int o47.2.2.1, .int o47.2.2.2, .ref a5, g9, g10, g11, g12, g13, g14, g15, g16, g17, g18, g19, g20, g21, g22, g23, g24, g25, g26, g27, g28, g29, g30, g31, g32, g33, g34])) :: bX11 a5 uq kq q_q [])) [15, 0, 1, 2, 3, 4, 5, 6, 7, 8, 9, 10, 11, 12, 13, 14] rfl
    have hD9 := hD.sub (ws' := ((a0, .inr (9, [.int o47.2.1, .int o47.2.2.1, .int o47.2.2.2, .ref a5, g9, g10, g11, g12, g13, g14, g15, g16, g17, g18, g19, g20, g21, g22, g23, g24, g25, g26, g27, g28, g29, g30, g31, g32, g33, g34])) :: bX11 a5 uq kq q_q [])) [15, 0, 1, 2, 3, 4, 5, 6, 7, 8, 9, 10, 11, 12, 13, 14] (by decide) rfl
    have hK9 := hK.sub (tys' := []) [] rfl
    rw [hQQ]
    exact W.iret (v := o47.1) hx hb hr (fun t ht hW => ⟨⟨o47.1, (), rfl, rfl, by rw [ht]; exact hP9, va_K.moved hW.alike hK9, hD9⟩, hS.F ht⟩) hS.2.2 dX12_wish_50
  · have h := (if_neg c22).symm.trans h
    refine lv_aload_n hx hb dX12_wish_25 rfl (lv_at hl 1 rfl) ?_
    refine lv_iload hx hb dX12_wish_26 (lv_at hl 0 rfl) ?_
    obtain ⟨o28, eo28⟩ : ∃ o, o = f_X12_refused o15 ((0 : Int32), m_t.2) := ⟨_, rfl⟩
    have h := nm_of h o28 eo28
    refine cl_i (wc := ([(a0, .inr (9, [.int 0, .int m_t.2.1, .int m_t.2.2, .ref a5, g9, g10, g11, g12, g13, g14, g15, g16, g17, g18, g19, g20, g21, g22, g23, g24, g25, g26, g27, g28, g29, g30, g31, g32, g33, g34]))])) (wr := (bX11 a5 uq kq q_q [])) (va_runV (As := [.int o15]) (rest := []) ⟨hx, hb, hml, hown, hts⟩ (kfX12_refused l dC dI a0 o15 ((0 : Int32), m_t.2) (.ref a5) (g9) (g10) (g11) (g12) (g13) (g14) (g15) (g16) (g17) (g18) (g19) (g20) (g21) (g22) (g23) (g24) (g25) (g26) (g27) (g28) (g29) (g30) (g31) (g32) (g33) (g34) H.size o28 eo28.symm) (cwV 1 hts gfX12_wish_4 rfl rfl rfl (by decide +kernel) ⟨(Nat.le_of_ble_eq_true rfl), (Nat.le_of_ble_eq_true rfl)⟩) (PV (hP.sub (ws' := ([(a0, .inr (9, [.int 0, .int m_t.2.1, .int m_t.2.2, .ref a5, g9, g10, g11, g12, g13, g14, g15, g16, g17, g18, g19, g20, g21, g22, g23, g24, g25, g26, g27, g28, g29, g30, g31, g32, g33, g34]))])) [0] rfl) (hK.sub (tys' := ([])) [] rfl) (hD.sub (ws' := ([(a0, .inr (9, [.int 0, .int m_t.2.1, .int m_t.2.2, .ref a5, g9, g10, g11, g12, g13, g14, g15, g16, g17, g18, g19, g20, g21, g22, g23, g24, g25, g26, g27, g28, g29, g30, g31, g32, g33, g34]))])) [0] (by decide) rfl) hN 0 rfl rfl) rfl rfl hl.1 rfl (lv_room (Nat.le_of_ble_eq_true rfl)) dX12_wish_28 ⟨(Nat.le_of_ble_eq_true rfl), (Nat.le_of_ble_eq_true rfl)⟩) hP hD hK hS hA [0] [1, 2, 3, 4, 5, 6, 7, 8, 9, 10, 11, 12, 13, 14, 15] rfl rfl (by decide) (by decide) (fun r28 _ H locs hw hP hD _ hS => ?_)
    obtain rfl := hw
    have hP : va_P (dC, dI) vwCl (bX11 a5 uq kq q_q ([(a0, .inr (9, [.int o28.1, .int o28.2.1, .int o28.2.2, .ref a5, g9, g10, g11, g12, g13, g14, g15, g16, g17, g18, g19, g20, g21, g22, g23, g24, g25, g26, g27, g28, g29, g30, g31, g32, g33, g34]))])) H := hP
    have hD : va_D A (bX11 a5 uq kq q_q ([(a0, .inr (9, [.int o28.1, .int o28.2.1, .int o28.2.2, .ref a5, g9, g10, g11, g12, g13, g14, g15, g16, g17, g18, g19, g20, g21, g22, g23, g24, g25, g26, g27, g28, g29, g30, g31, g32, g33, g34]))])) := hD
    refine lv_goto (tgt := 50) hx hb dX12_wish_31 (by decide) ?_
    obtain rfl := Option.some.inj h
    have hP9 := hP.sub (ws' := ((a0, .inr (9, [.int o28.1, .int o28.2.1, .int o28.2.2, .ref a5, g9, g10, g11, g12, g13, g14, g15, g16, g17, g18, g19, g20, g21, g22, g23, g24, g25, g26, g27, g28, g29, g30, g31, g32, g33, g34])) :: bX11 a5 uq kq q_q [])) [15, 0, 1, 2, 3, 4, 5, 6, 7, 8, 9, 10, 11, 12, 13, 14] rfl
    have hD9 := hD.sub (ws' := ((a0, .inr (9, [.int o28.1, .int o28.2.1, .int o28.2.2, .ref a5, g9, g10, g11, g12, g13, g14, g15, g16, g17, g18, g19, g20, g21, g22, g23, g24, g25, g26, g27, g28, g29, g30, g31, g32, g33, g34])) :: bX11 a5 uq kq q_q [])) [15, 0, 1, 2, 3, 4, 5, 6, 7, 8, 9, 10, 11, 12, 13, 14] (by decide) rfl
    have hK9 := hK.sub (tys' := []) [] rfl
    rw [hQQ]
    exact W.iret (v := (-1 : Int32)) hx hb hr (fun t ht hW => ⟨⟨(-1 : Int32), (), rfl, rfl, by rw [ht]; exact hP9, va_K.moved hW.alike hK9, hD9⟩, hS.F ht⟩) hS.2.2 dX12_wish_50
theorem dX12_oddsOf_0 : decode cX12_oddsOf 0 = .ok (.aload_n 0, 1) := by decide +kernel
theorem dX12_oddsOf_1 : decode cX12_oddsOf 1 = .ok (.getfield 17, 3) := by decide +kernel
theorem dX12_oddsOf_11 : decode cX12_oddsOf 11 = .ok (.lconst 0, 1) := by decide +kernel
theorem dX12_oddsOf_12 : decode cX12_oddsOf 12 = .ok (.lreturn, 1) := by decide +kernel
theorem dX12_oddsOf_13 : decode cX12_oddsOf 13 = .ok (.lconst 1, 1) := by decide +kernel
theorem dX12_oddsOf_14 : decode cX12_oddsOf 14 = .ok (.lstore_n 3, 1) := by decide +kernel
theorem dX12_oddsOf_15 : decode cX12_oddsOf 15 = .ok (.iconst 0, 1) := by decide +kernel
theorem dX12_oddsOf_16 : decode cX12_oddsOf 16 = .ok (.istore 5, 2) := by decide +kernel
theorem dX12_oddsOf_18 : decode cX12_oddsOf 18 = .ok (.iload 5, 2) := by decide +kernel
theorem dX12_oddsOf_20 : decode cX12_oddsOf 20 = .ok (.aload_n 0, 1) := by decide +kernel
theorem dX12_oddsOf_21 : decode cX12_oddsOf 21 = .ok (.getfield 299, 3) := by decide +kernel
theorem dX12_oddsOf_24 : decode cX12_oddsOf 24 = .ok (.getfield 231, 3) := by decide +kernel
theorem dX12_oddsOf_27 : decode cX12_oddsOf 27 = .ok (.if_icmp .ge 68, 3) := by decide +kernel
theorem dX12_oddsOf_30 : decode cX12_oddsOf 30 = .ok (.aload_n 0, 1) := by decide +kernel
theorem dX12_oddsOf_31 : decode cX12_oddsOf 31 = .ok (.getfield 17, 3) := by decide +kernel
theorem dX12_oddsOf_34 : decode cX12_oddsOf 34 = .ok (.iconst 0, 1) := by decide +kernel
theorem dX12_oddsOf_35 : decode cX12_oddsOf 35 = .ok (.iload 5, 2) := by decide +kernel
theorem dX12_oddsOf_37 : decode cX12_oddsOf 37 = .ok (.iadd, 1) := by decide +kernel
theorem dX12_oddsOf_38 : decode cX12_oddsOf 38 = .ok (.iaload, 1) := by decide +kernel
theorem dX12_oddsOf_39 : decode cX12_oddsOf 39 = .ok (.ifCond .eq 6, 3) := by decide +kernel
theorem dX12_oddsOf_4 : decode cX12_oddsOf 4 = .ok (.iconst 0, 1) := by decide +kernel
theorem dX12_oddsOf_42 : decode cX12_oddsOf 42 = .ok (.goto 47, 3) := by decide +kernel
theorem dX12_oddsOf_45 : decode cX12_oddsOf 45 = .ok (.lload_n 3, 1) := by decide +kernel
theorem dX12_oddsOf_46 : decode cX12_oddsOf 46 = .ok (.iload 5, 2) := by decide +kernel
theorem dX12_oddsOf_48 : decode cX12_oddsOf 48 = .ok (.iload_n 1, 1) := by decide +kernel
theorem dX12_oddsOf_49 : decode cX12_oddsOf 49 = .ok (.if_icmp .ge 18, 3) := by decide +kernel
theorem dX12_oddsOf_5 : decode cX12_oddsOf 5 = .ok (.iload_n 1, 1) := by decide +kernel
theorem dX12_oddsOf_52 : decode cX12_oddsOf 52 = .ok (.ldc2_w 344, 3) := by decide +kernel
theorem dX12_oddsOf_55 : decode cX12_oddsOf 55 = .ok (.aload_n 0, 1) := by decide +kernel
theorem dX12_oddsOf_56 : decode cX12_oddsOf 56 = .ok (.iload 5, 2) := by decide +kernel
theorem dX12_oddsOf_58 : decode cX12_oddsOf 58 = .ok (.iload_n 2, 1) := by decide +kernel
theorem dX12_oddsOf_59 : decode cX12_oddsOf 59 = .ok (.invokevirtual 346, 3) := by decide +kernel
theorem dX12_oddsOf_6 : decode cX12_oddsOf 6 = .ok (.iadd, 1) := by decide +kernel
theorem dX12_oddsOf_62 : decode cX12_oddsOf 62 = .ok (.i2l, 1) := by decide +kernel
theorem dX12_oddsOf_63 : decode cX12_oddsOf 63 = .ok (.lsub, 1) := by decide +kernel
theorem dX12_oddsOf_64 : decode cX12_oddsOf 64 = .ok (.goto 23, 3) := by decide +kernel
theorem dX12_oddsOf_67 : decode cX12_oddsOf 67 = .ok (.iload 5, 2) := by decide +kernel
theorem dX12_oddsOf_69 : decode cX12_oddsOf 69 = .ok (.iload_n 1, 1) := by decide +kernel
theorem dX12_oddsOf_7 : decode cX12_oddsOf 7 = .ok (.iaload, 1) := by decide +kernel
theorem dX12_oddsOf_70 : decode cX12_oddsOf 70 = .ok (.if_icmp .ne 14, 3) := by decide +kernel
theorem dX12_oddsOf_73 : decode cX12_oddsOf 73 = .ok (.aload_n 0, 1) := by decide +kernel
theorem dX12_oddsOf_74 : decode cX12_oddsOf 74 = .ok (.iload 5, 2) := by decide +kernel
theorem dX12_oddsOf_76 : decode cX12_oddsOf 76 = .ok (.iload_n 2, 1) := by decide +kernel
theorem dX12_oddsOf_77 : decode cX12_oddsOf 77 = .ok (.invokevirtual 346, 3) := by decide +kernel
theorem dX12_oddsOf_8 : decode cX12_oddsOf 8 = .ok (.ifCond .eq 5, 3) := by decide +kernel
theorem dX12_oddsOf_80 : decode cX12_oddsOf 80 = .ok (.i2l, 1) := by decide +kernel
theorem dX12_oddsOf_81 : decode cX12_oddsOf 81 = .ok (.goto 6, 3) := by decide +kernel
theorem dX12_oddsOf_84 : decode cX12_oddsOf 84 = .ok (.ldc2_w 344, 3) := by decide +kernel
theorem dX12_oddsOf_87 : decode cX12_oddsOf 87 = .ok (.lmul, 1) := by decide +kernel
theorem dX12_oddsOf_88 : decode cX12_oddsOf 88 = .ok (.lstore_n 3, 1) := by decide +kernel
theorem dX12_oddsOf_89 : decode cX12_oddsOf 89 = .ok (.iinc 5 1, 3) := by decide +kernel
theorem dX12_oddsOf_92 : decode cX12_oddsOf 92 = .ok (.goto (-74), 3) := by decide +kernel
theorem dX12_oddsOf_95 : decode cX12_oddsOf 95 = .ok (.lload_n 3, 1) := by decide +kernel
theorem dX12_oddsOf_96 : decode cX12_oddsOf 96 = .ok (.lreturn, 1) := by decide +kernel
def vfX12_oddsOf : List Cond := .code yX12_oddsOf cX12_oddsOf 6 (some .long) :: ([.fieldLink RX12 17 "HookPierModel" "v" "[I", .fieldLink RX12 299 "HookPierModel" "pier" "LHookPierModel$Pier;", .constantLong RX12 344 (100), .methodLink RX12 346 yX12_wishOf, .instanceMethod yX12_wishOf, .selects RX12 yX12_wishOf yX12_wishOf, .initialized RX12, .code yX12_wishOf cX12_wishOf 3 (some .int), .methodLink RX12 307 yX12_spotOf, .instanceMethod yX12_spotOf, .selects RX12 yX12_spotOf yX12_spotOf, .code yX12_spotOf cX12_spotOf 2 (some .int), .methodLink RX12 310 yX12_fathomsOf, .instanceMethod yX12_fathomsOf, .selects RX12 yX12_fathomsOf yX12_fathomsOf, .code yX12_fathomsOf cX12_fathomsOf 2 (some .int), .methodLink RX12 313 yX12_baitOf, .instanceMethod yX12_baitOf, .selects RX12 yX12_baitOf yX12_baitOf, .code yX12_baitOf cX12_baitOf 2 (some .int), .methodLink RX12 316 yX11_wish, .instanceMethod yX11_wish, .selects RX11 yX11_wish yX11_wish, .initialized RX11, .code yX11_wish cX11_wish 5 (some .int), .fieldLink RX11 28 "HookPierModel$Pier" "hunger" "[I", .methodLink RX11 62 yX11_wishBy, .instanceMethod yX11_wishBy, .selects RX11 yX11_wishBy yX11_wishBy, .code yX11_wishBy cX11_wishBy 7 (some .int), .fieldLink RX11 19 "HookPierModel$Pier" "kind" "[I", .fieldLink RX11 22 "HookPierModel$Pier" "spot" "[I", .code yX12_apart cX12_apart 2 (some .int), .static yX12_apart, .methodLink RX11 70 yX11_cut, .static yX11_cut, .code yX11_cut cX11_cut 1 (some .int), .fieldLink RX11 25 "HookPierModel$Pier" "depth" "[I", .fieldLink RX11 31 "HookPierModel$Pier" "likes" "[I"] ++ wsX120 ++ wsX110)
theorem ifX12_oddsOf_X12 : ∀ w ∈ wsX120, w ∈ vfX12_oddsOf := fun _ h => List.mem_cons_of_mem _ (List.mem_append_left _ (List.mem_append_right _ h))
theorem ifX12_oddsOf_X11 : ∀ w ∈ wsX110, w ∈ vfX12_oddsOf := fun _ h => List.mem_cons_of_mem _ (List.mem_append_right _ h)
set_option maxRecDepth 20000 in
theorem gfX12_oddsOf_0 : GoodIn vfX12_oddsOf (wsV RX12 346 RX12 yX12_wishOf vfX12_wishOf) := goodIn_app (goodIn_r [.methodLink RX12 346 yX12_wishOf, .instanceMethod yX12_wishOf, .selects RX12 yX12_wishOf yX12_wishOf, .initialized RX12] [4, 5, 6, 7] (by decide +kernel) (by decide +kernel)) (goodIn_ca (goodIn_ca (goodIn_r (.code yX12_wishOf cX12_wishOf 3 (some .int) :: [.fieldLink RX12 299 "HookPierModel" "pier" "LHookPierModel$Pier;", .methodLink RX12 307 yX12_spotOf, .instanceMethod yX12_spotOf, .selects RX12 yX12_spotOf yX12_spotOf, .initialized RX12, .code yX12_spotOf cX12_spotOf 2 (some .int), .methodLink RX12 310 yX12_fathomsOf, .instanceMethod yX12_fathomsOf, .selects RX12 yX12_fathomsOf yX12_fathomsOf, .code yX12_fathomsOf cX12_fathomsOf 2 (some .int), .methodLink RX12 313 yX12_baitOf, .instanceMethod yX12_baitOf, .selects RX12 yX12_baitOf yX12_baitOf, .code yX12_baitOf cX12_baitOf 2 (some .int), .methodLink RX12 316 yX11_wish, .instanceMethod yX11_wish, .selects RX11 yX11_wish yX11_wish, .initialized RX11, .code yX11_wish cX11_wish 5 (some .int), .fieldLink RX11 28 "HookPierModel$Pier" "hunger" "[I", .methodLink RX11 62 yX11_wishBy, .instanceMethod yX11_wishBy, .selects RX11 yX11_wishBy yX11_wishBy, .code yX11_wishBy cX11_wishBy 7 (some .int), .fieldLink RX11 19 "HookPierModel$Pier" "kind" "[I", .fieldLink RX11 22 "HookPierModel$Pier" "spot" "[I", .code yX12_apart cX12_apart 2 (some .int), .static yX12_apart, .methodLink RX11 70 yX11_cut, .static yX11_cut, .code yX11_cut cX11_cut 1 (some .int), .fieldLink RX11 25 "HookPierModel$Pier" "depth" "[I", .fieldLink RX11 31 "HookPierModel$Pier" "likes" "[I"]) [8, 2, 9, 10, 11, 7, 12, 13, 14, 15, 16, 17, 18, 19, 20, 21, 22, 23, 24, 25, 26, 27, 28, 29, 30, 31, 32, 33, 34, 35, 36, 37, 38, 39] (by decide +kernel) (by decide +kernel) : GoodIn vfX12_oddsOf (.code yX12_wishOf cX12_wishOf 3 (some .int) :: [.fieldLink RX12 299 "HookPierModel" "pier" "LHookPierModel$Pier;", .methodLink RX12 307 yX12_spotOf, .instanceMethod yX12_spotOf, .selects RX12 yX12_spotOf yX12_spotOf, .initialized RX12, .code yX12_spotOf cX12_spotOf 2 (some .int), .methodLink RX12 310 yX12_fathomsOf, .instanceMethod yX12_fathomsOf, .selects RX12 yX12_fathomsOf yX12_fathomsOf, .code yX12_fathomsOf cX12_fathomsOf 2 (some .int), .methodLink RX12 313 yX12_baitOf, .instanceMethod yX12_baitOf, .selects RX12 yX12_baitOf yX12_baitOf, .code yX12_baitOf cX12_baitOf 2 (some .int), .methodLink RX12 316 yX11_wish, .instanceMethod yX11_wish, .selects RX11 yX11_wish yX11_wish, .initialized RX11, .code yX11_wish cX11_wish 5 (some .int), .fieldLink RX11 28 "HookPierModel$Pier" "hunger" "[I", .methodLink RX11 62 yX11_wishBy, .instanceMethod yX11_wishBy, .selects RX11 yX11_wishBy yX11_wishBy, .code yX11_wishBy cX11_wishBy 7 (some .int), .fieldLink RX11 19 "HookPierModel$Pier" "kind" "[I", .fieldLink RX11 22 "HookPierModel$Pier" "spot" "[I", .code yX12_apart cX12_apart 2 (some .int), .static yX12_apart, .methodLink RX11 70 yX11_cut, .static yX11_cut, .code yX11_cut cX11_cut 1 (some .int), .fieldLink RX11 25 "HookPierModel$Pier" "depth" "[I", .fieldLink RX11 31 "HookPierModel$Pier" "likes" "[I"])) (goodIn_sub ifX12_oddsOf_X12 (by decide +kernel))) (goodIn_sub ifX12_oddsOf_X11 (by decide +kernel)))
set_option maxHeartbeats 2000000 in
set_option maxRecDepth 100000 in
theorem kfX12_oddsOf (l : Launch) (dC : Nat → ClassId) (dI : Nat → Nat → Nat) (a0 : Nat) (k1 : Int32) (k2 : Int32) (a3 : Nat) (a4 : Nat) (uq : Nat → Nat) (kq : Nat → ClassId) (m_v : TX12_v) (g8 : Value) (g9 : Value) (g10 : Value) (g11 : Value) (g12 : Value) (g13 : Value) (g14 : Value) (g15 : Value) (g16 : Value) (g17 : Value) (g18 : Value) (g19 : Value) (g20 : Value) (g21 : Value) (g22 : Value) (g23 : Value) (g24 : Value) (g25 : Value) (g26 : Value) (g27 : Value) (g28 : Value) (g29 : Value) (g30 : Value) (g31 : Value) (g32 : Value) (g33 : Value) (g34 : Value) (g35 : Value) (q_q : TX11_q) (cB37 : ClassId) (sz : Nat) (out : Int64) (h : f_X12_oddsOf k1 k2 m_v q_q = some out) : Met l yX12_oddsOf vfX12_oddsOf ({ frames := 4, cells := 0, slots := 0, locals := 93 }) (PC (dC, dI) [.ref a0, .int k1, .int k2] sz ((a0, .inr (9, [g8, g9, g10, .ref a3, g11, g12, g13, g14, g15, g16, g17, g18, g19, g20, g21, .ref a4, g22, g23, g24, g25, g26, g27, g28, g29, g30, g31, g32, g33, g34, g35])) :: bX11 a3 uq kq q_q ([(a4, .inl (cB37, 26, .inl m_v))])) (tX11 kq ((cB37, .int) :: []))) (va_Ql (S := Unit) (fun (r : Int64) _ => r = out) (fun _ t => BC (dC, dI) (va_A ((a0, .inr (9, [g8, g9, g10, .ref a3, g11, g12, g13, g14, g15, g16, g17, g18, g19, g20, g21, .ref a4, g22, g23, g24, g25, g26, g27, g28, g29, g30, g31, g32, g33, g34, g35])) :: bX11 a3 uq kq q_q ([(a4, .inl (cB37, 26, .inl m_v))])) sz) ((a0, .inr (9, [g8, g9, g10, .ref a3, g11, g12, g13, g14, g15, g16, g17, g18, g19, g20, g21, .ref a4, g22, g23, g24, g25, g26, g27, g28, g29, g30, g31, g32, g33, g34, g35])) :: bX11 a3 uq kq q_q ([(a4, .inl (cB37, 26, .inl m_v))])) [] t) (va_A ((a0, .inr (9, [g8, g9, g10, .ref a3, g11, g12, g13, g14, g15, g16, g17, g18, g19, g20, g21, .ref a4, g22, g23, g24, g25, g26, g27, g28, g29, g30, g31, g32, g33, g34, g35])) :: bX11 a3 uq kq q_q ([(a4, .inl (cB37, 26, .inl m_v))])) sz)) 0 0 (va_A ((a0, .inr (9, [g8, g9, g10, .ref a3, g11, g12, g13, g14, g15, g16, g17, g18, g19, g20, g21, .ref a4, g22, g23, g24, g25, g26, g27, g28, g29, g30, g31, g32, g33, g34, g35])) :: bX11 a3 uq kq q_q ([(a4, .inl (cB37, 26, .inl m_v))])) sz) := by
  refine Met.ofW (cc := cX12_oddsOf) (maxL := 6) (ret := (some .long)) (by decide) rfl ?_
  intro p e s m args below meth c s₁ B0 hml hv
  obtain ⟨rfl, hsz, hP, hK, hD0, hN⟩ := hv
  have hx := B0.exec
  have hb := B0.bytes
  have hr := B0.returns
  have hts := atoms_spec (ws := vfX12_oddsOf) B0.pre
  have hown : s.vm.findClass RX12 = some m.cls := findClass_of_methodNamed B0.named
  have hlocks := B0.notSynchronized
  subst hsz
  have hD := hD0.self (sz := s.heap.size)
  generalize hAe : va_A ((a0, .inr (9, [g8, g9, g10, .ref a3, g11, g12, g13, g14, g15, g16, g17, g18, g19, g20, g21, .ref a4, g22, g23, g24, g25, g26, g27, g28, g29, g30, g31, g32, g33, g34, g35])) :: bX11 a3 uq kq q_q ([(a4, .inl (cB37, 26, .inl m_v))])) s.heap.size = A at hD ⊢
  have hA : ∀ q : Nat, s.heap.size ≤ q → A q := fun q h => by rw [← hAe]; exact Or.inr h
  have hS : va_S A s.heap s.heap [] := va_S.rf
  have hP : va_P (dC, dI) vwCl ((a0, .inr (9, [g8, g9, g10, .ref a3, g11, g12, g13, g14, g15, g16, g17, g18, g19, g20, g21, .ref a4, g22, g23, g24, g25, g26, g27, g28, g29, g30, g31, g32, g33, g34, g35])) :: bX11 a3 uq kq q_q ([(a4, .inl (cB37, 26, .inl m_v))])) s.heap := hP
  have hl := lv_entry ([.ref a0, .int k1, .int k2]) (n := 6) (Nat.le_of_ble_eq_true rfl)
  rw [lg_entry_eq]
  generalize (lg_sl ([.ref a0, .int k1, .int k2]) ++ List.replicate (6 - (lg_sl ([.ref a0, .int k1, .int k2])).length) Slot.unset).toArray = ls at hl ⊢
  have hl : lv_has ls 6 [(0, .ref a0), (1, .int k1), (2, .int k2)] := hl
  refine W_q (fun QQ hQQ => ?_)
  rw [f_X12_oddsOf] at h
  refine lv_aload_n hx hb dX12_oddsOf_0 rfl (lv_at hl 0 rfl) ?_
  refine va_get (D := (dC, dI)) (ci := 9) (v := .ref a4) (C := RX12) (T := TX12) (N := 30) hx hb hts ifX12_oddsOf_X12 hown hK hP 0 rfl rfl 15 (by decide) (hts (.fieldLink RX12 17 "HookPierModel" "v" "[I") (List.mem_of_getElem? (i := 1) rfl)) (fun _ h9 => h9) rfl dX12_oddsOf_1 ?_
  refine lv_iconst (v := 0) hx hb dX12_oddsOf_4 (by decide) ?_
  refine lv_iload_n hx hb dX12_oddsOf_5 rfl (lv_at hl 1 rfl) ?_
  refine lv_iadd hx hb dX12_oddsOf_6 ?_
  obtain ⟨hg7, h⟩ := gA_of h
  refine va_iald hx hb hK hP 16 14 rfl rfl hg7 dX12_oddsOf_7 ?_
  refine lv_if_eq (tgt := 13) hx hb dX12_oddsOf_8 (by decide) (fun c8 => ?_) (fun c8 => ?_)
  · have h := (if_pos c8).symm.trans h
    refine lv_lconst (v := 1) hx hb dX12_oddsOf_13 (by decide) ?_
    refine lv_lstore_n (lv' := [(3, .long 1), (0, .ref a0), (1, .int k1), (2, .int k2)]) hx hb dX12_oddsOf_14 rfl hl (by decide) rfl (fun ls hl => ?_)
    refine lv_iconst (v := 0) hx hb dX12_oddsOf_15 (by decide) ?_
    refine lv_istore (lv' := [(5, .int 0), (3, .long 1), (0, .ref a0), (1, .int k1), (2, .int k2)]) hx hb dX12_oddsOf_16 hl (by decide) rfl (fun ls hl => ?_)
    have L18 : ∀ (n18 : Nat) (v18_l5 : Int32) (v18_l3 : Int64) (H : Heap) (locs : List Loc) (ls : Array Slot), f_X12_oddsOf_L18 k1 k2 m_v q_q n18 v18_l5 v18_l3 = some out → va_P (dC, dI) vwCl ((a0, .inr (9, [g8, g9, g10, .ref a3, g11, g12, g13, g14, g15, g16, g17, g18, g19, g20, g21, .ref a4, g22, g23, g24, g25, g26, g27, g28, g29, g30, g31, g32, g33, g34, g35])) :: bX11 a3 uq kq q_q ([(a4, .inl (cB37, 26, .inl m_v))])) H → va_D A ((a0, .inr (9, [g8, g9, g10, .ref a3, g11, g12, g13, g14, g15, g16, g17, g18, g19, g20, g21, .ref a4, g22, g23, g24, g25, g26, g27, g28, g29, g30, g31, g32, g33, g34, g35])) :: bX11 a3 uq kq q_q ([(a4, .inl (cB37, 26, .inl m_v))])) → va_S A s.heap H locs → lv_has ls 6 [(5, .int v18_l5), (3, .long v18_l3), (0, .ref a0), (1, .int k1), (2, .int k2)] → W p l e (headSpec vfX12_oddsOf { frames := 4, cells := 0, slots := 0, locals := 93 }).room s m ([.ref a0, .int k1, .int k2]).toArray below meth c H locs 0 0 QQ (F0 m 18 ls []) := by
      intro n18
      induction n18 with
      | zero =>
        intro v18_l5 v18_l3 H locs ls h  _ _ _ _
        rw [f_X12_oddsOf_L18] at h
        cases h
      | succ n18 ih18 =>
        intro v18_l5 v18_l3 H locs ls h  hP hD hS hl
        rw [f_X12_oddsOf_L18] at h
        refine lv_iload hx hb dX12_oddsOf_18 (lv_at hl 0 rfl) ?_
        refine lv_aload_n hx hb dX12_oddsOf_20 rfl (lv_at hl 2 rfl) ?_
        refine va_get (D := (dC, dI)) (ci := 9) (v := .ref a3) (C := RX12) (T := TX12) (N := 30) hx hb hts ifX12_oddsOf_X12 hown hK hP 0 rfl rfl 3 (by decide) (hts (.fieldLink RX12 299 "HookPierModel" "pier" "LHookPierModel$Pier;") (List.mem_of_getElem? (i := 2) rfl)) (fun _ h9 => h9) rfl dX12_oddsOf_21 ?_
        refine va_getN (D := (dC, dI)) (ci := 8) (v := .int q_q.2.2.2.2.2.2.1) (C := RX11) (T := TX11) (N := 24) hx hb hts ifX12_oddsOf_X11 hown hK hP 1 rfl rfl 6 (by decide) (va_Nw.use rfl (hN.1 (.fieldLinkNest RX12 231 "HookPierModel$Pier" "answers" "I" "HookPierModel") (List.mem_of_getElem? (i := 28) rfl))) (fun _ h9 => h9) rfl dX12_oddsOf_24 ?_
        refine lv_icmp_ge (tgt := 95) hx hb dX12_oddsOf_27 (by decide) (fun c27 => ?_) (fun c27 => ?_)
        · have h := (if_pos c27).symm.trans h
          refine lv_lload_n hx hb dX12_oddsOf_95 rfl (lv_at hl 1 rfl) ?_
          obtain rfl := Option.some.inj h
          have hP9 := hP.sub (ws' := ((a0, .inr (9, [g8, g9, g10, .ref a3, g11, g12, g13, g14, g15, g16, g17, g18, g19, g20, g21, .ref a4, g22, g23, g24, g25, g26, g27, g28, g29, g30, g31, g32, g33, g34, g35])) :: bX11 a3 uq kq q_q ([(a4, .inl (cB37, 26, .inl m_v))]))) [0, 1, 2, 3, 4, 5, 6, 7, 8, 9, 10, 11, 12, 13, 14, 15, 16] rfl
          have hD9 := hD.sub (ws' := ((a0, .inr (9, [g8, g9, g10, .ref a3, g11, g12, g13, g14, g15, g16, g17, g18, g19, g20, g21, .ref a4, g22, g23, g24, g25, g26, g27, g28, g29, g30, g31, g32, g33, g34, g35])) :: bX11 a3 uq kq q_q ([(a4, .inl (cB37, 26, .inl m_v))]))) [0, 1, 2, 3, 4, 5, 6, 7, 8, 9, 10, 11, 12, 13, 14, 15, 16] (by decide) rfl
          have hK9 := hK.sub (tys' := []) [] rfl
          rw [hQQ]
          exact W.lret (v := v18_l3) hx hb hr (fun t ht hW => ⟨⟨v18_l3, (), rfl, rfl, by rw [ht]; exact hP9, va_K.moved hW.alike hK9, hD9⟩, hS.F ht⟩) hS.2.2 dX12_oddsOf_96
        · have h := (if_neg c27).symm.trans h
          refine lv_aload_n hx hb dX12_oddsOf_30 rfl (lv_at hl 2 rfl) ?_
          refine va_get (D := (dC, dI)) (ci := 9) (v := .ref a4) (C := RX12) (T := TX12) (N := 30) hx hb hts ifX12_oddsOf_X12 hown hK hP 0 rfl rfl 15 (by decide) (hts (.fieldLink RX12 17 "HookPierModel" "v" "[I") (List.mem_of_getElem? (i := 1) rfl)) (fun _ h9 => h9) rfl dX12_oddsOf_31 ?_
          refine lv_iconst (v := 0) hx hb dX12_oddsOf_34 (by decide) ?_
          refine lv_iload hx hb dX12_oddsOf_35 (lv_at hl 0 rfl) ?_
          refine lv_iadd hx hb dX12_oddsOf_37 ?_
          obtain ⟨hg38, h⟩ := gA_of h
          refine va_iald hx hb hK hP 16 14 rfl rfl hg38 dX12_oddsOf_38 ?_
          have J89 : ∀ (v89_l3 : Int64) (H : Heap) (locs : List Loc) (ls : Array Slot), f_X12_oddsOf_J89 (f_X12_oddsOf_L18 k1 k2 m_v q_q n18) v18_l5 v89_l3 = some out → va_P (dC, dI) vwCl ((a0, .inr (9, [g8, g9, g10, .ref a3, g11, g12, g13, g14, g15, g16, g17, g18, g19, g20, g21, .ref a4, g22, g23, g24, g25, g26, g27, g28, g29, g30, g31, g32, g33, g34, g35])) :: bX11 a3 uq kq q_q ([(a4, .inl (cB37, 26, .inl m_v))])) H → va_D A ((a0, .inr (9, [g8, g9, g10, .ref a3, g11, g12, g13, g14, g15, g16, g17, g18, g19, g20, g21, .ref a4, g22, g23, g24, g25, g26, g27, g28, g29, g30, g31, g32, g33, g34, g35])) :: bX11 a3 uq kq q_q ([(a4, .inl (cB37, 26, .inl m_v))])) → va_S A s.heap H locs → lv_has ls 6 [(5, .int v18_l5), (3, .long v89_l3), (0, .ref a0), (1, .int k1), (2, .int k2)] → W p l e (headSpec vfX12_oddsOf { frames := 4, cells := 0, slots := 0, locals := 93 }).room s m ([.ref a0, .int k1, .int k2]).toArray below meth c H locs 0 0 QQ (F0 m 89 ls []) := by
            intro v89_l3 H locs ls h  hP hD hS hl
            rw [f_X12_oddsOf_J89] at h
            refine lv_iinc (v := (v18_l5 + (1 : Int32))) (lv' := [(5, .int (v18_l5 + (1 : Int32))), (3, .long v89_l3), (0, .ref a0), (1, .int k1), (2, .int k2)]) hx hb dX12_oddsOf_89 hl (k := 0) rfl rfl (by decide) rfl (fun ls hl => ?_)
            refine lv_goto (tgt := 18) hx hb dX12_oddsOf_92 (by decide) ?_
            exact ih18 (v18_l5 + (1 : Int32)) v89_l3 H _ ls h  hP hD hS (lv_sub hl [0, 1, 2, 3, 4] rfl)
          refine lv_if_eq (tgt := 45) hx hb dX12_oddsOf_39 (by decide) (fun c39 => ?_) (fun c39 => ?_)
          · have h := (if_pos c39).symm.trans h
            refine lv_lload_n hx hb dX12_oddsOf_45 rfl (lv_at hl 1 rfl) ?_
            refine lv_iload hx hb dX12_oddsOf_46 (lv_at hl 0 rfl) ?_
            refine lv_iload_n hx hb dX12_oddsOf_48 rfl (lv_at hl 3 rfl) ?_
            have J87 : ∀ (v87_t1 : Int64) (H : Heap) (locs : List Loc) (ls : Array Slot), f_X12_oddsOf_J87 (f_X12_oddsOf_L18 k1 k2 m_v q_q n18) v18_l3 v18_l5 v87_t1 = some out → va_P (dC, dI) vwCl ((a0, .inr (9, [g8, g9, g10, .ref a3, g11, g12, g13, g14, g15, g16, g17, g18, g19, g20, g21, .ref a4, g22, g23, g24, g25, g26, g27, g28, g29, g30, g31, g32, g33, g34, g35])) :: bX11 a3 uq kq q_q ([(a4, .inl (cB37, 26, .inl m_v))])) H → va_D A ((a0, .inr (9, [g8, g9, g10, .ref a3, g11, g12, g13, g14, g15, g16, g17, g18, g19, g20, g21, .ref a4, g22, g23, g24, g25, g26, g27, g28, g29, g30, g31, g32, g33, g34, g35])) :: bX11 a3 uq kq q_q ([(a4, .inl (cB37, 26, .inl m_v))])) → va_S A s.heap H locs → lv_has ls 6 [(5, .int v18_l5), (0, .ref a0), (1, .int k1), (2, .int k2)] → W p l e (headSpec vfX12_oddsOf { frames := 4, cells := 0, slots := 0, locals := 93 }).room s m ([.ref a0, .int k1, .int k2]).toArray below meth c H locs 0 0 QQ (F0 m 87 ls [.long v87_t1, .long v18_l3]) := by
              intro v87_t1 H locs ls h  hP hD hS hl
              rw [f_X12_oddsOf_J87] at h
              refine lv_lmul hx hb dX12_oddsOf_87 ?_
              refine lv_lstore_n (lv' := [(3, .long (v18_l3 * v87_t1)), (5, .int v18_l5), (0, .ref a0), (1, .int k1), (2, .int k2)]) hx hb dX12_oddsOf_88 rfl hl (by decide) rfl (fun ls hl => ?_)
              exact J89 (v18_l3 * v87_t1) H _ ls h  hP hD hS (lv_sub hl [1, 0, 2, 3, 4] rfl)
            refine lv_icmp_ge (tgt := 67) hx hb dX12_oddsOf_49 (by decide) (fun c49 => ?_) (fun c49 => ?_)
            · have h := (if_pos c49).symm.trans h
              refine lv_iload hx hb dX12_oddsOf_67 (lv_at hl 0 rfl) ?_
              refine lv_iload_n hx hb dX12_oddsOf_69 rfl (lv_at hl 3 rfl) ?_
              refine lv_icmp_ne (tgt := 84) hx hb dX12_oddsOf_70 (by decide) (fun c70 => ?_) (fun c70 => ?_)
              · have h := (if_neg c70).symm.trans h
                refine lv_ldc2 hx hb hown (hts (.constantLong RX12 344 (100)) (List.mem_of_getElem? (i := 3) rfl)) dX12_oddsOf_84 ?_
                exact J87 (100 : Int64) H _ ls h  hP hD hS (lv_sub hl [0, 2, 3, 4] rfl)
              · have h := (if_pos c70).symm.trans h
                refine lv_aload_n hx hb dX12_oddsOf_73 rfl (lv_at hl 2 rfl) ?_
                refine lv_iload hx hb dX12_oddsOf_74 (lv_at hl 0 rfl) ?_
                refine lv_iload_n hx hb dX12_oddsOf_76 rfl (lv_at hl 4 rfl) ?_
                obtain ⟨o77, eo77, h⟩ := bd_of h
                refine cl_i (wc := ((a0, .inr (9, [g8, g9, g10, .ref a3, g11, g12, g13, g14, g15, g16, g17, g18, g19, g20, g21, .ref a4, g22, g23, g24, g25, g26, g27, g28, g29, g30, g31, g32, g33, g34, g35])) :: bX11 a3 uq kq q_q [])) (wr := ([(a4, .inl (cB37, 26, .inl m_v))])) (va_runV (As := [.int v18_l5, .int k2]) (rest := [.long v18_l3]) ⟨hx, hb, hml, hown, hts⟩ (kfX12_wishOf l dC dI a0 v18_l5 k2 a3 uq kq (g8) (g9) (g10) (g11) (g12) (g13) (g14) (g15) (g16) (g17) (g18) (g19) (g20) (g21) (.ref a4) (g22) (g23) (g24) (g25) (g26) (g27) (g28) (g29) (g30) (g31) (g32) (g33) (g34) (g35) q_q H.size o77 eo77) (cwV 2 hts gfX12_oddsOf_0 rfl rfl rfl (by decide +kernel) ⟨(Nat.le_of_ble_eq_true rfl), (Nat.le_of_ble_eq_true rfl)⟩) (PV (hP.sub (ws' := ((a0, .inr (9, [g8, g9, g10, .ref a3, g11, g12, g13, g14, g15, g16, g17, g18, g19, g20, g21, .ref a4, g22, g23, g24, g25, g26, g27, g28, g29, g30, g31, g32, g33, g34, g35])) :: bX11 a3 uq kq q_q [])) [0, 1, 2, 3, 4, 5, 6, 7, 8, 9, 10, 11, 12, 13, 14, 15] rfl) (hK.sub (tys' := (tX11 kq ([]))) [0, 1, 2, 3, 4, 5, 6, 7, 8, 9, 10, 11, 12, 13] rfl) (hD.sub (ws' := ((a0, .inr (9, [g8, g9, g10, .ref a3, g11, g12, g13, g14, g15, g16, g17, g18, g19, g20, g21, .ref a4, g22, g23, g24, g25, g26, g27, g28, g29, g30, g31, g32, g33, g34, g35])) :: bX11 a3 uq kq q_q [])) [0, 1, 2, 3, 4, 5, 6, 7, 8, 9, 10, 11, 12, 13, 14, 15] (by decide) rfl) hN 0 rfl rfl) rfl rfl hl.1 rfl (lv_room (Nat.le_of_ble_eq_true rfl)) dX12_oddsOf_77 ⟨(Nat.le_of_ble_eq_true rfl), (Nat.le_of_ble_eq_true rfl)⟩) hP hD hK hS hA [0, 1, 2, 3, 4, 5, 6, 7, 8, 9, 10, 11, 12, 13, 14, 15] [16] rfl rfl (by decide) (by decide) (fun r77 _ H locs hw hP hD _ hS => ?_)
                obtain rfl := hw.symm
                have hP : va_P (dC, dI) vwCl ((a4, .inl (cB37, 26, .inl m_v)) :: (a0, .inr (9, [g8, g9, g10, .ref a3, g11, g12, g13, g14, g15, g16, g17, g18, g19, g20, g21, .ref a4, g22, g23, g24, g25, g26, g27, g28, g29, g30, g31, g32, g33, g34, g35])) :: bX11 a3 uq kq q_q []) H := hP
                have hD : va_D A ((a4, .inl (cB37, 26, .inl m_v)) :: (a0, .inr (9, [g8, g9, g10, .ref a3, g11, g12, g13, g14, g15, g16, g17, g18, g19, g20, g21, .ref a4, g22, g23, g24, g25, g26, g27, g28, g29, g30, g31, g32, g33, g34, g35])) :: bX11 a3 uq kq q_q []) := hD
                refine lv_i2l hx hb dX12_oddsOf_80 rfl ?_
                refine lv_goto (tgt := 87) hx hb dX12_oddsOf_81 (by decide) ?_
                exact J87 (o77).toInt64 H _ ls h  (hP.sub (ws' := ((a0, .inr (9, [g8, g9, g10, .ref a3, g11, g12, g13, g14, g15, g16, g17, g18, g19, g20, g21, .ref a4, g22, g23, g24, g25, g26, g27, g28, g29, g30, g31, g32, g33, g34, g35])) :: bX11 a3 uq kq q_q ([(a4, .inl (cB37, 26, .inl m_v))]))) [1, 2, 3, 4, 5, 6, 7, 8, 9, 10, 11, 12, 13, 14, 15, 16, 0] rfl) (hD.sub (ws' := ((a0, .inr (9, [g8, g9, g10, .ref a3, g11, g12, g13, g14, g15, g16, g17, g18, g19, g20, g21, .ref a4, g22, g23, g24, g25, g26, g27, g28, g29, g30, g31, g32, g33, g34, g35])) :: bX11 a3 uq kq q_q ([(a4, .inl (cB37, 26, .inl m_v))]))) [1, 2, 3, 4, 5, 6, 7, 8, 9, 10, 11, 12, 13, 14, 15, 16, 0] (by decide) rfl) hS (lv_sub hl [0, 2, 3, 4] rfl)
            · have h := (if_neg c49).symm.trans h
              refine lv_ldc2 hx hb hown (hts (.constantLong RX12 344 (100)) (List.mem_of_getElem? (i := 3) rfl)) dX12_oddsOf_52 ?_
              refine lv_aload_n hx hb dX12_oddsOf_55 rfl (lv_at hl 2 rfl) ?_
              refine lv_iload hx hb dX12_oddsOf_56 (lv_at hl 0 rfl) ?_
              refine lv_iload_n hx hb dX12_oddsOf_58 rfl (lv_at hl 4 rfl) ?_
              obtain ⟨o59, eo59, h⟩ := bd_of h
              refine cl_i (wc := ((a0, .inr (9, [g8, g9, g10, .ref a3, g11, g12, g13, g14, g15, g16, g17, g18, g19, g20, g21, .ref a4, g22, g23, g24, g25, g26, g27, g28, g29, g30, g31, g32, g33, g34, g35])) :: bX11 a3 uq kq q_q [])) (wr := ([(a4, .inl (cB37, 26, .inl m_v))])) (va_runV (As := [.int v18_l5, .int k2]) (rest := [.long 100, .long v18_l3]) ⟨hx, hb, hml, hown, hts⟩ (kfX12_wishOf l dC dI a0 v18_l5 k2 a3 uq kq (g8) (g9) (g10) (g11) (g12) (g13) (g14) (g15) (g16) (g17) (g18) (g19) (g20) (g21) (.ref a4) (g22) (g23) (g24) (g25) (g26) (g27) (g28) (g29) (g30) (g31) (g32) (g33) (g34) (g35) q_q H.size o59 eo59) (cwV 2 hts gfX12_oddsOf_0 rfl rfl rfl (by decide +kernel) ⟨(Nat.le_of_ble_eq_true rfl), (Nat.le_of_ble_eq_true rfl)⟩) (PV (hP.sub (ws' := ((a0, .inr (9, [g8, g9, g10, .ref a3, g11, g12, g13, g14, g15, g16, g17, g18, g19, g20, g21, .ref a4, g22, g23, g24, g25, g26, g27, g28, g29, g30, g31, g32, g33, g34, g35])) :: bX11 a3 uq kq q_q [])) [0, 1, 2, 3, 4, 5, 6, 7, 8, 9, 10, 11, 12, 13, 14, 15] rfl) (hK.sub (tys' := (tX11 kq ([]))) [0, 1, 2, 3, 4, 5, 6, 7, 8, 9, 10, 11, 12, 13] rfl) (hD.sub (ws' := ((a0, .inr (9, [g8, g9, g10, .ref a3, g11, g12, g13, g14, g15, g16, g17, g18, g19, g20, g21, .ref a4, g22, g23, g24, g25, g26, g27, g28, g29, g30, g31, g32, g33, g34, g35])) :: bX11 a3 uq kq q_q [])) [0, 1, 2, 3, 4, 5, 6, 7, 8, 9, 10, 11, 12, 13, 14, 15] (by decide) rfl) hN 0 rfl rfl) rfl rfl hl.1 rfl (lv_room (Nat.le_of_ble_eq_true rfl)) dX12_oddsOf_59 ⟨(Nat.le_of_ble_eq_true rfl), (Nat.le_of_ble_eq_true rfl)⟩) hP hD hK hS hA [0, 1, 2, 3, 4, 5, 6, 7, 8, 9, 10, 11, 12, 13, 14, 15] [16] rfl rfl (by decide) (by decide) (fun r59 _ H locs hw hP hD _ hS => ?_)
              obtain rfl := hw.symm
              have hP : va_P (dC, dI) vwCl ((a4, .inl (cB37, 26, .inl m_v)) :: (a0, .inr (9, [g8, g9, g10, .ref a3, g11, g12, g13, g14, g15, g16, g17, g18, g19, g20, g21, .ref a4, g22, g23, g24, g25, g26, g27, g28, g29, g30, g31, g32, g33, g34, g35])) :: bX11 a3 uq kq q_q []) H := hP
              have hD : va_D A ((a4, .inl (cB37, 26, .inl m_v)) :: (a0, .inr (9, [g8, g9, g10, .ref a3, g11, g12, g13, g14, g15, g16, g17, g18, g19, g20, g21, .ref a4, g22, g23, g24, g25, g26, g27, g28, g29, g30, g31, g32, g33, g34, g35])) :: bX11 a3 uq kq q_q []) := hD
              refine lv_i2l hx hb dX12_oddsOf_62 rfl ?_
              refine lv_lsub hx hb dX12_oddsOf_63 ?_
              refine lv_goto (tgt := 87) hx hb dX12_oddsOf_64 (by decide) ?_
              exact J87 ((100 : Int64) - (o59).toInt64) H _ ls h  (hP.sub (ws' := ((a0, .inr (9, [g8, g9, g10, .ref a3, g11, g12, g13, g14, g15, g16, g17, g18, g19, g20, g21, .ref a4, g22, g23, g24, g25, g26, g27, g28, g29, g30, g31, g32, g33, g34, g35])) :: bX11 a3 uq kq q_q ([(a4, .inl (cB37, 26, .inl m_v))]))) [1, 2, 3, 4, 5, 6, 7, 8, 9, 10, 11, 12, 13, 14, 15, 16, 0] rfl) (hD.sub (ws' := ((a0, .inr (9, [g8, g9, g10, .ref a3, g11, g12, g13, g14, g15, g16, g17, g18, g19, g20, g21, .ref a4, g22, g23, g24, g25, g26, g27, g28, g29, g30, g31, g32, g33, g34, g35])) :: bX11 a3 uq kq q_q ([(a4, .inl (cB37, 26, .inl m_v))]))) [1, 2, 3, 4, 5, 6, 7, 8, 9, 10, 11, 12, 13, 14, 15, 16, 0] (by decide) rfl) hS (lv_sub hl [0, 2, 3, 4] rfl)
          · have h := (if_neg c39).symm.trans h
            refine lv_goto (tgt := 89) hx hb dX12_oddsOf_42 (by decide) ?_
            exact J89 v18_l3 H _ ls h  hP hD hS (lv_sub hl [0, 1, 2, 3, 4] rfl)
    exact L18 FU (0 : Int32) (1 : Int64) s.heap _ ls h  hP hD hS (lv_sub hl [0, 1, 2, 3, 4] rfl)
  · have h := (if_neg c8).symm.trans h
    refine lv_lconst (v := 0) hx hb dX12_oddsOf_11 (by decide) ?_
    obtain rfl := Option.some.inj h
    have hP9 := hP.sub (ws' := ((a0, .inr (9, [g8, g9, g10, .ref a3, g11, g12, g13, g14, g15, g16, g17, g18, g19, g20, g21, .ref a4, g22, g23, g24, g25, g26, g27, g28, g29, g30, g31, g32, g33, g34, g35])) :: bX11 a3 uq kq q_q ([(a4, .inl (cB37, 26, .inl m_v))]))) [0, 1, 2, 3, 4, 5, 6, 7, 8, 9, 10, 11, 12, 13, 14, 15, 16] rfl
    have hD9 := hD.sub (ws' := ((a0, .inr (9, [g8, g9, g10, .ref a3, g11, g12, g13, g14, g15, g16, g17, g18, g19, g20, g21, .ref a4, g22, g23, g24, g25, g26, g27, g28, g29, g30, g31, g32, g33, g34, g35])) :: bX11 a3 uq kq q_q ([(a4, .inl (cB37, 26, .inl m_v))]))) [0, 1, 2, 3, 4, 5, 6, 7, 8, 9, 10, 11, 12, 13, 14, 15, 16] (by decide) rfl
    have hK9 := hK.sub (tys' := []) [] rfl
    rw [hQQ]
    exact W.lret (v := (0 : Int64)) hx hb hr (fun t ht hW => ⟨⟨(0 : Int64), (), rfl, rfl, by rw [ht]; exact hP9, va_K.moved hW.alike hK9, hD9⟩, hS.F ht⟩) hS.2.2 dX12_oddsOf_12
theorem dX12_whole_0 : decode cX12_whole 0 = .ok (.lconst 1, 1) := by decide +kernel
theorem dX12_whole_1 : decode cX12_whole 1 = .ok (.lstore_n 1, 1) := by decide +kernel
theorem dX12_whole_12 : decode cX12_whole 12 = .ok (.if_icmp .ge 30, 3) := by decide +kernel
theorem dX12_whole_15 : decode cX12_whole 15 = .ok (.lload_n 1, 1) := by decide +kernel
theorem dX12_whole_16 : decode cX12_whole 16 = .ok (.aload_n 0, 1) := by decide +kernel
theorem dX12_whole_17 : decode cX12_whole 17 = .ok (.getfield 17, 3) := by decide +kernel
theorem dX12_whole_2 : decode cX12_whole 2 = .ok (.iconst 0, 1) := by decide +kernel
theorem dX12_whole_20 : decode cX12_whole 20 = .ok (.iconst 0, 1) := by decide +kernel
theorem dX12_whole_21 : decode cX12_whole 21 = .ok (.iload_n 3, 1) := by decide +kernel
theorem dX12_whole_22 : decode cX12_whole 22 = .ok (.iadd, 1) := by decide +kernel
theorem dX12_whole_23 : decode cX12_whole 23 = .ok (.iaload, 1) := by decide +kernel
theorem dX12_whole_24 : decode cX12_whole 24 = .ok (.ifCond .ne 9, 3) := by decide +kernel
theorem dX12_whole_27 : decode cX12_whole 27 = .ok (.ldc2_w 344, 3) := by decide +kernel
theorem dX12_whole_3 : decode cX12_whole 3 = .ok (.istore_n 3, 1) := by decide +kernel
theorem dX12_whole_30 : decode cX12_whole 30 = .ok (.goto 4, 3) := by decide +kernel
theorem dX12_whole_33 : decode cX12_whole 33 = .ok (.lconst 1, 1) := by decide +kernel
theorem dX12_whole_34 : decode cX12_whole 34 = .ok (.lmul, 1) := by decide +kernel
theorem dX12_whole_35 : decode cX12_whole 35 = .ok (.lstore_n 1, 1) := by decide +kernel
theorem dX12_whole_36 : decode cX12_whole 36 = .ok (.iinc 3 1, 3) := by decide +kernel
theorem dX12_whole_39 : decode cX12_whole 39 = .ok (.goto (-35), 3) := by decide +kernel
theorem dX12_whole_4 : decode cX12_whole 4 = .ok (.iload_n 3, 1) := by decide +kernel
theorem dX12_whole_42 : decode cX12_whole 42 = .ok (.lload_n 1, 1) := by decide +kernel
theorem dX12_whole_43 : decode cX12_whole 43 = .ok (.lreturn, 1) := by decide +kernel
theorem dX12_whole_5 : decode cX12_whole 5 = .ok (.aload_n 0, 1) := by decide +kernel
theorem dX12_whole_6 : decode cX12_whole 6 = .ok (.getfield 299, 3) := by decide +kernel
theorem dX12_whole_9 : decode cX12_whole 9 = .ok (.getfield 231, 3) := by decide +kernel
def vfX12_whole : List Cond := .code yX12_whole cX12_whole 4 (some .long) :: ([.fieldLink RX12 299 "HookPierModel" "pier" "LHookPierModel$Pier;", .fieldLink RX12 17 "HookPierModel" "v" "[I", .constantLong RX12 344 (100)] ++ wsX120 ++ wsX110)
theorem ifX12_whole_X12 : ∀ w ∈ wsX120, w ∈ vfX12_whole := fun _ h => List.mem_cons_of_mem _ (List.mem_append_left _ (List.mem_append_right _ h))
theorem ifX12_whole_X11 : ∀ w ∈ wsX110, w ∈ vfX12_whole := fun _ h => List.mem_cons_of_mem _ (List.mem_append_right _ h)
set_option maxHeartbeats 2000000 in
set_option maxRecDepth 100000 in
theorem kfX12_whole (l : Launch) (dC : Nat → ClassId) (dI : Nat → Nat → Nat) (a0 : Nat) (a1 : Nat) (a2 : Nat) (uq : Nat → Nat) (kq : Nat → ClassId) (m_v : TX12_v) (g6 : Value) (g7 : Value) (g8 : Value) (g9 : Value) (g10 : Value) (g11 : Value) (g12 : Value) (g13 : Value) (g14 : Value) (g15 : Value) (g16 : Value) (g17 : Value) (g18 : Value) (g19 : Value) (g20 : Value) (g21 : Value) (g22 : Value) (g23 : Value) (g24 : Value) (g25 : Value) (g26 : Value) (g27 : Value) (g28 : Value) (g29 : Value) (g30 : Value) (g31 : Value) (g32 : Value) (g33 : Value) (q_q : TX11_q) (cB35 : ClassId) (sz : Nat) (out : Int64) (h : f_X12_whole m_v q_q = some out) : Met l yX12_whole vfX12_whole ({ frames := 0, cells := 0, slots := 0, locals := 0 }) (PC (dC, dI) [.ref a0] sz ((a0, .inr (9, [g6, g7, g8, .ref a1, g9, g10, g11, g12, g13, g14, g15, g16, g17, g18, g19, .ref a2, g20, g21, g22, g23, g24, g25, g26, g27, g28, g29, g30, g31, g32, g33])) :: bX11 a1 uq kq q_q ([(a2, .inl (cB35, 26, .inl m_v))])) (tX11 kq ((cB35, .int) :: []))) (va_Ql (S := Unit) (fun (r : Int64) _ => r = out) (fun _ t => BC (dC, dI) (va_A ((a0, .inr (9, [g6, g7, g8, .ref a1, g9, g10, g11, g12, g13, g14, g15, g16, g17, g18, g19, .ref a2, g20, g21, g22, g23, g24, g25, g26, g27, g28, g29, g30, g31, g32, g33])) :: bX11 a1 uq kq q_q ([(a2, .inl (cB35, 26, .inl m_v))])) sz) ((a0, .inr (9, [g6, g7, g8, .ref a1, g9, g10, g11, g12, g13, g14, g15, g16, g17, g18, g19, .ref a2, g20, g21, g22, g23, g24, g25, g26, g27, g28, g29, g30, g31, g32, g33])) :: bX11 a1 uq kq q_q ([(a2, .inl (cB35, 26, .inl m_v))])) [] t) (va_A ((a0, .inr (9, [g6, g7, g8, .ref a1, g9, g10, g11, g12, g13, g14, g15, g16, g17, g18, g19, .ref a2, g20, g21, g22, g23, g24, g25, g26, g27, g28, g29, g30, g31, g32, g33])) :: bX11 a1 uq kq q_q ([(a2, .inl (cB35, 26, .inl m_v))])) sz)) 0 0 (va_A ((a0, .inr (9, [g6, g7, g8, .ref a1, g9, g10, g11, g12, g13, g14, g15, g16, g17, g18, g19, .ref a2, g20, g21, g22, g23, g24, g25, g26, g27, g28, g29, g30, g31, g32, g33])) :: bX11 a1 uq kq q_q ([(a2, .inl (cB35, 26, .inl m_v))])) sz) := by
  refine Met.ofW (cc := cX12_whole) (maxL := 4) (ret := (some .long)) (by decide) rfl ?_
  intro p e s m args below meth c s₁ B0 hml hv
  obtain ⟨rfl, hsz, hP, hK, hD0, hN⟩ := hv
  have hx := B0.exec
  have hb := B0.bytes
  have hr := B0.returns
  have hts := atoms_spec (ws := vfX12_whole) B0.pre
  have hown : s.vm.findClass RX12 = some m.cls := findClass_of_methodNamed B0.named
  have hlocks := B0.notSynchronized
  subst hsz
  have hD := hD0.self (sz := s.heap.size)
  generalize hAe : va_A ((a0, .inr (9, [g6, g7, g8, .ref a1, g9, g10, g11, g12, g13, g14, g15, g16, g17, g18, g19, .ref a2, g20, g21, g22, g23, g24, g25, g26, g27, g28, g29, g30, g31, g32, g33])) :: bX11 a1 uq kq q_q ([(a2, .inl (cB35, 26, .inl m_v))])) s.heap.size = A at hD ⊢
  have hA : ∀ q : Nat, s.heap.size ≤ q → A q := fun q h => by rw [← hAe]; exact Or.inr h
  have hS : va_S A s.heap s.heap [] := va_S.rf
  have hP : va_P (dC, dI) vwCl ((a0, .inr (9, [g6, g7, g8, .ref a1, g9, g10, g11, g12, g13, g14, g15, g16, g17, g18, g19, .ref a2, g20, g21, g22, g23, g24, g25, g26, g27, g28, g29, g30, g31, g32, g33])) :: bX11 a1 uq kq q_q ([(a2, .inl (cB35, 26, .inl m_v))])) s.heap := hP
  have hl := lv_entry ([.ref a0]) (n := 4) (Nat.le_of_ble_eq_true rfl)
  rw [lg_entry_eq]
  generalize (lg_sl ([.ref a0]) ++ List.replicate (4 - (lg_sl ([.ref a0])).length) Slot.unset).toArray = ls at hl ⊢
  have hl : lv_has ls 4 [(0, .ref a0)] := hl
  refine W_q (fun QQ hQQ => ?_)
  rw [f_X12_whole] at h
  refine lv_lconst (v := 1) hx hb dX12_whole_0 (by decide) ?_
  refine lv_lstore_n (lv' := [(1, .long 1), (0, .ref a0)]) hx hb dX12_whole_1 rfl hl (by decide) rfl (fun ls hl => ?_)
  refine lv_iconst (v := 0) hx hb dX12_whole_2 (by decide) ?_
  refine lv_istore_n (lv' := [(3, .int 0), (1, .long 1), (0, .ref a0)]) hx hb dX12_whole_3 rfl hl (by decide) rfl (fun ls hl => ?_)
  have L4 : ∀ (n4 : Nat) (v4_l3 : Int32) (v4_l1 : Int64) (H : Heap) (locs : List Loc) (ls : Array Slot), f_X12_whole_L4 m_v q_q n4 v4_l3 v4_l1 = some out → va_P (dC, dI) vwCl ((a0, .inr (9, [g6, g7, g8, .ref a1, g9, g10, g11, g12, g13, g14, g15, g16, g17, g18, g19, .ref a2, g20, g21, g22, g23, g24, g25, g26, g27, g28, g29, g30, g31, g32, g33])) :: bX11 a1 uq kq q_q ([(a2, .inl (cB35, 26, .inl m_v))])) H → va_D A ((a0, .inr (9, [g6, g7, g8, .ref a1, g9, g10, g11, g12, g13, g14, g15, g16, g17, g18, g19, .ref a2, g20, g21, g22, g23, g24, g25, g26, g27, g28, g29, g30, g31, g32, g33])) :: bX11 a1 uq kq q_q ([(a2, .inl (cB35, 26, .inl m_v))])) → va_S A s.heap H locs → lv_has ls 4 [(3, .int v4_l3), (1, .long v4_l1), (0, .ref a0)] → W p l e (headSpec vfX12_whole { frames := 0, cells := 0, slots := 0, locals := 0 }).room s m ([.ref a0]).toArray below meth c H locs 0 0 QQ (F0 m 4 ls []) := by
    intro n4
    induction n4 with
    | zero =>
      intro v4_l3 v4_l1 H locs ls h  _ _ _ _
      rw [f_X12_whole_L4] at h
      cases h
    | succ n4 ih4 =>
      intro v4_l3 v4_l1 H locs ls h  hP hD hS hl
      rw [f_X12_whole_L4] at h
      refine lv_iload_n hx hb dX12_whole_4 rfl (lv_at hl 0 rfl) ?_
      refine lv_aload_n hx hb dX12_whole_5 rfl (lv_at hl 2 rfl) ?_
      refine va_get (D := (dC, dI)) (ci := 9) (v := .ref a1) (C := RX12) (T := TX12) (N := 30) hx hb hts ifX12_whole_X12 hown hK hP 0 rfl rfl 3 (by decide) (hts (.fieldLink RX12 299 "HookPierModel" "pier" "LHookPierModel$Pier;") (List.mem_of_getElem? (i := 1) rfl)) (fun _ h9 => h9) rfl dX12_whole_6 ?_
      refine va_getN (D := (dC, dI)) (ci := 8) (v := .int q_q.2.2.2.2.2.2.1) (C := RX11) (T := TX11) (N := 24) hx hb hts ifX12_whole_X11 hown hK hP 1 rfl rfl 6 (by decide) (va_Nw.use rfl (hN.1 (.fieldLinkNest RX12 231 "HookPierModel$Pier" "answers" "I" "HookPierModel") (List.mem_of_getElem? (i := 28) rfl))) (fun _ h9 => h9) rfl dX12_whole_9 ?_
      refine lv_icmp_ge (tgt := 42) hx hb dX12_whole_12 (by decide) (fun c12 => ?_) (fun c12 => ?_)
      · have h := (if_pos c12).symm.trans h
        refine lv_lload_n hx hb dX12_whole_42 rfl (lv_at hl 1 rfl) ?_
        obtain rfl := Option.some.inj h
        have hP9 := hP.sub (ws' := ((a0, .inr (9, [g6, g7, g8, .ref a1, g9, g10, g11, g12, g13, g14, g15, g16, g17, g18, g19, .ref a2, g20, g21, g22, g23, g24, g25, g26, g27, g28, g29, g30, g31, g32, g33])) :: bX11 a1 uq kq q_q ([(a2, .inl (cB35, 26, .inl m_v))]))) [0, 1, 2, 3, 4, 5, 6, 7, 8, 9, 10, 11, 12, 13, 14, 15, 16] rfl
        have hD9 := hD.sub (ws' := ((a0, .inr (9, [g6, g7, g8, .ref a1, g9, g10, g11, g12, g13, g14, g15, g16, g17, g18, g19, .ref a2, g20, g21, g22, g23, g24, g25, g26, g27, g28, g29, g30, g31, g32, g33])) :: bX11 a1 uq kq q_q ([(a2, .inl (cB35, 26, .inl m_v))]))) [0, 1, 2, 3, 4, 5, 6, 7, 8, 9, 10, 11, 12, 13, 14, 15, 16] (by decide) rfl
        have hK9 := hK.sub (tys' := []) [] rfl
        rw [hQQ]
        exact W.lret (v := v4_l1) hx hb hr (fun t ht hW => ⟨⟨v4_l1, (), rfl, rfl, by rw [ht]; exact hP9, va_K.moved hW.alike hK9, hD9⟩, hS.F ht⟩) hS.2.2 dX12_whole_43
      · have h := (if_neg c12).symm.trans h
        refine lv_lload_n hx hb dX12_whole_15 rfl (lv_at hl 1 rfl) ?_
        refine lv_aload_n hx hb dX12_whole_16 rfl (lv_at hl 2 rfl) ?_
        refine va_get (D := (dC, dI)) (ci := 9) (v := .ref a2) (C := RX12) (T := TX12) (N := 30) hx hb hts ifX12_whole_X12 hown hK hP 0 rfl rfl 15 (by decide) (hts (.fieldLink RX12 17 "HookPierModel" "v" "[I") (List.mem_of_getElem? (i := 2) rfl)) (fun _ h9 => h9) rfl dX12_whole_17 ?_
        refine lv_iconst (v := 0) hx hb dX12_whole_20 (by decide) ?_
        refine lv_iload_n hx hb dX12_whole_21 rfl (lv_at hl 0 rfl) ?_
        refine lv_iadd hx hb dX12_whole_22 ?_
        obtain ⟨hg23, h⟩ := gA_of h
        refine va_iald hx hb hK hP 16 14 rfl rfl hg23 dX12_whole_23 ?_
        have J34 : ∀ (v34_t1 : Int64) (H : Heap) (locs : List Loc) (ls : Array Slot), f_X12_whole_J34 (f_X12_whole_L4 m_v q_q n4) v4_l1 v4_l3 v34_t1 = some out → va_P (dC, dI) vwCl ((a0, .inr (9, [g6, g7, g8, .ref a1, g9, g10, g11, g12, g13, g14, g15, g16, g17, g18, g19, .ref a2, g20, g21, g22, g23, g24, g25, g26, g27, g28, g29, g30, g31, g32, g33])) :: bX11 a1 uq kq q_q ([(a2, .inl (cB35, 26, .inl m_v))])) H → va_D A ((a0, .inr (9, [g6, g7, g8, .ref a1, g9, g10, g11, g12, g13, g14, g15, g16, g17, g18, g19, .ref a2, g20, g21, g22, g23, g24, g25, g26, g27, g28, g29, g30, g31, g32, g33])) :: bX11 a1 uq kq q_q ([(a2, .inl (cB35, 26, .inl m_v))])) → va_S A s.heap H locs → lv_has ls 4 [(3, .int v4_l3), (0, .ref a0)] → W p l e (headSpec vfX12_whole { frames := 0, cells := 0, slots := 0, locals := 0 }).room s m ([.ref a0]).toArray below meth c H locs 0 0 QQ (F0 m 34 ls [.long v34_t1, .long v4_l1]) := by
          intro v34_t1 H locs ls h  hP hD hS hl
          rw [f_X12_whole_J34] at h
          refine lv_lmul hx hb dX12_whole_34 ?_
          refine lv_lstore_n (lv' := [(1, .long (v4_l1 * v34_t1)), (3, .int v4_l3), (0, .ref a0)]) hx hb dX12_whole_35 rfl hl (by decide) rfl (fun ls hl => ?_)
          refine lv_iinc (v := (v4_l3 + (1 : Int32))) (lv' := [(3, .int (v4_l3 + (1 : Int32))), (1, .long (v4_l1 * v34_t1)), (0, .ref a0)]) hx hb dX12_whole_36 hl (k := 1) rfl rfl (by decide) rfl (fun ls hl => ?_)
          refine lv_goto (tgt := 4) hx hb dX12_whole_39 (by decide) ?_
          exact ih4 (v4_l3 + (1 : Int32)) (v4_l1 * v34_t1) H _ ls h  hP hD hS (lv_sub hl [0, 1, 2] rfl)
        refine lv_if_ne (tgt := 33) hx hb dX12_whole_24 (by decide) (fun c24 => ?_) (fun c24 => ?_)
        · have h := (if_neg c24).symm.trans h
          refine lv_lconst (v := 1) hx hb dX12_whole_33 (by decide) ?_
          exact J34 (1 : Int64) H _ ls h  hP hD hS (lv_sub hl [0, 2] rfl)
        · have h := (if_pos c24).symm.trans h
          refine lv_ldc2 hx hb hown (hts (.constantLong RX12 344 (100)) (List.mem_of_getElem? (i := 3) rfl)) dX12_whole_27 ?_
          refine lv_goto (tgt := 34) hx hb dX12_whole_30 (by decide) ?_
          exact J34 (100 : Int64) H _ ls h  hP hD hS (lv_sub hl [0, 2] rfl)
  exact L4 FU (0 : Int32) (1 : Int64) s.heap _ ls h  hP hD hS (lv_sub hl [0, 1, 2] rfl)
theorem dX12_common_0 : decode cX12_common 0 = .ok (.lload_n 0, 1) := by decide +kernel
theorem dX12_common_1 : decode cX12_common 1 = .ok (.lstore 4, 2) := by decide +kernel
theorem dX12_common_10 : decode cX12_common 10 = .ok (.ifCond .eq 21, 3) := by decide +kernel
theorem dX12_common_13 : decode cX12_common 13 = .ok (.lload 4, 2) := by decide +kernel
theorem dX12_common_15 : decode cX12_common 15 = .ok (.lload 6, 2) := by decide +kernel
theorem dX12_common_17 : decode cX12_common 17 = .ok (.lrem, 1) := by decide +kernel
theorem dX12_common_18 : decode cX12_common 18 = .ok (.lstore 8, 2) := by decide +kernel
theorem dX12_common_20 : decode cX12_common 20 = .ok (.lload 6, 2) := by decide +kernel
theorem dX12_common_22 : decode cX12_common 22 = .ok (.lstore 4, 2) := by decide +kernel
theorem dX12_common_24 : decode cX12_common 24 = .ok (.lload 8, 2) := by decide +kernel
theorem dX12_common_26 : decode cX12_common 26 = .ok (.lstore 6, 2) := by decide +kernel
theorem dX12_common_28 : decode cX12_common 28 = .ok (.goto (-22), 3) := by decide +kernel
theorem dX12_common_3 : decode cX12_common 3 = .ok (.lload_n 2, 1) := by decide +kernel
theorem dX12_common_31 : decode cX12_common 31 = .ok (.lload 4, 2) := by decide +kernel
theorem dX12_common_33 : decode cX12_common 33 = .ok (.lreturn, 1) := by decide +kernel
theorem dX12_common_4 : decode cX12_common 4 = .ok (.lstore 6, 2) := by decide +kernel
theorem dX12_common_6 : decode cX12_common 6 = .ok (.lload 6, 2) := by decide +kernel
theorem dX12_common_8 : decode cX12_common 8 = .ok (.lconst 0, 1) := by decide +kernel
theorem dX12_common_9 : decode cX12_common 9 = .ok (.lcmp, 1) := by decide +kernel
def vfX12_common : List Cond := .code yX12_common cX12_common 10 (some .long) :: ([])
set_option maxHeartbeats 2000000 in
set_option maxRecDepth 100000 in
theorem kfX12_common (l : Launch) (dC : Nat → ClassId) (dI : Nat → Nat → Nat) (k0 : Int64) (k1 : Int64) (sz : Nat) (out : Int64) (h : f_X12_common k0 k1 = some out) : Met l yX12_common vfX12_common ({ frames := 0, cells := 0, slots := 0, locals := 0 }) (PC (dC, dI) [.long k0, .long k1] sz [] ([])) (va_Ql (S := Unit) (fun (r : Int64) _ => r = out) (fun _ t => BC (dC, dI) (va_A [] sz) [] [] t) (va_A [] sz)) 0 0 (va_A [] sz) := by
  refine Met.ofW (cc := cX12_common) (maxL := 10) (ret := (some .long)) (by decide) rfl ?_
  intro p e s m args below meth c s₁ B0 hml hv
  obtain ⟨rfl, hsz, hP, hK, hD0, hN⟩ := hv
  have hx := B0.exec
  have hb := B0.bytes
  have hr := B0.returns
  have hts := atoms_spec (ws := vfX12_common) B0.pre
  have hown : s.vm.findClass RX12 = some m.cls := findClass_of_methodNamed B0.named
  have hlocks := B0.notSynchronized
  subst hsz
  have hD := hD0.self (sz := s.heap.size)
  generalize hAe : va_A [] s.heap.size = A at hD ⊢
  have hA : ∀ q : Nat, s.heap.size ≤ q → A q := fun q h => by rw [← hAe]; exact Or.inr h
  have hS : va_S A s.heap s.heap [] := va_S.rf
  have hP : va_P (dC, dI) vwCl [] s.heap := hP
  have hl := lv_entry ([.long k0, .long k1]) (n := 10) (Nat.le_of_ble_eq_true rfl)
  rw [lg_entry_eq]
  generalize (lg_sl ([.long k0, .long k1]) ++ List.replicate (10 - (lg_sl ([.long k0, .long k1])).length) Slot.unset).toArray = ls at hl ⊢
  have hl : lv_has ls 10 [(0, .long k0), (2, .long k1)] := hl
  refine W_q (fun QQ hQQ => ?_)
  rw [f_X12_common] at h
  refine lv_lload_n hx hb dX12_common_0 rfl (lv_at hl 0 rfl) ?_
  refine lv_lstore (lv' := [(4, .long k0), (0, .long k0), (2, .long k1)]) hx hb dX12_common_1 hl (by decide) rfl (fun ls hl => ?_)
  refine lv_lload_n hx hb dX12_common_3 rfl (lv_at hl 2 rfl) ?_
  refine lv_lstore (lv' := [(6, .long k1), (4, .long k0), (0, .long k0), (2, .long k1)]) hx hb dX12_common_4 hl (by decide) rfl (fun ls hl => ?_)
  have L6 : ∀ (n6 : Nat) (v6_l6 : Int64) (v6_l4 : Int64) (H : Heap) (locs : List Loc) (ls : Array Slot), f_X12_common_L6 n6 v6_l6 v6_l4 = some out → va_P (dC, dI) vwCl [] H → va_D A [] → va_S A s.heap H locs → lv_has ls 10 [(6, .long v6_l6), (4, .long v6_l4)] → W p l e (headSpec vfX12_common { frames := 0, cells := 0, slots := 0, locals := 0 }).room s m ([.long k0, .long k1]).toArray below meth c H locs 0 0 QQ (F0 m 6 ls []) := by
    intro n6
    induction n6 with
    | zero =>
      intro v6_l6 v6_l4 H locs ls h  _ _ _ _
      rw [f_X12_common_L6] at h
      cases h
    | succ n6 ih6 =>
      intro v6_l6 v6_l4 H locs ls h  hP hD hS hl
      rw [f_X12_common_L6] at h
      refine lv_lload hx hb dX12_common_6 (lv_at hl 0 rfl) ?_
      refine lv_lconst (v := 0) hx hb dX12_common_8 (by decide) ?_
      refine W.lcmp hx hb dX12_common_9 ?_
      refine lv_if_eq (tgt := 31) hx hb dX12_common_10 (by decide) (fun c10 => ?_) (fun c10 => ?_)
      · have h := (if_pos c10).symm.trans h
        refine lv_lload hx hb dX12_common_31 (lv_at hl 1 rfl) ?_
        obtain rfl := Option.some.inj h
        have hP9 := hP.sub (ws' := []) [] rfl
        have hD9 := hD.sub (ws' := []) [] (by decide) rfl
        have hK9 := hK.sub (tys' := []) [] rfl
        rw [hQQ]
        exact W.lret (v := v6_l4) hx hb hr (fun t ht hW => ⟨⟨v6_l4, (), rfl, rfl, by rw [ht]; exact hP9, va_K.moved hW.alike hK9, hD9⟩, hS.F ht⟩) hS.2.2 dX12_common_33
      · have h := (if_neg c10).symm.trans h
        refine lv_lload hx hb dX12_common_13 (lv_at hl 1 rfl) ?_
        refine lv_lload hx hb dX12_common_15 (lv_at hl 0 rfl) ?_
        obtain ⟨hg17, h⟩ := gZl_of h
        refine lv_lrem hx hb dX12_common_17 hg17 ?_
        refine lv_lstore (lv' := [(8, .long (v6_l4 - v6_l4 / v6_l6 * v6_l6)), (6, .long v6_l6), (4, .long v6_l4)]) hx hb dX12_common_18 hl (by decide) rfl (fun ls hl => ?_)
        refine lv_lload hx hb dX12_common_20 (lv_at hl 1 rfl) ?_
        refine lv_lstore (lv' := [(4, .long v6_l6), (8, .long (v6_l4 - v6_l4 / v6_l6 * v6_l6)), (6, .long v6_l6)]) hx hb dX12_common_22 hl (by decide) rfl (fun ls hl => ?_)
        refine lv_lload hx hb dX12_common_24 (lv_at hl 1 rfl) ?_
        refine lv_lstore (lv' := [(6, .long (v6_l4 - v6_l4 / v6_l6 * v6_l6)), (4, .long v6_l6), (8, .long (v6_l4 - v6_l4 / v6_l6 * v6_l6))]) hx hb dX12_common_26 hl (by decide) rfl (fun ls hl => ?_)
        refine lv_goto (tgt := 6) hx hb dX12_common_28 (by decide) ?_
        exact ih6 (v6_l4 - v6_l4 / v6_l6 * v6_l6) v6_l6 H _ ls h  hP hD hS (lv_sub hl [0, 1] rfl)
  exact L6 FU k1 k0 s.heap _ ls h  hP hD hS (lv_sub hl [0, 1] rfl)
theorem dX12_fraction_0 : decode cX12_fraction 0 = .ok (.aload_n 0, 1) := by decide +kernel
theorem dX12_fraction_1 : decode cX12_fraction 1 = .ok (.iconst 0, 1) := by decide +kernel
theorem dX12_fraction_11 : decode cX12_fraction 11 = .ok (.lload_n 3, 1) := by decide +kernel
theorem dX12_fraction_12 : decode cX12_fraction 12 = .ok (.goto 4, 3) := by decide +kernel
theorem dX12_fraction_15 : decode cX12_fraction 15 = .ok (.lload_n 1, 1) := by decide +kernel
theorem dX12_fraction_16 : decode cX12_fraction 16 = .ok (.lload_n 1, 1) := by decide +kernel
theorem dX12_fraction_17 : decode cX12_fraction 17 = .ok (.lload_n 3, 1) := by decide +kernel
theorem dX12_fraction_18 : decode cX12_fraction 18 = .ok (.invokestatic 49, 3) := by decide +kernel
theorem dX12_fraction_2 : decode cX12_fraction 2 = .ok (.invokevirtual 46, 3) := by decide +kernel
theorem dX12_fraction_21 : decode cX12_fraction 21 = .ok (.ldiv, 1) := by decide +kernel
theorem dX12_fraction_22 : decode cX12_fraction 22 = .ok (.lreturn, 1) := by decide +kernel
theorem dX12_fraction_5 : decode cX12_fraction 5 = .ok (.pop, 1) := by decide +kernel
theorem dX12_fraction_6 : decode cX12_fraction 6 = .ok (.iload 5, 2) := by decide +kernel
theorem dX12_fraction_8 : decode cX12_fraction 8 = .ok (.ifCond .eq 7, 3) := by decide +kernel
def vfX12_fraction : List Cond := .code yX12_fraction cX12_fraction 6 (some .long) :: ([.methodLink RX12 46 yX12_good, .instanceMethod yX12_good, .selects RX12 yX12_good yX12_good, .initialized RX12, .code yX12_good cX12_good 2 (some .int), .fieldLink RX12 39 "HookPierModel" "trouble" "I", .fieldLink RX12 9 "HookPierModel" "where" "I", .methodLink RX12 49 yX12_common, .static yX12_common, .code yX12_common cX12_common 10 (some .long)] ++ wsX120)
theorem ifX12_fraction_X12 : ∀ w ∈ wsX120, w ∈ vfX12_fraction := fun _ h => List.mem_cons_of_mem _ (List.mem_append_right _ h)
set_option maxRecDepth 20000 in
theorem gfX12_fraction_0 : GoodIn vfX12_fraction (wsV RX12 46 RX12 yX12_good vfX12_good) := goodIn_app (goodIn_r [.methodLink RX12 46 yX12_good, .instanceMethod yX12_good, .selects RX12 yX12_good yX12_good, .initialized RX12] [1, 2, 3, 4] (by decide +kernel) (by decide +kernel)) (goodIn_ca (goodIn_r (.code yX12_good cX12_good 2 (some .int) :: [.fieldLink RX12 39 "HookPierModel" "trouble" "I", .fieldLink RX12 9 "HookPierModel" "where" "I"]) [5, 6, 7] (by decide +kernel) (by decide +kernel) : GoodIn vfX12_fraction (.code yX12_good cX12_good 2 (some .int) :: [.fieldLink RX12 39 "HookPierModel" "trouble" "I", .fieldLink RX12 9 "HookPierModel" "where" "I"])) (goodIn_sub ifX12_fraction_X12 (by decide +kernel)))
set_option maxRecDepth 20000 in
theorem gfX12_fraction_1 : GoodIn vfX12_fraction (va_wsS RX12 49 yX12_common vfX12_common) := goodIn_app (goodIn_r [.methodLink RX12 49 yX12_common, .static yX12_common, .initialized RX12] [8, 9, 4] (by decide +kernel) (by decide +kernel)) (goodIn_r (.code yX12_common cX12_common 10 (some .long) :: []) [10] (by decide +kernel) (by decide +kernel) : GoodIn vfX12_fraction (.code yX12_common cX12_common 10 (some .long) :: []))
set_option maxHeartbeats 2000000 in
set_option maxRecDepth 100000 in
theorem kfX12_fraction (l : Launch) (dC : Nat → ClassId) (dI : Nat → Nat → Nat) (a0 : Nat) (k1 : Int64) (k2 : Int64) (k3 : Int32) (m_t : TX12_t) (g5 : Value) (g6 : Value) (g7 : Value) (g8 : Value) (g9 : Value) (g10 : Value) (g11 : Value) (g12 : Value) (g13 : Value) (g14 : Value) (g15 : Value) (g16 : Value) (g17 : Value) (g18 : Value) (g19 : Value) (g20 : Value) (g21 : Value) (g22 : Value) (g23 : Value) (g24 : Value) (g25 : Value) (g26 : Value) (g27 : Value) (g28 : Value) (g29 : Value) (g30 : Value) (g31 : Value) (sz : Nat) (out : (Int64 × TX12_t)) (h : f_X12_fraction k1 k2 k3 m_t = some out) : Met l yX12_fraction vfX12_fraction ({ frames := 1, cells := 0, slots := 0, locals := 29 }) (PC (dC, dI) [.ref a0, .long k1, .long k2, .int k3] sz ([(a0, .inr (9, [.int m_t.1, .int m_t.2.1, .int m_t.2.2, g5, g6, g7, g8, g9, g10, g11, g12, g13, g14, g15, g16, g17, g18, g19, g20, g21, g22, g23, g24, g25, g26, g27, g28, g29, g30, g31]))]) ([])) (va_Ql (S := Unit) (fun (r : Int64) _ => r = out.1) (fun _ t => BC (dC, dI) (va_A ([(a0, .inr (9, [.int m_t.1, .int m_t.2.1, .int m_t.2.2, g5, g6, g7, g8, g9, g10, g11, g12, g13, g14, g15, g16, g17, g18, g19, g20, g21, g22, g23, g24, g25, g26, g27, g28, g29, g30, g31]))]) sz) ([(a0, .inr (9, [.int out.2.1, .int out.2.2.1, .int out.2.2.2, g5, g6, g7, g8, g9, g10, g11, g12, g13, g14, g15, g16, g17, g18, g19, g20, g21, g22, g23, g24, g25, g26, g27, g28, g29, g30, g31]))]) [] t) (va_A ([(a0, .inr (9, [.int m_t.1, .int m_t.2.1, .int m_t.2.2, g5, g6, g7, g8, g9, g10, g11, g12, g13, g14, g15, g16, g17, g18, g19, g20, g21, g22, g23, g24, g25, g26, g27, g28, g29, g30, g31]))]) sz)) 0 0 (va_A ([(a0, .inr (9, [.int m_t.1, .int m_t.2.1, .int m_t.2.2, g5, g6, g7, g8, g9, g10, g11, g12, g13, g14, g15, g16, g17, g18, g19, g20, g21, g22, g23, g24, g25, g26, g27, g28, g29, g30, g31]))]) sz) := by
  refine Met.ofW (cc := cX12_fraction) (maxL := 6) (ret := (some .long)) (by decide) rfl ?_
  intro p e s m args below meth c s₁ B0 hml hv
  obtain ⟨rfl, hsz, hP, hK, hD0, hN⟩ := hv
  have hx := B0.exec
  have hb := B0.bytes
  have hr := B0.returns
  have hts := atoms_spec (ws := vfX12_fraction) B0.pre
  have hown : s.vm.findClass RX12 = some m.cls := findClass_of_methodNamed B0.named
  have hlocks := B0.notSynchronized
  subst hsz
  have hD := hD0.self (sz := s.heap.size)
  generalize hAe : va_A ([(a0, .inr (9, [.int m_t.1, .int m_t.2.1, .int m_t.2.2, g5, g6, g7, g8, g9, g10, g11, g12, g13, g14, g15, g16, g17, g18, g19, g20, g21, g22, g23, g24, g25, g26, g27, g28, g29, g30, g31]))]) s.heap.size = A at hD ⊢
  have hA : ∀ q : Nat, s.heap.size ≤ q → A q := fun q h => by rw [← hAe]; exact Or.inr h
  have hS : va_S A s.heap s.heap [] := va_S.rf
  have hP : va_P (dC, dI) vwCl ([(a0, .inr (9, [.int m_t.1, .int m_t.2.1, .int m_t.2.2, g5, g6, g7, g8, g9, g10, g11, g12, g13, g14, g15, g16, g17, g18, g19, g20, g21, g22, g23, g24, g25, g26, g27, g28, g29, g30, g31]))]) s.heap := hP
  have hl := lv_entry ([.ref a0, .long k1, .long k2, .int k3]) (n := 6) (Nat.le_of_ble_eq_true rfl)
  rw [lg_entry_eq]
  generalize (lg_sl ([.ref a0, .long k1, .long k2, .int k3]) ++ List.replicate (6 - (lg_sl ([.ref a0, .long k1, .long k2, .int k3])).length) Slot.unset).toArray = ls at hl ⊢
  have hl : lv_has ls 6 [(0, .ref a0), (1, .long k1), (3, .long k2), (5, .int k3)] := hl
  refine W_q (fun QQ hQQ => ?_)
  rw [f_X12_fraction] at h
  refine lv_aload_n hx hb dX12_fraction_0 rfl (lv_at hl 0 rfl) ?_
  refine lv_iconst (v := 0) hx hb dX12_fraction_1 (by decide) ?_
  obtain ⟨o2, eo2⟩ : ∃ o, o = f_X12_good (0 : Int32) m_t := ⟨_, rfl⟩
  have h := nm_of h o2 eo2
  refine cl_i (wc := ([(a0, .inr (9, [.int m_t.1, .int m_t.2.1, .int m_t.2.2, g5, g6, g7, g8, g9, g10, g11, g12, g13, g14, g15, g16, g17, g18, g19, g20, g21, g22, g23, g24, g25, g26, g27, g28, g29, g30, g31]))])) (wr := []) (va_runV (As := [.int 0]) (rest := []) ⟨hx, hb, hml, hown, hts⟩ (kfX12_good l dC dI a0 (0 : Int32) m_t (g5) (g6) (g7) (g8) (g9) (g10) (g11) (g12) (g13) (g14) (g15) (g16) (g17) (g18) (g19) (g20) (g21) (g22) (g23) (g24) (g25) (g26) (g27) (g28) (g29) (g30) (g31) s.heap.size o2 eo2.symm) (cwV 1 hts gfX12_fraction_0 rfl rfl rfl (by decide +kernel) ⟨(Nat.le_of_ble_eq_true rfl), (Nat.le_of_ble_eq_true rfl)⟩) (PV (hP.sub (ws' := ([(a0, .inr (9, [.int m_t.1, .int m_t.2.1, .int m_t.2.2, g5, g6, g7, g8, g9, g10, g11, g12, g13, g14, g15, g16, g17, g18, g19, g20, g21, g22, g23, g24, g25, g26, g27, g28, g29, g30, g31]))])) [0] rfl) (hK.sub (tys' := ([])) [] rfl) (hD.sub (ws' := ([(a0, .inr (9, [.int m_t.1, .int m_t.2.1, .int m_t.2.2, g5, g6, g7, g8, g9, g10, g11, g12, g13, g14, g15, g16, g17, g18, g19, g20, g21, g22, g23, g24, g25, g26, g27, g28, g29, g30, g31]))])) [0] (by decide) rfl) hN 0 rfl rfl) rfl rfl hl.1 rfl (lv_room (Nat.le_of_ble_eq_true rfl)) dX12_fraction_2 ⟨(Nat.le_of_ble_eq_true rfl), (Nat.le_of_ble_eq_true rfl)⟩) hP hD hK hS hA [0] [] rfl rfl (by decide) (by decide) (fun r2 _ H locs hw hP hD _ hS => ?_)
  obtain rfl := hw
  have hP : va_P (dC, dI) vwCl ([(a0, .inr (9, [.int o2.2.1, .int o2.2.2.1, .int o2.2.2.2, g5, g6, g7, g8, g9, g10, g11, g12, g13, g14, g15, g16, g17, g18, g19, g20, g21, g22, g23, g24, g25, g26, g27, g28, g29, g30, g31]))]) H := hP
  have hD : va_D A ([(a0, .inr (9, [.int o2.2.1, .int o2.2.2.1, .int o2.2.2.2, g5, g6, g7, g8, g9, g10, g11, g12, g13, g14, g15, g16, g17, g18, g19, g20, g21, g22, g23, g24, g25, g26, g27, g28, g29, g30, g31]))]) := hD
  refine lv_pop hx hb dX12_fraction_5 rfl ?_
  refine lv_iload hx hb dX12_fraction_6 (lv_at hl 3 rfl) ?_
  have J16 : ∀ (v16_t0 : Int64) (H : Heap) (locs : List Loc) (ls : Array Slot), f_X12_fraction_J16 k1 k2 o2 v16_t0 = some out → va_P (dC, dI) vwCl ([(a0, .inr (9, [.int o2.2.1, .int o2.2.2.1, .int o2.2.2.2, g5, g6, g7, g8, g9, g10, g11, g12, g13, g14, g15, g16, g17, g18, g19, g20, g21, g22, g23, g24, g25, g26, g27, g28, g29, g30, g31]))]) H → va_D A ([(a0, .inr (9, [.int o2.2.1, .int o2.2.2.1, .int o2.2.2.2, g5, g6, g7, g8, g9, g10, g11, g12, g13, g14, g15, g16, g17, g18, g19, g20, g21, g22, g23, g24, g25, g26, g27, g28, g29, g30, g31]))]) → va_S A s.heap H locs → lv_has ls 6 [(1, .long k1), (3, .long k2)] → W p l e (headSpec vfX12_fraction { frames := 1, cells := 0, slots := 0, locals := 29 }).room s m ([.ref a0, .long k1, .long k2, .int k3]).toArray below meth c H locs 0 0 QQ (F0 m 16 ls [.long v16_t0]) := by
    intro v16_t0 H locs ls h  hP hD hS hl
    rw [f_X12_fraction_J16] at h
    refine lv_lload_n hx hb dX12_fraction_16 rfl (lv_at hl 0 rfl) ?_
    refine lv_lload_n hx hb dX12_fraction_17 rfl (lv_at hl 1 rfl) ?_
    obtain ⟨o18, eo18, h⟩ := bd_of h
    refine cl_l (wc := []) (wr := ([(a0, .inr (9, [.int o2.2.1, .int o2.2.2.1, .int o2.2.2.2, g5, g6, g7, g8, g9, g10, g11, g12, g13, g14, g15, g16, g17, g18, g19, g20, g21, g22, g23, g24, g25, g26, g27, g28, g29, g30, g31]))])) (va_runS (As := [.long k1, .long k2]) (rest := [.long v16_t0]) ⟨hx, hb, hml, hown, hts⟩ (kfX12_common l dC dI k1 k2 H.size o18 eo18) (va_cwS 2 hts gfX12_fraction_1 rfl rfl rfl (by decide +kernel) ⟨(Nat.le_of_ble_eq_true rfl), (Nat.le_of_ble_eq_true rfl)⟩) (PS (hP.sub (ws' := []) [] rfl) (hK.sub (tys' := ([])) [] rfl) (hD.sub (ws' := []) [] (by decide) rfl) hN) rfl rfl hl.1 rfl (lv_room (Nat.le_of_ble_eq_true rfl)) dX12_fraction_18 ⟨(Nat.le_of_ble_eq_true rfl), (Nat.le_of_ble_eq_true rfl)⟩) hP hD hK hS hA [] [0] rfl rfl (by decide) (by decide) (fun r18 _ H locs hw hP hD _ hS => ?_)
    obtain rfl := hw.symm
    have hP : va_P (dC, dI) vwCl ([(a0, .inr (9, [.int o2.2.1, .int o2.2.2.1, .int o2.2.2.2, g5, g6, g7, g8, g9, g10, g11, g12, g13, g14, g15, g16, g17, g18, g19, g20, g21, g22, g23, g24, g25, g26, g27, g28, g29, g30, g31]))]) H := hP
    have hD : va_D A ([(a0, .inr (9, [.int o2.2.1, .int o2.2.2.1, .int o2.2.2.2, g5, g6, g7, g8, g9, g10, g11, g12, g13, g14, g15, g16, g17, g18, g19, g20, g21, g22, g23, g24, g25, g26, g27, g28, g29, g30, g31]))]) := hD
    obtain ⟨hg21, h⟩ := gZl_of h
    refine lv_ldiv hx hb dX12_fraction_21 hg21 ?_
    obtain rfl := Option.some.inj h
    have hP9 := hP.sub (ws' := ([(a0, .inr (9, [.int o2.2.1, .int o2.2.2.1, .int o2.2.2.2, g5, g6, g7, g8, g9, g10, g11, g12, g13, g14, g15, g16, g17, g18, g19, g20, g21, g22, g23, g24, g25, g26, g27, g28, g29, g30, g31]))])) [0] rfl
    have hD9 := hD.sub (ws' := ([(a0, .inr (9, [.int o2.2.1, .int o2.2.2.1, .int o2.2.2.2, g5, g6, g7, g8, g9, g10, g11, g12, g13, g14, g15, g16, g17, g18, g19, g20, g21, g22, g23, g24, g25, g26, g27, g28, g29, g30, g31]))])) [0] (by decide) rfl
    have hK9 := hK.sub (tys' := []) [] rfl
    rw [hQQ]
    exact W.lret (v := (v16_t0 / o18)) hx hb hr (fun t ht hW => ⟨⟨(v16_t0 / o18), (), rfl, rfl, by rw [ht]; exact hP9, va_K.moved hW.alike hK9, hD9⟩, hS.F ht⟩) hS.2.2 dX12_fraction_22
  refine lv_if_eq (tgt := 15) hx hb dX12_fraction_8 (by decide) (fun c8 => ?_) (fun c8 => ?_)
  · have h := (if_pos c8).symm.trans h
    refine lv_lload_n hx hb dX12_fraction_15 rfl (lv_at hl 1 rfl) ?_
    exact J16 k1 H _ ls h  hP hD hS (lv_sub hl [1, 2] rfl)
  · have h := (if_neg c8).symm.trans h
    refine lv_lload_n hx hb dX12_fraction_11 rfl (lv_at hl 2 rfl) ?_
    refine lv_goto (tgt := 16) hx hb dX12_fraction_12 (by decide) ?_
    exact J16 k2 H _ ls h  hP hD hS (lv_sub hl [1, 2] rfl)
