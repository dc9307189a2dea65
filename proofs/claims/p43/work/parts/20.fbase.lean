def RJ0 : String := "java/lang/String"
def RJ1 : String := "java/lang/StringLatin1"
def RJ3 : String := "jdk/internal/util/Preconditions"
def RJ6 : String := "java/lang/Integer"
def yJ0_coder_7d493 : MethodName := ⟨RJ0, "coder", "()B"⟩
abbrev cJ0_coder_7d493 : ByteArray := prog_22_method_152_code
def yJ0_isLatin1_aae02 : MethodName := ⟨RJ0, "isLatin1", "()Z"⟩
abbrev cJ0_isLatin1_aae02 : ByteArray := prog_22_method_154_code
def yJ0_length_8abf5 : MethodName := ⟨RJ0, "length", "()I"⟩
abbrev cJ0_length_8abf5 : ByteArray := prog_22_method_54_code
def yJ3_checkIndex_8e157 : MethodName := ⟨RJ3, "checkIndex", "(IILjava/util/function/BiFunction;)I"⟩
abbrev cJ3_checkIndex_8e157 : ByteArray := prog_30_method_11_code
def yJ0_checkIndex_df160 : MethodName := ⟨RJ0, "checkIndex", "(II)V"⟩
abbrev cJ0_checkIndex_df160 : ByteArray := prog_22_method_155_code
def yJ1_charAt_3b067 : MethodName := ⟨RJ1, "charAt", "([BI)C"⟩
abbrev cJ1_charAt_3b067 : ByteArray := prog_23_method_2_code
def yJ0_charAt_5068e : MethodName := ⟨RJ0, "charAt", "(I)C"⟩
abbrev cJ0_charAt_5068e : ByteArray := prog_22_method_56_code
abbrev cJ6_bitCount_0f7a4 : ByteArray := prog_19_method_49_code
def yJ6_bitCount_0f7a4 : MethodName := ⟨RJ6, "bitCount", "(I)I"⟩

abbrev TX6_p : Type := Int32 × Int32 × Int32 × Int32 × Int32 × Int32 × Int32 × Int32 × Int32 × (Nat → Int32) × (Nat → Int32) × (Nat → Int32) × (Nat → Int32) × (Nat → Int32) × (Nat → Int32) × (Nat → Int32) × (Nat → Int32) × (Nat → Int32)
abbrev TX7_r : Type := (Nat → Int32) × Int32 × Int32 × Int32 × Int32 × Int32 × Int32 × (Nat → Int64) × (Nat → Int32) × Int32 × Int32 × Int32
abbrev TX4_n : Type := Int32 × Int32 × Int32 × (Nat → Int32) × (Nat → Int32) × (Nat → Int32) × (Nat → Int32)
abbrev TX2_h : Type := Int32 × Int32 × Int32
abbrev TX8_s : Type := (Nat → Int32) × (Nat → Int32) × Int32
abbrev TX0_d : Type := (Nat → Int32) × Int32
abbrev TX1_y : Type := Int32 × Int32 × (Nat → Int32)
abbrev TX10_x : Type := Int32 × Int32
abbrev TX11_q : Type := Int32 × Int32 × Int32 × Int32 × Int32 × Int32 × Int32 × Int32 × Int32 × Int32 × (Nat → Int32) × (Nat → Int32) × (Nat → Int32) × (Nat → Int32) × (Nat → Int32) × (Nat → Int32) × (Nat → Int32) × (Nat → Int32) × (Nat → Int32) × (Nat → Int32) × (Nat → Int32) × (Nat → Int64) × (Nat → Int32) × (Nat → Int32)
abbrev TX12_t : Type := Int32 × Int32 × Int32
abbrev TX12_s : Type := (Nat → Int32) × Int32 × Int32 × Int32 × Int32 × Int32 × Int32 × Int32 × Int32 × Int64
abbrev TX12_v : Type := (Nat → Int32)
abbrev TX12_w : Type := (Nat → Int32)
abbrev TX12_h : Type := (Nat → Int32) × (Nat → Int32) × Int32 × Int32
abbrev TX12_z : Type := (Nat → Int32) × (Nat → Int32) × Int32
abbrev TX12_k : Type := Int32 × Int32 × Int32
abbrev TX12_c : Type := Int32 × Int32 × Int32
def bX0 (a : Nat) (u : Nat → Nat) (k : Nat → ClassId) (p : TX0_d) (r : va_W) : va_W := (a, .inr (0, [.ref (u 0), .int p.2])) :: (u 0, .inl (k 0, 288, .inl p.1)) :: r
def tX0 (k : Nat → ClassId) (r : List (ClassId × FieldType)) : List (ClassId × FieldType) := (k 0, .int) :: r
def bX11 (a : Nat) (u : Nat → Nat) (k : Nat → ClassId) (p : TX11_q) (r : va_W) : va_W := (a, .inr (8, [.int p.1, .int p.2.1, .int p.2.2.1, .int p.2.2.2.1, .int p.2.2.2.2.1, .int p.2.2.2.2.2.1, .int p.2.2.2.2.2.2.1, .int p.2.2.2.2.2.2.2.1, .int p.2.2.2.2.2.2.2.2.1, .int p.2.2.2.2.2.2.2.2.2.1, .ref (u 0), .ref (u 1), .ref (u 2), .ref (u 3), .ref (u 4), .ref (u 5), .ref (u 6), .ref (u 7), .ref (u 8), .ref (u 9), .ref (u 10), .ref (u 11), .ref (u 12), .ref (u 13)])) :: (u 0, .inl (k 0, 5, .inl p.2.2.2.2.2.2.2.2.2.2.1)) :: (u 1, .inl (k 1, 6, .inl p.2.2.2.2.2.2.2.2.2.2.2.1)) :: (u 2, .inl (k 2, 6, .inl p.2.2.2.2.2.2.2.2.2.2.2.2.1)) :: (u 3, .inl (k 3, 6, .inl p.2.2.2.2.2.2.2.2.2.2.2.2.2.1)) :: (u 4, .inl (k 4, 6, .inl p.2.2.2.2.2.2.2.2.2.2.2.2.2.2.1)) :: (u 5, .inl (k 5, 6, .inl p.2.2.2.2.2.2.2.2.2.2.2.2.2.2.2.1)) :: (u 6, .inl (k 6, 6, .inl p.2.2.2.2.2.2.2.2.2.2.2.2.2.2.2.2.1)) :: (u 7, .inl (k 7, 6, .inl p.2.2.2.2.2.2.2.2.2.2.2.2.2.2.2.2.2.1)) :: (u 8, .inl (k 8, 6, .inl p.2.2.2.2.2.2.2.2.2.2.2.2.2.2.2.2.2.2.1)) :: (u 9, .inl (k 9, 6, .inl p.2.2.2.2.2.2.2.2.2.2.2.2.2.2.2.2.2.2.2.1)) :: (u 10, .inl (k 10, 6, .inl p.2.2.2.2.2.2.2.2.2.2.2.2.2.2.2.2.2.2.2.2.1)) :: (u 11, .inl (k 11, 15, .inr (.inl p.2.2.2.2.2.2.2.2.2.2.2.2.2.2.2.2.2.2.2.2.2.1))) :: (u 12, .inl (k 12, 15, .inl p.2.2.2.2.2.2.2.2.2.2.2.2.2.2.2.2.2.2.2.2.2.2.1)) :: (u 13, .inl (k 13, 15, .inl p.2.2.2.2.2.2.2.2.2.2.2.2.2.2.2.2.2.2.2.2.2.2.2)) :: r
def tX11 (k : Nat → ClassId) (r : List (ClassId × FieldType)) : List (ClassId × FieldType) := (k 0, .int) :: (k 1, .int) :: (k 2, .int) :: (k 3, .int) :: (k 4, .int) :: (k 5, .int) :: (k 6, .int) :: (k 7, .int) :: (k 8, .int) :: (k 9, .int) :: (k 10, .int) :: (k 11, .long) :: (k 12, .int) :: (k 13, .int) :: r
def bX4 (a : Nat) (u : Nat → Nat) (k : Nat → ClassId) (p : TX4_n) (r : va_W) : va_W := (a, .inr (3, [.int p.1, .int p.2.1, .int p.2.2.1, .ref (u 0), .ref (u 1), .ref (u 2), .ref (u 3)])) :: (u 0, .inl (k 0, 6, .inl p.2.2.2.1)) :: (u 1, .inl (k 1, 6, .inl p.2.2.2.2.1)) :: (u 2, .inl (k 2, 6, .inl p.2.2.2.2.2.1)) :: (u 3, .inl (k 3, 5, .inl p.2.2.2.2.2.2)) :: r
def tX4 (k : Nat → ClassId) (r : List (ClassId × FieldType)) : List (ClassId × FieldType) := (k 0, .int) :: (k 1, .int) :: (k 2, .int) :: (k 3, .int) :: r
def bX6 (a : Nat) (u : Nat → Nat) (k : Nat → ClassId) (p : TX6_p) (r : va_W) : va_W := (a, .inr (4, [.int p.1, .int p.2.1, .int p.2.2.1, .int p.2.2.2.1, .int p.2.2.2.2.1, .int p.2.2.2.2.2.1, .int p.2.2.2.2.2.2.1, .int p.2.2.2.2.2.2.2.1, .int p.2.2.2.2.2.2.2.2.1, .ref (u 0), .ref (u 1), .ref (u 2), .ref (u 3), .ref (u 4), .ref (u 5), .ref (u 6), .ref (u 7), .ref (u 8)])) :: (u 0, .inl (k 0, 5, .inl p.2.2.2.2.2.2.2.2.2.1)) :: (u 1, .inl (k 1, 6, .inl p.2.2.2.2.2.2.2.2.2.2.1)) :: (u 2, .inl (k 2, 6, .inl p.2.2.2.2.2.2.2.2.2.2.2.1)) :: (u 3, .inl (k 3, 6, .inl p.2.2.2.2.2.2.2.2.2.2.2.2.1)) :: (u 4, .inl (k 4, 6, .inl p.2.2.2.2.2.2.2.2.2.2.2.2.2.1)) :: (u 5, .inl (k 5, 6, .inl p.2.2.2.2.2.2.2.2.2.2.2.2.2.2.1)) :: (u 6, .inl (k 6, 6, .inl p.2.2.2.2.2.2.2.2.2.2.2.2.2.2.2.1)) :: (u 7, .inl (k 7, 6, .inl p.2.2.2.2.2.2.2.2.2.2.2.2.2.2.2.2.1)) :: (u 8, .inl (k 8, 6, .inl p.2.2.2.2.2.2.2.2.2.2.2.2.2.2.2.2.2)) :: r
def tX6 (k : Nat → ClassId) (r : List (ClassId × FieldType)) : List (ClassId × FieldType) := (k 0, .int) :: (k 1, .int) :: (k 2, .int) :: (k 3, .int) :: (k 4, .int) :: (k 5, .int) :: (k 6, .int) :: (k 7, .int) :: (k 8, .boolean) :: r
def bX7 (a : Nat) (u : Nat → Nat) (k : Nat → ClassId) (p : TX7_r) (r : va_W) : va_W := (a, .inr (5, [.ref (u 0), .int p.2.1, .int p.2.2.1, .int p.2.2.2.1, .int p.2.2.2.2.1, .int p.2.2.2.2.2.1, .int p.2.2.2.2.2.2.1, .ref (u 1), .ref (u 2), .int p.2.2.2.2.2.2.2.2.2.1, .int p.2.2.2.2.2.2.2.2.2.2.1, .int p.2.2.2.2.2.2.2.2.2.2.2])) :: (u 0, .inl (k 0, 900, .inl p.1)) :: (u 1, .inl (k 1, 15, .inr (.inl p.2.2.2.2.2.2.2.1))) :: (u 2, .inl (k 2, 15, .inl p.2.2.2.2.2.2.2.2.1)) :: r
def tX7 (k : Nat → ClassId) (r : List (ClassId × FieldType)) : List (ClassId × FieldType) := (k 0, .byte) :: (k 1, .long) :: (k 2, .int) :: r
def bX8 (a : Nat) (u : Nat → Nat) (k : Nat → ClassId) (p : TX8_s) (r : va_W) : va_W := (a, .inr (6, [.ref (u 0), .ref (u 1), .int p.2.2])) :: (u 0, .inl (k 0, 5, .inl p.1)) :: (u 1, .inl (k 1, 5, .inl p.2.1)) :: r
def tX8 (k : Nat → ClassId) (r : List (ClassId × FieldType)) : List (ClassId × FieldType) := (k 0, .int) :: (k 1, .int) :: r
def Good (l : List Cond) : Prop := ∀ w ∈ l, goodWord w = true
theorem gd_dec {l : List Cond} (h : l.all goodWord = true) : Good l := fun w hw => List.all_eq_true.mp h w hw
theorem gd_cons {w : Cond} {l : List Cond} (h : goodWord w = true) (hl : Good l) : Good (w :: l) := fun x hx => (List.mem_cons.mp hx).elim (fun e => by rw [e]; exact h) (hl x)
theorem gd_app {a b : List Cond} (ha : Good a) (hb : Good b) : Good (a ++ b) := fun x hx => (List.mem_append.mp hx).elim (ha x) (hb x)
theorem goodIn_m {big ws : List Cond} (hm : ∀ w ∈ ws, w ∈ big) (h : Good ws) : GoodIn big ws := fun w hw => ⟨hm w hw, good_of_word (h w hw)⟩
theorem qsX6 : Good wsX60 := gd_dec (by decide +kernel)
theorem qsX7 : Good wsX70 := gd_dec (by decide +kernel)
theorem qsX4 : Good wsX40 := gd_dec (by decide +kernel)
theorem qsX2 : Good wsX20 := gd_dec (by decide +kernel)
theorem qsX8 : Good wsX80 := gd_dec (by decide +kernel)
theorem qsX0 : Good wsX00 := gd_dec (by decide +kernel)
theorem qsX1 : Good wsX10 := gd_dec (by decide +kernel)
theorem qsX10 : Good wsX100 := gd_dec (by decide +kernel)
theorem qsX11 : Good wsX110 := gd_dec (by decide +kernel)
theorem qsX12 : Good wsX120 := gd_dec (by decide +kernel)
/-! functions out of bytecode: what their texts are made of -/
def FU : Nat := 1000000
def nm {α β : Type} (x : α) (k : α → β) : β := k x
theorem nm_of {α β : Type} {x : α} {k : α → β} {o : β} (h : nm x k = o) (z : α) (e : z = x) : k z = o := by
  subst e
  exact h
def gA {α : Type} (i : Int32) (n : Nat) (k : Option α) : Option α := if i < 0 ∨ n ≤ i.toNatClampNeg then none else k
theorem gA_of {α : Type} {i : Int32} {n : Nat} {k : Option α} {o : α} (h : gA i n k = some o) : vp_in i n ∧ k = some o := by
  unfold gA at h
  by_cases c : i < 0 ∨ n ≤ i.toNatClampNeg
  · rw [if_pos c] at h
    cases h
  · rw [if_neg c] at h
    exact ⟨c, h⟩
theorem gA_in {α : Type} {i : Int32} {n : Nat} {k : Option α} (h : vp_in i n) : gA i n k = k := if_neg h
def gZi {α : Type} (y : Int32) (k : Option α) : Option α := if y = 0 then none else k
theorem gZi_of {α : Type} {y : Int32} {k : Option α} {o : α} (h : gZi y k = some o) : ¬ y = 0 ∧ k = some o := by
  unfold gZi at h
  by_cases c : y = 0
  · rw [if_pos c] at h
    cases h
  · rw [if_neg c] at h
    exact ⟨c, h⟩
theorem gZi_ne {α : Type} {y : Int32} {k : Option α} (h : ¬ y = 0) : gZi y k = k := if_neg h
def gZl {α : Type} (y : Int64) (k : Option α) : Option α := if y = 0 then none else k
theorem gZl_of {α : Type} {y : Int64} {k : Option α} {o : α} (h : gZl y k = some o) : ¬ y = 0 ∧ k = some o := by
  unfold gZl at h
  by_cases c : y = 0
  · rw [if_pos c] at h
    cases h
  · rw [if_neg c] at h
    exact ⟨c, h⟩
theorem gZl_ne {α : Type} {y : Int64} {k : Option α} (h : ¬ y = 0) : gZl y k = k := if_neg h
theorem bd_of {α β : Type} {x : Option α} {k : α → Option β} {o : β} (h : x.bind k = some o) : ∃ r, x = some r ∧ k r = some o := by
  cases x with
  | none => cases h
  | some r => exact ⟨r, rfl, h⟩
def iabs (x : Int32) : Int32 := if 0 ≤ x then x else 0 - x
def imin (x y : Int32) : Int32 := if y < x then y else x
def imax (x y : Int32) : Int32 := if x < y then y else x
def sch (w : List Int32) (i : Int32) : Int32 := ((w.getD i.toNatClampNeg 0 &&& 255).toUInt32 % 65536).toInt32
section WQ
variable {p : Program} {l : Launch} {e : Env} {R : Room} {s : State} {m : MethodId} {args : Array Value} {below : List Frame} {meth : Method} {c : Code} {H : Heap} {locs : List Loc} {cells slots : Nat} {Q : State → Prop} {g : JFrame}
theorem W_q (k : ∀ QQ : State → Prop, QQ = Q → W p l e R s m args below meth c H locs cells slots QQ g) : W p l e R s m args below meth c H locs cells slots Q g := k Q rfl
variable {cc : ByteArray} {pc : Nat} {ls : Array Slot} {rest : List Value}
theorem va_ldcSw (hexec : p.tables.exec = Jvm.exec) (hb : c.code = cc) {own tx : String} {index q : Nat} (hown : s.vm.findClass own = some m.cls) (hZ : vk_R own index tx q s) (hdg : decode cc pc = .ok (.ldc_w index, 3))
    (k : W p l e R s m args below meth c H locs cells slots Q (F0 m (pc + 3) ls (.ref q :: rest))) : W p l e R s m args below meth c H locs cells slots Q (F0 m pc ls rest) := by
  intro T hT X
  obtain ⟨t, a1, b1⟩ := k T hT X
  exact ⟨t, X.ldcStringW hexec hown (text := tx) (a := q) hZ.1 hZ.2 (g := F0 m pc ls rest) rfl (by rw [hb]; exact hdg) t a1, b1⟩
end WQ
/-! strings that the class files hold -/
def tx_pier : List Int32 := [112, 105, 101, 114]
def tx_spots : List Int32 := [115, 112, 111, 116, 115]
def tx_deep : List Int32 := [100, 101, 101, 112]
def tx_from : List Int32 := [102, 114, 111, 109]
def tx_to : List Int32 := [116, 111]
def tx_bait : List Int32 := [98, 97, 105, 116]
def tx_asker : List Int32 := [97, 115, 107, 101, 114]
def tx_answer : List Int32 := [97, 110, 115, 119, 101, 114]
def tx_dark : List Int32 := [100, 97, 114, 107]
def tx_bite : List Int32 := [98, 105, 116, 101]
def tx_reach : List Int32 := [114, 101, 97, 99, 104]
def tx_plain : List Int32 := [112, 108, 97, 105, 110]
def tx_cold : List Int32 := [99, 111, 108, 100]
def tx_crab : List Int32 := [99, 114, 97, 98]
def tx_boot : List Int32 := [98, 111, 111, 116]
def tx_at : List Int32 := [97, 116]
def tx_depth : List Int32 := [100, 101, 112, 116, 104]
def tx_hunger : List Int32 := [104, 117, 110, 103, 101, 114]
def tx_likes : List Int32 := [108, 105, 107, 101, 115]
def tx_worth : List Int32 := [119, 111, 114, 116, 104]
def tx_fathoms : List Int32 := [102, 97, 116, 104, 111, 109, 115]
def tx_yes : List Int32 := [121, 101, 115]
def tx_no : List Int32 := [110, 111]
def tx_no_such_answer_was_landed : List Int32 := [110, 111, 32, 115, 117, 99, 104, 32, 97, 110, 115, 119, 101, 114, 32, 119, 97, 115, 32, 108, 97, 110, 100, 101, 100]
def strT : List (String × Nat × String × List Int32) := [(RX7, 76, "pier", tx_pier), (RX7, 129, "spots", tx_spots), (RX7, 137, "deep", tx_deep), (RX7, 141, "from", tx_from), (RX7, 146, "to", tx_to), (RX7, 88, "bait", tx_bait), (RX7, 97, "asker", tx_asker), (RX7, 105, "answer", tx_answer), (RX7, 113, "dark", tx_dark), (RX7, 121, "bite", tx_bite), (RX7, 154, "reach", tx_reach), (RX7, 208, "plain", tx_plain), (RX7, 210, "cold", tx_cold), (RX7, 212, "crab", tx_crab), (RX7, 214, "boot", tx_boot), (RX7, 165, "at", tx_at), (RX7, 169, "depth", tx_depth), (RX7, 173, "hunger", tx_hunger), (RX7, 177, "likes", tx_likes), (RX7, 184, "worth", tx_worth), (RX7, 189, "fathoms", tx_fathoms), (RX7, 216, "yes", tx_yes), (RX7, 218, "no", tx_no), (RX10, 373, "no such answer was landed", tx_no_such_answer_was_landed), (RX12, 127, "pier", tx_pier), (RX12, 196, "spots", tx_spots), (RX12, 201, "deep", tx_deep), (RX12, 203, "from", tx_from), (RX12, 205, "to", tx_to), (RX12, 129, "bait", tx_bait), (RX12, 131, "asker", tx_asker), (RX12, 133, "answer", tx_answer), (RX12, 135, "dark", tx_dark), (RX12, 137, "bite", tx_bite), (RX12, 227, "reach", tx_reach), (RX12, 234, "plain", tx_plain), (RX12, 236, "cold", tx_cold), (RX12, 238, "crab", tx_crab), (RX12, 240, "boot", tx_boot), (RX12, 242, "at", tx_at), (RX12, 244, "depth", tx_depth), (RX12, 246, "hunger", tx_hunger), (RX12, 248, "likes", tx_likes), (RX12, 254, "worth", tx_worth), (RX12, 274, "fathoms", tx_fathoms), (RX12, 276, "yes", tx_yes), (RX12, 278, "no", tx_no)]
def S1 (B q : Nat) (w : List Int32) (U : State) : Prop := w.length < 2 ^ 31 ∧ va_O "java/lang/String" q (fun x => B ≤ x) U U.heap ∧ va_OF "java/lang/String" "coder" "B" (.int 0) q (fun x => B ≤ x) U U.heap ∧ ∃ v : Nat, va_OF "java/lang/String" "value" "[B" (.ref v) q (fun x => B ≤ x) U U.heap ∧ va_T .byte v w.length (fun j => .int (w.getD j 0)) (fun x => B ≤ x) U U.heap
def SE (B : Nat) (U : State) : Prop := (∀ z ∈ strT, ∃ q, vk_R z.1 z.2.1 z.2.2.1 q U ∧ S1 B q z.2.2.2 U) ∧ va_Z "java/lang/String" "COMPACT_STRINGS" "Z" (.int 1) (fun x => B ≤ x) U U.heap ∧ va_Zq "jdk/internal/util/Preconditions" "SIOOBE_FORMATTER" "Ljava/util/function/BiFunction;" (fun x => B ≤ x) U U.heap
/-- the region that may be written lies above B, and all below it is older -/
def RB (B : Nat) (s : State) (A : Nat → Prop) : Prop := (∀ q, A q → B ≤ q) ∧ B ≤ s.heap.size
theorem S1.move {B q : Nat} {w : List Int32} {s U : State} (ha : s.vm.Alike U.vm) (hq : ∀ a : Nat, a < s.heap.size → ¬ B ≤ a → U.heap[a]? = s.heap[a]?) (h : S1 B q w s) : S1 B q w U := by
  obtain ⟨h0, h1, h2, v, h3, h4⟩ := h
  exact ⟨h0, (va_O.moved ha h1).kept hq, (va_OF.moved ha h2).kept hq, v, (va_OF.moved ha h3).kept hq, (va_T.moved ha h4).kept hq⟩
theorem SE.move {B : Nat} {s U : State} (hW : s.WarmedH U.vm) (hq : ∀ a : Nat, a < s.heap.size → ¬ B ≤ a → U.heap[a]? = s.heap[a]?) (h : SE B s) : SE B U := by
  refine ⟨fun z hz => ?_, (va_Z.moved hW.alike h.2.1).kept hq, (va_Zq.moved hW.alike h.2.2).kept hq⟩
  obtain ⟨q, h1, h2⟩ := h.1 z hz
  exact ⟨q, vk_R.warm hW h1, h2.move hW.alike hq⟩
theorem S1.same {B q : Nat} {w : List Int32} {u U : State} (hv : u.vm = U.vm) (hh : U.heap = u.heap) (h : S1 B q w u) : S1 B q w U := h.move (hv ▸ Vm.Alike.refl u.vm) (fun a _ _ => by rw [hh])
theorem SE.same {B : Nat} {u U : State} (hv : u.vm = U.vm) (hh : U.heap = u.heap) (h : SE B u) : SE B U := by
  refine ⟨fun z hz => ?_, (va_Z.moved (hv ▸ Vm.Alike.refl u.vm) h.2.1).kept (fun a _ _ => by rw [hh]), (va_Zq.moved (hv ▸ Vm.Alike.refl u.vm) h.2.2).kept (fun a _ _ => by rw [hh])⟩
  obtain ⟨q, h1, h2⟩ := h.1 z hz
  exact ⟨q, vk_R.same hv.symm h1, h2.same hv hh⟩
def PF (D : va_G) (B : Nat) (As : List Value) (sz : Nat) (ws : va_W) (tys : List (ClassId × FieldType)) (X : List (Nat × List Int32)) : Array Value → State → Prop := va_Pc As (fun U => U.heap.size = sz ∧ va_P D vwCl ws U.heap ∧ va_K D vwCl tys U ∧ va_D (fun q => B ≤ q) ws ∧ NW U ∧ B ≤ sz ∧ SE B U ∧ ∀ z ∈ X, S1 B z.1 z.2 U)
theorem PF_blind {D : va_G} {B : Nat} {As : List Value} {sz : Nat} {ws : va_W} {tys : List (ClassId × FieldType)} {X : List (Nat × List Int32)} : FrameBlind (PF D B As sz ws tys X) := fun a U g mk q => by
  obtain ⟨q0, q1, qP, qK, qD, qN, qB, qE, qX⟩ := q
  exact ⟨q0, q1, qP, va_K.moved (u := U) (U := U.calling g mk a) (Vm.Alike.refl U.vm) qK, qD, NW.same (u := U) (U := U.calling g mk a) rfl qN, qB, SE.same (u := U) (U := U.calling g mk a) rfl rfl qE, fun z hz => S1.same (u := U) (U := U.calling g mk a) rfl rfl (qX z hz)⟩
theorem PF_reg {ws : va_W} {B sz : Nat} (hD : va_D (fun q => B ≤ q) ws) (h : B ≤ sz) : ∀ q, va_A ws sz q → B ≤ q := by
  intro q hq
  rcases hq with ⟨k, e, hk⟩ | hq
  · exact hD.2 k _ hk
  · exact Nat.le_trans h hq
theorem RB_old {B : Nat} {s U : State} {A : Nat → Prop} {H : Heap} {locs : List Loc} (hS : va_S A s.heap H locs) (hB : RB B s A) (hU : U.heap = H) : ∀ a : Nat, a < s.heap.size → ¬ B ≤ a → U.heap[a]? = s.heap[a]? := fun a h1 h2 => by
  rw [hU]
  exact hS.2.1 a h1 (fun h => h2 (hB.1 a h))
theorem S1n {B : Nat} {s : State} : ∀ z ∈ ([] : List (Nat × List Int32)), S1 B z.1 z.2 s := fun _ h => by cases h
theorem S1c {B q : Nat} {w : List Int32} {s : State} {X : List (Nat × List Int32)} (h : S1 B q w s) (hX : ∀ z ∈ X, S1 B z.1 z.2 s) : ∀ z ∈ (q, w) :: X, S1 B z.1 z.2 s := by
  intro z hz
  rcases List.mem_cons.mp hz with rfl | hz
  · exact h
  · exact hX z hz
theorem PSF {s : State} {H : Heap} {D : va_G} {B : Nat} {ws : va_W} {tys : List (ClassId × FieldType)} {A : Nat → Prop} {As : List Value} {locs : List Loc} {X : List (Nat × List Int32)} (hP : va_P D vwCl ws H) (hK : va_K D vwCl tys s) (hD : va_D A ws) (hN : NW s) (hS : va_S A s.heap H locs) (hB : RB B s A) (hE : SE B s) (hX : ∀ z ∈ X, S1 B z.1 z.2 s) : PreS s H (PF D B As H.size ws tys X) As :=
  ⟨PF_blind, fun U hU hW => ⟨rfl, by rw [hU], by rw [hU]; exact hP, va_K.moved hW.alike hK, hD.weaken (fun _ _ _ h => hB.1 _ h), NW.warm hW hN, Nat.le_trans hB.2 hS.1, hE.move hW (RB_old hS hB hU), fun z hz => (hX z hz).move hW.alike (RB_old hS hB hU)⟩⟩
theorem PVF {s : State} {H : Heap} {D : va_G} {B : Nat} {ws : va_W} {tys : List (ClassId × FieldType)} {A : Nat → Prop} {As : List Value} {locs : List Loc} {X : List (Nat × List Int32)} (hP : va_P D vwCl ws H) (hK : va_K D vwCl tys s) (hD : va_D A ws) (hN : NW s) (hS : va_S A s.heap H locs) (hB : RB B s A) (hE : SE B s) (hX : ∀ z ∈ X, S1 B z.1 z.2 s) (q0 : Nat) {b ci : Nat} {fs : List Value} {C : String} {T : u_T} {N : Nat} (he : ws[q0]? = some (b, .inr (ci, fs))) (hc : vwCl[ci]? = some (C, T, N)) : PreV s H C b (PF D B (.ref b :: As) H.size ws tys X) As :=
  ⟨PF_blind, va_recv hK hP hc he, fun U hU hW => ⟨rfl, by rw [hU], by rw [hU]; exact hP, va_K.moved hW.alike hK, hD.weaken (fun _ _ _ h => hB.1 _ h), NW.warm hW hN, Nat.le_trans hB.2 hS.1, hE.move hW (RB_old hS hB hU), fun z hz => (hX z hz).move hW.alike (RB_old hS hB hU)⟩⟩
/-- a String is the receiver -/
theorem PVS {s : State} {H : Heap} {D : va_G} {B q : Nat} {w : List Int32} {tys : List (ClassId × FieldType)} {A : Nat → Prop} {As : List Value} {locs : List Loc} (hK : va_K D vwCl tys s) (hN : NW s) (hS : va_S A s.heap H locs) (hB : RB B s A) (hE : SE B s) (hx : S1 B q w s) : PreV s H RJ0 q (PF D B (.ref q :: As) H.size [] [] [(q, w)]) As :=
  ⟨PF_blind, by
    obtain ⟨cell, h1, h2, h3, -⟩ := (hx.2.1.narrow hB.1).kept hS.2.1
    exact ⟨cell, h1, h2, h3⟩, fun U hU hW => ⟨rfl, by rw [hU], (fun k q hk => by simp at hk), va_K.moved hW.alike (hK.sub (tys' := []) [] rfl), ⟨fun i j p q hi => by simp at hi, fun k q hk => by simp at hk⟩, NW.warm hW hN, Nat.le_trans hB.2 hS.1, hE.move hW (RB_old hS hB hU), S1c (hx.move hW.alike (RB_old hS hB hU)) S1n⟩⟩
abbrev apW (a b : List Cond) : List Cond := a ++ b
