/-! decode rows by one pass over a method's bytes -/
def zby (c : ByteArray) : List Nat := c.data.toList.map UInt8.toNat
theorem zby_len (c : ByteArray) : (zby c).length = c.size := by
  unfold zby
  rw [List.length_map, Array.length_toList]
  rfl
theorem z_drop {l : List Nat} {p b : Nat} {r : List Nat} (h : l.drop p = b :: r) : ∃ hp : p < l.length, l[p] = b ∧ l.drop (p + 1) = r := by
  by_cases hp : p < l.length
  · rw [List.drop_eq_getElem_cons hp] at h
    injection h with h1 h2
    exact ⟨hp, h1, h2⟩
  · rw [List.drop_eq_nil_of_le (by omega)] at h
    cases h
theorem z_nx {l : List Nat} {p b : Nat} {r : List Nat} (h : l.drop p = b :: r) : l.drop (p + 1) = r := (z_drop h).2.2
abbrev ZD (α : Type) : Type := Jvm.ClassFile.Decoder α
abbrev zu1 : ZD Nat := Jvm.ClassFile.Reader.u1
abbrev zu2 : ZD Nat := Jvm.ClassFile.Reader.u2
theorem z_u1 {c : ByteArray} {p b : Nat} {r : List Nat} (h : (zby c).drop p = b :: r) : zu1 c p = .ok (b, p + 1) := by
  obtain ⟨hp, e, -⟩ := z_drop h
  have hs : p < c.size := by
    rw [← zby_len]
    exact hp
  have e2 : (c[p]'hs).toNat = b := by
    rw [← e]
    simp only [zby, List.getElem_map, Array.getElem_toList]
    rfl
  have key : ∀ (t : p < c.size → ZD Nat) (e : ¬ p < c.size → ZD Nat), (dite (p < c.size) t e) c p = t hs c p := by
    intro t e
    rw [dif_pos hs]
  refine (key (fun h => (do set (p + 1); pure (c[p]'h).toNat)) _).trans ?_
  show Except.ok ((c[p]'hs).toNat, p + 1) = _
  rw [e2]
theorem z_bd {α β : Type} {m : ZD α} {F : α → ZD β} {c : ByteArray} {p p' : Nat} {a : α} (h : m c p = .ok (a, p')) : (m >>= F) c p = F a c p' := by
  simp only [bind, ReaderT.bind, StateT.bind, h]
  rfl
theorem z_mp {α β : Type} {m : ZD α} {f : α → β} {c : ByteArray} {p p' : Nat} {a : α} (h : m c p = .ok (a, p')) : (f <$> m) c p = .ok (f a, p') := by
  have e : (f <$> m) = (m >>= fun x => pure (f x)) := rfl
  rw [e, z_bd h]
  rfl
theorem z_u2 {c : ByteArray} {p x y : Nat} {r : List Nat} (h : (zby c).drop p = x :: y :: r) : zu2 c p = .ok (x * 256 + y, p + 2) := by
  show (zu1 >>= fun hi => zu1 >>= fun lo => pure (hi * 256 + lo)) c p = _
  rw [z_bd (z_u1 h), z_bd (z_u1 (z_nx h))]
  rfl
theorem z_s1 {c : ByteArray} {p b : Nat} {r : List Nat} (h : (zby c).drop p = b :: r) : (Jvm.ClassFile.Reader.s1 : ZD Int) c p = .ok (Jvm.ClassFile.Reader.signed 8 b, p + 1) := z_mp (z_u1 h)
theorem z_s2 {c : ByteArray} {p x y : Nat} {r : List Nat} (h : (zby c).drop p = x :: y :: r) : (Jvm.ClassFile.Reader.s2 : ZD Int) c p = .ok (Jvm.ClassFile.Reader.signed 16 (x * 256 + y), p + 2) := z_mp (z_u2 h)
theorem z_dec {c : ByteArray} {p n : Nat} {i : Instr} (h : Jvm.ClassFile.Decoder.instr p c p = .ok (i, p + n)) : decode c p = .ok (i, n) := by
  unfold decode Jvm.ClassFile.Reader.runAt
  have e : ((Jvm.ClassFile.Decoder.instr p).run c).run p = .ok (i, p + n) := h
  rw [e]
  show Except.ok (i, p + n - p) = _
  rw [Nat.add_sub_cancel_left]
def Ok0 (op : Nat) (i : Instr) : Prop := ∀ (c : ByteArray) (p : Nat) (r : List Nat), (zby c).drop p = op :: r → decode c p = .ok (i, 1)
def OkU1 (op : Nat) (f : Nat → Instr) : Prop := ∀ (c : ByteArray) (p x : Nat) (r : List Nat), (zby c).drop p = op :: x :: r → decode c p = .ok (f x, 2)
def OkS1 (op : Nat) (f : Int → Instr) : Prop := ∀ (c : ByteArray) (p x : Nat) (r : List Nat), (zby c).drop p = op :: x :: r → decode c p = .ok (f (Jvm.ClassFile.Reader.signed 8 x), 2)
def OkU2 (op : Nat) (f : Nat → Instr) : Prop := ∀ (c : ByteArray) (p x y : Nat) (r : List Nat), (zby c).drop p = op :: x :: y :: r → decode c p = .ok (f (x * 256 + y), 3)
def OkS2 (op : Nat) (f : Int → Instr) : Prop := ∀ (c : ByteArray) (p x y : Nat) (r : List Nat), (zby c).drop p = op :: x :: y :: r → decode c p = .ok (f (Jvm.ClassFile.Reader.signed 16 (x * 256 + y)), 3)
def OkN (x : Nat) (i : Instr) : Prop := ∀ (c : ByteArray) (p : Nat) (r : List Nat), (zby c).drop p = 188 :: x :: r → decode c p = .ok (i, 2)
set_option maxRecDepth 20000 in
theorem zo_42 : Ok0 42 (.aload_n 0) := by
  intro c p r h
  refine z_dec ?_
  unfold Jvm.ClassFile.Decoder.instr
  rw [z_bd (z_u1 h)]
  rfl
set_option maxRecDepth 20000 in
theorem zo_43 : Ok0 43 (.aload_n 1) := by
  intro c p r h
  refine z_dec ?_
  unfold Jvm.ClassFile.Decoder.instr
  rw [z_bd (z_u1 h)]
  rfl
set_option maxRecDepth 20000 in
theorem zo_44 : Ok0 44 (.aload_n 2) := by
  intro c p r h
  refine z_dec ?_
  unfold Jvm.ClassFile.Decoder.instr
  rw [z_bd (z_u1 h)]
  rfl
set_option maxRecDepth 20000 in
theorem zo_45 : Ok0 45 (.aload_n 3) := by
  intro c p r h
  refine z_dec ?_
  unfold Jvm.ClassFile.Decoder.instr
  rw [z_bd (z_u1 h)]
  rfl
set_option maxRecDepth 20000 in
theorem zo_26 : Ok0 26 (.iload_n 0) := by
  intro c p r h
  refine z_dec ?_
  unfold Jvm.ClassFile.Decoder.instr
  rw [z_bd (z_u1 h)]
  rfl
set_option maxRecDepth 20000 in
theorem zo_27 : Ok0 27 (.iload_n 1) := by
  intro c p r h
  refine z_dec ?_
  unfold Jvm.ClassFile.Decoder.instr
  rw [z_bd (z_u1 h)]
  rfl
set_option maxRecDepth 20000 in
theorem zo_28 : Ok0 28 (.iload_n 2) := by
  intro c p r h
  refine z_dec ?_
  unfold Jvm.ClassFile.Decoder.instr
  rw [z_bd (z_u1 h)]
  rfl
set_option maxRecDepth 20000 in
theorem zo_29 : Ok0 29 (.iload_n 3) := by
  intro c p r h
  refine z_dec ?_
  unfold Jvm.ClassFile.Decoder.instr
  rw [z_bd (z_u1 h)]
  rfl
set_option maxRecDepth 20000 in
theorem zo_3 : Ok0 3 (.iconst 0) := by
  intro c p r h
  refine z_dec ?_
  unfold Jvm.ClassFile.Decoder.instr
  rw [z_bd (z_u1 h)]
  rfl
set_option maxRecDepth 20000 in
theorem zo_4 : Ok0 4 (.iconst 1) := by
  intro c p r h
  refine z_dec ?_
  unfold Jvm.ClassFile.Decoder.instr
  rw [z_bd (z_u1 h)]
  rfl
set_option maxRecDepth 20000 in
theorem zo_5 : Ok0 5 (.iconst 2) := by
  intro c p r h
  refine z_dec ?_
  unfold Jvm.ClassFile.Decoder.instr
  rw [z_bd (z_u1 h)]
  rfl
set_option maxRecDepth 20000 in
theorem zo_6 : Ok0 6 (.iconst 3) := by
  intro c p r h
  refine z_dec ?_
  unfold Jvm.ClassFile.Decoder.instr
  rw [z_bd (z_u1 h)]
  rfl
set_option maxRecDepth 20000 in
theorem zo_7 : Ok0 7 (.iconst 4) := by
  intro c p r h
  refine z_dec ?_
  unfold Jvm.ClassFile.Decoder.instr
  rw [z_bd (z_u1 h)]
  rfl
set_option maxRecDepth 20000 in
theorem zo_8 : Ok0 8 (.iconst 5) := by
  intro c p r h
  refine z_dec ?_
  unfold Jvm.ClassFile.Decoder.instr
  rw [z_bd (z_u1 h)]
  rfl
set_option maxRecDepth 20000 in
theorem zo_2 : Ok0 2 (.iconst (-1)) := by
  intro c p r h
  refine z_dec ?_
  unfold Jvm.ClassFile.Decoder.instr
  rw [z_bd (z_u1 h)]
  rfl
set_option maxRecDepth 20000 in
theorem zo_172 : Ok0 172 (.ireturn) := by
  intro c p r h
  refine z_dec ?_
  unfold Jvm.ClassFile.Decoder.instr
  rw [z_bd (z_u1 h)]
  rfl
set_option maxRecDepth 20000 in
theorem zo_46 : Ok0 46 (.iaload) := by
  intro c p r h
  refine z_dec ?_
  unfold Jvm.ClassFile.Decoder.instr
  rw [z_bd (z_u1 h)]
  rfl
set_option maxRecDepth 20000 in
theorem zo_96 : Ok0 96 (.iadd) := by
  intro c p r h
  refine z_dec ?_
  unfold Jvm.ClassFile.Decoder.instr
  rw [z_bd (z_u1 h)]
  rfl
set_option maxRecDepth 20000 in
theorem zo_59 : Ok0 59 (.istore_n 0) := by
  intro c p r h
  refine z_dec ?_
  unfold Jvm.ClassFile.Decoder.instr
  rw [z_bd (z_u1 h)]
  rfl
set_option maxRecDepth 20000 in
theorem zo_60 : Ok0 60 (.istore_n 1) := by
  intro c p r h
  refine z_dec ?_
  unfold Jvm.ClassFile.Decoder.instr
  rw [z_bd (z_u1 h)]
  rfl
set_option maxRecDepth 20000 in
theorem zo_61 : Ok0 61 (.istore_n 2) := by
  intro c p r h
  refine z_dec ?_
  unfold Jvm.ClassFile.Decoder.instr
  rw [z_bd (z_u1 h)]
  rfl
set_option maxRecDepth 20000 in
theorem zo_62 : Ok0 62 (.istore_n 3) := by
  intro c p r h
  refine z_dec ?_
  unfold Jvm.ClassFile.Decoder.instr
  rw [z_bd (z_u1 h)]
  rfl
set_option maxRecDepth 20000 in
theorem zo_87 : Ok0 87 (.pop) := by
  intro c p r h
  refine z_dec ?_
  unfold Jvm.ClassFile.Decoder.instr
  rw [z_bd (z_u1 h)]
  rfl
set_option maxRecDepth 20000 in
theorem zo_79 : Ok0 79 (.iastore) := by
  intro c p r h
  refine z_dec ?_
  unfold Jvm.ClassFile.Decoder.instr
  rw [z_bd (z_u1 h)]
  rfl
set_option maxRecDepth 20000 in
theorem zo_100 : Ok0 100 (.isub) := by
  intro c p r h
  refine z_dec ?_
  unfold Jvm.ClassFile.Decoder.instr
  rw [z_bd (z_u1 h)]
  rfl
set_option maxRecDepth 20000 in
theorem zo_177 : Ok0 177 (.return_) := by
  intro c p r h
  refine z_dec ?_
  unfold Jvm.ClassFile.Decoder.instr
  rw [z_bd (z_u1 h)]
  rfl
set_option maxRecDepth 20000 in
theorem zo_89 : Ok0 89 (.dup) := by
  intro c p r h
  refine z_dec ?_
  unfold Jvm.ClassFile.Decoder.instr
  rw [z_bd (z_u1 h)]
  rfl
set_option maxRecDepth 20000 in
theorem zo_30 : Ok0 30 (.lload_n 0) := by
  intro c p r h
  refine z_dec ?_
  unfold Jvm.ClassFile.Decoder.instr
  rw [z_bd (z_u1 h)]
  rfl
set_option maxRecDepth 20000 in
theorem zo_31 : Ok0 31 (.lload_n 1) := by
  intro c p r h
  refine z_dec ?_
  unfold Jvm.ClassFile.Decoder.instr
  rw [z_bd (z_u1 h)]
  rfl
set_option maxRecDepth 20000 in
theorem zo_32 : Ok0 32 (.lload_n 2) := by
  intro c p r h
  refine z_dec ?_
  unfold Jvm.ClassFile.Decoder.instr
  rw [z_bd (z_u1 h)]
  rfl
set_option maxRecDepth 20000 in
theorem zo_33 : Ok0 33 (.lload_n 3) := by
  intro c p r h
  refine z_dec ?_
  unfold Jvm.ClassFile.Decoder.instr
  rw [z_bd (z_u1 h)]
  rfl
set_option maxRecDepth 20000 in
theorem zo_104 : Ok0 104 (.imul) := by
  intro c p r h
  refine z_dec ?_
  unfold Jvm.ClassFile.Decoder.instr
  rw [z_bd (z_u1 h)]
  rfl
set_option maxRecDepth 20000 in
theorem zo_173 : Ok0 173 (.lreturn) := by
  intro c p r h
  refine z_dec ?_
  unfold Jvm.ClassFile.Decoder.instr
  rw [z_bd (z_u1 h)]
  rfl
set_option maxRecDepth 20000 in
theorem zo_63 : Ok0 63 (.lstore_n 0) := by
  intro c p r h
  refine z_dec ?_
  unfold Jvm.ClassFile.Decoder.instr
  rw [z_bd (z_u1 h)]
  rfl
set_option maxRecDepth 20000 in
theorem zo_64 : Ok0 64 (.lstore_n 1) := by
  intro c p r h
  refine z_dec ?_
  unfold Jvm.ClassFile.Decoder.instr
  rw [z_bd (z_u1 h)]
  rfl
set_option maxRecDepth 20000 in
theorem zo_65 : Ok0 65 (.lstore_n 2) := by
  intro c p r h
  refine z_dec ?_
  unfold Jvm.ClassFile.Decoder.instr
  rw [z_bd (z_u1 h)]
  rfl
set_option maxRecDepth 20000 in
theorem zo_66 : Ok0 66 (.lstore_n 3) := by
  intro c p r h
  refine z_dec ?_
  unfold Jvm.ClassFile.Decoder.instr
  rw [z_bd (z_u1 h)]
  rfl
set_option maxRecDepth 20000 in
theorem zo_9 : Ok0 9 (.lconst 0) := by
  intro c p r h
  refine z_dec ?_
  unfold Jvm.ClassFile.Decoder.instr
  rw [z_bd (z_u1 h)]
  rfl
set_option maxRecDepth 20000 in
theorem zo_10 : Ok0 10 (.lconst 1) := by
  intro c p r h
  refine z_dec ?_
  unfold Jvm.ClassFile.Decoder.instr
  rw [z_bd (z_u1 h)]
  rfl
set_option maxRecDepth 20000 in
theorem zo_190 : Ok0 190 (.arraylength) := by
  intro c p r h
  refine z_dec ?_
  unfold Jvm.ClassFile.Decoder.instr
  rw [z_bd (z_u1 h)]
  rfl
set_option maxRecDepth 20000 in
theorem zo_112 : Ok0 112 (.irem) := by
  intro c p r h
  refine z_dec ?_
  unfold Jvm.ClassFile.Decoder.instr
  rw [z_bd (z_u1 h)]
  rfl
set_option maxRecDepth 20000 in
theorem zo_108 : Ok0 108 (.idiv) := by
  intro c p r h
  refine z_dec ?_
  unfold Jvm.ClassFile.Decoder.instr
  rw [z_bd (z_u1 h)]
  rfl
set_option maxRecDepth 20000 in
theorem zo_126 : Ok0 126 (.iand) := by
  intro c p r h
  refine z_dec ?_
  unfold Jvm.ClassFile.Decoder.instr
  rw [z_bd (z_u1 h)]
  rfl
set_option maxRecDepth 20000 in
theorem zo_133 : Ok0 133 (.i2l) := by
  intro c p r h
  refine z_dec ?_
  unfold Jvm.ClassFile.Decoder.instr
  rw [z_bd (z_u1 h)]
  rfl
set_option maxRecDepth 20000 in
theorem zo_120 : Ok0 120 (.ishl) := by
  intro c p r h
  refine z_dec ?_
  unfold Jvm.ClassFile.Decoder.instr
  rw [z_bd (z_u1 h)]
  rfl
set_option maxRecDepth 20000 in
theorem zo_51 : Ok0 51 (.baload) := by
  intro c p r h
  refine z_dec ?_
  unfold Jvm.ClassFile.Decoder.instr
  rw [z_bd (z_u1 h)]
  rfl
set_option maxRecDepth 20000 in
theorem zo_148 : Ok0 148 (.lcmp) := by
  intro c p r h
  refine z_dec ?_
  unfold Jvm.ClassFile.Decoder.instr
  rw [z_bd (z_u1 h)]
  rfl
set_option maxRecDepth 20000 in
theorem zo_105 : Ok0 105 (.lmul) := by
  intro c p r h
  refine z_dec ?_
  unfold Jvm.ClassFile.Decoder.instr
  rw [z_bd (z_u1 h)]
  rfl
set_option maxRecDepth 20000 in
theorem zo_128 : Ok0 128 (.ior) := by
  intro c p r h
  refine z_dec ?_
  unfold Jvm.ClassFile.Decoder.instr
  rw [z_bd (z_u1 h)]
  rfl
set_option maxRecDepth 20000 in
theorem zo_88 : Ok0 88 (.pop2) := by
  intro c p r h
  refine z_dec ?_
  unfold Jvm.ClassFile.Decoder.instr
  rw [z_bd (z_u1 h)]
  rfl
set_option maxRecDepth 20000 in
theorem zo_122 : Ok0 122 (.ishr) := by
  intro c p r h
  refine z_dec ?_
  unfold Jvm.ClassFile.Decoder.instr
  rw [z_bd (z_u1 h)]
  rfl
set_option maxRecDepth 20000 in
theorem zo_97 : Ok0 97 (.ladd) := by
  intro c p r h
  refine z_dec ?_
  unfold Jvm.ClassFile.Decoder.instr
  rw [z_bd (z_u1 h)]
  rfl
set_option maxRecDepth 20000 in
theorem zo_124 : Ok0 124 (.iushr) := by
  intro c p r h
  refine z_dec ?_
  unfold Jvm.ClassFile.Decoder.instr
  rw [z_bd (z_u1 h)]
  rfl
set_option maxRecDepth 20000 in
theorem zo_75 : Ok0 75 (.astore_n 0) := by
  intro c p r h
  refine z_dec ?_
  unfold Jvm.ClassFile.Decoder.instr
  rw [z_bd (z_u1 h)]
  rfl
set_option maxRecDepth 20000 in
theorem zo_76 : Ok0 76 (.astore_n 1) := by
  intro c p r h
  refine z_dec ?_
  unfold Jvm.ClassFile.Decoder.instr
  rw [z_bd (z_u1 h)]
  rfl
set_option maxRecDepth 20000 in
theorem zo_77 : Ok0 77 (.astore_n 2) := by
  intro c p r h
  refine z_dec ?_
  unfold Jvm.ClassFile.Decoder.instr
  rw [z_bd (z_u1 h)]
  rfl
set_option maxRecDepth 20000 in
theorem zo_78 : Ok0 78 (.astore_n 3) := by
  intro c p r h
  refine z_dec ?_
  unfold Jvm.ClassFile.Decoder.instr
  rw [z_bd (z_u1 h)]
  rfl
set_option maxRecDepth 20000 in
theorem zo_101 : Ok0 101 (.lsub) := by
  intro c p r h
  refine z_dec ?_
  unfold Jvm.ClassFile.Decoder.instr
  rw [z_bd (z_u1 h)]
  rfl
set_option maxRecDepth 20000 in
theorem zo_92 : Ok0 92 (.dup2) := by
  intro c p r h
  refine z_dec ?_
  unfold Jvm.ClassFile.Decoder.instr
  rw [z_bd (z_u1 h)]
  rfl
set_option maxRecDepth 20000 in
theorem zo_50 : Ok0 50 (.aaload) := by
  intro c p r h
  refine z_dec ?_
  unfold Jvm.ClassFile.Decoder.instr
  rw [z_bd (z_u1 h)]
  rfl
set_option maxRecDepth 20000 in
theorem zo_113 : Ok0 113 (.lrem) := by
  intro c p r h
  refine z_dec ?_
  unfold Jvm.ClassFile.Decoder.instr
  rw [z_bd (z_u1 h)]
  rfl
set_option maxRecDepth 20000 in
theorem zo_109 : Ok0 109 (.ldiv) := by
  intro c p r h
  refine z_dec ?_
  unfold Jvm.ClassFile.Decoder.instr
  rw [z_bd (z_u1 h)]
  rfl
set_option maxRecDepth 20000 in
theorem zo_80 : Ok0 80 (.lastore) := by
  intro c p r h
  refine z_dec ?_
  unfold Jvm.ClassFile.Decoder.instr
  rw [z_bd (z_u1 h)]
  rfl
set_option maxRecDepth 20000 in
theorem zo_84 : Ok0 84 (.bastore) := by
  intro c p r h
  refine z_dec ?_
  unfold Jvm.ClassFile.Decoder.instr
  rw [z_bd (z_u1 h)]
  rfl
set_option maxRecDepth 20000 in
theorem zo_47 : Ok0 47 (.laload) := by
  intro c p r h
  refine z_dec ?_
  unfold Jvm.ClassFile.Decoder.instr
  rw [z_bd (z_u1 h)]
  rfl
set_option maxRecDepth 20000 in
theorem zo_145 : Ok0 145 (.i2b) := by
  intro c p r h
  refine z_dec ?_
  unfold Jvm.ClassFile.Decoder.instr
  rw [z_bd (z_u1 h)]
  rfl
set_option maxRecDepth 20000 in
theorem zo_83 : Ok0 83 (.aastore) := by
  intro c p r h
  refine z_dec ?_
  unfold Jvm.ClassFile.Decoder.instr
  rw [z_bd (z_u1 h)]
  rfl
set_option maxRecDepth 20000 in
theorem zo_136 : Ok0 136 (.l2i) := by
  intro c p r h
  refine z_dec ?_
  unfold Jvm.ClassFile.Decoder.instr
  rw [z_bd (z_u1 h)]
  rfl
set_option maxRecDepth 20000 in
theorem zo_130 : Ok0 130 (.ixor) := by
  intro c p r h
  refine z_dec ?_
  unfold Jvm.ClassFile.Decoder.instr
  rw [z_bd (z_u1 h)]
  rfl
set_option maxRecDepth 20000 in
theorem zo_146 : Ok0 146 (.i2c) := by
  intro c p r h
  refine z_dec ?_
  unfold Jvm.ClassFile.Decoder.instr
  rw [z_bd (z_u1 h)]
  rfl
set_option maxRecDepth 20000 in
theorem zo_191 : Ok0 191 (.athrow) := by
  intro c p r h
  refine z_dec ?_
  unfold Jvm.ClassFile.Decoder.instr
  rw [z_bd (z_u1 h)]
  rfl
set_option maxRecDepth 20000 in
theorem zo_1 : Ok0 1 (.aconst_null) := by
  intro c p r h
  refine z_dec ?_
  unfold Jvm.ClassFile.Decoder.instr
  rw [z_bd (z_u1 h)]
  rfl
set_option maxRecDepth 20000 in
theorem zo_21 : OkU1 21 .iload := by
  intro c p x r h
  refine z_dec ?_
  unfold Jvm.ClassFile.Decoder.instr
  rw [z_bd (z_u1 h)]
  show (zu1 >>= fun v => pure (Instr.iload v)) c (p + 1) = _
  rw [z_bd (z_u1 (z_nx h))]
  rfl
set_option maxRecDepth 20000 in
theorem zo_54 : OkU1 54 .istore := by
  intro c p x r h
  refine z_dec ?_
  unfold Jvm.ClassFile.Decoder.instr
  rw [z_bd (z_u1 h)]
  show (zu1 >>= fun v => pure (Instr.istore v)) c (p + 1) = _
  rw [z_bd (z_u1 (z_nx h))]
  rfl
set_option maxRecDepth 20000 in
theorem zo_18 : OkU1 18 .ldc := by
  intro c p x r h
  refine z_dec ?_
  unfold Jvm.ClassFile.Decoder.instr
  rw [z_bd (z_u1 h)]
  show (zu1 >>= fun v => pure (Instr.ldc v)) c (p + 1) = _
  rw [z_bd (z_u1 (z_nx h))]
  rfl
set_option maxRecDepth 20000 in
theorem zo_22 : OkU1 22 .lload := by
  intro c p x r h
  refine z_dec ?_
  unfold Jvm.ClassFile.Decoder.instr
  rw [z_bd (z_u1 h)]
  show (zu1 >>= fun v => pure (Instr.lload v)) c (p + 1) = _
  rw [z_bd (z_u1 (z_nx h))]
  rfl
set_option maxRecDepth 20000 in
theorem zo_55 : OkU1 55 .lstore := by
  intro c p x r h
  refine z_dec ?_
  unfold Jvm.ClassFile.Decoder.instr
  rw [z_bd (z_u1 h)]
  show (zu1 >>= fun v => pure (Instr.lstore v)) c (p + 1) = _
  rw [z_bd (z_u1 (z_nx h))]
  rfl
set_option maxRecDepth 20000 in
theorem zo_25 : OkU1 25 .aload := by
  intro c p x r h
  refine z_dec ?_
  unfold Jvm.ClassFile.Decoder.instr
  rw [z_bd (z_u1 h)]
  show (zu1 >>= fun v => pure (Instr.aload v)) c (p + 1) = _
  rw [z_bd (z_u1 (z_nx h))]
  rfl
set_option maxRecDepth 20000 in
theorem zo_58 : OkU1 58 .astore := by
  intro c p x r h
  refine z_dec ?_
  unfold Jvm.ClassFile.Decoder.instr
  rw [z_bd (z_u1 h)]
  show (zu1 >>= fun v => pure (Instr.astore v)) c (p + 1) = _
  rw [z_bd (z_u1 (z_nx h))]
  rfl
set_option maxRecDepth 20000 in
theorem zo_16 : OkS1 16 .bipush := by
  intro c p x r h
  refine z_dec ?_
  unfold Jvm.ClassFile.Decoder.instr
  rw [z_bd (z_u1 h)]
  show ((Jvm.ClassFile.Reader.s1 : ZD Int) >>= fun v => pure (Instr.bipush v)) c (p + 1) = _
  rw [z_bd (z_s1 (z_nx h))]
  rfl
set_option maxRecDepth 20000 in
theorem zo_180 : OkU2 180 (.getfield) := by
  intro c p x y r h
  refine z_dec ?_
  unfold Jvm.ClassFile.Decoder.instr
  rw [z_bd (z_u1 h)]
  show (zu2 >>= fun v => pure (Instr.getfield v)) c (p + 1) = _
  rw [z_bd (z_u2 (z_nx h))]
  rfl
set_option maxRecDepth 20000 in
theorem zo_182 : OkU2 182 (.invokevirtual) := by
  intro c p x y r h
  refine z_dec ?_
  unfold Jvm.ClassFile.Decoder.instr
  rw [z_bd (z_u1 h)]
  show (zu2 >>= fun v => pure (Instr.invokevirtual v)) c (p + 1) = _
  rw [z_bd (z_u2 (z_nx h))]
  rfl
set_option maxRecDepth 20000 in
theorem zo_181 : OkU2 181 (.putfield) := by
  intro c p x y r h
  refine z_dec ?_
  unfold Jvm.ClassFile.Decoder.instr
  rw [z_bd (z_u1 h)]
  show (zu2 >>= fun v => pure (Instr.putfield v)) c (p + 1) = _
  rw [z_bd (z_u2 (z_nx h))]
  rfl
set_option maxRecDepth 20000 in
theorem zo_184 : OkU2 184 (.invokestatic) := by
  intro c p x y r h
  refine z_dec ?_
  unfold Jvm.ClassFile.Decoder.instr
  rw [z_bd (z_u1 h)]
  show (zu2 >>= fun v => pure (Instr.invokestatic v)) c (p + 1) = _
  rw [z_bd (z_u2 (z_nx h))]
  rfl
set_option maxRecDepth 20000 in
theorem zo_183 : OkU2 183 (.invokespecial) := by
  intro c p x y r h
  refine z_dec ?_
  unfold Jvm.ClassFile.Decoder.instr
  rw [z_bd (z_u1 h)]
  show (zu2 >>= fun v => pure (Instr.invokespecial v)) c (p + 1) = _
  rw [z_bd (z_u2 (z_nx h))]
  rfl
set_option maxRecDepth 20000 in
theorem zo_20 : OkU2 20 (.ldc2_w) := by
  intro c p x y r h
  refine z_dec ?_
  unfold Jvm.ClassFile.Decoder.instr
  rw [z_bd (z_u1 h)]
  show (zu2 >>= fun v => pure (Instr.ldc2_w v)) c (p + 1) = _
  rw [z_bd (z_u2 (z_nx h))]
  rfl
set_option maxRecDepth 20000 in
theorem zo_187 : OkU2 187 (.new) := by
  intro c p x y r h
  refine z_dec ?_
  unfold Jvm.ClassFile.Decoder.instr
  rw [z_bd (z_u1 h)]
  show (zu2 >>= fun v => pure (Instr.new v)) c (p + 1) = _
  rw [z_bd (z_u2 (z_nx h))]
  rfl
set_option maxRecDepth 20000 in
theorem zo_19 : OkU2 19 (.ldc_w) := by
  intro c p x y r h
  refine z_dec ?_
  unfold Jvm.ClassFile.Decoder.instr
  rw [z_bd (z_u1 h)]
  show (zu2 >>= fun v => pure (Instr.ldc_w v)) c (p + 1) = _
  rw [z_bd (z_u2 (z_nx h))]
  rfl
set_option maxRecDepth 20000 in
theorem zo_178 : OkU2 178 (.getstatic) := by
  intro c p x y r h
  refine z_dec ?_
  unfold Jvm.ClassFile.Decoder.instr
  rw [z_bd (z_u1 h)]
  show (zu2 >>= fun v => pure (Instr.getstatic v)) c (p + 1) = _
  rw [z_bd (z_u2 (z_nx h))]
  rfl
set_option maxRecDepth 20000 in
theorem zo_189 : OkU2 189 (.anewarray) := by
  intro c p x y r h
  refine z_dec ?_
  unfold Jvm.ClassFile.Decoder.instr
  rw [z_bd (z_u1 h)]
  show (zu2 >>= fun v => pure (Instr.anewarray v)) c (p + 1) = _
  rw [z_bd (z_u2 (z_nx h))]
  rfl
set_option maxRecDepth 20000 in
theorem zo_167 : OkS2 167 (.goto) := by
  intro c p x y r h
  refine z_dec ?_
  unfold Jvm.ClassFile.Decoder.instr
  rw [z_bd (z_u1 h)]
  show ((Jvm.ClassFile.Reader.s2 : ZD Int) >>= fun v => pure (Instr.goto v)) c (p + 1) = _
  rw [z_bd (z_s2 (z_nx h))]
  rfl
set_option maxRecDepth 20000 in
theorem zo_153 : OkS2 153 (.ifCond .eq) := by
  intro c p x y r h
  refine z_dec ?_
  unfold Jvm.ClassFile.Decoder.instr
  rw [z_bd (z_u1 h)]
  show ((Jvm.ClassFile.Reader.s2 : ZD Int) >>= fun v => pure (Instr.ifCond .eq v)) c (p + 1) = _
  rw [z_bd (z_s2 (z_nx h))]
  rfl
set_option maxRecDepth 20000 in
theorem zo_154 : OkS2 154 (.ifCond .ne) := by
  intro c p x y r h
  refine z_dec ?_
  unfold Jvm.ClassFile.Decoder.instr
  rw [z_bd (z_u1 h)]
  show ((Jvm.ClassFile.Reader.s2 : ZD Int) >>= fun v => pure (Instr.ifCond .ne v)) c (p + 1) = _
  rw [z_bd (z_s2 (z_nx h))]
  rfl
set_option maxRecDepth 20000 in
theorem zo_155 : OkS2 155 (.ifCond .lt) := by
  intro c p x y r h
  refine z_dec ?_
  unfold Jvm.ClassFile.Decoder.instr
  rw [z_bd (z_u1 h)]
  show ((Jvm.ClassFile.Reader.s2 : ZD Int) >>= fun v => pure (Instr.ifCond .lt v)) c (p + 1) = _
  rw [z_bd (z_s2 (z_nx h))]
  rfl
set_option maxRecDepth 20000 in
theorem zo_156 : OkS2 156 (.ifCond .ge) := by
  intro c p x y r h
  refine z_dec ?_
  unfold Jvm.ClassFile.Decoder.instr
  rw [z_bd (z_u1 h)]
  show ((Jvm.ClassFile.Reader.s2 : ZD Int) >>= fun v => pure (Instr.ifCond .ge v)) c (p + 1) = _
  rw [z_bd (z_s2 (z_nx h))]
  rfl
set_option maxRecDepth 20000 in
theorem zo_157 : OkS2 157 (.ifCond .gt) := by
  intro c p x y r h
  refine z_dec ?_
  unfold Jvm.ClassFile.Decoder.instr
  rw [z_bd (z_u1 h)]
  show ((Jvm.ClassFile.Reader.s2 : ZD Int) >>= fun v => pure (Instr.ifCond .gt v)) c (p + 1) = _
  rw [z_bd (z_s2 (z_nx h))]
  rfl
set_option maxRecDepth 20000 in
theorem zo_158 : OkS2 158 (.ifCond .le) := by
  intro c p x y r h
  refine z_dec ?_
  unfold Jvm.ClassFile.Decoder.instr
  rw [z_bd (z_u1 h)]
  show ((Jvm.ClassFile.Reader.s2 : ZD Int) >>= fun v => pure (Instr.ifCond .le v)) c (p + 1) = _
  rw [z_bd (z_s2 (z_nx h))]
  rfl
set_option maxRecDepth 20000 in
theorem zo_159 : OkS2 159 (.if_icmp .eq) := by
  intro c p x y r h
  refine z_dec ?_
  unfold Jvm.ClassFile.Decoder.instr
  rw [z_bd (z_u1 h)]
  show ((Jvm.ClassFile.Reader.s2 : ZD Int) >>= fun v => pure (Instr.if_icmp .eq v)) c (p + 1) = _
  rw [z_bd (z_s2 (z_nx h))]
  rfl
set_option maxRecDepth 20000 in
theorem zo_160 : OkS2 160 (.if_icmp .ne) := by
  intro c p x y r h
  refine z_dec ?_
  unfold Jvm.ClassFile.Decoder.instr
  rw [z_bd (z_u1 h)]
  show ((Jvm.ClassFile.Reader.s2 : ZD Int) >>= fun v => pure (Instr.if_icmp .ne v)) c (p + 1) = _
  rw [z_bd (z_s2 (z_nx h))]
  rfl
set_option maxRecDepth 20000 in
theorem zo_161 : OkS2 161 (.if_icmp .lt) := by
  intro c p x y r h
  refine z_dec ?_
  unfold Jvm.ClassFile.Decoder.instr
  rw [z_bd (z_u1 h)]
  show ((Jvm.ClassFile.Reader.s2 : ZD Int) >>= fun v => pure (Instr.if_icmp .lt v)) c (p + 1) = _
  rw [z_bd (z_s2 (z_nx h))]
  rfl
set_option maxRecDepth 20000 in
theorem zo_162 : OkS2 162 (.if_icmp .ge) := by
  intro c p x y r h
  refine z_dec ?_
  unfold Jvm.ClassFile.Decoder.instr
  rw [z_bd (z_u1 h)]
  show ((Jvm.ClassFile.Reader.s2 : ZD Int) >>= fun v => pure (Instr.if_icmp .ge v)) c (p + 1) = _
  rw [z_bd (z_s2 (z_nx h))]
  rfl
set_option maxRecDepth 20000 in
theorem zo_163 : OkS2 163 (.if_icmp .gt) := by
  intro c p x y r h
  refine z_dec ?_
  unfold Jvm.ClassFile.Decoder.instr
  rw [z_bd (z_u1 h)]
  show ((Jvm.ClassFile.Reader.s2 : ZD Int) >>= fun v => pure (Instr.if_icmp .gt v)) c (p + 1) = _
  rw [z_bd (z_s2 (z_nx h))]
  rfl
set_option maxRecDepth 20000 in
theorem zo_164 : OkS2 164 (.if_icmp .le) := by
  intro c p x y r h
  refine z_dec ?_
  unfold Jvm.ClassFile.Decoder.instr
  rw [z_bd (z_u1 h)]
  show ((Jvm.ClassFile.Reader.s2 : ZD Int) >>= fun v => pure (Instr.if_icmp .le v)) c (p + 1) = _
  rw [z_bd (z_s2 (z_nx h))]
  rfl
set_option maxRecDepth 20000 in
theorem zo_17 : OkS2 17 (.sipush) := by
  intro c p x y r h
  refine z_dec ?_
  unfold Jvm.ClassFile.Decoder.instr
  rw [z_bd (z_u1 h)]
  show ((Jvm.ClassFile.Reader.s2 : ZD Int) >>= fun v => pure (Instr.sipush v)) c (p + 1) = _
  rw [z_bd (z_s2 (z_nx h))]
  rfl
set_option maxRecDepth 20000 in
theorem zo_199 : OkS2 199 (.ifnonnull) := by
  intro c p x y r h
  refine z_dec ?_
  unfold Jvm.ClassFile.Decoder.instr
  rw [z_bd (z_u1 h)]
  show ((Jvm.ClassFile.Reader.s2 : ZD Int) >>= fun v => pure (Instr.ifnonnull v)) c (p + 1) = _
  rw [z_bd (z_s2 (z_nx h))]
  rfl
set_option maxRecDepth 20000 in
theorem zo_198 : OkS2 198 (.ifnull) := by
  intro c p x y r h
  refine z_dec ?_
  unfold Jvm.ClassFile.Decoder.instr
  rw [z_bd (z_u1 h)]
  show ((Jvm.ClassFile.Reader.s2 : ZD Int) >>= fun v => pure (Instr.ifnull v)) c (p + 1) = _
  rw [z_bd (z_s2 (z_nx h))]
  rfl
set_option maxRecDepth 20000 in
theorem zn_10 : OkN 10 (.newarray .int) := by
  intro c p r h
  refine z_dec ?_
  unfold Jvm.ClassFile.Decoder.instr
  rw [z_bd (z_u1 h)]
  show (Jvm.ClassFile.Decoder.newarray p) c (p + 1) = _
  unfold Jvm.ClassFile.Decoder.newarray
  rw [z_bd (z_u1 (z_nx h))]
  rfl
set_option maxRecDepth 20000 in
theorem zn_11 : OkN 11 (.newarray .long) := by
  intro c p r h
  refine z_dec ?_
  unfold Jvm.ClassFile.Decoder.instr
  rw [z_bd (z_u1 h)]
  show (Jvm.ClassFile.Decoder.newarray p) c (p + 1) = _
  unfold Jvm.ClassFile.Decoder.newarray
  rw [z_bd (z_u1 (z_nx h))]
  rfl
set_option maxRecDepth 20000 in
theorem zn_8 : OkN 8 (.newarray .byte) := by
  intro c p r h
  refine z_dec ?_
  unfold Jvm.ClassFile.Decoder.instr
  rw [z_bd (z_u1 h)]
  show (Jvm.ClassFile.Decoder.newarray p) c (p + 1) = _
  unfold Jvm.ClassFile.Decoder.newarray
  rw [z_bd (z_u1 (z_nx h))]
  rfl
set_option maxRecDepth 20000 in
theorem zn_4 : OkN 4 (.newarray .boolean) := by
  intro c p r h
  refine z_dec ?_
  unfold Jvm.ClassFile.Decoder.instr
  rw [z_bd (z_u1 h)]
  show (Jvm.ClassFile.Decoder.newarray p) c (p + 1) = _
  unfold Jvm.ClassFile.Decoder.newarray
  rw [z_bd (z_u1 (z_nx h))]
  rfl
set_option maxRecDepth 20000 in
theorem zo_132 {c : ByteArray} {p x y : Nat} {r : List Nat} (h : (zby c).drop p = 132 :: x :: y :: r) : decode c p = .ok (.iinc x (Jvm.ClassFile.Reader.signed 8 y), 3) := by
  refine z_dec ?_
  unfold Jvm.ClassFile.Decoder.instr
  rw [z_bd (z_u1 h)]
  show (zu1 >>= fun v => (Jvm.ClassFile.Reader.s1 : ZD Int) >>= fun w => pure (Instr.iinc v w)) c (p + 1) = _
  rw [z_bd (z_u1 (z_nx h)), z_bd (z_s1 (z_nx (z_nx h)))]
  rfl
def Z0 : List (Nat × Instr) := [(42, .aload_n 0), (43, .aload_n 1), (44, .aload_n 2), (45, .aload_n 3), (26, .iload_n 0), (27, .iload_n 1), (28, .iload_n 2), (29, .iload_n 3), (3, .iconst 0), (4, .iconst 1), (5, .iconst 2), (6, .iconst 3), (7, .iconst 4), (8, .iconst 5), (2, .iconst (-1)), (172, .ireturn), (46, .iaload), (96, .iadd), (59, .istore_n 0), (60, .istore_n 1), (61, .istore_n 2), (62, .istore_n 3), (87, .pop), (79, .iastore), (100, .isub), (177, .return_), (89, .dup), (30, .lload_n 0), (31, .lload_n 1), (32, .lload_n 2), (33, .lload_n 3), (104, .imul), (173, .lreturn), (63, .lstore_n 0), (64, .lstore_n 1), (65, .lstore_n 2), (66, .lstore_n 3), (9, .lconst 0), (10, .lconst 1), (190, .arraylength), (112, .irem), (108, .idiv), (126, .iand), (133, .i2l), (120, .ishl), (51, .baload), (148, .lcmp), (105, .lmul), (128, .ior), (88, .pop2), (122, .ishr), (97, .ladd), (124, .iushr), (75, .astore_n 0), (76, .astore_n 1), (77, .astore_n 2), (78, .astore_n 3), (101, .lsub), (92, .dup2), (50, .aaload), (113, .lrem), (109, .ldiv), (80, .lastore), (84, .bastore), (47, .laload), (145, .i2b), (83, .aastore), (136, .l2i), (130, .ixor), (146, .i2c), (191, .athrow), (1, .aconst_null)]
theorem Z0_ok : ∀ e ∈ Z0, Ok0 e.1 e.2 := List.forall_mem_cons.mpr ⟨zo_42, List.forall_mem_cons.mpr ⟨zo_43, List.forall_mem_cons.mpr ⟨zo_44, List.forall_mem_cons.mpr ⟨zo_45, List.forall_mem_cons.mpr ⟨zo_26, List.forall_mem_cons.mpr ⟨zo_27, List.forall_mem_cons.mpr ⟨zo_28, List.forall_mem_cons.mpr ⟨zo_29, List.forall_mem_cons.mpr ⟨zo_3, List.forall_mem_cons.mpr ⟨zo_4, List.forall_mem_cons.mpr ⟨zo_5, List.forall_mem_cons.mpr ⟨zo_6, List.forall_mem_cons.mpr ⟨zo_7, List.forall_mem_cons.mpr ⟨zo_8, List.forall_mem_cons.mpr ⟨zo_2, List.forall_mem_cons.mpr ⟨zo_172, List.forall_mem_cons.mpr ⟨zo_46, List.forall_mem_cons.mpr ⟨zo_96, List.forall_mem_cons.mpr ⟨zo_59, List.forall_mem_cons.mpr ⟨zo_60, List.forall_mem_cons.mpr ⟨zo_61, List.forall_mem_cons.mpr ⟨zo_62, List.forall_mem_cons.mpr ⟨zo_87, List.forall_mem_cons.mpr ⟨zo_79, List.forall_mem_cons.mpr ⟨zo_100, List.forall_mem_cons.mpr ⟨zo_177, List.forall_mem_cons.mpr ⟨zo_89, List.forall_mem_cons.mpr ⟨zo_30, List.forall_mem_cons.mpr ⟨zo_31, List.forall_mem_cons.mpr ⟨zo_32, List.forall_mem_cons.mpr ⟨zo_33, List.forall_mem_cons.mpr ⟨zo_104, List.forall_mem_cons.mpr ⟨zo_173, List.forall_mem_cons.mpr ⟨zo_63, List.forall_mem_cons.mpr ⟨zo_64, List.forall_mem_cons.mpr ⟨zo_65, List.forall_mem_cons.mpr ⟨zo_66, List.forall_mem_cons.mpr ⟨zo_9, List.forall_mem_cons.mpr ⟨zo_10, List.forall_mem_cons.mpr ⟨zo_190, List.forall_mem_cons.mpr ⟨zo_112, List.forall_mem_cons.mpr ⟨zo_108, List.forall_mem_cons.mpr ⟨zo_126, List.forall_mem_cons.mpr ⟨zo_133, List.forall_mem_cons.mpr ⟨zo_120, List.forall_mem_cons.mpr ⟨zo_51, List.forall_mem_cons.mpr ⟨zo_148, List.forall_mem_cons.mpr ⟨zo_105, List.forall_mem_cons.mpr ⟨zo_128, List.forall_mem_cons.mpr ⟨zo_88, List.forall_mem_cons.mpr ⟨zo_122, List.forall_mem_cons.mpr ⟨zo_97, List.forall_mem_cons.mpr ⟨zo_124, List.forall_mem_cons.mpr ⟨zo_75, List.forall_mem_cons.mpr ⟨zo_76, List.forall_mem_cons.mpr ⟨zo_77, List.forall_mem_cons.mpr ⟨zo_78, List.forall_mem_cons.mpr ⟨zo_101, List.forall_mem_cons.mpr ⟨zo_92, List.forall_mem_cons.mpr ⟨zo_50, List.forall_mem_cons.mpr ⟨zo_113, List.forall_mem_cons.mpr ⟨zo_109, List.forall_mem_cons.mpr ⟨zo_80, List.forall_mem_cons.mpr ⟨zo_84, List.forall_mem_cons.mpr ⟨zo_47, List.forall_mem_cons.mpr ⟨zo_145, List.forall_mem_cons.mpr ⟨zo_83, List.forall_mem_cons.mpr ⟨zo_136, List.forall_mem_cons.mpr ⟨zo_130, List.forall_mem_cons.mpr ⟨zo_146, List.forall_mem_cons.mpr ⟨zo_191, List.forall_mem_cons.mpr ⟨zo_1, fun _ h => absurd h List.not_mem_nil⟩⟩⟩⟩⟩⟩⟩⟩⟩⟩⟩⟩⟩⟩⟩⟩⟩⟩⟩⟩⟩⟩⟩⟩⟩⟩⟩⟩⟩⟩⟩⟩⟩⟩⟩⟩⟩⟩⟩⟩⟩⟩⟩⟩⟩⟩⟩⟩⟩⟩⟩⟩⟩⟩⟩⟩⟩⟩⟩⟩⟩⟩⟩⟩⟩⟩⟩⟩⟩⟩⟩⟩
def ZU1 : List (Nat × (Nat → Instr)) := [(21, .iload), (54, .istore), (18, .ldc), (22, .lload), (55, .lstore), (25, .aload), (58, .astore)]
theorem ZU1_ok : ∀ e ∈ ZU1, OkU1 e.1 e.2 := List.forall_mem_cons.mpr ⟨zo_21, List.forall_mem_cons.mpr ⟨zo_54, List.forall_mem_cons.mpr ⟨zo_18, List.forall_mem_cons.mpr ⟨zo_22, List.forall_mem_cons.mpr ⟨zo_55, List.forall_mem_cons.mpr ⟨zo_25, List.forall_mem_cons.mpr ⟨zo_58, fun _ h => absurd h List.not_mem_nil⟩⟩⟩⟩⟩⟩⟩
def ZS1 : List (Nat × (Int → Instr)) := [(16, .bipush)]
theorem ZS1_ok : ∀ e ∈ ZS1, OkS1 e.1 e.2 := List.forall_mem_cons.mpr ⟨zo_16, fun _ h => absurd h List.not_mem_nil⟩
def ZU2 : List (Nat × (Nat → Instr)) := [(180, .getfield), (182, .invokevirtual), (181, .putfield), (184, .invokestatic), (183, .invokespecial), (20, .ldc2_w), (187, .new), (19, .ldc_w), (178, .getstatic), (189, .anewarray)]
theorem ZU2_ok : ∀ e ∈ ZU2, OkU2 e.1 e.2 := List.forall_mem_cons.mpr ⟨zo_180, List.forall_mem_cons.mpr ⟨zo_182, List.forall_mem_cons.mpr ⟨zo_181, List.forall_mem_cons.mpr ⟨zo_184, List.forall_mem_cons.mpr ⟨zo_183, List.forall_mem_cons.mpr ⟨zo_20, List.forall_mem_cons.mpr ⟨zo_187, List.forall_mem_cons.mpr ⟨zo_19, List.forall_mem_cons.mpr ⟨zo_178, List.forall_mem_cons.mpr ⟨zo_189, fun _ h => absurd h List.not_mem_nil⟩⟩⟩⟩⟩⟩⟩⟩⟩⟩
def ZS2 : List (Nat × (Int → Instr)) := [(167, .goto), (153, .ifCond .eq), (154, .ifCond .ne), (155, .ifCond .lt), (156, .ifCond .ge), (157, .ifCond .gt), (158, .ifCond .le), (159, .if_icmp .eq), (160, .if_icmp .ne), (161, .if_icmp .lt), (162, .if_icmp .ge), (163, .if_icmp .gt), (164, .if_icmp .le), (17, .sipush), (199, .ifnonnull), (198, .ifnull)]
theorem ZS2_ok : ∀ e ∈ ZS2, OkS2 e.1 e.2 := List.forall_mem_cons.mpr ⟨zo_167, List.forall_mem_cons.mpr ⟨zo_153, List.forall_mem_cons.mpr ⟨zo_154, List.forall_mem_cons.mpr ⟨zo_155, List.forall_mem_cons.mpr ⟨zo_156, List.forall_mem_cons.mpr ⟨zo_157, List.forall_mem_cons.mpr ⟨zo_158, List.forall_mem_cons.mpr ⟨zo_159, List.forall_mem_cons.mpr ⟨zo_160, List.forall_mem_cons.mpr ⟨zo_161, List.forall_mem_cons.mpr ⟨zo_162, List.forall_mem_cons.mpr ⟨zo_163, List.forall_mem_cons.mpr ⟨zo_164, List.forall_mem_cons.mpr ⟨zo_17, List.forall_mem_cons.mpr ⟨zo_199, List.forall_mem_cons.mpr ⟨zo_198, fun _ h => absurd h List.not_mem_nil⟩⟩⟩⟩⟩⟩⟩⟩⟩⟩⟩⟩⟩⟩⟩⟩
def ZN : List (Nat × Instr) := [(10, .newarray .int), (11, .newarray .long), (8, .newarray .byte), (4, .newarray .boolean)]
theorem ZN_ok : ∀ e ∈ ZN, OkN e.1 e.2 := List.forall_mem_cons.mpr ⟨zn_10, List.forall_mem_cons.mpr ⟨zn_11, List.forall_mem_cons.mpr ⟨zn_8, List.forall_mem_cons.mpr ⟨zn_4, fun _ h => absurd h List.not_mem_nil⟩⟩⟩⟩
noncomputable def zlk {α : Type} (l : List (Nat × α)) (n : Nat) : Option α := List.rec (motive := fun _ => Option α) none (fun e _ ih => cond (Nat.beq e.1 n) (some e.2) ih) l
theorem zlk_c {α : Type} (e : Nat × α) (l : List (Nat × α)) (n : Nat) : zlk (e :: l) n = cond (Nat.beq e.1 n) (some e.2) (zlk l n) := rfl
theorem zlk_mem {α : Type} {l : List (Nat × α)} {n : Nat} {a : α} (h : zlk l n = some a) : (n, a) ∈ l := by
  induction l with
  | nil => cases h
  | cons e l ih =>
    rw [zlk_c] at h
    cases hb : Nat.beq e.1 n with
    | true =>
      rw [hb] at h
      have e1 : e.2 = a := Option.some.inj h
      have e2 : e.1 = n := Nat.eq_of_beq_eq_true hb
      rw [← e1, ← e2]
      exact List.mem_cons_self
    | false =>
      rw [hb] at h
      exact List.mem_cons_of_mem _ (ih h)
noncomputable def zd3 (op x y : Nat) : Option (Instr × Nat) := match zlk ZU2 op with
  | some f => some (f (x * 256 + y), 3)
  | none => match zlk ZS2 op with
    | some f => some (f (Jvm.ClassFile.Reader.signed 16 (x * 256 + y)), 3)
    | none => cond (Nat.beq 132 op) (some (.iinc x (Jvm.ClassFile.Reader.signed 8 y), 3)) none
noncomputable def zd2 (op x : Nat) (r : List Nat) : Option (Instr × Nat) := match zlk ZU1 op with
  | some f => some (f x, 2)
  | none => match zlk ZS1 op with
    | some f => some (f (Jvm.ClassFile.Reader.signed 8 x), 2)
    | none => cond (Nat.beq 188 op) ((zlk ZN x).map (fun i => (i, 2))) (match r with
      | [] => none
      | y :: _ => zd3 op x y)
noncomputable def zd : List Nat → Option (Instr × Nat)
  | [] => none
  | op :: r => match zlk Z0 op with
    | some i => some (i, 1)
    | none => match r with
      | [] => none
      | x :: r2 => zd2 op x r2
theorem zd_ok {c : ByteArray} {p : Nat} {bs : List Nat} {i : Instr} {n : Nat} (hb : (zby c).drop p = bs) (h : zd bs = some (i, n)) : decode c p = .ok (i, n) := by
  cases bs with
  | nil => cases h
  | cons op r =>
    dsimp only [zd] at h
    cases h0 : zlk Z0 op with
    | some j =>
      rw [h0] at h
      injection h with h
      injection h with h1 h2
      subst h1 h2
      exact Z0_ok _ (zlk_mem h0) c p r hb
    | none =>
      rw [h0] at h
      cases r with
      | nil => cases h
      | cons x r =>
        replace h : zd2 op x r = some (i, n) := h
        unfold zd2 at h
        cases h1 : zlk ZU1 op with
        | some f =>
          rw [h1] at h
          injection h with h
          injection h with h2 h3
          subst h2 h3
          exact ZU1_ok _ (zlk_mem h1) c p x r hb
        | none =>
          rw [h1] at h
          cases h2 : zlk ZS1 op with
          | some f =>
            rw [h2] at h
            injection h with h
            injection h with h3 h4
            subst h3 h4
            exact ZS1_ok _ (zlk_mem h2) c p x r hb
          | none =>
            rw [h2] at h
            cases h3 : Nat.beq 188 op with
            | true =>
              rw [h3] at h
              have e := Nat.eq_of_beq_eq_true h3
              subst e
              cases h4 : zlk ZN x with
              | none =>
                rw [h4] at h
                cases h
              | some j =>
                rw [h4] at h
                injection h with h
                injection h with h5 h6
                subst h5 h6
                exact ZN_ok _ (zlk_mem h4) c p r hb
            | false =>
              rw [h3] at h
              cases r with
              | nil => cases h
              | cons y r =>
                replace h : zd3 op x y = some (i, n) := h
                unfold zd3 at h
                cases h4 : zlk ZU2 op with
                | some f =>
                  rw [h4] at h
                  injection h with h
                  injection h with h5 h6
                  subst h5 h6
                  exact ZU2_ok _ (zlk_mem h4) c p x y r hb
                | none =>
                  rw [h4] at h
                  cases h5 : zlk ZS2 op with
                  | some f =>
                    rw [h5] at h
                    injection h with h
                    injection h with h6 h7
                    subst h6 h7
                    exact ZS2_ok _ (zlk_mem h5) c p x y r hb
                  | none =>
                    rw [h5] at h
                    cases h6 : Nat.beq 132 op with
                    | false =>
                      rw [h6] at h
                      cases h
                    | true =>
                      rw [h6] at h
                      have e := Nat.eq_of_beq_eq_true h6
                      subst e
                      injection h with h
                      injection h with h7 h8
                      subst h7 h8
                      exact zo_132 hb
abbrev ZR : Type := Nat × Bool × Instr × Nat
noncomputable def zck (p : Nat) (bs : List Nat) (rows : List ZR) : Bool := List.rec (motive := fun _ => Nat → List Nat → Bool) (fun _ _ => true) (fun z _ ih p bs => cond (Nat.beq p z.1) (cond z.2.1 (decide (zd bs = some z.2.2)) true && ih (p + z.2.2.2) (bs.drop z.2.2.2)) false) rows p bs
theorem zck_c (p : Nat) (bs : List Nat) (z : ZR) (r : List ZR) : zck p bs (z :: r) = cond (Nat.beq p z.1) (cond z.2.1 (decide (zd bs = some z.2.2)) true && zck (p + z.2.2.2) (bs.drop z.2.2.2) r) false := rfl
theorem zck_ok {c : ByteArray} : ∀ {rows : List ZR} {p : Nat} {bs : List Nat}, (zby c).drop p = bs → zck p bs rows = true → ∀ z ∈ rows, z.2.1 = true → decode c z.1 = .ok (z.2.2.1, z.2.2.2) := by
  intro rows
  induction rows with
  | nil => intro p bs _ _ z hz; cases hz
  | cons y r ih =>
    intro p bs hb h z hz ht
    rw [zck_c] at h
    cases h1 : Nat.beq p y.1 with
    | false =>
      rw [h1] at h
      cases h
    | true =>
      rw [h1] at h
      have e := Nat.eq_of_beq_eq_true h1
      have h2 : (cond y.2.1 (decide (zd bs = some y.2.2)) true && zck (p + y.2.2.2) (bs.drop y.2.2.2) r) = true := h
      rw [Bool.and_eq_true] at h2
      rcases List.mem_cons.mp hz with rfl | hz
      · have h3 := h2.1
        rw [ht] at h3
        have h4 : zd bs = some z.2.2 := of_decide_eq_true h3
        rw [← e]
        exact zd_ok hb h4
      · exact ih (by rw [← hb, List.drop_drop]) h2.2 z hz ht
abbrev zc (p : Nat) (b : Bool) (i : Instr) (n : Nat) (r : List ZR) : List ZR := (p, b, i, n) :: r
theorem zat {c : ByteArray} {p : Nat} {rows : List ZR} (h : zck p ((zby c).drop p) rows = true) {q n : Nat} {i : Instr} (k : Nat) (hk : rows[k]? = some (q, true, i, n)) : decode c q = .ok (i, n)   := zck_ok (c := c) (rows := rows) (p := p) rfl h (q, true, i, n) (List.mem_of_getElem? hk) rfl
