/-! what every call keeps: bounds, and one tape on both sides -/
def IX (X : XS) : Prop := R32 (0) (8) X.2.1.1 ∧ R32 (0) (9) X.2.1.2.1 ∧ R32 (0) (4) X.2.1.2.2.2.2.1 ∧ R32 (0) (5) X.2.1.2.2.2.2.2.1 ∧ R32 (0) (6) X.2.1.2.2.2.2.2.2.1 ∧ R32 (0) (6) X.2.1.2.2.2.2.2.2.2.1 ∧ R32 (0) (15) X.2.2.2.2.2.1.1 ∧ R32 (0) (16) X.2.2.2.2.2.1.2.1 ∧ R32 (0) (3) X.2.2.2.2.2.1.2.2 ∧ R32 (0) (288) X.2.2.2.2.2.2.2.2.1.2
def IM (M : MS) : Prop := R32 (0) (16) M.2.2.2.2.1.2.2.1 ∧ R32 (0) (3) M.2.2.2.2.1.2.2.2
def IQ (q : TX11_q) : Prop := R32 (2) (8) q.1 ∧ R32 (1) (9) q.2.1 ∧ R32 (1) (4) q.2.2.2.2.1 ∧ R32 (0) (5) q.2.2.2.2.2.1 ∧ R32 (0) (6) q.2.2.2.2.2.2.1 ∧ R32 (0) (6) q.2.2.2.2.2.2.2.1
def IO : Option TX11_q → Prop
  | none => True
  | some q => IQ q
theorem wh_close (k1 : Int32) (t : TX12_t) (q : TX11_q) : (f_X12_close k1 t q).2.2.2 = -1 := by
  unfold f_X12_close
  dsimp only [nm]
  split
  · rfl
  · split <;> rfl
theorem wh_seed (k1 : Int32) (t : TX12_t) (v : TX12_v) : (f_X12_seed k1 t v).2.1.2.2 = -1 := by
  unfold f_X12_seed
  dsimp only [nm]
  repeat' split
  all_goals rfl
theorem wh_size (k1 : Int32) (t : TX12_t) (s : TX12_s) (v : TX12_v) (h : TX12_h) (q : TX11_q) : (f_X12_size k1 t s v h q).2.2.2 = t.2.2 := by
  show KV (f_X12_size k1 t s v h q) (fun (r : Int32 × TX12_t) => r.2.2.2 = t.2.2)
  unfold f_X12_size
  dsimp only [nm]
  repeat' (refine kv_i ?_ ?_)
  all_goals exact kv_s rfl
theorem wh_size_nul (k1 : Int32) (t : TX12_t) (s : TX12_s) : (f_X12_size_nul k1 t s).2.2.2 = t.2.2 := by
  unfold f_X12_size_nul
  dsimp only [nm]
  repeat' split
  all_goals rfl
theorem r_m1 {x : Int32} (h : R32 (-1) (-1) x) : x = -1 := by
  have h1 := h.1
  have h2 := h.2
  apply Int32.toInt_inj.mp
  rw [show (-1 : Int32).toInt = -1 by decide]
  omega
theorem sx_fault {X : XS} (hX : IX X) : ∃ r X', gX_fault X = some (r, X') ∧ IX X' ∧ X'.2.2.2.1 = X.2.2.2.1 ∧ X'.2.1 = X.2.1 ∧ X'.1 = X.1 ∧ X'.2.2.2.2.1 = X.2.2.2.2.1 ∧ X'.2.2.2.2.2.1 = X.2.2.2.2.2.1 ∧ X'.2.2.2.2.2.2.1 = X.2.2.2.2.2.2.1 := by
  have eg : gX_fault X = some ((f_X10_fault X.1), (X.1, X.2.1, X.2.2.1, X.2.2.2.1, X.2.2.2.2.1, X.2.2.2.2.2.1, X.2.2.2.2.2.2.1, X.2.2.2.2.2.2.2.1, X.2.2.2.2.2.2.2.2.1, X.2.2.2.2.2.2.2.2.2.1, X.2.2.2.2.2.2.2.2.2.2)) := rfl
  exact ⟨_, _, eg, ⟨hX.1, hX.2.1, hX.2.2.1, hX.2.2.2.1, hX.2.2.2.2.1, hX.2.2.2.2.2.1, hX.2.2.2.2.2.2.1, hX.2.2.2.2.2.2.2.1, hX.2.2.2.2.2.2.2.2.1, hX.2.2.2.2.2.2.2.2.2⟩, rfl, rfl, rfl, rfl, rfl, rfl⟩
theorem sx_where {X : XS} (hX : IX X) : ∃ r X', gX_where X = some (r, X') ∧ IX X' ∧ X'.2.2.2.1 = X.2.2.2.1 ∧ X'.2.1 = X.2.1 ∧ X'.1 = X.1 ∧ X'.2.2.2.2.1 = X.2.2.2.2.1 ∧ X'.2.2.2.2.2.1 = X.2.2.2.2.2.1 ∧ X'.2.2.2.2.2.2.1 = X.2.2.2.2.2.2.1 := by
  have eg : gX_where X = some ((f_X10_where X.1 X.2.2.2.1), (X.1, X.2.1, X.2.2.1, X.2.2.2.1, X.2.2.2.2.1, X.2.2.2.2.2.1, X.2.2.2.2.2.2.1, X.2.2.2.2.2.2.2.1, X.2.2.2.2.2.2.2.2.1, X.2.2.2.2.2.2.2.2.2.1, X.2.2.2.2.2.2.2.2.2.2)) := rfl
  exact ⟨_, _, eg, ⟨hX.1, hX.2.1, hX.2.2.1, hX.2.2.2.1, hX.2.2.2.2.1, hX.2.2.2.2.2.1, hX.2.2.2.2.2.2.1, hX.2.2.2.2.2.2.2.1, hX.2.2.2.2.2.2.2.2.1, hX.2.2.2.2.2.2.2.2.2⟩, rfl, rfl, rfl, rfl, rfl, rfl⟩
theorem sx_answer {k1 : Int32} {k2 : Int32} {X : XS} (hX : IX X) : ∃ r X', gX_answer k1 k2 X = some (r, X') ∧ IX X' ∧ X'.2.2.2.1 = X.2.2.2.1 ∧ X'.2.1 = X.2.1 ∧ X'.1.2 = X.1.2 ∧ ¬ X'.1.1 = 4 ∧ X'.2.2.2.2.1 = X.2.2.2.2.1 ∧ X'.2.2.2.2.2.1 = X.2.2.2.2.2.1 ∧ X'.2.2.2.2.2.2.1 = X.2.2.2.2.2.2.1 := by
  obtain ⟨out, e, hb⟩ := t_f_X10_answer (k1 := k1) (k2 := k2) (x_x := X.1) (p_p := X.2.1) (n_n := X.2.2.2.2.1) hX.1 hX.2.1 hX.2.2.1 hX.2.2.2.1 hX.2.2.2.2.1 hX.2.2.2.2.2.1
  have eg : gX_answer k1 k2 X = some (out.1, (out.2, X.2.1, X.2.2.1, X.2.2.2.1, X.2.2.2.2.1, X.2.2.2.2.2.1, X.2.2.2.2.2.2.1, X.2.2.2.2.2.2.2.1, X.2.2.2.2.2.2.2.2.1, X.2.2.2.2.2.2.2.2.2.1, X.2.2.2.2.2.2.2.2.2.2)) := by
    rw [gX_answer, e]
    rfl
  exact ⟨_, _, eg, ⟨hX.1, hX.2.1, hX.2.2.1, hX.2.2.2.1, hX.2.2.2.2.1, hX.2.2.2.2.2.1, hX.2.2.2.2.2.2.1, hX.2.2.2.2.2.2.2.1, hX.2.2.2.2.2.2.2.2.1, hX.2.2.2.2.2.2.2.2.2⟩, rfl, rfl, (kp_f_X10_answer (F0 := X.1.2) rfl out e).2, (kp_f_X10_answer (F0 := X.1.2) rfl out e).1, rfl, rfl, rfl⟩
theorem sx_asker {k1 : Int32} {k2 : Int32} {X : XS} (hX : IX X) : ∃ r X', gX_asker k1 k2 X = some (r, X') ∧ IX X' ∧ X'.2.2.2.1 = X.2.2.2.1 ∧ X'.2.1 = X.2.1 ∧ X'.1.2 = X.1.2 ∧ ¬ X'.1.1 = 4 ∧ X'.2.2.2.2.1 = X.2.2.2.2.1 ∧ X'.2.2.2.2.2.1 = X.2.2.2.2.2.1 ∧ X'.2.2.2.2.2.2.1 = X.2.2.2.2.2.2.1 := by
  obtain ⟨out, e, hb⟩ := t_f_X10_asker (k1 := k1) (k2 := k2) (x_x := X.1) (p_p := X.2.1) (n_n := X.2.2.2.2.1) hX.1 hX.2.1 hX.2.2.1 hX.2.2.2.1 hX.2.2.2.2.1 hX.2.2.2.2.2.1
  have eg : gX_asker k1 k2 X = some (out.1, (out.2, X.2.1, X.2.2.1, X.2.2.2.1, X.2.2.2.2.1, X.2.2.2.2.2.1, X.2.2.2.2.2.2.1, X.2.2.2.2.2.2.2.1, X.2.2.2.2.2.2.2.2.1, X.2.2.2.2.2.2.2.2.2.1, X.2.2.2.2.2.2.2.2.2.2)) := by
    rw [gX_asker, e]
    rfl
  exact ⟨_, _, eg, ⟨hX.1, hX.2.1, hX.2.2.1, hX.2.2.2.1, hX.2.2.2.2.1, hX.2.2.2.2.2.1, hX.2.2.2.2.2.2.1, hX.2.2.2.2.2.2.2.1, hX.2.2.2.2.2.2.2.2.1, hX.2.2.2.2.2.2.2.2.2⟩, rfl, rfl, (kp_f_X10_asker (F0 := X.1.2) rfl out e).2, (kp_f_X10_asker (F0 := X.1.2) rfl out e).1, rfl, rfl, rfl⟩
theorem sx_close {k1 : Int32} {X : XS} (hX : IX X) : ∃ r X', gX_close k1 X = some (r, X') ∧ IX X' ∧ X'.2.2.2.1 = X.2.2.2.1 ∧ X'.2.1 = X.2.1 ∧ X'.1.2 = X.1.2 ∧ ¬ X'.1.1 = 4 ∧ X'.2.2.2.2.1 = X.2.2.2.2.1 ∧ X'.2.2.2.2.2.1 = X.2.2.2.2.2.1 ∧ X'.2.2.2.2.2.2.1 = X.2.2.2.2.2.2.1 := by
  have eg : gX_close k1 X = some ((f_X10_close k1 X.1 X.2.1).1, ((f_X10_close k1 X.1 X.2.1).2, X.2.1, X.2.2.1, X.2.2.2.1, X.2.2.2.2.1, X.2.2.2.2.2.1, X.2.2.2.2.2.2.1, X.2.2.2.2.2.2.2.1, X.2.2.2.2.2.2.2.2.1, X.2.2.2.2.2.2.2.2.2.1, X.2.2.2.2.2.2.2.2.2.2)) := rfl
  exact ⟨_, _, eg, ⟨hX.1, hX.2.1, hX.2.2.1, hX.2.2.2.1, hX.2.2.2.2.1, hX.2.2.2.2.2.1, hX.2.2.2.2.2.2.1, hX.2.2.2.2.2.2.2.1, hX.2.2.2.2.2.2.2.2.1, hX.2.2.2.2.2.2.2.2.2⟩, rfl, rfl, (kp_f_X10_close (F0 := X.1.2) rfl).2.2, (kp_f_X10_close (F0 := X.1.2) rfl).2.1, rfl, rfl, rfl⟩
theorem sx_wish {k1 : Int32} {k2 : Int32} {k3 : Int32} {k4 : Int32} {X : XS} (hX : IX X) : ∃ r X', gX_wish k1 k2 k3 k4 X = some (r, X') ∧ IX X' ∧ X'.2.2.2.1 = X.2.2.2.1 ∧ X'.2.1 = X.2.1 ∧ X'.1.2 = X.1.2 ∧ ¬ X'.1.1 = 4 ∧ X'.2.2.2.2.1 = X.2.2.2.2.1 ∧ X'.2.2.2.2.2.1 = X.2.2.2.2.2.1 ∧ X'.2.2.2.2.2.2.1 = X.2.2.2.2.2.2.1 := by
  obtain ⟨out, e, hb⟩ := t_f_X10_wish (k1 := k1) (k2 := k2) (k3 := k3) (k4 := k4) (x_x := X.1) (p_p := X.2.1) hX.1 hX.2.1 hX.2.2.1 hX.2.2.2.1 hX.2.2.2.2.1 hX.2.2.2.2.2.1
  have eg : gX_wish k1 k2 k3 k4 X = some (out.1, (out.2, X.2.1, X.2.2.1, X.2.2.2.1, X.2.2.2.2.1, X.2.2.2.2.2.1, X.2.2.2.2.2.2.1, X.2.2.2.2.2.2.2.1, X.2.2.2.2.2.2.2.2.1, X.2.2.2.2.2.2.2.2.2.1, X.2.2.2.2.2.2.2.2.2.2)) := by
    rw [gX_wish, e]
    rfl
  exact ⟨_, _, eg, ⟨hX.1, hX.2.1, hX.2.2.1, hX.2.2.2.1, hX.2.2.2.2.1, hX.2.2.2.2.2.1, hX.2.2.2.2.2.2.1, hX.2.2.2.2.2.2.2.1, hX.2.2.2.2.2.2.2.2.1, hX.2.2.2.2.2.2.2.2.2⟩, rfl, rfl, (kp_f_X10_wish (F0 := X.1.2) rfl out e).2, (kp_f_X10_wish (F0 := X.1.2) rfl out e).1, rfl, rfl, rfl⟩
theorem sx_takes {k1 : Int32} {k2 : Int32} {k3 : Int32} {k4 : Int32} {k5 : Int32} {X : XS} (hX : IX X) : ∃ r X', gX_takes k1 k2 k3 k4 k5 X = some (r, X') ∧ IX X' ∧ X'.2.2.2.1 = X.2.2.2.1 ∧ X'.2.1 = X.2.1 ∧ X'.1.2 = X.1.2 ∧ ¬ X'.1.1 = 4 ∧ X'.2.2.2.2.1 = X.2.2.2.2.1 ∧ X'.2.2.2.2.2.1 = X.2.2.2.2.2.1 ∧ X'.2.2.2.2.2.2.1 = X.2.2.2.2.2.2.1 := by
  obtain ⟨out, e, hb⟩ := t_f_X10_takes (k1 := k1) (k2 := k2) (k3 := k3) (k4 := k4) (k5 := k5) (x_x := X.1) (p_p := X.2.1) (n_n := X.2.2.2.2.1) hX.1 hX.2.1 hX.2.2.1 hX.2.2.2.1 hX.2.2.2.2.1 hX.2.2.2.2.2.1
  have eg : gX_takes k1 k2 k3 k4 k5 X = some (out.1, (out.2, X.2.1, X.2.2.1, X.2.2.2.1, X.2.2.2.2.1, X.2.2.2.2.2.1, X.2.2.2.2.2.2.1, X.2.2.2.2.2.2.2.1, X.2.2.2.2.2.2.2.2.1, X.2.2.2.2.2.2.2.2.2.1, X.2.2.2.2.2.2.2.2.2.2)) := by
    rw [gX_takes, e]
    rfl
  exact ⟨_, _, eg, ⟨hX.1, hX.2.1, hX.2.2.1, hX.2.2.2.1, hX.2.2.2.2.1, hX.2.2.2.2.2.1, hX.2.2.2.2.2.2.1, hX.2.2.2.2.2.2.2.1, hX.2.2.2.2.2.2.2.2.1, hX.2.2.2.2.2.2.2.2.2⟩, rfl, rfl, (kp_f_X10_takes (F0 := X.1.2) rfl out e).2, (kp_f_X10_takes (F0 := X.1.2) rfl out e).1, rfl, rfl, rfl⟩
theorem sx_nothing {k1 : Int32} {k2 : Int32} {k3 : Int32} {k4 : Int32} {X : XS} (hX : IX X) : ∃ r X', gX_nothing k1 k2 k3 k4 X = some (r, X') ∧ IX X' ∧ X'.2.2.2.1 = X.2.2.2.1 ∧ X'.2.1 = X.2.1 ∧ X'.1.2 = X.1.2 ∧ ¬ X'.1.1 = 4 ∧ X'.2.2.2.2.1 = X.2.2.2.2.1 ∧ X'.2.2.2.2.2.1 = X.2.2.2.2.2.1 ∧ X'.2.2.2.2.2.2.1 = X.2.2.2.2.2.2.1 := by
  obtain ⟨out, e, hb⟩ := t_f_X10_nothing (k1 := k1) (k2 := k2) (k3 := k3) (k4 := k4) (x_x := X.1) (p_p := X.2.1) (n_n := X.2.2.2.2.1) hX.1 hX.2.1 hX.2.2.1 hX.2.2.2.1 hX.2.2.2.2.1 hX.2.2.2.2.2.1
  have eg : gX_nothing k1 k2 k3 k4 X = some (out.1, (out.2, X.2.1, X.2.2.1, X.2.2.2.1, X.2.2.2.2.1, X.2.2.2.2.2.1, X.2.2.2.2.2.2.1, X.2.2.2.2.2.2.2.1, X.2.2.2.2.2.2.2.2.1, X.2.2.2.2.2.2.2.2.2.1, X.2.2.2.2.2.2.2.2.2.2)) := by
    rw [gX_nothing, e]
    rfl
  exact ⟨_, _, eg, ⟨hX.1, hX.2.1, hX.2.2.1, hX.2.2.2.1, hX.2.2.2.2.1, hX.2.2.2.2.2.1, hX.2.2.2.2.2.2.1, hX.2.2.2.2.2.2.2.1, hX.2.2.2.2.2.2.2.2.1, hX.2.2.2.2.2.2.2.2.2⟩, rfl, rfl, (kp_f_X10_nothing (F0 := X.1.2) rfl out e).2, (kp_f_X10_nothing (F0 := X.1.2) rfl out e).1, rfl, rfl, rfl⟩
theorem sx_mean {k1 : Int32} {k2 : Int32} {k3 : Int32} {k4 : Int32} {X : XS} (hX : IX X) : ∃ r X', gX_mean k1 k2 k3 k4 X = some (r, X') ∧ IX X' ∧ X'.2.2.2.1 = X.2.2.2.1 ∧ X'.2.1 = X.2.1 ∧ X'.1.2 = X.1.2 ∧ ¬ X'.1.1 = 4 ∧ X'.2.2.2.2.1 = X.2.2.2.2.1 ∧ X'.2.2.2.2.2.1 = X.2.2.2.2.2.1 ∧ X'.2.2.2.2.2.2.1 = X.2.2.2.2.2.2.1 := by
  obtain ⟨out, e, hb⟩ := t_f_X10_mean (k1 := k1) (k2 := k2) (k3 := k3) (k4 := k4) (x_x := X.1) (p_p := X.2.1) (n_n := X.2.2.2.2.1) hX.1 hX.2.1 hX.2.2.1 hX.2.2.2.1 hX.2.2.2.2.1 hX.2.2.2.2.2.1
  have eg : gX_mean k1 k2 k3 k4 X = some (out.1, (out.2, X.2.1, X.2.2.1, X.2.2.2.1, X.2.2.2.2.1, X.2.2.2.2.2.1, X.2.2.2.2.2.2.1, X.2.2.2.2.2.2.2.1, X.2.2.2.2.2.2.2.2.1, X.2.2.2.2.2.2.2.2.2.1, X.2.2.2.2.2.2.2.2.2.2)) := by
    rw [gX_mean, e]
    rfl
  exact ⟨_, _, eg, ⟨hX.1, hX.2.1, hX.2.2.1, hX.2.2.2.1, hX.2.2.2.2.1, hX.2.2.2.2.2.1, hX.2.2.2.2.2.2.1, hX.2.2.2.2.2.2.2.1, hX.2.2.2.2.2.2.2.2.1, hX.2.2.2.2.2.2.2.2.2⟩, rfl, rfl, (kp_f_X10_mean (F0 := X.1.2) rfl out e).2, (kp_f_X10_mean (F0 := X.1.2) rfl out e).1, rfl, rfl, rfl⟩
theorem sx_likeliest {k1 : Int32} {k2 : Int32} {k3 : Int32} {X : XS} (hX : IX X) : ∃ r X', gX_likeliest k1 k2 k3 X = some (r, X') ∧ IX X' ∧ X'.2.2.2.1 = X.2.2.2.1 ∧ X'.2.1 = X.2.1 ∧ X'.1.2 = X.1.2 ∧ ¬ X'.1.1 = 4 ∧ X'.2.2.2.2.1 = X.2.2.2.2.1 ∧ X'.2.2.2.2.2.1 = X.2.2.2.2.2.1 ∧ X'.2.2.2.2.2.2.1 = X.2.2.2.2.2.2.1 := by
  obtain ⟨out, e, hb⟩ := t_f_X10_likeliest (k1 := k1) (k2 := k2) (k3 := k3) (x_x := X.1) (p_p := X.2.1) (n_n := X.2.2.2.2.1) hX.1 hX.2.1 hX.2.2.1 hX.2.2.2.1 hX.2.2.2.2.1 hX.2.2.2.2.2.1
  have eg : gX_likeliest k1 k2 k3 X = some (out.1, (out.2, X.2.1, X.2.2.1, X.2.2.2.1, X.2.2.2.2.1, X.2.2.2.2.2.1, X.2.2.2.2.2.2.1, X.2.2.2.2.2.2.2.1, X.2.2.2.2.2.2.2.2.1, X.2.2.2.2.2.2.2.2.2.1, X.2.2.2.2.2.2.2.2.2.2)) := by
    rw [gX_likeliest, e]
    rfl
  exact ⟨_, _, eg, ⟨hX.1, hX.2.1, hX.2.2.1, hX.2.2.2.1, hX.2.2.2.2.1, hX.2.2.2.2.2.1, hX.2.2.2.2.2.2.1, hX.2.2.2.2.2.2.2.1, hX.2.2.2.2.2.2.2.2.1, hX.2.2.2.2.2.2.2.2.2⟩, rfl, rfl, (kp_f_X10_likeliest (F0 := X.1.2) rfl out e).2, (kp_f_X10_likeliest (F0 := X.1.2) rfl out e).1, rfl, rfl, rfl⟩
theorem sx_surest {k1 : Int32} {X : XS} (hX : IX X) : ∃ r X', gX_surest k1 X = some (r, X') ∧ IX X' ∧ X'.2.2.2.1 = X.2.2.2.1 ∧ X'.2.1 = X.2.1 ∧ X'.1.2 = X.1.2 ∧ ¬ X'.1.1 = 4 ∧ X'.2.2.2.2.1 = X.2.2.2.2.1 ∧ X'.2.2.2.2.2.1 = X.2.2.2.2.2.1 ∧ X'.2.2.2.2.2.2.1 = X.2.2.2.2.2.2.1 := by
  obtain ⟨out, e, hb⟩ := t_f_X10_surest (k1 := k1) (x_x := X.1) (p_p := X.2.1) (n_n := X.2.2.2.2.1) hX.1 hX.2.1 hX.2.2.1 hX.2.2.2.1 hX.2.2.2.2.1 hX.2.2.2.2.2.1
  have eg : gX_surest k1 X = some (out.1, (out.2, X.2.1, X.2.2.1, X.2.2.2.1, X.2.2.2.2.1, X.2.2.2.2.2.1, X.2.2.2.2.2.2.1, X.2.2.2.2.2.2.2.1, X.2.2.2.2.2.2.2.2.1, X.2.2.2.2.2.2.2.2.2.1, X.2.2.2.2.2.2.2.2.2.2)) := by
    rw [gX_surest, e]
    rfl
  exact ⟨_, _, eg, ⟨hX.1, hX.2.1, hX.2.2.1, hX.2.2.2.1, hX.2.2.2.2.1, hX.2.2.2.2.2.1, hX.2.2.2.2.2.2.1, hX.2.2.2.2.2.2.2.1, hX.2.2.2.2.2.2.2.2.1, hX.2.2.2.2.2.2.2.2.2⟩, rfl, rfl, (kp_f_X10_surest (F0 := X.1.2) rfl out e).2, (kp_f_X10_surest (F0 := X.1.2) rfl out e).1, rfl, rfl, rfl⟩
theorem sx_surestOdds {k1 : Int32} {k2 : Int32} {X : XS} (hX : IX X) : ∃ r X', gX_surestOdds k1 k2 X = some (r, X') ∧ IX X' ∧ X'.2.2.2.1 = X.2.2.2.1 ∧ X'.2.1 = X.2.1 ∧ X'.1.2 = X.1.2 ∧ ¬ X'.1.1 = 4 ∧ X'.2.2.2.2.1 = X.2.2.2.2.1 ∧ X'.2.2.2.2.2.1 = X.2.2.2.2.2.1 ∧ X'.2.2.2.2.2.2.1 = X.2.2.2.2.2.2.1 := by
  obtain ⟨out, e, hb⟩ := t_f_X10_surestOdds (k1 := k1) (k2 := k2) (x_x := X.1) (p_p := X.2.1) (n_n := X.2.2.2.2.1) hX.1 hX.2.1 hX.2.2.1 hX.2.2.2.1 hX.2.2.2.2.1 hX.2.2.2.2.2.1
  have eg : gX_surestOdds k1 k2 X = some (out.1, (out.2, X.2.1, X.2.2.1, X.2.2.2.1, X.2.2.2.2.1, X.2.2.2.2.2.1, X.2.2.2.2.2.2.1, X.2.2.2.2.2.2.2.1, X.2.2.2.2.2.2.2.2.1, X.2.2.2.2.2.2.2.2.2.1, X.2.2.2.2.2.2.2.2.2.2)) := by
    rw [gX_surestOdds, e]
    rfl
  exact ⟨_, _, eg, ⟨hX.1, hX.2.1, hX.2.2.1, hX.2.2.2.1, hX.2.2.2.2.1, hX.2.2.2.2.2.1, hX.2.2.2.2.2.2.1, hX.2.2.2.2.2.2.2.1, hX.2.2.2.2.2.2.2.2.1, hX.2.2.2.2.2.2.2.2.2⟩, rfl, rfl, (kp_f_X10_surestOdds (F0 := X.1.2) rfl out e).2, (kp_f_X10_surestOdds (F0 := X.1.2) rfl out e).1, rfl, rfl, rfl⟩
theorem sx_best {X : XS} (hX : IX X) : ∃ r X', gX_best X = some (r, X') ∧ IX X' ∧ X'.2.2.2.1 = X.2.2.2.1 ∧ X'.2.1 = X.2.1 ∧ X'.1.2 = X.1.2 ∧ ¬ X'.1.1 = 4 ∧ X'.2.2.2.2.1 = X.2.2.2.2.1 ∧ X'.2.2.2.2.2.1 = X.2.2.2.2.2.1 ∧ X'.2.2.2.2.2.2.1 = X.2.2.2.2.2.2.1 := by
  obtain ⟨out, e, hb⟩ := t_f_X10_best (x_x := X.1) (p_p := X.2.1) (n_n := X.2.2.2.2.1) hX.1 hX.2.1 hX.2.2.1 hX.2.2.2.1 hX.2.2.2.2.1 hX.2.2.2.2.2.1
  have eg : gX_best X = some (out.1, (out.2, X.2.1, X.2.2.1, X.2.2.2.1, X.2.2.2.2.1, X.2.2.2.2.2.1, X.2.2.2.2.2.2.1, X.2.2.2.2.2.2.2.1, X.2.2.2.2.2.2.2.2.1, X.2.2.2.2.2.2.2.2.2.1, X.2.2.2.2.2.2.2.2.2.2)) := by
    rw [gX_best, e]
    rfl
  exact ⟨_, _, eg, ⟨hX.1, hX.2.1, hX.2.2.1, hX.2.2.2.1, hX.2.2.2.2.1, hX.2.2.2.2.2.1, hX.2.2.2.2.2.2.1, hX.2.2.2.2.2.2.2.1, hX.2.2.2.2.2.2.2.2.1, hX.2.2.2.2.2.2.2.2.2⟩, rfl, rfl, (kp_f_X10_best (F0 := X.1.2) rfl out e).2, (kp_f_X10_best (F0 := X.1.2) rfl out e).1, rfl, rfl, rfl⟩
theorem sx_bestBait {X : XS} (hX : IX X) : ∃ r X', gX_bestBait X = some (r, X') ∧ IX X' ∧ X'.2.2.2.1 = X.2.2.2.1 ∧ X'.2.1 = X.2.1 ∧ X'.1.2 = X.1.2 ∧ ¬ X'.1.1 = 4 ∧ X'.2.2.2.2.1 = X.2.2.2.2.1 ∧ X'.2.2.2.2.2.1 = X.2.2.2.2.2.1 ∧ X'.2.2.2.2.2.2.1 = X.2.2.2.2.2.2.1 := by
  obtain ⟨out, e, hb⟩ := t_f_X10_bestBait (x_x := X.1) (p_p := X.2.1) (n_n := X.2.2.2.2.1) hX.1 hX.2.1 hX.2.2.1 hX.2.2.2.1 hX.2.2.2.2.1 hX.2.2.2.2.2.1
  have eg : gX_bestBait X = some (out.1, (out.2, X.2.1, X.2.2.1, X.2.2.2.1, X.2.2.2.2.1, X.2.2.2.2.2.1, X.2.2.2.2.2.2.1, X.2.2.2.2.2.2.2.1, X.2.2.2.2.2.2.2.2.1, X.2.2.2.2.2.2.2.2.2.1, X.2.2.2.2.2.2.2.2.2.2)) := by
    rw [gX_bestBait, e]
    rfl
  exact ⟨_, _, eg, ⟨hX.1, hX.2.1, hX.2.2.1, hX.2.2.2.1, hX.2.2.2.2.1, hX.2.2.2.2.2.1, hX.2.2.2.2.2.2.1, hX.2.2.2.2.2.2.2.1, hX.2.2.2.2.2.2.2.2.1, hX.2.2.2.2.2.2.2.2.2⟩, rfl, rfl, (kp_f_X10_bestBait (F0 := X.1.2) rfl out e).2, (kp_f_X10_bestBait (F0 := X.1.2) rfl out e).1, rfl, rfl, rfl⟩
theorem sx_hungerFor {k1 : Int32} {k2 : Int32} {k3 : Int32} {k4 : Int32} {X : XS} (hX : IX X) : ∃ r X', gX_hungerFor k1 k2 k3 k4 X = some (r, X') ∧ IX X' ∧ X'.2.2.2.1 = X.2.2.2.1 ∧ X'.2.1 = X.2.1 ∧ X'.1.2 = X.1.2 ∧ ¬ X'.1.1 = 4 ∧ X'.2.2.2.2.1 = X.2.2.2.2.1 ∧ X'.2.2.2.2.2.1 = X.2.2.2.2.2.1 ∧ X'.2.2.2.2.2.2.1 = X.2.2.2.2.2.2.1 := by
  obtain ⟨out, e, hb⟩ := t_f_X10_hungerFor (k1 := k1) (k2 := k2) (k3 := k3) (k4 := k4) (x_x := X.1) (p_p := X.2.1) hX.1 hX.2.1 hX.2.2.1 hX.2.2.2.1 hX.2.2.2.2.1 hX.2.2.2.2.2.1
  have eg : gX_hungerFor k1 k2 k3 k4 X = some (out.1, (out.2, X.2.1, X.2.2.1, X.2.2.2.1, X.2.2.2.2.1, X.2.2.2.2.2.1, X.2.2.2.2.2.2.1, X.2.2.2.2.2.2.2.1, X.2.2.2.2.2.2.2.2.1, X.2.2.2.2.2.2.2.2.2.1, X.2.2.2.2.2.2.2.2.2.2)) := by
    rw [gX_hungerFor, e]
    rfl
  exact ⟨_, _, eg, ⟨hX.1, hX.2.1, hX.2.2.1, hX.2.2.2.1, hX.2.2.2.2.1, hX.2.2.2.2.2.1, hX.2.2.2.2.2.2.1, hX.2.2.2.2.2.2.2.1, hX.2.2.2.2.2.2.2.2.1, hX.2.2.2.2.2.2.2.2.2⟩, rfl, rfl, (kp_f_X10_hungerFor (F0 := X.1.2) rfl out e).2, (kp_f_X10_hungerFor (F0 := X.1.2) rfl out e).1, rfl, rfl, rfl⟩
theorem sx_freeSpots {k1 : Int32} {X : XS} (hX : IX X) : ∃ r X', gX_freeSpots k1 X = some (r, X') ∧ IX X' ∧ X'.2.2.2.1 = X.2.2.2.1 ∧ X'.2.1 = X.2.1 ∧ X'.1.2 = X.1.2 ∧ ¬ X'.1.1 = 4 ∧ X'.2.2.2.2.1 = X.2.2.2.2.1 ∧ X'.2.2.2.2.2.1 = X.2.2.2.2.2.1 ∧ X'.2.2.2.2.2.2.1 = X.2.2.2.2.2.2.1 := by
  obtain ⟨out, e, hb⟩ := t_f_X10_freeSpots (k1 := k1) (x_x := X.1) (p_p := X.2.1) (n_n := X.2.2.2.2.1) hX.1 hX.2.1 hX.2.2.1 hX.2.2.2.1 hX.2.2.2.2.1 hX.2.2.2.2.2.1
  have eg : gX_freeSpots k1 X = some (out.1, (out.2, X.2.1, X.2.2.1, X.2.2.2.1, X.2.2.2.2.1, X.2.2.2.2.2.1, X.2.2.2.2.2.2.1, X.2.2.2.2.2.2.2.1, X.2.2.2.2.2.2.2.2.1, X.2.2.2.2.2.2.2.2.2.1, X.2.2.2.2.2.2.2.2.2.2)) := by
    rw [gX_freeSpots, e]
    rfl
  exact ⟨_, _, eg, ⟨hX.1, hX.2.1, hX.2.2.1, hX.2.2.2.1, hX.2.2.2.2.1, hX.2.2.2.2.2.1, hX.2.2.2.2.2.2.1, hX.2.2.2.2.2.2.2.1, hX.2.2.2.2.2.2.2.2.1, hX.2.2.2.2.2.2.2.2.2⟩, rfl, rfl, (kp_f_X10_freeSpots (F0 := X.1.2) rfl out e).2, (kp_f_X10_freeSpots (F0 := X.1.2) rfl out e).1, rfl, rfl, rfl⟩
theorem sx_tangles {k1 : Int32} {k2 : Int32} {k3 : Int32} {k4 : Int32} {X : XS} (hX : IX X) : ∃ r X', gX_tangles k1 k2 k3 k4 X = some (r, X') ∧ IX X' ∧ X'.2.2.2.1 = X.2.2.2.1 ∧ X'.2.1 = X.2.1 ∧ X'.1.2 = X.1.2 ∧ ¬ X'.1.1 = 4 ∧ X'.2.2.2.2.1 = X.2.2.2.2.1 ∧ X'.2.2.2.2.2.1 = X.2.2.2.2.2.1 ∧ X'.2.2.2.2.2.2.1 = X.2.2.2.2.2.2.1 := by
  obtain ⟨out, e, hb⟩ := t_f_X10_tangles (k1 := k1) (k2 := k2) (k3 := k3) (k4 := k4) (x_x := X.1) (p_p := X.2.1) hX.1 hX.2.1 hX.2.2.1 hX.2.2.2.1 hX.2.2.2.2.1 hX.2.2.2.2.2.1
  have eg : gX_tangles k1 k2 k3 k4 X = some (out.1, (out.2, X.2.1, X.2.2.1, X.2.2.2.1, X.2.2.2.2.1, X.2.2.2.2.2.1, X.2.2.2.2.2.2.1, X.2.2.2.2.2.2.2.1, X.2.2.2.2.2.2.2.2.1, X.2.2.2.2.2.2.2.2.2.1, X.2.2.2.2.2.2.2.2.2.2)) := by
    rw [gX_tangles, e]
    rfl
  exact ⟨_, _, eg, ⟨hX.1, hX.2.1, hX.2.2.1, hX.2.2.2.1, hX.2.2.2.2.1, hX.2.2.2.2.2.1, hX.2.2.2.2.2.2.1, hX.2.2.2.2.2.2.2.1, hX.2.2.2.2.2.2.2.2.1, hX.2.2.2.2.2.2.2.2.2⟩, rfl, rfl, (kp_f_X10_tangles (F0 := X.1.2) rfl out e).2.2, (kp_f_X10_tangles (F0 := X.1.2) rfl out e).2.1, rfl, rfl, rfl⟩
theorem sx_seatings {X : XS} (hX : IX X) : ∃ r X', gX_seatings X = some (r, X') ∧ IX X' ∧ X'.2.2.2.1 = X.2.2.2.1 ∧ X'.2.1 = X.2.1 ∧ X'.1.2 = X.1.2 ∧ ¬ X'.1.1 = 4 ∧ X'.2.2.2.2.1 = X.2.2.2.2.1 ∧ X'.2.2.2.2.2.1 = X.2.2.2.2.2.1 ∧ X'.2.2.2.2.2.2.1 = X.2.2.2.2.2.2.1 := by
  obtain ⟨out, e, hb⟩ := t_f_X10_seatings (x_x := X.1) (p_p := X.2.1) (s_s := X.2.2.2.2.2.2.2.1) hX.1 hX.2.1 hX.2.2.1 hX.2.2.2.1 hX.2.2.2.2.1 hX.2.2.2.2.2.1
  have eg : gX_seatings X = some (out.1, (out.2.1, X.2.1, X.2.2.1, X.2.2.2.1, X.2.2.2.2.1, X.2.2.2.2.2.1, X.2.2.2.2.2.2.1, out.2.2, X.2.2.2.2.2.2.2.2.1, X.2.2.2.2.2.2.2.2.2.1, X.2.2.2.2.2.2.2.2.2.2)) := by
    rw [gX_seatings, e]
    rfl
  exact ⟨_, _, eg, ⟨hX.1, hX.2.1, hX.2.2.1, hX.2.2.2.1, hX.2.2.2.2.1, hX.2.2.2.2.2.1, hX.2.2.2.2.2.2.1, hX.2.2.2.2.2.2.2.1, hX.2.2.2.2.2.2.2.2.1, hX.2.2.2.2.2.2.2.2.2⟩, rfl, rfl, (kp_f_X10_seatings (F0 := X.1.2) rfl out e).2, (kp_f_X10_seatings (F0 := X.1.2) rfl out e).1, rfl, rfl, rfl⟩
theorem sx_seat {k1 : Int32} {X : XS} (hX : IX X) : ∃ r X', gX_seat k1 X = some (r, X') ∧ IX X' ∧ X'.2.2.2.1 = X.2.2.2.1 ∧ X'.2.1 = X.2.1 ∧ X'.1.2 = X.1.2 ∧ ¬ X'.1.1 = 4 ∧ X'.2.2.2.2.1 = X.2.2.2.2.1 ∧ X'.2.2.2.2.2.1 = X.2.2.2.2.2.1 ∧ X'.2.2.2.2.2.2.1 = X.2.2.2.2.2.2.1 := by
  obtain ⟨out, e, hb⟩ := t_f_X10_seat (k1 := k1) (x_x := X.1) (p_p := X.2.1) (s_s := X.2.2.2.2.2.2.2.1) hX.1 hX.2.1 hX.2.2.1 hX.2.2.2.1 hX.2.2.2.2.1 hX.2.2.2.2.2.1
  have eg : gX_seat k1 X = some (out.1, (out.2.1, X.2.1, X.2.2.1, X.2.2.2.1, X.2.2.2.2.1, X.2.2.2.2.2.1, X.2.2.2.2.2.2.1, out.2.2, X.2.2.2.2.2.2.2.2.1, X.2.2.2.2.2.2.2.2.2.1, X.2.2.2.2.2.2.2.2.2.2)) := by
    rw [gX_seat, e]
    rfl
  exact ⟨_, _, eg, ⟨hX.1, hX.2.1, hX.2.2.1, hX.2.2.2.1, hX.2.2.2.2.1, hX.2.2.2.2.2.1, hX.2.2.2.2.2.2.1, hX.2.2.2.2.2.2.2.1, hX.2.2.2.2.2.2.2.2.1, hX.2.2.2.2.2.2.2.2.2⟩, rfl, rfl, (kp_f_X10_seat (F0 := X.1.2) rfl out e).2, (kp_f_X10_seat (F0 := X.1.2) rfl out e).1, rfl, rfl, rfl⟩
theorem sx_mostSeated {X : XS} (hX : IX X) : ∃ r X', gX_mostSeated X = some (r, X') ∧ IX X' ∧ X'.2.2.2.1 = X.2.2.2.1 ∧ X'.2.1 = X.2.1 ∧ X'.1.2 = X.1.2 ∧ ¬ X'.1.1 = 4 ∧ X'.2.2.2.2.1 = X.2.2.2.2.1 ∧ X'.2.2.2.2.2.1 = X.2.2.2.2.2.1 ∧ X'.2.2.2.2.2.2.1 = X.2.2.2.2.2.2.1 := by
  obtain ⟨out, e, hb⟩ := t_f_X10_mostSeated (x_x := X.1) (p_p := X.2.1) (s_s := X.2.2.2.2.2.2.2.1) hX.1 hX.2.1 hX.2.2.1 hX.2.2.2.1 hX.2.2.2.2.1 hX.2.2.2.2.2.1
  have eg : gX_mostSeated X = some (out.1, (out.2.1, X.2.1, X.2.2.1, X.2.2.2.1, X.2.2.2.2.1, X.2.2.2.2.2.1, X.2.2.2.2.2.2.1, out.2.2, X.2.2.2.2.2.2.2.2.1, X.2.2.2.2.2.2.2.2.2.1, X.2.2.2.2.2.2.2.2.2.2)) := by
    rw [gX_mostSeated, e]
    rfl
  exact ⟨_, _, eg, ⟨hX.1, hX.2.1, hX.2.2.1, hX.2.2.2.1, hX.2.2.2.2.1, hX.2.2.2.2.2.1, hX.2.2.2.2.2.2.1, hX.2.2.2.2.2.2.2.1, hX.2.2.2.2.2.2.2.2.1, hX.2.2.2.2.2.2.2.2.2⟩, rfl, rfl, (kp_f_X10_mostSeated (F0 := X.1.2) rfl out e).2, (kp_f_X10_mostSeated (F0 := X.1.2) rfl out e).1, rfl, rfl, rfl⟩
theorem sx_darks {X : XS} (hX : IX X) : ∃ r X', gX_darks X = some (r, X') ∧ IX X' ∧ X'.2.2.2.1 = X.2.2.2.1 ∧ X'.2.1 = X.2.1 ∧ X'.1.2 = X.1.2 ∧ ¬ X'.1.1 = 4 ∧ X'.2.2.2.2.1 = X.2.2.2.2.1 ∧ X'.2.2.2.2.2.1 = X.2.2.2.2.2.1 ∧ X'.2.2.2.2.2.2.1 = X.2.2.2.2.2.2.1 := by
  obtain ⟨out, e, hb⟩ := t_f_X10_darks (x_x := X.1) (p_p := X.2.1) (d_d := X.2.2.2.2.2.2.2.2.1) hX.1 hX.2.1 hX.2.2.1 hX.2.2.2.1 hX.2.2.2.2.1 hX.2.2.2.2.2.1 hX.2.2.2.2.2.2.2.2.2
  have eg : gX_darks X = some (out.1, (out.2.1, X.2.1, X.2.2.1, X.2.2.2.1, X.2.2.2.2.1, X.2.2.2.2.2.1, X.2.2.2.2.2.2.1, X.2.2.2.2.2.2.2.1, out.2.2, X.2.2.2.2.2.2.2.2.2.1, X.2.2.2.2.2.2.2.2.2.2)) := by
    rw [gX_darks, e]
    rfl
  exact ⟨_, _, eg, ⟨hX.1, hX.2.1, hX.2.2.1, hX.2.2.2.1, hX.2.2.2.2.1, hX.2.2.2.2.2.1, hX.2.2.2.2.2.2.1, hX.2.2.2.2.2.2.2.1, hX.2.2.2.2.2.2.2.2.1, hb.2.2⟩, rfl, rfl, (kp_f_X10_darks (F0 := X.1.2) rfl out e).2, (kp_f_X10_darks (F0 := X.1.2) rfl out e).1, rfl, rfl, rfl⟩
theorem sx_darkAt {k1 : Int32} {X : XS} (hX : IX X) : ∃ r X', gX_darkAt k1 X = some (r, X') ∧ IX X' ∧ X'.2.2.2.1 = X.2.2.2.1 ∧ X'.2.1 = X.2.1 ∧ X'.1.2 = X.1.2 ∧ ¬ X'.1.1 = 4 ∧ X'.2.2.2.2.1 = X.2.2.2.2.1 ∧ X'.2.2.2.2.2.1 = X.2.2.2.2.2.1 ∧ X'.2.2.2.2.2.2.1 = X.2.2.2.2.2.2.1 := by
  obtain ⟨out, e, hb⟩ := t_f_X10_darkAt (k1 := k1) (x_x := X.1) (p_p := X.2.1) (d_d := X.2.2.2.2.2.2.2.2.1) hX.1 hX.2.1 hX.2.2.1 hX.2.2.2.1 hX.2.2.2.2.1 hX.2.2.2.2.2.1 hX.2.2.2.2.2.2.2.2.2
  have eg : gX_darkAt k1 X = some (out.1, (out.2.1, X.2.1, X.2.2.1, X.2.2.2.1, X.2.2.2.2.1, X.2.2.2.2.2.1, X.2.2.2.2.2.2.1, X.2.2.2.2.2.2.2.1, out.2.2, X.2.2.2.2.2.2.2.2.2.1, X.2.2.2.2.2.2.2.2.2.2)) := by
    rw [gX_darkAt, e]
    rfl
  exact ⟨_, _, eg, ⟨hX.1, hX.2.1, hX.2.2.1, hX.2.2.2.1, hX.2.2.2.2.1, hX.2.2.2.2.2.1, hX.2.2.2.2.2.2.1, hX.2.2.2.2.2.2.2.1, hX.2.2.2.2.2.2.2.2.1, hb.2⟩, rfl, rfl, (kp_f_X10_darkAt (F0 := X.1.2) rfl out e).2, (kp_f_X10_darkAt (F0 := X.1.2) rfl out e).1, rfl, rfl, rfl⟩
theorem sx_darkSpots {X : XS} (hX : IX X) : ∃ r X', gX_darkSpots X = some (r, X') ∧ IX X' ∧ X'.2.2.2.1 = X.2.2.2.1 ∧ X'.2.1 = X.2.1 ∧ X'.1.2 = X.1.2 ∧ ¬ X'.1.1 = 4 ∧ X'.2.2.2.2.1 = X.2.2.2.2.1 ∧ X'.2.2.2.2.2.1 = X.2.2.2.2.2.1 ∧ X'.2.2.2.2.2.2.1 = X.2.2.2.2.2.2.1 := by
  obtain ⟨out, e, hb⟩ := t_f_X10_darkSpots (x_x := X.1) (p_p := X.2.1) (d_d := X.2.2.2.2.2.2.2.2.1) hX.1 hX.2.1 hX.2.2.1 hX.2.2.2.1 hX.2.2.2.2.1 hX.2.2.2.2.2.1 hX.2.2.2.2.2.2.2.2.2
  have eg : gX_darkSpots X = some (out.1, (out.2.1, X.2.1, X.2.2.1, X.2.2.2.1, X.2.2.2.2.1, X.2.2.2.2.2.1, X.2.2.2.2.2.2.1, X.2.2.2.2.2.2.2.1, out.2.2, X.2.2.2.2.2.2.2.2.2.1, X.2.2.2.2.2.2.2.2.2.2)) := by
    rw [gX_darkSpots, e]
    rfl
  exact ⟨_, _, eg, ⟨hX.1, hX.2.1, hX.2.2.1, hX.2.2.2.1, hX.2.2.2.2.1, hX.2.2.2.2.2.1, hX.2.2.2.2.2.2.1, hX.2.2.2.2.2.2.2.1, hX.2.2.2.2.2.2.2.2.1, hb.2⟩, rfl, rfl, (kp_f_X10_darkSpots (F0 := X.1.2) rfl out e).2, (kp_f_X10_darkSpots (F0 := X.1.2) rfl out e).1, rfl, rfl, rfl⟩
theorem sx_ask {X : XS} (hX : IX X) : ∃ r X', gX_ask X = some (r, X') ∧ IX X' ∧ X'.2.2.2.1 = X.2.2.2.1 ∧ X'.2.1 = X.2.1 ∧ X'.1.2 = X.1.2 ∧ ¬ X'.1.1 = 4 ∧ X'.2.2.2.2.1 = X.2.2.2.2.1 ∧ X'.2.2.2.2.2.1 = X.2.2.2.2.2.1 ∧ X'.2.2.2.2.2.2.1 = X.2.2.2.2.2.2.1 := by
  obtain ⟨out, e, hb⟩ := t_f_X10_ask (x_x := X.1) (p_p := X.2.1) (d_d := X.2.2.2.2.2.2.2.2.1) hX.1 hX.2.1 hX.2.2.1 hX.2.2.2.1 hX.2.2.2.2.1 hX.2.2.2.2.2.1 hX.2.2.2.2.2.2.2.2.2
  have eg : gX_ask X = some (out.1, (out.2.1, X.2.1, X.2.2.1, X.2.2.2.1, X.2.2.2.2.1, X.2.2.2.2.2.1, X.2.2.2.2.2.2.1, X.2.2.2.2.2.2.2.1, out.2.2, X.2.2.2.2.2.2.2.2.2.1, X.2.2.2.2.2.2.2.2.2.2)) := by
    rw [gX_ask, e]
    rfl
  exact ⟨_, _, eg, ⟨hX.1, hX.2.1, hX.2.2.1, hX.2.2.2.1, hX.2.2.2.2.1, hX.2.2.2.2.2.1, hX.2.2.2.2.2.2.1, hX.2.2.2.2.2.2.2.1, hX.2.2.2.2.2.2.2.2.1, hb.2.2⟩, rfl, rfl, (kp_f_X10_ask (F0 := X.1.2) rfl out e).2, (kp_f_X10_ask (F0 := X.1.2) rfl out e).1, rfl, rfl, rfl⟩
theorem sx_askLeaves {X : XS} (hX : IX X) : ∃ r X', gX_askLeaves X = some (r, X') ∧ IX X' ∧ X'.2.2.2.1 = X.2.2.2.1 ∧ X'.2.1 = X.2.1 ∧ X'.1.2 = X.1.2 ∧ ¬ X'.1.1 = 4 ∧ X'.2.2.2.2.1 = X.2.2.2.2.1 ∧ X'.2.2.2.2.2.1 = X.2.2.2.2.2.1 ∧ X'.2.2.2.2.2.2.1 = X.2.2.2.2.2.2.1 := by
  obtain ⟨out, e, hb⟩ := t_f_X10_askLeaves (x_x := X.1) (p_p := X.2.1) (d_d := X.2.2.2.2.2.2.2.2.1) hX.1 hX.2.1 hX.2.2.1 hX.2.2.2.1 hX.2.2.2.2.1 hX.2.2.2.2.2.1 hX.2.2.2.2.2.2.2.2.2
  have eg : gX_askLeaves X = some (out.1, (out.2.1, X.2.1, X.2.2.1, X.2.2.2.1, X.2.2.2.2.1, X.2.2.2.2.2.1, X.2.2.2.2.2.2.1, X.2.2.2.2.2.2.2.1, out.2.2, X.2.2.2.2.2.2.2.2.2.1, X.2.2.2.2.2.2.2.2.2.2)) := by
    rw [gX_askLeaves, e]
    rfl
  exact ⟨_, _, eg, ⟨hX.1, hX.2.1, hX.2.2.1, hX.2.2.2.1, hX.2.2.2.2.1, hX.2.2.2.2.2.1, hX.2.2.2.2.2.2.1, hX.2.2.2.2.2.2.2.1, hX.2.2.2.2.2.2.2.2.1, hb.2⟩, rfl, rfl, (kp_f_X10_askLeaves (F0 := X.1.2) rfl out e).2, (kp_f_X10_askLeaves (F0 := X.1.2) rfl out e).1, rfl, rfl, rfl⟩
theorem sx_judge {k1 : Int32} {X : XS} (hX : IX X) : ∃ r X', gX_judge k1 X = some (r, X') ∧ IX X' ∧ X'.2.2.2.1 = X.2.2.2.1 ∧ X'.2.1 = X.2.1 ∧ X'.1.2 = X.1.2 ∧ ¬ X'.1.1 = 4 ∧ X'.2.2.2.2.1 = X.2.2.2.2.1 ∧ X'.2.2.2.2.2.1 = X.2.2.2.2.2.1 ∧ X'.2.2.2.2.2.2.1 = X.2.2.2.2.2.2.1 := by
  obtain ⟨out, e, hb⟩ := t_f_X10_judge (k1 := k1) (x_x := X.1) (p_p := X.2.1) hX.1 hX.2.1 hX.2.2.1 hX.2.2.2.1 hX.2.2.2.2.1 hX.2.2.2.2.2.1
  have eg : gX_judge k1 X = some (out.1, (out.2, X.2.1, X.2.2.1, X.2.2.2.1, X.2.2.2.2.1, X.2.2.2.2.2.1, X.2.2.2.2.2.2.1, X.2.2.2.2.2.2.2.1, X.2.2.2.2.2.2.2.2.1, X.2.2.2.2.2.2.2.2.2.1, X.2.2.2.2.2.2.2.2.2.2)) := by
    rw [gX_judge, e]
    rfl
  exact ⟨_, _, eg, ⟨hX.1, hX.2.1, hX.2.2.1, hX.2.2.2.1, hX.2.2.2.2.1, hX.2.2.2.2.2.1, hX.2.2.2.2.2.2.1, hX.2.2.2.2.2.2.2.1, hX.2.2.2.2.2.2.2.2.1, hX.2.2.2.2.2.2.2.2.2⟩, rfl, rfl, (kp_f_X10_judge (F0 := X.1.2) rfl out e).2, (kp_f_X10_judge (F0 := X.1.2) rfl out e).1, rfl, rfl, rfl⟩
theorem sx_worth {k1 : Int32} {k2 : Int32} {k3 : Int32} {X : XS} (hX : IX X) : ∃ r X', gX_worth k1 k2 k3 X = some (r, X') ∧ IX X' ∧ X'.2.2.2.1 = X.2.2.2.1 ∧ X'.2.1 = X.2.1 ∧ X'.1.2 = X.1.2 ∧ ¬ X'.1.1 = 4 ∧ X'.2.2.2.2.1 = X.2.2.2.2.1 ∧ X'.2.2.2.2.2.1 = X.2.2.2.2.2.1 ∧ X'.2.2.2.2.2.2.1 = X.2.2.2.2.2.2.1 := by
  obtain ⟨out, e, hb⟩ := t_f_X10_worth (k1 := k1) (k2 := k2) (k3 := k3) (x_x := X.1) (p_p := X.2.1) hX.1 hX.2.1 hX.2.2.1 hX.2.2.2.1 hX.2.2.2.2.1 hX.2.2.2.2.2.1
  have eg : gX_worth k1 k2 k3 X = some (out.1, (out.2, X.2.1, X.2.2.1, X.2.2.2.1, X.2.2.2.2.1, X.2.2.2.2.2.1, X.2.2.2.2.2.2.1, X.2.2.2.2.2.2.2.1, X.2.2.2.2.2.2.2.2.1, X.2.2.2.2.2.2.2.2.2.1, X.2.2.2.2.2.2.2.2.2.2)) := by
    rw [gX_worth, e]
    rfl
  exact ⟨_, _, eg, ⟨hX.1, hX.2.1, hX.2.2.1, hX.2.2.2.1, hX.2.2.2.2.1, hX.2.2.2.2.2.1, hX.2.2.2.2.2.2.1, hX.2.2.2.2.2.2.2.1, hX.2.2.2.2.2.2.2.2.1, hX.2.2.2.2.2.2.2.2.2⟩, rfl, rfl, (kp_f_X10_worth (F0 := X.1.2) rfl out e).2, (kp_f_X10_worth (F0 := X.1.2) rfl out e).1, rfl, rfl, rfl⟩
theorem sx_load {k1 : Int32} {X : XS} (hX : IX X) : ∃ r X', gX_load k1 X = some (r, X') ∧ IX X' ∧ X'.2.2.2.1 = X.2.2.2.1 ∧ X'.2.1 = X.2.1 ∧ X'.1.2 = X.1.2 ∧ ¬ X'.1.1 = 4 ∧ X'.2.2.2.2.1 = X.2.2.2.2.1 ∧ X'.2.2.2.2.2.1 = X.2.2.2.2.2.1 ∧ X'.2.2.2.2.2.2.1 = X.2.2.2.2.2.2.1 := by
  obtain ⟨out, e, hb⟩ := t_f_X10_load (k1 := k1) (x_x := X.1) (p_p := X.2.1) (n_n := X.2.2.2.2.1) hX.1 hX.2.1 hX.2.2.1 hX.2.2.2.1 hX.2.2.2.2.1 hX.2.2.2.2.2.1
  have eg : gX_load k1 X = some (out.1, (out.2, X.2.1, X.2.2.1, X.2.2.2.1, X.2.2.2.2.1, X.2.2.2.2.2.1, X.2.2.2.2.2.2.1, X.2.2.2.2.2.2.2.1, X.2.2.2.2.2.2.2.2.1, X.2.2.2.2.2.2.2.2.2.1, X.2.2.2.2.2.2.2.2.2.2)) := by
    rw [gX_load, e]
    rfl
  exact ⟨_, _, eg, ⟨hX.1, hX.2.1, hX.2.2.1, hX.2.2.2.1, hX.2.2.2.2.1, hX.2.2.2.2.2.1, hX.2.2.2.2.2.2.1, hX.2.2.2.2.2.2.2.1, hX.2.2.2.2.2.2.2.2.1, hX.2.2.2.2.2.2.2.2.2⟩, rfl, rfl, (kp_f_X10_load (F0 := X.1.2) rfl out e).2, (kp_f_X10_load (F0 := X.1.2) rfl out e).1, rfl, rfl, rfl⟩
theorem sx_loadWorth {k1 : Int32} {X : XS} (hX : IX X) : ∃ r X', gX_loadWorth k1 X = some (r, X') ∧ IX X' ∧ X'.2.2.2.1 = X.2.2.2.1 ∧ X'.2.1 = X.2.1 ∧ X'.1.2 = X.1.2 ∧ ¬ X'.1.1 = 4 ∧ X'.2.2.2.2.1 = X.2.2.2.2.1 ∧ X'.2.2.2.2.2.1 = X.2.2.2.2.2.1 ∧ X'.2.2.2.2.2.2.1 = X.2.2.2.2.2.2.1 := by
  obtain ⟨out, e, hb⟩ := t_f_X10_loadWorth (k1 := k1) (x_x := X.1) (p_p := X.2.1) (n_n := X.2.2.2.2.1) hX.1 hX.2.1 hX.2.2.1 hX.2.2.2.1 hX.2.2.2.2.1 hX.2.2.2.2.2.1
  have eg : gX_loadWorth k1 X = some (out.1, (out.2, X.2.1, X.2.2.1, X.2.2.2.1, X.2.2.2.2.1, X.2.2.2.2.2.1, X.2.2.2.2.2.2.1, X.2.2.2.2.2.2.2.1, X.2.2.2.2.2.2.2.2.1, X.2.2.2.2.2.2.2.2.2.1, X.2.2.2.2.2.2.2.2.2.2)) := by
    rw [gX_loadWorth, e]
    rfl
  exact ⟨_, _, eg, ⟨hX.1, hX.2.1, hX.2.2.1, hX.2.2.2.1, hX.2.2.2.2.1, hX.2.2.2.2.2.1, hX.2.2.2.2.2.2.1, hX.2.2.2.2.2.2.2.1, hX.2.2.2.2.2.2.2.2.1, hX.2.2.2.2.2.2.2.2.2⟩, rfl, rfl, (kp_f_X10_loadWorth (F0 := X.1.2) rfl out e).2, (kp_f_X10_loadWorth (F0 := X.1.2) rfl out e).1, rfl, rfl, rfl⟩
theorem sx_bestDay {X : XS} (hX : IX X) : ∃ r X', gX_bestDay X = some (r, X') ∧ IX X' ∧ X'.2.2.2.1 = X.2.2.2.1 ∧ X'.2.1 = X.2.1 ∧ X'.1.2 = X.1.2 ∧ ¬ X'.1.1 = 4 ∧ X'.2.2.2.2.1 = X.2.2.2.2.1 ∧ X'.2.2.2.2.2.1 = X.2.2.2.2.2.1 ∧ X'.2.2.2.2.2.2.1 = X.2.2.2.2.2.2.1 := by
  obtain ⟨out, e, hb⟩ := t_f_X10_bestDay (x_x := X.1) (p_p := X.2.1) (n_n := X.2.2.2.2.1) hX.1 hX.2.1 hX.2.2.1 hX.2.2.2.1 hX.2.2.2.2.1 hX.2.2.2.2.2.1
  have eg : gX_bestDay X = some (out.1, (out.2, X.2.1, X.2.2.1, X.2.2.2.1, X.2.2.2.2.1, X.2.2.2.2.2.1, X.2.2.2.2.2.2.1, X.2.2.2.2.2.2.2.1, X.2.2.2.2.2.2.2.2.1, X.2.2.2.2.2.2.2.2.2.1, X.2.2.2.2.2.2.2.2.2.2)) := by
    rw [gX_bestDay, e]
    rfl
  exact ⟨_, _, eg, ⟨hX.1, hX.2.1, hX.2.2.1, hX.2.2.2.1, hX.2.2.2.2.1, hX.2.2.2.2.2.1, hX.2.2.2.2.2.2.1, hX.2.2.2.2.2.2.2.1, hX.2.2.2.2.2.2.2.2.1, hX.2.2.2.2.2.2.2.2.2⟩, rfl, rfl, (kp_f_X10_bestDay (F0 := X.1.2) rfl out e).2, (kp_f_X10_bestDay (F0 := X.1.2) rfl out e).1, rfl, rfl, rfl⟩
theorem sx_hooks {k1 : Int32} {k2 : Int32} {k3 : Int32} {k4 : Int32} {k5 : Int32} {X : XS} (hX : IX X) : ∃ r X', gX_hooks k1 k2 k3 k4 k5 X = some (r, X') ∧ IX X' ∧ X'.2.2.2.1 = X.2.2.2.1 ∧ X'.2.1 = X.2.1 ∧ X'.1.2 = X.1.2 ∧ ¬ X'.1.1 = 4 ∧ X'.2.2.2.2.1 = X.2.2.2.2.1 ∧ X'.2.2.2.2.2.1 = X.2.2.2.2.2.1 ∧ X'.2.2.2.2.2.2.1 = X.2.2.2.2.2.2.1 := by
  obtain ⟨out, e, hb⟩ := t_f_X10_hooks (k1 := k1) (k2 := k2) (k3 := k3) (k4 := k4) (k5 := k5) (x_x := X.1) (p_p := X.2.1) (n_n := X.2.2.2.2.1) hX.1 hX.2.1 hX.2.2.1 hX.2.2.2.1 hX.2.2.2.2.1 hX.2.2.2.2.2.1
  have eg : gX_hooks k1 k2 k3 k4 k5 X = some (out.1, (out.2, X.2.1, X.2.2.1, X.2.2.2.1, X.2.2.2.2.1, X.2.2.2.2.2.1, X.2.2.2.2.2.2.1, X.2.2.2.2.2.2.2.1, X.2.2.2.2.2.2.2.2.1, X.2.2.2.2.2.2.2.2.2.1, X.2.2.2.2.2.2.2.2.2.2)) := by
    rw [gX_hooks, e]
    rfl
  exact ⟨_, _, eg, ⟨hX.1, hX.2.1, hX.2.2.1, hX.2.2.2.1, hX.2.2.2.2.1, hX.2.2.2.2.2.1, hX.2.2.2.2.2.2.1, hX.2.2.2.2.2.2.2.1, hX.2.2.2.2.2.2.2.2.1, hX.2.2.2.2.2.2.2.2.2⟩, rfl, rfl, (kp_f_X10_hooks (F0 := X.1.2) rfl out e).2, (kp_f_X10_hooks (F0 := X.1.2) rfl out e).1, rfl, rfl, rfl⟩
theorem sx_lines {k1 : Int32} {k2 : Int32} {k3 : Int32} {k4 : Int32} {X : XS} (hX : IX X) : ∃ r X', gX_lines k1 k2 k3 k4 X = some (r, X') ∧ IX X' ∧ X'.2.2.2.1 = X.2.2.2.1 ∧ X'.2.1 = X.2.1 ∧ X'.1.2 = X.1.2 ∧ ¬ X'.1.1 = 4 ∧ X'.2.2.2.2.1 = X.2.2.2.2.1 ∧ X'.2.2.2.2.2.1 = X.2.2.2.2.2.1 ∧ X'.2.2.2.2.2.2.1 = X.2.2.2.2.2.2.1 := by
  obtain ⟨out, e, hb⟩ := t_f_X10_lines (k1 := k1) (k2 := k2) (k3 := k3) (k4 := k4) (x_x := X.1) (p_p := X.2.1) hX.1 hX.2.1 hX.2.2.1 hX.2.2.2.1 hX.2.2.2.2.1 hX.2.2.2.2.2.1
  have eg : gX_lines k1 k2 k3 k4 X = some (out.1, (out.2, X.2.1, X.2.2.1, X.2.2.2.1, X.2.2.2.2.1, X.2.2.2.2.2.1, X.2.2.2.2.2.2.1, X.2.2.2.2.2.2.2.1, X.2.2.2.2.2.2.2.2.1, X.2.2.2.2.2.2.2.2.2.1, X.2.2.2.2.2.2.2.2.2.2)) := by
    rw [gX_lines, e]
    rfl
  exact ⟨_, _, eg, ⟨hX.1, hX.2.1, hX.2.2.1, hX.2.2.2.1, hX.2.2.2.2.1, hX.2.2.2.2.2.1, hX.2.2.2.2.2.2.1, hX.2.2.2.2.2.2.2.1, hX.2.2.2.2.2.2.2.2.1, hX.2.2.2.2.2.2.2.2.2⟩, rfl, rfl, (kp_f_X10_lines (F0 := X.1.2) rfl out e).2, (kp_f_X10_lines (F0 := X.1.2) rfl out e).1, rfl, rfl, rfl⟩
theorem sx_rests {k1 : Int32} {X : XS} (hX : IX X) : ∃ r X', gX_rests k1 X = some (r, X') ∧ IX X' ∧ X'.2.2.2.1 = X.2.2.2.1 ∧ X'.2.1 = X.2.1 ∧ X'.1.2 = X.1.2 ∧ ¬ X'.1.1 = 4 ∧ X'.2.2.2.2.1 = X.2.2.2.2.1 ∧ X'.2.2.2.2.2.1 = X.2.2.2.2.2.1 ∧ X'.2.2.2.2.2.2.1 = X.2.2.2.2.2.2.1 := by
  obtain ⟨out, e, hb⟩ := t_f_X10_rests (k1 := k1) (x_x := X.1) (p_p := X.2.1) hX.1 hX.2.1 hX.2.2.1 hX.2.2.2.1 hX.2.2.2.2.1 hX.2.2.2.2.2.1
  have eg : gX_rests k1 X = some (out.1, (out.2, X.2.1, X.2.2.1, X.2.2.2.1, X.2.2.2.2.1, X.2.2.2.2.2.1, X.2.2.2.2.2.2.1, X.2.2.2.2.2.2.2.1, X.2.2.2.2.2.2.2.2.1, X.2.2.2.2.2.2.2.2.2.1, X.2.2.2.2.2.2.2.2.2.2)) := by
    rw [gX_rests, e]
    rfl
  exact ⟨_, _, eg, ⟨hX.1, hX.2.1, hX.2.2.1, hX.2.2.2.1, hX.2.2.2.2.1, hX.2.2.2.2.2.1, hX.2.2.2.2.2.2.1, hX.2.2.2.2.2.2.2.1, hX.2.2.2.2.2.2.2.2.1, hX.2.2.2.2.2.2.2.2.2⟩, rfl, rfl, (kp_f_X10_rests (F0 := X.1.2) rfl out e).2, (kp_f_X10_rests (F0 := X.1.2) rfl out e).1, rfl, rfl, rfl⟩
theorem sx_rest {k1 : Int32} {X : XS} (hX : IX X) : ∃ r X', gX_rest k1 X = some (r, X') ∧ IX X' ∧ X'.2.2.2.1 = X.2.2.2.1 ∧ X'.2.1 = X.2.1 ∧ X'.1.2 = X.1.2 ∧ ¬ X'.1.1 = 4 ∧ X'.2.2.2.2.1 = X.2.2.2.2.1 ∧ X'.2.2.2.2.2.1 = X.2.2.2.2.2.1 ∧ X'.2.2.2.2.2.2.1 = X.2.2.2.2.2.2.1 := by
  obtain ⟨out, e, hb⟩ := t_f_X10_rest (k1 := k1) (x_x := X.1) (p_p := X.2.1) hX.1 hX.2.1 hX.2.2.1 hX.2.2.2.1 hX.2.2.2.2.1 hX.2.2.2.2.2.1
  have eg : gX_rest k1 X = some (out.1, (out.2, X.2.1, X.2.2.1, X.2.2.2.1, X.2.2.2.2.1, X.2.2.2.2.2.1, X.2.2.2.2.2.2.1, X.2.2.2.2.2.2.2.1, X.2.2.2.2.2.2.2.2.1, X.2.2.2.2.2.2.2.2.2.1, X.2.2.2.2.2.2.2.2.2.2)) := by
    rw [gX_rest, e]
    rfl
  exact ⟨_, _, eg, ⟨hX.1, hX.2.1, hX.2.2.1, hX.2.2.2.1, hX.2.2.2.2.1, hX.2.2.2.2.2.1, hX.2.2.2.2.2.2.1, hX.2.2.2.2.2.2.2.1, hX.2.2.2.2.2.2.2.2.1, hX.2.2.2.2.2.2.2.2.2⟩, rfl, rfl, (kp_f_X10_rest (F0 := X.1.2) rfl out e).2, (kp_f_X10_rest (F0 := X.1.2) rfl out e).1, rfl, rfl, rfl⟩
theorem sx_landed {k1 : Int32} {k2 : Int32} {X : XS} (hX : IX X) : ∃ r X', gX_landed k1 k2 X = some (r, X') ∧ IX X' ∧ X'.2.2.2.1 = X.2.2.2.1 ∧ X'.2.1 = X.2.1 ∧ X'.1.2 = X.1.2 ∧ ¬ X'.1.1 = 4 ∧ X'.2.2.2.2.1 = X.2.2.2.2.1 ∧ X'.2.2.2.2.2.1 = X.2.2.2.2.2.1 ∧ X'.2.2.2.2.2.2.1 = X.2.2.2.2.2.2.1 := by
  obtain ⟨out, e, hb⟩ := t_f_X10_landed (k1 := k1) (k2 := k2) (x_x := X.1) (p_p := X.2.1) (n_n := X.2.2.2.2.1) (y_y := X.2.2.2.2.2.2.2.2.2.1) (n2_n := X.2.2.2.2.2.2.2.2.2.2) hX.1 hX.2.1 hX.2.2.1 hX.2.2.2.1 hX.2.2.2.2.1 hX.2.2.2.2.2.1
  have eg : gX_landed k1 k2 X = some (out.1, (out.2.1, X.2.1, X.2.2.1, X.2.2.2.1, X.2.2.2.2.1, X.2.2.2.2.2.1, X.2.2.2.2.2.2.1, X.2.2.2.2.2.2.2.1, X.2.2.2.2.2.2.2.2.1, out.2.2.1, out.2.2.2)) := by
    rw [gX_landed, e]
    rfl
  exact ⟨_, _, eg, ⟨hX.1, hX.2.1, hX.2.2.1, hX.2.2.2.1, hX.2.2.2.2.1, hX.2.2.2.2.2.1, hX.2.2.2.2.2.2.1, hX.2.2.2.2.2.2.2.1, hX.2.2.2.2.2.2.2.2.1, hX.2.2.2.2.2.2.2.2.2⟩, rfl, rfl, (kp_f_X10_landed (F0 := X.1.2) rfl out e).2, (kp_f_X10_landed (F0 := X.1.2) rfl out e).1, rfl, rfl, rfl⟩
theorem sx_landedIn {k1 : Int32} {k2 : Int32} {k3 : Int32} {X : XS} (hX : IX X) : ∃ r X', gX_landedIn k1 k2 k3 X = some (r, X') ∧ IX X' ∧ X'.2.2.2.1 = X.2.2.2.1 ∧ X'.2.1 = X.2.1 ∧ X'.1.2 = X.1.2 ∧ ¬ X'.1.1 = 4 ∧ X'.2.2.2.2.1 = X.2.2.2.2.1 ∧ X'.2.2.2.2.2.1 = X.2.2.2.2.2.1 ∧ X'.2.2.2.2.2.2.1 = X.2.2.2.2.2.2.1 := by
  obtain ⟨out, e, hb⟩ := t_f_X10_landedIn (k1 := k1) (k2 := k2) (k3 := k3) (x_x := X.1) (p_p := X.2.1) (n_n := X.2.2.2.2.1) (y_y := X.2.2.2.2.2.2.2.2.2.1) (n2_n := X.2.2.2.2.2.2.2.2.2.2) hX.1 hX.2.1 hX.2.2.1 hX.2.2.2.1 hX.2.2.2.2.1 hX.2.2.2.2.2.1
  have eg : gX_landedIn k1 k2 k3 X = some (out.1, (out.2.1, X.2.1, X.2.2.1, X.2.2.2.1, X.2.2.2.2.1, X.2.2.2.2.2.1, X.2.2.2.2.2.2.1, X.2.2.2.2.2.2.2.1, X.2.2.2.2.2.2.2.2.1, out.2.2.1, out.2.2.2)) := by
    rw [gX_landedIn, e]
    rfl
  exact ⟨_, _, eg, ⟨hX.1, hX.2.1, hX.2.2.1, hX.2.2.2.1, hX.2.2.2.2.1, hX.2.2.2.2.2.1, hX.2.2.2.2.2.2.1, hX.2.2.2.2.2.2.2.1, hX.2.2.2.2.2.2.2.2.1, hX.2.2.2.2.2.2.2.2.2⟩, rfl, rfl, (kp_f_X10_landedIn (F0 := X.1.2) rfl out e).2, (kp_f_X10_landedIn (F0 := X.1.2) rfl out e).1, rfl, rfl, rfl⟩
theorem sx_crabs {k1 : Int32} {k2 : Int32} {X : XS} (hX : IX X) : ∃ r X', gX_crabs k1 k2 X = some (r, X') ∧ IX X' ∧ X'.2.2.2.1 = X.2.2.2.1 ∧ X'.2.1 = X.2.1 ∧ X'.1.2 = X.1.2 ∧ ¬ X'.1.1 = 4 ∧ X'.2.2.2.2.1 = X.2.2.2.2.1 ∧ X'.2.2.2.2.2.1 = X.2.2.2.2.2.1 ∧ X'.2.2.2.2.2.2.1 = X.2.2.2.2.2.2.1 := by
  obtain ⟨out, e, hb⟩ := t_f_X10_crabs (k1 := k1) (k2 := k2) (x_x := X.1) (p_p := X.2.1) (n_n := X.2.2.2.2.1) (y_y := X.2.2.2.2.2.2.2.2.2.1) (n2_n := X.2.2.2.2.2.2.2.2.2.2) hX.1 hX.2.1 hX.2.2.1 hX.2.2.2.1 hX.2.2.2.2.1 hX.2.2.2.2.2.1
  have eg : gX_crabs k1 k2 X = some (out.1, (out.2.1, X.2.1, X.2.2.1, X.2.2.2.1, X.2.2.2.2.1, X.2.2.2.2.2.1, X.2.2.2.2.2.2.1, X.2.2.2.2.2.2.2.1, X.2.2.2.2.2.2.2.2.1, out.2.2.1, out.2.2.2)) := by
    rw [gX_crabs, e]
    rfl
  exact ⟨_, _, eg, ⟨hX.1, hX.2.1, hX.2.2.1, hX.2.2.2.1, hX.2.2.2.2.1, hX.2.2.2.2.2.1, hX.2.2.2.2.2.2.1, hX.2.2.2.2.2.2.2.1, hX.2.2.2.2.2.2.2.2.1, hX.2.2.2.2.2.2.2.2.2⟩, rfl, rfl, (kp_f_X10_crabs (F0 := X.1.2) rfl out e).2, (kp_f_X10_crabs (F0 := X.1.2) rfl out e).1, rfl, rfl, rfl⟩
theorem sx_let {k1 : Int32} {k2 : Int32} {k3 : Int32} {k4 : Int32} {X : XS} (hX : IX X) : ∃ r X', gX_let k1 k2 k3 k4 X = some (r, X') ∧ IX X' ∧ X'.2.2.2.1 = X.2.2.2.1 ∧ X'.2.1 = X.2.1 ∧ X'.1.2 = X.1.2 ∧ ¬ X'.1.1 = 4 := by
  obtain ⟨out, e, hb⟩ := t_f_X10_let (k1 := k1) (k2 := k2) (k3 := k3) (k4 := k4) (x_x := X.1) (n_n := (X.2.2.2.2.2.2.1 (((((X.2.2.2.2.2.1.1 + X.2.2.2.2.2.1.2.1) - (X.2.2.2.2.2.1.1 + X.2.2.2.2.2.1.2.1) / (16 : Int32) * (16 : Int32)))).toNatClampNeg % 16))) (p_p := X.2.1) (n2_n := X.2.2.2.2.1) (h_h := X.2.2.2.2.2.1) hX.1 hX.2.1 hX.2.2.1 hX.2.2.2.1 hX.2.2.2.2.1 hX.2.2.2.2.2.1 hX.2.2.2.2.2.2.1 hX.2.2.2.2.2.2.2.1 hX.2.2.2.2.2.2.2.2.1
  have eg : gX_let k1 k2 k3 k4 X = some (out.1, (out.2.1, X.2.1, X.2.2.1, X.2.2.2.1, out.2.2.2.1, out.2.2.2.2, (updN X.2.2.2.2.2.2.1 (((((X.2.2.2.2.2.1.1 + X.2.2.2.2.2.1.2.1) - (X.2.2.2.2.2.1.1 + X.2.2.2.2.2.1.2.1) / (16 : Int32) * (16 : Int32)))).toNatClampNeg % 16) out.2.2.1), X.2.2.2.2.2.2.2.1, X.2.2.2.2.2.2.2.2.1, X.2.2.2.2.2.2.2.2.2.1, X.2.2.2.2.2.2.2.2.2.2)) := by
    rw [gX_let, e]
    rfl
  exact ⟨_, _, eg, ⟨hX.1, hX.2.1, hX.2.2.1, hX.2.2.2.1, hX.2.2.2.2.1, hX.2.2.2.2.2.1, hb.2.2.1, hb.2.2.2.1, hb.2.2.2.2, hX.2.2.2.2.2.2.2.2.2⟩, rfl, rfl, (kp_f_X10_let (F0 := X.1.2) rfl out e).2.2, (kp_f_X10_let (F0 := X.1.2) rfl out e).2.1⟩
theorem sx_drawIn {k1 : Int32} {X : XS} (hX : IX X) : ∃ r X', gX_drawIn k1 X = some (r, X') ∧ IX X' ∧ X'.2.2.2.1 = X.2.2.2.1 ∧ X'.2.1 = X.2.1 ∧ X'.1.2 = X.1.2 ∧ ¬ X'.1.1 = 4 := by
  obtain ⟨out, e, hb⟩ := t_f_X10_drawIn (k1 := k1) (x_x := X.1) (n_n := (X.2.2.2.2.2.2.1 (((((X.2.2.2.2.2.1.1 + X.2.2.2.2.2.1.2.1) - (X.2.2.2.2.2.1.1 + X.2.2.2.2.2.1.2.1) / (16 : Int32) * (16 : Int32)))).toNatClampNeg % 16))) (p_p := X.2.1) (n2_n := X.2.2.2.2.1) (h_h := X.2.2.2.2.2.1) hX.1 hX.2.1 hX.2.2.1 hX.2.2.2.1 hX.2.2.2.2.1 hX.2.2.2.2.2.1 hX.2.2.2.2.2.2.1 hX.2.2.2.2.2.2.2.1 hX.2.2.2.2.2.2.2.2.1
  have eg : gX_drawIn k1 X = some (out.1, (out.2.1, X.2.1, X.2.2.1, X.2.2.2.1, out.2.2.2.1, out.2.2.2.2, (updN X.2.2.2.2.2.2.1 (((((X.2.2.2.2.2.1.1 + X.2.2.2.2.2.1.2.1) - (X.2.2.2.2.2.1.1 + X.2.2.2.2.2.1.2.1) / (16 : Int32) * (16 : Int32)))).toNatClampNeg % 16) out.2.2.1), X.2.2.2.2.2.2.2.1, X.2.2.2.2.2.2.2.2.1, X.2.2.2.2.2.2.2.2.2.1, X.2.2.2.2.2.2.2.2.2.2)) := by
    rw [gX_drawIn, e]
    rfl
  exact ⟨_, _, eg, ⟨hX.1, hX.2.1, hX.2.2.1, hX.2.2.2.1, hX.2.2.2.2.1, hX.2.2.2.2.2.1, hb.2.2.1, hb.2.2.2.1, hb.2.2.2.2, hX.2.2.2.2.2.2.2.2.2⟩, rfl, rfl, (kp_f_X10_drawIn (F0 := X.1.2) rfl out e).2.2, (kp_f_X10_drawIn (F0 := X.1.2) rfl out e).2.1⟩
theorem sx_sell {k1 : Int32} {X : XS} (hX : IX X) : ∃ r X', gX_sell k1 X = some (r, X') ∧ IX X' ∧ X'.2.2.2.1 = X.2.2.2.1 ∧ X'.2.1 = X.2.1 ∧ X'.1.2 = X.1.2 ∧ ¬ X'.1.1 = 4 := by
  obtain ⟨out, e, hb⟩ := t_f_X10_sell (k1 := k1) (x_x := X.1) (n_n := (X.2.2.2.2.2.2.1 (((((X.2.2.2.2.2.1.1 + X.2.2.2.2.2.1.2.1) - (X.2.2.2.2.2.1.1 + X.2.2.2.2.2.1.2.1) / (16 : Int32) * (16 : Int32)))).toNatClampNeg % 16))) (p_p := X.2.1) (n2_n := X.2.2.2.2.1) (h_h := X.2.2.2.2.2.1) hX.1 hX.2.1 hX.2.2.1 hX.2.2.2.1 hX.2.2.2.2.1 hX.2.2.2.2.2.1 hX.2.2.2.2.2.2.1 hX.2.2.2.2.2.2.2.1 hX.2.2.2.2.2.2.2.2.1
  have eg : gX_sell k1 X = some (out.1, (out.2.1, X.2.1, X.2.2.1, X.2.2.2.1, out.2.2.2.1, out.2.2.2.2, (updN X.2.2.2.2.2.2.1 (((((X.2.2.2.2.2.1.1 + X.2.2.2.2.2.1.2.1) - (X.2.2.2.2.2.1.1 + X.2.2.2.2.2.1.2.1) / (16 : Int32) * (16 : Int32)))).toNatClampNeg % 16) out.2.2.1), X.2.2.2.2.2.2.2.1, X.2.2.2.2.2.2.2.2.1, X.2.2.2.2.2.2.2.2.2.1, X.2.2.2.2.2.2.2.2.2.2)) := by
    rw [gX_sell, e]
    rfl
  exact ⟨_, _, eg, ⟨hX.1, hX.2.1, hX.2.2.1, hX.2.2.2.1, hX.2.2.2.2.1, hX.2.2.2.2.2.1, hb.2.1, hb.2.2.1, hb.2.2.2, hX.2.2.2.2.2.2.2.2.2⟩, rfl, rfl, (kp_f_X10_sell (F0 := X.1.2) rfl out e).2, (kp_f_X10_sell (F0 := X.1.2) rfl out e).1⟩
theorem sx_day {X : XS} (hX : IX X) : ∃ r X', gX_day X = some (r, X') ∧ IX X' ∧ X'.2.2.2.1 = X.2.2.2.1 ∧ X'.2.1 = X.2.1 ∧ X'.1.2 = X.1.2 ∧ ¬ X'.1.1 = 4 := by
  obtain ⟨out, e, hb⟩ := t_f_X10_day (x_x := X.1) (n_n := (X.2.2.2.2.2.2.1 (((((X.2.2.2.2.2.1.1 + X.2.2.2.2.2.1.2.1) - (X.2.2.2.2.2.1.1 + X.2.2.2.2.2.1.2.1) / (16 : Int32) * (16 : Int32)))).toNatClampNeg % 16))) (p_p := X.2.1) (n2_n := X.2.2.2.2.1) (h_h := X.2.2.2.2.2.1) (y_y := X.2.2.2.2.2.2.2.2.2.1) hX.1 hX.2.1 hX.2.2.1 hX.2.2.2.1 hX.2.2.2.2.1 hX.2.2.2.2.2.1 hX.2.2.2.2.2.2.1 hX.2.2.2.2.2.2.2.1 hX.2.2.2.2.2.2.2.2.1
  have eg : gX_day X = some (out.1, (out.2.1, X.2.1, X.2.2.1, X.2.2.2.1, out.2.2.2.1, out.2.2.2.2.1, (updN X.2.2.2.2.2.2.1 (((((X.2.2.2.2.2.1.1 + X.2.2.2.2.2.1.2.1) - (X.2.2.2.2.2.1.1 + X.2.2.2.2.2.1.2.1) / (16 : Int32) * (16 : Int32)))).toNatClampNeg % 16) out.2.2.1), X.2.2.2.2.2.2.2.1, X.2.2.2.2.2.2.2.2.1, out.2.2.2.2.2, X.2.2.2.2.2.2.2.2.2.2)) := by
    rw [gX_day, e]
    rfl
  exact ⟨_, _, eg, ⟨hX.1, hX.2.1, hX.2.2.1, hX.2.2.2.1, hX.2.2.2.2.1, hX.2.2.2.2.2.1, hb.2.2.1, hb.2.2.2.1, hb.2.2.2.2, hX.2.2.2.2.2.2.2.2.2⟩, rfl, rfl, (kp_f_X10_day (F0 := X.1.2) rfl out e).2, (kp_f_X10_day (F0 := X.1.2) rfl out e).1⟩
theorem sx_seed {k1 : Int32} {X : XS} (hX : IX X) : ∃ r X', gX_seed k1 X = some (r, X') ∧ IX X' ∧ X'.2.2.2.1 = X.2.2.2.1 ∧ X'.2.1 = X.2.1 ∧ X'.1.2 = X.1.2 ∧ ¬ X'.1.1 = 4 := by
  have eg : gX_seed k1 X = some ((f_X10_seed k1 X.1 X.2.1 X.2.2.2.2.1).1, ((f_X10_seed k1 X.1 X.2.1 X.2.2.2.2.1).2.1, X.2.1, X.2.2.1, X.2.2.2.1, (f_X10_seed k1 X.1 X.2.1 X.2.2.2.2.1).2.2, X.2.2.2.2.2.1, X.2.2.2.2.2.2.1, X.2.2.2.2.2.2.2.1, X.2.2.2.2.2.2.2.2.1, X.2.2.2.2.2.2.2.2.2.1, X.2.2.2.2.2.2.2.2.2.2)) := rfl
  exact ⟨_, _, eg, ⟨hX.1, hX.2.1, hX.2.2.1, hX.2.2.2.1, hX.2.2.2.2.1, hX.2.2.2.2.2.1, hX.2.2.2.2.2.2.1, hX.2.2.2.2.2.2.2.1, hX.2.2.2.2.2.2.2.2.1, hX.2.2.2.2.2.2.2.2.2⟩, rfl, rfl, (kp_f_X10_seed (F0 := X.1.2) rfl).2.2, (kp_f_X10_seed (F0 := X.1.2) rfl).2.1⟩
theorem sx_undo {X : XS} (hX : IX X) : ∃ r X', gX_undo X = some (r, X') ∧ IX X' ∧ X'.2.2.2.1 = X.2.2.2.1 ∧ X'.2.1 = X.2.1 ∧ X'.1.2 = X.1.2 ∧ ¬ X'.1.1 = 4 := by
  obtain ⟨out, e, hb⟩ := t_f_X10_undo (x_x := X.1) (n_n := (X.2.2.2.2.2.2.1 (((((X.2.2.2.2.2.1.1 + (X.2.2.2.2.2.1.2.1 - (1 : Int32))) - (X.2.2.2.2.2.1.1 + (X.2.2.2.2.2.1.2.1 - (1 : Int32))) / (16 : Int32) * (16 : Int32)))).toNatClampNeg % 16))) (n2_n := X.2.2.2.2.1) (h_h := X.2.2.2.2.2.1) hX.2.2.2.2.2.2.1 hX.2.2.2.2.2.2.2.1 hX.2.2.2.2.2.2.2.2.1
  have eg : gX_undo X = some (out.1, (out.2.1, X.2.1, X.2.2.1, X.2.2.2.1, out.2.2.1, out.2.2.2, X.2.2.2.2.2.2.1, X.2.2.2.2.2.2.2.1, X.2.2.2.2.2.2.2.2.1, X.2.2.2.2.2.2.2.2.2.1, X.2.2.2.2.2.2.2.2.2.2)) := by
    rw [gX_undo, e]
    rfl
  exact ⟨_, _, eg, ⟨hX.1, hX.2.1, hX.2.2.1, hX.2.2.2.1, hX.2.2.2.2.1, hX.2.2.2.2.2.1, hb.2.2.1, r_w (l' := 0) (h' := 16) hb.2.2.2.1 (by decide) (by decide), hb.2.2.2.2, hX.2.2.2.2.2.2.2.2.2⟩, rfl, rfl, (kp_f_X10_undo (F0 := X.1.2) rfl out e).2.2, (kp_f_X10_undo (F0 := X.1.2) rfl out e).2.1⟩
theorem sx_mark {X : XS} (hX : IX X) : ∃ r X', gX_mark X = some (r, X') ∧ IX X' ∧ X'.2.2.2.1 = X.2.2.2.1 ∧ X'.2.1 = X.2.1 ∧ X'.1.2 = X.1.2 ∧ ¬ X'.1.1 = 4 := by
  obtain ⟨out, e, hb⟩ := t_f_X10_mark (x_x := X.1) (n_n := (X.2.2.2.2.2.2.1 (16 + ((X.2.2.2.2.2.1.2.2)).toNatClampNeg % 3))) (p_p := X.2.1) (n2_n := X.2.2.2.2.1) (h_h := X.2.2.2.2.2.1) hX.1 hX.2.1 hX.2.2.1 hX.2.2.2.1 hX.2.2.2.2.1 hX.2.2.2.2.2.1 hX.2.2.2.2.2.2.1 hX.2.2.2.2.2.2.2.1 hX.2.2.2.2.2.2.2.2.1
  have eg : gX_mark X = some (out.1, (out.2.1, X.2.1, X.2.2.1, X.2.2.2.1, X.2.2.2.2.1, out.2.2.2, (updN X.2.2.2.2.2.2.1 (16 + ((X.2.2.2.2.2.1.2.2)).toNatClampNeg % 3) out.2.2.1), X.2.2.2.2.2.2.2.1, X.2.2.2.2.2.2.2.2.1, X.2.2.2.2.2.2.2.2.2.1, X.2.2.2.2.2.2.2.2.2.2)) := by
    rw [gX_mark, e]
    rfl
  exact ⟨_, _, eg, ⟨hX.1, hX.2.1, hX.2.2.1, hX.2.2.2.1, hX.2.2.2.2.1, hX.2.2.2.2.2.1, hb.2.2.1, hb.2.2.2.1, hb.2.2.2.2, hX.2.2.2.2.2.2.2.2.2⟩, rfl, rfl, (kp_f_X10_mark (F0 := X.1.2) rfl out e).2, (kp_f_X10_mark (F0 := X.1.2) rfl out e).1⟩
theorem sx_back {k1 : Int32} {X : XS} (hX : IX X) : ∃ r X', gX_back k1 X = some (r, X') ∧ IX X' ∧ X'.2.2.2.1 = X.2.2.2.1 ∧ X'.2.1 = X.2.1 ∧ X'.1.2 = X.1.2 ∧ ¬ X'.1.1 = 4 := by
  obtain ⟨out, e, hb⟩ := t_f_X10_back (k1 := k1) (x_x := X.1) (n_n := (X.2.2.2.2.2.2.1 (16 + ((k1)).toNatClampNeg % 3))) (n2_n := X.2.2.2.2.1) (h_h := X.2.2.2.2.2.1) hX.2.2.2.2.2.2.1 hX.2.2.2.2.2.2.2.1 hX.2.2.2.2.2.2.2.2.1
  have eg : gX_back k1 X = some (out.1, (out.2.1, X.2.1, X.2.2.1, X.2.2.2.1, out.2.2.1, out.2.2.2, X.2.2.2.2.2.2.1, X.2.2.2.2.2.2.2.1, X.2.2.2.2.2.2.2.2.1, X.2.2.2.2.2.2.2.2.2.1, X.2.2.2.2.2.2.2.2.2.2)) := by
    rw [gX_back, e]
    rfl
  exact ⟨_, _, eg, ⟨hX.1, hX.2.1, hX.2.2.1, hX.2.2.2.1, hX.2.2.2.2.1, hX.2.2.2.2.2.1, hb.2.2.1, hb.2.2.2.1, hb.2.2.2.2, hX.2.2.2.2.2.2.2.2.2⟩, rfl, rfl, (kp_f_X10_back (F0 := X.1.2) rfl out e).2.2, (kp_f_X10_back (F0 := X.1.2) rfl out e).2.1⟩
theorem sx_size {k1 : Int32} {X : XS} (hX : IX X) : ∃ r X', gX_size k1 X = some (r, X') ∧ IX X' ∧ X'.2.2.2.1 = X.2.2.2.1 ∧ X'.2.1 = X.2.1 ∧ X'.1 = X.1 ∧ X'.2.2.2.2.1 = X.2.2.2.2.1 ∧ X'.2.2.2.2.2.1 = X.2.2.2.2.2.1 ∧ X'.2.2.2.2.2.2.1 = X.2.2.2.2.2.2.1 := by
  have eg : gX_size k1 X = some ((f_X10_size k1 X.2.1 X.2.2.2.1 X.2.2.2.2.1 X.2.2.2.2.2.1), (X.1, X.2.1, X.2.2.1, X.2.2.2.1, X.2.2.2.2.1, X.2.2.2.2.2.1, X.2.2.2.2.2.2.1, X.2.2.2.2.2.2.2.1, X.2.2.2.2.2.2.2.2.1, X.2.2.2.2.2.2.2.2.2.1, X.2.2.2.2.2.2.2.2.2.2)) := rfl
  exact ⟨_, _, eg, ⟨hX.1, hX.2.1, hX.2.2.1, hX.2.2.2.1, hX.2.2.2.2.1, hX.2.2.2.2.2.1, hX.2.2.2.2.2.2.1, hX.2.2.2.2.2.2.2.1, hX.2.2.2.2.2.2.2.2.1, hX.2.2.2.2.2.2.2.2.2⟩, rfl, rfl, rfl, rfl, rfl, rfl⟩
theorem sx_trouble {X : XS} (hX : IX X) : ∃ r X', gX_trouble X = some (r, X') ∧ IX X' ∧ X'.2.2.2.1 = X.2.2.2.1 ∧ X'.2.1 = X.2.1 ∧ X'.1 = X.1 ∧ X'.2.2.2.2.1 = X.2.2.2.2.1 ∧ X'.2.2.2.2.2.1 = X.2.2.2.2.2.1 ∧ X'.2.2.2.2.2.2.1 = X.2.2.2.2.2.2.1 := by
  have eg : gX_trouble X = some ((f_X10_trouble X.1), (X.1, X.2.1, X.2.2.1, X.2.2.2.1, X.2.2.2.2.1, X.2.2.2.2.2.1, X.2.2.2.2.2.2.1, X.2.2.2.2.2.2.2.1, X.2.2.2.2.2.2.2.2.1, X.2.2.2.2.2.2.2.2.2.1, X.2.2.2.2.2.2.2.2.2.2)) := rfl
  exact ⟨_, _, eg, ⟨hX.1, hX.2.1, hX.2.2.1, hX.2.2.2.1, hX.2.2.2.2.1, hX.2.2.2.2.2.1, hX.2.2.2.2.2.2.1, hX.2.2.2.2.2.2.2.1, hX.2.2.2.2.2.2.2.2.1, hX.2.2.2.2.2.2.2.2.2⟩, rfl, rfl, rfl, rfl, rfl, rfl⟩
theorem sm_fault {M : MS} {o : Option TX11_q} (hM : IM M) (ho : IO o) : ∃ r M', gM_fault M o = some (r, M', o) ∧ IM M' ∧ M'.2.1 = M.2.1 ∧ M'.1.2.2 = M.1.2.2 ∧ M'.2.2.1 = M.2.2.1 ∧ M'.2.2.2.2.1 = M.2.2.2.2.1 := by
  have eg : gM_fault M o = some ((f_X12_fault M.1 M.2.1).1, ((f_X12_fault M.1 M.2.1).2, M.2.1, M.2.2.1, M.2.2.2.1, M.2.2.2.2.1, M.2.2.2.2.2.1, M.2.2.2.2.2.2.1, M.2.2.2.2.2.2.2), o) := rfl
  exact ⟨_, _, eg, ⟨hM.1, hM.2⟩, rfl, rfl, rfl, rfl⟩
theorem sm_where {M : MS} {o : Option TX11_q} (hM : IM M) (ho : IO o) : ∃ r M', gM_where M o = some (r, M', o) ∧ IM M' ∧ M'.2.1 = M.2.1 ∧ M'.1.2.2 = M.1.2.2 ∧ M'.2.2.1 = M.2.2.1 ∧ M'.2.2.2.2.1 = M.2.2.2.2.1 := by
  have eg : gM_where M o = some ((f_X12_where M.1).1, ((f_X12_where M.1).2, M.2.1, M.2.2.1, M.2.2.2.1, M.2.2.2.2.1, M.2.2.2.2.2.1, M.2.2.2.2.2.2.1, M.2.2.2.2.2.2.2), o) := rfl
  exact ⟨_, _, eg, ⟨hM.1, hM.2⟩, rfl, rfl, rfl, rfl⟩
theorem sm_answer {k1 : Int32} {k2 : Int32} {M : MS} {o : Option TX11_q} (hM : IM M) (ho : IO o) : ∃ r M', gM_answer k1 k2 M o = some (r, M', o) ∧ IM M' ∧ M'.2.1 = M.2.1 ∧ M'.1.2.2 = -1 ∧ M'.2.2.1 = M.2.2.1 ∧ M'.2.2.2.2.1 = M.2.2.2.2.1 := by
  cases o with
  | none =>
    have eg : gM_answer k1 k2 M none = some ((-1), ((f_X12_answer_nul k1 k2 M.1), M.2.1, M.2.2.1, M.2.2.2.1, M.2.2.2.2.1, M.2.2.2.2.2.1, M.2.2.2.2.2.2.1, M.2.2.2.2.2.2.2), none) := rfl
    exact ⟨_, _, eg, ⟨hM.1, hM.2⟩, rfl, rfl, rfl, rfl⟩
  | some q =>
    have hq : IQ q := ho
    obtain ⟨out, e, hb⟩ := t_f_X12_answer (k1 := k1) (k2 := k2) (m_t := M.1) (m_v := M.2.2.1) (q_q := q) hq.1 hq.2.1 hq.2.2.1 hq.2.2.2.1 hq.2.2.2.2.1 hq.2.2.2.2.2
    have eg : gM_answer k1 k2 M (some q) = some (out.1, (out.2, M.2.1, M.2.2.1, M.2.2.2.1, M.2.2.2.2.1, M.2.2.2.2.2.1, M.2.2.2.2.2.2.1, M.2.2.2.2.2.2.2), (some q)) := by
      rw [gM_answer, e]
      rfl
    exact ⟨_, _, eg, ⟨hM.1, hM.2⟩, rfl, r_m1 hb.2.2, rfl, rfl⟩
theorem sm_asker {k1 : Int32} {k2 : Int32} {M : MS} {o : Option TX11_q} (hM : IM M) (ho : IO o) : ∃ r M', gM_asker k1 k2 M o = some (r, M', o) ∧ IM M' ∧ M'.2.1 = M.2.1 ∧ M'.1.2.2 = -1 ∧ M'.2.2.1 = M.2.2.1 ∧ M'.2.2.2.2.1 = M.2.2.2.2.1 := by
  cases o with
  | none =>
    have eg : gM_asker k1 k2 M none = some ((-1), ((f_X12_asker_nul k1 k2 M.1), M.2.1, M.2.2.1, M.2.2.2.1, M.2.2.2.2.1, M.2.2.2.2.2.1, M.2.2.2.2.2.2.1, M.2.2.2.2.2.2.2), none) := rfl
    exact ⟨_, _, eg, ⟨hM.1, hM.2⟩, rfl, rfl, rfl, rfl⟩
  | some q =>
    have hq : IQ q := ho
    obtain ⟨out, e, hb⟩ := t_f_X12_asker (k1 := k1) (k2 := k2) (m_t := M.1) (m_v := M.2.2.1) (q_q := q) hq.1 hq.2.1 hq.2.2.1 hq.2.2.2.1 hq.2.2.2.2.1 hq.2.2.2.2.2
    have eg : gM_asker k1 k2 M (some q) = some (out.1, (out.2, M.2.1, M.2.2.1, M.2.2.2.1, M.2.2.2.2.1, M.2.2.2.2.2.1, M.2.2.2.2.2.2.1, M.2.2.2.2.2.2.2), (some q)) := by
      rw [gM_asker, e]
      rfl
    exact ⟨_, _, eg, ⟨hM.1, hM.2⟩, rfl, r_m1 hb.2.2, rfl, rfl⟩
theorem sm_close {k1 : Int32} {M : MS} {o : Option TX11_q} (hM : IM M) (ho : IO o) : ∃ r M', gM_close k1 M o = some (r, M', o) ∧ IM M' ∧ M'.2.1 = M.2.1 ∧ M'.1.2.2 = -1 ∧ M'.2.2.1 = M.2.2.1 ∧ M'.2.2.2.2.1 = M.2.2.2.2.1 := by
  cases o with
  | none =>
    have eg : gM_close k1 M none = some ((-1), ((f_X12_close_nul k1 M.1), M.2.1, M.2.2.1, M.2.2.2.1, M.2.2.2.2.1, M.2.2.2.2.2.1, M.2.2.2.2.2.2.1, M.2.2.2.2.2.2.2), none) := rfl
    exact ⟨_, _, eg, ⟨hM.1, hM.2⟩, rfl, rfl, rfl, rfl⟩
  | some q =>
    have hq : IQ q := ho
    have eg : gM_close k1 M (some q) = some ((f_X12_close k1 M.1 q).1, ((f_X12_close k1 M.1 q).2, M.2.1, M.2.2.1, M.2.2.2.1, M.2.2.2.2.1, M.2.2.2.2.2.1, M.2.2.2.2.2.2.1, M.2.2.2.2.2.2.2), (some q)) := rfl
    exact ⟨_, _, eg, ⟨hM.1, hM.2⟩, rfl, wh_close _ _ _, rfl, rfl⟩
theorem sm_wish {k1 : Int32} {k2 : Int32} {k3 : Int32} {k4 : Int32} {M : MS} {o : Option TX11_q} (hM : IM M) (ho : IO o) : ∃ r M', gM_wish k1 k2 k3 k4 M o = some (r, M', o) ∧ IM M' ∧ M'.2.1 = M.2.1 ∧ M'.1.2.2 = -1 ∧ M'.2.2.1 = M.2.2.1 ∧ M'.2.2.2.2.1 = M.2.2.2.2.1 := by
  cases o with
  | none =>
    have eg : gM_wish k1 k2 k3 k4 M none = some ((-1), ((f_X12_wish_nul k1 k2 k3 k4 M.1), M.2.1, M.2.2.1, M.2.2.2.1, M.2.2.2.2.1, M.2.2.2.2.2.1, M.2.2.2.2.2.2.1, M.2.2.2.2.2.2.2), none) := rfl
    exact ⟨_, _, eg, ⟨hM.1, hM.2⟩, rfl, rfl, rfl, rfl⟩
  | some q =>
    have hq : IQ q := ho
    obtain ⟨out, e, hb⟩ := t_f_X12_wish (k1 := k1) (k2 := k2) (k3 := k3) (k4 := k4) (m_t := M.1) (q_q := q) hq.1 hq.2.1 hq.2.2.1 hq.2.2.2.1 hq.2.2.2.2.1 hq.2.2.2.2.2
    have eg : gM_wish k1 k2 k3 k4 M (some q) = some (out.1, (out.2, M.2.1, M.2.2.1, M.2.2.2.1, M.2.2.2.2.1, M.2.2.2.2.2.1, M.2.2.2.2.2.2.1, M.2.2.2.2.2.2.2), (some q)) := by
      rw [gM_wish, e]
      rfl
    exact ⟨_, _, eg, ⟨hM.1, hM.2⟩, rfl, r_m1 hb.2.2.2, rfl, rfl⟩
theorem sm_takes {k1 : Int32} {k2 : Int32} {k3 : Int32} {k4 : Int32} {k5 : Int32} {M : MS} {o : Option TX11_q} (hM : IM M) (ho : IO o) : ∃ r M', gM_takes k1 k2 k3 k4 k5 M o = some (r, M', o) ∧ IM M' ∧ M'.2.1 = M.2.1 ∧ M'.1.2.2 = -1 ∧ M'.2.2.1 = M.2.2.1 ∧ M'.2.2.2.2.1 = M.2.2.2.2.1 := by
  cases o with
  | none =>
    have eg : gM_takes k1 k2 k3 k4 k5 M none = some ((-1), ((f_X12_takes_nul k1 k2 k3 k4 k5 M.1), M.2.1, M.2.2.1, M.2.2.2.1, M.2.2.2.2.1, M.2.2.2.2.2.1, M.2.2.2.2.2.2.1, M.2.2.2.2.2.2.2), none) := rfl
    exact ⟨_, _, eg, ⟨hM.1, hM.2⟩, rfl, rfl, rfl, rfl⟩
  | some q =>
    have hq : IQ q := ho
    obtain ⟨out, e, hb⟩ := t_f_X12_takes (k1 := k1) (k2 := k2) (k3 := k3) (k4 := k4) (k5 := k5) (m_t := M.1) (m_v := M.2.2.1) (q_q := q) hq.1 hq.2.1 hq.2.2.1 hq.2.2.2.1 hq.2.2.2.2.1 hq.2.2.2.2.2
    have eg : gM_takes k1 k2 k3 k4 k5 M (some q) = some (out.1, (out.2, M.2.1, M.2.2.1, M.2.2.2.1, M.2.2.2.2.1, M.2.2.2.2.2.1, M.2.2.2.2.2.2.1, M.2.2.2.2.2.2.2), (some q)) := by
      rw [gM_takes, e]
      rfl
    exact ⟨_, _, eg, ⟨hM.1, hM.2⟩, rfl, r_m1 hb.2.2, rfl, rfl⟩
theorem sm_nothing {k1 : Int32} {k2 : Int32} {k3 : Int32} {k4 : Int32} {M : MS} {o : Option TX11_q} (hM : IM M) (ho : IO o) : ∃ r M', gM_nothing k1 k2 k3 k4 M o = some (r, M', o) ∧ IM M' ∧ M'.2.1 = M.2.1 ∧ M'.1.2.2 = -1 ∧ M'.2.2.1 = M.2.2.1 ∧ M'.2.2.2.2.1 = M.2.2.2.2.1 := by
  cases o with
  | none =>
    have eg : gM_nothing k1 k2 k3 k4 M none = some ((-1), ((f_X12_nothing_nul k1 k2 k3 k4 M.1), M.2.1, M.2.2.1, M.2.2.2.1, M.2.2.2.2.1, M.2.2.2.2.2.1, M.2.2.2.2.2.2.1, M.2.2.2.2.2.2.2), none) := rfl
    exact ⟨_, _, eg, ⟨hM.1, hM.2⟩, rfl, rfl, rfl, rfl⟩
  | some q =>
    have hq : IQ q := ho
    obtain ⟨out, e, hb⟩ := t_f_X12_nothing (k1 := k1) (k2 := k2) (k3 := k3) (k4 := k4) (m_t := M.1) (m_v := M.2.2.1) (q_q := q) hq.1 hq.2.1 hq.2.2.1 hq.2.2.2.1 hq.2.2.2.2.1 hq.2.2.2.2.2
    have eg : gM_nothing k1 k2 k3 k4 M (some q) = some (out.1, (out.2, M.2.1, M.2.2.1, M.2.2.2.1, M.2.2.2.2.1, M.2.2.2.2.2.1, M.2.2.2.2.2.2.1, M.2.2.2.2.2.2.2), (some q)) := by
      rw [gM_nothing, e]
      rfl
    exact ⟨_, _, eg, ⟨hM.1, hM.2⟩, rfl, r_m1 hb.2.2, rfl, rfl⟩
theorem sm_mean {k1 : Int32} {k2 : Int32} {k3 : Int32} {k4 : Int32} {M : MS} {o : Option TX11_q} (hM : IM M) (ho : IO o) : ∃ r M', gM_mean k1 k2 k3 k4 M o = some (r, M', o) ∧ IM M' ∧ M'.2.1 = M.2.1 ∧ M'.1.2.2 = -1 ∧ M'.2.2.1 = M.2.2.1 ∧ M'.2.2.2.2.1 = M.2.2.2.2.1 := by
  cases o with
  | none =>
    have eg : gM_mean k1 k2 k3 k4 M none = some ((-1), ((f_X12_mean_nul k1 k2 k3 k4 M.1), M.2.1, M.2.2.1, M.2.2.2.1, M.2.2.2.2.1, M.2.2.2.2.2.1, M.2.2.2.2.2.2.1, M.2.2.2.2.2.2.2), none) := rfl
    exact ⟨_, _, eg, ⟨hM.1, hM.2⟩, rfl, rfl, rfl, rfl⟩
  | some q =>
    have hq : IQ q := ho
    obtain ⟨out, e, hb⟩ := t_f_X12_mean (k1 := k1) (k2 := k2) (k3 := k3) (k4 := k4) (m_t := M.1) (m_v := M.2.2.1) (q_q := q) hq.1 hq.2.1 hq.2.2.1 hq.2.2.2.1 hq.2.2.2.2.1 hq.2.2.2.2.2
    have eg : gM_mean k1 k2 k3 k4 M (some q) = some (out.1, (out.2, M.2.1, M.2.2.1, M.2.2.2.1, M.2.2.2.2.1, M.2.2.2.2.2.1, M.2.2.2.2.2.2.1, M.2.2.2.2.2.2.2), (some q)) := by
      rw [gM_mean, e]
      rfl
    exact ⟨_, _, eg, ⟨hM.1, hM.2⟩, rfl, r_m1 hb.2.2, rfl, rfl⟩
theorem sm_likeliest {k1 : Int32} {k2 : Int32} {k3 : Int32} {M : MS} {o : Option TX11_q} (hM : IM M) (ho : IO o) : ∃ r M', gM_likeliest k1 k2 k3 M o = some (r, M', o) ∧ IM M' ∧ M'.2.1 = M.2.1 ∧ M'.1.2.2 = -1 ∧ M'.2.2.1 = M.2.2.1 ∧ M'.2.2.2.2.1 = M.2.2.2.2.1 := by
  cases o with
  | none =>
    have eg : gM_likeliest k1 k2 k3 M none = some ((-1), ((f_X12_likeliest_nul k1 k2 k3 M.1), M.2.1, M.2.2.1, M.2.2.2.1, M.2.2.2.2.1, M.2.2.2.2.2.1, M.2.2.2.2.2.2.1, M.2.2.2.2.2.2.2), none) := rfl
    exact ⟨_, _, eg, ⟨hM.1, hM.2⟩, rfl, rfl, rfl, rfl⟩
  | some q =>
    have hq : IQ q := ho
    obtain ⟨out, e, hb⟩ := t_f_X12_likeliest (k1 := k1) (k2 := k2) (k3 := k3) (m_t := M.1) (m_v := M.2.2.1) (q_q := q) hq.1 hq.2.1 hq.2.2.1 hq.2.2.2.1 hq.2.2.2.2.1 hq.2.2.2.2.2
    have eg : gM_likeliest k1 k2 k3 M (some q) = some (out.1, (out.2, M.2.1, M.2.2.1, M.2.2.2.1, M.2.2.2.2.1, M.2.2.2.2.2.1, M.2.2.2.2.2.2.1, M.2.2.2.2.2.2.2), (some q)) := by
      rw [gM_likeliest, e]
      rfl
    exact ⟨_, _, eg, ⟨hM.1, hM.2⟩, rfl, r_m1 hb.2.2.2, rfl, rfl⟩
theorem sm_surest {k1 : Int32} {M : MS} {o : Option TX11_q} (hM : IM M) (ho : IO o) : ∃ r M', gM_surest k1 M o = some (r, M', o) ∧ IM M' ∧ M'.2.1 = M.2.1 ∧ M'.1.2.2 = -1 ∧ M'.2.2.1 = M.2.2.1 ∧ M'.2.2.2.2.1 = M.2.2.2.2.1 := by
  cases o with
  | none =>
    have eg : gM_surest k1 M none = some ((-1), ((f_X12_surest_nul k1 M.1), M.2.1, M.2.2.1, M.2.2.2.1, M.2.2.2.2.1, M.2.2.2.2.2.1, M.2.2.2.2.2.2.1, M.2.2.2.2.2.2.2), none) := rfl
    exact ⟨_, _, eg, ⟨hM.1, hM.2⟩, rfl, rfl, rfl, rfl⟩
  | some q =>
    have hq : IQ q := ho
    obtain ⟨out, e, hb⟩ := t_f_X12_surest (k1 := k1) (m_t := M.1) (m_v := M.2.2.1) (q_q := q) hq.1 hq.2.1 hq.2.2.1 hq.2.2.2.1 hq.2.2.2.2.1 hq.2.2.2.2.2
    have eg : gM_surest k1 M (some q) = some (out.1, (out.2, M.2.1, M.2.2.1, M.2.2.2.1, M.2.2.2.2.1, M.2.2.2.2.2.1, M.2.2.2.2.2.2.1, M.2.2.2.2.2.2.2), (some q)) := by
      rw [gM_surest, e]
      rfl
    exact ⟨_, _, eg, ⟨hM.1, hM.2⟩, rfl, r_m1 hb.2.2, rfl, rfl⟩
theorem sm_surestOdds {k1 : Int32} {k2 : Int32} {M : MS} {o : Option TX11_q} (hM : IM M) (ho : IO o) : ∃ r M', gM_surestOdds k1 k2 M o = some (r, M', o) ∧ IM M' ∧ M'.2.1 = M.2.1 ∧ M'.1.2.2 = -1 ∧ M'.2.2.1 = M.2.2.1 ∧ M'.2.2.2.2.1 = M.2.2.2.2.1 := by
  cases o with
  | none =>
    have eg : gM_surestOdds k1 k2 M none = some ((-1), ((f_X12_surestOdds_nul k1 k2 M.1), M.2.1, M.2.2.1, M.2.2.2.1, M.2.2.2.2.1, M.2.2.2.2.2.1, M.2.2.2.2.2.2.1, M.2.2.2.2.2.2.2), none) := rfl
    exact ⟨_, _, eg, ⟨hM.1, hM.2⟩, rfl, rfl, rfl, rfl⟩
  | some q =>
    have hq : IQ q := ho
    obtain ⟨out, e, hb⟩ := t_f_X12_surestOdds (k1 := k1) (k2 := k2) (m_t := M.1) (m_v := M.2.2.1) (q_q := q) hq.1 hq.2.1 hq.2.2.1 hq.2.2.2.1 hq.2.2.2.2.1 hq.2.2.2.2.2
    have eg : gM_surestOdds k1 k2 M (some q) = some (out.1, (out.2, M.2.1, M.2.2.1, M.2.2.2.1, M.2.2.2.2.1, M.2.2.2.2.2.1, M.2.2.2.2.2.2.1, M.2.2.2.2.2.2.2), (some q)) := by
      rw [gM_surestOdds, e]
      rfl
    exact ⟨_, _, eg, ⟨hM.1, hM.2⟩, rfl, r_m1 hb.2.2, rfl, rfl⟩
theorem sm_best {M : MS} {o : Option TX11_q} (hM : IM M) (ho : IO o) : ∃ r M', gM_best M o = some (r, M', o) ∧ IM M' ∧ M'.2.1 = M.2.1 ∧ M'.1.2.2 = -1 ∧ M'.2.2.1 = M.2.2.1 ∧ M'.2.2.2.2.1 = M.2.2.2.2.1 := by
  cases o with
  | none =>
    have eg : gM_best M none = some ((-1), ((f_X12_best_nul M.1), M.2.1, M.2.2.1, M.2.2.2.1, M.2.2.2.2.1, M.2.2.2.2.2.1, M.2.2.2.2.2.2.1, M.2.2.2.2.2.2.2), none) := rfl
    exact ⟨_, _, eg, ⟨hM.1, hM.2⟩, rfl, rfl, rfl, rfl⟩
  | some q =>
    have hq : IQ q := ho
    obtain ⟨out, e, hb⟩ := t_f_X12_best (m_t := M.1) (m_v := M.2.2.1) (q_q := q) hq.1 hq.2.1 hq.2.2.1 hq.2.2.2.1 hq.2.2.2.2.1 hq.2.2.2.2.2
    have eg : gM_best M (some q) = some (out.1, (out.2, M.2.1, M.2.2.1, M.2.2.2.1, M.2.2.2.2.1, M.2.2.2.2.2.1, M.2.2.2.2.2.2.1, M.2.2.2.2.2.2.2), (some q)) := by
      rw [gM_best, e]
      rfl
    exact ⟨_, _, eg, ⟨hM.1, hM.2⟩, rfl, r_m1 hb.2.2, rfl, rfl⟩
theorem sm_bestBait {M : MS} {o : Option TX11_q} (hM : IM M) (ho : IO o) : ∃ r M', gM_bestBait M o = some (r, M', o) ∧ IM M' ∧ M'.2.1 = M.2.1 ∧ M'.1.2.2 = -1 ∧ M'.2.2.1 = M.2.2.1 ∧ M'.2.2.2.2.1 = M.2.2.2.2.1 := by
  cases o with
  | none =>
    have eg : gM_bestBait M none = some ((-1), ((f_X12_bestBait_nul M.1), M.2.1, M.2.2.1, M.2.2.2.1, M.2.2.2.2.1, M.2.2.2.2.2.1, M.2.2.2.2.2.2.1, M.2.2.2.2.2.2.2), none) := rfl
    exact ⟨_, _, eg, ⟨hM.1, hM.2⟩, rfl, rfl, rfl, rfl⟩
  | some q =>
    have hq : IQ q := ho
    obtain ⟨out, e, hb⟩ := t_f_X12_bestBait (m_t := M.1) (m_v := M.2.2.1) (q_q := q) hq.1 hq.2.1 hq.2.2.1 hq.2.2.2.1 hq.2.2.2.2.1 hq.2.2.2.2.2
    have eg : gM_bestBait M (some q) = some (out.1, (out.2, M.2.1, M.2.2.1, M.2.2.2.1, M.2.2.2.2.1, M.2.2.2.2.2.1, M.2.2.2.2.2.2.1, M.2.2.2.2.2.2.2), (some q)) := by
      rw [gM_bestBait, e]
      rfl
    exact ⟨_, _, eg, ⟨hM.1, hM.2⟩, rfl, r_m1 hb.2.2.2, rfl, rfl⟩
theorem sm_hungerFor {k1 : Int32} {k2 : Int32} {k3 : Int32} {k4 : Int32} {M : MS} {o : Option TX11_q} (hM : IM M) (ho : IO o) : ∃ r M', gM_hungerFor k1 k2 k3 k4 M o = some (r, M', o) ∧ IM M' ∧ M'.2.1 = M.2.1 ∧ M'.1.2.2 = -1 ∧ M'.2.2.1 = M.2.2.1 ∧ M'.2.2.2.2.1 = M.2.2.2.2.1 := by
  cases o with
  | none =>
    have eg : gM_hungerFor k1 k2 k3 k4 M none = some ((-1), ((f_X12_hungerFor_nul k1 k2 k3 k4 M.1), M.2.1, M.2.2.1, M.2.2.2.1, M.2.2.2.2.1, M.2.2.2.2.2.1, M.2.2.2.2.2.2.1, M.2.2.2.2.2.2.2), none) := rfl
    exact ⟨_, _, eg, ⟨hM.1, hM.2⟩, rfl, rfl, rfl, rfl⟩
  | some q =>
    have hq : IQ q := ho
    obtain ⟨out, e, hb⟩ := t_f_X12_hungerFor (k1 := k1) (k2 := k2) (k3 := k3) (k4 := k4) (m_t := M.1) (q_q := q) hq.1 hq.2.1 hq.2.2.1 hq.2.2.2.1 hq.2.2.2.2.1 hq.2.2.2.2.2
    have eg : gM_hungerFor k1 k2 k3 k4 M (some q) = some (out.1, (out.2, M.2.1, M.2.2.1, M.2.2.2.1, M.2.2.2.2.1, M.2.2.2.2.2.1, M.2.2.2.2.2.2.1, M.2.2.2.2.2.2.2), (some q)) := by
      rw [gM_hungerFor, e]
      rfl
    exact ⟨_, _, eg, ⟨hM.1, hM.2⟩, rfl, r_m1 hb.2.2.2, rfl, rfl⟩
theorem sm_freeSpots {k1 : Int32} {M : MS} {o : Option TX11_q} (hM : IM M) (ho : IO o) : ∃ r M', gM_freeSpots k1 M o = some (r, M', o) ∧ IM M' ∧ M'.2.1 = M.2.1 ∧ M'.1.2.2 = -1 ∧ M'.2.2.1 = M.2.2.1 ∧ M'.2.2.2.2.1 = M.2.2.2.2.1 := by
  cases o with
  | none =>
    have eg : gM_freeSpots k1 M none = some ((-1), ((f_X12_freeSpots_nul k1 M.1), M.2.1, M.2.2.1, M.2.2.2.1, M.2.2.2.2.1, M.2.2.2.2.2.1, M.2.2.2.2.2.2.1, M.2.2.2.2.2.2.2), none) := rfl
    exact ⟨_, _, eg, ⟨hM.1, hM.2⟩, rfl, rfl, rfl, rfl⟩
  | some q =>
    have hq : IQ q := ho
    obtain ⟨out, e, hb⟩ := t_f_X12_freeSpots (k1 := k1) (m_t := M.1) (m_v := M.2.2.1) (q_q := q) hq.1 hq.2.1 hq.2.2.1 hq.2.2.2.1 hq.2.2.2.2.1 hq.2.2.2.2.2
    have eg : gM_freeSpots k1 M (some q) = some (out.1, (out.2, M.2.1, M.2.2.1, M.2.2.2.1, M.2.2.2.2.1, M.2.2.2.2.2.1, M.2.2.2.2.2.2.1, M.2.2.2.2.2.2.2), (some q)) := by
      rw [gM_freeSpots, e]
      rfl
    exact ⟨_, _, eg, ⟨hM.1, hM.2⟩, rfl, r_m1 hb.2.2.2, rfl, rfl⟩
theorem sm_tangles {k1 : Int32} {k2 : Int32} {k3 : Int32} {k4 : Int32} {M : MS} {o : Option TX11_q} (hM : IM M) (ho : IO o) : ∃ r M', gM_tangles k1 k2 k3 k4 M o = some (r, M', o) ∧ IM M' ∧ M'.2.1 = M.2.1 ∧ M'.1.2.2 = -1 ∧ M'.2.2.1 = M.2.2.1 ∧ M'.2.2.2.2.1 = M.2.2.2.2.1 := by
  cases o with
  | none =>
    have eg : gM_tangles k1 k2 k3 k4 M none = some ((-1), ((f_X12_tangles_nul k1 k2 k3 k4 M.1), M.2.1, M.2.2.1, M.2.2.2.1, M.2.2.2.2.1, M.2.2.2.2.2.1, M.2.2.2.2.2.2.1, M.2.2.2.2.2.2.2), none) := rfl
    exact ⟨_, _, eg, ⟨hM.1, hM.2⟩, rfl, rfl, rfl, rfl⟩
  | some q =>
    have hq : IQ q := ho
    obtain ⟨out, e, hb⟩ := t_f_X12_tangles (k1 := k1) (k2 := k2) (k3 := k3) (k4 := k4) (m_t := M.1) (q_q := q) hq.1 hq.2.1 hq.2.2.1 hq.2.2.2.1 hq.2.2.2.2.1 hq.2.2.2.2.2
    have eg : gM_tangles k1 k2 k3 k4 M (some q) = some (out.1, (out.2, M.2.1, M.2.2.1, M.2.2.2.1, M.2.2.2.2.1, M.2.2.2.2.2.1, M.2.2.2.2.2.2.1, M.2.2.2.2.2.2.2), (some q)) := by
      rw [gM_tangles, e]
      rfl
    exact ⟨_, _, eg, ⟨hM.1, hM.2⟩, rfl, r_m1 hb.2.2.2, rfl, rfl⟩
theorem sm_seatings {M : MS} {o : Option TX11_q} (hM : IM M) (ho : IO o) : ∃ r M', gM_seatings M o = some (r, M', o) ∧ IM M' ∧ M'.2.1 = M.2.1 ∧ M'.1.2.2 = -1 ∧ M'.2.2.1 = M.2.2.1 ∧ M'.2.2.2.2.1 = M.2.2.2.2.1 := by
  cases o with
  | none =>
    have eg : gM_seatings M none = some ((-1), ((f_X12_seatings_nul M.1), M.2.1, M.2.2.1, M.2.2.2.1, M.2.2.2.2.1, M.2.2.2.2.2.1, M.2.2.2.2.2.2.1, M.2.2.2.2.2.2.2), none) := rfl
    exact ⟨_, _, eg, ⟨hM.1, hM.2⟩, rfl, rfl, rfl, rfl⟩
  | some q =>
    have hq : IQ q := ho
    obtain ⟨out, e, hb⟩ := t_f_X12_seatings (m_t := M.1) (m_z := M.2.2.2.2.2.1) (q_q := q) hq.1 hq.2.1 hq.2.2.1 hq.2.2.2.1 hq.2.2.2.2.1 hq.2.2.2.2.2
    have eg : gM_seatings M (some q) = some (out.1, (out.2.1, M.2.1, M.2.2.1, M.2.2.2.1, M.2.2.2.2.1, out.2.2, M.2.2.2.2.2.2.1, M.2.2.2.2.2.2.2), (some q)) := by
      rw [gM_seatings, e]
      rfl
    exact ⟨_, _, eg, ⟨hM.1, hM.2⟩, rfl, r_m1 hb.2.2, rfl, rfl⟩
theorem sm_seat {k1 : Int32} {M : MS} {o : Option TX11_q} (hM : IM M) (ho : IO o) : ∃ r M', gM_seat k1 M o = some (r, M', o) ∧ IM M' ∧ M'.2.1 = M.2.1 ∧ M'.1.2.2 = -1 ∧ M'.2.2.1 = M.2.2.1 ∧ M'.2.2.2.2.1 = M.2.2.2.2.1 := by
  cases o with
  | none =>
    have eg : gM_seat k1 M none = some ((-1), ((f_X12_seat_nul k1 M.1), M.2.1, M.2.2.1, M.2.2.2.1, M.2.2.2.2.1, M.2.2.2.2.2.1, M.2.2.2.2.2.2.1, M.2.2.2.2.2.2.2), none) := rfl
    exact ⟨_, _, eg, ⟨hM.1, hM.2⟩, rfl, rfl, rfl, rfl⟩
  | some q =>
    have hq : IQ q := ho
    obtain ⟨out, e, hb⟩ := t_f_X12_seat (k1 := k1) (m_t := M.1) (m_z := M.2.2.2.2.2.1) (q_q := q) hq.1 hq.2.1 hq.2.2.1 hq.2.2.2.1 hq.2.2.2.2.1 hq.2.2.2.2.2
    have eg : gM_seat k1 M (some q) = some (out.1, (out.2.1, M.2.1, M.2.2.1, M.2.2.2.1, M.2.2.2.2.1, out.2.2, M.2.2.2.2.2.2.1, M.2.2.2.2.2.2.2), (some q)) := by
      rw [gM_seat, e]
      rfl
    exact ⟨_, _, eg, ⟨hM.1, hM.2⟩, rfl, r_m1 hb.2.2, rfl, rfl⟩
theorem sm_mostSeated {M : MS} {o : Option TX11_q} (hM : IM M) (ho : IO o) : ∃ r M', gM_mostSeated M o = some (r, M', o) ∧ IM M' ∧ M'.2.1 = M.2.1 ∧ M'.1.2.2 = -1 ∧ M'.2.2.1 = M.2.2.1 ∧ M'.2.2.2.2.1 = M.2.2.2.2.1 := by
  cases o with
  | none =>
    have eg : gM_mostSeated M none = some ((-1), ((f_X12_mostSeated_nul M.1), M.2.1, M.2.2.1, M.2.2.2.1, M.2.2.2.2.1, M.2.2.2.2.2.1, M.2.2.2.2.2.2.1, M.2.2.2.2.2.2.2), none) := rfl
    exact ⟨_, _, eg, ⟨hM.1, hM.2⟩, rfl, rfl, rfl, rfl⟩
  | some q =>
    have hq : IQ q := ho
    obtain ⟨out, e, hb⟩ := t_f_X12_mostSeated (m_t := M.1) (m_z := M.2.2.2.2.2.1) (q_q := q) hq.1 hq.2.1 hq.2.2.1 hq.2.2.2.1 hq.2.2.2.2.1 hq.2.2.2.2.2
    have eg : gM_mostSeated M (some q) = some (out.1, (out.2.1, M.2.1, M.2.2.1, M.2.2.2.1, M.2.2.2.2.1, out.2.2, M.2.2.2.2.2.2.1, M.2.2.2.2.2.2.2), (some q)) := by
      rw [gM_mostSeated, e]
      rfl
    exact ⟨_, _, eg, ⟨hM.1, hM.2⟩, rfl, r_m1 hb.2.2.2, rfl, rfl⟩
theorem sm_darks {M : MS} {o : Option TX11_q} (hM : IM M) (ho : IO o) : ∃ r M', gM_darks M o = some (r, M', o) ∧ IM M' ∧ M'.2.1 = M.2.1 ∧ M'.1.2.2 = -1 ∧ M'.2.2.1 = M.2.2.1 ∧ M'.2.2.2.2.1 = M.2.2.2.2.1 := by
  cases o with
  | none =>
    have eg : gM_darks M none = some ((-1), ((f_X12_darks_nul M.1), M.2.1, M.2.2.1, M.2.2.2.1, M.2.2.2.2.1, M.2.2.2.2.2.1, M.2.2.2.2.2.2.1, M.2.2.2.2.2.2.2), none) := rfl
    exact ⟨_, _, eg, ⟨hM.1, hM.2⟩, rfl, rfl, rfl, rfl⟩
  | some q =>
    have hq : IQ q := ho
    obtain ⟨out, e, hb⟩ := t_f_X12_darks (m_t := M.1) (q_q := q) hq.1 hq.2.1 hq.2.2.1 hq.2.2.2.1 hq.2.2.2.2.1 hq.2.2.2.2.2
    have eg : gM_darks M (some q) = some (out.1, (out.2, M.2.1, M.2.2.1, M.2.2.2.1, M.2.2.2.2.1, M.2.2.2.2.2.1, M.2.2.2.2.2.2.1, M.2.2.2.2.2.2.2), (some q)) := by
      rw [gM_darks, e]
      rfl
    exact ⟨_, _, eg, ⟨hM.1, hM.2⟩, rfl, r_m1 hb.2.2, rfl, rfl⟩
theorem sm_darkAt {k1 : Int32} {M : MS} {o : Option TX11_q} (hM : IM M) (ho : IO o) : ∃ r M', gM_darkAt k1 M o = some (r, M', o) ∧ IM M' ∧ M'.2.1 = M.2.1 ∧ M'.1.2.2 = -1 ∧ M'.2.2.1 = M.2.2.1 ∧ M'.2.2.2.2.1 = M.2.2.2.2.1 := by
  cases o with
  | none =>
    have eg : gM_darkAt k1 M none = some ((-1), ((f_X12_darkAt_nul k1 M.1), M.2.1, M.2.2.1, M.2.2.2.1, M.2.2.2.2.1, M.2.2.2.2.2.1, M.2.2.2.2.2.2.1, M.2.2.2.2.2.2.2), none) := rfl
    exact ⟨_, _, eg, ⟨hM.1, hM.2⟩, rfl, rfl, rfl, rfl⟩
  | some q =>
    have hq : IQ q := ho
    obtain ⟨out, e, hb⟩ := t_f_X12_darkAt (k1 := k1) (m_t := M.1) (q_q := q) hq.1 hq.2.1 hq.2.2.1 hq.2.2.2.1 hq.2.2.2.2.1 hq.2.2.2.2.2
    have eg : gM_darkAt k1 M (some q) = some (out.1, (out.2, M.2.1, M.2.2.1, M.2.2.2.1, M.2.2.2.2.1, M.2.2.2.2.2.1, M.2.2.2.2.2.2.1, M.2.2.2.2.2.2.2), (some q)) := by
      rw [gM_darkAt, e]
      rfl
    exact ⟨_, _, eg, ⟨hM.1, hM.2⟩, rfl, r_m1 hb.2.2, rfl, rfl⟩
theorem sm_darkSpots {M : MS} {o : Option TX11_q} (hM : IM M) (ho : IO o) : ∃ r M', gM_darkSpots M o = some (r, M', o) ∧ IM M' ∧ M'.2.1 = M.2.1 ∧ M'.1.2.2 = -1 ∧ M'.2.2.1 = M.2.2.1 ∧ M'.2.2.2.2.1 = M.2.2.2.2.1 := by
  cases o with
  | none =>
    have eg : gM_darkSpots M none = some ((-1), ((f_X12_darkSpots_nul M.1), M.2.1, M.2.2.1, M.2.2.2.1, M.2.2.2.2.1, M.2.2.2.2.2.1, M.2.2.2.2.2.2.1, M.2.2.2.2.2.2.2), none) := rfl
    exact ⟨_, _, eg, ⟨hM.1, hM.2⟩, rfl, rfl, rfl, rfl⟩
  | some q =>
    have hq : IQ q := ho
    obtain ⟨out, e, hb⟩ := t_f_X12_darkSpots (m_t := M.1) (q_q := q) hq.1 hq.2.1 hq.2.2.1 hq.2.2.2.1 hq.2.2.2.2.1 hq.2.2.2.2.2
    have eg : gM_darkSpots M (some q) = some (out.1, (out.2, M.2.1, M.2.2.1, M.2.2.2.1, M.2.2.2.2.1, M.2.2.2.2.2.1, M.2.2.2.2.2.2.1, M.2.2.2.2.2.2.2), (some q)) := by
      rw [gM_darkSpots, e]
      rfl
    exact ⟨_, _, eg, ⟨hM.1, hM.2⟩, rfl, r_m1 hb.2.2, rfl, rfl⟩
theorem sm_ask {M : MS} {o : Option TX11_q} (hM : IM M) (ho : IO o) : ∃ r M', gM_ask M o = some (r, M', o) ∧ IM M' ∧ M'.2.1 = M.2.1 ∧ M'.1.2.2 = -1 ∧ M'.2.2.1 = M.2.2.1 ∧ M'.2.2.2.2.1 = M.2.2.2.2.1 := by
  cases o with
  | none =>
    have eg : gM_ask M none = some ((-1), ((f_X12_ask_nul M.1), M.2.1, M.2.2.1, M.2.2.2.1, M.2.2.2.2.1, M.2.2.2.2.2.1, M.2.2.2.2.2.2.1, M.2.2.2.2.2.2.2), none) := rfl
    exact ⟨_, _, eg, ⟨hM.1, hM.2⟩, rfl, rfl, rfl, rfl⟩
  | some q =>
    have hq : IQ q := ho
    obtain ⟨out, e, hb⟩ := t_f_X12_ask (m_t := M.1) (m_k := M.2.2.2.2.2.2.1) (q_q := q) hq.1 hq.2.1 hq.2.2.1 hq.2.2.2.1 hq.2.2.2.2.1 hq.2.2.2.2.2
    have eg : gM_ask M (some q) = some (out.1, (out.2.1, M.2.1, M.2.2.1, M.2.2.2.1, M.2.2.2.2.1, M.2.2.2.2.2.1, out.2.2, M.2.2.2.2.2.2.2), (some q)) := by
      rw [gM_ask, e]
      rfl
    exact ⟨_, _, eg, ⟨hM.1, hM.2⟩, rfl, r_m1 hb.2.2, rfl, rfl⟩
theorem sm_askLeaves {M : MS} {o : Option TX11_q} (hM : IM M) (ho : IO o) : ∃ r M', gM_askLeaves M o = some (r, M', o) ∧ IM M' ∧ M'.2.1 = M.2.1 ∧ M'.1.2.2 = -1 ∧ M'.2.2.1 = M.2.2.1 ∧ M'.2.2.2.2.1 = M.2.2.2.2.1 := by
  cases o with
  | none =>
    have eg : gM_askLeaves M none = some ((-1), ((f_X12_askLeaves_nul M.1), M.2.1, M.2.2.1, M.2.2.2.1, M.2.2.2.2.1, M.2.2.2.2.2.1, M.2.2.2.2.2.2.1, M.2.2.2.2.2.2.2), none) := rfl
    exact ⟨_, _, eg, ⟨hM.1, hM.2⟩, rfl, rfl, rfl, rfl⟩
  | some q =>
    have hq : IQ q := ho
    obtain ⟨out, e, hb⟩ := t_f_X12_askLeaves (m_t := M.1) (m_k := M.2.2.2.2.2.2.1) (q_q := q) hq.1 hq.2.1 hq.2.2.1 hq.2.2.2.1 hq.2.2.2.2.1 hq.2.2.2.2.2
    have eg : gM_askLeaves M (some q) = some (out.1, (out.2.1, M.2.1, M.2.2.1, M.2.2.2.1, M.2.2.2.2.1, M.2.2.2.2.2.1, out.2.2, M.2.2.2.2.2.2.2), (some q)) := by
      rw [gM_askLeaves, e]
      rfl
    exact ⟨_, _, eg, ⟨hM.1, hM.2⟩, rfl, r_m1 hb.2.2, rfl, rfl⟩
theorem sm_judge {k1 : Int32} {M : MS} {o : Option TX11_q} (hM : IM M) (ho : IO o) : ∃ r M', gM_judge k1 M o = some (r, M', o) ∧ IM M' ∧ M'.2.1 = M.2.1 ∧ M'.1.2.2 = -1 ∧ M'.2.2.1 = M.2.2.1 ∧ M'.2.2.2.2.1 = M.2.2.2.2.1 := by
  cases o with
  | none =>
    have eg : gM_judge k1 M none = some ((-1), ((f_X12_judge_nul k1 M.1), M.2.1, M.2.2.1, M.2.2.2.1, M.2.2.2.2.1, M.2.2.2.2.2.1, M.2.2.2.2.2.2.1, M.2.2.2.2.2.2.2), none) := rfl
    exact ⟨_, _, eg, ⟨hM.1, hM.2⟩, rfl, rfl, rfl, rfl⟩
  | some q =>
    have hq : IQ q := ho
    obtain ⟨out, e, hb⟩ := t_f_X12_judge (k1 := k1) (m_t := M.1) (q_q := q) hq.1 hq.2.1 hq.2.2.1 hq.2.2.2.1 hq.2.2.2.2.1 hq.2.2.2.2.2
    have eg : gM_judge k1 M (some q) = some (out.1, (out.2, M.2.1, M.2.2.1, M.2.2.2.1, M.2.2.2.2.1, M.2.2.2.2.2.1, M.2.2.2.2.2.2.1, M.2.2.2.2.2.2.2), (some q)) := by
      rw [gM_judge, e]
      rfl
    exact ⟨_, _, eg, ⟨hM.1, hM.2⟩, rfl, r_m1 hb.2.2.2, rfl, rfl⟩
theorem sm_worth {k1 : Int32} {k2 : Int32} {k3 : Int32} {M : MS} {o : Option TX11_q} (hM : IM M) (ho : IO o) : ∃ r M', gM_worth k1 k2 k3 M o = some (r, M', o) ∧ IM M' ∧ M'.2.1 = M.2.1 ∧ M'.1.2.2 = -1 ∧ M'.2.2.1 = M.2.2.1 ∧ M'.2.2.2.2.1 = M.2.2.2.2.1 := by
  cases o with
  | none =>
    have eg : gM_worth k1 k2 k3 M none = some ((-1), ((f_X12_worth_nul k1 k2 k3 M.1), M.2.1, M.2.2.1, M.2.2.2.1, M.2.2.2.2.1, M.2.2.2.2.2.1, M.2.2.2.2.2.2.1, M.2.2.2.2.2.2.2), none) := rfl
    exact ⟨_, _, eg, ⟨hM.1, hM.2⟩, rfl, rfl, rfl, rfl⟩
  | some q =>
    have hq : IQ q := ho
    obtain ⟨out, e, hb⟩ := t_f_X12_worth (k1 := k1) (k2 := k2) (k3 := k3) (m_t := M.1) (q_q := q) hq.1 hq.2.1 hq.2.2.1 hq.2.2.2.1 hq.2.2.2.2.1 hq.2.2.2.2.2
    have eg : gM_worth k1 k2 k3 M (some q) = some (out.1, (out.2, M.2.1, M.2.2.1, M.2.2.2.1, M.2.2.2.2.1, M.2.2.2.2.2.1, M.2.2.2.2.2.2.1, M.2.2.2.2.2.2.2), (some q)) := by
      rw [gM_worth, e]
      rfl
    exact ⟨_, _, eg, ⟨hM.1, hM.2⟩, rfl, r_m1 hb.2.2, rfl, rfl⟩
theorem sm_load {k1 : Int32} {M : MS} {o : Option TX11_q} (hM : IM M) (ho : IO o) : ∃ r M', gM_load k1 M o = some (r, M', o) ∧ IM M' ∧ M'.2.1 = M.2.1 ∧ M'.1.2.2 = -1 ∧ M'.2.2.1 = M.2.2.1 ∧ M'.2.2.2.2.1 = M.2.2.2.2.1 := by
  cases o with
  | none =>
    have eg : gM_load k1 M none = some ((-1), ((f_X12_load_nul k1 M.1), M.2.1, M.2.2.1, M.2.2.2.1, M.2.2.2.2.1, M.2.2.2.2.2.1, M.2.2.2.2.2.2.1, M.2.2.2.2.2.2.2), none) := rfl
    exact ⟨_, _, eg, ⟨hM.1, hM.2⟩, rfl, rfl, rfl, rfl⟩
  | some q =>
    have hq : IQ q := ho
    obtain ⟨out, e, hb⟩ := t_f_X12_load (k1 := k1) (m_t := M.1) (m_v := M.2.2.1) (m_k := M.2.2.2.2.2.2.1) (q_q := q) hq.1 hq.2.1 hq.2.2.1 hq.2.2.2.1 hq.2.2.2.2.1 hq.2.2.2.2.2
    have eg : gM_load k1 M (some q) = some (out.1, (out.2.1, M.2.1, M.2.2.1, M.2.2.2.1, M.2.2.2.2.1, M.2.2.2.2.2.1, out.2.2, M.2.2.2.2.2.2.2), (some q)) := by
      rw [gM_load, e]
      rfl
    exact ⟨_, _, eg, ⟨hM.1, hM.2⟩, rfl, r_m1 hb.2.2.2, rfl, rfl⟩
theorem sm_loadWorth {k1 : Int32} {M : MS} {o : Option TX11_q} (hM : IM M) (ho : IO o) : ∃ r M', gM_loadWorth k1 M o = some (r, M', o) ∧ IM M' ∧ M'.2.1 = M.2.1 ∧ M'.1.2.2 = -1 ∧ M'.2.2.1 = M.2.2.1 ∧ M'.2.2.2.2.1 = M.2.2.2.2.1 := by
  cases o with
  | none =>
    have eg : gM_loadWorth k1 M none = some ((-1), ((f_X12_loadWorth_nul k1 M.1), M.2.1, M.2.2.1, M.2.2.2.1, M.2.2.2.2.1, M.2.2.2.2.2.1, M.2.2.2.2.2.2.1, M.2.2.2.2.2.2.2), none) := rfl
    exact ⟨_, _, eg, ⟨hM.1, hM.2⟩, rfl, rfl, rfl, rfl⟩
  | some q =>
    have hq : IQ q := ho
    obtain ⟨out, e, hb⟩ := t_f_X12_loadWorth (k1 := k1) (m_t := M.1) (m_v := M.2.2.1) (m_k := M.2.2.2.2.2.2.1) (q_q := q) hq.1 hq.2.1 hq.2.2.1 hq.2.2.2.1 hq.2.2.2.2.1 hq.2.2.2.2.2
    have eg : gM_loadWorth k1 M (some q) = some (out.1, (out.2.1, M.2.1, M.2.2.1, M.2.2.2.1, M.2.2.2.2.1, M.2.2.2.2.2.1, out.2.2, M.2.2.2.2.2.2.2), (some q)) := by
      rw [gM_loadWorth, e]
      rfl
    exact ⟨_, _, eg, ⟨hM.1, hM.2⟩, rfl, r_m1 hb.2.2.2, rfl, rfl⟩
theorem sm_bestDay {M : MS} {o : Option TX11_q} (hM : IM M) (ho : IO o) : ∃ r M', gM_bestDay M o = some (r, M', o) ∧ IM M' ∧ M'.2.1 = M.2.1 ∧ M'.1.2.2 = -1 ∧ M'.2.2.1 = M.2.2.1 ∧ M'.2.2.2.2.1 = M.2.2.2.2.1 := by
  cases o with
  | none =>
    have eg : gM_bestDay M none = some ((-1), ((f_X12_bestDay_nul M.1), M.2.1, M.2.2.1, M.2.2.2.1, M.2.2.2.2.1, M.2.2.2.2.2.1, M.2.2.2.2.2.2.1, M.2.2.2.2.2.2.2), none) := rfl
    exact ⟨_, _, eg, ⟨hM.1, hM.2⟩, rfl, rfl, rfl, rfl⟩
  | some q =>
    have hq : IQ q := ho
    obtain ⟨out, e, hb⟩ := t_f_X12_bestDay (m_t := M.1) (m_v := M.2.2.1) (q_q := q) hq.1 hq.2.1 hq.2.2.1 hq.2.2.2.1 hq.2.2.2.2.1 hq.2.2.2.2.2
    have eg : gM_bestDay M (some q) = some (out.1, (out.2, M.2.1, M.2.2.1, M.2.2.2.1, M.2.2.2.2.1, M.2.2.2.2.2.1, M.2.2.2.2.2.2.1, M.2.2.2.2.2.2.2), (some q)) := by
      rw [gM_bestDay, e]
      rfl
    exact ⟨_, _, eg, ⟨hM.1, hM.2⟩, rfl, r_m1 hb.2.2.2, rfl, rfl⟩
theorem sm_hooks {k1 : Int32} {k2 : Int32} {k3 : Int32} {k4 : Int32} {k5 : Int32} {M : MS} {o : Option TX11_q} (hM : IM M) (ho : IO o) : ∃ r M', gM_hooks k1 k2 k3 k4 k5 M o = some (r, M', o) ∧ IM M' ∧ M'.2.1 = M.2.1 ∧ M'.1.2.2 = -1 ∧ M'.2.2.1 = M.2.2.1 ∧ M'.2.2.2.2.1 = M.2.2.2.2.1 := by
  cases o with
  | none =>
    have eg : gM_hooks k1 k2 k3 k4 k5 M none = some ((-1), ((f_X12_hooks_nul k1 k2 k3 k4 k5 M.1), M.2.1, M.2.2.1, M.2.2.2.1, M.2.2.2.2.1, M.2.2.2.2.2.1, M.2.2.2.2.2.2.1, M.2.2.2.2.2.2.2), none) := rfl
    exact ⟨_, _, eg, ⟨hM.1, hM.2⟩, rfl, rfl, rfl, rfl⟩
  | some q =>
    have hq : IQ q := ho
    obtain ⟨out, e, hb⟩ := t_f_X12_hooks (k1 := k1) (k2 := k2) (k3 := k3) (k4 := k4) (k5 := k5) (m_t := M.1) (m_v := M.2.2.1) (q_q := q) hq.1 hq.2.1 hq.2.2.1 hq.2.2.2.1 hq.2.2.2.2.1 hq.2.2.2.2.2
    have eg : gM_hooks k1 k2 k3 k4 k5 M (some q) = some (out.1, (out.2, M.2.1, M.2.2.1, M.2.2.2.1, M.2.2.2.2.1, M.2.2.2.2.2.1, M.2.2.2.2.2.2.1, M.2.2.2.2.2.2.2), (some q)) := by
      rw [gM_hooks, e]
      rfl
    exact ⟨_, _, eg, ⟨hM.1, hM.2⟩, rfl, r_m1 hb.2.2, rfl, rfl⟩
theorem sm_lines {k1 : Int32} {k2 : Int32} {k3 : Int32} {k4 : Int32} {M : MS} {o : Option TX11_q} (hM : IM M) (ho : IO o) : ∃ r M', gM_lines k1 k2 k3 k4 M o = some (r, M', o) ∧ IM M' ∧ M'.2.1 = M.2.1 ∧ M'.1.2.2 = -1 ∧ M'.2.2.1 = M.2.2.1 ∧ M'.2.2.2.2.1 = M.2.2.2.2.1 := by
  cases o with
  | none =>
    have eg : gM_lines k1 k2 k3 k4 M none = some ((-100), ((f_X12_lines_nul k1 k2 k3 k4 M.1), M.2.1, M.2.2.1, M.2.2.2.1, M.2.2.2.2.1, M.2.2.2.2.2.1, M.2.2.2.2.2.2.1, M.2.2.2.2.2.2.2), none) := rfl
    exact ⟨_, _, eg, ⟨hM.1, hM.2⟩, rfl, rfl, rfl, rfl⟩
  | some q =>
    have hq : IQ q := ho
    obtain ⟨out, e, hb⟩ := t_f_X12_lines (k1 := k1) (k2 := k2) (k3 := k3) (k4 := k4) (m_t := M.1) 
    have eg : gM_lines k1 k2 k3 k4 M (some q) = some (out.1, (out.2, M.2.1, M.2.2.1, M.2.2.2.1, M.2.2.2.2.1, M.2.2.2.2.2.1, M.2.2.2.2.2.2.1, M.2.2.2.2.2.2.2), (some q)) := by
      rw [gM_lines, e]
      rfl
    exact ⟨_, _, eg, ⟨hM.1, hM.2⟩, rfl, r_m1 hb.2.2, rfl, rfl⟩
theorem sm_rests {k1 : Int32} {M : MS} {o : Option TX11_q} (hM : IM M) (ho : IO o) : ∃ r M', gM_rests k1 M o = some (r, M', o) ∧ IM M' ∧ M'.2.1 = M.2.1 ∧ M'.1.2.2 = -1 ∧ M'.2.2.1 = M.2.2.1 ∧ M'.2.2.2.2.1 = M.2.2.2.2.1 := by
  cases o with
  | none =>
    have eg : gM_rests k1 M none = some ((-1), ((f_X12_rests_nul k1 M.1), M.2.1, M.2.2.1, M.2.2.2.1, M.2.2.2.2.1, M.2.2.2.2.2.1, M.2.2.2.2.2.2.1, M.2.2.2.2.2.2.2), none) := rfl
    exact ⟨_, _, eg, ⟨hM.1, hM.2⟩, rfl, rfl, rfl, rfl⟩
  | some q =>
    have hq : IQ q := ho
    obtain ⟨out, e, hb⟩ := t_f_X12_rests (k1 := k1) (m_t := M.1) 
    have eg : gM_rests k1 M (some q) = some (out.1, (out.2, M.2.1, M.2.2.1, M.2.2.2.1, M.2.2.2.2.1, M.2.2.2.2.2.1, M.2.2.2.2.2.2.1, M.2.2.2.2.2.2.2), (some q)) := by
      rw [gM_rests, e]
      rfl
    exact ⟨_, _, eg, ⟨hM.1, hM.2⟩, rfl, r_m1 hb.2.2, rfl, rfl⟩
theorem sm_rest {k1 : Int32} {M : MS} {o : Option TX11_q} (hM : IM M) (ho : IO o) : ∃ r M', gM_rest k1 M o = some (r, M', o) ∧ IM M' ∧ M'.2.1 = M.2.1 ∧ M'.1.2.2 = -1 ∧ M'.2.2.1 = M.2.2.1 ∧ M'.2.2.2.2.1 = M.2.2.2.2.1 := by
  cases o with
  | none =>
    have eg : gM_rest k1 M none = some ((-1), ((f_X12_rest_nul k1 M.1), M.2.1, M.2.2.1, M.2.2.2.1, M.2.2.2.2.1, M.2.2.2.2.2.1, M.2.2.2.2.2.2.1, M.2.2.2.2.2.2.2), none) := rfl
    exact ⟨_, _, eg, ⟨hM.1, hM.2⟩, rfl, rfl, rfl, rfl⟩
  | some q =>
    have hq : IQ q := ho
    obtain ⟨out, e, hb⟩ := t_f_X12_rest (k1 := k1) (m_t := M.1) 
    have eg : gM_rest k1 M (some q) = some (out.1, (out.2, M.2.1, M.2.2.1, M.2.2.2.1, M.2.2.2.2.1, M.2.2.2.2.2.1, M.2.2.2.2.2.2.1, M.2.2.2.2.2.2.2), (some q)) := by
      rw [gM_rest, e]
      rfl
    exact ⟨_, _, eg, ⟨hM.1, hM.2⟩, rfl, r_m1 hb.2.2.2, rfl, rfl⟩
theorem sm_landed {k1 : Int32} {k2 : Int32} {M : MS} {o : Option TX11_q} (hM : IM M) (ho : IO o) : ∃ r M', gM_landed k1 k2 M o = some (r, M', o) ∧ IM M' ∧ M'.2.1 = M.2.1 ∧ M'.1.2.2 = -1 ∧ M'.2.2.1 = M.2.2.1 ∧ M'.2.2.2.2.1 = M.2.2.2.2.1 := by
  cases o with
  | none =>
    have eg : gM_landed k1 k2 M none = some ((-1), ((f_X12_landed_nul k1 k2 M.1), M.2.1, M.2.2.1, M.2.2.2.1, M.2.2.2.2.1, M.2.2.2.2.2.1, M.2.2.2.2.2.2.1, M.2.2.2.2.2.2.2), none) := rfl
    exact ⟨_, _, eg, ⟨hM.1, hM.2⟩, rfl, rfl, rfl, rfl⟩
  | some q =>
    have hq : IQ q := ho
    obtain ⟨out, e, hb⟩ := t_f_X12_landed (k1 := k1) (k2 := k2) (m_t := M.1) (m_v := M.2.2.1) (m_w := M.2.2.2.1) (m_c := M.2.2.2.2.2.2.2) (q_q := q) hq.1 hq.2.1 hq.2.2.1 hq.2.2.2.1 hq.2.2.2.2.1 hq.2.2.2.2.2
    have eg : gM_landed k1 k2 M (some q) = some (out.1, (out.2.1, M.2.1, M.2.2.1, out.2.2.1, M.2.2.2.2.1, M.2.2.2.2.2.1, M.2.2.2.2.2.2.1, out.2.2.2), (some q)) := by
      rw [gM_landed, e]
      rfl
    exact ⟨_, _, eg, ⟨hM.1, hM.2⟩, rfl, r_m1 hb.2.2, rfl, rfl⟩
theorem sm_landedIn {k1 : Int32} {k2 : Int32} {k3 : Int32} {M : MS} {o : Option TX11_q} (hM : IM M) (ho : IO o) : ∃ r M', gM_landedIn k1 k2 k3 M o = some (r, M', o) ∧ IM M' ∧ M'.2.1 = M.2.1 ∧ M'.1.2.2 = -1 ∧ M'.2.2.1 = M.2.2.1 ∧ M'.2.2.2.2.1 = M.2.2.2.2.1 := by
  cases o with
  | none =>
    have eg : gM_landedIn k1 k2 k3 M none = some ((-1), ((f_X12_landedIn_nul k1 k2 k3 M.1), M.2.1, M.2.2.1, M.2.2.2.1, M.2.2.2.2.1, M.2.2.2.2.2.1, M.2.2.2.2.2.2.1, M.2.2.2.2.2.2.2), none) := rfl
    exact ⟨_, _, eg, ⟨hM.1, hM.2⟩, rfl, rfl, rfl, rfl⟩
  | some q =>
    have hq : IQ q := ho
    obtain ⟨out, e, hb⟩ := t_f_X12_landedIn (k1 := k1) (k2 := k2) (k3 := k3) (m_t := M.1) (m_v := M.2.2.1) (m_w := M.2.2.2.1) (m_c := M.2.2.2.2.2.2.2) (q_q := q) hq.1 hq.2.1 hq.2.2.1 hq.2.2.2.1 hq.2.2.2.2.1 hq.2.2.2.2.2
    have eg : gM_landedIn k1 k2 k3 M (some q) = some (out.1, (out.2.1, M.2.1, M.2.2.1, out.2.2.1, M.2.2.2.2.1, M.2.2.2.2.2.1, M.2.2.2.2.2.2.1, out.2.2.2), (some q)) := by
      rw [gM_landedIn, e]
      rfl
    exact ⟨_, _, eg, ⟨hM.1, hM.2⟩, rfl, r_m1 hb.2.2.2, rfl, rfl⟩
theorem sm_crabs {k1 : Int32} {k2 : Int32} {M : MS} {o : Option TX11_q} (hM : IM M) (ho : IO o) : ∃ r M', gM_crabs k1 k2 M o = some (r, M', o) ∧ IM M' ∧ M'.2.1 = M.2.1 ∧ M'.1.2.2 = -1 ∧ M'.2.2.1 = M.2.2.1 ∧ M'.2.2.2.2.1 = M.2.2.2.2.1 := by
  cases o with
  | none =>
    have eg : gM_crabs k1 k2 M none = some ((-1), ((f_X12_crabs_nul k1 k2 M.1), M.2.1, M.2.2.1, M.2.2.2.1, M.2.2.2.2.1, M.2.2.2.2.2.1, M.2.2.2.2.2.2.1, M.2.2.2.2.2.2.2), none) := rfl
    exact ⟨_, _, eg, ⟨hM.1, hM.2⟩, rfl, rfl, rfl, rfl⟩
  | some q =>
    have hq : IQ q := ho
    obtain ⟨out, e, hb⟩ := t_f_X12_crabs (k1 := k1) (k2 := k2) (m_t := M.1) (m_v := M.2.2.1) (m_w := M.2.2.2.1) (m_c := M.2.2.2.2.2.2.2) (q_q := q) hq.1 hq.2.1 hq.2.2.1 hq.2.2.2.1 hq.2.2.2.2.1 hq.2.2.2.2.2
    have eg : gM_crabs k1 k2 M (some q) = some (out.1, (out.2.1, M.2.1, M.2.2.1, out.2.2.1, M.2.2.2.2.1, M.2.2.2.2.2.1, M.2.2.2.2.2.2.1, out.2.2.2), (some q)) := by
      rw [gM_crabs, e]
      rfl
    exact ⟨_, _, eg, ⟨hM.1, hM.2⟩, rfl, r_m1 hb.2.2, rfl, rfl⟩
theorem sm_let {k1 : Int32} {k2 : Int32} {k3 : Int32} {k4 : Int32} {M : MS} {o : Option TX11_q} (hM : IM M) (ho : IO o) : ∃ r M', gM_let k1 k2 k3 k4 M o = some (r, M', o) ∧ IM M' ∧ M'.2.1 = M.2.1 ∧ M'.1.2.2 = -1 := by
  cases o with
  | none =>
    have eg : gM_let k1 k2 k3 k4 M none = some (0, ((f_X12_let_nul k1 k2 k3 k4 M.1), M.2.1, M.2.2.1, M.2.2.2.1, M.2.2.2.2.1, M.2.2.2.2.2.1, M.2.2.2.2.2.2.1, M.2.2.2.2.2.2.2), none) := rfl
    exact ⟨_, _, eg, ⟨hM.1, hM.2⟩, rfl, rfl⟩
  | some q =>
    have hq : IQ q := ho
    obtain ⟨out, e, hb⟩ := t_f_X12_let (k1 := k1) (k2 := k2) (k3 := k3) (k4 := k4) (m_t := M.1) (m_v := M.2.2.1) (m_h := M.2.2.2.2.1) (q_q := q) hM.1 hM.2 hq.1 hq.2.1 hq.2.2.1 hq.2.2.2.1 hq.2.2.2.2.1 hq.2.2.2.2.2
    have eg : gM_let k1 k2 k3 k4 M (some q) = some (out.1, (out.2.1, M.2.1, out.2.2.1, M.2.2.2.1, out.2.2.2, M.2.2.2.2.2.1, M.2.2.2.2.2.2.1, M.2.2.2.2.2.2.2), (some q)) := by
      rw [gM_let, e]
      rfl
    exact ⟨_, _, eg, ⟨hb.2.2.2.2.1, hb.2.2.2.2.2⟩, rfl, r_m1 hb.2.2.2.1⟩
theorem sm_drawIn {k1 : Int32} {M : MS} {o : Option TX11_q} (hM : IM M) (ho : IO o) : ∃ r M', gM_drawIn k1 M o = some (r, M', o) ∧ IM M' ∧ M'.2.1 = M.2.1 ∧ M'.1.2.2 = -1 := by
  cases o with
  | none =>
    have eg : gM_drawIn k1 M none = some (0, ((f_X12_drawIn_nul k1 M.1), M.2.1, M.2.2.1, M.2.2.2.1, M.2.2.2.2.1, M.2.2.2.2.2.1, M.2.2.2.2.2.2.1, M.2.2.2.2.2.2.2), none) := rfl
    exact ⟨_, _, eg, ⟨hM.1, hM.2⟩, rfl, rfl⟩
  | some q =>
    have hq : IQ q := ho
    obtain ⟨out, e, hb⟩ := t_f_X12_drawIn (k1 := k1) (m_t := M.1) (m_v := M.2.2.1) (m_h := M.2.2.2.2.1) (q_q := q) hM.1 hM.2 hq.1 hq.2.1 hq.2.2.1 hq.2.2.2.1 hq.2.2.2.2.1 hq.2.2.2.2.2
    have eg : gM_drawIn k1 M (some q) = some (out.1, (out.2.1, M.2.1, out.2.2.1, M.2.2.2.1, out.2.2.2, M.2.2.2.2.2.1, M.2.2.2.2.2.2.1, M.2.2.2.2.2.2.2), (some q)) := by
      rw [gM_drawIn, e]
      rfl
    exact ⟨_, _, eg, ⟨hb.2.2.2.2.1, hb.2.2.2.2.2⟩, rfl, r_m1 hb.2.2.2.1⟩
theorem sm_sell {k1 : Int32} {M : MS} {o : Option TX11_q} (hM : IM M) (ho : IO o) : ∃ r M', gM_sell k1 M o = some (r, M', o) ∧ IM M' ∧ M'.2.1 = M.2.1 ∧ M'.1.2.2 = -1 := by
  cases o with
  | none =>
    have eg : gM_sell k1 M none = some ((-1), ((f_X12_sell_nul k1 M.1), M.2.1, M.2.2.1, M.2.2.2.1, M.2.2.2.2.1, M.2.2.2.2.2.1, M.2.2.2.2.2.2.1, M.2.2.2.2.2.2.2), none) := rfl
    exact ⟨_, _, eg, ⟨hM.1, hM.2⟩, rfl, rfl⟩
  | some q =>
    have hq : IQ q := ho
    obtain ⟨out, e, hb⟩ := t_f_X12_sell (k1 := k1) (m_t := M.1) (m_v := M.2.2.1) (m_h := M.2.2.2.2.1) (q_q := q) hM.1 hM.2 hq.1 hq.2.1 hq.2.2.1 hq.2.2.2.1 hq.2.2.2.2.1 hq.2.2.2.2.2
    have eg : gM_sell k1 M (some q) = some (out.1, (out.2.1, M.2.1, out.2.2.1, M.2.2.2.1, out.2.2.2, M.2.2.2.2.2.1, M.2.2.2.2.2.2.1, M.2.2.2.2.2.2.2), (some q)) := by
      rw [gM_sell, e]
      rfl
    exact ⟨_, _, eg, ⟨hb.2.2.2.1, hb.2.2.2.2⟩, rfl, r_m1 hb.2.2.1⟩
theorem sm_day {M : MS} {o : Option TX11_q} (hM : IM M) (ho : IO o) : ∃ r M', gM_day M o = some (r, M', o) ∧ IM M' ∧ M'.2.1 = M.2.1 ∧ M'.1.2.2 = -1 := by
  cases o with
  | none =>
    have eg : gM_day M none = some ((-1), ((f_X12_day_nul M.1), M.2.1, M.2.2.1, M.2.2.2.1, M.2.2.2.2.1, M.2.2.2.2.2.1, M.2.2.2.2.2.2.1, M.2.2.2.2.2.2.2), none) := rfl
    exact ⟨_, _, eg, ⟨hM.1, hM.2⟩, rfl, rfl⟩
  | some q =>
    have hq : IQ q := ho
    obtain ⟨out, e, hb⟩ := t_f_X12_day (m_t := M.1) (m_v := M.2.2.1) (m_h := M.2.2.2.2.1) (m_c := M.2.2.2.2.2.2.2) (q_q := q) hM.1 hM.2 hq.1 hq.2.1 hq.2.2.1 hq.2.2.2.1 hq.2.2.2.2.1 hq.2.2.2.2.2
    have eg : gM_day M (some q) = some (out.1, (out.2.1, M.2.1, out.2.2.1, M.2.2.2.1, out.2.2.2.1, M.2.2.2.2.2.1, M.2.2.2.2.2.2.1, out.2.2.2.2), (some q)) := by
      rw [gM_day, e]
      rfl
    exact ⟨_, _, eg, ⟨hb.2.2.2.2.1, hb.2.2.2.2.2⟩, rfl, r_m1 hb.2.2.2.1⟩
theorem sm_seed {k1 : Int32} {M : MS} {o : Option TX11_q} (hM : IM M) (ho : IO o) : ∃ r M', gM_seed k1 M o = some (r, M', o) ∧ IM M' ∧ M'.2.1 = M.2.1 ∧ M'.1.2.2 = -1 := by
  cases o with
  | none =>
    have eg : gM_seed k1 M none = some (0, ((f_X12_seed_nul k1 M.1), M.2.1, M.2.2.1, M.2.2.2.1, M.2.2.2.2.1, M.2.2.2.2.2.1, M.2.2.2.2.2.2.1, M.2.2.2.2.2.2.2), none) := rfl
    exact ⟨_, _, eg, ⟨hM.1, hM.2⟩, rfl, rfl⟩
  | some q =>
    have hq : IQ q := ho
    have eg : gM_seed k1 M (some q) = some ((f_X12_seed k1 M.1 M.2.2.1).1, ((f_X12_seed k1 M.1 M.2.2.1).2.1, M.2.1, (f_X12_seed k1 M.1 M.2.2.1).2.2, M.2.2.2.1, M.2.2.2.2.1, M.2.2.2.2.2.1, M.2.2.2.2.2.2.1, M.2.2.2.2.2.2.2), (some q)) := rfl
    exact ⟨_, _, eg, ⟨hM.1, hM.2⟩, rfl, wh_seed _ _ _⟩
theorem sm_undo {M : MS} {o : Option TX11_q} (hM : IM M) (ho : IO o) : ∃ r M', gM_undo M o = some (r, M', o) ∧ IM M' ∧ M'.2.1 = M.2.1 ∧ M'.1.2.2 = -1 := by
  cases o with
  | none =>
    have eg : gM_undo M none = some (0, ((f_X12_undo_nul M.1), M.2.1, M.2.2.1, M.2.2.2.1, M.2.2.2.2.1, M.2.2.2.2.2.1, M.2.2.2.2.2.2.1, M.2.2.2.2.2.2.2), none) := rfl
    exact ⟨_, _, eg, ⟨hM.1, hM.2⟩, rfl, rfl⟩
  | some q =>
    have hq : IQ q := ho
    obtain ⟨out, e, hb⟩ := t_f_X12_undo (m_t := M.1) (m_v := M.2.2.1) (m_h := M.2.2.2.2.1) hM.1 hM.2
    have eg : gM_undo M (some q) = some (out.1, (out.2.1, M.2.1, out.2.2.1, M.2.2.2.1, out.2.2.2, M.2.2.2.2.2.1, M.2.2.2.2.2.2.1, M.2.2.2.2.2.2.2), (some q)) := by
      rw [gM_undo, e]
      rfl
    exact ⟨_, _, eg, ⟨r_w (l' := 0) (h' := 16) hb.2.2.2.2.1 (by decide) (by decide), hb.2.2.2.2.2⟩, rfl, r_m1 hb.2.2.2.1⟩
theorem sm_mark {M : MS} {o : Option TX11_q} (hM : IM M) (ho : IO o) : ∃ r M', gM_mark M o = some (r, M', o) ∧ IM M' ∧ M'.2.1 = M.2.1 ∧ M'.1.2.2 = -1 := by
  cases o with
  | none =>
    have eg : gM_mark M none = some ((-1), ((f_X12_mark_nul M.1), M.2.1, M.2.2.1, M.2.2.2.1, M.2.2.2.2.1, M.2.2.2.2.2.1, M.2.2.2.2.2.2.1, M.2.2.2.2.2.2.2), none) := rfl
    exact ⟨_, _, eg, ⟨hM.1, hM.2⟩, rfl, rfl⟩
  | some q =>
    have hq : IQ q := ho
    obtain ⟨out, e, hb⟩ := t_f_X12_mark (m_t := M.1) (m_v := M.2.2.1) (m_h := M.2.2.2.2.1) hM.1 hM.2
    have eg : gM_mark M (some q) = some (out.1, (out.2.1, M.2.1, M.2.2.1, M.2.2.2.1, out.2.2, M.2.2.2.2.2.1, M.2.2.2.2.2.2.1, M.2.2.2.2.2.2.2), (some q)) := by
      rw [gM_mark, e]
      rfl
    exact ⟨_, _, eg, ⟨hb.2.2.2.2.1, r_w (l' := 0) (h' := 3) hb.2.2.2.2.2 (by decide) (by decide)⟩, rfl, r_m1 hb.2.2.2.1⟩
theorem sm_back {k1 : Int32} {M : MS} {o : Option TX11_q} (hM : IM M) (ho : IO o) : ∃ r M', gM_back k1 M o = some (r, M', o) ∧ IM M' ∧ M'.2.1 = M.2.1 ∧ M'.1.2.2 = -1 := by
  cases o with
  | none =>
    have eg : gM_back k1 M none = some (0, ((f_X12_back_nul k1 M.1), M.2.1, M.2.2.1, M.2.2.2.1, M.2.2.2.2.1, M.2.2.2.2.2.1, M.2.2.2.2.2.2.1, M.2.2.2.2.2.2.2), none) := rfl
    exact ⟨_, _, eg, ⟨hM.1, hM.2⟩, rfl, rfl⟩
  | some q =>
    have hq : IQ q := ho
    obtain ⟨out, e, hb⟩ := t_f_X12_back (k1 := k1) (m_t := M.1) (m_v := M.2.2.1) (m_h := M.2.2.2.2.1) hM.1 hM.2
    have eg : gM_back k1 M (some q) = some (out.1, (out.2.1, M.2.1, out.2.2.1, M.2.2.2.1, out.2.2.2, M.2.2.2.2.2.1, M.2.2.2.2.2.2.1, M.2.2.2.2.2.2.2), (some q)) := by
      rw [gM_back, e]
      rfl
    exact ⟨_, _, eg, ⟨hb.2.2.2.2.1, hb.2.2.2.2.2⟩, rfl, r_m1 hb.2.2.2.1⟩
theorem sm_led {k1 : Int32} {M : MS} {o : Option TX11_q} (hM : IM M) (ho : IO o) : ∃ r M', gM_led k1 M o = some (r, M', o) ∧ IM M' ∧ M'.2.1 = M.2.1 ∧ M'.1.2.2 = M.1.2.2 ∧ M'.2.2.1 = M.2.2.1 ∧ M'.2.2.2.2.1 = M.2.2.2.2.1 := by
  cases o with
  | none =>
    obtain ⟨out, e, hb⟩ := t_f_X12_led_nul (k1 := k1) (m_t := M.1) 
    have eg : gM_led k1 M none = some (0, (out, M.2.1, M.2.2.1, M.2.2.2.1, M.2.2.2.2.1, M.2.2.2.2.2.1, M.2.2.2.2.2.2.1, M.2.2.2.2.2.2.2), none) := by
      rw [gM_led, e]
      rfl
    exact ⟨_, _, eg, ⟨hM.1, hM.2⟩, rfl, (kp_f_X12_led_nul (F0 := M.1.2.2) rfl out e).2, rfl, rfl⟩
  | some q =>
    have hq : IQ q := ho
    obtain ⟨out, e, hb⟩ := t_f_X12_led (k1 := k1) (m_t := M.1) (m_v := M.2.2.1) (q_q := q) hq.1 hq.2.1 hq.2.2.1 hq.2.2.2.1 hq.2.2.2.2.1 hq.2.2.2.2.2
    have eg : gM_led k1 M (some q) = some (out.1, (out.2, M.2.1, M.2.2.1, M.2.2.2.1, M.2.2.2.2.1, M.2.2.2.2.2.1, M.2.2.2.2.2.2.1, M.2.2.2.2.2.2.2), (some q)) := by
      rw [gM_led, e]
      rfl
    exact ⟨_, _, eg, ⟨hM.1, hM.2⟩, rfl, (kp_f_X12_led (F0 := M.1.2.2) rfl out e).2, rfl, rfl⟩
theorem sm_size {k1 : Int32} {M : MS} {o : Option TX11_q} (hM : IM M) (ho : IO o) : ∃ r M', gM_size k1 M o = some (r, M', o) ∧ IM M' ∧ M'.2.1 = M.2.1 ∧ M'.1.2.2 = M.1.2.2 ∧ M'.2.2.1 = M.2.2.1 ∧ M'.2.2.2.2.1 = M.2.2.2.2.1 := by
  cases o with
  | none =>
    have eg : gM_size k1 M none = some ((f_X12_size_nul k1 M.1 M.2.1).1, ((f_X12_size_nul k1 M.1 M.2.1).2, M.2.1, M.2.2.1, M.2.2.2.1, M.2.2.2.2.1, M.2.2.2.2.2.1, M.2.2.2.2.2.2.1, M.2.2.2.2.2.2.2), none) := rfl
    exact ⟨_, _, eg, ⟨hM.1, hM.2⟩, rfl, wh_size_nul _ _ _, rfl, rfl⟩
  | some q =>
    have hq : IQ q := ho
    have eg : gM_size k1 M (some q) = some ((f_X12_size k1 M.1 M.2.1 M.2.2.1 M.2.2.2.2.1 q).1, ((f_X12_size k1 M.1 M.2.1 M.2.2.1 M.2.2.2.2.1 q).2, M.2.1, M.2.2.1, M.2.2.2.1, M.2.2.2.2.1, M.2.2.2.2.2.1, M.2.2.2.2.2.2.1, M.2.2.2.2.2.2.2), (some q)) := rfl
    exact ⟨_, _, eg, ⟨hM.1, hM.2⟩, rfl, wh_size _ _ _ _ _ _, rfl, rfl⟩
theorem sm_trouble {M : MS} {o : Option TX11_q} (hM : IM M) (ho : IO o) : ∃ r M', gM_trouble M o = some (r, M', o) ∧ IM M' ∧ M'.2.1 = M.2.1 ∧ M'.1.2.2 = M.1.2.2 ∧ M'.2.2.1 = M.2.2.1 ∧ M'.2.2.2.2.1 = M.2.2.2.2.1 := by
  have eg : gM_trouble M o = some ((f_X12_trouble M.1).1, ((f_X12_trouble M.1).2, M.2.1, M.2.2.1, M.2.2.2.1, M.2.2.2.2.1, M.2.2.2.2.2.1, M.2.2.2.2.2.2.1, M.2.2.2.2.2.2.2), o) := rfl
  exact ⟨_, _, eg, ⟨hM.1, hM.2⟩, rfl, rfl, rfl, rfl⟩
