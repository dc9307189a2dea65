/-! what a call leaves as it was -/
def KP {α : Type} (o : Option α) (φ : α → Prop) : Prop := ∀ z, o = some z → φ z
def KV {α : Type} (v : α) (φ : α → Prop) : Prop := φ v
section KEPT
variable {α β : Type} {φ : α → Prop} {ψ : β → Prop}
theorem kp_o : KP (none : Option α) φ := fun _ h => nomatch h
theorem kp_s {v : α} (h : φ v) : KP (some v) φ := fun z e => by cases e; exact h
theorem kv_s {v : α} (h : φ v) : KV v φ := h
theorem kp_i {c : Prop} {d : Decidable c} {a b : Option α} (h1 : KP a φ) (h2 : KP b φ) : KP (@ite _ c d a b) φ := by
  by_cases h : c
  · rw [if_pos h]; exact h1
  · rw [if_neg h]; exact h2
theorem kv_i {c : Prop} {d : Decidable c} {a b : α} (h1 : KV a φ) (h2 : KV b φ) : KV (@ite _ c d a b) φ := by
  by_cases h : c
  · rw [if_pos h]; exact h1
  · rw [if_neg h]; exact h2
theorem kp_b {o : Option β} {f : β → Option α} (h1 : KP o ψ) (h2 : ∀ z, ψ z → KP (f z) φ) : KP (o.bind f) φ := fun z e => by
  cases ho : o with
  | none => rw [ho] at e; exact nomatch e
  | some y => rw [ho] at e; exact h2 y (h1 y ho) z e
theorem kp_b0 {o : Option β} {f : β → Option α} (h2 : ∀ z, KP (f z) φ) : KP (o.bind f) φ := fun z e => by
  cases ho : o with
  | none => rw [ho] at e; exact nomatch e
  | some y => rw [ho] at e; exact h2 y z e
theorem kp_n {x : β} {f : β → Option α} (h1 : KV x ψ) (h2 : ∀ z, ψ z → KP (f z) φ) : KP (nm x f) φ := h2 x h1
theorem kp_n0 {x : β} {f : β → Option α} (h2 : ∀ z, KP (f z) φ) : KP (nm x f) φ := h2 x
theorem kp_nl {x : β} {f : β → Option α} (h2 : KP (f x) φ) : KP (nm x f) φ := h2
theorem kv_n {x : β} {f : β → α} (h1 : KV x ψ) (h2 : ∀ z, ψ z → KV (f z) φ) : KV (nm x f) φ := h2 x h1
theorem kv_n0 {x : β} {f : β → α} (h2 : ∀ z, KV (f z) φ) : KV (nm x f) φ := h2 x
theorem kv_nl {x : β} {f : β → α} (h2 : KV (f x) φ) : KV (nm x f) φ := h2
theorem kp_gA {i : Int32} {n : Nat} {k : Option α} (h : KP k φ) : KP (gA i n k) φ := kp_i kp_o h
theorem kp_gZi {y : Int32} {k : Option α} (h : KP k φ) : KP (gZi y k) φ := kp_i kp_o h
theorem kp_gZl {y : Int64} {k : Option α} (h : KP k φ) : KP (gZl y k) φ := kp_i kp_o h
theorem kp_w {o : Option α} {χ : α → Prop} (h : KP o χ) (w : ∀ z, χ z → φ z) : KP o φ := fun z e => w z (h z e)
theorem kv_w {v : α} {χ : α → Prop} (h : KV v χ) (w : ∀ z, χ z → φ z) : KV v φ := w v h
end KEPT
theorem kp_f_X10_within {k0 : Int32} {k1 : Int32} {k2 : Int32} : KV (f_X10_within k0 k1 k2) (fun (r : Int32) => ¬ r = (4 : Int32)) := by
  unfold f_X10_within
  refine kv_i ?_ ?_
  · skip
    exact kv_s (show ¬ (0 : Int32) = 4 by decide)
  · skip
    refine kv_i ?_ ?_
    · skip
      exact kv_s (show ¬ (0 : Int32) = 4 by decide)
    · skip
      exact kv_s (show ¬ (1 : Int32) = 4 by decide)
theorem kp_f_X6_hasAsker {k1 : Int32} {p_p : TX6_p} : KV (f_X6_hasAsker k1 p_p) (fun (r : Int32) => ¬ r = (4 : Int32)) := by
  unfold f_X6_hasAsker
  refine kv_n (kp_f_X10_within ) (fun o8 h1 => ?_)
  exact kv_s h1
theorem kp_f_X10_askerTrouble {k1 : Int32} {p_p : TX6_p} : KV (f_X10_askerTrouble k1 p_p) (fun (r : Int32) => ¬ r = (4 : Int32)) := by
  unfold f_X10_askerTrouble
  refine kv_n (kp_f_X6_hasAsker ) (fun o5 h1 => ?_)
  refine kv_i ?_ ?_
  · skip
    exact kv_s (show ¬ (1 : Int32) = 4 by decide)
  · skip
    exact kv_s (show ¬ (0 : Int32) = 4 by decide)
theorem kp_f_X6_hasSpot {k1 : Int32} {p_p : TX6_p} : KV (f_X6_hasSpot k1 p_p) (fun (r : Int32) => ¬ r = (4 : Int32)) := by
  unfold f_X6_hasSpot
  refine kv_n (kp_f_X10_within ) (fun o8 h1 => ?_)
  exact kv_s h1
theorem kp_f_X6_hasBait {k1 : Int32} {p_p : TX6_p} : KV (f_X6_hasBait k1 p_p) (fun (r : Int32) => ¬ r = (4 : Int32)) := by
  unfold f_X6_hasBait
  refine kv_n (kp_f_X10_within ) (fun o8 h1 => ?_)
  exact kv_s h1
theorem kp_f_X10_questionTrouble {k1 : Int32} {k2 : Int32} {k3 : Int32} {p_p : TX6_p} : KV (f_X10_questionTrouble k1 k2 k3 p_p) (fun (r : Int32) => ¬ r = (4 : Int32)) := by
  unfold f_X10_questionTrouble
  refine kv_n (kp_f_X6_hasSpot ) (fun o5 h1 => ?_)
  refine kv_i ?_ ?_
  · skip
    exact kv_s (show ¬ (1 : Int32) = 4 by decide)
  · skip
    refine kv_n (kp_f_X6_hasBait ) (fun o16 h2 => ?_)
    refine kv_i ?_ ?_
    · skip
      exact kv_s (show ¬ (1 : Int32) = 4 by decide)
    · skip
      refine kv_n (kp_f_X10_within ) (fun o33 h3 => ?_)
      refine kv_i ?_ ?_
      · skip
        exact kv_s (show ¬ (2 : Int32) = 4 by decide)
      · skip
        exact kv_s (show ¬ (0 : Int32) = 4 by decide)
theorem kp_f_X6_isClose {k1 : Int32} {p_p : TX6_p} : KV (f_X6_isClose k1 p_p) (fun (r : Int32) => ¬ r = (4 : Int32)) := by
  unfold f_X6_isClose
  refine kv_n (kp_f_X10_within ) (fun o9 h1 => ?_)
  exact kv_s h1
theorem kp_f_X10_letTrouble_J59 {v22_l5 : Int32} (hN_v22_l5 : ¬ v22_l5 = (4 : Int32)) : KP (f_X10_letTrouble_J59 v22_l5) (fun (r : Int32) => ¬ r = (4 : Int32)) := by
  unfold f_X10_letTrouble_J59
  exact kp_s hN_v22_l5
theorem kp_f_X10_letTrouble_J22 {k1 : Int32} {p_p : TX6_p} {n_n : TX4_n} {v22_l5 : Int32} (hN_v22_l5 : ¬ v22_l5 = (4 : Int32)) : KP (f_X10_letTrouble_J22 k1 p_p n_n v22_l5) (fun (r : Int32) => ¬ r = (4 : Int32)) := by
  unfold f_X10_letTrouble_J22
  refine kp_i ?_ ?_
  · skip
    refine kp_gA ?_
    refine kp_i ?_ ?_
    · skip
      refine kp_n (kp_f_X6_isClose ) (fun o51 h1 => ?_)
      refine kp_i ?_ ?_
      · skip
        exact (kp_f_X10_letTrouble_J59 hN_v22_l5)
      · skip
        exact kp_s (show ¬ (5 : Int32) = 4 by decide)
    · skip
      exact kp_s (show ¬ (5 : Int32) = 4 by decide)
  · skip
    exact (kp_f_X10_letTrouble_J59 hN_v22_l5)
theorem kp_f_X10_letTrouble {k1 : Int32} {k2 : Int32} {k3 : Int32} {k4 : Int32} {p_p : TX6_p} {n_n : TX4_n} : KP (f_X10_letTrouble k1 k2 k3 k4 p_p n_n) (fun (r : Int32) => ¬ r = (4 : Int32)) := by
  unfold f_X10_letTrouble
  refine kp_n (kp_f_X10_askerTrouble ) (fun o2 h1 => ?_)
  refine kp_i ?_ ?_
  · skip
    refine kp_n (kp_f_X10_questionTrouble ) (fun o17 h2 => ?_)
    exact (kp_f_X10_letTrouble_J22 h2)
  · skip
    exact (kp_f_X10_letTrouble_J22 h1)
theorem kp_f_X10_refused {F0 : Int32} {k1 : Int32} {x_x : TX10_x} (hN_k1 : ¬ k1 = (4 : Int32)) (hF_x_x_2 : x_x.2 = F0) : KV (f_X10_refused k1 x_x) (fun (r : Int32 × TX10_x) => ¬ r.1 = (4 : Int32) ∧ ¬ r.2.1 = (4 : Int32) ∧ r.2.2 = F0) := by
  unfold f_X10_refused
  refine kv_i ?_ ?_
  · skip
    exact kv_s ⟨(show ¬ (0 : Int32) = 4 by decide), hN_k1, hF_x_x_2⟩
  · skip
    exact kv_s ⟨(show ¬ (1 : Int32) = 4 by decide), hN_k1, hF_x_x_2⟩
theorem kp_f_X10_let {F0 : Int32} {k1 : Int32} {k2 : Int32} {k3 : Int32} {k4 : Int32} {x_x : TX10_x} {n_n : TX4_n} {p_p : TX6_p} {n2_n : TX4_n} {h_h : TX2_h} (hF_x_x_2 : x_x.2 = F0) : KP (f_X10_let k1 k2 k3 k4 x_x n_n p_p n2_n h_h) (fun (r : Int32 × TX10_x × TX4_n × TX4_n × TX2_h) => ¬ r.1 = (4 : Int32) ∧ ¬ r.2.1.1 = (4 : Int32) ∧ r.2.1.2 = F0) := by
  unfold f_X10_let
  refine kp_b (kp_f_X10_letTrouble ) (fun o7 h1 => ?_)
  refine kp_n (kp_f_X10_refused h1 hF_x_x_2) (fun o10 h2 => ?_)
  refine kp_i ?_ ?_
  · skip
    refine kp_b0 (fun o26 => ?_)
    refine kp_n0 (fun o41 => ?_)
    refine kp_gA ?_
    exact kp_s ⟨(show ¬ (1 : Int32) = 4 by decide), h2.2.1, h2.2.2⟩
  · skip
    exact kp_s ⟨(show ¬ (0 : Int32) = 4 by decide), h2.2.1, h2.2.2⟩
theorem kp_f_X10_drawIn_J29 {F0 : Int32} {k1 : Int32} {x_x : TX10_x} {n_n : TX4_n} {n2_n : TX4_n} {h_h : TX2_h} {v29_t1 : Int32} (hF_x_x_2 : x_x.2 = F0) (hN_v29_t1 : ¬ v29_t1 = (4 : Int32)) : KP (f_X10_drawIn_J29 k1 x_x n_n n2_n h_h v29_t1) (fun (r : Int32 × TX10_x × TX4_n × TX4_n × TX2_h) => ¬ r.1 = (4 : Int32) ∧ ¬ r.2.1.1 = (4 : Int32) ∧ r.2.1.2 = F0) := by
  unfold f_X10_drawIn_J29
  refine kp_n (kp_f_X10_refused hN_v29_t1 hF_x_x_2) (fun o29 h1 => ?_)
  refine kp_i ?_ ?_
  · skip
    refine kp_b0 (fun o45 => ?_)
    refine kp_gA ?_
    exact kp_s ⟨(show ¬ (1 : Int32) = 4 by decide), h1.2.1, h1.2.2⟩
  · skip
    exact kp_s ⟨(show ¬ (0 : Int32) = 4 by decide), h1.2.1, h1.2.2⟩
theorem kp_f_X10_drawIn_J28 {F0 : Int32} {k1 : Int32} {x_x : TX10_x} {n_n : TX4_n} {n2_n : TX4_n} {h_h : TX2_h} {o2 : Int32} (hF_x_x_2 : x_x.2 = F0) (hN_o2 : ¬ o2 = (4 : Int32)) : KP (f_X10_drawIn_J28 k1 x_x n_n n2_n h_h o2) (fun (r : Int32 × TX10_x × TX4_n × TX4_n × TX2_h) => ¬ r.1 = (4 : Int32) ∧ ¬ r.2.1.1 = (4 : Int32) ∧ r.2.1.2 = F0) := by
  unfold f_X10_drawIn_J28
  exact (kp_f_X10_drawIn_J29 hF_x_x_2 hN_o2)
theorem kp_f_X10_drawIn {F0 : Int32} {k1 : Int32} {x_x : TX10_x} {n_n : TX4_n} {p_p : TX6_p} {n2_n : TX4_n} {h_h : TX2_h} (hF_x_x_2 : x_x.2 = F0) : KP (f_X10_drawIn k1 x_x n_n p_p n2_n h_h) (fun (r : Int32 × TX10_x × TX4_n × TX4_n × TX2_h) => ¬ r.1 = (4 : Int32) ∧ ¬ r.2.1.1 = (4 : Int32) ∧ r.2.1.2 = F0) := by
  unfold f_X10_drawIn
  refine kp_n (kp_f_X10_askerTrouble ) (fun o2 h1 => ?_)
  refine kp_i ?_ ?_
  · skip
    refine kp_gA ?_
    refine kp_i ?_ ?_
    · skip
      exact (kp_f_X10_drawIn_J29 hF_x_x_2 (show ¬ (5 : Int32) = 4 by decide))
    · skip
      exact (kp_f_X10_drawIn_J28 hF_x_x_2 h1)
  · skip
    exact (kp_f_X10_drawIn_J28 hF_x_x_2 h1)
theorem kp_f_X6_hasAnswer {k1 : Int32} {p_p : TX6_p} : KV (f_X6_hasAnswer k1 p_p) (fun (r : Int32) => ¬ r = (4 : Int32)) := by
  unfold f_X6_hasAnswer
  refine kv_n (kp_f_X10_within ) (fun o8 h1 => ?_)
  exact kv_s h1
theorem kp_f_X10_answerTrouble {k1 : Int32} {p_p : TX6_p} : KV (f_X10_answerTrouble k1 p_p) (fun (r : Int32) => ¬ r = (4 : Int32)) := by
  unfold f_X10_answerTrouble
  refine kv_n (kp_f_X6_hasAnswer ) (fun o5 h1 => ?_)
  refine kv_i ?_ ?_
  · skip
    exact kv_s (show ¬ (1 : Int32) = 4 by decide)
  · skip
    exact kv_s (show ¬ (0 : Int32) = 4 by decide)
theorem kp_f_X10_sell_J29 {F0 : Int32} {k1 : Int32} {x_x : TX10_x} {n_n : TX4_n} {p_p : TX6_p} {n2_n : TX4_n} {h_h : TX2_h} {v29_t1 : Int32} (hF_x_x_2 : x_x.2 = F0) (hN_v29_t1 : ¬ v29_t1 = (4 : Int32)) : KP (f_X10_sell_J29 k1 x_x n_n p_p n2_n h_h v29_t1) (fun (r : Int32 × TX10_x × TX4_n × TX4_n × TX2_h) => ¬ r.2.1.1 = (4 : Int32) ∧ r.2.1.2 = F0) := by
  unfold f_X10_sell_J29
  refine kp_n (kp_f_X10_refused hN_v29_t1 hF_x_x_2) (fun o29 h1 => ?_)
  refine kp_i ?_ ?_
  · skip
    refine kp_b0 (fun o45 => ?_)
    refine kp_b0 (fun o64 => ?_)
    refine kp_gA ?_
    exact kp_s ⟨h1.2.1, h1.2.2⟩
  · skip
    exact kp_s ⟨h1.2.1, h1.2.2⟩
theorem kp_f_X10_sell_J28 {F0 : Int32} {k1 : Int32} {x_x : TX10_x} {n_n : TX4_n} {p_p : TX6_p} {n2_n : TX4_n} {h_h : TX2_h} {o2 : Int32} (hF_x_x_2 : x_x.2 = F0) (hN_o2 : ¬ o2 = (4 : Int32)) : KP (f_X10_sell_J28 k1 x_x n_n p_p n2_n h_h o2) (fun (r : Int32 × TX10_x × TX4_n × TX4_n × TX2_h) => ¬ r.2.1.1 = (4 : Int32) ∧ r.2.1.2 = F0) := by
  unfold f_X10_sell_J28
  exact (kp_f_X10_sell_J29 hF_x_x_2 hN_o2)
theorem kp_f_X10_sell {F0 : Int32} {k1 : Int32} {x_x : TX10_x} {n_n : TX4_n} {p_p : TX6_p} {n2_n : TX4_n} {h_h : TX2_h} (hF_x_x_2 : x_x.2 = F0) : KP (f_X10_sell k1 x_x n_n p_p n2_n h_h) (fun (r : Int32 × TX10_x × TX4_n × TX4_n × TX2_h) => ¬ r.2.1.1 = (4 : Int32) ∧ r.2.1.2 = F0) := by
  unfold f_X10_sell
  refine kp_n (kp_f_X10_answerTrouble ) (fun o2 h1 => ?_)
  refine kp_i ?_ ?_
  · skip
    refine kp_gA ?_
    refine kp_i ?_ ?_
    · skip
      exact (kp_f_X10_sell_J28 hF_x_x_2 h1)
    · skip
      exact (kp_f_X10_sell_J29 hF_x_x_2 (show ¬ (5 : Int32) = 4 by decide))
  · skip
    exact (kp_f_X10_sell_J28 hF_x_x_2 h1)
theorem kp_f_X10_pierTrouble {p_p : TX6_p} : KV (f_X10_pierTrouble p_p) (fun (r : Int32) => ¬ r = (4 : Int32)) := by
  unfold f_X10_pierTrouble
  refine kv_i ?_ ?_
  · skip
    exact kv_s (show ¬ (1 : Int32) = 4 by decide)
  · skip
    exact kv_s (show ¬ (0 : Int32) = 4 by decide)
theorem kp_f_X6_isTangle {k1 : Int32} {k2 : Int32} {k3 : Int32} {k4 : Int32} {p_p : TX6_p} : KP (f_X6_isTangle k1 k2 k3 k4 p_p) (fun (r : Int32) => ¬ r = (4 : Int32)) := by
  unfold f_X6_isTangle
  refine kp_n0 (fun z4 => ?_)
  refine kp_gA ?_
  refine kp_gA ?_
  refine kp_n0 (fun z19 => ?_)
  refine kp_i ?_ ?_
  · skip
    exact kp_s (show ¬ (0 : Int32) = 4 by decide)
  · skip
    exact kp_s (show ¬ (1 : Int32) = 4 by decide)
theorem kp_f_X4_isTangled_J52 {k3_ : Int32 → Option Int32} {v3_l4 : Int32} (hk3 : ∀ (v3_l4 : Int32), KP (k3_ v3_l4) (fun (r : Int32) => ¬ r = (4 : Int32))) : KP (f_X4_isTangled_J52 k3_ v3_l4) (fun (r : Int32) => ¬ r = (4 : Int32)) := by
  unfold f_X4_isTangled_J52
  exact hk3 _ 
theorem kp_f_X4_isTangled_L3 {k2 : Int32} {k3 : Int32} {n_n : TX4_n} {p_p : TX6_p} : ∀ (n : Nat) (v3_l4 : Int32), KP (f_X4_isTangled_L3 k2 k3 n_n p_p n v3_l4) (fun (r : Int32) => ¬ r = (4 : Int32)) := by
  intro n
  induction n with
  | zero =>
    intro v3_l4 
    exact kp_o
  | succ n ih =>
    intro v3_l4 
    rw [f_X4_isTangled_L3]
    refine kp_i ?_ ?_
    · skip
      exact kp_s (show ¬ (0 : Int32) = 4 by decide)
    · skip
      refine kp_i ?_ ?_
      · skip
        exact (kp_f_X4_isTangled_J52 ih)
      · skip
        refine kp_gA ?_
        refine kp_i ?_ ?_
        · skip
          exact (kp_f_X4_isTangled_J52 ih)
        · skip
          refine kp_gA ?_
          refine kp_n0 (fun o41 => ?_)
          refine kp_b (kp_f_X6_isTangle ) (fun o44 h1 => ?_)
          refine kp_i ?_ ?_
          · skip
            exact (kp_f_X4_isTangled_J52 ih)
          · skip
            exact kp_s (show ¬ (1 : Int32) = 4 by decide)
theorem kp_f_X4_isTangled {k2 : Int32} {k3 : Int32} {n_n : TX4_n} {p_p : TX6_p} : KP (f_X4_isTangled k2 k3 n_n p_p) (fun (r : Int32) => ¬ r = (4 : Int32)) := by
  unfold f_X4_isTangled
  exact (kp_f_X4_isTangled_L3  FU _ )
theorem kp_f_X10_day_J28 {F0 : Int32} {x_x : TX10_x} {n_n : TX4_n} {p_p : TX6_p} {n2_n : TX4_n} {h_h : TX2_h} {y_y : TX1_y} {v28_t1 : Int32} (hF_x_x_2 : x_x.2 = F0) (hN_v28_t1 : ¬ v28_t1 = (4 : Int32)) : KP (f_X10_day_J28 x_x n_n p_p n2_n h_h y_y v28_t1) (fun (r : Int32 × TX10_x × TX4_n × TX4_n × TX2_h × TX1_y) => ¬ r.2.1.1 = (4 : Int32) ∧ r.2.1.2 = F0) := by
  unfold f_X10_day_J28
  refine kp_n (kp_f_X10_refused hN_v28_t1 hF_x_x_2) (fun o28 h1 => ?_)
  refine kp_i ?_ ?_
  · skip
    refine kp_b0 (fun o44 => ?_)
    refine kp_b0 (fun o59 => ?_)
    exact kp_s ⟨h1.2.1, h1.2.2⟩
  · skip
    exact kp_s ⟨h1.2.1, h1.2.2⟩
theorem kp_f_X10_day_J27 {F0 : Int32} {x_x : TX10_x} {n_n : TX4_n} {p_p : TX6_p} {n2_n : TX4_n} {h_h : TX2_h} {y_y : TX1_y} {o1 : Int32} (hF_x_x_2 : x_x.2 = F0) (hN_o1 : ¬ o1 = (4 : Int32)) : KP (f_X10_day_J27 x_x n_n p_p n2_n h_h y_y o1) (fun (r : Int32 × TX10_x × TX4_n × TX4_n × TX2_h × TX1_y) => ¬ r.2.1.1 = (4 : Int32) ∧ r.2.1.2 = F0) := by
  unfold f_X10_day_J27
  exact (kp_f_X10_day_J28 hF_x_x_2 hN_o1)
theorem kp_f_X10_day {F0 : Int32} {x_x : TX10_x} {n_n : TX4_n} {p_p : TX6_p} {n2_n : TX4_n} {h_h : TX2_h} {y_y : TX1_y} (hF_x_x_2 : x_x.2 = F0) : KP (f_X10_day x_x n_n p_p n2_n h_h y_y) (fun (r : Int32 × TX10_x × TX4_n × TX4_n × TX2_h × TX1_y) => ¬ r.2.1.1 = (4 : Int32) ∧ r.2.1.2 = F0) := by
  unfold f_X10_day
  refine kp_n (kp_f_X10_pierTrouble ) (fun o1 h1 => ?_)
  refine kp_i ?_ ?_
  · skip
    refine kp_i ?_ ?_
    · skip
      exact (kp_f_X10_day_J27 hF_x_x_2 h1)
    · skip
      exact (kp_f_X10_day_J28 hF_x_x_2 (show ¬ (3 : Int32) = 4 by decide))
  · skip
    exact (kp_f_X10_day_J27 hF_x_x_2 h1)
theorem kp_f_X10_numberTrouble_J17 {o1 : Int32} (hN_o1 : ¬ o1 = (4 : Int32)) : KV (f_X10_numberTrouble_J17 o1) (fun (r : Int32) => ¬ r = (4 : Int32)) := by
  unfold f_X10_numberTrouble_J17
  exact kv_s hN_o1
theorem kp_f_X10_numberTrouble {k1 : Int32} {p_p : TX6_p} (hN_k1 : ¬ k1 = (4 : Int32)) : KV (f_X10_numberTrouble k1 p_p) (fun (r : Int32) => ¬ r = (4 : Int32)) := by
  unfold f_X10_numberTrouble
  refine kv_n (kp_f_X10_pierTrouble ) (fun o1 h1 => ?_)
  refine kv_i ?_ ?_
  · skip
    refine kv_i ?_ ?_
    · skip
      exact kv_s (show ¬ (2 : Int32) = 4 by decide)
    · skip
      exact (kp_f_X10_numberTrouble_J17 h1)
  · skip
    exact (kp_f_X10_numberTrouble_J17 h1)
theorem kp_f_X10_seed {F0 : Int32} {k1 : Int32} {x_x : TX10_x} {p_p : TX6_p} {n_n : TX4_n} (hF_x_x_2 : x_x.2 = F0) : KV (f_X10_seed k1 x_x p_p n_n) (fun (r : Int32 × TX10_x × TX4_n) => ¬ r.1 = (4 : Int32) ∧ ¬ r.2.1.1 = (4 : Int32) ∧ r.2.1.2 = F0) := by
  unfold f_X10_seed
  refine kv_n (kp_f_X10_within ) (fun o7 h1 => ?_)
  refine kv_n (kp_f_X10_numberTrouble h1) (fun o10 h2 => ?_)
  refine kv_n (kp_f_X10_refused h2 hF_x_x_2) (fun o13 h3 => ?_)
  refine kv_i ?_ ?_
  · skip
    exact kv_s ⟨(show ¬ (1 : Int32) = 4 by decide), h3.2.1, h3.2.2⟩
  · skip
    exact kv_s ⟨(show ¬ (0 : Int32) = 4 by decide), h3.2.1, h3.2.2⟩
theorem kp_f_X10_undo_J17 {F0 : Int32} {x_x : TX10_x} {n_n : TX4_n} {n2_n : TX4_n} {h_h : TX2_h} {v17_t1 : Int32} (hF_x_x_2 : x_x.2 = F0) (hN_v17_t1 : ¬ v17_t1 = (4 : Int32)) : KP (f_X10_undo_J17 x_x n_n n2_n h_h v17_t1) (fun (r : Int32 × TX10_x × TX4_n × TX2_h) => ¬ r.1 = (4 : Int32) ∧ ¬ r.2.1.1 = (4 : Int32) ∧ r.2.1.2 = F0) := by
  unfold f_X10_undo_J17
  refine kp_n (kp_f_X10_refused hN_v17_t1 hF_x_x_2) (fun o17 h1 => ?_)
  refine kp_i ?_ ?_
  · skip
    refine kp_b0 (fun o33 => ?_)
    exact kp_s ⟨(show ¬ (1 : Int32) = 4 by decide), h1.2.1, h1.2.2⟩
  · skip
    exact kp_s ⟨(show ¬ (0 : Int32) = 4 by decide), h1.2.1, h1.2.2⟩
theorem kp_f_X10_undo {F0 : Int32} {x_x : TX10_x} {n_n : TX4_n} {n2_n : TX4_n} {h_h : TX2_h} (hF_x_x_2 : x_x.2 = F0) : KP (f_X10_undo x_x n_n n2_n h_h) (fun (r : Int32 × TX10_x × TX4_n × TX2_h) => ¬ r.1 = (4 : Int32) ∧ ¬ r.2.1.1 = (4 : Int32) ∧ r.2.1.2 = F0) := by
  unfold f_X10_undo
  refine kp_i ?_ ?_
  · skip
    exact (kp_f_X10_undo_J17 hF_x_x_2 (show ¬ (6 : Int32) = 4 by decide))
  · skip
    exact (kp_f_X10_undo_J17 hF_x_x_2 (show ¬ (0 : Int32) = 4 by decide))
theorem kp_f_X10_mark_J26 {F0 : Int32} {x_x : TX10_x} {n_n : TX4_n} {n2_n : TX4_n} {h_h : TX2_h} {v26_t1 : Int32} (hF_x_x_2 : x_x.2 = F0) (hN_v26_t1 : ¬ v26_t1 = (4 : Int32)) : KP (f_X10_mark_J26 x_x n_n n2_n h_h v26_t1) (fun (r : Int32 × TX10_x × TX4_n × TX2_h) => ¬ r.2.1.1 = (4 : Int32) ∧ r.2.1.2 = F0) := by
  unfold f_X10_mark_J26
  refine kp_n (kp_f_X10_refused hN_v26_t1 hF_x_x_2) (fun o26 h1 => ?_)
  refine kp_i ?_ ?_
  · skip
    refine kp_b0 (fun o42 => ?_)
    exact kp_s ⟨h1.2.1, h1.2.2⟩
  · skip
    exact kp_s ⟨h1.2.1, h1.2.2⟩
theorem kp_f_X10_mark_J25 {F0 : Int32} {x_x : TX10_x} {n_n : TX4_n} {n2_n : TX4_n} {h_h : TX2_h} {o1 : Int32} (hF_x_x_2 : x_x.2 = F0) (hN_o1 : ¬ o1 = (4 : Int32)) : KP (f_X10_mark_J25 x_x n_n n2_n h_h o1) (fun (r : Int32 × TX10_x × TX4_n × TX2_h) => ¬ r.2.1.1 = (4 : Int32) ∧ r.2.1.2 = F0) := by
  unfold f_X10_mark_J25
  exact (kp_f_X10_mark_J26 hF_x_x_2 hN_o1)
theorem kp_f_X10_mark {F0 : Int32} {x_x : TX10_x} {n_n : TX4_n} {p_p : TX6_p} {n2_n : TX4_n} {h_h : TX2_h} (hF_x_x_2 : x_x.2 = F0) : KP (f_X10_mark x_x n_n p_p n2_n h_h) (fun (r : Int32 × TX10_x × TX4_n × TX2_h) => ¬ r.2.1.1 = (4 : Int32) ∧ r.2.1.2 = F0) := by
  unfold f_X10_mark
  refine kp_n (kp_f_X10_pierTrouble ) (fun o1 h1 => ?_)
  refine kp_i ?_ ?_
  · skip
    refine kp_i ?_ ?_
    · skip
      exact (kp_f_X10_mark_J25 hF_x_x_2 h1)
    · skip
      exact (kp_f_X10_mark_J26 hF_x_x_2 (show ¬ (3 : Int32) = 4 by decide))
  · skip
    exact (kp_f_X10_mark_J25 hF_x_x_2 h1)
theorem kp_f_X10_back_J23 {F0 : Int32} {k1 : Int32} {x_x : TX10_x} {n_n : TX4_n} {n2_n : TX4_n} {h_h : TX2_h} {v23_t1 : Int32} (hF_x_x_2 : x_x.2 = F0) (hN_v23_t1 : ¬ v23_t1 = (4 : Int32)) : KP (f_X10_back_J23 k1 x_x n_n n2_n h_h v23_t1) (fun (r : Int32 × TX10_x × TX4_n × TX2_h) => ¬ r.1 = (4 : Int32) ∧ ¬ r.2.1.1 = (4 : Int32) ∧ r.2.1.2 = F0) := by
  unfold f_X10_back_J23
  refine kp_n (kp_f_X10_refused hN_v23_t1 hF_x_x_2) (fun o23 h1 => ?_)
  refine kp_i ?_ ?_
  · skip
    refine kp_b0 (fun o40 => ?_)
    exact kp_s ⟨(show ¬ (1 : Int32) = 4 by decide), h1.2.1, h1.2.2⟩
  · skip
    exact kp_s ⟨(show ¬ (0 : Int32) = 4 by decide), h1.2.1, h1.2.2⟩
theorem kp_f_X10_back {F0 : Int32} {k1 : Int32} {x_x : TX10_x} {n_n : TX4_n} {n2_n : TX4_n} {h_h : TX2_h} (hF_x_x_2 : x_x.2 = F0) : KP (f_X10_back k1 x_x n_n n2_n h_h) (fun (r : Int32 × TX10_x × TX4_n × TX2_h) => ¬ r.1 = (4 : Int32) ∧ ¬ r.2.1.1 = (4 : Int32) ∧ r.2.1.2 = F0) := by
  unfold f_X10_back
  refine kp_n (kp_f_X10_within ) (fun o12 h1 => ?_)
  refine kp_i ?_ ?_
  · skip
    exact (kp_f_X10_back_J23 hF_x_x_2 (show ¬ (1 : Int32) = 4 by decide))
  · skip
    exact (kp_f_X10_back_J23 hF_x_x_2 (show ¬ (0 : Int32) = 4 by decide))
theorem kp_f_X10_answer_J20 {F0 : Int32} {k1 : Int32} {k2 : Int32} {x_x : TX10_x} {p_p : TX6_p} {n_n : TX4_n} {v20_t1 : Int32} (hF_x_x_2 : x_x.2 = F0) (hN_v20_t1 : ¬ v20_t1 = (4 : Int32)) : KP (f_X10_answer_J20 k1 k2 x_x p_p n_n v20_t1) (fun (r : Int32 × TX10_x) => ¬ r.2.1 = (4 : Int32) ∧ r.2.2 = F0) := by
  unfold f_X10_answer_J20
  refine kp_n (kp_f_X10_refused hN_v20_t1 hF_x_x_2) (fun o20 h1 => ?_)
  refine kp_i ?_ ?_
  · skip
    refine kp_i ?_ ?_
    · skip
      refine kp_gA ?_
      exact kp_s ⟨h1.2.1, h1.2.2⟩
    · skip
      refine kp_i ?_ ?_
      · skip
        refine kp_gA ?_
        exact kp_s ⟨h1.2.1, h1.2.2⟩
      · skip
        refine kp_i ?_ ?_
        · skip
          refine kp_gA ?_
          exact kp_s ⟨h1.2.1, h1.2.2⟩
        · skip
          refine kp_i ?_ ?_
          · skip
            refine kp_gA ?_
            exact kp_s ⟨h1.2.1, h1.2.2⟩
          · skip
            refine kp_i ?_ ?_
            · skip
              refine kp_gA ?_
              exact kp_s ⟨h1.2.1, h1.2.2⟩
            · skip
              refine kp_i ?_ ?_
              · skip
                refine kp_gA ?_
                exact kp_s ⟨h1.2.1, h1.2.2⟩
              · skip
                refine kp_i ?_ ?_
                · skip
                  refine kp_gA ?_
                  exact kp_s ⟨h1.2.1, h1.2.2⟩
                · skip
                  refine kp_i ?_ ?_
                  · skip
                    refine kp_gA ?_
                    refine kp_i ?_ ?_
                    · skip
                      exact kp_s ⟨h1.2.1, h1.2.2⟩
                    · skip
                      refine kp_gA ?_
                      exact kp_s ⟨h1.2.1, h1.2.2⟩
                  · skip
                    refine kp_i ?_ ?_
                    · skip
                      refine kp_gA ?_
                      refine kp_i ?_ ?_
                      · skip
                        exact kp_s ⟨h1.2.1, h1.2.2⟩
                      · skip
                        refine kp_gA ?_
                        exact kp_s ⟨h1.2.1, h1.2.2⟩
                    · skip
                      refine kp_gA ?_
                      refine kp_i ?_ ?_
                      · skip
                        refine kp_b0 (fun o233 => ?_)
                        exact kp_s ⟨h1.2.1, h1.2.2⟩
                      · skip
                        exact kp_s ⟨h1.2.1, h1.2.2⟩
  · skip
    exact kp_s ⟨h1.2.1, h1.2.2⟩
theorem kp_f_X10_answer {F0 : Int32} {k1 : Int32} {k2 : Int32} {x_x : TX10_x} {p_p : TX6_p} {n_n : TX4_n} (hF_x_x_2 : x_x.2 = F0) : KP (f_X10_answer k1 k2 x_x p_p n_n) (fun (r : Int32 × TX10_x) => ¬ r.2.1 = (4 : Int32) ∧ r.2.2 = F0) := by
  unfold f_X10_answer
  refine kp_n (kp_f_X10_within ) (fun o5 h1 => ?_)
  refine kp_i ?_ ?_
  · skip
    exact (kp_f_X10_answer_J20 hF_x_x_2 (show ¬ (1 : Int32) = 4 by decide))
  · skip
    refine kp_n (kp_f_X10_answerTrouble ) (fun o13 h2 => ?_)
    exact (kp_f_X10_answer_J20 hF_x_x_2 h2)
theorem kp_f_X10_asker_J19 {F0 : Int32} {k1 : Int32} {k2 : Int32} {x_x : TX10_x} {p_p : TX6_p} {n_n : TX4_n} {v19_t1 : Int32} (hF_x_x_2 : x_x.2 = F0) (hN_v19_t1 : ¬ v19_t1 = (4 : Int32)) : KP (f_X10_asker_J19 k1 k2 x_x p_p n_n v19_t1) (fun (r : Int32 × TX10_x) => ¬ r.2.1 = (4 : Int32) ∧ r.2.2 = F0) := by
  unfold f_X10_asker_J19
  refine kp_n (kp_f_X10_refused hN_v19_t1 hF_x_x_2) (fun o19 h1 => ?_)
  refine kp_i ?_ ?_
  · skip
    refine kp_gA ?_
    refine kp_i ?_ ?_
    · skip
      refine kp_gA ?_
      exact kp_s ⟨h1.2.1, h1.2.2⟩
    · skip
      refine kp_i ?_ ?_
      · skip
        refine kp_i ?_ ?_
        · skip
          exact kp_s ⟨h1.2.1, h1.2.2⟩
        · skip
          refine kp_n0 (fun o93 => ?_)
          exact kp_s ⟨h1.2.1, h1.2.2⟩
      · skip
        refine kp_i ?_ ?_
        · skip
          refine kp_i ?_ ?_
          · skip
            exact kp_s ⟨h1.2.1, h1.2.2⟩
          · skip
            refine kp_n0 (fun o108 => ?_)
            exact kp_s ⟨h1.2.1, h1.2.2⟩
        · skip
          refine kp_i ?_ ?_
          · skip
            refine kp_i ?_ ?_
            · skip
              exact kp_s ⟨h1.2.1, h1.2.2⟩
            · skip
              refine kp_n0 (fun o123 => ?_)
              exact kp_s ⟨h1.2.1, h1.2.2⟩
          · skip
            refine kp_i ?_ ?_
            · skip
              refine kp_b0 (fun o139 => ?_)
              exact kp_s ⟨h1.2.1, h1.2.2⟩
            · skip
              refine kp_i ?_ ?_
              · skip
                exact kp_s ⟨h1.2.1, h1.2.2⟩
              · skip
                refine kp_n0 (fun o158 => ?_)
                refine kp_b (kp_f_X4_isTangled ) (fun o161 h2 => ?_)
                refine kp_i ?_ ?_
                · skip
                  exact kp_s ⟨h1.2.1, h1.2.2⟩
                · skip
                  exact kp_s ⟨h1.2.1, h1.2.2⟩
  · skip
    exact kp_s ⟨h1.2.1, h1.2.2⟩
theorem kp_f_X10_asker {F0 : Int32} {k1 : Int32} {k2 : Int32} {x_x : TX10_x} {p_p : TX6_p} {n_n : TX4_n} (hF_x_x_2 : x_x.2 = F0) : KP (f_X10_asker k1 k2 x_x p_p n_n) (fun (r : Int32 × TX10_x) => ¬ r.2.1 = (4 : Int32) ∧ r.2.2 = F0) := by
  unfold f_X10_asker
  refine kp_n (kp_f_X10_within ) (fun o4 h1 => ?_)
  refine kp_i ?_ ?_
  · skip
    exact (kp_f_X10_asker_J19 hF_x_x_2 (show ¬ (1 : Int32) = 4 by decide))
  · skip
    refine kp_n (kp_f_X10_askerTrouble ) (fun o12 h2 => ?_)
    exact (kp_f_X10_asker_J19 hF_x_x_2 h2)
theorem kp_f_X10_close {F0 : Int32} {k1 : Int32} {x_x : TX10_x} {p_p : TX6_p} (hF_x_x_2 : x_x.2 = F0) : KV (f_X10_close k1 x_x p_p) (fun (r : Int32 × TX10_x) => ¬ r.1 = (4 : Int32) ∧ ¬ r.2.1 = (4 : Int32) ∧ r.2.2 = F0) := by
  unfold f_X10_close
  refine kv_n (kp_f_X10_within ) (fun o7 h1 => ?_)
  refine kv_n (kp_f_X10_numberTrouble h1) (fun o10 h2 => ?_)
  refine kv_n (kp_f_X10_refused h2 hF_x_x_2) (fun o13 h3 => ?_)
  refine kv_i ?_ ?_
  · skip
    refine kv_n (kp_f_X6_isClose ) (fun o26 h4 => ?_)
    refine kv_i ?_ ?_
    · skip
      exact kv_s ⟨(show ¬ (0 : Int32) = 4 by decide), h3.2.1, h3.2.2⟩
    · skip
      exact kv_s ⟨(show ¬ (1 : Int32) = 4 by decide), h3.2.1, h3.2.2⟩
  · skip
    exact kv_s ⟨(show ¬ (-1 : Int32) = 4 by decide), h3.2.1, h3.2.2⟩
theorem kp_f_X10_wishTrouble {k1 : Int32} {k2 : Int32} {k3 : Int32} {k4 : Int32} {p_p : TX6_p} : KV (f_X10_wishTrouble k1 k2 k3 k4 p_p) (fun (r : Int32) => ¬ r = (4 : Int32)) := by
  unfold f_X10_wishTrouble
  refine kv_n (kp_f_X10_answerTrouble ) (fun o2 h1 => ?_)
  refine kv_i ?_ ?_
  · skip
    refine kv_n (kp_f_X10_questionTrouble ) (fun o17 h2 => ?_)
    exact kv_s h2
  · skip
    exact kv_s h1
theorem kp_f_X10_wish {F0 : Int32} {k1 : Int32} {k2 : Int32} {k3 : Int32} {k4 : Int32} {x_x : TX10_x} {p_p : TX6_p} (hF_x_x_2 : x_x.2 = F0) : KP (f_X10_wish k1 k2 k3 k4 x_x p_p) (fun (r : Int32 × TX10_x) => ¬ r.2.1 = (4 : Int32) ∧ r.2.2 = F0) := by
  unfold f_X10_wish
  refine kp_n (kp_f_X10_wishTrouble ) (fun o7 h1 => ?_)
  refine kp_n (kp_f_X10_refused h1 hF_x_x_2) (fun o10 h2 => ?_)
  refine kp_i ?_ ?_
  · skip
    refine kp_n0 (fun o27 => ?_)
    refine kp_b0 (fun o30 => ?_)
    exact kp_s ⟨h2.2.1, h2.2.2⟩
  · skip
    exact kp_s ⟨h2.2.1, h2.2.2⟩
theorem kp_f_X10_takes {F0 : Int32} {k1 : Int32} {k2 : Int32} {k3 : Int32} {k4 : Int32} {k5 : Int32} {x_x : TX10_x} {p_p : TX6_p} {n_n : TX4_n} (hF_x_x_2 : x_x.2 = F0) : KP (f_X10_takes k1 k2 k3 k4 k5 x_x p_p n_n) (fun (r : Int64 × TX10_x) => ¬ r.2.1 = (4 : Int32) ∧ r.2.2 = F0) := by
  unfold f_X10_takes
  refine kp_n (kp_f_X10_wishTrouble ) (fun o7 h1 => ?_)
  refine kp_n (kp_f_X10_refused h1 hF_x_x_2) (fun o10 h2 => ?_)
  refine kp_i ?_ ?_
  · skip
    refine kp_n0 (fun o33 => ?_)
    refine kp_b0 (fun o36 => ?_)
    refine kp_b0 (fun o41 => ?_)
    exact kp_s ⟨h2.2.1, h2.2.2⟩
  · skip
    exact kp_s ⟨h2.2.1, h2.2.2⟩
theorem kp_f_X10_nothing {F0 : Int32} {k1 : Int32} {k2 : Int32} {k3 : Int32} {k4 : Int32} {x_x : TX10_x} {p_p : TX6_p} {n_n : TX4_n} (hF_x_x_2 : x_x.2 = F0) : KP (f_X10_nothing k1 k2 k3 k4 x_x p_p n_n) (fun (r : Int64 × TX10_x) => ¬ r.2.1 = (4 : Int32) ∧ r.2.2 = F0) := by
  unfold f_X10_nothing
  refine kp_n (kp_f_X10_questionTrouble ) (fun o5 h1 => ?_)
  refine kp_n (kp_f_X10_refused h1 hF_x_x_2) (fun o8 h2 => ?_)
  refine kp_i ?_ ?_
  · skip
    refine kp_n0 (fun o30 => ?_)
    refine kp_b0 (fun o33 => ?_)
    refine kp_b0 (fun o38 => ?_)
    exact kp_s ⟨h2.2.1, h2.2.2⟩
  · skip
    exact kp_s ⟨h2.2.1, h2.2.2⟩
theorem kp_f_X10_mean {F0 : Int32} {k1 : Int32} {k2 : Int32} {k3 : Int32} {k4 : Int32} {x_x : TX10_x} {p_p : TX6_p} {n_n : TX4_n} (hF_x_x_2 : x_x.2 = F0) : KP (f_X10_mean k1 k2 k3 k4 x_x p_p n_n) (fun (r : Int64 × TX10_x) => ¬ r.2.1 = (4 : Int32) ∧ r.2.2 = F0) := by
  unfold f_X10_mean
  refine kp_n (kp_f_X10_questionTrouble ) (fun o5 h1 => ?_)
  refine kp_n (kp_f_X10_refused h1 hF_x_x_2) (fun o8 h2 => ?_)
  refine kp_i ?_ ?_
  · skip
    refine kp_n0 (fun o29 => ?_)
    refine kp_b0 (fun o32 => ?_)
    refine kp_b0 (fun o37 => ?_)
    exact kp_s ⟨h2.2.1, h2.2.2⟩
  · skip
    exact kp_s ⟨h2.2.1, h2.2.2⟩
theorem kp_f_X10_likeliest {F0 : Int32} {k1 : Int32} {k2 : Int32} {k3 : Int32} {x_x : TX10_x} {p_p : TX6_p} {n_n : TX4_n} (hF_x_x_2 : x_x.2 = F0) : KP (f_X10_likeliest k1 k2 k3 x_x p_p n_n) (fun (r : Int32 × TX10_x) => ¬ r.2.1 = (4 : Int32) ∧ r.2.2 = F0) := by
  unfold f_X10_likeliest
  refine kp_n (kp_f_X10_questionTrouble ) (fun o5 h1 => ?_)
  refine kp_n (kp_f_X10_refused h1 hF_x_x_2) (fun o8 h2 => ?_)
  refine kp_i ?_ ?_
  · skip
    refine kp_n0 (fun o27 => ?_)
    refine kp_b0 (fun o30 => ?_)
    exact kp_s ⟨h2.2.1, h2.2.2⟩
  · skip
    exact kp_s ⟨h2.2.1, h2.2.2⟩
theorem kp_f_X10_thereTrouble_J26 {o2 : Int32} (hN_o2 : ¬ o2 = (4 : Int32)) : KP (f_X10_thereTrouble_J26 o2) (fun (r : Int32) => ¬ r = (4 : Int32)) := by
  unfold f_X10_thereTrouble_J26
  exact kp_s hN_o2
theorem kp_f_X10_thereTrouble {k1 : Int32} {p_p : TX6_p} {n_n : TX4_n} : KP (f_X10_thereTrouble k1 p_p n_n) (fun (r : Int32) => ¬ r = (4 : Int32)) := by
  unfold f_X10_thereTrouble
  refine kp_n (kp_f_X10_answerTrouble ) (fun o2 h1 => ?_)
  refine kp_i ?_ ?_
  · skip
    refine kp_gA ?_
    refine kp_i ?_ ?_
    · skip
      exact (kp_f_X10_thereTrouble_J26 h1)
    · skip
      exact kp_s (show ¬ (5 : Int32) = 4 by decide)
  · skip
    exact (kp_f_X10_thereTrouble_J26 h1)
theorem kp_f_X6_hasQuestion {k1 : Int32} {p_p : TX6_p} : KV (f_X6_hasQuestion k1 p_p) (fun (r : Int32) => ¬ r = (4 : Int32)) := by
  unfold f_X6_hasQuestion
  refine kv_n0 (fun o2 => ?_)
  refine kv_n (kp_f_X6_hasSpot ) (fun o5 h1 => ?_)
  refine kv_i ?_ ?_
  · skip
    exact kv_s (show ¬ (0 : Int32) = 4 by decide)
  · skip
    refine kv_n0 (fun o12 => ?_)
    refine kv_n (kp_f_X10_within ) (fun o20 h2 => ?_)
    refine kv_i ?_ ?_
    · skip
      exact kv_s (show ¬ (0 : Int32) = 4 by decide)
    · skip
      refine kv_n0 (fun o28 => ?_)
      refine kv_n (kp_f_X6_hasBait ) (fun o31 h3 => ?_)
      refine kv_i ?_ ?_
      · skip
        exact kv_s (show ¬ (0 : Int32) = 4 by decide)
      · skip
        exact kv_s (show ¬ (1 : Int32) = 4 by decide)
theorem kp_f_X10_surest {F0 : Int32} {k1 : Int32} {x_x : TX10_x} {p_p : TX6_p} {n_n : TX4_n} (hF_x_x_2 : x_x.2 = F0) : KP (f_X10_surest k1 x_x p_p n_n) (fun (r : Int32 × TX10_x) => ¬ r.2.1 = (4 : Int32) ∧ r.2.2 = F0) := by
  unfold f_X10_surest
  refine kp_b (kp_f_X10_thereTrouble ) (fun o3 h1 => ?_)
  refine kp_n (kp_f_X10_refused h1 hF_x_x_2) (fun o6 h2 => ?_)
  refine kp_i ?_ ?_
  · skip
    refine kp_b0 (fun o23 => ?_)
    exact kp_s ⟨h2.2.1, h2.2.2⟩
  · skip
    exact kp_s ⟨h2.2.1, h2.2.2⟩
theorem kp_f_X10_surestOdds_J52 {F0 : Int32} {k2 : Int32} {o6 : (Int32 × TX10_x)} {v52_t0 : Int64} (hN_o6_1 : ¬ o6.1 = (4 : Int32)) (hN_o6_2_1 : ¬ o6.2.1 = (4 : Int32)) (hF_o6_2_2 : o6.2.2 = F0) : KP (f_X10_surestOdds_J52 k2 o6 v52_t0) (fun (r : Int64 × TX10_x) => ¬ r.2.1 = (4 : Int32) ∧ r.2.2 = F0) := by
  unfold f_X10_surestOdds_J52
  refine kp_b0 (fun o53 => ?_)
  exact kp_s ⟨hN_o6_2_1, hF_o6_2_2⟩
theorem kp_f_X10_surestOdds {F0 : Int32} {k1 : Int32} {k2 : Int32} {x_x : TX10_x} {p_p : TX6_p} {n_n : TX4_n} (hF_x_x_2 : x_x.2 = F0) : KP (f_X10_surestOdds k1 k2 x_x p_p n_n) (fun (r : Int64 × TX10_x) => ¬ r.2.1 = (4 : Int32) ∧ r.2.2 = F0) := by
  unfold f_X10_surestOdds
  refine kp_b (kp_f_X10_thereTrouble ) (fun o3 h1 => ?_)
  refine kp_n (kp_f_X10_refused h1 hF_x_x_2) (fun o6 h2 => ?_)
  refine kp_i ?_ ?_
  · skip
    refine kp_b0 (fun o25 => ?_)
    refine kp_i ?_ ?_
    · skip
      exact (kp_f_X10_surestOdds_J52 h2.1 h2.2.1 h2.2.2)
    · skip
      refine kp_b0 (fun o49 => ?_)
      exact (kp_f_X10_surestOdds_J52 h2.1 h2.2.1 h2.2.2)
  · skip
    exact kp_s ⟨h2.2.1, h2.2.2⟩
theorem kp_f_X10_best {F0 : Int32} {x_x : TX10_x} {p_p : TX6_p} {n_n : TX4_n} (hF_x_x_2 : x_x.2 = F0) : KP (f_X10_best x_x p_p n_n) (fun (r : Int32 × TX10_x) => ¬ r.2.1 = (4 : Int32) ∧ r.2.2 = F0) := by
  unfold f_X10_best
  refine kp_n (kp_f_X10_pierTrouble ) (fun o2 h1 => ?_)
  refine kp_n (kp_f_X10_refused h1 hF_x_x_2) (fun o5 h2 => ?_)
  refine kp_i ?_ ?_
  · skip
    refine kp_b0 (fun o21 => ?_)
    exact kp_s ⟨h2.2.1, h2.2.2⟩
  · skip
    exact kp_s ⟨h2.2.1, h2.2.2⟩
theorem kp_f_X10_bestBait_J43 {F0 : Int32} {k17_ : Int32 → Int32 → Option (Int32 × TX10_x)} {v17_l2 : Int32} {v43_l1 : Int32} (hk17 : ∀ (v17_l2 : Int32) (v17_l1 : Int32), KP (k17_ v17_l2 v17_l1) (fun (r : Int32 × TX10_x) => ¬ r.2.1 = (4 : Int32) ∧ r.2.2 = F0)) : KP (f_X10_bestBait_J43 k17_ v17_l2 v43_l1) (fun (r : Int32 × TX10_x) => ¬ r.2.1 = (4 : Int32) ∧ r.2.2 = F0) := by
  unfold f_X10_bestBait_J43
  exact hk17 _ _ 
theorem kp_f_X10_bestBait_L17 {F0 : Int32} {p_p : TX6_p} {n_n : TX4_n} {o5 : (Int32 × TX10_x)} (hN_o5_1 : ¬ o5.1 = (4 : Int32)) (hN_o5_2_1 : ¬ o5.2.1 = (4 : Int32)) (hF_o5_2_2 : o5.2.2 = F0) : ∀ (n : Nat) (v17_l2 : Int32) (v17_l1 : Int32), KP (f_X10_bestBait_L17 p_p n_n o5 n v17_l2 v17_l1) (fun (r : Int32 × TX10_x) => ¬ r.2.1 = (4 : Int32) ∧ r.2.2 = F0) := by
  intro n
  induction n with
  | zero =>
    intro v17_l2 v17_l1 
    exact kp_o
  | succ n ih =>
    intro v17_l2 v17_l1 
    rw [f_X10_bestBait_L17]
    refine kp_i ?_ ?_
    · skip
      exact kp_s ⟨hN_o5_2_1, hF_o5_2_2⟩
    · skip
      refine kp_b0 (fun o30 => ?_)
      refine kp_b0 (fun o35 => ?_)
      refine kp_i ?_ ?_
      · skip
        exact (kp_f_X10_bestBait_J43 ih)
      · skip
        exact (kp_f_X10_bestBait_J43 ih)
theorem kp_f_X10_bestBait {F0 : Int32} {x_x : TX10_x} {p_p : TX6_p} {n_n : TX4_n} (hF_x_x_2 : x_x.2 = F0) : KP (f_X10_bestBait x_x p_p n_n) (fun (r : Int32 × TX10_x) => ¬ r.2.1 = (4 : Int32) ∧ r.2.2 = F0) := by
  unfold f_X10_bestBait
  refine kp_n (kp_f_X10_pierTrouble ) (fun o2 h1 => ?_)
  refine kp_n (kp_f_X10_refused h1 hF_x_x_2) (fun o5 h2 => ?_)
  refine kp_i ?_ ?_
  · skip
    exact (kp_f_X10_bestBait_L17 h2.1 h2.2.1 h2.2.2 FU _ _ )
  · skip
    exact kp_s ⟨h2.2.1, h2.2.2⟩
theorem kp_f_X10_hungerFor_L30 {F0 : Int32} {k1 : Int32} {p_p : TX6_p} {o10 : (Int32 × TX10_x)} {o22 : Int32} (hN_o10_1 : ¬ o10.1 = (4 : Int32)) (hN_o10_2_1 : ¬ o10.2.1 = (4 : Int32)) (hF_o10_2_2 : o10.2.2 = F0) : ∀ (n : Nat) (v30_l6 : Int32), KP (f_X10_hungerFor_L30 k1 p_p o10 o22 n v30_l6) (fun (r : Int32 × TX10_x) => ¬ r.2.1 = (4 : Int32) ∧ r.2.2 = F0) := by
  intro n
  induction n with
  | zero =>
    intro v30_l6 
    exact kp_o
  | succ n ih =>
    intro v30_l6 
    rw [f_X10_hungerFor_L30]
    refine kp_i ?_ ?_
    · skip
      exact kp_s ⟨hN_o10_2_1, hF_o10_2_2⟩
    · skip
      refine kp_b0 (fun o46 => ?_)
      refine kp_i ?_ ?_
      · skip
        exact ih _ 
      · skip
        exact kp_s ⟨hN_o10_2_1, hF_o10_2_2⟩
theorem kp_f_X10_hungerFor {F0 : Int32} {k1 : Int32} {k2 : Int32} {k3 : Int32} {k4 : Int32} {x_x : TX10_x} {p_p : TX6_p} (hF_x_x_2 : x_x.2 = F0) : KP (f_X10_hungerFor k1 k2 k3 k4 x_x p_p) (fun (r : Int32 × TX10_x) => ¬ r.2.1 = (4 : Int32) ∧ r.2.2 = F0) := by
  unfold f_X10_hungerFor
  refine kp_n (kp_f_X10_wishTrouble ) (fun o7 h1 => ?_)
  refine kp_n (kp_f_X10_refused h1 hF_x_x_2) (fun o10 h2 => ?_)
  refine kp_i ?_ ?_
  · skip
    refine kp_n0 (fun o22 => ?_)
    exact (kp_f_X10_hungerFor_L30 h2.1 h2.2.1 h2.2.2 FU _ )
  · skip
    exact kp_s ⟨h2.2.1, h2.2.2⟩
theorem kp_f_X10_freeSpots_J51 {F0 : Int32} {k18_ : Int32 → Int32 → Option (Int32 × TX10_x)} {v18_l3 : Int32} {v51_l2 : Int32} (hk18 : ∀ (v18_l3 : Int32) (v18_l2 : Int32), KP (k18_ v18_l3 v18_l2) (fun (r : Int32 × TX10_x) => ¬ r.2.1 = (4 : Int32) ∧ r.2.2 = F0)) : KP (f_X10_freeSpots_J51 k18_ v18_l3 v51_l2) (fun (r : Int32 × TX10_x) => ¬ r.2.1 = (4 : Int32) ∧ r.2.2 = F0) := by
  unfold f_X10_freeSpots_J51
  exact hk18 _ _ 
theorem kp_f_X10_freeSpots_L18 {F0 : Int32} {k1 : Int32} {p_p : TX6_p} {n_n : TX4_n} {o6 : (Int32 × TX10_x)} (hN_o6_1 : ¬ o6.1 = (4 : Int32)) (hN_o6_2_1 : ¬ o6.2.1 = (4 : Int32)) (hF_o6_2_2 : o6.2.2 = F0) : ∀ (n : Nat) (v18_l3 : Int32) (v18_l2 : Int32), KP (f_X10_freeSpots_L18 k1 p_p n_n o6 n v18_l3 v18_l2) (fun (r : Int32 × TX10_x) => ¬ r.2.1 = (4 : Int32) ∧ r.2.2 = F0) := by
  intro n
  induction n with
  | zero =>
    intro v18_l3 v18_l2 
    exact kp_o
  | succ n ih =>
    intro v18_l3 v18_l2 
    rw [f_X10_freeSpots_L18]
    refine kp_i ?_ ?_
    · skip
      exact kp_s ⟨hN_o6_2_1, hF_o6_2_2⟩
    · skip
      refine kp_b (kp_f_X4_isTangled ) (fun o39 h1 => ?_)
      refine kp_i ?_ ?_
      · skip
        exact (kp_f_X10_freeSpots_J51 ih)
      · skip
        exact (kp_f_X10_freeSpots_J51 ih)
theorem kp_f_X10_freeSpots {F0 : Int32} {k1 : Int32} {x_x : TX10_x} {p_p : TX6_p} {n_n : TX4_n} (hF_x_x_2 : x_x.2 = F0) : KP (f_X10_freeSpots k1 x_x p_p n_n) (fun (r : Int32 × TX10_x) => ¬ r.2.1 = (4 : Int32) ∧ r.2.2 = F0) := by
  unfold f_X10_freeSpots
  refine kp_n (kp_f_X10_askerTrouble ) (fun o3 h1 => ?_)
  refine kp_n (kp_f_X10_refused h1 hF_x_x_2) (fun o6 h2 => ?_)
  refine kp_i ?_ ?_
  · skip
    exact (kp_f_X10_freeSpots_L18 h2.1 h2.2.1 h2.2.2 FU _ _ )
  · skip
    exact kp_s ⟨h2.2.1, h2.2.2⟩
theorem kp_f_X10_tangles_J68 {F0 : Int32} {k1 : Int32} {k2 : Int32} {k3 : Int32} {k4 : Int32} {x_x : TX10_x} {p_p : TX6_p} {v68_t1 : Int32} (hF_x_x_2 : x_x.2 = F0) (hN_v68_t1 : ¬ v68_t1 = (4 : Int32)) : KP (f_X10_tangles_J68 k1 k2 k3 k4 x_x p_p v68_t1) (fun (r : Int32 × TX10_x) => ¬ r.1 = (4 : Int32) ∧ ¬ r.2.1 = (4 : Int32) ∧ r.2.2 = F0) := by
  unfold f_X10_tangles_J68
  refine kp_n (kp_f_X10_refused hN_v68_t1 hF_x_x_2) (fun o68 h1 => ?_)
  refine kp_i ?_ ?_
  · skip
    refine kp_b (kp_f_X6_isTangle ) (fun o85 h2 => ?_)
    refine kp_i ?_ ?_
    · skip
      exact kp_s ⟨(show ¬ (0 : Int32) = 4 by decide), h1.2.1, h1.2.2⟩
    · skip
      exact kp_s ⟨(show ¬ (1 : Int32) = 4 by decide), h1.2.1, h1.2.2⟩
  · skip
    exact kp_s ⟨(show ¬ (-1 : Int32) = 4 by decide), h1.2.1, h1.2.2⟩
theorem kp_f_X10_tangles_J55 {F0 : Int32} {k1 : Int32} {k2 : Int32} {k3 : Int32} {k4 : Int32} {x_x : TX10_x} {p_p : TX6_p} {v55_t0 : Int32} (hF_x_x_2 : x_x.2 = F0) (hN_v55_t0 : ¬ v55_t0 = (4 : Int32)) : KP (f_X10_tangles_J55 k1 k2 k3 k4 x_x p_p v55_t0) (fun (r : Int32 × TX10_x) => ¬ r.1 = (4 : Int32) ∧ ¬ r.2.1 = (4 : Int32) ∧ r.2.2 = F0) := by
  unfold f_X10_tangles_J55
  refine kp_i ?_ ?_
  · skip
    exact (kp_f_X10_tangles_J68 hF_x_x_2 (show ¬ (1 : Int32) = 4 by decide))
  · skip
    exact (kp_f_X10_tangles_J68 hF_x_x_2 (show ¬ (0 : Int32) = 4 by decide))
theorem kp_f_X10_tangles_J54 {F0 : Int32} {k1 : Int32} {k2 : Int32} {k3 : Int32} {k4 : Int32} {x_x : TX10_x} {p_p : TX6_p} (hF_x_x_2 : x_x.2 = F0) : KP (f_X10_tangles_J54 k1 k2 k3 k4 x_x p_p) (fun (r : Int32 × TX10_x) => ¬ r.1 = (4 : Int32) ∧ ¬ r.2.1 = (4 : Int32) ∧ r.2.2 = F0) := by
  unfold f_X10_tangles_J54
  exact (kp_f_X10_tangles_J55 hF_x_x_2 (show ¬ (0 : Int32) = 4 by decide))
theorem kp_f_X10_tangles {F0 : Int32} {k1 : Int32} {k2 : Int32} {k3 : Int32} {k4 : Int32} {x_x : TX10_x} {p_p : TX6_p} (hF_x_x_2 : x_x.2 = F0) : KP (f_X10_tangles k1 k2 k3 k4 x_x p_p) (fun (r : Int32 × TX10_x) => ¬ r.1 = (4 : Int32) ∧ ¬ r.2.1 = (4 : Int32) ∧ r.2.2 = F0) := by
  unfold f_X10_tangles
  refine kp_n (kp_f_X6_hasAsker ) (fun o5 h1 => ?_)
  refine kp_i ?_ ?_
  · skip
    exact (kp_f_X10_tangles_J54 hF_x_x_2)
  · skip
    refine kp_n (kp_f_X6_hasAsker ) (fun o16 h2 => ?_)
    refine kp_i ?_ ?_
    · skip
      exact (kp_f_X10_tangles_J54 hF_x_x_2)
    · skip
      refine kp_i ?_ ?_
      · skip
        exact (kp_f_X10_tangles_J54 hF_x_x_2)
      · skip
        refine kp_n (kp_f_X6_hasSpot ) (fun o32 h3 => ?_)
        refine kp_i ?_ ?_
        · skip
          exact (kp_f_X10_tangles_J54 hF_x_x_2)
        · skip
          refine kp_n (kp_f_X6_hasSpot ) (fun o44 h4 => ?_)
          refine kp_i ?_ ?_
          · skip
            exact (kp_f_X10_tangles_J54 hF_x_x_2)
          · skip
            exact (kp_f_X10_tangles_J55 hF_x_x_2 (show ¬ (1 : Int32) = 4 by decide))
theorem kp_f_X8_isFree_J40 {k3_ : Int32 → Option Int32} {v3_l4 : Int32} (hk3 : ∀ (v3_l4 : Int32), KP (k3_ v3_l4) (fun (r : Int32) => ¬ r = (4 : Int32))) : KP (f_X8_isFree_J40 k3_ v3_l4) (fun (r : Int32) => ¬ r = (4 : Int32)) := by
  unfold f_X8_isFree_J40
  exact hk3 _ 
theorem kp_f_X8_isFree_L3 {k2 : Int32} {k3 : Int32} {s_s : TX8_s} {p_p : TX6_p} : ∀ (n : Nat) (v3_l4 : Int32), KP (f_X8_isFree_L3 k2 k3 s_s p_p n v3_l4) (fun (r : Int32) => ¬ r = (4 : Int32)) := by
  intro n
  induction n with
  | zero =>
    intro v3_l4 
    exact kp_o
  | succ n ih =>
    intro v3_l4 
    rw [f_X8_isFree_L3]
    refine kp_i ?_ ?_
    · skip
      exact kp_s (show ¬ (1 : Int32) = 4 by decide)
    · skip
      refine kp_gA ?_
      refine kp_i ?_ ?_
      · skip
        exact (kp_f_X8_isFree_J40 ih)
      · skip
        refine kp_gA ?_
        refine kp_b (kp_f_X6_isTangle ) (fun o32 h1 => ?_)
        refine kp_i ?_ ?_
        · skip
          exact (kp_f_X8_isFree_J40 ih)
        · skip
          exact kp_s (show ¬ (0 : Int32) = 4 by decide)
theorem kp_f_X8_isFree {k2 : Int32} {k3 : Int32} {s_s : TX8_s} {p_p : TX6_p} : KP (f_X8_isFree k2 k3 s_s p_p) (fun (r : Int32) => ¬ r = (4 : Int32)) := by
  unfold f_X8_isFree
  exact (kp_f_X8_isFree_L3  FU _ )
theorem kp_f_X10_seatings_J26 {F0 : Int32} {x_x : TX10_x} {p_p : TX6_p} {s_s : TX8_s} {v26_t1 : Int32} (hF_x_x_2 : x_x.2 = F0) (hN_v26_t1 : ¬ v26_t1 = (4 : Int32)) : KP (f_X10_seatings_J26 x_x p_p s_s v26_t1) (fun (r : Int32 × TX10_x × TX8_s) => ¬ r.2.1.1 = (4 : Int32) ∧ r.2.1.2 = F0) := by
  unfold f_X10_seatings_J26
  refine kp_n (kp_f_X10_refused hN_v26_t1 hF_x_x_2) (fun o26 h1 => ?_)
  refine kp_i ?_ ?_
  · skip
    refine kp_n0 (fun o43 => ?_)
    refine kp_b0 (fun o49 => ?_)
    exact kp_s ⟨h1.2.1, h1.2.2⟩
  · skip
    exact kp_s ⟨h1.2.1, h1.2.2⟩
theorem kp_f_X10_seatings_J25 {F0 : Int32} {x_x : TX10_x} {p_p : TX6_p} {s_s : TX8_s} {o1 : Int32} (hF_x_x_2 : x_x.2 = F0) (hN_o1 : ¬ o1 = (4 : Int32)) : KP (f_X10_seatings_J25 x_x p_p s_s o1) (fun (r : Int32 × TX10_x × TX8_s) => ¬ r.2.1.1 = (4 : Int32) ∧ r.2.1.2 = F0) := by
  unfold f_X10_seatings_J25
  exact (kp_f_X10_seatings_J26 hF_x_x_2 hN_o1)
theorem kp_f_X10_seatings {F0 : Int32} {x_x : TX10_x} {p_p : TX6_p} {s_s : TX8_s} (hF_x_x_2 : x_x.2 = F0) : KP (f_X10_seatings x_x p_p s_s) (fun (r : Int32 × TX10_x × TX8_s) => ¬ r.2.1.1 = (4 : Int32) ∧ r.2.1.2 = F0) := by
  unfold f_X10_seatings
  refine kp_n (kp_f_X10_pierTrouble ) (fun o1 h1 => ?_)
  refine kp_i ?_ ?_
  · skip
    refine kp_i ?_ ?_
    · skip
      exact (kp_f_X10_seatings_J26 hF_x_x_2 (show ¬ (6 : Int32) = 4 by decide))
    · skip
      exact (kp_f_X10_seatings_J25 hF_x_x_2 h1)
  · skip
    exact (kp_f_X10_seatings_J25 hF_x_x_2 h1)
theorem kp_f_X10_seat {F0 : Int32} {k1 : Int32} {x_x : TX10_x} {p_p : TX6_p} {s_s : TX8_s} (hF_x_x_2 : x_x.2 = F0) : KP (f_X10_seat k1 x_x p_p s_s) (fun (r : Int32 × TX10_x × TX8_s) => ¬ r.2.1.1 = (4 : Int32) ∧ r.2.1.2 = F0) := by
  unfold f_X10_seat
  refine kp_n (kp_f_X10_askerTrouble ) (fun o3 h1 => ?_)
  refine kp_n (kp_f_X10_refused h1 hF_x_x_2) (fun o6 h2 => ?_)
  refine kp_i ?_ ?_
  · skip
    refine kp_n0 (fun o23 => ?_)
    refine kp_b0 (fun o27 => ?_)
    refine kp_i ?_ ?_
    · skip
      exact kp_s ⟨h2.2.1, h2.2.2⟩
    · skip
      refine kp_gA ?_
      exact kp_s ⟨h2.2.1, h2.2.2⟩
  · skip
    exact kp_s ⟨h2.2.1, h2.2.2⟩
theorem kp_f_X10_mostSeated_J54 {F0 : Int32} {k17_ : Int32 → Int32 → TX8_s → Option (Int32 × TX10_x × TX8_s)} {v17_l2 : Int32} {v54_s_s : TX8_s} {v54_l1 : Int32} (hk17 : ∀ (v17_l2 : Int32) (v17_l1 : Int32) (v17_s_s : TX8_s), KP (k17_ v17_l2 v17_l1 v17_s_s) (fun (r : Int32 × TX10_x × TX8_s) => ¬ r.2.1.1 = (4 : Int32) ∧ r.2.1.2 = F0)) : KP (f_X10_mostSeated_J54 k17_ v17_l2 v54_s_s v54_l1) (fun (r : Int32 × TX10_x × TX8_s) => ¬ r.2.1.1 = (4 : Int32) ∧ r.2.1.2 = F0) := by
  unfold f_X10_mostSeated_J54
  exact hk17 _ _ _ 
theorem kp_f_X10_mostSeated_L17 {F0 : Int32} {p_p : TX6_p} {o5 : (Int32 × TX10_x)} (hN_o5_1 : ¬ o5.1 = (4 : Int32)) (hN_o5_2_1 : ¬ o5.2.1 = (4 : Int32)) (hF_o5_2_2 : o5.2.2 = F0) : ∀ (n : Nat) (v17_l2 : Int32) (v17_l1 : Int32) (v17_s_s : TX8_s), KP (f_X10_mostSeated_L17 p_p o5 n v17_l2 v17_l1 v17_s_s) (fun (r : Int32 × TX10_x × TX8_s) => ¬ r.2.1.1 = (4 : Int32) ∧ r.2.1.2 = F0) := by
  intro n
  induction n with
  | zero =>
    intro v17_l2 v17_l1 v17_s_s 
    exact kp_o
  | succ n ih =>
    intro v17_l2 v17_l1 v17_s_s 
    rw [f_X10_mostSeated_L17]
    refine kp_n0 (fun o19 => ?_)
    refine kp_i ?_ ?_
    · skip
      exact kp_s ⟨hN_o5_2_1, hF_o5_2_2⟩
    · skip
      refine kp_n0 (fun o26 => ?_)
      refine kp_n0 (fun o30 => ?_)
      refine kp_i ?_ ?_
      · skip
        exact (kp_f_X10_mostSeated_J54 ih)
      · skip
        refine kp_b0 (fun o46 => ?_)
        refine kp_i ?_ ?_
        · skip
          exact (kp_f_X10_mostSeated_J54 ih)
        · skip
          exact (kp_f_X10_mostSeated_J54 ih)
theorem kp_f_X10_mostSeated {F0 : Int32} {x_x : TX10_x} {p_p : TX6_p} {s_s : TX8_s} (hF_x_x_2 : x_x.2 = F0) : KP (f_X10_mostSeated x_x p_p s_s) (fun (r : Int32 × TX10_x × TX8_s) => ¬ r.2.1.1 = (4 : Int32) ∧ r.2.1.2 = F0) := by
  unfold f_X10_mostSeated
  refine kp_n (kp_f_X10_pierTrouble ) (fun o2 h1 => ?_)
  refine kp_n (kp_f_X10_refused h1 hF_x_x_2) (fun o5 h2 => ?_)
  refine kp_i ?_ ?_
  · skip
    exact (kp_f_X10_mostSeated_L17 h2.1 h2.2.1 h2.2.2 FU _ _ _ )
  · skip
    exact kp_s ⟨h2.2.1, h2.2.2⟩
theorem kp_f_X10_darkTrouble_J25 {o1 : Int32} (hN_o1 : ¬ o1 = (4 : Int32)) : KV (f_X10_darkTrouble_J25 o1) (fun (r : Int32) => ¬ r = (4 : Int32)) := by
  unfold f_X10_darkTrouble_J25
  exact kv_s hN_o1
theorem kp_f_X10_darkTrouble {p_p : TX6_p} : KV (f_X10_darkTrouble p_p) (fun (r : Int32) => ¬ r = (4 : Int32)) := by
  unfold f_X10_darkTrouble
  refine kv_n (kp_f_X10_pierTrouble ) (fun o1 h1 => ?_)
  refine kv_i ?_ ?_
  · skip
    refine kv_i ?_ ?_
    · skip
      exact kv_s (show ¬ (6 : Int32) = 4 by decide)
    · skip
      exact (kp_f_X10_darkTrouble_J25 h1)
  · skip
    exact (kp_f_X10_darkTrouble_J25 h1)
theorem kp_f_X0_wouldBite_J18 {k0 : Int32} {k1 : Int32} {k2 : Int32} {v18_t1 : Int32} (hN_v18_t1 : ¬ v18_t1 = (4 : Int32)) : KV (f_X0_wouldBite_J18 k0 k1 k2 v18_t1) (fun (r : Int32) => ¬ r = (4 : Int32)) := by
  unfold f_X0_wouldBite_J18
  refine kv_n0 (fun o22 => ?_)
  refine kv_n0 (fun o26 => ?_)
  refine kv_n0 (fun z30 => ?_)
  refine kv_n0 (fun o38 => ?_)
  refine kv_n0 (fun o42 => ?_)
  refine kv_n0 (fun z46 => ?_)
  refine kv_n0 (fun z50 => ?_)
  refine kv_i ?_ ?_
  · skip
    exact kv_s (show ¬ (0 : Int32) = 4 by decide)
  · skip
    exact kv_s (show ¬ (1 : Int32) = 4 by decide)
theorem kp_f_X0_wouldBite {k0 : Int32} {k1 : Int32} {k2 : Int32} : KV (f_X0_wouldBite k0 k1 k2) (fun (r : Int32) => ¬ r = (4 : Int32)) := by
  unfold f_X0_wouldBite
  refine kv_n0 (fun o2 => ?_)
  refine kv_n0 (fun o6 => ?_)
  refine kv_i ?_ ?_
  · skip
    exact (kp_f_X0_wouldBite_J18 (show ¬ (20 : Int32) = 4 by decide))
  · skip
    exact (kp_f_X0_wouldBite_J18 (show ¬ (0 : Int32) = 4 by decide))
theorem kp_f_X0_isAsTold_L2 {k1 : Int32} {p_p : TX6_p} : ∀ (n : Nat) (v2_l2 : Int32), KP (f_X0_isAsTold_L2 k1 p_p n v2_l2) (fun (r : Int32) => ¬ r = (4 : Int32)) := by
  intro n
  induction n with
  | zero =>
    intro v2_l2 
    exact kp_o
  | succ n ih =>
    intro v2_l2 
    rw [f_X0_isAsTold_L2]
    refine kp_i ?_ ?_
    · skip
      exact kp_s (show ¬ (1 : Int32) = 4 by decide)
    · skip
      refine kp_gA ?_
      refine kp_n0 (fun z20 => ?_)
      refine kp_n (kp_f_X0_wouldBite ) (fun o21 h1 => ?_)
      refine kp_gA ?_
      refine kp_n0 (fun z29 => ?_)
      refine kp_i ?_ ?_
      · skip
        exact ih _ 
      · skip
        exact kp_s (show ¬ (0 : Int32) = 4 by decide)
theorem kp_f_X0_isAsTold {k1 : Int32} {p_p : TX6_p} : KP (f_X0_isAsTold k1 p_p) (fun (r : Int32) => ¬ r = (4 : Int32)) := by
  unfold f_X0_isAsTold
  exact (kp_f_X0_isAsTold_L2  FU _ )
theorem kp_f_X10_darks {F0 : Int32} {x_x : TX10_x} {p_p : TX6_p} {d_d : TX0_d} (hF_x_x_2 : x_x.2 = F0) : KP (f_X10_darks x_x p_p d_d) (fun (r : Int32 × TX10_x × TX0_d) => ¬ r.2.1.1 = (4 : Int32) ∧ r.2.1.2 = F0) := by
  unfold f_X10_darks
  refine kp_n (kp_f_X10_darkTrouble ) (fun o2 h1 => ?_)
  refine kp_n (kp_f_X10_refused h1 hF_x_x_2) (fun o5 h2 => ?_)
  refine kp_i ?_ ?_
  · skip
    refine kp_b0 (fun o21 => ?_)
    exact kp_s ⟨h2.2.1, h2.2.2⟩
  · skip
    exact kp_s ⟨h2.2.1, h2.2.2⟩
theorem kp_f_X10_darkAt_J47 {F0 : Int32} {k1 : Int32} {o21 : TX0_d} {o5 : (Int32 × TX10_x)} {v47_t1 : Int32} (hN_o5_1 : ¬ o5.1 = (4 : Int32)) (hN_o5_2_1 : ¬ o5.2.1 = (4 : Int32)) (hF_o5_2_2 : o5.2.2 = F0) (hN_v47_t1 : ¬ v47_t1 = (4 : Int32)) : KP (f_X10_darkAt_J47 k1 o21 o5 v47_t1) (fun (r : Int32 × TX10_x × TX0_d) => ¬ r.2.1.1 = (4 : Int32) ∧ r.2.1.2 = F0) := by
  unfold f_X10_darkAt_J47
  refine kp_n (kp_f_X10_refused hN_v47_t1 hF_o5_2_2) (fun o47 h1 => ?_)
  refine kp_i ?_ ?_
  · skip
    refine kp_gA ?_
    exact kp_s ⟨h1.2.1, h1.2.2⟩
  · skip
    exact kp_s ⟨h1.2.1, h1.2.2⟩
theorem kp_f_X10_darkAt {F0 : Int32} {k1 : Int32} {x_x : TX10_x} {p_p : TX6_p} {d_d : TX0_d} (hF_x_x_2 : x_x.2 = F0) : KP (f_X10_darkAt k1 x_x p_p d_d) (fun (r : Int32 × TX10_x × TX0_d) => ¬ r.2.1.1 = (4 : Int32) ∧ r.2.1.2 = F0) := by
  unfold f_X10_darkAt
  refine kp_n (kp_f_X10_darkTrouble ) (fun o2 h1 => ?_)
  refine kp_n (kp_f_X10_refused h1 hF_x_x_2) (fun o5 h2 => ?_)
  refine kp_i ?_ ?_
  · skip
    refine kp_b0 (fun o21 => ?_)
    refine kp_n (kp_f_X10_within ) (fun o36 h3 => ?_)
    refine kp_i ?_ ?_
    · skip
      exact (kp_f_X10_darkAt_J47 h2.1 h2.2.1 h2.2.2 (show ¬ (1 : Int32) = 4 by decide))
    · skip
      exact (kp_f_X10_darkAt_J47 h2.1 h2.2.1 h2.2.2 (show ¬ (0 : Int32) = 4 by decide))
  · skip
    exact kp_s ⟨h2.2.1, h2.2.2⟩
theorem kp_f_X10_darkSpots_L28 {F0 : Int32} {o21 : TX0_d} {o5 : (Int32 × TX10_x)} (hN_o5_1 : ¬ o5.1 = (4 : Int32)) (hN_o5_2_1 : ¬ o5.2.1 = (4 : Int32)) (hF_o5_2_2 : o5.2.2 = F0) : ∀ (n : Nat) (v28_l2 : Int32) (v28_l1 : Int32), KP (f_X10_darkSpots_L28 o21 o5 n v28_l2 v28_l1) (fun (r : Int32 × TX10_x × TX0_d) => ¬ r.2.1.1 = (4 : Int32) ∧ r.2.1.2 = F0) := by
  intro n
  induction n with
  | zero =>
    intro v28_l2 v28_l1 
    exact kp_o
  | succ n ih =>
    intro v28_l2 v28_l1 
    rw [f_X10_darkSpots_L28]
    refine kp_i ?_ ?_
    · skip
      exact kp_s ⟨hN_o5_2_1, hF_o5_2_2⟩
    · skip
      refine kp_gA ?_
      refine kp_n0 (fun o50 => ?_)
      exact ih _ _ 
theorem kp_f_X10_darkSpots {F0 : Int32} {x_x : TX10_x} {p_p : TX6_p} {d_d : TX0_d} (hF_x_x_2 : x_x.2 = F0) : KP (f_X10_darkSpots x_x p_p d_d) (fun (r : Int32 × TX10_x × TX0_d) => ¬ r.2.1.1 = (4 : Int32) ∧ r.2.1.2 = F0) := by
  unfold f_X10_darkSpots
  refine kp_n (kp_f_X10_darkTrouble ) (fun o2 h1 => ?_)
  refine kp_n (kp_f_X10_refused h1 hF_x_x_2) (fun o5 h2 => ?_)
  refine kp_i ?_ ?_
  · skip
    refine kp_b0 (fun o21 => ?_)
    exact (kp_f_X10_darkSpots_L28 h2.1 h2.2.1 h2.2.2 FU _ _ )
  · skip
    exact kp_s ⟨h2.2.1, h2.2.2⟩
theorem kp_f_X10_ask {F0 : Int32} {x_x : TX10_x} {p_p : TX6_p} {d_d : TX0_d} (hF_x_x_2 : x_x.2 = F0) : KP (f_X10_ask x_x p_p d_d) (fun (r : Int32 × TX10_x × TX0_d) => ¬ r.2.1.1 = (4 : Int32) ∧ r.2.1.2 = F0) := by
  unfold f_X10_ask
  refine kp_n (kp_f_X10_darkTrouble ) (fun o2 h1 => ?_)
  refine kp_n (kp_f_X10_refused h1 hF_x_x_2) (fun o5 h2 => ?_)
  refine kp_i ?_ ?_
  · skip
    refine kp_b0 (fun o21 => ?_)
    refine kp_b0 (fun o32 => ?_)
    exact kp_s ⟨h2.2.1, h2.2.2⟩
  · skip
    exact kp_s ⟨h2.2.1, h2.2.2⟩
theorem kp_f_X10_askLeaves {F0 : Int32} {x_x : TX10_x} {p_p : TX6_p} {d_d : TX0_d} (hF_x_x_2 : x_x.2 = F0) : KP (f_X10_askLeaves x_x p_p d_d) (fun (r : Int32 × TX10_x × TX0_d) => ¬ r.2.1.1 = (4 : Int32) ∧ r.2.1.2 = F0) := by
  unfold f_X10_askLeaves
  refine kp_n (kp_f_X10_darkTrouble ) (fun o2 h1 => ?_)
  refine kp_n (kp_f_X10_refused h1 hF_x_x_2) (fun o5 h2 => ?_)
  refine kp_i ?_ ?_
  · skip
    refine kp_b0 (fun o21 => ?_)
    refine kp_b0 (fun o32 => ?_)
    refine kp_i ?_ ?_
    · skip
      exact kp_s ⟨h2.2.1, h2.2.2⟩
    · skip
      refine kp_b0 (fun o56 => ?_)
      exact kp_s ⟨h2.2.1, h2.2.2⟩
  · skip
    exact kp_s ⟨h2.2.1, h2.2.2⟩
theorem kp_f_X10_judge_J74 {F0 : Int32} {p_p : TX6_p} {k29_ : Int32 → Option (Int32 × TX10_x)} {o19 : (Int32 × TX10_x)} {v29_l3 : Int32} {v74_t0 : Int32} (hk29 : ∀ (v29_l3 : Int32), KP (k29_ v29_l3) (fun (r : Int32 × TX10_x) => ¬ r.2.1 = (4 : Int32) ∧ r.2.2 = F0)) (hN_o19_1 : ¬ o19.1 = (4 : Int32)) (hN_o19_2_1 : ¬ o19.2.1 = (4 : Int32)) (hF_o19_2_2 : o19.2.2 = F0) (hN_v74_t0 : ¬ v74_t0 = (4 : Int32)) : KP (f_X10_judge_J74 p_p k29_ o19 v29_l3 v74_t0) (fun (r : Int32 × TX10_x) => ¬ r.2.1 = (4 : Int32) ∧ r.2.2 = F0) := by
  unfold f_X10_judge_J74
  refine kp_gA ?_
  refine kp_n0 (fun z86 => ?_)
  refine kp_i ?_ ?_
  · skip
    exact hk29 _ 
  · skip
    exact kp_s ⟨hN_o19_2_1, hF_o19_2_2⟩
theorem kp_f_X10_judge_L29 {F0 : Int32} {k1 : Int32} {p_p : TX6_p} {o19 : (Int32 × TX10_x)} (hN_o19_1 : ¬ o19.1 = (4 : Int32)) (hN_o19_2_1 : ¬ o19.2.1 = (4 : Int32)) (hF_o19_2_2 : o19.2.2 = F0) : ∀ (n : Nat) (v29_l3 : Int32), KP (f_X10_judge_L29 k1 p_p o19 n v29_l3) (fun (r : Int32 × TX10_x) => ¬ r.2.1 = (4 : Int32) ∧ r.2.2 = F0) := by
  intro n
  induction n with
  | zero =>
    intro v29_l3 
    exact kp_o
  | succ n ih =>
    intro v29_l3 
    rw [f_X10_judge_L29]
    refine kp_i ?_ ?_
    · skip
      exact kp_s ⟨hN_o19_2_1, hF_o19_2_2⟩
    · skip
      refine kp_gA ?_
      refine kp_n0 (fun z60 => ?_)
      refine kp_b0 (fun o61 => ?_)
      refine kp_i ?_ ?_
      · skip
        exact (kp_f_X10_judge_J74 ih hN_o19_1 hN_o19_2_1 hF_o19_2_2 (show ¬ (0 : Int32) = 4 by decide))
      · skip
        exact (kp_f_X10_judge_J74 ih hN_o19_1 hN_o19_2_1 hF_o19_2_2 (show ¬ (1 : Int32) = 4 by decide))
theorem kp_f_X10_judge_J19 {F0 : Int32} {k1 : Int32} {x_x : TX10_x} {p_p : TX6_p} {v19_t1 : Int32} (hF_x_x_2 : x_x.2 = F0) (hN_v19_t1 : ¬ v19_t1 = (4 : Int32)) : KP (f_X10_judge_J19 k1 x_x p_p v19_t1) (fun (r : Int32 × TX10_x) => ¬ r.2.1 = (4 : Int32) ∧ r.2.2 = F0) := by
  unfold f_X10_judge_J19
  refine kp_n (kp_f_X10_refused hN_v19_t1 hF_x_x_2) (fun o19 h1 => ?_)
  refine kp_i ?_ ?_
  · skip
    exact (kp_f_X10_judge_L29 h1.1 h1.2.1 h1.2.2 FU _ )
  · skip
    exact kp_s ⟨h1.2.1, h1.2.2⟩
theorem kp_f_X10_judge {F0 : Int32} {k1 : Int32} {x_x : TX10_x} {p_p : TX6_p} (hF_x_x_2 : x_x.2 = F0) : KP (f_X10_judge k1 x_x p_p) (fun (r : Int32 × TX10_x) => ¬ r.2.1 = (4 : Int32) ∧ r.2.2 = F0) := by
  unfold f_X10_judge
  refine kp_n (kp_f_X10_answerTrouble ) (fun o2 h1 => ?_)
  refine kp_i ?_ ?_
  · skip
    refine kp_n (kp_f_X10_darkTrouble ) (fun o12 h2 => ?_)
    exact (kp_f_X10_judge_J19 hF_x_x_2 h2)
  · skip
    exact (kp_f_X10_judge_J19 hF_x_x_2 h1)
theorem kp_f_X10_worth_J53 {F0 : Int32} {k1 : Int32} {k2 : Int32} {k3 : Int32} {x_x : TX10_x} {p_p : TX6_p} {v53_t1 : Int32} (hF_x_x_2 : x_x.2 = F0) (hN_v53_t1 : ¬ v53_t1 = (4 : Int32)) : KP (f_X10_worth_J53 k1 k2 k3 x_x p_p v53_t1) (fun (r : Int32 × TX10_x) => ¬ r.2.1 = (4 : Int32) ∧ r.2.2 = F0) := by
  unfold f_X10_worth_J53
  refine kp_n (kp_f_X10_refused hN_v53_t1 hF_x_x_2) (fun o53 h1 => ?_)
  refine kp_i ?_ ?_
  · skip
    refine kp_b0 (fun o69 => ?_)
    exact kp_s ⟨h1.2.1, h1.2.2⟩
  · skip
    exact kp_s ⟨h1.2.1, h1.2.2⟩
theorem kp_f_X10_worth_J51 {F0 : Int32} {k1 : Int32} {k2 : Int32} {k3 : Int32} {x_x : TX10_x} {p_p : TX6_p} {o2 : Int32} (hF_x_x_2 : x_x.2 = F0) (hN_o2 : ¬ o2 = (4 : Int32)) : KP (f_X10_worth_J51 k1 k2 k3 x_x p_p o2) (fun (r : Int32 × TX10_x) => ¬ r.2.1 = (4 : Int32) ∧ r.2.2 = F0) := by
  unfold f_X10_worth_J51
  exact (kp_f_X10_worth_J53 hF_x_x_2 hN_o2)
theorem kp_f_X10_worth_J34 {F0 : Int32} {k1 : Int32} {k2 : Int32} {k3 : Int32} {x_x : TX10_x} {p_p : TX6_p} {o2 : Int32} {v34_t0 : Int32} (hF_x_x_2 : x_x.2 = F0) (hN_o2 : ¬ o2 = (4 : Int32)) (hN_v34_t0 : ¬ v34_t0 = (4 : Int32)) : KP (f_X10_worth_J34 k1 k2 k3 x_x p_p o2 v34_t0) (fun (r : Int32 × TX10_x) => ¬ r.2.1 = (4 : Int32) ∧ r.2.2 = F0) := by
  unfold f_X10_worth_J34
  refine kp_i ?_ ?_
  · skip
    refine kp_i ?_ ?_
    · skip
      exact (kp_f_X10_worth_J53 hF_x_x_2 (show ¬ (2 : Int32) = 4 by decide))
    · skip
      exact (kp_f_X10_worth_J51 hF_x_x_2 hN_o2)
  · skip
    exact (kp_f_X10_worth_J51 hF_x_x_2 hN_o2)
theorem kp_f_X10_worth_J33 {F0 : Int32} {k1 : Int32} {k2 : Int32} {k3 : Int32} {x_x : TX10_x} {p_p : TX6_p} {o2 : Int32} (hF_x_x_2 : x_x.2 = F0) (hN_o2 : ¬ o2 = (4 : Int32)) : KP (f_X10_worth_J33 k1 k2 k3 x_x p_p o2) (fun (r : Int32 × TX10_x) => ¬ r.2.1 = (4 : Int32) ∧ r.2.2 = F0) := by
  unfold f_X10_worth_J33
  exact (kp_f_X10_worth_J34 hF_x_x_2 hN_o2 (show ¬ (0 : Int32) = 4 by decide))
theorem kp_f_X10_worth {F0 : Int32} {k1 : Int32} {k2 : Int32} {k3 : Int32} {x_x : TX10_x} {p_p : TX6_p} (hF_x_x_2 : x_x.2 = F0) : KP (f_X10_worth k1 k2 k3 x_x p_p) (fun (r : Int32 × TX10_x) => ¬ r.2.1 = (4 : Int32) ∧ r.2.2 = F0) := by
  unfold f_X10_worth
  refine kp_n (kp_f_X10_answerTrouble ) (fun o2 h1 => ?_)
  refine kp_n (kp_f_X10_within ) (fun o12 h2 => ?_)
  refine kp_i ?_ ?_
  · skip
    exact (kp_f_X10_worth_J33 hF_x_x_2 h1)
  · skip
    refine kp_n (kp_f_X10_within ) (fun o23 h3 => ?_)
    refine kp_i ?_ ?_
    · skip
      exact (kp_f_X10_worth_J33 hF_x_x_2 h1)
    · skip
      exact (kp_f_X10_worth_J34 hF_x_x_2 h1 (show ¬ (1 : Int32) = 4 by decide))
theorem kp_f_X10_load {F0 : Int32} {k1 : Int32} {x_x : TX10_x} {p_p : TX6_p} {n_n : TX4_n} (hF_x_x_2 : x_x.2 = F0) : KP (f_X10_load k1 x_x p_p n_n) (fun (r : Int32 × TX10_x) => ¬ r.2.1 = (4 : Int32) ∧ r.2.2 = F0) := by
  unfold f_X10_load
  refine kp_n (kp_f_X10_within ) (fun o6 h1 => ?_)
  refine kp_n (kp_f_X10_numberTrouble h1) (fun o9 h2 => ?_)
  refine kp_n (kp_f_X10_refused h2 hF_x_x_2) (fun o12 h3 => ?_)
  refine kp_i ?_ ?_
  · skip
    refine kp_b0 (fun o29 => ?_)
    exact kp_s ⟨h3.2.1, h3.2.2⟩
  · skip
    exact kp_s ⟨h3.2.1, h3.2.2⟩
theorem kp_f_X10_loadWorth {F0 : Int32} {k1 : Int32} {x_x : TX10_x} {p_p : TX6_p} {n_n : TX4_n} (hF_x_x_2 : x_x.2 = F0) : KP (f_X10_loadWorth k1 x_x p_p n_n) (fun (r : Int32 × TX10_x) => ¬ r.2.1 = (4 : Int32) ∧ r.2.2 = F0) := by
  unfold f_X10_loadWorth
  refine kp_n (kp_f_X10_within ) (fun o6 h1 => ?_)
  refine kp_n (kp_f_X10_numberTrouble h1) (fun o9 h2 => ?_)
  refine kp_n (kp_f_X10_refused h2 hF_x_x_2) (fun o12 h3 => ?_)
  refine kp_i ?_ ?_
  · skip
    refine kp_b0 (fun o37 => ?_)
    refine kp_b0 (fun o47 => ?_)
    exact kp_s ⟨h3.2.1, h3.2.2⟩
  · skip
    exact kp_s ⟨h3.2.1, h3.2.2⟩
theorem kp_f_X10_bestDay_J93 {F0 : Int32} {k50_ : Int32 → Int32 → Int32 → Option (Int32 × TX10_x)} {v50_l4 : Int32} {v93_l3 : Int32} {v93_l2 : Int32} (hk50 : ∀ (v50_l4 : Int32) (v50_l3 : Int32) (v50_l2 : Int32), KP (k50_ v50_l4 v50_l3 v50_l2) (fun (r : Int32 × TX10_x) => ¬ r.2.1 = (4 : Int32) ∧ r.2.2 = F0)) : KP (f_X10_bestDay_J93 k50_ v50_l4 v93_l3 v93_l2) (fun (r : Int32 × TX10_x) => ¬ r.2.1 = (4 : Int32) ∧ r.2.2 = F0) := by
  unfold f_X10_bestDay_J93
  exact hk50 _ _ _ 
theorem kp_f_X10_bestDay_L50 {F0 : Int32} {p_p : TX6_p} {n_n : TX4_n} {o21 : Int32} {o5 : (Int32 × TX10_x)} (hN_o5_1 : ¬ o5.1 = (4 : Int32)) (hN_o5_2_1 : ¬ o5.2.1 = (4 : Int32)) (hF_o5_2_2 : o5.2.2 = F0) : ∀ (n : Nat) (v50_l4 : Int32) (v50_l3 : Int32) (v50_l2 : Int32), KP (f_X10_bestDay_L50 p_p n_n o21 o5 n v50_l4 v50_l3 v50_l2) (fun (r : Int32 × TX10_x) => ¬ r.2.1 = (4 : Int32) ∧ r.2.2 = F0) := by
  intro n
  induction n with
  | zero =>
    intro v50_l4 v50_l3 v50_l2 
    exact kp_o
  | succ n ih =>
    intro v50_l4 v50_l3 v50_l2 
    rw [f_X10_bestDay_L50]
    refine kp_i ?_ ?_
    · skip
      exact kp_s ⟨hN_o5_2_1, hF_o5_2_2⟩
    · skip
      refine kp_b0 (fun o76 => ?_)
      refine kp_i ?_ ?_
      · skip
        exact (kp_f_X10_bestDay_J93 ih)
      · skip
        exact (kp_f_X10_bestDay_J93 ih)
theorem kp_f_X10_bestDay {F0 : Int32} {x_x : TX10_x} {p_p : TX6_p} {n_n : TX4_n} (hF_x_x_2 : x_x.2 = F0) : KP (f_X10_bestDay x_x p_p n_n) (fun (r : Int32 × TX10_x) => ¬ r.2.1 = (4 : Int32) ∧ r.2.2 = F0) := by
  unfold f_X10_bestDay
  refine kp_n (kp_f_X10_pierTrouble ) (fun o2 h1 => ?_)
  refine kp_n (kp_f_X10_refused h1 hF_x_x_2) (fun o5 h2 => ?_)
  refine kp_i ?_ ?_
  · skip
    refine kp_b0 (fun o21 => ?_)
    refine kp_b0 (fun o43 => ?_)
    exact (kp_f_X10_bestDay_L50 h2.1 h2.2.1 h2.2.2 FU _ _ _ )
  · skip
    exact kp_s ⟨h2.2.1, h2.2.2⟩
theorem kp_f_X10_hooksTrouble_J80 : KP (f_X10_hooksTrouble_J80) (fun (r : Int32) => ¬ r = (4 : Int32)) := by
  unfold f_X10_hooksTrouble_J80
  exact kp_s (show ¬ (5 : Int32) = 4 by decide)
theorem kp_f_X10_hooksTrouble {k1 : Int32} {k2 : Int32} {k3 : Int32} {k4 : Int32} {p_p : TX6_p} {n_n : TX4_n} : KP (f_X10_hooksTrouble k1 k2 k3 k4 p_p n_n) (fun (r : Int32) => ¬ r = (4 : Int32)) := by
  unfold f_X10_hooksTrouble
  refine kp_n (kp_f_X6_hasAnswer ) (fun o5 h1 => ?_)
  refine kp_i ?_ ?_
  · skip
    exact kp_s (show ¬ (1 : Int32) = 4 by decide)
  · skip
    refine kp_n (kp_f_X6_hasAsker ) (fun o16 h2 => ?_)
    refine kp_i ?_ ?_
    · skip
      exact kp_s (show ¬ (1 : Int32) = 4 by decide)
    · skip
      refine kp_n (kp_f_X6_hasAsker ) (fun o27 h3 => ?_)
      refine kp_i ?_ ?_
      · skip
        exact kp_s (show ¬ (1 : Int32) = 4 by decide)
      · skip
        refine kp_i ?_ ?_
        · skip
          exact kp_s (show ¬ (1 : Int32) = 4 by decide)
        · skip
          refine kp_n (kp_f_X10_within ) (fun o46 h4 => ?_)
          refine kp_i ?_ ?_
          · skip
            exact kp_s (show ¬ (2 : Int32) = 4 by decide)
          · skip
            refine kp_gA ?_
            refine kp_i ?_ ?_
            · skip
              exact (kp_f_X10_hooksTrouble_J80 )
            · skip
              refine kp_gA ?_
              refine kp_i ?_ ?_
              · skip
                exact (kp_f_X10_hooksTrouble_J80 )
              · skip
                exact kp_s (show ¬ (0 : Int32) = 4 by decide)
theorem kp_f_X10_hooks {F0 : Int32} {k1 : Int32} {k2 : Int32} {k3 : Int32} {k4 : Int32} {k5 : Int32} {x_x : TX10_x} {p_p : TX6_p} {n_n : TX4_n} (hF_x_x_2 : x_x.2 = F0) : KP (f_X10_hooks k1 k2 k3 k4 k5 x_x p_p n_n) (fun (r : Int32 × TX10_x) => ¬ r.2.1 = (4 : Int32) ∧ r.2.2 = F0) := by
  unfold f_X10_hooks
  refine kp_b (kp_f_X10_hooksTrouble ) (fun o7 h1 => ?_)
  refine kp_n (kp_f_X10_refused h1 hF_x_x_2) (fun o10 h2 => ?_)
  refine kp_i ?_ ?_
  · skip
    refine kp_gA ?_
    refine kp_b0 (fun o32 => ?_)
    refine kp_gA ?_
    refine kp_b0 (fun o51 => ?_)
    refine kp_i ?_ ?_
    · skip
      exact kp_s ⟨h2.2.1, h2.2.2⟩
    · skip
      refine kp_gZi ?_
      refine kp_gZi ?_
      refine kp_n0 (fun z97 => ?_)
      refine kp_i ?_ ?_
      · skip
        refine kp_i ?_ ?_
        · skip
          exact kp_s ⟨h2.2.1, h2.2.2⟩
        · skip
          exact kp_s ⟨h2.2.1, h2.2.2⟩
      · skip
        refine kp_i ?_ ?_
        · skip
          exact kp_s ⟨h2.2.1, h2.2.2⟩
        · skip
          exact kp_s ⟨h2.2.1, h2.2.2⟩
  · skip
    exact kp_s ⟨h2.2.1, h2.2.2⟩
theorem kp_f_X10_lines_J35 {F0 : Int32} {k1 : Int32} {k2 : Int32} {k3 : Int32} {k4 : Int32} {x_x : TX10_x} {p_p : TX6_p} {v35_t0 : Int32} (hF_x_x_2 : x_x.2 = F0) (hN_v35_t0 : ¬ v35_t0 = (4 : Int32)) : KP (f_X10_lines_J35 k1 k2 k3 k4 x_x p_p v35_t0) (fun (r : Int32 × TX10_x) => ¬ r.2.1 = (4 : Int32) ∧ r.2.2 = F0) := by
  unfold f_X10_lines_J35
  refine kp_n (kp_f_X10_numberTrouble hN_v35_t0) (fun o41 h1 => ?_)
  refine kp_n (kp_f_X10_refused h1 hF_x_x_2) (fun o44 h2 => ?_)
  refine kp_i ?_ ?_
  · skip
    refine kp_i ?_ ?_
    · skip
      refine kp_b0 (fun o70 => ?_)
      exact kp_s ⟨h2.2.1, h2.2.2⟩
    · skip
      refine kp_b0 (fun o61 => ?_)
      exact kp_s ⟨h2.2.1, h2.2.2⟩
  · skip
    exact kp_s ⟨h2.2.1, h2.2.2⟩
theorem kp_f_X10_lines_J34 {F0 : Int32} {k1 : Int32} {k2 : Int32} {k3 : Int32} {k4 : Int32} {x_x : TX10_x} {p_p : TX6_p} (hF_x_x_2 : x_x.2 = F0) : KP (f_X10_lines_J34 k1 k2 k3 k4 x_x p_p) (fun (r : Int32 × TX10_x) => ¬ r.2.1 = (4 : Int32) ∧ r.2.2 = F0) := by
  unfold f_X10_lines_J34
  exact (kp_f_X10_lines_J35 hF_x_x_2 (show ¬ (0 : Int32) = 4 by decide))
theorem kp_f_X10_lines {F0 : Int32} {k1 : Int32} {k2 : Int32} {k3 : Int32} {k4 : Int32} {x_x : TX10_x} {p_p : TX6_p} (hF_x_x_2 : x_x.2 = F0) : KP (f_X10_lines k1 k2 k3 k4 x_x p_p) (fun (r : Int32 × TX10_x) => ¬ r.2.1 = (4 : Int32) ∧ r.2.2 = F0) := by
  unfold f_X10_lines
  refine kp_n (kp_f_X10_within ) (fun o4 h1 => ?_)
  refine kp_i ?_ ?_
  · skip
    exact (kp_f_X10_lines_J34 hF_x_x_2)
  · skip
    refine kp_n (kp_f_X10_within ) (fun o14 h2 => ?_)
    refine kp_i ?_ ?_
    · skip
      exact (kp_f_X10_lines_J34 hF_x_x_2)
    · skip
      refine kp_n (kp_f_X10_within ) (fun o24 h3 => ?_)
      refine kp_i ?_ ?_
      · skip
        exact (kp_f_X10_lines_J34 hF_x_x_2)
      · skip
        exact (kp_f_X10_lines_J35 hF_x_x_2 (show ¬ (1 : Int32) = 4 by decide))
theorem kp_f_X9_isBestAlone_L2 {k0 : Int32} {k1 : Int32} {k2 : Int32} : ∀ (n : Nat) (v2_l3 : Int32), KP (f_X9_isBestAlone_L2 k0 k1 k2 n v2_l3) (fun (r : Int32) => ¬ r = (4 : Int32)) := by
  intro n
  induction n with
  | zero =>
    intro v2_l3 
    exact kp_o
  | succ n ih =>
    intro v2_l3 
    rw [f_X9_isBestAlone_L2]
    refine kp_i ?_ ?_
    · skip
      exact kp_s (show ¬ (1 : Int32) = 4 by decide)
    · skip
      refine kp_b0 (fun o11 => ?_)
      refine kp_b0 (fun o17 => ?_)
      refine kp_i ?_ ?_
      · skip
        exact ih _ 
      · skip
        exact kp_s (show ¬ (0 : Int32) = 4 by decide)
theorem kp_f_X9_isBestAlone {k0 : Int32} {k1 : Int32} {k2 : Int32} : KP (f_X9_isBestAlone k0 k1 k2) (fun (r : Int32) => ¬ r = (4 : Int32)) := by
  unfold f_X9_isBestAlone
  exact (kp_f_X9_isBestAlone_L2  FU _ )
theorem kp_f_X9_isRest {k0 : Int32} {k1 : Int32} : KP (f_X9_isRest k0 k1) (fun (r : Int32) => ¬ r = (4 : Int32)) := by
  unfold f_X9_isRest
  refine kp_i ?_ ?_
  · skip
    exact kp_s (show ¬ (0 : Int32) = 4 by decide)
  · skip
    refine kp_b (kp_f_X9_isBestAlone ) (fun o19 h1 => ?_)
    refine kp_i ?_ ?_
    · skip
      exact kp_s (show ¬ (0 : Int32) = 4 by decide)
    · skip
      refine kp_b (kp_f_X9_isBestAlone ) (fun o28 h2 => ?_)
      refine kp_i ?_ ?_
      · skip
        exact kp_s (show ¬ (0 : Int32) = 4 by decide)
      · skip
        exact kp_s (show ¬ (1 : Int32) = 4 by decide)
theorem kp_f_X10_rests_J41 {F0 : Int32} {k24_ : Int32 → Int32 → Option (Int32 × TX10_x)} {v24_l3 : Int32} {v41_l2 : Int32} (hk24 : ∀ (v24_l3 : Int32) (v24_l2 : Int32), KP (k24_ v24_l3 v24_l2) (fun (r : Int32 × TX10_x) => ¬ r.2.1 = (4 : Int32) ∧ r.2.2 = F0)) : KP (f_X10_rests_J41 k24_ v24_l3 v41_l2) (fun (r : Int32 × TX10_x) => ¬ r.2.1 = (4 : Int32) ∧ r.2.2 = F0) := by
  unfold f_X10_rests_J41
  exact hk24 _ _ 
theorem kp_f_X10_rests_L24 {F0 : Int32} {k1 : Int32} {o12 : (Int32 × TX10_x)} (hN_o12_1 : ¬ o12.1 = (4 : Int32)) (hN_o12_2_1 : ¬ o12.2.1 = (4 : Int32)) (hF_o12_2_2 : o12.2.2 = F0) : ∀ (n : Nat) (v24_l3 : Int32) (v24_l2 : Int32), KP (f_X10_rests_L24 k1 o12 n v24_l3 v24_l2) (fun (r : Int32 × TX10_x) => ¬ r.2.1 = (4 : Int32) ∧ r.2.2 = F0) := by
  intro n
  induction n with
  | zero =>
    intro v24_l3 v24_l2 
    exact kp_o
  | succ n ih =>
    intro v24_l3 v24_l2 
    rw [f_X10_rests_L24]
    refine kp_i ?_ ?_
    · skip
      exact kp_s ⟨hN_o12_2_1, hF_o12_2_2⟩
    · skip
      refine kp_b (kp_f_X9_isRest ) (fun o32 h1 => ?_)
      refine kp_i ?_ ?_
      · skip
        exact (kp_f_X10_rests_J41 ih)
      · skip
        exact (kp_f_X10_rests_J41 ih)
theorem kp_f_X10_rests {F0 : Int32} {k1 : Int32} {x_x : TX10_x} {p_p : TX6_p} (hF_x_x_2 : x_x.2 = F0) : KP (f_X10_rests k1 x_x p_p) (fun (r : Int32 × TX10_x) => ¬ r.2.1 = (4 : Int32) ∧ r.2.2 = F0) := by
  unfold f_X10_rests
  refine kp_n (kp_f_X10_within ) (fun o6 h1 => ?_)
  refine kp_n (kp_f_X10_numberTrouble h1) (fun o9 h2 => ?_)
  refine kp_n (kp_f_X10_refused h2 hF_x_x_2) (fun o12 h3 => ?_)
  refine kp_i ?_ ?_
  · skip
    exact (kp_f_X10_rests_L24 h3.1 h3.2.1 h3.2.2 FU _ _ )
  · skip
    exact kp_s ⟨h3.2.1, h3.2.2⟩
theorem kp_f_X10_rest_L22 {F0 : Int32} {k1 : Int32} {o12 : (Int32 × TX10_x)} (hN_o12_1 : ¬ o12.1 = (4 : Int32)) (hN_o12_2_1 : ¬ o12.2.1 = (4 : Int32)) (hF_o12_2_2 : o12.2.2 = F0) : ∀ (n : Nat) (v22_l2 : Int32), KP (f_X10_rest_L22 k1 o12 n v22_l2) (fun (r : Int32 × TX10_x) => ¬ r.2.1 = (4 : Int32) ∧ r.2.2 = F0) := by
  intro n
  induction n with
  | zero =>
    intro v22_l2 
    exact kp_o
  | succ n ih =>
    intro v22_l2 
    rw [f_X10_rest_L22]
    refine kp_i ?_ ?_
    · skip
      exact kp_s ⟨hN_o12_2_1, hF_o12_2_2⟩
    · skip
      refine kp_b (kp_f_X9_isRest ) (fun o30 h1 => ?_)
      refine kp_i ?_ ?_
      · skip
        exact ih _ 
      · skip
        exact kp_s ⟨hN_o12_2_1, hF_o12_2_2⟩
theorem kp_f_X10_rest {F0 : Int32} {k1 : Int32} {x_x : TX10_x} {p_p : TX6_p} (hF_x_x_2 : x_x.2 = F0) : KP (f_X10_rest k1 x_x p_p) (fun (r : Int32 × TX10_x) => ¬ r.2.1 = (4 : Int32) ∧ r.2.2 = F0) := by
  unfold f_X10_rest
  refine kp_n (kp_f_X10_within ) (fun o6 h1 => ?_)
  refine kp_n (kp_f_X10_numberTrouble h1) (fun o9 h2 => ?_)
  refine kp_n (kp_f_X10_refused h2 hF_x_x_2) (fun o12 h3 => ?_)
  refine kp_i ?_ ?_
  · skip
    exact (kp_f_X10_rest_L22 h3.1 h3.2.1 h3.2.2 FU _ )
  · skip
    exact kp_s ⟨h3.2.1, h3.2.2⟩
theorem kp_f_X10_isForecast {k0 : Int32} {k1 : Int32} : KV (f_X10_isForecast k0 k1) (fun (r : Int32) => ¬ r = (4 : Int32)) := by
  unfold f_X10_isForecast
  refine kv_n (kp_f_X10_within ) (fun o5 h1 => ?_)
  refine kv_i ?_ ?_
  · skip
    exact kv_s (show ¬ (0 : Int32) = 4 by decide)
  · skip
    refine kv_n (kp_f_X10_within ) (fun o15 h2 => ?_)
    refine kv_i ?_ ?_
    · skip
      exact kv_s (show ¬ (0 : Int32) = 4 by decide)
    · skip
      exact kv_s (show ¬ (1 : Int32) = 4 by decide)
theorem kp_f_X10_landed {F0 : Int32} {k1 : Int32} {k2 : Int32} {x_x : TX10_x} {p_p : TX6_p} {n_n : TX4_n} {y_y : TX1_y} {n2_n : TX4_n} (hF_x_x_2 : x_x.2 = F0) : KP (f_X10_landed k1 k2 x_x p_p n_n y_y n2_n) (fun (r : Int32 × TX10_x × TX1_y × TX4_n) => ¬ r.2.1.1 = (4 : Int32) ∧ r.2.1.2 = F0) := by
  unfold f_X10_landed
  refine kp_n (kp_f_X10_isForecast ) (fun o4 h1 => ?_)
  refine kp_n (kp_f_X10_numberTrouble h1) (fun o7 h2 => ?_)
  refine kp_n (kp_f_X10_refused h2 hF_x_x_2) (fun o10 h3 => ?_)
  refine kp_i ?_ ?_
  · skip
    refine kp_b0 (fun o32 => ?_)
    exact kp_s ⟨h3.2.1, h3.2.2⟩
  · skip
    exact kp_s ⟨h3.2.1, h3.2.2⟩
theorem kp_f_X10_landedIn_J27 {F0 : Int32} {k1 : Int32} {k2 : Int32} {k3 : Int32} {x_x : TX10_x} {p_p : TX6_p} {n_n : TX4_n} {y_y : TX1_y} {n2_n : TX4_n} {v27_t1 : Int32} (hF_x_x_2 : x_x.2 = F0) (hN_v27_t1 : ¬ v27_t1 = (4 : Int32)) : KP (f_X10_landedIn_J27 k1 k2 k3 x_x p_p n_n y_y n2_n v27_t1) (fun (r : Int32 × TX10_x × TX1_y × TX4_n) => ¬ r.2.1.1 = (4 : Int32) ∧ r.2.1.2 = F0) := by
  unfold f_X10_landedIn_J27
  refine kp_n (kp_f_X10_refused hN_v27_t1 hF_x_x_2) (fun o27 h1 => ?_)
  refine kp_i ?_ ?_
  · skip
    refine kp_b0 (fun o49 => ?_)
    refine kp_gA ?_
    exact kp_s ⟨h1.2.1, h1.2.2⟩
  · skip
    exact kp_s ⟨h1.2.1, h1.2.2⟩
theorem kp_f_X10_landedIn {F0 : Int32} {k1 : Int32} {k2 : Int32} {k3 : Int32} {x_x : TX10_x} {p_p : TX6_p} {n_n : TX4_n} {y_y : TX1_y} {n2_n : TX4_n} (hF_x_x_2 : x_x.2 = F0) : KP (f_X10_landedIn k1 k2 k3 x_x p_p n_n y_y n2_n) (fun (r : Int32 × TX10_x × TX1_y × TX4_n) => ¬ r.2.1.1 = (4 : Int32) ∧ r.2.1.2 = F0) := by
  unfold f_X10_landedIn
  refine kp_n (kp_f_X10_answerTrouble ) (fun o2 h1 => ?_)
  refine kp_i ?_ ?_
  · skip
    refine kp_n (kp_f_X10_isForecast ) (fun o16 h2 => ?_)
    refine kp_n (kp_f_X10_numberTrouble h2) (fun o19 h3 => ?_)
    exact (kp_f_X10_landedIn_J27 hF_x_x_2 h3)
  · skip
    exact (kp_f_X10_landedIn_J27 hF_x_x_2 h1)
theorem kp_f_X10_crabs {F0 : Int32} {k1 : Int32} {k2 : Int32} {x_x : TX10_x} {p_p : TX6_p} {n_n : TX4_n} {y_y : TX1_y} {n2_n : TX4_n} (hF_x_x_2 : x_x.2 = F0) : KP (f_X10_crabs k1 k2 x_x p_p n_n y_y n2_n) (fun (r : Int32 × TX10_x × TX1_y × TX4_n) => ¬ r.2.1.1 = (4 : Int32) ∧ r.2.1.2 = F0) := by
  unfold f_X10_crabs
  refine kp_n (kp_f_X10_isForecast ) (fun o4 h1 => ?_)
  refine kp_n (kp_f_X10_numberTrouble h1) (fun o7 h2 => ?_)
  refine kp_n (kp_f_X10_refused h2 hF_x_x_2) (fun o10 h3 => ?_)
  refine kp_i ?_ ?_
  · skip
    refine kp_b0 (fun o32 => ?_)
    exact kp_s ⟨h3.2.1, h3.2.2⟩
  · skip
    exact kp_s ⟨h3.2.1, h3.2.2⟩
theorem kp_f_X12_led_J51 {F0 : Int32} {k9_ : Int32 → Int32 → Option (Int32 × TX12_t)} {v9_l3 : Int32} {v51_l2 : Int32} (hk9 : ∀ (v9_l3 : Int32) (v9_l2 : Int32), KP (k9_ v9_l3 v9_l2) (fun (r : Int32 × TX12_t) => ¬ r.2.1 = (4 : Int32) ∧ r.2.2.2 = F0)) : KP (f_X12_led_J51 k9_ v9_l3 v51_l2) (fun (r : Int32 × TX12_t) => ¬ r.2.1 = (4 : Int32) ∧ r.2.2.2 = F0) := by
  unfold f_X12_led_J51
  exact hk9 _ _ 
theorem kp_f_X12_led_L9 {F0 : Int32} {k1 : Int32} {m_t : TX12_t} {m_v : TX12_v} {q_q : TX11_q} (hF_m_t_2_2 : m_t.2.2 = F0) : ∀ (n : Nat) (v9_l3 : Int32) (v9_l2 : Int32), KP (f_X12_led_L9 k1 m_t m_v q_q n v9_l3 v9_l2) (fun (r : Int32 × TX12_t) => ¬ r.2.1 = (4 : Int32) ∧ r.2.2.2 = F0) := by
  intro n
  induction n with
  | zero =>
    intro v9_l3 v9_l2 
    exact kp_o
  | succ n ih =>
    intro v9_l3 v9_l2 
    rw [f_X12_led_L9]
    refine kp_i ?_ ?_
    · skip
      exact kp_s ⟨(show ¬ (1 : Int32) = 4 by decide), hF_m_t_2_2⟩
    · skip
      refine kp_gA ?_
      refine kp_i ?_ ?_
      · skip
        exact (kp_f_X12_led_J51 ih)
      · skip
        refine kp_i ?_ ?_
        · skip
          exact kp_s ⟨(show ¬ (0 : Int32) = 4 by decide), hF_m_t_2_2⟩
        · skip
          exact (kp_f_X12_led_J51 ih)
theorem kp_f_X12_led {F0 : Int32} {k1 : Int32} {m_t : TX12_t} {m_v : TX12_v} {q_q : TX11_q} (hF_m_t_2_2 : m_t.2.2 = F0) : KP (f_X12_led k1 m_t m_v q_q) (fun (r : Int32 × TX12_t) => ¬ r.2.1 = (4 : Int32) ∧ r.2.2.2 = F0) := by
  unfold f_X12_led
  exact (kp_f_X12_led_L9 hF_m_t_2_2 FU _ _ )
theorem kp_f_X12_led_nul {F0 : Int32} {k1 : Int32} {m_t : TX12_t} (hF_m_t_2_2 : m_t.2.2 = F0) : KP (f_X12_led_nul k1 m_t) (fun (r : TX12_t) => ¬ r.1 = (4 : Int32) ∧ r.2.2 = F0) := by
  unfold f_X12_led_nul
  exact kp_s ⟨(show ¬ (1 : Int32) = 4 by decide), hF_m_t_2_2⟩
/-! the tape, and reading it: class and reference side by side -/
abbrev TR7 : Type := Int32 × Int32 × Int32 × Int32 × Int32 × (Nat → Int64) × (Nat → Int32) × Int32 × Int32 × Int32
abbrev TS12 : Type := Int32 × Int32 × Int32 × Int32 × Int32 × Int32 × Int32 × Int64
def bt (k v : Int32) : Int32 := vp_nar .byte ((k >>> (v &&& 31))).toInt8.toInt32
def w4 (T : Nat → Int32) (f : Nat) (k : Int32) : Nat → Int32 := upd (upd (upd (upd T f (bt k 24)) (f + 1) (bt k 16)) (f + 2) (bt k 8)) (f + 3) (bt k 0)
theorem byt_bt (k v : Int32) : byt (bt k v) := by
  unfold bt byt
  rw [vp_nar_byte, Int8.toInt_toInt32]
  have h1 := Int8.le_toInt ((k >>> (v &&& 31)).toInt8.toInt32.toInt8)
  have h2 := Int8.toInt_lt ((k >>> (v &&& 31)).toInt8.toInt32.toInt8)
  omega
theorem byt_upd {T : Nat → Int32} {f : Nat} {x : Int32} (hT : ∀ j, byt (T j)) (hx : byt x) : ∀ j, byt (upd T f x j) := by
  intro j
  unfold upd
  by_cases h : j = f
  · rw [if_pos h]
    exact hx
  · rw [if_neg h]
    exact hT j
theorem byt_w4 {T : Nat → Int32} {f : Nat} {k : Int32} (hT : ∀ j, byt (T j)) : ∀ j, byt (w4 T f k j) := byt_upd (byt_upd (byt_upd (byt_upd hT (byt_bt _ _)) (byt_bt _ _)) (byt_bt _ _)) (byt_bt _ _)
theorem put_step {k v : Int32} {n f : Nat} {T : Nat → Int32} {tl : TR7} (hv : ¬ v < 0) (hf : f < 900) : f_X7_put_L3 k (n + 1) v (T, nI f, tl) = f_X7_put_L3 k n (v + (-8)) (upd T f (bt k v), nI (f + 1), tl) := by
  rw [f_X7_put_L3, if_neg hv, if_neg (show ¬ (900 : Int32) ≤ nI f from nI_ge (b := 900) hf (by omega)), gA_in (vin hf (by omega))]
  show f_X7_put_L3 k n (v + (-8)) (upd T (nI f).toNatClampNeg (bt k v), nI f + 1, tl) = _
  rw [nI_clamp (by omega), nIs]
theorem put_ok {k : Int32} {f : Nat} {T : Nat → Int32} {tl : TR7} (hf : f + 4 ≤ 900) : f_X7_put k (T, nI f, tl) = some (w4 T f k, nI (f + 4), tl) := by
  rw [f_X7_put, show FU = 999995 + 1 + 1 + 1 + 1 + 1 from rfl, put_step (by decide) (by omega), show (24 : Int32) + (-8) = 16 by decide, put_step (by decide) (by omega), show (16 : Int32) + (-8) = 8 by decide, put_step (by decide) (by omega), show (8 : Int32) + (-8) = 0 by decide, put_step (by decide) (by omega), show (0 : Int32) + (-8) = -8 by decide, f_X7_put_L3, if_pos (by decide)]
  rfl
theorem fm_J {K : Int32 → TX12_s → Option (Int32 × TX12_t × TX12_s)} {v t0 : Int32} {f : Nat} {T : Nat → Int32} {ts : TS12} (hf : f < 900) : f_X12_feed_J76 K v (T, nI f, ts) t0 = K (v + 1) (upd T f (bt t0 (24 - 8 * (v - v / 4 * 4))), nI (f + 1), ts) := by
  rw [f_X12_feed_J76, nm, gA_in (vin hf (by omega))]
  show K (v + 1) (upd T (nI f).toNatClampNeg (bt t0 (24 - 8 * (v - v / 4 * 4))), nI f + 1, ts) = _
  rw [nI_clamp (by omega), nIs]
section FEEDM
variable {k1 k2 k3 k4 k5 : Int32} {t : TX12_t} {n f : Nat} {T : Nat → Int32} {ts : TS12}
theorem fm_0 (hf : f < 900) : f_X12_feed_L23 k1 k2 k3 k4 k5 t (n + 1) 0 (T, nI f, ts) = f_X12_feed_L23 k1 k2 k3 k4 k5 t n 1 (upd T f (bt k1 24), nI (f + 1), ts) := by
  rw [f_X12_feed_L23, if_neg (show ¬ (20 : Int32) ≤ 0 by decide), if_neg (show ¬ (4 : Int32) ≤ 0 by decide), fm_J hf, show (0 : Int32) + 1 = 1 by decide, show (24 : Int32) - 8 * (0 - 0 / 4 * 4) = 24 by decide]
theorem fm_1 (hf : f < 900) : f_X12_feed_L23 k1 k2 k3 k4 k5 t (n + 1) 1 (T, nI f, ts) = f_X12_feed_L23 k1 k2 k3 k4 k5 t n 2 (upd T f (bt k1 16), nI (f + 1), ts) := by
  rw [f_X12_feed_L23, if_neg (show ¬ (20 : Int32) ≤ 1 by decide), if_neg (show ¬ (4 : Int32) ≤ 1 by decide), fm_J hf, show (1 : Int32) + 1 = 2 by decide, show (24 : Int32) - 8 * (1 - 1 / 4 * 4) = 16 by decide]
theorem fm_2 (hf : f < 900) : f_X12_feed_L23 k1 k2 k3 k4 k5 t (n + 1) 2 (T, nI f, ts) = f_X12_feed_L23 k1 k2 k3 k4 k5 t n 3 (upd T f (bt k1 8), nI (f + 1), ts) := by
  rw [f_X12_feed_L23, if_neg (show ¬ (20 : Int32) ≤ 2 by decide), if_neg (show ¬ (4 : Int32) ≤ 2 by decide), fm_J hf, show (2 : Int32) + 1 = 3 by decide, show (24 : Int32) - 8 * (2 - 2 / 4 * 4) = 8 by decide]
theorem fm_3 (hf : f < 900) : f_X12_feed_L23 k1 k2 k3 k4 k5 t (n + 1) 3 (T, nI f, ts) = f_X12_feed_L23 k1 k2 k3 k4 k5 t n 4 (upd T f (bt k1 0), nI (f + 1), ts) := by
  rw [f_X12_feed_L23, if_neg (show ¬ (20 : Int32) ≤ 3 by decide), if_neg (show ¬ (4 : Int32) ≤ 3 by decide), fm_J hf, show (3 : Int32) + 1 = 4 by decide, show (24 : Int32) - 8 * (3 - 3 / 4 * 4) = 0 by decide]
theorem fm_4 (hf : f < 900) : f_X12_feed_L23 k1 k2 k3 k4 k5 t (n + 1) 4 (T, nI f, ts) = f_X12_feed_L23 k1 k2 k3 k4 k5 t n 5 (upd T f (bt k2 24), nI (f + 1), ts) := by
  rw [f_X12_feed_L23, if_neg (show ¬ (20 : Int32) ≤ 4 by decide), if_pos (show (4 : Int32) ≤ 4 by decide), if_neg (show ¬ (8 : Int32) ≤ 4 by decide), fm_J hf, show (4 : Int32) + 1 = 5 by decide, show (24 : Int32) - 8 * (4 - 4 / 4 * 4) = 24 by decide]
theorem fm_5 (hf : f < 900) : f_X12_feed_L23 k1 k2 k3 k4 k5 t (n + 1) 5 (T, nI f, ts) = f_X12_feed_L23 k1 k2 k3 k4 k5 t n 6 (upd T f (bt k2 16), nI (f + 1), ts) := by
  rw [f_X12_feed_L23, if_neg (show ¬ (20 : Int32) ≤ 5 by decide), if_pos (show (4 : Int32) ≤ 5 by decide), if_neg (show ¬ (8 : Int32) ≤ 5 by decide), fm_J hf, show (5 : Int32) + 1 = 6 by decide, show (24 : Int32) - 8 * (5 - 5 / 4 * 4) = 16 by decide]
theorem fm_6 (hf : f < 900) : f_X12_feed_L23 k1 k2 k3 k4 k5 t (n + 1) 6 (T, nI f, ts) = f_X12_feed_L23 k1 k2 k3 k4 k5 t n 7 (upd T f (bt k2 8), nI (f + 1), ts) := by
  rw [f_X12_feed_L23, if_neg (show ¬ (20 : Int32) ≤ 6 by decide), if_pos (show (4 : Int32) ≤ 6 by decide), if_neg (show ¬ (8 : Int32) ≤ 6 by decide), fm_J hf, show (6 : Int32) + 1 = 7 by decide, show (24 : Int32) - 8 * (6 - 6 / 4 * 4) = 8 by decide]
theorem fm_7 (hf : f < 900) : f_X12_feed_L23 k1 k2 k3 k4 k5 t (n + 1) 7 (T, nI f, ts) = f_X12_feed_L23 k1 k2 k3 k4 k5 t n 8 (upd T f (bt k2 0), nI (f + 1), ts) := by
  rw [f_X12_feed_L23, if_neg (show ¬ (20 : Int32) ≤ 7 by decide), if_pos (show (4 : Int32) ≤ 7 by decide), if_neg (show ¬ (8 : Int32) ≤ 7 by decide), fm_J hf, show (7 : Int32) + 1 = 8 by decide, show (24 : Int32) - 8 * (7 - 7 / 4 * 4) = 0 by decide]
theorem fm_8 (hf : f < 900) : f_X12_feed_L23 k1 k2 k3 k4 k5 t (n + 1) 8 (T, nI f, ts) = f_X12_feed_L23 k1 k2 k3 k4 k5 t n 9 (upd T f (bt k3 24), nI (f + 1), ts) := by
  rw [f_X12_feed_L23, if_neg (show ¬ (20 : Int32) ≤ 8 by decide), if_pos (show (4 : Int32) ≤ 8 by decide), if_pos (show (8 : Int32) ≤ 8 by decide), if_neg (show ¬ (12 : Int32) ≤ 8 by decide), fm_J hf, show (8 : Int32) + 1 = 9 by decide, show (24 : Int32) - 8 * (8 - 8 / 4 * 4) = 24 by decide]
theorem fm_9 (hf : f < 900) : f_X12_feed_L23 k1 k2 k3 k4 k5 t (n + 1) 9 (T, nI f, ts) = f_X12_feed_L23 k1 k2 k3 k4 k5 t n 10 (upd T f (bt k3 16), nI (f + 1), ts) := by
  rw [f_X12_feed_L23, if_neg (show ¬ (20 : Int32) ≤ 9 by decide), if_pos (show (4 : Int32) ≤ 9 by decide), if_pos (show (8 : Int32) ≤ 9 by decide), if_neg (show ¬ (12 : Int32) ≤ 9 by decide), fm_J hf, show (9 : Int32) + 1 = 10 by decide, show (24 : Int32) - 8 * (9 - 9 / 4 * 4) = 16 by decide]
theorem fm_10 (hf : f < 900) : f_X12_feed_L23 k1 k2 k3 k4 k5 t (n + 1) 10 (T, nI f, ts) = f_X12_feed_L23 k1 k2 k3 k4 k5 t n 11 (upd T f (bt k3 8), nI (f + 1), ts) := by
  rw [f_X12_feed_L23, if_neg (show ¬ (20 : Int32) ≤ 10 by decide), if_pos (show (4 : Int32) ≤ 10 by decide), if_pos (show (8 : Int32) ≤ 10 by decide), if_neg (show ¬ (12 : Int32) ≤ 10 by decide), fm_J hf, show (10 : Int32) + 1 = 11 by decide, show (24 : Int32) - 8 * (10 - 10 / 4 * 4) = 8 by decide]
theorem fm_11 (hf : f < 900) : f_X12_feed_L23 k1 k2 k3 k4 k5 t (n + 1) 11 (T, nI f, ts) = f_X12_feed_L23 k1 k2 k3 k4 k5 t n 12 (upd T f (bt k3 0), nI (f + 1), ts) := by
  rw [f_X12_feed_L23, if_neg (show ¬ (20 : Int32) ≤ 11 by decide), if_pos (show (4 : Int32) ≤ 11 by decide), if_pos (show (8 : Int32) ≤ 11 by decide), if_neg (show ¬ (12 : Int32) ≤ 11 by decide), fm_J hf, show (11 : Int32) + 1 = 12 by decide, show (24 : Int32) - 8 * (11 - 11 / 4 * 4) = 0 by decide]
theorem fm_12 (hf : f < 900) : f_X12_feed_L23 k1 k2 k3 k4 k5 t (n + 1) 12 (T, nI f, ts) = f_X12_feed_L23 k1 k2 k3 k4 k5 t n 13 (upd T f (bt k4 24), nI (f + 1), ts) := by
  rw [f_X12_feed_L23, if_neg (show ¬ (20 : Int32) ≤ 12 by decide), if_pos (show (4 : Int32) ≤ 12 by decide), if_pos (show (8 : Int32) ≤ 12 by decide), if_pos (show (12 : Int32) ≤ 12 by decide), if_neg (show ¬ (16 : Int32) ≤ 12 by decide), fm_J hf, show (12 : Int32) + 1 = 13 by decide, show (24 : Int32) - 8 * (12 - 12 / 4 * 4) = 24 by decide]
theorem fm_13 (hf : f < 900) : f_X12_feed_L23 k1 k2 k3 k4 k5 t (n + 1) 13 (T, nI f, ts) = f_X12_feed_L23 k1 k2 k3 k4 k5 t n 14 (upd T f (bt k4 16), nI (f + 1), ts) := by
  rw [f_X12_feed_L23, if_neg (show ¬ (20 : Int32) ≤ 13 by decide), if_pos (show (4 : Int32) ≤ 13 by decide), if_pos (show (8 : Int32) ≤ 13 by decide), if_pos (show (12 : Int32) ≤ 13 by decide), if_neg (show ¬ (16 : Int32) ≤ 13 by decide), fm_J hf, show (13 : Int32) + 1 = 14 by decide, show (24 : Int32) - 8 * (13 - 13 / 4 * 4) = 16 by decide]
theorem fm_14 (hf : f < 900) : f_X12_feed_L23 k1 k2 k3 k4 k5 t (n + 1) 14 (T, nI f, ts) = f_X12_feed_L23 k1 k2 k3 k4 k5 t n 15 (upd T f (bt k4 8), nI (f + 1), ts) := by
  rw [f_X12_feed_L23, if_neg (show ¬ (20 : Int32) ≤ 14 by decide), if_pos (show (4 : Int32) ≤ 14 by decide), if_pos (show (8 : Int32) ≤ 14 by decide), if_pos (show (12 : Int32) ≤ 14 by decide), if_neg (show ¬ (16 : Int32) ≤ 14 by decide), fm_J hf, show (14 : Int32) + 1 = 15 by decide, show (24 : Int32) - 8 * (14 - 14 / 4 * 4) = 8 by decide]
theorem fm_15 (hf : f < 900) : f_X12_feed_L23 k1 k2 k3 k4 k5 t (n + 1) 15 (T, nI f, ts) = f_X12_feed_L23 k1 k2 k3 k4 k5 t n 16 (upd T f (bt k4 0), nI (f + 1), ts) := by
  rw [f_X12_feed_L23, if_neg (show ¬ (20 : Int32) ≤ 15 by decide), if_pos (show (4 : Int32) ≤ 15 by decide), if_pos (show (8 : Int32) ≤ 15 by decide), if_pos (show (12 : Int32) ≤ 15 by decide), if_neg (show ¬ (16 : Int32) ≤ 15 by decide), fm_J hf, show (15 : Int32) + 1 = 16 by decide, show (24 : Int32) - 8 * (15 - 15 / 4 * 4) = 0 by decide]
theorem fm_16 (hf : f < 900) : f_X12_feed_L23 k1 k2 k3 k4 k5 t (n + 1) 16 (T, nI f, ts) = f_X12_feed_L23 k1 k2 k3 k4 k5 t n 17 (upd T f (bt k5 24), nI (f + 1), ts) := by
  rw [f_X12_feed_L23, if_neg (show ¬ (20 : Int32) ≤ 16 by decide), if_pos (show (4 : Int32) ≤ 16 by decide), if_pos (show (8 : Int32) ≤ 16 by decide), if_pos (show (12 : Int32) ≤ 16 by decide), if_pos (show (16 : Int32) ≤ 16 by decide), fm_J hf, show (16 : Int32) + 1 = 17 by decide, show (24 : Int32) - 8 * (16 - 16 / 4 * 4) = 24 by decide]
theorem fm_17 (hf : f < 900) : f_X12_feed_L23 k1 k2 k3 k4 k5 t (n + 1) 17 (T, nI f, ts) = f_X12_feed_L23 k1 k2 k3 k4 k5 t n 18 (upd T f (bt k5 16), nI (f + 1), ts) := by
  rw [f_X12_feed_L23, if_neg (show ¬ (20 : Int32) ≤ 17 by decide), if_pos (show (4 : Int32) ≤ 17 by decide), if_pos (show (8 : Int32) ≤ 17 by decide), if_pos (show (12 : Int32) ≤ 17 by decide), if_pos (show (16 : Int32) ≤ 17 by decide), fm_J hf, show (17 : Int32) + 1 = 18 by decide, show (24 : Int32) - 8 * (17 - 17 / 4 * 4) = 16 by decide]
theorem fm_18 (hf : f < 900) : f_X12_feed_L23 k1 k2 k3 k4 k5 t (n + 1) 18 (T, nI f, ts) = f_X12_feed_L23 k1 k2 k3 k4 k5 t n 19 (upd T f (bt k5 8), nI (f + 1), ts) := by
  rw [f_X12_feed_L23, if_neg (show ¬ (20 : Int32) ≤ 18 by decide), if_pos (show (4 : Int32) ≤ 18 by decide), if_pos (show (8 : Int32) ≤ 18 by decide), if_pos (show (12 : Int32) ≤ 18 by decide), if_pos (show (16 : Int32) ≤ 18 by decide), fm_J hf, show (18 : Int32) + 1 = 19 by decide, show (24 : Int32) - 8 * (18 - 18 / 4 * 4) = 8 by decide]
theorem fm_19 (hf : f < 900) : f_X12_feed_L23 k1 k2 k3 k4 k5 t (n + 1) 19 (T, nI f, ts) = f_X12_feed_L23 k1 k2 k3 k4 k5 t n 20 (upd T f (bt k5 0), nI (f + 1), ts) := by
  rw [f_X12_feed_L23, if_neg (show ¬ (20 : Int32) ≤ 19 by decide), if_pos (show (4 : Int32) ≤ 19 by decide), if_pos (show (8 : Int32) ≤ 19 by decide), if_pos (show (12 : Int32) ≤ 19 by decide), if_pos (show (16 : Int32) ≤ 19 by decide), fm_J hf, show (19 : Int32) + 1 = 20 by decide, show (24 : Int32) - 8 * (19 - 19 / 4 * 4) = 0 by decide]
theorem fm4_0 (hf : f + 4 ≤ 900) : f_X12_feed_L23 k1 k2 k3 k4 k5 t (n + 1 + 1 + 1 + 1) 0 (T, nI f, ts) = f_X12_feed_L23 k1 k2 k3 k4 k5 t n 4 (w4 T f k1, nI (f + 4), ts) := by
  rw [fm_0 (by omega), fm_1 (by omega), fm_2 (by omega), fm_3 (by omega)]
  rfl
theorem fm4_1 (hf : f + 4 ≤ 900) : f_X12_feed_L23 k1 k2 k3 k4 k5 t (n + 1 + 1 + 1 + 1) 4 (T, nI f, ts) = f_X12_feed_L23 k1 k2 k3 k4 k5 t n 8 (w4 T f k2, nI (f + 4), ts) := by
  rw [fm_4 (by omega), fm_5 (by omega), fm_6 (by omega), fm_7 (by omega)]
  rfl
theorem fm4_2 (hf : f + 4 ≤ 900) : f_X12_feed_L23 k1 k2 k3 k4 k5 t (n + 1 + 1 + 1 + 1) 8 (T, nI f, ts) = f_X12_feed_L23 k1 k2 k3 k4 k5 t n 12 (w4 T f k3, nI (f + 4), ts) := by
  rw [fm_8 (by omega), fm_9 (by omega), fm_10 (by omega), fm_11 (by omega)]
  rfl
theorem fm4_3 (hf : f + 4 ≤ 900) : f_X12_feed_L23 k1 k2 k3 k4 k5 t (n + 1 + 1 + 1 + 1) 12 (T, nI f, ts) = f_X12_feed_L23 k1 k2 k3 k4 k5 t n 16 (w4 T f k4, nI (f + 4), ts) := by
  rw [fm_12 (by omega), fm_13 (by omega), fm_14 (by omega), fm_15 (by omega)]
  rfl
theorem fm4_4 (hf : f + 4 ≤ 900) : f_X12_feed_L23 k1 k2 k3 k4 k5 t (n + 1 + 1 + 1 + 1) 16 (T, nI f, ts) = f_X12_feed_L23 k1 k2 k3 k4 k5 t n 20 (w4 T f k5, nI (f + 4), ts) := by
  rw [fm_16 (by omega), fm_17 (by omega), fm_18 (by omega), fm_19 (by omega)]
  rfl
end FEEDM
theorem feed_both {k1 k2 k3 k4 k5 : Int32} {t : TX12_t} {f : Nat} {T : Nat → Int32} {tl : TR7} {ts : TS12} (hT : ∀ j, byt (T j)) (hf : f ≤ 900) : ∃ (v : Int32) (T' : Nat → Int32) (f' : Nat), f_X10_feed k1 k2 k3 k4 k5 (T, nI f, tl) = some (v, (T', nI f', tl)) ∧ f_X12_feed k1 k2 k3 k4 k5 t (T, nI f, ts) = some (v, (0, t.2), (T', nI f', ts)) ∧ f' ≤ 900 ∧ ∀ j, byt (T' j) := by
  have e20 : nI f + (20 : Int32) = nI (f + 20) := nI_add f 20
  by_cases h : f + 20 ≤ 900
  · have hc : nI (f + 20) ≤ (900 : Int32) := nI_le (b := 900) h (by omega)
    refine ⟨nI (f + 20), w4 (w4 (w4 (w4 (w4 T f k1) (f + 4) k2) (f + 8) k3) (f + 12) k4) (f + 16) k5, f + 20, ?_, ?_, h, byt_w4 (byt_w4 (byt_w4 (byt_w4 (byt_w4 hT))))⟩
    · rw [f_X10_feed, if_pos (show nI f + (20 : Int32) ≤ 900 by rw [e20]; exact hc), put_ok (by omega), Option.bind_some, put_ok (by omega), Option.bind_some, put_ok (by omega), Option.bind_some, put_ok (by omega), Option.bind_some, put_ok (by omega), Option.bind_some]
    · rw [f_X12_feed, if_pos (show nI f + (20 : Int32) ≤ 900 by rw [e20]; exact hc), show FU = 999979 + 1 + 1 + 1 + 1 + 1 + 1 + 1 + 1 + 1 + 1 + 1 + 1 + 1 + 1 + 1 + 1 + 1 + 1 + 1 + 1 + 1 from rfl, fm4_0 (by omega), fm4_1 (by omega), fm4_2 (by omega), fm4_3 (by omega), fm4_4 (by omega), f_X12_feed_L23, if_pos (show (20 : Int32) ≤ 20 by decide)]
  · have hc : ¬ nI (f + 20) ≤ (900 : Int32) := nI_ge (a := 900) (b := f + 20) (by omega) (by omega)
    refine ⟨-1, T, f, ?_, ?_, hf, hT⟩
    · rw [f_X10_feed, if_neg (show ¬ nI f + (20 : Int32) ≤ 900 by rw [e20]; exact hc)]
    · rw [f_X12_feed, if_neg (show ¬ nI f + (20 : Int32) ≤ 900 by rw [e20]; exact hc)]
/-! a new pier's beginning -/
theorem beg41 : ∀ (k i fu : Nat) (a b c : Int32) (st lo lb li : Nat → Int32), i + k = 5 → k < fu → ∃ li', f_X4_begin_L41 fu (nI i) (a, b, c, st, lo, lb, li) = some (a, b, c, st, lo, lb, li') ∧ ∀ j, li' j = if i ≤ j ∧ j < 5 then -1 else li j := by
  intro k
  induction k with
  | zero =>
    intro i fu a b c st lo lb li hi hf
    obtain ⟨fu, rfl⟩ : ∃ z, fu = z + 1 := ⟨fu - 1, by omega⟩
    refine ⟨li, ?_, fun j => by rw [if_neg (by omega)]⟩
    rw [f_X4_begin_L41, if_pos (show (5 : Int32) ≤ nI i from nI_le (a := 5) (by omega) (by omega))]
  | succ k ih =>
    intro i fu a b c st lo lb li hi hf
    obtain ⟨fu, rfl⟩ : ∃ z, fu = z + 1 := ⟨fu - 1, by omega⟩
    obtain ⟨li', e, h⟩ := ih (i + 1) fu a b c st lo lb (upd li i (-1)) (by omega) (by omega)
    refine ⟨li', ?_, fun j => ?_⟩
    · rw [f_X4_begin_L41, if_neg (show ¬ (5 : Int32) ≤ nI i from nI_ge (b := 5) (by omega) (by omega)), gA_in (vin (show i < 5 by omega) (by omega)), nI_clamp (by omega), nIs]
      exact e
    · rw [h j]
      by_cases hj : j = i
      · subst hj
        rw [if_neg (by omega), if_pos (by omega)]
        exact upd_at
      · rw [upd_no hj]
        by_cases h2 : i + 1 ≤ j ∧ j < 5
        · rw [if_pos h2, if_pos (by omega)]
        · rw [if_neg h2, if_neg (by omega)]
theorem beg17 : ∀ (k i fu : Nat) (a b c : Int32) (st lo lb li : Nat → Int32), i + k = 6 → k < fu → ∃ st', f_X4_begin_L17 fu (nI i) (a, b, c, st, lo, lb, li) = f_X4_begin_L41 FU 0 (a, b, c, st', lo, lb, li) ∧ ∀ j, st' j = if i ≤ j ∧ j < 6 then 0 else st j := by
  intro k
  induction k with
  | zero =>
    intro i fu a b c st lo lb li hi hf
    obtain ⟨fu, rfl⟩ : ∃ z, fu = z + 1 := ⟨fu - 1, by omega⟩
    refine ⟨st, ?_, fun j => by rw [if_neg (by omega)]⟩
    rw [f_X4_begin_L17, if_pos (show (6 : Int32) ≤ nI i from nI_le (a := 6) (by omega) (by omega))]
  | succ k ih =>
    intro i fu a b c st lo lb li hi hf
    obtain ⟨fu, rfl⟩ : ∃ z, fu = z + 1 := ⟨fu - 1, by omega⟩
    obtain ⟨st', e, h⟩ := ih (i + 1) fu a b c (upd st i 0) lo lb li (by omega) (by omega)
    refine ⟨st', ?_, fun j => ?_⟩
    · rw [f_X4_begin_L17, if_neg (show ¬ (6 : Int32) ≤ nI i from nI_ge (b := 6) (by omega) (by omega)), gA_in (vin (show i < 6 by omega) (by omega)), nI_clamp (by omega), nIs]
      exact e
    · rw [h j]
      by_cases hj : j = i
      · subst hj
        rw [if_neg (by omega), if_pos (by omega)]
        exact upd_at
      · rw [upd_no hj]
        by_cases h2 : i + 1 ≤ j ∧ j < 6
        · rw [if_pos h2, if_pos (by omega)]
        · rw [if_neg h2, if_neg (by omega)]
theorem begin_ok (n : TX4_n) : ∃ st li, f_X4_begin n = some (0, 0, 0, st, n.2.2.2.2.1, n.2.2.2.2.2.1, li) ∧ (∀ j, j < 6 → st j = 0) ∧ ∀ j, j < 5 → li j = -1 := by
  obtain ⟨a, b, c, st, lo, lb, li⟩ := n
  obtain ⟨st', e, h⟩ := beg17 6 0 FU 0 0 0 st lo lb li rfl (by decide)
  obtain ⟨li', e2, h2⟩ := beg41 5 0 FU 0 0 0 st' lo lb li rfl (by decide)
  refine ⟨st', li', ?_, fun j hj => by rw [h j, if_pos (by omega)], fun j hj => by rw [h2 j, if_pos (by omega)]⟩
  rw [nI_0] at e e2
  rw [f_X4_begin]
  exact e.trans e2
/-- the reference's row of a fresh pier -/
def vrow (v : Nat → Int32) : Prop := (∀ j, j < 6 → v j = 0) ∧ (∀ j, 6 ≤ j → j < 23 → v j = -2) ∧ ∀ j, 23 ≤ j → j < 26 → v j = 0
theorem po156 {t : TX12_t} {h : TX12_h} {z : TX12_s × TX11_q} : ∀ (k i fu : Nat) (v : Nat → Int32), i + k = 5 → k < fu → ∃ v', f_X12_pier_o_L156 t h z fu (nI i) v = some ((f_X12_good z.2.2.2.2.2.2.2.1 (0, t.2)).1, (f_X12_good z.2.2.2.2.2.2.2.1 (0, t.2)).2, z.1, v', (h.1, h.2.1, 0, 0), z.2) ∧ ∀ j, v' j = if 18 + i ≤ j ∧ j < 23 then -2 else v j := by
  intro k
  induction k with
  | zero =>
    intro i fu v hi hf
    obtain ⟨fu, rfl⟩ : ∃ z, fu = z + 1 := ⟨fu - 1, by omega⟩
    refine ⟨v, ?_, fun j => by rw [if_neg (by omega)]⟩
    rw [f_X12_pier_o_L156, if_pos (show (5 : Int32) ≤ nI i from nI_le (a := 5) (by omega) (by omega)), nm]
  | succ k ih =>
    intro i fu v hi hf
    obtain ⟨fu, rfl⟩ : ∃ z, fu = z + 1 := ⟨fu - 1, by omega⟩
    obtain ⟨v', e, h2⟩ := ih (i + 1) fu (upd v (18 + i) (-2)) (by omega) (by omega)
    have ea : (18 : Int32) + nI i = nI (18 + i) := nI_add 18 i
    refine ⟨v', ?_, fun j => ?_⟩
    · rw [f_X12_pier_o_L156, if_neg (show ¬ (5 : Int32) ≤ nI i from nI_ge (b := 5) (by omega) (by omega)), ea, gA_in (vin (show 18 + i < 26 by omega) (by omega)), nI_clamp (by omega), nIs]
      exact e
    · rw [h2 j]
      by_cases hj : j = 18 + i
      · subst hj
        rw [if_neg (by omega), if_pos (by omega)]
        exact upd_at
      · rw [upd_no hj]
        by_cases h3 : 18 + (i + 1) ≤ j ∧ j < 23
        · rw [if_pos h3, if_pos (by omega)]
        · rw [if_neg h3, if_neg (by omega)]
theorem po120 {t : TX12_t} {h : TX12_h} {z : TX12_s × TX11_q} : ∀ (k i fu : Nat) (v : Nat → Int32), i + k = 6 → k < fu → ∃ v', f_X12_pier_o_L120 t h z fu (nI i) v = f_X12_pier_o_L156 t h z FU 0 v' ∧ ∀ j, v' j = if (6 + i ≤ j ∧ j < 12) ∨ (12 + i ≤ j ∧ j < 18) then -2 else v j := by
  intro k
  induction k with
  | zero =>
    intro i fu v hi hf
    obtain ⟨fu, rfl⟩ : ∃ z, fu = z + 1 := ⟨fu - 1, by omega⟩
    refine ⟨v, ?_, fun j => by rw [if_neg (by omega)]⟩
    rw [f_X12_pier_o_L120, if_pos (show (6 : Int32) ≤ nI i from nI_le (a := 6) (by omega) (by omega))]
  | succ k ih =>
    intro i fu v hi hf
    obtain ⟨fu, rfl⟩ : ∃ z, fu = z + 1 := ⟨fu - 1, by omega⟩
    obtain ⟨v', e, h2⟩ := ih (i + 1) fu (upd (upd v (6 + i) (-2)) (12 + i) (-2)) (by omega) (by omega)
    have ea : (6 : Int32) + nI i = nI (6 + i) := nI_add 6 i
    have eb : (12 : Int32) + nI i = nI (12 + i) := nI_add 12 i
    refine ⟨v', ?_, fun j => ?_⟩
    · rw [f_X12_pier_o_L120, if_neg (show ¬ (6 : Int32) ≤ nI i from nI_ge (b := 6) (by omega) (by omega)), ea, eb, gA_in (vin (show 6 + i < 26 by omega) (by omega)), gA_in (vin (show 12 + i < 26 by omega) (by omega)), nI_clamp (by omega), nI_clamp (by omega), nIs]
      exact e
    · rw [h2 j]
      by_cases hj : j = 12 + i
      · subst hj
        rw [if_neg (by omega), if_pos (by omega)]
        exact upd_at
      · rw [upd_no hj]
        by_cases hk : j = 6 + i
        · subst hk
          rw [if_neg (by omega), if_pos (by omega)]
          exact upd_at
        · rw [upd_no hk]
          by_cases h3 : (6 + (i + 1) ≤ j ∧ j < 12) ∨ (12 + (i + 1) ≤ j ∧ j < 18)
          · rw [if_pos h3, if_pos (by omega)]
          · rw [if_neg h3, if_neg (by omega)]
theorem po99 {t : TX12_t} {h : TX12_h} {z : TX12_s × TX11_q} : ∀ (k i fu : Nat) (v : Nat → Int32), i + k = 26 → k < fu → ∃ v', f_X12_pier_o_L99 t h z fu (nI i) v = f_X12_pier_o_L120 t h z FU 0 v' ∧ ∀ j, v' j = if i ≤ j ∧ j < 26 then 0 else v j := by
  intro k
  induction k with
  | zero =>
    intro i fu v hi hf
    obtain ⟨fu, rfl⟩ : ∃ z, fu = z + 1 := ⟨fu - 1, by omega⟩
    refine ⟨v, ?_, fun j => by rw [if_neg (by omega)]⟩
    rw [f_X12_pier_o_L99, if_pos (show (26 : Int32) ≤ nI i from nI_le (a := 26) (by omega) (by omega))]
  | succ k ih =>
    intro i fu v hi hf
    obtain ⟨fu, rfl⟩ : ∃ z, fu = z + 1 := ⟨fu - 1, by omega⟩
    obtain ⟨v', e, h2⟩ := ih (i + 1) fu (upd v i 0) (by omega) (by omega)
    refine ⟨v', ?_, fun j => ?_⟩
    · rw [f_X12_pier_o_L99, if_neg (show ¬ (26 : Int32) ≤ nI i from nI_ge (b := 26) (by omega) (by omega)), gA_in (vin (show i < 26 by omega) (by omega)), nI_clamp (by omega), nIs]
      exact e
    · rw [h2 j]
      by_cases hj : j = i
      · subst hj
        rw [if_neg (by omega), if_pos (by omega)]
        exact upd_at
      · rw [upd_no hj]
        by_cases h3 : i + 1 ≤ j ∧ j < 26
        · rw [if_pos h3, if_pos (by omega)]
        · rw [if_neg h3, if_neg (by omega)]
theorem po_ok (t : TX12_t) (h : TX12_h) (z : TX12_s × TX11_q) (v : Nat → Int32) : ∃ v', f_X12_pier_o_L99 t h z FU 0 v = some (z.2.2.2.2.2.2.2.1, (0, 0, -1), z.1, v', (h.1, h.2.1, 0, 0), z.2) ∧ vrow v' := by
  obtain ⟨v1, e1, h1⟩ := po99 (t := t) (h := h) (z := z) 26 0 FU v rfl (by decide)
  obtain ⟨v2, e2, h2⟩ := po120 (t := t) (h := h) (z := z) 6 0 FU v1 rfl (by decide)
  obtain ⟨v3, e3, h3⟩ := po156 (t := t) (h := h) (z := z) 5 0 FU v2 rfl (by decide)
  rw [nI_0] at e1 e2 e3
  refine ⟨v3, ?_, fun j hj => ?_, fun j h4 h5 => ?_, fun j h4 h5 => ?_⟩
  · rw [e1, e2, e3]
    rfl
  · rw [h3 j, if_neg (by omega), h2 j, if_neg (by omega), h1 j, if_pos (by omega)]
  · by_cases h6 : 18 ≤ j
    · rw [h3 j, if_pos (by omega)]
    · rw [h3 j, if_neg (by omega), h2 j, if_pos (by omega)]
  · rw [h3 j, if_neg (by omega), h2 j, if_neg (by omega), h1 j, if_pos (by omega)]
/-! what every call keeps: bounds, and one tape on both sides -/
def IX (X : XS) : Prop := R32 (0) (8) X.2.1.1 ∧ R32 (0) (9) X.2.1.2.1 ∧ R32 (0) (4) X.2.1.2.2.2.2.1 ∧ R32 (0) (5) X.2.1.2.2.2.2.2.1 ∧ R32 (0) (6) X.2.1.2.2.2.2.2.2.1 ∧ R32 (0) (6) X.2.1.2.2.2.2.2.2.2.1 ∧ R32 (0) (15) X.2.2.2.2.2.1.1 ∧ R32 (0) (16) X.2.2.2.2.2.1.2.1 ∧ R32 (0) (3) X.2.2.2.2.2.1.2.2 ∧ R32 (0) (288) X.2.2.2.2.2.2.2.2.1.2
def IM (M : MS) : Prop := R32 (0) (16) M.2.2.2.2.1.2.2.1 ∧ R32 (0) (3) M.2.2.2.2.1.2.2.2
def IQ (q : TX11_q) : Prop := R32 (2) (8) q.1 ∧ R32 (1) (9) q.2.1 ∧ R32 (1) (4) q.2.2.2.2.1 ∧ R32 (0) (5) q.2.2.2.2.2.1 ∧ R32 (0) (6) q.2.2.2.2.2.2.1 ∧ R32 (0) (6) q.2.2.2.2.2.2.2.1
def IO : Option TX11_q → Prop
  | none => True
  | some q => IQ q
theorem wh_close (k1 : Int32) (t : TX12_t) (q : TX11_q) : (f_X12_close k1 t q).2.2.2 = -1 := by
  unfold f_X12_close
  dsimp only [nm]
  split
  · rfl
  · split <;> rfl
theorem wh_seed (k1 : Int32) (t : TX12_t) (v : TX12_v) : (f_X12_seed k1 t v).2.1.2.2 = -1 := by
  unfold f_X12_seed
  dsimp only [nm]
  repeat' split
  all_goals rfl
theorem wh_size (k1 : Int32) (t : TX12_t) (s : TX12_s) (v : TX12_v) (h : TX12_h) (q : TX11_q) : (f_X12_size k1 t s v h q).2.2.2 = t.2.2 := by
  show KV (f_X12_size k1 t s v h q) (fun (r : Int32 × TX12_t) => r.2.2.2 = t.2.2)
  unfold f_X12_size
  dsimp only [nm]
  repeat' (refine kv_i ?_ ?_)
  all_goals exact kv_s rfl
theorem wh_size_nul (k1 : Int32) (t : TX12_t) (s : TX12_s) : (f_X12_size_nul k1 t s).2.2.2 = t.2.2 := by
  unfold f_X12_size_nul
  dsimp only [nm]
  repeat' split
  all_goals rfl
theorem r_m1 {x : Int32} (h : R32 (-1) (-1) x) : x = -1 := by
  have h1 := h.1
  have h2 := h.2
  apply Int32.toInt_inj.mp
  rw [show (-1 : Int32).toInt = -1 by decide]
  omega
theorem sx_fault {X : XS} (hX : IX X) : ∃ r X', gX_fault X = some (r, X') ∧ IX X' ∧ X'.2.2.2.1 = X.2.2.2.1 ∧ X'.2.1 = X.2.1 ∧ X'.1 = X.1 ∧ X'.2.2.2.2.1 = X.2.2.2.2.1 ∧ X'.2.2.2.2.2.1 = X.2.2.2.2.2.1 ∧ X'.2.2.2.2.2.2.1 = X.2.2.2.2.2.2.1 := by
  have eg : gX_fault X = some ((f_X10_fault X.1), (X.1, X.2.1, X.2.2.1, X.2.2.2.1, X.2.2.2.2.1, X.2.2.2.2.2.1, X.2.2.2.2.2.2.1, X.2.2.2.2.2.2.2.1, X.2.2.2.2.2.2.2.2.1, X.2.2.2.2.2.2.2.2.2.1, X.2.2.2.2.2.2.2.2.2.2)) := rfl
  exact ⟨_, _, eg, ⟨hX.1, hX.2.1, hX.2.2.1, hX.2.2.2.1, hX.2.2.2.2.1, hX.2.2.2.2.2.1, hX.2.2.2.2.2.2.1, hX.2.2.2.2.2.2.2.1, hX.2.2.2.2.2.2.2.2.1, hX.2.2.2.2.2.2.2.2.2⟩, rfl, rfl, rfl, rfl, rfl, rfl⟩
theorem sx_where {X : XS} (hX : IX X) : ∃ r X', gX_where X = some (r, X') ∧ IX X' ∧ X'.2.2.2.1 = X.2.2.2.1 ∧ X'.2.1 = X.2.1 ∧ X'.1 = X.1 ∧ X'.2.2.2.2.1 = X.2.2.2.2.1 ∧ X'.2.2.2.2.2.1 = X.2.2.2.2.2.1 ∧ X'.2.2.2.2.2.2.1 = X.2.2.2.2.2.2.1 := by
  have eg : gX_where X = some ((f_X10_where X.1 X.2.2.2.1), (X.1, X.2.1, X.2.2.1, X.2.2.2.1, X.2.2.2.2.1, X.2.2.2.2.2.1, X.2.2.2.2.2.2.1, X.2.2.2.2.2.2.2.1, X.2.2.2.2.2.2.2.2.1, X.2.2.2.2.2.2.2.2.2.1, X.2.2.2.2.2.2.2.2.2.2)) := rfl
  exact ⟨_, _, eg, ⟨hX.1, hX.2.1, hX.2.2.1, hX.2.2.2.1, hX.2.2.2.2.1, hX.2.2.2.2.2.1, hX.2.2.2.2.2.2.1, hX.2.2.2.2.2.2.2.1, hX.2.2.2.2.2.2.2.2.1, hX.2.2.2.2.2.2.2.2.2⟩, rfl, rfl, rfl, rfl, rfl, rfl⟩
theorem sx_answer {k1 : Int32} {k2 : Int32} {X : XS} (hX : IX X) : ∃ r X', gX_answer k1 k2 X = some (r, X') ∧ IX X' ∧ X'.2.2.2.1 = X.2.2.2.1 ∧ X'.2.1 = X.2.1 ∧ X'.1.2 = X.1.2 ∧ ¬ X'.1.1 = 4 ∧ X'.2.2.2.2.1 = X.2.2.2.2.1 ∧ X'.2.2.2.2.2.1 = X.2.2.2.2.2.1 ∧ X'.2.2.2.2.2.2.1 = X.2.2.2.2.2.2.1 := by
  obtain ⟨out, e, hb⟩ := t_f_X10_answer (k1 := k1) (k2 := k2) (x_x := X.1) (p_p := X.2.1) (n_n := X.2.2.2.2.1) hX.1 hX.2.1 hX.2.2.1 hX.2.2.2.1 hX.2.2.2.2.1 hX.2.2.2.2.2.1
  have eg : gX_answer k1 k2 X = some (out.1, (out.2, X.2.1, X.2.2.1, X.2.2.2.1, X.2.2.2.2.1, X.2.2.2.2.2.1, X.2.2.2.2.2.2.1, X.2.2.2.2.2.2.2.1, X.2.2.2.2.2.2.2.2.1, X.2.2.2.2.2.2.2.2.2.1, X.2.2.2.2.2.2.2.2.2.2)) := by
    rw [gX_answer, e]
    rfl
  exact ⟨_, _, eg, ⟨hX.1, hX.2.1, hX.2.2.1, hX.2.2.2.1, hX.2.2.2.2.1, hX.2.2.2.2.2.1, hX.2.2.2.2.2.2.1, hX.2.2.2.2.2.2.2.1, hX.2.2.2.2.2.2.2.2.1, hX.2.2.2.2.2.2.2.2.2⟩, rfl, rfl, (kp_f_X10_answer (F0 := X.1.2) rfl out e).2, (kp_f_X10_answer (F0 := X.1.2) rfl out e).1, rfl, rfl, rfl⟩
theorem sx_asker {k1 : Int32} {k2 : Int32} {X : XS} (hX : IX X) : ∃ r X', gX_asker k1 k2 X = some (r, X') ∧ IX X' ∧ X'.2.2.2.1 = X.2.2.2.1 ∧ X'.2.1 = X.2.1 ∧ X'.1.2 = X.1.2 ∧ ¬ X'.1.1 = 4 ∧ X'.2.2.2.2.1 = X.2.2.2.2.1 ∧ X'.2.2.2.2.2.1 = X.2.2.2.2.2.1 ∧ X'.2.2.2.2.2.2.1 = X.2.2.2.2.2.2.1 := by
  obtain ⟨out, e, hb⟩ := t_f_X10_asker (k1 := k1) (k2 := k2) (x_x := X.1) (p_p := X.2.1) (n_n := X.2.2.2.2.1) hX.1 hX.2.1 hX.2.2.1 hX.2.2.2.1 hX.2.2.2.2.1 hX.2.2.2.2.2.1
  have eg : gX_asker k1 k2 X = some (out.1, (out.2, X.2.1, X.2.2.1, X.2.2.2.1, X.2.2.2.2.1, X.2.2.2.2.2.1, X.2.2.2.2.2.2.1, X.2.2.2.2.2.2.2.1, X.2.2.2.2.2.2.2.2.1, X.2.2.2.2.2.2.2.2.2.1, X.2.2.2.2.2.2.2.2.2.2)) := by
    rw [gX_asker, e]
    rfl
  exact ⟨_, _, eg, ⟨hX.1, hX.2.1, hX.2.2.1, hX.2.2.2.1, hX.2.2.2.2.1, hX.2.2.2.2.2.1, hX.2.2.2.2.2.2.1, hX.2.2.2.2.2.2.2.1, hX.2.2.2.2.2.2.2.2.1, hX.2.2.2.2.2.2.2.2.2⟩, rfl, rfl, (kp_f_X10_asker (F0 := X.1.2) rfl out e).2, (kp_f_X10_asker (F0 := X.1.2) rfl out e).1, rfl, rfl, rfl⟩
theorem sx_close {k1 : Int32} {X : XS} (hX : IX X) : ∃ r X', gX_close k1 X = some (r, X') ∧ IX X' ∧ X'.2.2.2.1 = X.2.2.2.1 ∧ X'.2.1 = X.2.1 ∧ X'.1.2 = X.1.2 ∧ ¬ X'.1.1 = 4 ∧ X'.2.2.2.2.1 = X.2.2.2.2.1 ∧ X'.2.2.2.2.2.1 = X.2.2.2.2.2.1 ∧ X'.2.2.2.2.2.2.1 = X.2.2.2.2.2.2.1 := by
  have eg : gX_close k1 X = some ((f_X10_close k1 X.1 X.2.1).1, ((f_X10_close k1 X.1 X.2.1).2, X.2.1, X.2.2.1, X.2.2.2.1, X.2.2.2.2.1, X.2.2.2.2.2.1, X.2.2.2.2.2.2.1, X.2.2.2.2.2.2.2.1, X.2.2.2.2.2.2.2.2.1, X.2.2.2.2.2.2.2.2.2.1, X.2.2.2.2.2.2.2.2.2.2)) := rfl
  exact ⟨_, _, eg, ⟨hX.1, hX.2.1, hX.2.2.1, hX.2.2.2.1, hX.2.2.2.2.1, hX.2.2.2.2.2.1, hX.2.2.2.2.2.2.1, hX.2.2.2.2.2.2.2.1, hX.2.2.2.2.2.2.2.2.1, hX.2.2.2.2.2.2.2.2.2⟩, rfl, rfl, (kp_f_X10_close (F0 := X.1.2) rfl).2.2, (kp_f_X10_close (F0 := X.1.2) rfl).2.1, rfl, rfl, rfl⟩
theorem sx_wish {k1 : Int32} {k2 : Int32} {k3 : Int32} {k4 : Int32} {X : XS} (hX : IX X) : ∃ r X', gX_wish k1 k2 k3 k4 X = some (r, X') ∧ IX X' ∧ X'.2.2.2.1 = X.2.2.2.1 ∧ X'.2.1 = X.2.1 ∧ X'.1.2 = X.1.2 ∧ ¬ X'.1.1 = 4 ∧ X'.2.2.2.2.1 = X.2.2.2.2.1 ∧ X'.2.2.2.2.2.1 = X.2.2.2.2.2.1 ∧ X'.2.2.2.2.2.2.1 = X.2.2.2.2.2.2.1 := by
  obtain ⟨out, e, hb⟩ := t_f_X10_wish (k1 := k1) (k2 := k2) (k3 := k3) (k4 := k4) (x_x := X.1) (p_p := X.2.1) hX.1 hX.2.1 hX.2.2.1 hX.2.2.2.1 hX.2.2.2.2.1 hX.2.2.2.2.2.1
  have eg : gX_wish k1 k2 k3 k4 X = some (out.1, (out.2, X.2.1, X.2.2.1, X.2.2.2.1, X.2.2.2.2.1, X.2.2.2.2.2.1, X.2.2.2.2.2.2.1, X.2.2.2.2.2.2.2.1, X.2.2.2.2.2.2.2.2.1, X.2.2.2.2.2.2.2.2.2.1, X.2.2.2.2.2.2.2.2.2.2)) := by
    rw [gX_wish, e]
    rfl
  exact ⟨_, _, eg, ⟨hX.1, hX.2.1, hX.2.2.1, hX.2.2.2.1, hX.2.2.2.2.1, hX.2.2.2.2.2.1, hX.2.2.2.2.2.2.1, hX.2.2.2.2.2.2.2.1, hX.2.2.2.2.2.2.2.2.1, hX.2.2.2.2.2.2.2.2.2⟩, rfl, rfl, (kp_f_X10_wish (F0 := X.1.2) rfl out e).2, (kp_f_X10_wish (F0 := X.1.2) rfl out e).1, rfl, rfl, rfl⟩
theorem sx_takes {k1 : Int32} {k2 : Int32} {k3 : Int32} {k4 : Int32} {k5 : Int32} {X : XS} (hX : IX X) : ∃ r X', gX_takes k1 k2 k3 k4 k5 X = some (r, X') ∧ IX X' ∧ X'.2.2.2.1 = X.2.2.2.1 ∧ X'.2.1 = X.2.1 ∧ X'.1.2 = X.1.2 ∧ ¬ X'.1.1 = 4 ∧ X'.2.2.2.2.1 = X.2.2.2.2.1 ∧ X'.2.2.2.2.2.1 = X.2.2.2.2.2.1 ∧ X'.2.2.2.2.2.2.1 = X.2.2.2.2.2.2.1 := by
  obtain ⟨out, e, hb⟩ := t_f_X10_takes (k1 := k1) (k2 := k2) (k3 := k3) (k4 := k4) (k5 := k5) (x_x := X.1) (p_p := X.2.1) (n_n := X.2.2.2.2.1) hX.1 hX.2.1 hX.2.2.1 hX.2.2.2.1 hX.2.2.2.2.1 hX.2.2.2.2.2.1
  have eg : gX_takes k1 k2 k3 k4 k5 X = some (out.1, (out.2, X.2.1, X.2.2.1, X.2.2.2.1, X.2.2.2.2.1, X.2.2.2.2.2.1, X.2.2.2.2.2.2.1, X.2.2.2.2.2.2.2.1, X.2.2.2.2.2.2.2.2.1, X.2.2.2.2.2.2.2.2.2.1, X.2.2.2.2.2.2.2.2.2.2)) := by
    rw [gX_takes, e]
    rfl
  exact ⟨_, _, eg, ⟨hX.1, hX.2.1, hX.2.2.1, hX.2.2.2.1, hX.2.2.2.2.1, hX.2.2.2.2.2.1, hX.2.2.2.2.2.2.1, hX.2.2.2.2.2.2.2.1, hX.2.2.2.2.2.2.2.2.1, hX.2.2.2.2.2.2.2.2.2⟩, rfl, rfl, (kp_f_X10_takes (F0 := X.1.2) rfl out e).2, (kp_f_X10_takes (F0 := X.1.2) rfl out e).1, rfl, rfl, rfl⟩
theorem sx_nothing {k1 : Int32} {k2 : Int32} {k3 : Int32} {k4 : Int32} {X : XS} (hX : IX X) : ∃ r X', gX_nothing k1 k2 k3 k4 X = some (r, X') ∧ IX X' ∧ X'.2.2.2.1 = X.2.2.2.1 ∧ X'.2.1 = X.2.1 ∧ X'.1.2 = X.1.2 ∧ ¬ X'.1.1 = 4 ∧ X'.2.2.2.2.1 = X.2.2.2.2.1 ∧ X'.2.2.2.2.2.1 = X.2.2.2.2.2.1 ∧ X'.2.2.2.2.2.2.1 = X.2.2.2.2.2.2.1 := by
  obtain ⟨out, e, hb⟩ := t_f_X10_nothing (k1 := k1) (k2 := k2) (k3 := k3) (k4 := k4) (x_x := X.1) (p_p := X.2.1) (n_n := X.2.2.2.2.1) hX.1 hX.2.1 hX.2.2.1 hX.2.2.2.1 hX.2.2.2.2.1 hX.2.2.2.2.2.1
  have eg : gX_nothing k1 k2 k3 k4 X = some (out.1, (out.2, X.2.1, X.2.2.1, X.2.2.2.1, X.2.2.2.2.1, X.2.2.2.2.2.1, X.2.2.2.2.2.2.1, X.2.2.2.2.2.2.2.1, X.2.2.2.2.2.2.2.2.1, X.2.2.2.2.2.2.2.2.2.1, X.2.2.2.2.2.2.2.2.2.2)) := by
    rw [gX_nothing, e]
    rfl
  exact ⟨_, _, eg, ⟨hX.1, hX.2.1, hX.2.2.1, hX.2.2.2.1, hX.2.2.2.2.1, hX.2.2.2.2.2.1, hX.2.2.2.2.2.2.1, hX.2.2.2.2.2.2.2.1, hX.2.2.2.2.2.2.2.2.1, hX.2.2.2.2.2.2.2.2.2⟩, rfl, rfl, (kp_f_X10_nothing (F0 := X.1.2) rfl out e).2, (kp_f_X10_nothing (F0 := X.1.2) rfl out e).1, rfl, rfl, rfl⟩
theorem sx_mean {k1 : Int32} {k2 : Int32} {k3 : Int32} {k4 : Int32} {X : XS} (hX : IX X) : ∃ r X', gX_mean k1 k2 k3 k4 X = some (r, X') ∧ IX X' ∧ X'.2.2.2.1 = X.2.2.2.1 ∧ X'.2.1 = X.2.1 ∧ X'.1.2 = X.1.2 ∧ ¬ X'.1.1 = 4 ∧ X'.2.2.2.2.1 = X.2.2.2.2.1 ∧ X'.2.2.2.2.2.1 = X.2.2.2.2.2.1 ∧ X'.2.2.2.2.2.2.1 = X.2.2.2.2.2.2.1 := by
  obtain ⟨out, e, hb⟩ := t_f_X10_mean (k1 := k1) (k2 := k2) (k3 := k3) (k4 := k4) (x_x := X.1) (p_p := X.2.1) (n_n := X.2.2.2.2.1) hX.1 hX.2.1 hX.2.2.1 hX.2.2.2.1 hX.2.2.2.2.1 hX.2.2.2.2.2.1
  have eg : gX_mean k1 k2 k3 k4 X = some (out.1, (out.2, X.2.1, X.2.2.1, X.2.2.2.1, X.2.2.2.2.1, X.2.2.2.2.2.1, X.2.2.2.2.2.2.1, X.2.2.2.2.2.2.2.1, X.2.2.2.2.2.2.2.2.1, X.2.2.2.2.2.2.2.2.2.1, X.2.2.2.2.2.2.2.2.2.2)) := by
    rw [gX_mean, e]
    rfl
  exact ⟨_, _, eg, ⟨hX.1, hX.2.1, hX.2.2.1, hX.2.2.2.1, hX.2.2.2.2.1, hX.2.2.2.2.2.1, hX.2.2.2.2.2.2.1, hX.2.2.2.2.2.2.2.1, hX.2.2.2.2.2.2.2.2.1, hX.2.2.2.2.2.2.2.2.2⟩, rfl, rfl, (kp_f_X10_mean (F0 := X.1.2) rfl out e).2, (kp_f_X10_mean (F0 := X.1.2) rfl out e).1, rfl, rfl, rfl⟩
theorem sx_likeliest {k1 : Int32} {k2 : Int32} {k3 : Int32} {X : XS} (hX : IX X) : ∃ r X', gX_likeliest k1 k2 k3 X = some (r, X') ∧ IX X' ∧ X'.2.2.2.1 = X.2.2.2.1 ∧ X'.2.1 = X.2.1 ∧ X'.1.2 = X.1.2 ∧ ¬ X'.1.1 = 4 ∧ X'.2.2.2.2.1 = X.2.2.2.2.1 ∧ X'.2.2.2.2.2.1 = X.2.2.2.2.2.1 ∧ X'.2.2.2.2.2.2.1 = X.2.2.2.2.2.2.1 := by
  obtain ⟨out, e, hb⟩ := t_f_X10_likeliest (k1 := k1) (k2 := k2) (k3 := k3) (x_x := X.1) (p_p := X.2.1) (n_n := X.2.2.2.2.1) hX.1 hX.2.1 hX.2.2.1 hX.2.2.2.1 hX.2.2.2.2.1 hX.2.2.2.2.2.1
  have eg : gX_likeliest k1 k2 k3 X = some (out.1, (out.2, X.2.1, X.2.2.1, X.2.2.2.1, X.2.2.2.2.1, X.2.2.2.2.2.1, X.2.2.2.2.2.2.1, X.2.2.2.2.2.2.2.1, X.2.2.2.2.2.2.2.2.1, X.2.2.2.2.2.2.2.2.2.1, X.2.2.2.2.2.2.2.2.2.2)) := by
    rw [gX_likeliest, e]
    rfl
  exact ⟨_, _, eg, ⟨hX.1, hX.2.1, hX.2.2.1, hX.2.2.2.1, hX.2.2.2.2.1, hX.2.2.2.2.2.1, hX.2.2.2.2.2.2.1, hX.2.2.2.2.2.2.2.1, hX.2.2.2.2.2.2.2.2.1, hX.2.2.2.2.2.2.2.2.2⟩, rfl, rfl, (kp_f_X10_likeliest (F0 := X.1.2) rfl out e).2, (kp_f_X10_likeliest (F0 := X.1.2) rfl out e).1, rfl, rfl, rfl⟩
theorem sx_surest {k1 : Int32} {X : XS} (hX : IX X) : ∃ r X', gX_surest k1 X = some (r, X') ∧ IX X' ∧ X'.2.2.2.1 = X.2.2.2.1 ∧ X'.2.1 = X.2.1 ∧ X'.1.2 = X.1.2 ∧ ¬ X'.1.1 = 4 ∧ X'.2.2.2.2.1 = X.2.2.2.2.1 ∧ X'.2.2.2.2.2.1 = X.2.2.2.2.2.1 ∧ X'.2.2.2.2.2.2.1 = X.2.2.2.2.2.2.1 := by
  obtain ⟨out, e, hb⟩ := t_f_X10_surest (k1 := k1) (x_x := X.1) (p_p := X.2.1) (n_n := X.2.2.2.2.1) hX.1 hX.2.1 hX.2.2.1 hX.2.2.2.1 hX.2.2.2.2.1 hX.2.2.2.2.2.1
  have eg : gX_surest k1 X = some (out.1, (out.2, X.2.1, X.2.2.1, X.2.2.2.1, X.2.2.2.2.1, X.2.2.2.2.2.1, X.2.2.2.2.2.2.1, X.2.2.2.2.2.2.2.1, X.2.2.2.2.2.2.2.2.1, X.2.2.2.2.2.2.2.2.2.1, X.2.2.2.2.2.2.2.2.2.2)) := by
    rw [gX_surest, e]
    rfl
  exact ⟨_, _, eg, ⟨hX.1, hX.2.1, hX.2.2.1, hX.2.2.2.1, hX.2.2.2.2.1, hX.2.2.2.2.2.1, hX.2.2.2.2.2.2.1, hX.2.2.2.2.2.2.2.1, hX.2.2.2.2.2.2.2.2.1, hX.2.2.2.2.2.2.2.2.2⟩, rfl, rfl, (kp_f_X10_surest (F0 := X.1.2) rfl out e).2, (kp_f_X10_surest (F0 := X.1.2) rfl out e).1, rfl, rfl, rfl⟩
theorem sx_surestOdds {k1 : Int32} {k2 : Int32} {X : XS} (hX : IX X) : ∃ r X', gX_surestOdds k1 k2 X = some (r, X') ∧ IX X' ∧ X'.2.2.2.1 = X.2.2.2.1 ∧ X'.2.1 = X.2.1 ∧ X'.1.2 = X.1.2 ∧ ¬ X'.1.1 = 4 ∧ X'.2.2.2.2.1 = X.2.2.2.2.1 ∧ X'.2.2.2.2.2.1 = X.2.2.2.2.2.1 ∧ X'.2.2.2.2.2.2.1 = X.2.2.2.2.2.2.1 := by
  obtain ⟨out, e, hb⟩ := t_f_X10_surestOdds (k1 := k1) (k2 := k2) (x_x := X.1) (p_p := X.2.1) (n_n := X.2.2.2.2.1) hX.1 hX.2.1 hX.2.2.1 hX.2.2.2.1 hX.2.2.2.2.1 hX.2.2.2.2.2.1
  have eg : gX_surestOdds k1 k2 X = some (out.1, (out.2, X.2.1, X.2.2.1, X.2.2.2.1, X.2.2.2.2.1, X.2.2.2.2.2.1, X.2.2.2.2.2.2.1, X.2.2.2.2.2.2.2.1, X.2.2.2.2.2.2.2.2.1, X.2.2.2.2.2.2.2.2.2.1, X.2.2.2.2.2.2.2.2.2.2)) := by
    rw [gX_surestOdds, e]
    rfl
  exact ⟨_, _, eg, ⟨hX.1, hX.2.1, hX.2.2.1, hX.2.2.2.1, hX.2.2.2.2.1, hX.2.2.2.2.2.1, hX.2.2.2.2.2.2.1, hX.2.2.2.2.2.2.2.1, hX.2.2.2.2.2.2.2.2.1, hX.2.2.2.2.2.2.2.2.2⟩, rfl, rfl, (kp_f_X10_surestOdds (F0 := X.1.2) rfl out e).2, (kp_f_X10_surestOdds (F0 := X.1.2) rfl out e).1, rfl, rfl, rfl⟩
theorem sx_best {X : XS} (hX : IX X) : ∃ r X', gX_best X = some (r, X') ∧ IX X' ∧ X'.2.2.2.1 = X.2.2.2.1 ∧ X'.2.1 = X.2.1 ∧ X'.1.2 = X.1.2 ∧ ¬ X'.1.1 = 4 ∧ X'.2.2.2.2.1 = X.2.2.2.2.1 ∧ X'.2.2.2.2.2.1 = X.2.2.2.2.2.1 ∧ X'.2.2.2.2.2.2.1 = X.2.2.2.2.2.2.1 := by
  obtain ⟨out, e, hb⟩ := t_f_X10_best (x_x := X.1) (p_p := X.2.1) (n_n := X.2.2.2.2.1) hX.1 hX.2.1 hX.2.2.1 hX.2.2.2.1 hX.2.2.2.2.1 hX.2.2.2.2.2.1
  have eg : gX_best X = some (out.1, (out.2, X.2.1, X.2.2.1, X.2.2.2.1, X.2.2.2.2.1, X.2.2.2.2.2.1, X.2.2.2.2.2.2.1, X.2.2.2.2.2.2.2.1, X.2.2.2.2.2.2.2.2.1, X.2.2.2.2.2.2.2.2.2.1, X.2.2.2.2.2.2.2.2.2.2)) := by
    rw [gX_best, e]
    rfl
  exact ⟨_, _, eg, ⟨hX.1, hX.2.1, hX.2.2.1, hX.2.2.2.1, hX.2.2.2.2.1, hX.2.2.2.2.2.1, hX.2.2.2.2.2.2.1, hX.2.2.2.2.2.2.2.1, hX.2.2.2.2.2.2.2.2.1, hX.2.2.2.2.2.2.2.2.2⟩, rfl, rfl, (kp_f_X10_best (F0 := X.1.2) rfl out e).2, (kp_f_X10_best (F0 := X.1.2) rfl out e).1, rfl, rfl, rfl⟩
theorem sx_bestBait {X : XS} (hX : IX X) : ∃ r X', gX_bestBait X = some (r, X') ∧ IX X' ∧ X'.2.2.2.1 = X.2.2.2.1 ∧ X'.2.1 = X.2.1 ∧ X'.1.2 = X.1.2 ∧ ¬ X'.1.1 = 4 ∧ X'.2.2.2.2.1 = X.2.2.2.2.1 ∧ X'.2.2.2.2.2.1 = X.2.2.2.2.2.1 ∧ X'.2.2.2.2.2.2.1 = X.2.2.2.2.2.2.1 := by
  obtain ⟨out, e, hb⟩ := t_f_X10_bestBait (x_x := X.1) (p_p := X.2.1) (n_n := X.2.2.2.2.1) hX.1 hX.2.1 hX.2.2.1 hX.2.2.2.1 hX.2.2.2.2.1 hX.2.2.2.2.2.1
  have eg : gX_bestBait X = some (out.1, (out.2, X.2.1, X.2.2.1, X.2.2.2.1, X.2.2.2.2.1, X.2.2.2.2.2.1, X.2.2.2.2.2.2.1, X.2.2.2.2.2.2.2.1, X.2.2.2.2.2.2.2.2.1, X.2.2.2.2.2.2.2.2.2.1, X.2.2.2.2.2.2.2.2.2.2)) := by
    rw [gX_bestBait, e]
    rfl
  exact ⟨_, _, eg, ⟨hX.1, hX.2.1, hX.2.2.1, hX.2.2.2.1, hX.2.2.2.2.1, hX.2.2.2.2.2.1, hX.2.2.2.2.2.2.1, hX.2.2.2.2.2.2.2.1, hX.2.2.2.2.2.2.2.2.1, hX.2.2.2.2.2.2.2.2.2⟩, rfl, rfl, (kp_f_X10_bestBait (F0 := X.1.2) rfl out e).2, (kp_f_X10_bestBait (F0 := X.1.2) rfl out e).1, rfl, rfl, rfl⟩
theorem sx_hungerFor {k1 : Int32} {k2 : Int32} {k3 : Int32} {k4 : Int32} {X : XS} (hX : IX X) : ∃ r X', gX_hungerFor k1 k2 k3 k4 X = some (r, X') ∧ IX X' ∧ X'.2.2.2.1 = X.2.2.2.1 ∧ X'.2.1 = X.2.1 ∧ X'.1.2 = X.1.2 ∧ ¬ X'.1.1 = 4 ∧ X'.2.2.2.2.1 = X.2.2.2.2.1 ∧ X'.2.2.2.2.2.1 = X.2.2.2.2.2.1 ∧ X'.2.2.2.2.2.2.1 = X.2.2.2.2.2.2.1 := by
  obtain ⟨out, e, hb⟩ := t_f_X10_hungerFor (k1 := k1) (k2 := k2) (k3 := k3) (k4 := k4) (x_x := X.1) (p_p := X.2.1) hX.1 hX.2.1 hX.2.2.1 hX.2.2.2.1 hX.2.2.2.2.1 hX.2.2.2.2.2.1
  have eg : gX_hungerFor k1 k2 k3 k4 X = some (out.1, (out.2, X.2.1, X.2.2.1, X.2.2.2.1, X.2.2.2.2.1, X.2.2.2.2.2.1, X.2.2.2.2.2.2.1, X.2.2.2.2.2.2.2.1, X.2.2.2.2.2.2.2.2.1, X.2.2.2.2.2.2.2.2.2.1, X.2.2.2.2.2.2.2.2.2.2)) := by
    rw [gX_hungerFor, e]
    rfl
  exact ⟨_, _, eg, ⟨hX.1, hX.2.1, hX.2.2.1, hX.2.2.2.1, hX.2.2.2.2.1, hX.2.2.2.2.2.1, hX.2.2.2.2.2.2.1, hX.2.2.2.2.2.2.2.1, hX.2.2.2.2.2.2.2.2.1, hX.2.2.2.2.2.2.2.2.2⟩, rfl, rfl, (kp_f_X10_hungerFor (F0 := X.1.2) rfl out e).2, (kp_f_X10_hungerFor (F0 := X.1.2) rfl out e).1, rfl, rfl, rfl⟩
theorem sx_freeSpots {k1 : Int32} {X : XS} (hX : IX X) : ∃ r X', gX_freeSpots k1 X = some (r, X') ∧ IX X' ∧ X'.2.2.2.1 = X.2.2.2.1 ∧ X'.2.1 = X.2.1 ∧ X'.1.2 = X.1.2 ∧ ¬ X'.1.1 = 4 ∧ X'.2.2.2.2.1 = X.2.2.2.2.1 ∧ X'.2.2.2.2.2.1 = X.2.2.2.2.2.1 ∧ X'.2.2.2.2.2.2.1 = X.2.2.2.2.2.2.1 := by
  obtain ⟨out, e, hb⟩ := t_f_X10_freeSpots (k1 := k1) (x_x := X.1) (p_p := X.2.1) (n_n := X.2.2.2.2.1) hX.1 hX.2.1 hX.2.2.1 hX.2.2.2.1 hX.2.2.2.2.1 hX.2.2.2.2.2.1
  have eg : gX_freeSpots k1 X = some (out.1, (out.2, X.2.1, X.2.2.1, X.2.2.2.1, X.2.2.2.2.1, X.2.2.2.2.2.1, X.2.2.2.2.2.2.1, X.2.2.2.2.2.2.2.1, X.2.2.2.2.2.2.2.2.1, X.2.2.2.2.2.2.2.2.2.1, X.2.2.2.2.2.2.2.2.2.2)) := by
    rw [gX_freeSpots, e]
    rfl
  exact ⟨_, _, eg, ⟨hX.1, hX.2.1, hX.2.2.1, hX.2.2.2.1, hX.2.2.2.2.1, hX.2.2.2.2.2.1, hX.2.2.2.2.2.2.1, hX.2.2.2.2.2.2.2.1, hX.2.2.2.2.2.2.2.2.1, hX.2.2.2.2.2.2.2.2.2⟩, rfl, rfl, (kp_f_X10_freeSpots (F0 := X.1.2) rfl out e).2, (kp_f_X10_freeSpots (F0 := X.1.2) rfl out e).1, rfl, rfl, rfl⟩
theorem sx_tangles {k1 : Int32} {k2 : Int32} {k3 : Int32} {k4 : Int32} {X : XS} (hX : IX X) : ∃ r X', gX_tangles k1 k2 k3 k4 X = some (r, X') ∧ IX X' ∧ X'.2.2.2.1 = X.2.2.2.1 ∧ X'.2.1 = X.2.1 ∧ X'.1.2 = X.1.2 ∧ ¬ X'.1.1 = 4 ∧ X'.2.2.2.2.1 = X.2.2.2.2.1 ∧ X'.2.2.2.2.2.1 = X.2.2.2.2.2.1 ∧ X'.2.2.2.2.2.2.1 = X.2.2.2.2.2.2.1 := by
  obtain ⟨out, e, hb⟩ := t_f_X10_tangles (k1 := k1) (k2 := k2) (k3 := k3) (k4 := k4) (x_x := X.1) (p_p := X.2.1) hX.1 hX.2.1 hX.2.2.1 hX.2.2.2.1 hX.2.2.2.2.1 hX.2.2.2.2.2.1
  have eg : gX_tangles k1 k2 k3 k4 X = some (out.1, (out.2, X.2.1, X.2.2.1, X.2.2.2.1, X.2.2.2.2.1, X.2.2.2.2.2.1, X.2.2.2.2.2.2.1, X.2.2.2.2.2.2.2.1, X.2.2.2.2.2.2.2.2.1, X.2.2.2.2.2.2.2.2.2.1, X.2.2.2.2.2.2.2.2.2.2)) := by
    rw [gX_tangles, e]
    rfl
  exact ⟨_, _, eg, ⟨hX.1, hX.2.1, hX.2.2.1, hX.2.2.2.1, hX.2.2.2.2.1, hX.2.2.2.2.2.1, hX.2.2.2.2.2.2.1, hX.2.2.2.2.2.2.2.1, hX.2.2.2.2.2.2.2.2.1, hX.2.2.2.2.2.2.2.2.2⟩, rfl, rfl, (kp_f_X10_tangles (F0 := X.1.2) rfl out e).2.2, (kp_f_X10_tangles (F0 := X.1.2) rfl out e).2.1, rfl, rfl, rfl⟩
theorem sx_seatings {X : XS} (hX : IX X) : ∃ r X', gX_seatings X = some (r, X') ∧ IX X' ∧ X'.2.2.2.1 = X.2.2.2.1 ∧ X'.2.1 = X.2.1 ∧ X'.1.2 = X.1.2 ∧ ¬ X'.1.1 = 4 ∧ X'.2.2.2.2.1 = X.2.2.2.2.1 ∧ X'.2.2.2.2.2.1 = X.2.2.2.2.2.1 ∧ X'.2.2.2.2.2.2.1 = X.2.2.2.2.2.2.1 := by
  obtain ⟨out, e, hb⟩ := t_f_X10_seatings (x_x := X.1) (p_p := X.2.1) (s_s := X.2.2.2.2.2.2.2.1) hX.1 hX.2.1 hX.2.2.1 hX.2.2.2.1 hX.2.2.2.2.1 hX.2.2.2.2.2.1
  have eg : gX_seatings X = some (out.1, (out.2.1, X.2.1, X.2.2.1, X.2.2.2.1, X.2.2.2.2.1, X.2.2.2.2.2.1, X.2.2.2.2.2.2.1, out.2.2, X.2.2.2.2.2.2.2.2.1, X.2.2.2.2.2.2.2.2.2.1, X.2.2.2.2.2.2.2.2.2.2)) := by
    rw [gX_seatings, e]
    rfl
  exact ⟨_, _, eg, ⟨hX.1, hX.2.1, hX.2.2.1, hX.2.2.2.1, hX.2.2.2.2.1, hX.2.2.2.2.2.1, hX.2.2.2.2.2.2.1, hX.2.2.2.2.2.2.2.1, hX.2.2.2.2.2.2.2.2.1, hX.2.2.2.2.2.2.2.2.2⟩, rfl, rfl, (kp_f_X10_seatings (F0 := X.1.2) rfl out e).2, (kp_f_X10_seatings (F0 := X.1.2) rfl out e).1, rfl, rfl, rfl⟩
theorem sx_seat {k1 : Int32} {X : XS} (hX : IX X) : ∃ r X', gX_seat k1 X = some (r, X') ∧ IX X' ∧ X'.2.2.2.1 = X.2.2.2.1 ∧ X'.2.1 = X.2.1 ∧ X'.1.2 = X.1.2 ∧ ¬ X'.1.1 = 4 ∧ X'.2.2.2.2.1 = X.2.2.2.2.1 ∧ X'.2.2.2.2.2.1 = X.2.2.2.2.2.1 ∧ X'.2.2.2.2.2.2.1 = X.2.2.2.2.2.2.1 := by
  obtain ⟨out, e, hb⟩ := t_f_X10_seat (k1 := k1) (x_x := X.1) (p_p := X.2.1) (s_s := X.2.2.2.2.2.2.2.1) hX.1 hX.2.1 hX.2.2.1 hX.2.2.2.1 hX.2.2.2.2.1 hX.2.2.2.2.2.1
  have eg : gX_seat k1 X = some (out.1, (out.2.1, X.2.1, X.2.2.1, X.2.2.2.1, X.2.2.2.2.1, X.2.2.2.2.2.1, X.2.2.2.2.2.2.1, out.2.2, X.2.2.2.2.2.2.2.2.1, X.2.2.2.2.2.2.2.2.2.1, X.2.2.2.2.2.2.2.2.2.2)) := by
    rw [gX_seat, e]
    rfl
  exact ⟨_, _, eg, ⟨hX.1, hX.2.1, hX.2.2.1, hX.2.2.2.1, hX.2.2.2.2.1, hX.2.2.2.2.2.1, hX.2.2.2.2.2.2.1, hX.2.2.2.2.2.2.2.1, hX.2.2.2.2.2.2.2.2.1, hX.2.2.2.2.2.2.2.2.2⟩, rfl, rfl, (kp_f_X10_seat (F0 := X.1.2) rfl out e).2, (kp_f_X10_seat (F0 := X.1.2) rfl out e).1, rfl, rfl, rfl⟩
theorem sx_mostSeated {X : XS} (hX : IX X) : ∃ r X', gX_mostSeated X = some (r, X') ∧ IX X' ∧ X'.2.2.2.1 = X.2.2.2.1 ∧ X'.2.1 = X.2.1 ∧ X'.1.2 = X.1.2 ∧ ¬ X'.1.1 = 4 ∧ X'.2.2.2.2.1 = X.2.2.2.2.1 ∧ X'.2.2.2.2.2.1 = X.2.2.2.2.2.1 ∧ X'.2.2.2.2.2.2.1 = X.2.2.2.2.2.2.1 := by
  obtain ⟨out, e, hb⟩ := t_f_X10_mostSeated (x_x := X.1) (p_p := X.2.1) (s_s := X.2.2.2.2.2.2.2.1) hX.1 hX.2.1 hX.2.2.1 hX.2.2.2.1 hX.2.2.2.2.1 hX.2.2.2.2.2.1
  have eg : gX_mostSeated X = some (out.1, (out.2.1, X.2.1, X.2.2.1, X.2.2.2.1, X.2.2.2.2.1, X.2.2.2.2.2.1, X.2.2.2.2.2.2.1, out.2.2, X.2.2.2.2.2.2.2.2.1, X.2.2.2.2.2.2.2.2.2.1, X.2.2.2.2.2.2.2.2.2.2)) := by
    rw [gX_mostSeated, e]
    rfl
  exact ⟨_, _, eg, ⟨hX.1, hX.2.1, hX.2.2.1, hX.2.2.2.1, hX.2.2.2.2.1, hX.2.2.2.2.2.1, hX.2.2.2.2.2.2.1, hX.2.2.2.2.2.2.2.1, hX.2.2.2.2.2.2.2.2.1, hX.2.2.2.2.2.2.2.2.2⟩, rfl, rfl, (kp_f_X10_mostSeated (F0 := X.1.2) rfl out e).2, (kp_f_X10_mostSeated (F0 := X.1.2) rfl out e).1, rfl, rfl, rfl⟩
theorem sx_darks {X : XS} (hX : IX X) : ∃ r X', gX_darks X = some (r, X') ∧ IX X' ∧ X'.2.2.2.1 = X.2.2.2.1 ∧ X'.2.1 = X.2.1 ∧ X'.1.2 = X.1.2 ∧ ¬ X'.1.1 = 4 ∧ X'.2.2.2.2.1 = X.2.2.2.2.1 ∧ X'.2.2.2.2.2.1 = X.2.2.2.2.2.1 ∧ X'.2.2.2.2.2.2.1 = X.2.2.2.2.2.2.1 := by
  obtain ⟨out, e, hb⟩ := t_f_X10_darks (x_x := X.1) (p_p := X.2.1) (d_d := X.2.2.2.2.2.2.2.2.1) hX.1 hX.2.1 hX.2.2.1 hX.2.2.2.1 hX.2.2.2.2.1 hX.2.2.2.2.2.1 hX.2.2.2.2.2.2.2.2.2
  have eg : gX_darks X = some (out.1, (out.2.1, X.2.1, X.2.2.1, X.2.2.2.1, X.2.2.2.2.1, X.2.2.2.2.2.1, X.2.2.2.2.2.2.1, X.2.2.2.2.2.2.2.1, out.2.2, X.2.2.2.2.2.2.2.2.2.1, X.2.2.2.2.2.2.2.2.2.2)) := by
    rw [gX_darks, e]
    rfl
  exact ⟨_, _, eg, ⟨hX.1, hX.2.1, hX.2.2.1, hX.2.2.2.1, hX.2.2.2.2.1, hX.2.2.2.2.2.1, hX.2.2.2.2.2.2.1, hX.2.2.2.2.2.2.2.1, hX.2.2.2.2.2.2.2.2.1, hb.2.2⟩, rfl, rfl, (kp_f_X10_darks (F0 := X.1.2) rfl out e).2, (kp_f_X10_darks (F0 := X.1.2) rfl out e).1, rfl, rfl, rfl⟩
theorem sx_darkAt {k1 : Int32} {X : XS} (hX : IX X) : ∃ r X', gX_darkAt k1 X = some (r, X') ∧ IX X' ∧ X'.2.2.2.1 = X.2.2.2.1 ∧ X'.2.1 = X.2.1 ∧ X'.1.2 = X.1.2 ∧ ¬ X'.1.1 = 4 ∧ X'.2.2.2.2.1 = X.2.2.2.2.1 ∧ X'.2.2.2.2.2.1 = X.2.2.2.2.2.1 ∧ X'.2.2.2.2.2.2.1 = X.2.2.2.2.2.2.1 := by
  obtain ⟨out, e, hb⟩ := t_f_X10_darkAt (k1 := k1) (x_x := X.1) (p_p := X.2.1) (d_d := X.2.2.2.2.2.2.2.2.1) hX.1 hX.2.1 hX.2.2.1 hX.2.2.2.1 hX.2.2.2.2.1 hX.2.2.2.2.2.1 hX.2.2.2.2.2.2.2.2.2
  have eg : gX_darkAt k1 X = some (out.1, (out.2.1, X.2.1, X.2.2.1, X.2.2.2.1, X.2.2.2.2.1, X.2.2.2.2.2.1, X.2.2.2.2.2.2.1, X.2.2.2.2.2.2.2.1, out.2.2, X.2.2.2.2.2.2.2.2.2.1, X.2.2.2.2.2.2.2.2.2.2)) := by
    rw [gX_darkAt, e]
    rfl
  exact ⟨_, _, eg, ⟨hX.1, hX.2.1, hX.2.2.1, hX.2.2.2.1, hX.2.2.2.2.1, hX.2.2.2.2.2.1, hX.2.2.2.2.2.2.1, hX.2.2.2.2.2.2.2.1, hX.2.2.2.2.2.2.2.2.1, hb.2⟩, rfl, rfl, (kp_f_X10_darkAt (F0 := X.1.2) rfl out e).2, (kp_f_X10_darkAt (F0 := X.1.2) rfl out e).1, rfl, rfl, rfl⟩
theorem sx_darkSpots {X : XS} (hX : IX X) : ∃ r X', gX_darkSpots X = some (r, X') ∧ IX X' ∧ X'.2.2.2.1 = X.2.2.2.1 ∧ X'.2.1 = X.2.1 ∧ X'.1.2 = X.1.2 ∧ ¬ X'.1.1 = 4 ∧ X'.2.2.2.2.1 = X.2.2.2.2.1 ∧ X'.2.2.2.2.2.1 = X.2.2.2.2.2.1 ∧ X'.2.2.2.2.2.2.1 = X.2.2.2.2.2.2.1 := by
  obtain ⟨out, e, hb⟩ := t_f_X10_darkSpots (x_x := X.1) (p_p := X.2.1) (d_d := X.2.2.2.2.2.2.2.2.1) hX.1 hX.2.1 hX.2.2.1 hX.2.2.2.1 hX.2.2.2.2.1 hX.2.2.2.2.2.1 hX.2.2.2.2.2.2.2.2.2
  have eg : gX_darkSpots X = some (out.1, (out.2.1, X.2.1, X.2.2.1, X.2.2.2.1, X.2.2.2.2.1, X.2.2.2.2.2.1, X.2.2.2.2.2.2.1, X.2.2.2.2.2.2.2.1, out.2.2, X.2.2.2.2.2.2.2.2.2.1, X.2.2.2.2.2.2.2.2.2.2)) := by
    rw [gX_darkSpots, e]
    rfl
  exact ⟨_, _, eg, ⟨hX.1, hX.2.1, hX.2.2.1, hX.2.2.2.1, hX.2.2.2.2.1, hX.2.2.2.2.2.1, hX.2.2.2.2.2.2.1, hX.2.2.2.2.2.2.2.1, hX.2.2.2.2.2.2.2.2.1, hb.2⟩, rfl, rfl, (kp_f_X10_darkSpots (F0 := X.1.2) rfl out e).2, (kp_f_X10_darkSpots (F0 := X.1.2) rfl out e).1, rfl, rfl, rfl⟩
theorem sx_ask {X : XS} (hX : IX X) : ∃ r X', gX_ask X = some (r, X') ∧ IX X' ∧ X'.2.2.2.1 = X.2.2.2.1 ∧ X'.2.1 = X.2.1 ∧ X'.1.2 = X.1.2 ∧ ¬ X'.1.1 = 4 ∧ X'.2.2.2.2.1 = X.2.2.2.2.1 ∧ X'.2.2.2.2.2.1 = X.2.2.2.2.2.1 ∧ X'.2.2.2.2.2.2.1 = X.2.2.2.2.2.2.1 := by
  obtain ⟨out, e, hb⟩ := t_f_X10_ask (x_x := X.1) (p_p := X.2.1) (d_d := X.2.2.2.2.2.2.2.2.1) hX.1 hX.2.1 hX.2.2.1 hX.2.2.2.1 hX.2.2.2.2.1 hX.2.2.2.2.2.1 hX.2.2.2.2.2.2.2.2.2
  have eg : gX_ask X = some (out.1, (out.2.1, X.2.1, X.2.2.1, X.2.2.2.1, X.2.2.2.2.1, X.2.2.2.2.2.1, X.2.2.2.2.2.2.1, X.2.2.2.2.2.2.2.1, out.2.2, X.2.2.2.2.2.2.2.2.2.1, X.2.2.2.2.2.2.2.2.2.2)) := by
    rw [gX_ask, e]
    rfl
  exact ⟨_, _, eg, ⟨hX.1, hX.2.1, hX.2.2.1, hX.2.2.2.1, hX.2.2.2.2.1, hX.2.2.2.2.2.1, hX.2.2.2.2.2.2.1, hX.2.2.2.2.2.2.2.1, hX.2.2.2.2.2.2.2.2.1, hb.2.2⟩, rfl, rfl, (kp_f_X10_ask (F0 := X.1.2) rfl out e).2, (kp_f_X10_ask (F0 := X.1.2) rfl out e).1, rfl, rfl, rfl⟩
theorem sx_askLeaves {X : XS} (hX : IX X) : ∃ r X', gX_askLeaves X = some (r, X') ∧ IX X' ∧ X'.2.2.2.1 = X.2.2.2.1 ∧ X'.2.1 = X.2.1 ∧ X'.1.2 = X.1.2 ∧ ¬ X'.1.1 = 4 ∧ X'.2.2.2.2.1 = X.2.2.2.2.1 ∧ X'.2.2.2.2.2.1 = X.2.2.2.2.2.1 ∧ X'.2.2.2.2.2.2.1 = X.2.2.2.2.2.2.1 := by
  obtain ⟨out, e, hb⟩ := t_f_X10_askLeaves (x_x := X.1) (p_p := X.2.1) (d_d := X.2.2.2.2.2.2.2.2.1) hX.1 hX.2.1 hX.2.2.1 hX.2.2.2.1 hX.2.2.2.2.1 hX.2.2.2.2.2.1 hX.2.2.2.2.2.2.2.2.2
  have eg : gX_askLeaves X = some (out.1, (out.2.1, X.2.1, X.2.2.1, X.2.2.2.1, X.2.2.2.2.1, X.2.2.2.2.2.1, X.2.2.2.2.2.2.1, X.2.2.2.2.2.2.2.1, out.2.2, X.2.2.2.2.2.2.2.2.2.1, X.2.2.2.2.2.2.2.2.2.2)) := by
    rw [gX_askLeaves, e]
    rfl
  exact ⟨_, _, eg, ⟨hX.1, hX.2.1, hX.2.2.1, hX.2.2.2.1, hX.2.2.2.2.1, hX.2.2.2.2.2.1, hX.2.2.2.2.2.2.1, hX.2.2.2.2.2.2.2.1, hX.2.2.2.2.2.2.2.2.1, hb.2⟩, rfl, rfl, (kp_f_X10_askLeaves (F0 := X.1.2) rfl out e).2, (kp_f_X10_askLeaves (F0 := X.1.2) rfl out e).1, rfl, rfl, rfl⟩
theorem sx_judge {k1 : Int32} {X : XS} (hX : IX X) : ∃ r X', gX_judge k1 X = some (r, X') ∧ IX X' ∧ X'.2.2.2.1 = X.2.2.2.1 ∧ X'.2.1 = X.2.1 ∧ X'.1.2 = X.1.2 ∧ ¬ X'.1.1 = 4 ∧ X'.2.2.2.2.1 = X.2.2.2.2.1 ∧ X'.2.2.2.2.2.1 = X.2.2.2.2.2.1 ∧ X'.2.2.2.2.2.2.1 = X.2.2.2.2.2.2.1 := by
  obtain ⟨out, e, hb⟩ := t_f_X10_judge (k1 := k1) (x_x := X.1) (p_p := X.2.1) hX.1 hX.2.1 hX.2.2.1 hX.2.2.2.1 hX.2.2.2.2.1 hX.2.2.2.2.2.1
  have eg : gX_judge k1 X = some (out.1, (out.2, X.2.1, X.2.2.1, X.2.2.2.1, X.2.2.2.2.1, X.2.2.2.2.2.1, X.2.2.2.2.2.2.1, X.2.2.2.2.2.2.2.1, X.2.2.2.2.2.2.2.2.1, X.2.2.2.2.2.2.2.2.2.1, X.2.2.2.2.2.2.2.2.2.2)) := by
    rw [gX_judge, e]
    rfl
  exact ⟨_, _, eg, ⟨hX.1, hX.2.1, hX.2.2.1, hX.2.2.2.1, hX.2.2.2.2.1, hX.2.2.2.2.2.1, hX.2.2.2.2.2.2.1, hX.2.2.2.2.2.2.2.1, hX.2.2.2.2.2.2.2.2.1, hX.2.2.2.2.2.2.2.2.2⟩, rfl, rfl, (kp_f_X10_judge (F0 := X.1.2) rfl out e).2, (kp_f_X10_judge (F0 := X.1.2) rfl out e).1, rfl, rfl, rfl⟩
theorem sx_worth {k1 : Int32} {k2 : Int32} {k3 : Int32} {X : XS} (hX : IX X) : ∃ r X', gX_worth k1 k2 k3 X = some (r, X') ∧ IX X' ∧ X'.2.2.2.1 = X.2.2.2.1 ∧ X'.2.1 = X.2.1 ∧ X'.1.2 = X.1.2 ∧ ¬ X'.1.1 = 4 ∧ X'.2.2.2.2.1 = X.2.2.2.2.1 ∧ X'.2.2.2.2.2.1 = X.2.2.2.2.2.1 ∧ X'.2.2.2.2.2.2.1 = X.2.2.2.2.2.2.1 := by
  obtain ⟨out, e, hb⟩ := t_f_X10_worth (k1 := k1) (k2 := k2) (k3 := k3) (x_x := X.1) (p_p := X.2.1) hX.1 hX.2.1 hX.2.2.1 hX.2.2.2.1 hX.2.2.2.2.1 hX.2.2.2.2.2.1
  have eg : gX_worth k1 k2 k3 X = some (out.1, (out.2, X.2.1, X.2.2.1, X.2.2.2.1, X.2.2.2.2.1, X.2.2.2.2.2.1, X.2.2.2.2.2.2.1, X.2.2.2.2.2.2.2.1, X.2.2.2.2.2.2.2.2.1, X.2.2.2.2.2.2.2.2.2.1, X.2.2.2.2.2.2.2.2.2.2)) := by
    rw [gX_worth, e]
    rfl
  exact ⟨_, _, eg, ⟨hX.1, hX.2.1, hX.2.2.1, hX.2.2.2.1, hX.2.2.2.2.1, hX.2.2.2.2.2.1, hX.2.2.2.2.2.2.1, hX.2.2.2.2.2.2.2.1, hX.2.2.2.2.2.2.2.2.1, hX.2.2.2.2.2.2.2.2.2⟩, rfl, rfl, (kp_f_X10_worth (F0 := X.1.2) rfl out e).2, (kp_f_X10_worth (F0 := X.1.2) rfl out e).1, rfl, rfl, rfl⟩
theorem sx_load {k1 : Int32} {X : XS} (hX : IX X) : ∃ r X', gX_load k1 X = some (r, X') ∧ IX X' ∧ X'.2.2.2.1 = X.2.2.2.1 ∧ X'.2.1 = X.2.1 ∧ X'.1.2 = X.1.2 ∧ ¬ X'.1.1 = 4 ∧ X'.2.2.2.2.1 = X.2.2.2.2.1 ∧ X'.2.2.2.2.2.1 = X.2.2.2.2.2.1 ∧ X'.2.2.2.2.2.2.1 = X.2.2.2.2.2.2.1 := by
  obtain ⟨out, e, hb⟩ := t_f_X10_load (k1 := k1) (x_x := X.1) (p_p := X.2.1) (n_n := X.2.2.2.2.1) hX.1 hX.2.1 hX.2.2.1 hX.2.2.2.1 hX.2.2.2.2.1 hX.2.2.2.2.2.1
  have eg : gX_load k1 X = some (out.1, (out.2, X.2.1, X.2.2.1, X.2.2.2.1, X.2.2.2.2.1, X.2.2.2.2.2.1, X.2.2.2.2.2.2.1, X.2.2.2.2.2.2.2.1, X.2.2.2.2.2.2.2.2.1, X.2.2.2.2.2.2.2.2.2.1, X.2.2.2.2.2.2.2.2.2.2)) := by
    rw [gX_load, e]
    rfl
  exact ⟨_, _, eg, ⟨hX.1, hX.2.1, hX.2.2.1, hX.2.2.2.1, hX.2.2.2.2.1, hX.2.2.2.2.2.1, hX.2.2.2.2.2.2.1, hX.2.2.2.2.2.2.2.1, hX.2.2.2.2.2.2.2.2.1, hX.2.2.2.2.2.2.2.2.2⟩, rfl, rfl, (kp_f_X10_load (F0 := X.1.2) rfl out e).2, (kp_f_X10_load (F0 := X.1.2) rfl out e).1, rfl, rfl, rfl⟩
theorem sx_loadWorth {k1 : Int32} {X : XS} (hX : IX X) : ∃ r X', gX_loadWorth k1 X = some (r, X') ∧ IX X' ∧ X'.2.2.2.1 = X.2.2.2.1 ∧ X'.2.1 = X.2.1 ∧ X'.1.2 = X.1.2 ∧ ¬ X'.1.1 = 4 ∧ X'.2.2.2.2.1 = X.2.2.2.2.1 ∧ X'.2.2.2.2.2.1 = X.2.2.2.2.2.1 ∧ X'.2.2.2.2.2.2.1 = X.2.2.2.2.2.2.1 := by
  obtain ⟨out, e, hb⟩ := t_f_X10_loadWorth (k1 := k1) (x_x := X.1) (p_p := X.2.1) (n_n := X.2.2.2.2.1) hX.1 hX.2.1 hX.2.2.1 hX.2.2.2.1 hX.2.2.2.2.1 hX.2.2.2.2.2.1
  have eg : gX_loadWorth k1 X = some (out.1, (out.2, X.2.1, X.2.2.1, X.2.2.2.1, X.2.2.2.2.1, X.2.2.2.2.2.1, X.2.2.2.2.2.2.1, X.2.2.2.2.2.2.2.1, X.2.2.2.2.2.2.2.2.1, X.2.2.2.2.2.2.2.2.2.1, X.2.2.2.2.2.2.2.2.2.2)) := by
    rw [gX_loadWorth, e]
    rfl
  exact ⟨_, _, eg, ⟨hX.1, hX.2.1, hX.2.2.1, hX.2.2.2.1, hX.2.2.2.2.1, hX.2.2.2.2.2.1, hX.2.2.2.2.2.2.1, hX.2.2.2.2.2.2.2.1, hX.2.2.2.2.2.2.2.2.1, hX.2.2.2.2.2.2.2.2.2⟩, rfl, rfl, (kp_f_X10_loadWorth (F0 := X.1.2) rfl out e).2, (kp_f_X10_loadWorth (F0 := X.1.2) rfl out e).1, rfl, rfl, rfl⟩
theorem sx_bestDay {X : XS} (hX : IX X) : ∃ r X', gX_bestDay X = some (r, X') ∧ IX X' ∧ X'.2.2.2.1 = X.2.2.2.1 ∧ X'.2.1 = X.2.1 ∧ X'.1.2 = X.1.2 ∧ ¬ X'.1.1 = 4 ∧ X'.2.2.2.2.1 = X.2.2.2.2.1 ∧ X'.2.2.2.2.2.1 = X.2.2.2.2.2.1 ∧ X'.2.2.2.2.2.2.1 = X.2.2.2.2.2.2.1 := by
  obtain ⟨out, e, hb⟩ := t_f_X10_bestDay (x_x := X.1) (p_p := X.2.1) (n_n := X.2.2.2.2.1) hX.1 hX.2.1 hX.2.2.1 hX.2.2.2.1 hX.2.2.2.2.1 hX.2.2.2.2.2.1
  have eg : gX_bestDay X = some (out.1, (out.2, X.2.1, X.2.2.1, X.2.2.2.1, X.2.2.2.2.1, X.2.2.2.2.2.1, X.2.2.2.2.2.2.1, X.2.2.2.2.2.2.2.1, X.2.2.2.2.2.2.2.2.1, X.2.2.2.2.2.2.2.2.2.1, X.2.2.2.2.2.2.2.2.2.2)) := by
    rw [gX_bestDay, e]
    rfl
  exact ⟨_, _, eg, ⟨hX.1, hX.2.1, hX.2.2.1, hX.2.2.2.1, hX.2.2.2.2.1, hX.2.2.2.2.2.1, hX.2.2.2.2.2.2.1, hX.2.2.2.2.2.2.2.1, hX.2.2.2.2.2.2.2.2.1, hX.2.2.2.2.2.2.2.2.2⟩, rfl, rfl, (kp_f_X10_bestDay (F0 := X.1.2) rfl out e).2, (kp_f_X10_bestDay (F0 := X.1.2) rfl out e).1, rfl, rfl, rfl⟩
theorem sx_hooks {k1 : Int32} {k2 : Int32} {k3 : Int32} {k4 : Int32} {k5 : Int32} {X : XS} (hX : IX X) : ∃ r X', gX_hooks k1 k2 k3 k4 k5 X = some (r, X') ∧ IX X' ∧ X'.2.2.2.1 = X.2.2.2.1 ∧ X'.2.1 = X.2.1 ∧ X'.1.2 = X.1.2 ∧ ¬ X'.1.1 = 4 ∧ X'.2.2.2.2.1 = X.2.2.2.2.1 ∧ X'.2.2.2.2.2.1 = X.2.2.2.2.2.1 ∧ X'.2.2.2.2.2.2.1 = X.2.2.2.2.2.2.1 := by
  obtain ⟨out, e, hb⟩ := t_f_X10_hooks (k1 := k1) (k2 := k2) (k3 := k3) (k4 := k4) (k5 := k5) (x_x := X.1) (p_p := X.2.1) (n_n := X.2.2.2.2.1) hX.1 hX.2.1 hX.2.2.1 hX.2.2.2.1 hX.2.2.2.2.1 hX.2.2.2.2.2.1
  have eg : gX_hooks k1 k2 k3 k4 k5 X = some (out.1, (out.2, X.2.1, X.2.2.1, X.2.2.2.1, X.2.2.2.2.1, X.2.2.2.2.2.1, X.2.2.2.2.2.2.1, X.2.2.2.2.2.2.2.1, X.2.2.2.2.2.2.2.2.1, X.2.2.2.2.2.2.2.2.2.1, X.2.2.2.2.2.2.2.2.2.2)) := by
    rw [gX_hooks, e]
    rfl
  exact ⟨_, _, eg, ⟨hX.1, hX.2.1, hX.2.2.1, hX.2.2.2.1, hX.2.2.2.2.1, hX.2.2.2.2.2.1, hX.2.2.2.2.2.2.1, hX.2.2.2.2.2.2.2.1, hX.2.2.2.2.2.2.2.2.1, hX.2.2.2.2.2.2.2.2.2⟩, rfl, rfl, (kp_f_X10_hooks (F0 := X.1.2) rfl out e).2, (kp_f_X10_hooks (F0 := X.1.2) rfl out e).1, rfl, rfl, rfl⟩
theorem sx_lines {k1 : Int32} {k2 : Int32} {k3 : Int32} {k4 : Int32} {X : XS} (hX : IX X) : ∃ r X', gX_lines k1 k2 k3 k4 X = some (r, X') ∧ IX X' ∧ X'.2.2.2.1 = X.2.2.2.1 ∧ X'.2.1 = X.2.1 ∧ X'.1.2 = X.1.2 ∧ ¬ X'.1.1 = 4 ∧ X'.2.2.2.2.1 = X.2.2.2.2.1 ∧ X'.2.2.2.2.2.1 = X.2.2.2.2.2.1 ∧ X'.2.2.2.2.2.2.1 = X.2.2.2.2.2.2.1 := by
  obtain ⟨out, e, hb⟩ := t_f_X10_lines (k1 := k1) (k2 := k2) (k3 := k3) (k4 := k4) (x_x := X.1) (p_p := X.2.1) hX.1 hX.2.1 hX.2.2.1 hX.2.2.2.1 hX.2.2.2.2.1 hX.2.2.2.2.2.1
  have eg : gX_lines k1 k2 k3 k4 X = some (out.1, (out.2, X.2.1, X.2.2.1, X.2.2.2.1, X.2.2.2.2.1, X.2.2.2.2.2.1, X.2.2.2.2.2.2.1, X.2.2.2.2.2.2.2.1, X.2.2.2.2.2.2.2.2.1, X.2.2.2.2.2.2.2.2.2.1, X.2.2.2.2.2.2.2.2.2.2)) := by
    rw [gX_lines, e]
    rfl
  exact ⟨_, _, eg, ⟨hX.1, hX.2.1, hX.2.2.1, hX.2.2.2.1, hX.2.2.2.2.1, hX.2.2.2.2.2.1, hX.2.2.2.2.2.2.1, hX.2.2.2.2.2.2.2.1, hX.2.2.2.2.2.2.2.2.1, hX.2.2.2.2.2.2.2.2.2⟩, rfl, rfl, (kp_f_X10_lines (F0 := X.1.2) rfl out e).2, (kp_f_X10_lines (F0 := X.1.2) rfl out e).1, rfl, rfl, rfl⟩
theorem sx_rests {k1 : Int32} {X : XS} (hX : IX X) : ∃ r X', gX_rests k1 X = some (r, X') ∧ IX X' ∧ X'.2.2.2.1 = X.2.2.2.1 ∧ X'.2.1 = X.2.1 ∧ X'.1.2 = X.1.2 ∧ ¬ X'.1.1 = 4 ∧ X'.2.2.2.2.1 = X.2.2.2.2.1 ∧ X'.2.2.2.2.2.1 = X.2.2.2.2.2.1 ∧ X'.2.2.2.2.2.2.1 = X.2.2.2.2.2.2.1 := by
  obtain ⟨out, e, hb⟩ := t_f_X10_rests (k1 := k1) (x_x := X.1) (p_p := X.2.1) hX.1 hX.2.1 hX.2.2.1 hX.2.2.2.1 hX.2.2.2.2.1 hX.2.2.2.2.2.1
  have eg : gX_rests k1 X = some (out.1, (out.2, X.2.1, X.2.2.1, X.2.2.2.1, X.2.2.2.2.1, X.2.2.2.2.2.1, X.2.2.2.2.2.2.1, X.2.2.2.2.2.2.2.1, X.2.2.2.2.2.2.2.2.1, X.2.2.2.2.2.2.2.2.2.1, X.2.2.2.2.2.2.2.2.2.2)) := by
    rw [gX_rests, e]
    rfl
  exact ⟨_, _, eg, ⟨hX.1, hX.2.1, hX.2.2.1, hX.2.2.2.1, hX.2.2.2.2.1, hX.2.2.2.2.2.1, hX.2.2.2.2.2.2.1, hX.2.2.2.2.2.2.2.1, hX.2.2.2.2.2.2.2.2.1, hX.2.2.2.2.2.2.2.2.2⟩, rfl, rfl, (kp_f_X10_rests (F0 := X.1.2) rfl out e).2, (kp_f_X10_rests (F0 := X.1.2) rfl out e).1, rfl, rfl, rfl⟩
theorem sx_rest {k1 : Int32} {X : XS} (hX : IX X) : ∃ r X', gX_rest k1 X = some (r, X') ∧ IX X' ∧ X'.2.2.2.1 = X.2.2.2.1 ∧ X'.2.1 = X.2.1 ∧ X'.1.2 = X.1.2 ∧ ¬ X'.1.1 = 4 ∧ X'.2.2.2.2.1 = X.2.2.2.2.1 ∧ X'.2.2.2.2.2.1 = X.2.2.2.2.2.1 ∧ X'.2.2.2.2.2.2.1 = X.2.2.2.2.2.2.1 := by
  obtain ⟨out, e, hb⟩ := t_f_X10_rest (k1 := k1) (x_x := X.1) (p_p := X.2.1) hX.1 hX.2.1 hX.2.2.1 hX.2.2.2.1 hX.2.2.2.2.1 hX.2.2.2.2.2.1
  have eg : gX_rest k1 X = some (out.1, (out.2, X.2.1, X.2.2.1, X.2.2.2.1, X.2.2.2.2.1, X.2.2.2.2.2.1, X.2.2.2.2.2.2.1, X.2.2.2.2.2.2.2.1, X.2.2.2.2.2.2.2.2.1, X.2.2.2.2.2.2.2.2.2.1, X.2.2.2.2.2.2.2.2.2.2)) := by
    rw [gX_rest, e]
    rfl
  exact ⟨_, _, eg, ⟨hX.1, hX.2.1, hX.2.2.1, hX.2.2.2.1, hX.2.2.2.2.1, hX.2.2.2.2.2.1, hX.2.2.2.2.2.2.1, hX.2.2.2.2.2.2.2.1, hX.2.2.2.2.2.2.2.2.1, hX.2.2.2.2.2.2.2.2.2⟩, rfl, rfl, (kp_f_X10_rest (F0 := X.1.2) rfl out e).2, (kp_f_X10_rest (F0 := X.1.2) rfl out e).1, rfl, rfl, rfl⟩
theorem sx_landed {k1 : Int32} {k2 : Int32} {X : XS} (hX : IX X) : ∃ r X', gX_landed k1 k2 X = some (r, X') ∧ IX X' ∧ X'.2.2.2.1 = X.2.2.2.1 ∧ X'.2.1 = X.2.1 ∧ X'.1.2 = X.1.2 ∧ ¬ X'.1.1 = 4 ∧ X'.2.2.2.2.1 = X.2.2.2.2.1 ∧ X'.2.2.2.2.2.1 = X.2.2.2.2.2.1 ∧ X'.2.2.2.2.2.2.1 = X.2.2.2.2.2.2.1 := by
  obtain ⟨out, e, hb⟩ := t_f_X10_landed (k1 := k1) (k2 := k2) (x_x := X.1) (p_p := X.2.1) (n_n := X.2.2.2.2.1) (y_y := X.2.2.2.2.2.2.2.2.2.1) (n2_n := X.2.2.2.2.2.2.2.2.2.2) hX.1 hX.2.1 hX.2.2.1 hX.2.2.2.1 hX.2.2.2.2.1 hX.2.2.2.2.2.1
  have eg : gX_landed k1 k2 X = some (out.1, (out.2.1, X.2.1, X.2.2.1, X.2.2.2.1, X.2.2.2.2.1, X.2.2.2.2.2.1, X.2.2.2.2.2.2.1, X.2.2.2.2.2.2.2.1, X.2.2.2.2.2.2.2.2.1, out.2.2.1, out.2.2.2)) := by
    rw [gX_landed, e]
    rfl
  exact ⟨_, _, eg, ⟨hX.1, hX.2.1, hX.2.2.1, hX.2.2.2.1, hX.2.2.2.2.1, hX.2.2.2.2.2.1, hX.2.2.2.2.2.2.1, hX.2.2.2.2.2.2.2.1, hX.2.2.2.2.2.2.2.2.1, hX.2.2.2.2.2.2.2.2.2⟩, rfl, rfl, (kp_f_X10_landed (F0 := X.1.2) rfl out e).2, (kp_f_X10_landed (F0 := X.1.2) rfl out e).1, rfl, rfl, rfl⟩
theorem sx_landedIn {k1 : Int32} {k2 : Int32} {k3 : Int32} {X : XS} (hX : IX X) : ∃ r X', gX_landedIn k1 k2 k3 X = some (r, X') ∧ IX X' ∧ X'.2.2.2.1 = X.2.2.2.1 ∧ X'.2.1 = X.2.1 ∧ X'.1.2 = X.1.2 ∧ ¬ X'.1.1 = 4 ∧ X'.2.2.2.2.1 = X.2.2.2.2.1 ∧ X'.2.2.2.2.2.1 = X.2.2.2.2.2.1 ∧ X'.2.2.2.2.2.2.1 = X.2.2.2.2.2.2.1 := by
  obtain ⟨out, e, hb⟩ := t_f_X10_landedIn (k1 := k1) (k2 := k2) (k3 := k3) (x_x := X.1) (p_p := X.2.1) (n_n := X.2.2.2.2.1) (y_y := X.2.2.2.2.2.2.2.2.2.1) (n2_n := X.2.2.2.2.2.2.2.2.2.2) hX.1 hX.2.1 hX.2.2.1 hX.2.2.2.1 hX.2.2.2.2.1 hX.2.2.2.2.2.1
  have eg : gX_landedIn k1 k2 k3 X = some (out.1, (out.2.1, X.2.1, X.2.2.1, X.2.2.2.1, X.2.2.2.2.1, X.2.2.2.2.2.1, X.2.2.2.2.2.2.1, X.2.2.2.2.2.2.2.1, X.2.2.2.2.2.2.2.2.1, out.2.2.1, out.2.2.2)) := by
    rw [gX_landedIn, e]
    rfl
  exact ⟨_, _, eg, ⟨hX.1, hX.2.1, hX.2.2.1, hX.2.2.2.1, hX.2.2.2.2.1, hX.2.2.2.2.2.1, hX.2.2.2.2.2.2.1, hX.2.2.2.2.2.2.2.1, hX.2.2.2.2.2.2.2.2.1, hX.2.2.2.2.2.2.2.2.2⟩, rfl, rfl, (kp_f_X10_landedIn (F0 := X.1.2) rfl out e).2, (kp_f_X10_landedIn (F0 := X.1.2) rfl out e).1, rfl, rfl, rfl⟩
theorem sx_crabs {k1 : Int32} {k2 : Int32} {X : XS} (hX : IX X) : ∃ r X', gX_crabs k1 k2 X = some (r, X') ∧ IX X' ∧ X'.2.2.2.1 = X.2.2.2.1 ∧ X'.2.1 = X.2.1 ∧ X'.1.2 = X.1.2 ∧ ¬ X'.1.1 = 4 ∧ X'.2.2.2.2.1 = X.2.2.2.2.1 ∧ X'.2.2.2.2.2.1 = X.2.2.2.2.2.1 ∧ X'.2.2.2.2.2.2.1 = X.2.2.2.2.2.2.1 := by
  obtain ⟨out, e, hb⟩ := t_f_X10_crabs (k1 := k1) (k2 := k2) (x_x := X.1) (p_p := X.2.1) (n_n := X.2.2.2.2.1) (y_y := X.2.2.2.2.2.2.2.2.2.1) (n2_n := X.2.2.2.2.2.2.2.2.2.2) hX.1 hX.2.1 hX.2.2.1 hX.2.2.2.1 hX.2.2.2.2.1 hX.2.2.2.2.2.1
  have eg : gX_crabs k1 k2 X = some (out.1, (out.2.1, X.2.1, X.2.2.1, X.2.2.2.1, X.2.2.2.2.1, X.2.2.2.2.2.1, X.2.2.2.2.2.2.1, X.2.2.2.2.2.2.2.1, X.2.2.2.2.2.2.2.2.1, out.2.2.1, out.2.2.2)) := by
    rw [gX_crabs, e]
    rfl
  exact ⟨_, _, eg, ⟨hX.1, hX.2.1, hX.2.2.1, hX.2.2.2.1, hX.2.2.2.2.1, hX.2.2.2.2.2.1, hX.2.2.2.2.2.2.1, hX.2.2.2.2.2.2.2.1, hX.2.2.2.2.2.2.2.2.1, hX.2.2.2.2.2.2.2.2.2⟩, rfl, rfl, (kp_f_X10_crabs (F0 := X.1.2) rfl out e).2, (kp_f_X10_crabs (F0 := X.1.2) rfl out e).1, rfl, rfl, rfl⟩
theorem sx_let {k1 : Int32} {k2 : Int32} {k3 : Int32} {k4 : Int32} {X : XS} (hX : IX X) : ∃ r X', gX_let k1 k2 k3 k4 X = some (r, X') ∧ IX X' ∧ X'.2.2.2.1 = X.2.2.2.1 ∧ X'.2.1 = X.2.1 ∧ X'.1.2 = X.1.2 ∧ ¬ X'.1.1 = 4 := by
  obtain ⟨out, e, hb⟩ := t_f_X10_let (k1 := k1) (k2 := k2) (k3 := k3) (k4 := k4) (x_x := X.1) (n_n := (X.2.2.2.2.2.2.1 (((((X.2.2.2.2.2.1.1 + X.2.2.2.2.2.1.2.1) - (X.2.2.2.2.2.1.1 + X.2.2.2.2.2.1.2.1) / (16 : Int32) * (16 : Int32)))).toNatClampNeg % 16))) (p_p := X.2.1) (n2_n := X.2.2.2.2.1) (h_h := X.2.2.2.2.2.1) hX.1 hX.2.1 hX.2.2.1 hX.2.2.2.1 hX.2.2.2.2.1 hX.2.2.2.2.2.1 hX.2.2.2.2.2.2.1 hX.2.2.2.2.2.2.2.1 hX.2.2.2.2.2.2.2.2.1
  have eg : gX_let k1 k2 k3 k4 X = some (out.1, (out.2.1, X.2.1, X.2.2.1, X.2.2.2.1, out.2.2.2.1, out.2.2.2.2, (updN X.2.2.2.2.2.2.1 (((((X.2.2.2.2.2.1.1 + X.2.2.2.2.2.1.2.1) - (X.2.2.2.2.2.1.1 + X.2.2.2.2.2.1.2.1) / (16 : Int32) * (16 : Int32)))).toNatClampNeg % 16) out.2.2.1), X.2.2.2.2.2.2.2.1, X.2.2.2.2.2.2.2.2.1, X.2.2.2.2.2.2.2.2.2.1, X.2.2.2.2.2.2.2.2.2.2)) := by
    rw [gX_let, e]
    rfl
  exact ⟨_, _, eg, ⟨hX.1, hX.2.1, hX.2.2.1, hX.2.2.2.1, hX.2.2.2.2.1, hX.2.2.2.2.2.1, hb.2.2.1, hb.2.2.2.1, hb.2.2.2.2, hX.2.2.2.2.2.2.2.2.2⟩, rfl, rfl, (kp_f_X10_let (F0 := X.1.2) rfl out e).2.2, (kp_f_X10_let (F0 := X.1.2) rfl out e).2.1⟩
theorem sx_drawIn {k1 : Int32} {X : XS} (hX : IX X) : ∃ r X', gX_drawIn k1 X = some (r, X') ∧ IX X' ∧ X'.2.2.2.1 = X.2.2.2.1 ∧ X'.2.1 = X.2.1 ∧ X'.1.2 = X.1.2 ∧ ¬ X'.1.1 = 4 := by
  obtain ⟨out, e, hb⟩ := t_f_X10_drawIn (k1 := k1) (x_x := X.1) (n_n := (X.2.2.2.2.2.2.1 (((((X.2.2.2.2.2.1.1 + X.2.2.2.2.2.1.2.1) - (X.2.2.2.2.2.1.1 + X.2.2.2.2.2.1.2.1) / (16 : Int32) * (16 : Int32)))).toNatClampNeg % 16))) (p_p := X.2.1) (n2_n := X.2.2.2.2.1) (h_h := X.2.2.2.2.2.1) hX.1 hX.2.1 hX.2.2.1 hX.2.2.2.1 hX.2.2.2.2.1 hX.2.2.2.2.2.1 hX.2.2.2.2.2.2.1 hX.2.2.2.2.2.2.2.1 hX.2.2.2.2.2.2.2.2.1
  have eg : gX_drawIn k1 X = some (out.1, (out.2.1, X.2.1, X.2.2.1, X.2.2.2.1, out.2.2.2.1, out.2.2.2.2, (updN X.2.2.2.2.2.2.1 (((((X.2.2.2.2.2.1.1 + X.2.2.2.2.2.1.2.1) - (X.2.2.2.2.2.1.1 + X.2.2.2.2.2.1.2.1) / (16 : Int32) * (16 : Int32)))).toNatClampNeg % 16) out.2.2.1), X.2.2.2.2.2.2.2.1, X.2.2.2.2.2.2.2.2.1, X.2.2.2.2.2.2.2.2.2.1, X.2.2.2.2.2.2.2.2.2.2)) := by
    rw [gX_drawIn, e]
    rfl
  exact ⟨_, _, eg, ⟨hX.1, hX.2.1, hX.2.2.1, hX.2.2.2.1, hX.2.2.2.2.1, hX.2.2.2.2.2.1, hb.2.2.1, hb.2.2.2.1, hb.2.2.2.2, hX.2.2.2.2.2.2.2.2.2⟩, rfl, rfl, (kp_f_X10_drawIn (F0 := X.1.2) rfl out e).2.2, (kp_f_X10_drawIn (F0 := X.1.2) rfl out e).2.1⟩
theorem sx_sell {k1 : Int32} {X : XS} (hX : IX X) : ∃ r X', gX_sell k1 X = some (r, X') ∧ IX X' ∧ X'.2.2.2.1 = X.2.2.2.1 ∧ X'.2.1 = X.2.1 ∧ X'.1.2 = X.1.2 ∧ ¬ X'.1.1 = 4 := by
  obtain ⟨out, e, hb⟩ := t_f_X10_sell (k1 := k1) (x_x := X.1) (n_n := (X.2.2.2.2.2.2.1 (((((X.2.2.2.2.2.1.1 + X.2.2.2.2.2.1.2.1) - (X.2.2.2.2.2.1.1 + X.2.2.2.2.2.1.2.1) / (16 : Int32) * (16 : Int32)))).toNatClampNeg % 16))) (p_p := X.2.1) (n2_n := X.2.2.2.2.1) (h_h := X.2.2.2.2.2.1) hX.1 hX.2.1 hX.2.2.1 hX.2.2.2.1 hX.2.2.2.2.1 hX.2.2.2.2.2.1 hX.2.2.2.2.2.2.1 hX.2.2.2.2.2.2.2.1 hX.2.2.2.2.2.2.2.2.1
  have eg : gX_sell k1 X = some (out.1, (out.2.1, X.2.1, X.2.2.1, X.2.2.2.1, out.2.2.2.1, out.2.2.2.2, (updN X.2.2.2.2.2.2.1 (((((X.2.2.2.2.2.1.1 + X.2.2.2.2.2.1.2.1) - (X.2.2.2.2.2.1.1 + X.2.2.2.2.2.1.2.1) / (16 : Int32) * (16 : Int32)))).toNatClampNeg % 16) out.2.2.1), X.2.2.2.2.2.2.2.1, X.2.2.2.2.2.2.2.2.1, X.2.2.2.2.2.2.2.2.2.1, X.2.2.2.2.2.2.2.2.2.2)) := by
    rw [gX_sell, e]
    rfl
  exact ⟨_, _, eg, ⟨hX.1, hX.2.1, hX.2.2.1, hX.2.2.2.1, hX.2.2.2.2.1, hX.2.2.2.2.2.1, hb.2.1, hb.2.2.1, hb.2.2.2, hX.2.2.2.2.2.2.2.2.2⟩, rfl, rfl, (kp_f_X10_sell (F0 := X.1.2) rfl out e).2, (kp_f_X10_sell (F0 := X.1.2) rfl out e).1⟩
theorem sx_day {X : XS} (hX : IX X) : ∃ r X', gX_day X = some (r, X') ∧ IX X' ∧ X'.2.2.2.1 = X.2.2.2.1 ∧ X'.2.1 = X.2.1 ∧ X'.1.2 = X.1.2 ∧ ¬ X'.1.1 = 4 := by
  obtain ⟨out, e, hb⟩ := t_f_X10_day (x_x := X.1) (n_n := (X.2.2.2.2.2.2.1 (((((X.2.2.2.2.2.1.1 + X.2.2.2.2.2.1.2.1) - (X.2.2.2.2.2.1.1 + X.2.2.2.2.2.1.2.1) / (16 : Int32) * (16 : Int32)))).toNatClampNeg % 16))) (p_p := X.2.1) (n2_n := X.2.2.2.2.1) (h_h := X.2.2.2.2.2.1) (y_y := X.2.2.2.2.2.2.2.2.2.1) hX.1 hX.2.1 hX.2.2.1 hX.2.2.2.1 hX.2.2.2.2.1 hX.2.2.2.2.2.1 hX.2.2.2.2.2.2.1 hX.2.2.2.2.2.2.2.1 hX.2.2.2.2.2.2.2.2.1
  have eg : gX_day X = some (out.1, (out.2.1, X.2.1, X.2.2.1, X.2.2.2.1, out.2.2.2.1, out.2.2.2.2.1, (updN X.2.2.2.2.2.2.1 (((((X.2.2.2.2.2.1.1 + X.2.2.2.2.2.1.2.1) - (X.2.2.2.2.2.1.1 + X.2.2.2.2.2.1.2.1) / (16 : Int32) * (16 : Int32)))).toNatClampNeg % 16) out.2.2.1), X.2.2.2.2.2.2.2.1, X.2.2.2.2.2.2.2.2.1, out.2.2.2.2.2, X.2.2.2.2.2.2.2.2.2.2)) := by
    rw [gX_day, e]
    rfl
  exact ⟨_, _, eg, ⟨hX.1, hX.2.1, hX.2.2.1, hX.2.2.2.1, hX.2.2.2.2.1, hX.2.2.2.2.2.1, hb.2.2.1, hb.2.2.2.1, hb.2.2.2.2, hX.2.2.2.2.2.2.2.2.2⟩, rfl, rfl, (kp_f_X10_day (F0 := X.1.2) rfl out e).2, (kp_f_X10_day (F0 := X.1.2) rfl out e).1⟩
theorem sx_seed {k1 : Int32} {X : XS} (hX : IX X) : ∃ r X', gX_seed k1 X = some (r, X') ∧ IX X' ∧ X'.2.2.2.1 = X.2.2.2.1 ∧ X'.2.1 = X.2.1 ∧ X'.1.2 = X.1.2 ∧ ¬ X'.1.1 = 4 := by
  have eg : gX_seed k1 X = some ((f_X10_seed k1 X.1 X.2.1 X.2.2.2.2.1).1, ((f_X10_seed k1 X.1 X.2.1 X.2.2.2.2.1).2.1, X.2.1, X.2.2.1, X.2.2.2.1, (f_X10_seed k1 X.1 X.2.1 X.2.2.2.2.1).2.2, X.2.2.2.2.2.1, X.2.2.2.2.2.2.1, X.2.2.2.2.2.2.2.1, X.2.2.2.2.2.2.2.2.1, X.2.2.2.2.2.2.2.2.2.1, X.2.2.2.2.2.2.2.2.2.2)) := rfl
  exact ⟨_, _, eg, ⟨hX.1, hX.2.1, hX.2.2.1, hX.2.2.2.1, hX.2.2.2.2.1, hX.2.2.2.2.2.1, hX.2.2.2.2.2.2.1, hX.2.2.2.2.2.2.2.1, hX.2.2.2.2.2.2.2.2.1, hX.2.2.2.2.2.2.2.2.2⟩, rfl, rfl, (kp_f_X10_seed (F0 := X.1.2) rfl).2.2, (kp_f_X10_seed (F0 := X.1.2) rfl).2.1⟩
theorem sx_undo {X : XS} (hX : IX X) : ∃ r X', gX_undo X = some (r, X') ∧ IX X' ∧ X'.2.2.2.1 = X.2.2.2.1 ∧ X'.2.1 = X.2.1 ∧ X'.1.2 = X.1.2 ∧ ¬ X'.1.1 = 4 := by
  obtain ⟨out, e, hb⟩ := t_f_X10_undo (x_x := X.1) (n_n := (X.2.2.2.2.2.2.1 (((((X.2.2.2.2.2.1.1 + (X.2.2.2.2.2.1.2.1 - (1 : Int32))) - (X.2.2.2.2.2.1.1 + (X.2.2.2.2.2.1.2.1 - (1 : Int32))) / (16 : Int32) * (16 : Int32)))).toNatClampNeg % 16))) (n2_n := X.2.2.2.2.1) (h_h := X.2.2.2.2.2.1) hX.2.2.2.2.2.2.1 hX.2.2.2.2.2.2.2.1 hX.2.2.2.2.2.2.2.2.1
  have eg : gX_undo X = some (out.1, (out.2.1, X.2.1, X.2.2.1, X.2.2.2.1, out.2.2.1, out.2.2.2, X.2.2.2.2.2.2.1, X.2.2.2.2.2.2.2.1, X.2.2.2.2.2.2.2.2.1, X.2.2.2.2.2.2.2.2.2.1, X.2.2.2.2.2.2.2.2.2.2)) := by
    rw [gX_undo, e]
    rfl
  exact ⟨_, _, eg, ⟨hX.1, hX.2.1, hX.2.2.1, hX.2.2.2.1, hX.2.2.2.2.1, hX.2.2.2.2.2.1, hb.2.2.1, r_w (l' := 0) (h' := 16) hb.2.2.2.1 (by decide) (by decide), hb.2.2.2.2, hX.2.2.2.2.2.2.2.2.2⟩, rfl, rfl, (kp_f_X10_undo (F0 := X.1.2) rfl out e).2.2, (kp_f_X10_undo (F0 := X.1.2) rfl out e).2.1⟩
theorem sx_mark {X : XS} (hX : IX X) : ∃ r X', gX_mark X = some (r, X') ∧ IX X' ∧ X'.2.2.2.1 = X.2.2.2.1 ∧ X'.2.1 = X.2.1 ∧ X'.1.2 = X.1.2 ∧ ¬ X'.1.1 = 4 := by
  obtain ⟨out, e, hb⟩ := t_f_X10_mark (x_x := X.1) (n_n := (X.2.2.2.2.2.2.1 (16 + ((X.2.2.2.2.2.1.2.2)).toNatClampNeg % 3))) (p_p := X.2.1) (n2_n := X.2.2.2.2.1) (h_h := X.2.2.2.2.2.1) hX.1 hX.2.1 hX.2.2.1 hX.2.2.2.1 hX.2.2.2.2.1 hX.2.2.2.2.2.1 hX.2.2.2.2.2.2.1 hX.2.2.2.2.2.2.2.1 hX.2.2.2.2.2.2.2.2.1
  have eg : gX_mark X = some (out.1, (out.2.1, X.2.1, X.2.2.1, X.2.2.2.1, X.2.2.2.2.1, out.2.2.2, (updN X.2.2.2.2.2.2.1 (16 + ((X.2.2.2.2.2.1.2.2)).toNatClampNeg % 3) out.2.2.1), X.2.2.2.2.2.2.2.1, X.2.2.2.2.2.2.2.2.1, X.2.2.2.2.2.2.2.2.2.1, X.2.2.2.2.2.2.2.2.2.2)) := by
    rw [gX_mark, e]
    rfl
  exact ⟨_, _, eg, ⟨hX.1, hX.2.1, hX.2.2.1, hX.2.2.2.1, hX.2.2.2.2.1, hX.2.2.2.2.2.1, hb.2.2.1, hb.2.2.2.1, hb.2.2.2.2, hX.2.2.2.2.2.2.2.2.2⟩, rfl, rfl, (kp_f_X10_mark (F0 := X.1.2) rfl out e).2, (kp_f_X10_mark (F0 := X.1.2) rfl out e).1⟩
theorem sx_back {k1 : Int32} {X : XS} (hX : IX X) : ∃ r X', gX_back k1 X = some (r, X') ∧ IX X' ∧ X'.2.2.2.1 = X.2.2.2.1 ∧ X'.2.1 = X.2.1 ∧ X'.1.2 = X.1.2 ∧ ¬ X'.1.1 = 4 := by
  obtain ⟨out, e, hb⟩ := t_f_X10_back (k1 := k1) (x_x := X.1) (n_n := (X.2.2.2.2.2.2.1 (16 + ((k1)).toNatClampNeg % 3))) (n2_n := X.2.2.2.2.1) (h_h := X.2.2.2.2.2.1) hX.2.2.2.2.2.2.1 hX.2.2.2.2.2.2.2.1 hX.2.2.2.2.2.2.2.2.1
  have eg : gX_back k1 X = some (out.1, (out.2.1, X.2.1, X.2.2.1, X.2.2.2.1, out.2.2.1, out.2.2.2, X.2.2.2.2.2.2.1, X.2.2.2.2.2.2.2.1, X.2.2.2.2.2.2.2.2.1, X.2.2.2.2.2.2.2.2.2.1, X.2.2.2.2.2.2.2.2.2.2)) := by
    rw [gX_back, e]
    rfl
  exact ⟨_, _, eg, ⟨hX.1, hX.2.1, hX.2.2.1, hX.2.2.2.1, hX.2.2.2.2.1, hX.2.2.2.2.2.1, hb.2.2.1, hb.2.2.2.1, hb.2.2.2.2, hX.2.2.2.2.2.2.2.2.2⟩, rfl, rfl, (kp_f_X10_back (F0 := X.1.2) rfl out e).2.2, (kp_f_X10_back (F0 := X.1.2) rfl out e).2.1⟩
theorem sx_size {k1 : Int32} {X : XS} (hX : IX X) : ∃ r X', gX_size k1 X = some (r, X') ∧ IX X' ∧ X'.2.2.2.1 = X.2.2.2.1 ∧ X'.2.1 = X.2.1 ∧ X'.1 = X.1 ∧ X'.2.2.2.2.1 = X.2.2.2.2.1 ∧ X'.2.2.2.2.2.1 = X.2.2.2.2.2.1 ∧ X'.2.2.2.2.2.2.1 = X.2.2.2.2.2.2.1 := by
  have eg : gX_size k1 X = some ((f_X10_size k1 X.2.1 X.2.2.2.1 X.2.2.2.2.1 X.2.2.2.2.2.1), (X.1, X.2.1, X.2.2.1, X.2.2.2.1, X.2.2.2.2.1, X.2.2.2.2.2.1, X.2.2.2.2.2.2.1, X.2.2.2.2.2.2.2.1, X.2.2.2.2.2.2.2.2.1, X.2.2.2.2.2.2.2.2.2.1, X.2.2.2.2.2.2.2.2.2.2)) := rfl
  exact ⟨_, _, eg, ⟨hX.1, hX.2.1, hX.2.2.1, hX.2.2.2.1, hX.2.2.2.2.1, hX.2.2.2.2.2.1, hX.2.2.2.2.2.2.1, hX.2.2.2.2.2.2.2.1, hX.2.2.2.2.2.2.2.2.1, hX.2.2.2.2.2.2.2.2.2⟩, rfl, rfl, rfl, rfl, rfl, rfl⟩
theorem sx_trouble {X : XS} (hX : IX X) : ∃ r X', gX_trouble X = some (r, X') ∧ IX X' ∧ X'.2.2.2.1 = X.2.2.2.1 ∧ X'.2.1 = X.2.1 ∧ X'.1 = X.1 ∧ X'.2.2.2.2.1 = X.2.2.2.2.1 ∧ X'.2.2.2.2.2.1 = X.2.2.2.2.2.1 ∧ X'.2.2.2.2.2.2.1 = X.2.2.2.2.2.2.1 := by
  have eg : gX_trouble X = some ((f_X10_trouble X.1), (X.1, X.2.1, X.2.2.1, X.2.2.2.1, X.2.2.2.2.1, X.2.2.2.2.2.1, X.2.2.2.2.2.2.1, X.2.2.2.2.2.2.2.1, X.2.2.2.2.2.2.2.2.1, X.2.2.2.2.2.2.2.2.2.1, X.2.2.2.2.2.2.2.2.2.2)) := rfl
  exact ⟨_, _, eg, ⟨hX.1, hX.2.1, hX.2.2.1, hX.2.2.2.1, hX.2.2.2.2.1, hX.2.2.2.2.2.1, hX.2.2.2.2.2.2.1, hX.2.2.2.2.2.2.2.1, hX.2.2.2.2.2.2.2.2.1, hX.2.2.2.2.2.2.2.2.2⟩, rfl, rfl, rfl, rfl, rfl, rfl⟩
theorem sm_fault {M : MS} {o : Option TX11_q} (hM : IM M) (ho : IO o) : ∃ r M', gM_fault M o = some (r, M', o) ∧ IM M' ∧ M'.2.1 = M.2.1 ∧ M'.1.2.2 = M.1.2.2 ∧ M'.2.2.1 = M.2.2.1 ∧ M'.2.2.2.2.1 = M.2.2.2.2.1 := by
  have eg : gM_fault M o = some ((f_X12_fault M.1 M.2.1).1, ((f_X12_fault M.1 M.2.1).2, M.2.1, M.2.2.1, M.2.2.2.1, M.2.2.2.2.1, M.2.2.2.2.2.1, M.2.2.2.2.2.2.1, M.2.2.2.2.2.2.2), o) := rfl
  exact ⟨_, _, eg, ⟨hM.1, hM.2⟩, rfl, rfl, rfl, rfl⟩
theorem sm_where {M : MS} {o : Option TX11_q} (hM : IM M) (ho : IO o) : ∃ r M', gM_where M o = some (r, M', o) ∧ IM M' ∧ M'.2.1 = M.2.1 ∧ M'.1.2.2 = M.1.2.2 ∧ M'.2.2.1 = M.2.2.1 ∧ M'.2.2.2.2.1 = M.2.2.2.2.1 := by
  have eg : gM_where M o = some ((f_X12_where M.1).1, ((f_X12_where M.1).2, M.2.1, M.2.2.1, M.2.2.2.1, M.2.2.2.2.1, M.2.2.2.2.2.1, M.2.2.2.2.2.2.1, M.2.2.2.2.2.2.2), o) := rfl
  exact ⟨_, _, eg, ⟨hM.1, hM.2⟩, rfl, rfl, rfl, rfl⟩
theorem sm_answer {k1 : Int32} {k2 : Int32} {M : MS} {o : Option TX11_q} (hM : IM M) (ho : IO o) : ∃ r M', gM_answer k1 k2 M o = some (r, M', o) ∧ IM M' ∧ M'.2.1 = M.2.1 ∧ M'.1.2.2 = -1 ∧ M'.2.2.1 = M.2.2.1 ∧ M'.2.2.2.2.1 = M.2.2.2.2.1 := by
  cases o with
  | none =>
    have eg : gM_answer k1 k2 M none = some ((-1), ((f_X12_answer_nul k1 k2 M.1), M.2.1, M.2.2.1, M.2.2.2.1, M.2.2.2.2.1, M.2.2.2.2.2.1, M.2.2.2.2.2.2.1, M.2.2.2.2.2.2.2), none) := rfl
    exact ⟨_, _, eg, ⟨hM.1, hM.2⟩, rfl, rfl, rfl, rfl⟩
  | some q =>
    have hq : IQ q := ho
    obtain ⟨out, e, hb⟩ := t_f_X12_answer (k1 := k1) (k2 := k2) (m_t := M.1) (m_v := M.2.2.1) (q_q := q) hq.1 hq.2.1 hq.2.2.1 hq.2.2.2.1 hq.2.2.2.2.1 hq.2.2.2.2.2
    have eg : gM_answer k1 k2 M (some q) = some (out.1, (out.2, M.2.1, M.2.2.1, M.2.2.2.1, M.2.2.2.2.1, M.2.2.2.2.2.1, M.2.2.2.2.2.2.1, M.2.2.2.2.2.2.2), (some q)) := by
      rw [gM_answer, e]
      rfl
    exact ⟨_, _, eg, ⟨hM.1, hM.2⟩, rfl, r_m1 hb.2.2, rfl, rfl⟩
theorem sm_asker {k1 : Int32} {k2 : Int32} {M : MS} {o : Option TX11_q} (hM : IM M) (ho : IO o) : ∃ r M', gM_asker k1 k2 M o = some (r, M', o) ∧ IM M' ∧ M'.2.1 = M.2.1 ∧ M'.1.2.2 = -1 ∧ M'.2.2.1 = M.2.2.1 ∧ M'.2.2.2.2.1 = M.2.2.2.2.1 := by
  cases o with
  | none =>
    have eg : gM_asker k1 k2 M none = some ((-1), ((f_X12_asker_nul k1 k2 M.1), M.2.1, M.2.2.1, M.2.2.2.1, M.2.2.2.2.1, M.2.2.2.2.2.1, M.2.2.2.2.2.2.1, M.2.2.2.2.2.2.2), none) := rfl
    exact ⟨_, _, eg, ⟨hM.1, hM.2⟩, rfl, rfl, rfl, rfl⟩
  | some q =>
    have hq : IQ q := ho
    obtain ⟨out, e, hb⟩ := t_f_X12_asker (k1 := k1) (k2 := k2) (m_t := M.1) (m_v := M.2.2.1) (q_q := q) hq.1 hq.2.1 hq.2.2.1 hq.2.2.2.1 hq.2.2.2.2.1 hq.2.2.2.2.2
    have eg : gM_asker k1 k2 M (some q) = some (out.1, (out.2, M.2.1, M.2.2.1, M.2.2.2.1, M.2.2.2.2.1, M.2.2.2.2.2.1, M.2.2.2.2.2.2.1, M.2.2.2.2.2.2.2), (some q)) := by
      rw [gM_asker, e]
      rfl
    exact ⟨_, _, eg, ⟨hM.1, hM.2⟩, rfl, r_m1 hb.2.2, rfl, rfl⟩
theorem sm_close {k1 : Int32} {M : MS} {o : Option TX11_q} (hM : IM M) (ho : IO o) : ∃ r M', gM_close k1 M o = some (r, M', o) ∧ IM M' ∧ M'.2.1 = M.2.1 ∧ M'.1.2.2 = -1 ∧ M'.2.2.1 = M.2.2.1 ∧ M'.2.2.2.2.1 = M.2.2.2.2.1 := by
  cases o with
  | none =>
    have eg : gM_close k1 M none = some ((-1), ((f_X12_close_nul k1 M.1), M.2.1, M.2.2.1, M.2.2.2.1, M.2.2.2.2.1, M.2.2.2.2.2.1, M.2.2.2.2.2.2.1, M.2.2.2.2.2.2.2), none) := rfl
    exact ⟨_, _, eg, ⟨hM.1, hM.2⟩, rfl, rfl, rfl, rfl⟩
  | some q =>
    have hq : IQ q := ho
    have eg : gM_close k1 M (some q) = some ((f_X12_close k1 M.1 q).1, ((f_X12_close k1 M.1 q).2, M.2.1, M.2.2.1, M.2.2.2.1, M.2.2.2.2.1, M.2.2.2.2.2.1, M.2.2.2.2.2.2.1, M.2.2.2.2.2.2.2), (some q)) := rfl
    exact ⟨_, _, eg, ⟨hM.1, hM.2⟩, rfl, wh_close _ _ _, rfl, rfl⟩
theorem sm_wish {k1 : Int32} {k2 : Int32} {k3 : Int32} {k4 : Int32} {M : MS} {o : Option TX11_q} (hM : IM M) (ho : IO o) : ∃ r M', gM_wish k1 k2 k3 k4 M o = some (r, M', o) ∧ IM M' ∧ M'.2.1 = M.2.1 ∧ M'.1.2.2 = -1 ∧ M'.2.2.1 = M.2.2.1 ∧ M'.2.2.2.2.1 = M.2.2.2.2.1 := by
  cases o with
  | none =>
    have eg : gM_wish k1 k2 k3 k4 M none = some ((-1), ((f_X12_wish_nul k1 k2 k3 k4 M.1), M.2.1, M.2.2.1, M.2.2.2.1, M.2.2.2.2.1, M.2.2.2.2.2.1, M.2.2.2.2.2.2.1, M.2.2.2.2.2.2.2), none) := rfl
    exact ⟨_, _, eg, ⟨hM.1, hM.2⟩, rfl, rfl, rfl, rfl⟩
  | some q =>
    have hq : IQ q := ho
    obtain ⟨out, e, hb⟩ := t_f_X12_wish (k1 := k1) (k2 := k2) (k3 := k3) (k4 := k4) (m_t := M.1) (q_q := q) hq.1 hq.2.1 hq.2.2.1 hq.2.2.2.1 hq.2.2.2.2.1 hq.2.2.2.2.2
    have eg : gM_wish k1 k2 k3 k4 M (some q) = some (out.1, (out.2, M.2.1, M.2.2.1, M.2.2.2.1, M.2.2.2.2.1, M.2.2.2.2.2.1, M.2.2.2.2.2.2.1, M.2.2.2.2.2.2.2), (some q)) := by
      rw [gM_wish, e]
      rfl
    exact ⟨_, _, eg, ⟨hM.1, hM.2⟩, rfl, r_m1 hb.2.2.2, rfl, rfl⟩
theorem sm_takes {k1 : Int32} {k2 : Int32} {k3 : Int32} {k4 : Int32} {k5 : Int32} {M : MS} {o : Option TX11_q} (hM : IM M) (ho : IO o) : ∃ r M', gM_takes k1 k2 k3 k4 k5 M o = some (r, M', o) ∧ IM M' ∧ M'.2.1 = M.2.1 ∧ M'.1.2.2 = -1 ∧ M'.2.2.1 = M.2.2.1 ∧ M'.2.2.2.2.1 = M.2.2.2.2.1 := by
  cases o with
  | none =>
    have eg : gM_takes k1 k2 k3 k4 k5 M none = some ((-1), ((f_X12_takes_nul k1 k2 k3 k4 k5 M.1), M.2.1, M.2.2.1, M.2.2.2.1, M.2.2.2.2.1, M.2.2.2.2.2.1, M.2.2.2.2.2.2.1, M.2.2.2.2.2.2.2), none) := rfl
    exact ⟨_, _, eg, ⟨hM.1, hM.2⟩, rfl, rfl, rfl, rfl⟩
  | some q =>
    have hq : IQ q := ho
    obtain ⟨out, e, hb⟩ := t_f_X12_takes (k1 := k1) (k2 := k2) (k3 := k3) (k4 := k4) (k5 := k5) (m_t := M.1) (m_v := M.2.2.1) (q_q := q) hq.1 hq.2.1 hq.2.2.1 hq.2.2.2.1 hq.2.2.2.2.1 hq.2.2.2.2.2
    have eg : gM_takes k1 k2 k3 k4 k5 M (some q) = some (out.1, (out.2, M.2.1, M.2.2.1, M.2.2.2.1, M.2.2.2.2.1, M.2.2.2.2.2.1, M.2.2.2.2.2.2.1, M.2.2.2.2.2.2.2), (some q)) := by
      rw [gM_takes, e]
      rfl
    exact ⟨_, _, eg, ⟨hM.1, hM.2⟩, rfl, r_m1 hb.2.2, rfl, rfl⟩
theorem sm_nothing {k1 : Int32} {k2 : Int32} {k3 : Int32} {k4 : Int32} {M : MS} {o : Option TX11_q} (hM : IM M) (ho : IO o) : ∃ r M', gM_nothing k1 k2 k3 k4 M o = some (r, M', o) ∧ IM M' ∧ M'.2.1 = M.2.1 ∧ M'.1.2.2 = -1 ∧ M'.2.2.1 = M.2.2.1 ∧ M'.2.2.2.2.1 = M.2.2.2.2.1 := by
  cases o with
  | none =>
    have eg : gM_nothing k1 k2 k3 k4 M none = some ((-1), ((f_X12_nothing_nul k1 k2 k3 k4 M.1), M.2.1, M.2.2.1, M.2.2.2.1, M.2.2.2.2.1, M.2.2.2.2.2.1, M.2.2.2.2.2.2.1, M.2.2.2.2.2.2.2), none) := rfl
    exact ⟨_, _, eg, ⟨hM.1, hM.2⟩, rfl, rfl, rfl, rfl⟩
  | some q =>
    have hq : IQ q := ho
    obtain ⟨out, e, hb⟩ := t_f_X12_nothing (k1 := k1) (k2 := k2) (k3 := k3) (k4 := k4) (m_t := M.1) (m_v := M.2.2.1) (q_q := q) hq.1 hq.2.1 hq.2.2.1 hq.2.2.2.1 hq.2.2.2.2.1 hq.2.2.2.2.2
    have eg : gM_nothing k1 k2 k3 k4 M (some q) = some (out.1, (out.2, M.2.1, M.2.2.1, M.2.2.2.1, M.2.2.2.2.1, M.2.2.2.2.2.1, M.2.2.2.2.2.2.1, M.2.2.2.2.2.2.2), (some q)) := by
      rw [gM_nothing, e]
      rfl
    exact ⟨_, _, eg, ⟨hM.1, hM.2⟩, rfl, r_m1 hb.2.2, rfl, rfl⟩
theorem sm_mean {k1 : Int32} {k2 : Int32} {k3 : Int32} {k4 : Int32} {M : MS} {o : Option TX11_q} (hM : IM M) (ho : IO o) : ∃ r M', gM_mean k1 k2 k3 k4 M o = some (r, M', o) ∧ IM M' ∧ M'.2.1 = M.2.1 ∧ M'.1.2.2 = -1 ∧ M'.2.2.1 = M.2.2.1 ∧ M'.2.2.2.2.1 = M.2.2.2.2.1 := by
  cases o with
  | none =>
    have eg : gM_mean k1 k2 k3 k4 M none = some ((-1), ((f_X12_mean_nul k1 k2 k3 k4 M.1), M.2.1, M.2.2.1, M.2.2.2.1, M.2.2.2.2.1, M.2.2.2.2.2.1, M.2.2.2.2.2.2.1, M.2.2.2.2.2.2.2), none) := rfl
    exact ⟨_, _, eg, ⟨hM.1, hM.2⟩, rfl, rfl, rfl, rfl⟩
  | some q =>
    have hq : IQ q := ho
    obtain ⟨out, e, hb⟩ := t_f_X12_mean (k1 := k1) (k2 := k2) (k3 := k3) (k4 := k4) (m_t := M.1) (m_v := M.2.2.1) (q_q := q) hq.1 hq.2.1 hq.2.2.1 hq.2.2.2.1 hq.2.2.2.2.1 hq.2.2.2.2.2
    have eg : gM_mean k1 k2 k3 k4 M (some q) = some (out.1, (out.2, M.2.1, M.2.2.1, M.2.2.2.1, M.2.2.2.2.1, M.2.2.2.2.2.1, M.2.2.2.2.2.2.1, M.2.2.2.2.2.2.2), (some q)) := by
      rw [gM_mean, e]
      rfl
    exact ⟨_, _, eg, ⟨hM.1, hM.2⟩, rfl, r_m1 hb.2.2, rfl, rfl⟩
theorem sm_likeliest {k1 : Int32} {k2 : Int32} {k3 : Int32} {M : MS} {o : Option TX11_q} (hM : IM M) (ho : IO o) : ∃ r M', gM_likeliest k1 k2 k3 M o = some (r, M', o) ∧ IM M' ∧ M'.2.1 = M.2.1 ∧ M'.1.2.2 = -1 ∧ M'.2.2.1 = M.2.2.1 ∧ M'.2.2.2.2.1 = M.2.2.2.2.1 := by
  cases o with
  | none =>
    have eg : gM_likeliest k1 k2 k3 M none = some ((-1), ((f_X12_likeliest_nul k1 k2 k3 M.1), M.2.1, M.2.2.1, M.2.2.2.1, M.2.2.2.2.1, M.2.2.2.2.2.1, M.2.2.2.2.2.2.1, M.2.2.2.2.2.2.2), none) := rfl
    exact ⟨_, _, eg, ⟨hM.1, hM.2⟩, rfl, rfl, rfl, rfl⟩
  | some q =>
    have hq : IQ q := ho
    obtain ⟨out, e, hb⟩ := t_f_X12_likeliest (k1 := k1) (k2 := k2) (k3 := k3) (m_t := M.1) (m_v := M.2.2.1) (q_q := q) hq.1 hq.2.1 hq.2.2.1 hq.2.2.2.1 hq.2.2.2.2.1 hq.2.2.2.2.2
    have eg : gM_likeliest k1 k2 k3 M (some q) = some (out.1, (out.2, M.2.1, M.2.2.1, M.2.2.2.1, M.2.2.2.2.1, M.2.2.2.2.2.1, M.2.2.2.2.2.2.1, M.2.2.2.2.2.2.2), (some q)) := by
      rw [gM_likeliest, e]
      rfl
    exact ⟨_, _, eg, ⟨hM.1, hM.2⟩, rfl, r_m1 hb.2.2.2, rfl, rfl⟩
theorem sm_surest {k1 : Int32} {M : MS} {o : Option TX11_q} (hM : IM M) (ho : IO o) : ∃ r M', gM_surest k1 M o = some (r, M', o) ∧ IM M' ∧ M'.2.1 = M.2.1 ∧ M'.1.2.2 = -1 ∧ M'.2.2.1 = M.2.2.1 ∧ M'.2.2.2.2.1 = M.2.2.2.2.1 := by
  cases o with
  | none =>
    have eg : gM_surest k1 M none = some ((-1), ((f_X12_surest_nul k1 M.1), M.2.1, M.2.2.1, M.2.2.2.1, M.2.2.2.2.1, M.2.2.2.2.2.1, M.2.2.2.2.2.2.1, M.2.2.2.2.2.2.2), none) := rfl
    exact ⟨_, _, eg, ⟨hM.1, hM.2⟩, rfl, rfl, rfl, rfl⟩
  | some q =>
    have hq : IQ q := ho
    obtain ⟨out, e, hb⟩ := t_f_X12_surest (k1 := k1) (m_t := M.1) (m_v := M.2.2.1) (q_q := q) hq.1 hq.2.1 hq.2.2.1 hq.2.2.2.1 hq.2.2.2.2.1 hq.2.2.2.2.2
    have eg : gM_surest k1 M (some q) = some (out.1, (out.2, M.2.1, M.2.2.1, M.2.2.2.1, M.2.2.2.2.1, M.2.2.2.2.2.1, M.2.2.2.2.2.2.1, M.2.2.2.2.2.2.2), (some q)) := by
      rw [gM_surest, e]
      rfl
    exact ⟨_, _, eg, ⟨hM.1, hM.2⟩, rfl, r_m1 hb.2.2, rfl, rfl⟩
theorem sm_surestOdds {k1 : Int32} {k2 : Int32} {M : MS} {o : Option TX11_q} (hM : IM M) (ho : IO o) : ∃ r M', gM_surestOdds k1 k2 M o = some (r, M', o) ∧ IM M' ∧ M'.2.1 = M.2.1 ∧ M'.1.2.2 = -1 ∧ M'.2.2.1 = M.2.2.1 ∧ M'.2.2.2.2.1 = M.2.2.2.2.1 := by
  cases o with
  | none =>
    have eg : gM_surestOdds k1 k2 M none = some ((-1), ((f_X12_surestOdds_nul k1 k2 M.1), M.2.1, M.2.2.1, M.2.2.2.1, M.2.2.2.2.1, M.2.2.2.2.2.1, M.2.2.2.2.2.2.1, M.2.2.2.2.2.2.2), none) := rfl
    exact ⟨_, _, eg, ⟨hM.1, hM.2⟩, rfl, rfl, rfl, rfl⟩
  | some q =>
    have hq : IQ q := ho
    obtain ⟨out, e, hb⟩ := t_f_X12_surestOdds (k1 := k1) (k2 := k2) (m_t := M.1) (m_v := M.2.2.1) (q_q := q) hq.1 hq.2.1 hq.2.2.1 hq.2.2.2.1 hq.2.2.2.2.1 hq.2.2.2.2.2
    have eg : gM_surestOdds k1 k2 M (some q) = some (out.1, (out.2, M.2.1, M.2.2.1, M.2.2.2.1, M.2.2.2.2.1, M.2.2.2.2.2.1, M.2.2.2.2.2.2.1, M.2.2.2.2.2.2.2), (some q)) := by
      rw [gM_surestOdds, e]
      rfl
    exact ⟨_, _, eg, ⟨hM.1, hM.2⟩, rfl, r_m1 hb.2.2, rfl, rfl⟩
theorem sm_best {M : MS} {o : Option TX11_q} (hM : IM M) (ho : IO o) : ∃ r M', gM_best M o = some (r, M', o) ∧ IM M' ∧ M'.2.1 = M.2.1 ∧ M'.1.2.2 = -1 ∧ M'.2.2.1 = M.2.2.1 ∧ M'.2.2.2.2.1 = M.2.2.2.2.1 := by
  cases o with
  | none =>
    have eg : gM_best M none = some ((-1), ((f_X12_best_nul M.1), M.2.1, M.2.2.1, M.2.2.2.1, M.2.2.2.2.1, M.2.2.2.2.2.1, M.2.2.2.2.2.2.1, M.2.2.2.2.2.2.2), none) := rfl
    exact ⟨_, _, eg, ⟨hM.1, hM.2⟩, rfl, rfl, rfl, rfl⟩
  | some q =>
    have hq : IQ q := ho
    obtain ⟨out, e, hb⟩ := t_f_X12_best (m_t := M.1) (m_v := M.2.2.1) (q_q := q) hq.1 hq.2.1 hq.2.2.1 hq.2.2.2.1 hq.2.2.2.2.1 hq.2.2.2.2.2
    have eg : gM_best M (some q) = some (out.1, (out.2, M.2.1, M.2.2.1, M.2.2.2.1, M.2.2.2.2.1, M.2.2.2.2.2.1, M.2.2.2.2.2.2.1, M.2.2.2.2.2.2.2), (some q)) := by
      rw [gM_best, e]
      rfl
    exact ⟨_, _, eg, ⟨hM.1, hM.2⟩, rfl, r_m1 hb.2.2, rfl, rfl⟩
theorem sm_bestBait {M : MS} {o : Option TX11_q} (hM : IM M) (ho : IO o) : ∃ r M', gM_bestBait M o = some (r, M', o) ∧ IM M' ∧ M'.2.1 = M.2.1 ∧ M'.1.2.2 = -1 ∧ M'.2.2.1 = M.2.2.1 ∧ M'.2.2.2.2.1 = M.2.2.2.2.1 := by
  cases o with
  | none =>
    have eg : gM_bestBait M none = some ((-1), ((f_X12_bestBait_nul M.1), M.2.1, M.2.2.1, M.2.2.2.1, M.2.2.2.2.1, M.2.2.2.2.2.1, M.2.2.2.2.2.2.1, M.2.2.2.2.2.2.2), none) := rfl
    exact ⟨_, _, eg, ⟨hM.1, hM.2⟩, rfl, rfl, rfl, rfl⟩
  | some q =>
    have hq : IQ q := ho
    obtain ⟨out, e, hb⟩ := t_f_X12_bestBait (m_t := M.1) (m_v := M.2.2.1) (q_q := q) hq.1 hq.2.1 hq.2.2.1 hq.2.2.2.1 hq.2.2.2.2.1 hq.2.2.2.2.2
    have eg : gM_bestBait M (some q) = some (out.1, (out.2, M.2.1, M.2.2.1, M.2.2.2.1, M.2.2.2.2.1, M.2.2.2.2.2.1, M.2.2.2.2.2.2.1, M.2.2.2.2.2.2.2), (some q)) := by
      rw [gM_bestBait, e]
      rfl
    exact ⟨_, _, eg, ⟨hM.1, hM.2⟩, rfl, r_m1 hb.2.2.2, rfl, rfl⟩
theorem sm_hungerFor {k1 : Int32} {k2 : Int32} {k3 : Int32} {k4 : Int32} {M : MS} {o : Option TX11_q} (hM : IM M) (ho : IO o) : ∃ r M', gM_hungerFor k1 k2 k3 k4 M o = some (r, M', o) ∧ IM M' ∧ M'.2.1 = M.2.1 ∧ M'.1.2.2 = -1 ∧ M'.2.2.1 = M.2.2.1 ∧ M'.2.2.2.2.1 = M.2.2.2.2.1 := by
  cases o with
  | none =>
    have eg : gM_hungerFor k1 k2 k3 k4 M none = some ((-1), ((f_X12_hungerFor_nul k1 k2 k3 k4 M.1), M.2.1, M.2.2.1, M.2.2.2.1, M.2.2.2.2.1, M.2.2.2.2.2.1, M.2.2.2.2.2.2.1, M.2.2.2.2.2.2.2), none) := rfl
    exact ⟨_, _, eg, ⟨hM.1, hM.2⟩, rfl, rfl, rfl, rfl⟩
  | some q =>
    have hq : IQ q := ho
    obtain ⟨out, e, hb⟩ := t_f_X12_hungerFor (k1 := k1) (k2 := k2) (k3 := k3) (k4 := k4) (m_t := M.1) (q_q := q) hq.1 hq.2.1 hq.2.2.1 hq.2.2.2.1 hq.2.2.2.2.1 hq.2.2.2.2.2
    have eg : gM_hungerFor k1 k2 k3 k4 M (some q) = some (out.1, (out.2, M.2.1, M.2.2.1, M.2.2.2.1, M.2.2.2.2.1, M.2.2.2.2.2.1, M.2.2.2.2.2.2.1, M.2.2.2.2.2.2.2), (some q)) := by
      rw [gM_hungerFor, e]
      rfl
    exact ⟨_, _, eg, ⟨hM.1, hM.2⟩, rfl, r_m1 hb.2.2.2, rfl, rfl⟩
theorem sm_freeSpots {k1 : Int32} {M : MS} {o : Option TX11_q} (hM : IM M) (ho : IO o) : ∃ r M', gM_freeSpots k1 M o = some (r, M', o) ∧ IM M' ∧ M'.2.1 = M.2.1 ∧ M'.1.2.2 = -1 ∧ M'.2.2.1 = M.2.2.1 ∧ M'.2.2.2.2.1 = M.2.2.2.2.1 := by
  cases o with
  | none =>
    have eg : gM_freeSpots k1 M none = some ((-1), ((f_X12_freeSpots_nul k1 M.1), M.2.1, M.2.2.1, M.2.2.2.1, M.2.2.2.2.1, M.2.2.2.2.2.1, M.2.2.2.2.2.2.1, M.2.2.2.2.2.2.2), none) := rfl
    exact ⟨_, _, eg, ⟨hM.1, hM.2⟩, rfl, rfl, rfl, rfl⟩
  | some q =>
    have hq : IQ q := ho
    obtain ⟨out, e, hb⟩ := t_f_X12_freeSpots (k1 := k1) (m_t := M.1) (m_v := M.2.2.1) (q_q := q) hq.1 hq.2.1 hq.2.2.1 hq.2.2.2.1 hq.2.2.2.2.1 hq.2.2.2.2.2
    have eg : gM_freeSpots k1 M (some q) = some (out.1, (out.2, M.2.1, M.2.2.1, M.2.2.2.1, M.2.2.2.2.1, M.2.2.2.2.2.1, M.2.2.2.2.2.2.1, M.2.2.2.2.2.2.2), (some q)) := by
      rw [gM_freeSpots, e]
      rfl
    exact ⟨_, _, eg, ⟨hM.1, hM.2⟩, rfl, r_m1 hb.2.2.2, rfl, rfl⟩
theorem sm_tangles {k1 : Int32} {k2 : Int32} {k3 : Int32} {k4 : Int32} {M : MS} {o : Option TX11_q} (hM : IM M) (ho : IO o) : ∃ r M', gM_tangles k1 k2 k3 k4 M o = some (r, M', o) ∧ IM M' ∧ M'.2.1 = M.2.1 ∧ M'.1.2.2 = -1 ∧ M'.2.2.1 = M.2.2.1 ∧ M'.2.2.2.2.1 = M.2.2.2.2.1 := by
  cases o with
  | none =>
    have eg : gM_tangles k1 k2 k3 k4 M none = some ((-1), ((f_X12_tangles_nul k1 k2 k3 k4 M.1), M.2.1, M.2.2.1, M.2.2.2.1, M.2.2.2.2.1, M.2.2.2.2.2.1, M.2.2.2.2.2.2.1, M.2.2.2.2.2.2.2), none) := rfl
    exact ⟨_, _, eg, ⟨hM.1, hM.2⟩, rfl, rfl, rfl, rfl⟩
  | some q =>
    have hq : IQ q := ho
    obtain ⟨out, e, hb⟩ := t_f_X12_tangles (k1 := k1) (k2 := k2) (k3 := k3) (k4 := k4) (m_t := M.1) (q_q := q) hq.1 hq.2.1 hq.2.2.1 hq.2.2.2.1 hq.2.2.2.2.1 hq.2.2.2.2.2
    have eg : gM_tangles k1 k2 k3 k4 M (some q) = some (out.1, (out.2, M.2.1, M.2.2.1, M.2.2.2.1, M.2.2.2.2.1, M.2.2.2.2.2.1, M.2.2.2.2.2.2.1, M.2.2.2.2.2.2.2), (some q)) := by
      rw [gM_tangles, e]
      rfl
    exact ⟨_, _, eg, ⟨hM.1, hM.2⟩, rfl, r_m1 hb.2.2.2, rfl, rfl⟩
theorem sm_seatings {M : MS} {o : Option TX11_q} (hM : IM M) (ho : IO o) : ∃ r M', gM_seatings M o = some (r, M', o) ∧ IM M' ∧ M'.2.1 = M.2.1 ∧ M'.1.2.2 = -1 ∧ M'.2.2.1 = M.2.2.1 ∧ M'.2.2.2.2.1 = M.2.2.2.2.1 := by
  cases o with
  | none =>
    have eg : gM_seatings M none = some ((-1), ((f_X12_seatings_nul M.1), M.2.1, M.2.2.1, M.2.2.2.1, M.2.2.2.2.1, M.2.2.2.2.2.1, M.2.2.2.2.2.2.1, M.2.2.2.2.2.2.2), none) := rfl
    exact ⟨_, _, eg, ⟨hM.1, hM.2⟩, rfl, rfl, rfl, rfl⟩
  | some q =>
    have hq : IQ q := ho
    obtain ⟨out, e, hb⟩ := t_f_X12_seatings (m_t := M.1) (m_z := M.2.2.2.2.2.1) (q_q := q) hq.1 hq.2.1 hq.2.2.1 hq.2.2.2.1 hq.2.2.2.2.1 hq.2.2.2.2.2
    have eg : gM_seatings M (some q) = some (out.1, (out.2.1, M.2.1, M.2.2.1, M.2.2.2.1, M.2.2.2.2.1, out.2.2, M.2.2.2.2.2.2.1, M.2.2.2.2.2.2.2), (some q)) := by
      rw [gM_seatings, e]
      rfl
    exact ⟨_, _, eg, ⟨hM.1, hM.2⟩, rfl, r_m1 hb.2.2, rfl, rfl⟩
theorem sm_seat {k1 : Int32} {M : MS} {o : Option TX11_q} (hM : IM M) (ho : IO o) : ∃ r M', gM_seat k1 M o = some (r, M', o) ∧ IM M' ∧ M'.2.1 = M.2.1 ∧ M'.1.2.2 = -1 ∧ M'.2.2.1 = M.2.2.1 ∧ M'.2.2.2.2.1 = M.2.2.2.2.1 := by
  cases o with
  | none =>
    have eg : gM_seat k1 M none = some ((-1), ((f_X12_seat_nul k1 M.1), M.2.1, M.2.2.1, M.2.2.2.1, M.2.2.2.2.1, M.2.2.2.2.2.1, M.2.2.2.2.2.2.1, M.2.2.2.2.2.2.2), none) := rfl
    exact ⟨_, _, eg, ⟨hM.1, hM.2⟩, rfl, rfl, rfl, rfl⟩
  | some q =>
    have hq : IQ q := ho
    obtain ⟨out, e, hb⟩ := t_f_X12_seat (k1 := k1) (m_t := M.1) (m_z := M.2.2.2.2.2.1) (q_q := q) hq.1 hq.2.1 hq.2.2.1 hq.2.2.2.1 hq.2.2.2.2.1 hq.2.2.2.2.2
    have eg : gM_seat k1 M (some q) = some (out.1, (out.2.1, M.2.1, M.2.2.1, M.2.2.2.1, M.2.2.2.2.1, out.2.2, M.2.2.2.2.2.2.1, M.2.2.2.2.2.2.2), (some q)) := by
      rw [gM_seat, e]
      rfl
    exact ⟨_, _, eg, ⟨hM.1, hM.2⟩, rfl, r_m1 hb.2.2, rfl, rfl⟩
theorem sm_mostSeated {M : MS} {o : Option TX11_q} (hM : IM M) (ho : IO o) : ∃ r M', gM_mostSeated M o = some (r, M', o) ∧ IM M' ∧ M'.2.1 = M.2.1 ∧ M'.1.2.2 = -1 ∧ M'.2.2.1 = M.2.2.1 ∧ M'.2.2.2.2.1 = M.2.2.2.2.1 := by
  cases o with
  | none =>
    have eg : gM_mostSeated M none = some ((-1), ((f_X12_mostSeated_nul M.1), M.2.1, M.2.2.1, M.2.2.2.1, M.2.2.2.2.1, M.2.2.2.2.2.1, M.2.2.2.2.2.2.1, M.2.2.2.2.2.2.2), none) := rfl
    exact ⟨_, _, eg, ⟨hM.1, hM.2⟩, rfl, rfl, rfl, rfl⟩
  | some q =>
    have hq : IQ q := ho
    obtain ⟨out, e, hb⟩ := t_f_X12_mostSeated (m_t := M.1) (m_z := M.2.2.2.2.2.1) (q_q := q) hq.1 hq.2.1 hq.2.2.1 hq.2.2.2.1 hq.2.2.2.2.1 hq.2.2.2.2.2
    have eg : gM_mostSeated M (some q) = some (out.1, (out.2.1, M.2.1, M.2.2.1, M.2.2.2.1, M.2.2.2.2.1, out.2.2, M.2.2.2.2.2.2.1, M.2.2.2.2.2.2.2), (some q)) := by
      rw [gM_mostSeated, e]
      rfl
    exact ⟨_, _, eg, ⟨hM.1, hM.2⟩, rfl, r_m1 hb.2.2.2, rfl, rfl⟩
theorem sm_darks {M : MS} {o : Option TX11_q} (hM : IM M) (ho : IO o) : ∃ r M', gM_darks M o = some (r, M', o) ∧ IM M' ∧ M'.2.1 = M.2.1 ∧ M'.1.2.2 = -1 ∧ M'.2.2.1 = M.2.2.1 ∧ M'.2.2.2.2.1 = M.2.2.2.2.1 := by
  cases o with
  | none =>
    have eg : gM_darks M none = some ((-1), ((f_X12_darks_nul M.1), M.2.1, M.2.2.1, M.2.2.2.1, M.2.2.2.2.1, M.2.2.2.2.2.1, M.2.2.2.2.2.2.1, M.2.2.2.2.2.2.2), none) := rfl
    exact ⟨_, _, eg, ⟨hM.1, hM.2⟩, rfl, rfl, rfl, rfl⟩
  | some q =>
    have hq : IQ q := ho
    obtain ⟨out, e, hb⟩ := t_f_X12_darks (m_t := M.1) (q_q := q) hq.1 hq.2.1 hq.2.2.1 hq.2.2.2.1 hq.2.2.2.2.1 hq.2.2.2.2.2
    have eg : gM_darks M (some q) = some (out.1, (out.2, M.2.1, M.2.2.1, M.2.2.2.1, M.2.2.2.2.1, M.2.2.2.2.2.1, M.2.2.2.2.2.2.1, M.2.2.2.2.2.2.2), (some q)) := by
      rw [gM_darks, e]
      rfl
    exact ⟨_, _, eg, ⟨hM.1, hM.2⟩, rfl, r_m1 hb.2.2, rfl, rfl⟩
theorem sm_darkAt {k1 : Int32} {M : MS} {o : Option TX11_q} (hM : IM M) (ho : IO o) : ∃ r M', gM_darkAt k1 M o = some (r, M', o) ∧ IM M' ∧ M'.2.1 = M.2.1 ∧ M'.1.2.2 = -1 ∧ M'.2.2.1 = M.2.2.1 ∧ M'.2.2.2.2.1 = M.2.2.2.2.1 := by
  cases o with
  | none =>
    have eg : gM_darkAt k1 M none = some ((-1), ((f_X12_darkAt_nul k1 M.1), M.2.1, M.2.2.1, M.2.2.2.1, M.2.2.2.2.1, M.2.2.2.2.2.1, M.2.2.2.2.2.2.1, M.2.2.2.2.2.2.2), none) := rfl
    exact ⟨_, _, eg, ⟨hM.1, hM.2⟩, rfl, rfl, rfl, rfl⟩
  | some q =>
    have hq : IQ q := ho
    obtain ⟨out, e, hb⟩ := t_f_X12_darkAt (k1 := k1) (m_t := M.1) (q_q := q) hq.1 hq.2.1 hq.2.2.1 hq.2.2.2.1 hq.2.2.2.2.1 hq.2.2.2.2.2
    have eg : gM_darkAt k1 M (some q) = some (out.1, (out.2, M.2.1, M.2.2.1, M.2.2.2.1, M.2.2.2.2.1, M.2.2.2.2.2.1, M.2.2.2.2.2.2.1, M.2.2.2.2.2.2.2), (some q)) := by
      rw [gM_darkAt, e]
      rfl
    exact ⟨_, _, eg, ⟨hM.1, hM.2⟩, rfl, r_m1 hb.2.2, rfl, rfl⟩
theorem sm_darkSpots {M : MS} {o : Option TX11_q} (hM : IM M) (ho : IO o) : ∃ r M', gM_darkSpots M o = some (r, M', o) ∧ IM M' ∧ M'.2.1 = M.2.1 ∧ M'.1.2.2 = -1 ∧ M'.2.2.1 = M.2.2.1 ∧ M'.2.2.2.2.1 = M.2.2.2.2.1 := by
  cases o with
  | none =>
    have eg : gM_darkSpots M none = some ((-1), ((f_X12_darkSpots_nul M.1), M.2.1, M.2.2.1, M.2.2.2.1, M.2.2.2.2.1, M.2.2.2.2.2.1, M.2.2.2.2.2.2.1, M.2.2.2.2.2.2.2), none) := rfl
    exact ⟨_, _, eg, ⟨hM.1, hM.2⟩, rfl, rfl, rfl, rfl⟩
  | some q =>
    have hq : IQ q := ho
    obtain ⟨out, e, hb⟩ := t_f_X12_darkSpots (m_t := M.1) (q_q := q) hq.1 hq.2.1 hq.2.2.1 hq.2.2.2.1 hq.2.2.2.2.1 hq.2.2.2.2.2
    have eg : gM_darkSpots M (some q) = some (out.1, (out.2, M.2.1, M.2.2.1, M.2.2.2.1, M.2.2.2.2.1, M.2.2.2.2.2.1, M.2.2.2.2.2.2.1, M.2.2.2.2.2.2.2), (some q)) := by
      rw [gM_darkSpots, e]
      rfl
    exact ⟨_, _, eg, ⟨hM.1, hM.2⟩, rfl, r_m1 hb.2.2, rfl, rfl⟩
theorem sm_ask {M : MS} {o : Option TX11_q} (hM : IM M) (ho : IO o) : ∃ r M', gM_ask M o = some (r, M', o) ∧ IM M' ∧ M'.2.1 = M.2.1 ∧ M'.1.2.2 = -1 ∧ M'.2.2.1 = M.2.2.1 ∧ M'.2.2.2.2.1 = M.2.2.2.2.1 := by
  cases o with
  | none =>
    have eg : gM_ask M none = some ((-1), ((f_X12_ask_nul M.1), M.2.1, M.2.2.1, M.2.2.2.1, M.2.2.2.2.1, M.2.2.2.2.2.1, M.2.2.2.2.2.2.1, M.2.2.2.2.2.2.2), none) := rfl
    exact ⟨_, _, eg, ⟨hM.1, hM.2⟩, rfl, rfl, rfl, rfl⟩
  | some q =>
    have hq : IQ q := ho
    obtain ⟨out, e, hb⟩ := t_f_X12_ask (m_t := M.1) (m_k := M.2.2.2.2.2.2.1) (q_q := q) hq.1 hq.2.1 hq.2.2.1 hq.2.2.2.1 hq.2.2.2.2.1 hq.2.2.2.2.2
    have eg : gM_ask M (some q) = some (out.1, (out.2.1, M.2.1, M.2.2.1, M.2.2.2.1, M.2.2.2.2.1, M.2.2.2.2.2.1, out.2.2, M.2.2.2.2.2.2.2), (some q)) := by
      rw [gM_ask, e]
      rfl
    exact ⟨_, _, eg, ⟨hM.1, hM.2⟩, rfl, r_m1 hb.2.2, rfl, rfl⟩
theorem sm_askLeaves {M : MS} {o : Option TX11_q} (hM : IM M) (ho : IO o) : ∃ r M', gM_askLeaves M o = some (r, M', o) ∧ IM M' ∧ M'.2.1 = M.2.1 ∧ M'.1.2.2 = -1 ∧ M'.2.2.1 = M.2.2.1 ∧ M'.2.2.2.2.1 = M.2.2.2.2.1 := by
  cases o with
  | none =>
    have eg : gM_askLeaves M none = some ((-1), ((f_X12_askLeaves_nul M.1), M.2.1, M.2.2.1, M.2.2.2.1, M.2.2.2.2.1, M.2.2.2.2.2.1, M.2.2.2.2.2.2.1, M.2.2.2.2.2.2.2), none) := rfl
    exact ⟨_, _, eg, ⟨hM.1, hM.2⟩, rfl, rfl, rfl, rfl⟩
  | some q =>
    have hq : IQ q := ho
    obtain ⟨out, e, hb⟩ := t_f_X12_askLeaves (m_t := M.1) (m_k := M.2.2.2.2.2.2.1) (q_q := q) hq.1 hq.2.1 hq.2.2.1 hq.2.2.2.1 hq.2.2.2.2.1 hq.2.2.2.2.2
    have eg : gM_askLeaves M (some q) = some (out.1, (out.2.1, M.2.1, M.2.2.1, M.2.2.2.1, M.2.2.2.2.1, M.2.2.2.2.2.1, out.2.2, M.2.2.2.2.2.2.2), (some q)) := by
      rw [gM_askLeaves, e]
      rfl
    exact ⟨_, _, eg, ⟨hM.1, hM.2⟩, rfl, r_m1 hb.2.2, rfl, rfl⟩
theorem sm_judge {k1 : Int32} {M : MS} {o : Option TX11_q} (hM : IM M) (ho : IO o) : ∃ r M', gM_judge k1 M o = some (r, M', o) ∧ IM M' ∧ M'.2.1 = M.2.1 ∧ M'.1.2.2 = -1 ∧ M'.2.2.1 = M.2.2.1 ∧ M'.2.2.2.2.1 = M.2.2.2.2.1 := by
  cases o with
  | none =>
    have eg : gM_judge k1 M none = some ((-1), ((f_X12_judge_nul k1 M.1), M.2.1, M.2.2.1, M.2.2.2.1, M.2.2.2.2.1, M.2.2.2.2.2.1, M.2.2.2.2.2.2.1, M.2.2.2.2.2.2.2), none) := rfl
    exact ⟨_, _, eg, ⟨hM.1, hM.2⟩, rfl, rfl, rfl, rfl⟩
  | some q =>
    have hq : IQ q := ho
    obtain ⟨out, e, hb⟩ := t_f_X12_judge (k1 := k1) (m_t := M.1) (q_q := q) hq.1 hq.2.1 hq.2.2.1 hq.2.2.2.1 hq.2.2.2.2.1 hq.2.2.2.2.2
    have eg : gM_judge k1 M (some q) = some (out.1, (out.2, M.2.1, M.2.2.1, M.2.2.2.1, M.2.2.2.2.1, M.2.2.2.2.2.1, M.2.2.2.2.2.2.1, M.2.2.2.2.2.2.2), (some q)) := by
      rw [gM_judge, e]
      rfl
    exact ⟨_, _, eg, ⟨hM.1, hM.2⟩, rfl, r_m1 hb.2.2.2, rfl, rfl⟩
theorem sm_worth {k1 : Int32} {k2 : Int32} {k3 : Int32} {M : MS} {o : Option TX11_q} (hM : IM M) (ho : IO o) : ∃ r M', gM_worth k1 k2 k3 M o = some (r, M', o) ∧ IM M' ∧ M'.2.1 = M.2.1 ∧ M'.1.2.2 = -1 ∧ M'.2.2.1 = M.2.2.1 ∧ M'.2.2.2.2.1 = M.2.2.2.2.1 := by
  cases o with
  | none =>
    have eg : gM_worth k1 k2 k3 M none = some ((-1), ((f_X12_worth_nul k1 k2 k3 M.1), M.2.1, M.2.2.1, M.2.2.2.1, M.2.2.2.2.1, M.2.2.2.2.2.1, M.2.2.2.2.2.2.1, M.2.2.2.2.2.2.2), none) := rfl
    exact ⟨_, _, eg, ⟨hM.1, hM.2⟩, rfl, rfl, rfl, rfl⟩
  | some q =>
    have hq : IQ q := ho
    obtain ⟨out, e, hb⟩ := t_f_X12_worth (k1 := k1) (k2 := k2) (k3 := k3) (m_t := M.1) (q_q := q) hq.1 hq.2.1 hq.2.2.1 hq.2.2.2.1 hq.2.2.2.2.1 hq.2.2.2.2.2
    have eg : gM_worth k1 k2 k3 M (some q) = some (out.1, (out.2, M.2.1, M.2.2.1, M.2.2.2.1, M.2.2.2.2.1, M.2.2.2.2.2.1, M.2.2.2.2.2.2.1, M.2.2.2.2.2.2.2), (some q)) := by
      rw [gM_worth, e]
      rfl
    exact ⟨_, _, eg, ⟨hM.1, hM.2⟩, rfl, r_m1 hb.2.2, rfl, rfl⟩
theorem sm_load {k1 : Int32} {M : MS} {o : Option TX11_q} (hM : IM M) (ho : IO o) : ∃ r M', gM_load k1 M o = some (r, M', o) ∧ IM M' ∧ M'.2.1 = M.2.1 ∧ M'.1.2.2 = -1 ∧ M'.2.2.1 = M.2.2.1 ∧ M'.2.2.2.2.1 = M.2.2.2.2.1 := by
  cases o with
  | none =>
    have eg : gM_load k1 M none = some ((-1), ((f_X12_load_nul k1 M.1), M.2.1, M.2.2.1, M.2.2.2.1, M.2.2.2.2.1, M.2.2.2.2.2.1, M.2.2.2.2.2.2.1, M.2.2.2.2.2.2.2), none) := rfl
    exact ⟨_, _, eg, ⟨hM.1, hM.2⟩, rfl, rfl, rfl, rfl⟩
  | some q =>
    have hq : IQ q := ho
    obtain ⟨out, e, hb⟩ := t_f_X12_load (k1 := k1) (m_t := M.1) (m_v := M.2.2.1) (m_k := M.2.2.2.2.2.2.1) (q_q := q) hq.1 hq.2.1 hq.2.2.1 hq.2.2.2.1 hq.2.2.2.2.1 hq.2.2.2.2.2
    have eg : gM_load k1 M (some q) = some (out.1, (out.2.1, M.2.1, M.2.2.1, M.2.2.2.1, M.2.2.2.2.1, M.2.2.2.2.2.1, out.2.2, M.2.2.2.2.2.2.2), (some q)) := by
      rw [gM_load, e]
      rfl
    exact ⟨_, _, eg, ⟨hM.1, hM.2⟩, rfl, r_m1 hb.2.2.2, rfl, rfl⟩
theorem sm_loadWorth {k1 : Int32} {M : MS} {o : Option TX11_q} (hM : IM M) (ho : IO o) : ∃ r M', gM_loadWorth k1 M o = some (r, M', o) ∧ IM M' ∧ M'.2.1 = M.2.1 ∧ M'.1.2.2 = -1 ∧ M'.2.2.1 = M.2.2.1 ∧ M'.2.2.2.2.1 = M.2.2.2.2.1 := by
  cases o with
  | none =>
    have eg : gM_loadWorth k1 M none = some ((-1), ((f_X12_loadWorth_nul k1 M.1), M.2.1, M.2.2.1, M.2.2.2.1, M.2.2.2.2.1, M.2.2.2.2.2.1, M.2.2.2.2.2.2.1, M.2.2.2.2.2.2.2), none) := rfl
    exact ⟨_, _, eg, ⟨hM.1, hM.2⟩, rfl, rfl, rfl, rfl⟩
  | some q =>
    have hq : IQ q := ho
    obtain ⟨out, e, hb⟩ := t_f_X12_loadWorth (k1 := k1) (m_t := M.1) (m_v := M.2.2.1) (m_k := M.2.2.2.2.2.2.1) (q_q := q) hq.1 hq.2.1 hq.2.2.1 hq.2.2.2.1 hq.2.2.2.2.1 hq.2.2.2.2.2
    have eg : gM_loadWorth k1 M (some q) = some (out.1, (out.2.1, M.2.1, M.2.2.1, M.2.2.2.1, M.2.2.2.2.1, M.2.2.2.2.2.1, out.2.2, M.2.2.2.2.2.2.2), (some q)) := by
      rw [gM_loadWorth, e]
      rfl
    exact ⟨_, _, eg, ⟨hM.1, hM.2⟩, rfl, r_m1 hb.2.2.2, rfl, rfl⟩
theorem sm_bestDay {M : MS} {o : Option TX11_q} (hM : IM M) (ho : IO o) : ∃ r M', gM_bestDay M o = some (r, M', o) ∧ IM M' ∧ M'.2.1 = M.2.1 ∧ M'.1.2.2 = -1 ∧ M'.2.2.1 = M.2.2.1 ∧ M'.2.2.2.2.1 = M.2.2.2.2.1 := by
  cases o with
  | none =>
    have eg : gM_bestDay M none = some ((-1), ((f_X12_bestDay_nul M.1), M.2.1, M.2.2.1, M.2.2.2.1, M.2.2.2.2.1, M.2.2.2.2.2.1, M.2.2.2.2.2.2.1, M.2.2.2.2.2.2.2), none) := rfl
    exact ⟨_, _, eg, ⟨hM.1, hM.2⟩, rfl, rfl, rfl, rfl⟩
  | some q =>
    have hq : IQ q := ho
    obtain ⟨out, e, hb⟩ := t_f_X12_bestDay (m_t := M.1) (m_v := M.2.2.1) (q_q := q) hq.1 hq.2.1 hq.2.2.1 hq.2.2.2.1 hq.2.2.2.2.1 hq.2.2.2.2.2
    have eg : gM_bestDay M (some q) = some (out.1, (out.2, M.2.1, M.2.2.1, M.2.2.2.1, M.2.2.2.2.1, M.2.2.2.2.2.1, M.2.2.2.2.2.2.1, M.2.2.2.2.2.2.2), (some q)) := by
      rw [gM_bestDay, e]
      rfl
    exact ⟨_, _, eg, ⟨hM.1, hM.2⟩, rfl, r_m1 hb.2.2.2, rfl, rfl⟩
theorem sm_hooks {k1 : Int32} {k2 : Int32} {k3 : Int32} {k4 : Int32} {k5 : Int32} {M : MS} {o : Option TX11_q} (hM : IM M) (ho : IO o) : ∃ r M', gM_hooks k1 k2 k3 k4 k5 M o = some (r, M', o) ∧ IM M' ∧ M'.2.1 = M.2.1 ∧ M'.1.2.2 = -1 ∧ M'.2.2.1 = M.2.2.1 ∧ M'.2.2.2.2.1 = M.2.2.2.2.1 := by
  cases o with
  | none =>
    have eg : gM_hooks k1 k2 k3 k4 k5 M none = some ((-1), ((f_X12_hooks_nul k1 k2 k3 k4 k5 M.1), M.2.1, M.2.2.1, M.2.2.2.1, M.2.2.2.2.1, M.2.2.2.2.2.1, M.2.2.2.2.2.2.1, M.2.2.2.2.2.2.2), none) := rfl
    exact ⟨_, _, eg, ⟨hM.1, hM.2⟩, rfl, rfl, rfl, rfl⟩
  | some q =>
    have hq : IQ q := ho
    obtain ⟨out, e, hb⟩ := t_f_X12_hooks (k1 := k1) (k2 := k2) (k3 := k3) (k4 := k4) (k5 := k5) (m_t := M.1) (m_v := M.2.2.1) (q_q := q) hq.1 hq.2.1 hq.2.2.1 hq.2.2.2.1 hq.2.2.2.2.1 hq.2.2.2.2.2
    have eg : gM_hooks k1 k2 k3 k4 k5 M (some q) = some (out.1, (out.2, M.2.1, M.2.2.1, M.2.2.2.1, M.2.2.2.2.1, M.2.2.2.2.2.1, M.2.2.2.2.2.2.1, M.2.2.2.2.2.2.2), (some q)) := by
      rw [gM_hooks, e]
      rfl
    exact ⟨_, _, eg, ⟨hM.1, hM.2⟩, rfl, r_m1 hb.2.2, rfl, rfl⟩
theorem sm_lines {k1 : Int32} {k2 : Int32} {k3 : Int32} {k4 : Int32} {M : MS} {o : Option TX11_q} (hM : IM M) (ho : IO o) : ∃ r M', gM_lines k1 k2 k3 k4 M o = some (r, M', o) ∧ IM M' ∧ M'.2.1 = M.2.1 ∧ M'.1.2.2 = -1 ∧ M'.2.2.1 = M.2.2.1 ∧ M'.2.2.2.2.1 = M.2.2.2.2.1 := by
  cases o with
  | none =>
    have eg : gM_lines k1 k2 k3 k4 M none = some ((-100), ((f_X12_lines_nul k1 k2 k3 k4 M.1), M.2.1, M.2.2.1, M.2.2.2.1, M.2.2.2.2.1, M.2.2.2.2.2.1, M.2.2.2.2.2.2.1, M.2.2.2.2.2.2.2), none) := rfl
    exact ⟨_, _, eg, ⟨hM.1, hM.2⟩, rfl, rfl, rfl, rfl⟩
  | some q =>
    have hq : IQ q := ho
    obtain ⟨out, e, hb⟩ := t_f_X12_lines (k1 := k1) (k2 := k2) (k3 := k3) (k4 := k4) (m_t := M.1) 
    have eg : gM_lines k1 k2 k3 k4 M (some q) = some (out.1, (out.2, M.2.1, M.2.2.1, M.2.2.2.1, M.2.2.2.2.1, M.2.2.2.2.2.1, M.2.2.2.2.2.2.1, M.2.2.2.2.2.2.2), (some q)) := by
      rw [gM_lines, e]
      rfl
    exact ⟨_, _, eg, ⟨hM.1, hM.2⟩, rfl, r_m1 hb.2.2, rfl, rfl⟩
theorem sm_rests {k1 : Int32} {M : MS} {o : Option TX11_q} (hM : IM M) (ho : IO o) : ∃ r M', gM_rests k1 M o = some (r, M', o) ∧ IM M' ∧ M'.2.1 = M.2.1 ∧ M'.1.2.2 = -1 ∧ M'.2.2.1 = M.2.2.1 ∧ M'.2.2.2.2.1 = M.2.2.2.2.1 := by
  cases o with
  | none =>
    have eg : gM_rests k1 M none = some ((-1), ((f_X12_rests_nul k1 M.1), M.2.1, M.2.2.1, M.2.2.2.1, M.2.2.2.2.1, M.2.2.2.2.2.1, M.2.2.2.2.2.2.1, M.2.2.2.2.2.2.2), none) := rfl
    exact ⟨_, _, eg, ⟨hM.1, hM.2⟩, rfl, rfl, rfl, rfl⟩
  | some q =>
    have hq : IQ q := ho
    obtain ⟨out, e, hb⟩ := t_f_X12_rests (k1 := k1) (m_t := M.1) 
    have eg : gM_rests k1 M (some q) = some (out.1, (out.2, M.2.1, M.2.2.1, M.2.2.2.1, M.2.2.2.2.1, M.2.2.2.2.2.1, M.2.2.2.2.2.2.1, M.2.2.2.2.2.2.2), (some q)) := by
      rw [gM_rests, e]
      rfl
    exact ⟨_, _, eg, ⟨hM.1, hM.2⟩, rfl, r_m1 hb.2.2, rfl, rfl⟩
theorem sm_rest {k1 : Int32} {M : MS} {o : Option TX11_q} (hM : IM M) (ho : IO o) : ∃ r M', gM_rest k1 M o = some (r, M', o) ∧ IM M' ∧ M'.2.1 = M.2.1 ∧ M'.1.2.2 = -1 ∧ M'.2.2.1 = M.2.2.1 ∧ M'.2.2.2.2.1 = M.2.2.2.2.1 := by
  cases o with
  | none =>
    have eg : gM_rest k1 M none = some ((-1), ((f_X12_rest_nul k1 M.1), M.2.1, M.2.2.1, M.2.2.2.1, M.2.2.2.2.1, M.2.2.2.2.2.1, M.2.2.2.2.2.2.1, M.2.2.2.2.2.2.2), none) := rfl
    exact ⟨_, _, eg, ⟨hM.1, hM.2⟩, rfl, rfl, rfl, rfl⟩
  | some q =>
    have hq : IQ q := ho
    obtain ⟨out, e, hb⟩ := t_f_X12_rest (k1 := k1) (m_t := M.1) 
    have eg : gM_rest k1 M (some q) = some (out.1, (out.2, M.2.1, M.2.2.1, M.2.2.2.1, M.2.2.2.2.1, M.2.2.2.2.2.1, M.2.2.2.2.2.2.1, M.2.2.2.2.2.2.2), (some q)) := by
      rw [gM_rest, e]
      rfl
    exact ⟨_, _, eg, ⟨hM.1, hM.2⟩, rfl, r_m1 hb.2.2.2, rfl, rfl⟩
theorem sm_landed {k1 : Int32} {k2 : Int32} {M : MS} {o : Option TX11_q} (hM : IM M) (ho : IO o) : ∃ r M', gM_landed k1 k2 M o = some (r, M', o) ∧ IM M' ∧ M'.2.1 = M.2.1 ∧ M'.1.2.2 = -1 ∧ M'.2.2.1 = M.2.2.1 ∧ M'.2.2.2.2.1 = M.2.2.2.2.1 := by
  cases o with
  | none =>
    have eg : gM_landed k1 k2 M none = some ((-1), ((f_X12_landed_nul k1 k2 M.1), M.2.1, M.2.2.1, M.2.2.2.1, M.2.2.2.2.1, M.2.2.2.2.2.1, M.2.2.2.2.2.2.1, M.2.2.2.2.2.2.2), none) := rfl
    exact ⟨_, _, eg, ⟨hM.1, hM.2⟩, rfl, rfl, rfl, rfl⟩
  | some q =>
    have hq : IQ q := ho
    obtain ⟨out, e, hb⟩ := t_f_X12_landed (k1 := k1) (k2 := k2) (m_t := M.1) (m_v := M.2.2.1) (m_w := M.2.2.2.1) (m_c := M.2.2.2.2.2.2.2) (q_q := q) hq.1 hq.2.1 hq.2.2.1 hq.2.2.2.1 hq.2.2.2.2.1 hq.2.2.2.2.2
    have eg : gM_landed k1 k2 M (some q) = some (out.1, (out.2.1, M.2.1, M.2.2.1, out.2.2.1, M.2.2.2.2.1, M.2.2.2.2.2.1, M.2.2.2.2.2.2.1, out.2.2.2), (some q)) := by
      rw [gM_landed, e]
      rfl
    exact ⟨_, _, eg, ⟨hM.1, hM.2⟩, rfl, r_m1 hb.2.2, rfl, rfl⟩
theorem sm_landedIn {k1 : Int32} {k2 : Int32} {k3 : Int32} {M : MS} {o : Option TX11_q} (hM : IM M) (ho : IO o) : ∃ r M', gM_landedIn k1 k2 k3 M o = some (r, M', o) ∧ IM M' ∧ M'.2.1 = M.2.1 ∧ M'.1.2.2 = -1 ∧ M'.2.2.1 = M.2.2.1 ∧ M'.2.2.2.2.1 = M.2.2.2.2.1 := by
  cases o with
  | none =>
    have eg : gM_landedIn k1 k2 k3 M none = some ((-1), ((f_X12_landedIn_nul k1 k2 k3 M.1), M.2.1, M.2.2.1, M.2.2.2.1, M.2.2.2.2.1, M.2.2.2.2.2.1, M.2.2.2.2.2.2.1, M.2.2.2.2.2.2.2), none) := rfl
    exact ⟨_, _, eg, ⟨hM.1, hM.2⟩, rfl, rfl, rfl, rfl⟩
  | some q =>
    have hq : IQ q := ho
    obtain ⟨out, e, hb⟩ := t_f_X12_landedIn (k1 := k1) (k2 := k2) (k3 := k3) (m_t := M.1) (m_v := M.2.2.1) (m_w := M.2.2.2.1) (m_c := M.2.2.2.2.2.2.2) (q_q := q) hq.1 hq.2.1 hq.2.2.1 hq.2.2.2.1 hq.2.2.2.2.1 hq.2.2.2.2.2
    have eg : gM_landedIn k1 k2 k3 M (some q) = some (out.1, (out.2.1, M.2.1, M.2.2.1, out.2.2.1, M.2.2.2.2.1, M.2.2.2.2.2.1, M.2.2.2.2.2.2.1, out.2.2.2), (some q)) := by
      rw [gM_landedIn, e]
      rfl
    exact ⟨_, _, eg, ⟨hM.1, hM.2⟩, rfl, r_m1 hb.2.2.2, rfl, rfl⟩
theorem sm_crabs {k1 : Int32} {k2 : Int32} {M : MS} {o : Option TX11_q} (hM : IM M) (ho : IO o) : ∃ r M', gM_crabs k1 k2 M o = some (r, M', o) ∧ IM M' ∧ M'.2.1 = M.2.1 ∧ M'.1.2.2 = -1 ∧ M'.2.2.1 = M.2.2.1 ∧ M'.2.2.2.2.1 = M.2.2.2.2.1 := by
  cases o with
  | none =>
    have eg : gM_crabs k1 k2 M none = some ((-1), ((f_X12_crabs_nul k1 k2 M.1), M.2.1, M.2.2.1, M.2.2.2.1, M.2.2.2.2.1, M.2.2.2.2.2.1, M.2.2.2.2.2.2.1, M.2.2.2.2.2.2.2), none) := rfl
    exact ⟨_, _, eg, ⟨hM.1, hM.2⟩, rfl, rfl, rfl, rfl⟩
  | some q =>
    have hq : IQ q := ho
    obtain ⟨out, e, hb⟩ := t_f_X12_crabs (k1 := k1) (k2 := k2) (m_t := M.1) (m_v := M.2.2.1) (m_w := M.2.2.2.1) (m_c := M.2.2.2.2.2.2.2) (q_q := q) hq.1 hq.2.1 hq.2.2.1 hq.2.2.2.1 hq.2.2.2.2.1 hq.2.2.2.2.2
    have eg : gM_crabs k1 k2 M (some q) = some (out.1, (out.2.1, M.2.1, M.2.2.1, out.2.2.1, M.2.2.2.2.1, M.2.2.2.2.2.1, M.2.2.2.2.2.2.1, out.2.2.2), (some q)) := by
      rw [gM_crabs, e]
      rfl
    exact ⟨_, _, eg, ⟨hM.1, hM.2⟩, rfl, r_m1 hb.2.2, rfl, rfl⟩
theorem sm_let {k1 : Int32} {k2 : Int32} {k3 : Int32} {k4 : Int32} {M : MS} {o : Option TX11_q} (hM : IM M) (ho : IO o) : ∃ r M', gM_let k1 k2 k3 k4 M o = some (r, M', o) ∧ IM M' ∧ M'.2.1 = M.2.1 ∧ M'.1.2.2 = -1 := by
  cases o with
  | none =>
    have eg : gM_let k1 k2 k3 k4 M none = some (0, ((f_X12_let_nul k1 k2 k3 k4 M.1), M.2.1, M.2.2.1, M.2.2.2.1, M.2.2.2.2.1, M.2.2.2.2.2.1, M.2.2.2.2.2.2.1, M.2.2.2.2.2.2.2), none) := rfl
    exact ⟨_, _, eg, ⟨hM.1, hM.2⟩, rfl, rfl⟩
  | some q =>
    have hq : IQ q := ho
    obtain ⟨out, e, hb⟩ := t_f_X12_let (k1 := k1) (k2 := k2) (k3 := k3) (k4 := k4) (m_t := M.1) (m_v := M.2.2.1) (m_h := M.2.2.2.2.1) (q_q := q) hM.1 hM.2 hq.1 hq.2.1 hq.2.2.1 hq.2.2.2.1 hq.2.2.2.2.1 hq.2.2.2.2.2
    have eg : gM_let k1 k2 k3 k4 M (some q) = some (out.1, (out.2.1, M.2.1, out.2.2.1, M.2.2.2.1, out.2.2.2, M.2.2.2.2.2.1, M.2.2.2.2.2.2.1, M.2.2.2.2.2.2.2), (some q)) := by
      rw [gM_let, e]
      rfl
    exact ⟨_, _, eg, ⟨hb.2.2.2.2.1, hb.2.2.2.2.2⟩, rfl, r_m1 hb.2.2.2.1⟩
theorem sm_drawIn {k1 : Int32} {M : MS} {o : Option TX11_q} (hM : IM M) (ho : IO o) : ∃ r M', gM_drawIn k1 M o = some (r, M', o) ∧ IM M' ∧ M'.2.1 = M.2.1 ∧ M'.1.2.2 = -1 := by
  cases o with
  | none =>
    have eg : gM_drawIn k1 M none = some (0, ((f_X12_drawIn_nul k1 M.1), M.2.1, M.2.2.1, M.2.2.2.1, M.2.2.2.2.1, M.2.2.2.2.2.1, M.2.2.2.2.2.2.1, M.2.2.2.2.2.2.2), none) := rfl
    exact ⟨_, _, eg, ⟨hM.1, hM.2⟩, rfl, rfl⟩
  | some q =>
    have hq : IQ q := ho
    obtain ⟨out, e, hb⟩ := t_f_X12_drawIn (k1 := k1) (m_t := M.1) (m_v := M.2.2.1) (m_h := M.2.2.2.2.1) (q_q := q) hM.1 hM.2 hq.1 hq.2.1 hq.2.2.1 hq.2.2.2.1 hq.2.2.2.2.1 hq.2.2.2.2.2
    have eg : gM_drawIn k1 M (some q) = some (out.1, (out.2.1, M.2.1, out.2.2.1, M.2.2.2.1, out.2.2.2, M.2.2.2.2.2.1, M.2.2.2.2.2.2.1, M.2.2.2.2.2.2.2), (some q)) := by
      rw [gM_drawIn, e]
      rfl
    exact ⟨_, _, eg, ⟨hb.2.2.2.2.1, hb.2.2.2.2.2⟩, rfl, r_m1 hb.2.2.2.1⟩
theorem sm_sell {k1 : Int32} {M : MS} {o : Option TX11_q} (hM : IM M) (ho : IO o) : ∃ r M', gM_sell k1 M o = some (r, M', o) ∧ IM M' ∧ M'.2.1 = M.2.1 ∧ M'.1.2.2 = -1 := by
  cases o with
  | none =>
    have eg : gM_sell k1 M none = some ((-1), ((f_X12_sell_nul k1 M.1), M.2.1, M.2.2.1, M.2.2.2.1, M.2.2.2.2.1, M.2.2.2.2.2.1, M.2.2.2.2.2.2.1, M.2.2.2.2.2.2.2), none) := rfl
    exact ⟨_, _, eg, ⟨hM.1, hM.2⟩, rfl, rfl⟩
  | some q =>
    have hq : IQ q := ho
    obtain ⟨out, e, hb⟩ := t_f_X12_sell (k1 := k1) (m_t := M.1) (m_v := M.2.2.1) (m_h := M.2.2.2.2.1) (q_q := q) hM.1 hM.2 hq.1 hq.2.1 hq.2.2.1 hq.2.2.2.1 hq.2.2.2.2.1 hq.2.2.2.2.2
    have eg : gM_sell k1 M (some q) = some (out.1, (out.2.1, M.2.1, out.2.2.1, M.2.2.2.1, out.2.2.2, M.2.2.2.2.2.1, M.2.2.2.2.2.2.1, M.2.2.2.2.2.2.2), (some q)) := by
      rw [gM_sell, e]
      rfl
    exact ⟨_, _, eg, ⟨hb.2.2.2.1, hb.2.2.2.2⟩, rfl, r_m1 hb.2.2.1⟩
theorem sm_day {M : MS} {o : Option TX11_q} (hM : IM M) (ho : IO o) : ∃ r M', gM_day M o = some (r, M', o) ∧ IM M' ∧ M'.2.1 = M.2.1 ∧ M'.1.2.2 = -1 := by
  cases o with
  | none =>
    have eg : gM_day M none = some ((-1), ((f_X12_day_nul M.1), M.2.1, M.2.2.1, M.2.2.2.1, M.2.2.2.2.1, M.2.2.2.2.2.1, M.2.2.2.2.2.2.1, M.2.2.2.2.2.2.2), none) := rfl
    exact ⟨_, _, eg, ⟨hM.1, hM.2⟩, rfl, rfl⟩
  | some q =>
    have hq : IQ q := ho
    obtain ⟨out, e, hb⟩ := t_f_X12_day (m_t := M.1) (m_v := M.2.2.1) (m_h := M.2.2.2.2.1) (m_c := M.2.2.2.2.2.2.2) (q_q := q) hM.1 hM.2 hq.1 hq.2.1 hq.2.2.1 hq.2.2.2.1 hq.2.2.2.2.1 hq.2.2.2.2.2
    have eg : gM_day M (some q) = some (out.1, (out.2.1, M.2.1, out.2.2.1, M.2.2.2.1, out.2.2.2.1, M.2.2.2.2.2.1, M.2.2.2.2.2.2.1, out.2.2.2.2), (some q)) := by
      rw [gM_day, e]
      rfl
    exact ⟨_, _, eg, ⟨hb.2.2.2.2.1, hb.2.2.2.2.2⟩, rfl, r_m1 hb.2.2.2.1⟩
theorem sm_seed {k1 : Int32} {M : MS} {o : Option TX11_q} (hM : IM M) (ho : IO o) : ∃ r M', gM_seed k1 M o = some (r, M', o) ∧ IM M' ∧ M'.2.1 = M.2.1 ∧ M'.1.2.2 = -1 := by
  cases o with
  | none =>
    have eg : gM_seed k1 M none = some (0, ((f_X12_seed_nul k1 M.1), M.2.1, M.2.2.1, M.2.2.2.1, M.2.2.2.2.1, M.2.2.2.2.2.1, M.2.2.2.2.2.2.1, M.2.2.2.2.2.2.2), none) := rfl
    exact ⟨_, _, eg, ⟨hM.1, hM.2⟩, rfl, rfl⟩
  | some q =>
    have hq : IQ q := ho
    have eg : gM_seed k1 M (some q) = some ((f_X12_seed k1 M.1 M.2.2.1).1, ((f_X12_seed k1 M.1 M.2.2.1).2.1, M.2.1, (f_X12_seed k1 M.1 M.2.2.1).2.2, M.2.2.2.1, M.2.2.2.2.1, M.2.2.2.2.2.1, M.2.2.2.2.2.2.1, M.2.2.2.2.2.2.2), (some q)) := rfl
    exact ⟨_, _, eg, ⟨hM.1, hM.2⟩, rfl, wh_seed _ _ _⟩
theorem sm_undo {M : MS} {o : Option TX11_q} (hM : IM M) (ho : IO o) : ∃ r M', gM_undo M o = some (r, M', o) ∧ IM M' ∧ M'.2.1 = M.2.1 ∧ M'.1.2.2 = -1 := by
  cases o with
  | none =>
    have eg : gM_undo M none = some (0, ((f_X12_undo_nul M.1), M.2.1, M.2.2.1, M.2.2.2.1, M.2.2.2.2.1, M.2.2.2.2.2.1, M.2.2.2.2.2.2.1, M.2.2.2.2.2.2.2), none) := rfl
    exact ⟨_, _, eg, ⟨hM.1, hM.2⟩, rfl, rfl⟩
  | some q =>
    have hq : IQ q := ho
    obtain ⟨out, e, hb⟩ := t_f_X12_undo (m_t := M.1) (m_v := M.2.2.1) (m_h := M.2.2.2.2.1) hM.1 hM.2
    have eg : gM_undo M (some q) = some (out.1, (out.2.1, M.2.1, out.2.2.1, M.2.2.2.1, out.2.2.2, M.2.2.2.2.2.1, M.2.2.2.2.2.2.1, M.2.2.2.2.2.2.2), (some q)) := by
      rw [gM_undo, e]
      rfl
    exact ⟨_, _, eg, ⟨r_w (l' := 0) (h' := 16) hb.2.2.2.2.1 (by decide) (by decide), hb.2.2.2.2.2⟩, rfl, r_m1 hb.2.2.2.1⟩
theorem sm_mark {M : MS} {o : Option TX11_q} (hM : IM M) (ho : IO o) : ∃ r M', gM_mark M o = some (r, M', o) ∧ IM M' ∧ M'.2.1 = M.2.1 ∧ M'.1.2.2 = -1 := by
  cases o with
  | none =>
    have eg : gM_mark M none = some ((-1), ((f_X12_mark_nul M.1), M.2.1, M.2.2.1, M.2.2.2.1, M.2.2.2.2.1, M.2.2.2.2.2.1, M.2.2.2.2.2.2.1, M.2.2.2.2.2.2.2), none) := rfl
    exact ⟨_, _, eg, ⟨hM.1, hM.2⟩, rfl, rfl⟩
  | some q =>
    have hq : IQ q := ho
    obtain ⟨out, e, hb⟩ := t_f_X12_mark (m_t := M.1) (m_v := M.2.2.1) (m_h := M.2.2.2.2.1) hM.1 hM.2
    have eg : gM_mark M (some q) = some (out.1, (out.2.1, M.2.1, M.2.2.1, M.2.2.2.1, out.2.2, M.2.2.2.2.2.1, M.2.2.2.2.2.2.1, M.2.2.2.2.2.2.2), (some q)) := by
      rw [gM_mark, e]
      rfl
    exact ⟨_, _, eg, ⟨hb.2.2.2.2.1, r_w (l' := 0) (h' := 3) hb.2.2.2.2.2 (by decide) (by decide)⟩, rfl, r_m1 hb.2.2.2.1⟩
theorem sm_back {k1 : Int32} {M : MS} {o : Option TX11_q} (hM : IM M) (ho : IO o) : ∃ r M', gM_back k1 M o = some (r, M', o) ∧ IM M' ∧ M'.2.1 = M.2.1 ∧ M'.1.2.2 = -1 := by
  cases o with
  | none =>
    have eg : gM_back k1 M none = some (0, ((f_X12_back_nul k1 M.1), M.2.1, M.2.2.1, M.2.2.2.1, M.2.2.2.2.1, M.2.2.2.2.2.1, M.2.2.2.2.2.2.1, M.2.2.2.2.2.2.2), none) := rfl
    exact ⟨_, _, eg, ⟨hM.1, hM.2⟩, rfl, rfl⟩
  | some q =>
    have hq : IQ q := ho
    obtain ⟨out, e, hb⟩ := t_f_X12_back (k1 := k1) (m_t := M.1) (m_v := M.2.2.1) (m_h := M.2.2.2.2.1) hM.1 hM.2
    have eg : gM_back k1 M (some q) = some (out.1, (out.2.1, M.2.1, out.2.2.1, M.2.2.2.1, out.2.2.2, M.2.2.2.2.2.1, M.2.2.2.2.2.2.1, M.2.2.2.2.2.2.2), (some q)) := by
      rw [gM_back, e]
      rfl
    exact ⟨_, _, eg, ⟨hb.2.2.2.2.1, hb.2.2.2.2.2⟩, rfl, r_m1 hb.2.2.2.1⟩
theorem sm_led {k1 : Int32} {M : MS} {o : Option TX11_q} (hM : IM M) (ho : IO o) : ∃ r M', gM_led k1 M o = some (r, M', o) ∧ IM M' ∧ M'.2.1 = M.2.1 ∧ M'.1.2.2 = M.1.2.2 ∧ M'.2.2.1 = M.2.2.1 ∧ M'.2.2.2.2.1 = M.2.2.2.2.1 := by
  cases o with
  | none =>
    obtain ⟨out, e, hb⟩ := t_f_X12_led_nul (k1 := k1) (m_t := M.1) 
    have eg : gM_led k1 M none = some (0, (out, M.2.1, M.2.2.1, M.2.2.2.1, M.2.2.2.2.1, M.2.2.2.2.2.1, M.2.2.2.2.2.2.1, M.2.2.2.2.2.2.2), none) := by
      rw [gM_led, e]
      rfl
    exact ⟨_, _, eg, ⟨hM.1, hM.2⟩, rfl, (kp_f_X12_led_nul (F0 := M.1.2.2) rfl out e).2, rfl, rfl⟩
  | some q =>
    have hq : IQ q := ho
    obtain ⟨out, e, hb⟩ := t_f_X12_led (k1 := k1) (m_t := M.1) (m_v := M.2.2.1) (q_q := q) hq.1 hq.2.1 hq.2.2.1 hq.2.2.2.1 hq.2.2.2.2.1 hq.2.2.2.2.2
    have eg : gM_led k1 M (some q) = some (out.1, (out.2, M.2.1, M.2.2.1, M.2.2.2.1, M.2.2.2.2.1, M.2.2.2.2.2.1, M.2.2.2.2.2.2.1, M.2.2.2.2.2.2.2), (some q)) := by
      rw [gM_led, e]
      rfl
    exact ⟨_, _, eg, ⟨hM.1, hM.2⟩, rfl, (kp_f_X12_led (F0 := M.1.2.2) rfl out e).2, rfl, rfl⟩
theorem sm_size {k1 : Int32} {M : MS} {o : Option TX11_q} (hM : IM M) (ho : IO o) : ∃ r M', gM_size k1 M o = some (r, M', o) ∧ IM M' ∧ M'.2.1 = M.2.1 ∧ M'.1.2.2 = M.1.2.2 ∧ M'.2.2.1 = M.2.2.1 ∧ M'.2.2.2.2.1 = M.2.2.2.2.1 := by
  cases o with
  | none =>
    have eg : gM_size k1 M none = some ((f_X12_size_nul k1 M.1 M.2.1).1, ((f_X12_size_nul k1 M.1 M.2.1).2, M.2.1, M.2.2.1, M.2.2.2.1, M.2.2.2.2.1, M.2.2.2.2.2.1, M.2.2.2.2.2.2.1, M.2.2.2.2.2.2.2), none) := rfl
    exact ⟨_, _, eg, ⟨hM.1, hM.2⟩, rfl, wh_size_nul _ _ _, rfl, rfl⟩
  | some q =>
    have hq : IQ q := ho
    have eg : gM_size k1 M (some q) = some ((f_X12_size k1 M.1 M.2.1 M.2.2.1 M.2.2.2.2.1 q).1, ((f_X12_size k1 M.1 M.2.1 M.2.2.1 M.2.2.2.2.1 q).2, M.2.1, M.2.2.1, M.2.2.2.1, M.2.2.2.2.1, M.2.2.2.2.2.1, M.2.2.2.2.2.2.1, M.2.2.2.2.2.2.2), (some q)) := rfl
    exact ⟨_, _, eg, ⟨hM.1, hM.2⟩, rfl, wh_size _ _ _ _ _ _, rfl, rfl⟩
theorem sm_trouble {M : MS} {o : Option TX11_q} (hM : IM M) (ho : IO o) : ∃ r M', gM_trouble M o = some (r, M', o) ∧ IM M' ∧ M'.2.1 = M.2.1 ∧ M'.1.2.2 = M.1.2.2 ∧ M'.2.2.1 = M.2.2.1 ∧ M'.2.2.2.2.1 = M.2.2.2.2.1 := by
  have eg : gM_trouble M o = some ((f_X12_trouble M.1).1, ((f_X12_trouble M.1).2, M.2.1, M.2.2.1, M.2.2.2.1, M.2.2.2.2.1, M.2.2.2.2.2.1, M.2.2.2.2.2.2.1, M.2.2.2.2.2.2.2), o) := rfl
  exact ⟨_, _, eg, ⟨hM.1, hM.2⟩, rfl, rfl, rfl, rfl⟩
/-! pier(n): both refuse, both find the same fault, or both have the same pier -/
theorem pier_bad {k1 : Int32} {X : XS} {M : MS} {o : Option TX11_q} (e : X.2.2.2.1.2.1 = M.2.1.2.1) (h : k1 < 0 ∨ X.2.2.2.1.2.1 < k1) : gX_pier k1 X = some (-1, ((2, X.1.2), X.2)) ∧ gM_pier k1 M o = some (-1, ((0, 2, -1), M.2), o) := by
  constructor
  · have hw : f_X10_within k1 0 X.2.2.2.1.2.1 = 0 := by
      unfold f_X10_within
      by_cases c : k1 < 0
      · rw [if_pos c]
      · rw [if_neg c, if_pos (h.resolve_left c)]
    have hf : f_X10_pier k1 X.1 X.2.2.1 X.2.2.2.1 X.2.2.2.2.1 X.2.2.2.2.2.1 0 1 = some (-1, (2, X.1.2), 1, 0, X.2.2.1, X.2.2.2.1, X.2.2.2.2.1, X.2.2.2.2.2.1) := by
      rw [f_X10_pier, nm, hw, if_pos rfl, f_X10_pier_J21, nm]
      rfl
    rw [gX_pier, hf]
    rfl
  · have hr : f_X12_pier_r k1 M.1 M.2.1 = some (0, 2, -1) := by
      rw [f_X12_pier_r]
      by_cases c : k1 < 0
      · rw [if_pos c]
        rfl
      · have h2 := h.resolve_left c
        rw [e] at h2
        rw [if_neg c, if_neg (show ¬ k1 ≤ M.2.1.2.1 by rw [fa_lt] at h2; rw [fa_le]; omega)]
        rfl
    rw [gM_pier, hr]
theorem gMp_f {k1 : Int32} {M : MS} {o : Option TX11_q} {out : TX12_t × TX12_s × TX11_q} (hr : f_X12_pier_r k1 M.1 M.2.1 = none) (hf : f_X12_pier_f k1 M.1 M.2.1 = some out) : gM_pier k1 M o = some (-1, (out.1, out.2.1, M.2.2), o) := by
  rw [gM_pier, hr, hf]
theorem gMp_o {k1 : Int32} {M : MS} {o : Option TX11_q} {out : Int32 × TX12_t × TX12_s × TX12_v × TX12_h × TX11_q} (hr : f_X12_pier_r k1 M.1 M.2.1 = none) (hf : f_X12_pier_f k1 M.1 M.2.1 = none) (ho : f_X12_pier_o k1 M.1 M.2.1 M.2.2.1 M.2.2.2.2.1 = some out) : gM_pier k1 M o = some (out.1, (out.2.1, out.2.2.1, out.2.2.2.1, M.2.2.2.1, out.2.2.2.2.1, M.2.2.2.2.2), some out.2.2.2.2.2) := by
  rw [gM_pier, hr, hf, ho]
  rfl
theorem pier_read {T : Nat → Int32} {f e : Nat} {tl : TR7} {ts : TS12} {X : XS} {M : MS} {o : Option TX11_q} (hT : ∀ j, byt (T j)) (hf : f ≤ 900) (he : e ≤ f) (hr : X.2.2.2.1 = (T, nI f, tl)) (hs : M.2.1 = (T, nI f, ts)) :
    (∃ (k : Int32) (z : Nat) (p2 : TX6_p) (tl' : TR7) (ts' : TS12), (1 ≤ k.toInt ∧ k.toInt ≤ 6) ∧ z ≤ e ∧ tl'.2.2.2.2.2.2.2.2.2 = nI z ∧ ts'.2.2.2.2.2.1 = k ∧ gX_pier (nI e) X = some (-1, ((4, k), X.2.1, p2, (T, 0, tl'), X.2.2.2.2)) ∧ gM_pier (nI e) M o = some (-1, ((0, 4, nI z), (T, 0, ts'), M.2.2), o)) ∨
    (∃ (p' : TX6_p) (q' : TX11_q) (n1 : Nat → Int64) (nb : Nat → Int32) (N : Nat) (tl' : TR7) (ts' : TS12) (st li v' : Nat → Int32), PR p' q' n1 nb N ∧ ¬ qBa q' = 0 ∧ ts'.2.2.2.2.2.1 = 0 ∧ (∀ j, j < 6 → st j = 0) ∧ (∀ j, j < 5 → li j = -1) ∧ vrow v' ∧ gX_pier (nI e) X = some (pAn p', ((0, 0), p', X.2.1, (T, 0, tl'), (0, 0, 0, st, X.2.2.2.2.1.2.2.2.2.1, X.2.2.2.2.1.2.2.2.2.2.1, li), (X.2.2.2.2.2.1.1, 0, 0), X.2.2.2.2.2.2)) ∧ gM_pier (nI e) M o = some (qAn q', ((0, 0, -1), (T, 0, ts'), v', M.2.2.2.1, (M.2.2.2.2.1.1, M.2.2.2.2.1.2.1, 0, 0), M.2.2.2.2.2), some q')) := by
  obtain ⟨x, p, p2, r, n, h, R⟩ := X
  obtain ⟨t, s, v, w, mh, R2⟩ := M
  obtain ⟨en, tok, st0, bh, vv, n1, nb, ns, fa, pl⟩ := tl
  obtain ⟨msz, msp, mso', mpl, mnu, mfa, mwr, mwo⟩ := ts
  dsimp only at hr hs ⊢
  subst hr hs
  have hc1 : ¬ nI e < (0 : Int32) := nI_pos (by omega)
  have hc2 : nI e ≤ nI f := nI_le he (by omega)
  have hc3 : ¬ nI f < nI e := nI_nlt he (by omega)
  have hw : f_X10_within (nI e) 0 (nI f) = 1 := by
    unfold f_X10_within
    rw [if_neg hc1, if_neg hc3]
  have hX : f_X10_pier (nI e) x p2 (T, nI f, en, tok, st0, bh, vv, n1, nb, ns, fa, pl) n h 0 1 = (f_X7_read (nI e) (T, nI f, en, tok, st0, bh, vv, n1, nb, ns, fa, pl) p2).bind fun o38 => if o38.1 = (0 : Int32) then f_X10_pier_J63 n h 0 1 (0, (0, x.2)) o38 4 else f_X10_pier_J63 n h 0 1 (0, (0, x.2)) o38 0 := by
    rw [f_X10_pier, nm]
    show (if f_X10_within (nI e) 0 (nI f) = 0 then _ else _) = _
    rw [hw, if_neg one_ne, f_X10_pier_J21, nm]
    rfl
  have hy : ∀ {β : Type} (K : TX12_s × TX11_q → Option β), ((f_X12_goesOn (T, 0, nI e, 0, 0, mpl, mnu, 0, mwr, mwo)).bind fun (o60 : TX12_s) => (f_X12_readAll o60 iX11).bind K) = ((f_X12_goesOn (T, 0, nI e, 0, 0, mpl, mnu, 0, mwr, mwo)).bind fun (o60 : TX12_s) => f_X12_readAll o60 q0).bind K := fun K => by
    rw [Option.bind_assoc]
    rfl
  have hMr : f_X12_pier_r (nI e) t (T, nI f, msz, msp, mso', mpl, mnu, mfa, mwr, mwo) = none := by
    rw [f_X12_pier_r, if_neg hc1]
    show (if nI e ≤ nI f then none else _) = _
    rw [if_pos hc2]
  have hMf : f_X12_pier_f (nI e) t (T, nI f, msz, msp, mso', mpl, mnu, mfa, mwr, mwo) = ((f_X12_goesOn (T, 0, nI e, 0, 0, mpl, mnu, 0, mwr, mwo)).bind fun (o60 : TX12_s) => f_X12_readAll o60 q0).bind fun (o64 : (TX12_s × TX11_q)) => (if o64.1.2.2.2.2.2.2.2.1 ≤ (0 : Int32) then none else (some (((0 : Int32), (4 : Int32), o64.1.2.2.2.2.2.2.2.2.1), o64.1, o64.2))) := by
    rw [f_X12_pier_f, if_neg hc1]
    show (if nI e ≤ nI f then _ else none) = _
    rw [if_pos hc2]
    exact hy _
  have hMo : f_X12_pier_o (nI e) t (T, nI f, msz, msp, mso', mpl, mnu, mfa, mwr, mwo) v mh = ((f_X12_goesOn (T, 0, nI e, 0, 0, mpl, mnu, 0, mwr, mwo)).bind fun (o60 : TX12_s) => f_X12_readAll o60 q0).bind fun (o64 : (TX12_s × TX11_q)) => (if o64.1.2.2.2.2.2.2.2.1 ≤ (0 : Int32) then (f_X12_pier_o_L99 t mh o64 FU (0 : Int32) v) else none) := by
    rw [f_X12_pier_o, if_neg hc1]
    show (if nI e ≤ nI f then _ else none) = _
    rw [if_pos hc2]
    exact hy _
  rcases read_all (T := T) (a := 0) (f := f) (n := e) (tok := tok) (st := st0) (bh := bh) (v := vv) (ns := ns) (fa := fa) (pl := pl) (en := en) (so := 0) (plm := mpl) (num := mnu) (wr := mwr) (n1 := n1) (nb := nb) (w := mwo) (p := p2) hT hf he (by decide) with ⟨s', v2, n1', nb', N, pl', num', wr', w', p', q', g1, g2, g3, g4, g5⟩ | ⟨k, z, v2, n1', nb', ns', p', m', q', g1, g2, g3, g4, g5⟩
  · obtain ⟨st, li, b1, b2, b3⟩ := begin_ok n
    obtain ⟨v3, c1, c2⟩ := po_ok t mh (MD T 0 e s' num' 0 wr' w', q') v
    refine Or.inr ⟨p', q', n1', nb', N, (nI e, tkk T e s', nI s', nI (tkb T e s'), v2, n1', nb', nI N, 0, pl'), (nI e, nI (mspot T e s'), mso (tkk T e s'), nI s', num', 0, wr', w'), st, li, v3, g4, g5, rfl, b2, b3, c2, ?_, ?_⟩
    · rw [gX_pier]
      show Option.map _ (f_X10_pier (nI e) x p2 (T, nI f, en, tok, st0, bh, vv, n1, nb, ns, fa, pl) n h 0 1) = _
      rw [hX, g2, Option.bind_some, if_neg one_ne, f_X10_pier_J63, nm]
      show Option.map _ (if (f_X10_refused 0 (0, 0)).1 = 0 then _ else _) = _
      rw [if_pos (by decide), b1, Option.bind_some, nm]
      rfl
    · have h2 : f_X12_pier_f (nI e) t (T, nI f, msz, msp, mso', mpl, mnu, mfa, mwr, mwo) = none := by
        rw [hMf, g3, Option.bind_some]
        exact if_pos (show (0 : Int32) ≤ 0 by decide)
      have h3 : f_X12_pier_o (nI e) t (T, nI f, msz, msp, mso', mpl, mnu, mfa, mwr, mwo) v mh = some (qAn q', (0, 0, -1), MD T 0 e s' num' 0 wr' w', v3, (mh.1, mh.2.1, 0, 0), q') := by
        rw [hMo, g3, Option.bind_some]
        exact (if_pos (show (0 : Int32) ≤ 0 by decide)).trans c1
      exact gMp_o (M := (t, (T, nI f, msz, msp, mso', mpl, mnu, mfa, mwr, mwo), v, w, mh, R2)) hMr h2 h3
  · obtain ⟨d1, d2, d3, d4, d5⟩ := g5
    have hk : ¬ k ≤ (0 : Int32) := by
      rw [fa_le, ltv_0]
      omega
    have hk0 : ¬ m'.2.2.2.2.2.2.2.1 ≤ (0 : Int32) := by
      rw [d4]
      exact hk
    obtain ⟨mT, ma, ms1⟩ := m'
    dsimp only at d1 d2 d3 d4 d5 hk0
    have d1 := d1.symm
    subst d1 d2
    refine Or.inl ⟨k, z, p', (nI e, tkk T e z, nI z, nI (tkb T e z), v2, n1', nb', ns', k, nI z), ms1, g1, g2, rfl, d4, ?_, ?_⟩
    · rw [gX_pier]
      show Option.map _ (f_X10_pier (nI e) x p2 (T, nI f, en, tok, st0, bh, vv, n1, nb, ns, fa, pl) n h 0 1) = _
      rw [hX, g3, Option.bind_some, if_pos rfl, f_X10_pier_J63, nm]
      show Option.map _ (if (f_X10_refused 4 (0, k)).1 = 0 then _ else _) = _
      rw [if_neg (show ¬ (f_X10_refused 4 (0, k)).1 = 0 from one_ne)]
      rfl
    · have h2 : f_X12_pier_f (nI e) t (T, nI f, msz, msp, mso', mpl, mnu, mfa, mwr, mwo) = some ((0, 4, ms1.2.2.2.2.2.2.1), (T, 0, ms1), q') := by
        rw [hMf, g4, Option.bind_some]
        exact if_neg hk0
      have h3 := gMp_f (M := (t, (T, nI f, msz, msp, mso', mpl, mnu, mfa, mwr, mwo), v, w, mh, R2)) (o := o) hMr h2
      dsimp only at h3
      rw [d5] at h3
      exact h3
/-! class and reference over one pier: numbers -/
def aI (x : Int) : Int := if 0 ≤ x then x else -x
theorem aI_neg (x y : Int) : aI (x - y) = aI (y - x) := by
  unfold aI
  by_cases h : 0 ≤ x - y
  · by_cases h2 : 0 ≤ y - x
    · rw [if_pos h, if_pos h2]
      omega
    · rw [if_pos h, if_neg h2]
      omega
  · rw [if_neg h, if_pos (by omega)]
    omega
theorem aI_b {x : Int} {n : Int} (h1 : -n ≤ x) (h2 : x ≤ n) : 0 ≤ aI x ∧ aI x ≤ n := by
  unfold aI
  by_cases h : 0 ≤ x
  · rw [if_pos h]
    omega
  · rw [if_neg h]
    omega
theorem iabs_t {x : Int32} (h1 : -1000000 ≤ x.toInt) (h2 : x.toInt ≤ 1000000) : (iabs x).toInt = aI x.toInt := by
  unfold iabs aI
  by_cases h : 0 ≤ x.toInt
  · rw [if_pos (show (0 : Int32) ≤ x by rw [fa_le, ltv_0]; exact h), if_pos h]
  · rw [if_neg (show ¬ (0 : Int32) ≤ x by rw [fa_le, ltv_0]; exact h), if_neg h, isub_t (by rw [ltv_0]; omega) (by rw [ltv_0]; omega), ltv_0]
    omega
theorem apart_t {x y : Int32} (h1 : -1000000 ≤ x.toInt) (h2 : x.toInt ≤ 1000000) (h3 : -1000000 ≤ y.toInt) (h4 : y.toInt ≤ 1000000) : (f_X12_apart x y).toInt = aI (x.toInt - y.toInt) := by
  unfold f_X12_apart aI
  by_cases h : y.toInt ≤ x.toInt
  · rw [if_pos (show y ≤ x by rw [fa_le]; exact h), if_pos (by omega), isub_t (by omega) (by omega)]
  · rw [if_neg (show ¬ y ≤ x by rw [fa_le]; exact h), if_neg (by omega), isub_t (by omega) (by omega)]
    omega
def cI (x : Int) : Int := if x < 0 then 0 else if 100 < x then 100 else x
theorem cut_t (x : Int32) : (f_X11_cut x).toInt = cI x.toInt := by
  unfold f_X11_cut cI
  by_cases h : 0 ≤ x.toInt
  · rw [if_pos (show (0 : Int32) ≤ x by rw [fa_le, ltv_0]; exact h), if_neg (show ¬ x.toInt < 0 by omega)]
    by_cases h2 : x.toInt ≤ 100
    · rw [if_pos (show x ≤ (100 : Int32) by rw [fa_le, ltv_100]; exact h2), if_neg (show ¬ 100 < x.toInt by omega)]
    · rw [if_neg (show ¬ x ≤ (100 : Int32) by rw [fa_le, ltv_100]; exact h2), if_pos (show 100 < x.toInt by omega), ltv_100]
  · rw [if_neg (show ¬ (0 : Int32) ≤ x by rw [fa_le, ltv_0]; exact h), if_pos (show x.toInt < 0 by omega), ltv_0]
theorem mm_t (x : Int32) : (imax 0 (imin 100 x)).toInt = cI x.toInt := by
  unfold imax imin cI
  by_cases h : x.toInt < 100
  · rw [if_pos (show x < (100 : Int32) by rw [fa_lt, ltv_100]; exact h)]
    by_cases h2 : 0 < x.toInt
    · rw [if_pos (show (0 : Int32) < x by rw [fa_lt, ltv_0]; exact h2), if_neg (by omega), if_neg (by omega)]
    · rw [if_neg (show ¬ (0 : Int32) < x by rw [fa_lt, ltv_0]; exact h2), ltv_0]
      by_cases h3 : x.toInt < 0
      · rw [if_pos h3]
      · rw [if_neg h3, if_neg (by omega)]
        omega
  · rw [if_neg (show ¬ x < (100 : Int32) by rw [fa_lt, ltv_100]; exact h), if_pos (show (0 : Int32) < 100 by decide), ltv_100, if_neg (by omega)]
    by_cases h3 : 100 < x.toInt
    · rw [if_pos h3]
    · rw [if_neg h3]
      omega
/-- what both have of one pier -/
def PQ (p : TX6_p) (q : TX11_q) (sp de ba as an bi cf ct : Nat) : Prop := (pSp p = nI sp ∧ qSp q = nI sp ∧ 2 ≤ sp ∧ sp ≤ 8) ∧ (pDe p = nI de ∧ qDe q = nI de ∧ 1 ≤ de ∧ de ≤ 9) ∧ (pCf p = nI cf ∧ qFr q = nI cf ∧ pCt p = nI ct ∧ qTo q = nI ct ∧ cf ≤ ct ∧ ct ≤ 60) ∧ (pBa p = nI ba ∧ qBa q = nI ba ∧ 1 ≤ ba ∧ ba ≤ 4) ∧ (pAs p = nI as ∧ qAs q = nI as ∧ as ≤ 5) ∧ (pAn p = nI an ∧ qAn q = nI an ∧ an ≤ 6) ∧ (pBi p = nI bi ∧ qBi q = nI bi ∧ bi ≤ 6) ∧ (pDk p = qDk q ∧ -1 ≤ (qDk q).toInt ∧ (qDk q).toInt ≤ 99) ∧ PRa p q as ∧ PRw p q an ba ∧ PRb p q bi ba
theorem pq_of {p : TX6_p} {q : TX11_q} {n1 : Nat → Int64} {nb : Nat → Int32} {N : Nat} (h : PR p q n1 nb N) (hb : ¬ qBa q = 0) : ∃ sp de ba as an bi cf ct, PQ p q sp de ba as an bi cf ct := by
  obtain ⟨ba, as, an, bi, hc, hh, hn, ha, hw, hbt⟩ := h
  obtain ⟨c1, c2, c3, c4, c5, c6, c7, c8, c9, c10, c11, c12, c13, c14⟩ := hc
  obtain ⟨a1, a2, a3, ⟨a4, a4'⟩, a5, a6⟩ := hh
  have hba : ¬ ba = 0 := fun z => hb (by rw [c2, z]; rfl)
  rcases a6 with ⟨-, z, -⟩ | ⟨b1, b2, b3, b4, b5, b6, b7, b8, b9⟩
  · omega
  have nn : ∀ {x : Int32}, 0 ≤ x.toInt → ∃ j : Nat, j < 2 ^ 31 ∧ x = nI j ∧ x.toInt = (j : Int) := fun {x} hx => by
    obtain ⟨j, hj, e⟩ := inn_of hx
    exact ⟨j, hj, e, by rw [e, nI_toInt hj]⟩
  obtain ⟨sp, hsp, es, es'⟩ := nn (x := qSp q) (by omega)
  obtain ⟨de, hde, ed, ed'⟩ := nn (x := qDe q) (by omega)
  obtain ⟨cf, hcf, ef, ef'⟩ := nn (x := qFr q) (by omega)
  obtain ⟨ct, hct, et, et'⟩ := nn (x := qTo q) (by omega)
  exact ⟨sp, de, ba, as, an, bi, cf, ct, ⟨a1.trans es, es, by omega, by omega⟩, ⟨a2.trans ed, ed, by omega, by omega⟩, ⟨b5.trans ef, ef, b6.trans et, et, by omega, by omega⟩, ⟨c1, c2, by omega, c3⟩, ⟨c4, c5, c6⟩, ⟨c7, c8, c9⟩, ⟨c10, c11, c12⟩, ⟨a3, a4, a4'⟩, ha, hw, hbt⟩
/-! who is asked for, and what with -/
def inN (k : Int32) (n : Nat) : Prop := 0 ≤ k.toInt ∧ k.toInt < (n : Int)
theorem inN_of {k : Int32} {n : Nat} (h : inN k n) : ∃ a : Nat, a < n ∧ k = nI a := by
  obtain ⟨j, hj, e⟩ := inn_of h.1
  refine ⟨j, ?_, e⟩
  have := h.2
  rw [e, nI_toInt hj] at this
  omega
theorem wi_n {k : Int32} {n : Nat} (hn : n ≤ 100000) : (inN k n → f_X10_within k 0 (nI n - 1) = 1) ∧ (¬ inN k n → f_X10_within k 0 (nI n - 1) = 0) := by
  have e : (nI n - 1 : Int32).toInt = (n : Int) - 1 := by
    rw [isub_t (by rw [nI_toInt (by omega), ltv_1]; omega) (by rw [nI_toInt (by omega), ltv_1]; omega), nI_toInt (by omega), ltv_1]
  unfold f_X10_within inN
  constructor
  · intro h
    rw [if_neg (by rw [fa_lt, ltv_0]; omega), if_neg (by rw [fa_lt, e]; omega)]
  · intro h
    by_cases c : k < 0
    · rw [if_pos c]
    · rw [if_neg c, if_pos]
      rw [fa_lt, ltv_0] at c
      rw [fa_lt, e]
      omega
theorem wi_r {k : Int32} {a b : Nat} (hb : b ≤ 100000) (ha : a ≤ 100000) : ((a : Int) ≤ k.toInt ∧ k.toInt ≤ (b : Int) → f_X10_within k (nI a) (nI b) = 1) ∧ (¬ ((a : Int) ≤ k.toInt ∧ k.toInt ≤ (b : Int)) → f_X10_within k (nI a) (nI b) = 0) := by
  unfold f_X10_within
  constructor
  · intro h
    rw [if_neg (by rw [fa_lt, nI_toInt (by omega)]; omega), if_neg (by rw [fa_lt, nI_toInt (by omega)]; omega)]
  · intro h
    by_cases c : k < nI a
    · rw [if_pos c]
    · rw [if_neg c, if_pos]
      rw [fa_lt, nI_toInt (by omega)] at c
      rw [fa_lt, nI_toInt (by omega)]
      omega
theorem in_wi (a b c : Int32) : f_X12_in a b c = f_X10_within a b c := rfl
theorem is_n {k x : Int32} {n : Nat} (hx : x = nI n) (hn : n ≤ 100000) : (inN k n → (if k < (0 : Int32) then (0 : Int32) else (if x ≤ k then (0 : Int32) else (1 : Int32))) = 1) ∧ (¬ inN k n → (if k < (0 : Int32) then (0 : Int32) else (if x ≤ k then (0 : Int32) else (1 : Int32))) = 0) := by
  subst hx
  unfold inN
  constructor
  · intro h
    rw [if_neg (by rw [fa_lt, ltv_0]; omega), if_neg (by rw [fa_le, nI_toInt (by omega)]; omega)]
  · intro h
    by_cases c : k < 0
    · rw [if_pos c]
    · rw [if_neg c, if_pos]
      rw [fa_lt, ltv_0] at c
      rw [fa_le, nI_toInt (by omega)]
      omega
section TROUBLE
variable {p : TX6_p} {q : TX11_q} {sp de ba as an bi cf ct : Nat}
theorem ref_0 (x : TX10_x) : f_X10_refused 0 x = (0, (0, x.2)) := rfl
theorem ref_n {v : Int32} (h : ¬ v = 0) (x : TX10_x) : f_X10_refused v x = (1, (v, x.2)) := if_neg h
theorem pt_0 (h : PQ p q sp de ba as an bi cf ct) : f_X10_pierTrouble p = 0 := by
  obtain ⟨⟨h1, h2, h3, h4⟩, -⟩ := h
  unfold f_X10_pierTrouble
  rw [if_neg]
  rw [show p.1 = nI sp from h1]
  exact nI_ne0 (by omega) (by omega)
theorem nt_1 (h : PQ p q sp de ba as an bi cf ct) : f_X10_numberTrouble 1 p = 0 := by
  unfold f_X10_numberTrouble
  dsimp only [nm]
  rw [pt_0 h, if_pos rfl, if_neg one_ne]
  rfl
theorem nt_0 (h : PQ p q sp de ba as an bi cf ct) : f_X10_numberTrouble 0 p = 2 := by
  unfold f_X10_numberTrouble
  dsimp only [nm]
  rw [pt_0 h, if_pos rfl, if_pos rfl]
theorem hasAn (h : PQ p q sp de ba as an bi cf ct) (k : Int32) : (inN k an → f_X6_hasAnswer k p = 1 ∧ f_X12_isAnswer k q = 1) ∧ (¬ inN k an → f_X6_hasAnswer k p = 0 ∧ f_X12_isAnswer k q = 0) := by
  obtain ⟨-, -, -, -, -, ⟨h1, h2, h3⟩, -⟩ := h
  unfold f_X6_hasAnswer f_X12_isAnswer nm
  rw [show p.2.2.2.2.2.2.1 = nI an from h1]
  exact ⟨fun c => ⟨(wi_n (by omega)).1 c, (is_n h2 (by omega)).1 c⟩, fun c => ⟨(wi_n (by omega)).2 c, (is_n h2 (by omega)).2 c⟩⟩
theorem hasAs (h : PQ p q sp de ba as an bi cf ct) (k : Int32) : (inN k as → f_X6_hasAsker k p = 1 ∧ f_X12_isAsker k q = 1) ∧ (¬ inN k as → f_X6_hasAsker k p = 0 ∧ f_X12_isAsker k q = 0) := by
  obtain ⟨-, -, -, -, ⟨h1, h2, h3⟩, -⟩ := h
  unfold f_X6_hasAsker f_X12_isAsker nm
  rw [show p.2.2.2.2.2.1 = nI as from h1]
  exact ⟨fun c => ⟨(wi_n (by omega)).1 c, (is_n h2 (by omega)).1 c⟩, fun c => ⟨(wi_n (by omega)).2 c, (is_n h2 (by omega)).2 c⟩⟩
theorem hasSp (h : PQ p q sp de ba as an bi cf ct) (k : Int32) : (inN k sp → f_X6_hasSpot k p = 1 ∧ f_X12_in k 0 (q.1 - 1) = 1) ∧ (¬ inN k sp → f_X6_hasSpot k p = 0 ∧ f_X12_in k 0 (q.1 - 1) = 0) := by
  obtain ⟨⟨h1, h2, h3, h4⟩, -⟩ := h
  unfold f_X6_hasSpot nm
  rw [in_wi, show p.1 = nI sp from h1, show q.1 = nI sp from h2]
  exact ⟨fun c => ⟨(wi_n (by omega)).1 c, (wi_n (by omega)).1 c⟩, fun c => ⟨(wi_n (by omega)).2 c, (wi_n (by omega)).2 c⟩⟩
theorem hasBa (h : PQ p q sp de ba as an bi cf ct) (k : Int32) : (inN k ba → f_X6_hasBait k p = 1 ∧ f_X12_in k 0 (q.2.2.2.2.1 - 1) = 1) ∧ (¬ inN k ba → f_X6_hasBait k p = 0 ∧ f_X12_in k 0 (q.2.2.2.2.1 - 1) = 0) := by
  obtain ⟨-, -, -, ⟨h1, h2, h3, h4⟩, -⟩ := h
  unfold f_X6_hasBait nm
  rw [in_wi, show p.2.2.2.2.1 = nI ba from h1, show q.2.2.2.2.1 = nI ba from h2]
  exact ⟨fun c => ⟨(wi_n (by omega)).1 c, (wi_n (by omega)).1 c⟩, fun c => ⟨(wi_n (by omega)).2 c, (wi_n (by omega)).2 c⟩⟩
def inF (k : Int32) (n : Nat) : Prop := (1 : Int) ≤ k.toInt ∧ k.toInt ≤ (n : Int)
theorem hasFa (h : PQ p q sp de ba as an bi cf ct) (k : Int32) : (inF k de → f_X10_within k 1 p.2.1 = 1 ∧ f_X12_in k 1 q.2.1 = 1) ∧ (¬ inF k de → f_X10_within k 1 p.2.1 = 0 ∧ f_X12_in k 1 q.2.1 = 0) := by
  obtain ⟨-, ⟨h1, h2, h3, h4⟩, -⟩ := h
  rw [in_wi, show p.2.1 = nI de from h1, show q.2.1 = nI de from h2]
  exact ⟨fun c => ⟨(wi_r (a := 1) (by omega) (by omega)).1 c, (wi_r (a := 1) (by omega) (by omega)).1 c⟩, fun c => ⟨(wi_r (a := 1) (by omega) (by omega)).2 c, (wi_r (a := 1) (by omega) (by omega)).2 c⟩⟩
/-- why a question can't be: the same on both sides -/
theorem qt_eq (h : PQ p q sp de ba as an bi cf ct) (s f b : Int32) : (f_X10_questionTrouble s f b p = 1 ∧ f_X12_refusesQuestion 1 s f b q = 1) ∨ (f_X10_questionTrouble s f b p = 2 ∧ f_X12_refusesQuestion 1 s f b q = 2) ∨ (f_X10_questionTrouble s f b p = 0 ∧ f_X12_refusesQuestion 1 s f b q = 0 ∧ inN s sp ∧ inF f de ∧ inN b ba) := by
  unfold f_X10_questionTrouble f_X12_refusesQuestion
  dsimp only [nm]
  rw [if_neg one_ne]
  by_cases c1 : inN s sp
  · obtain ⟨e1, e2⟩ := (hasSp h s).1 c1
    rw [e1, e2, if_neg one_ne, if_neg one_ne]
    by_cases c2 : inN b ba
    · obtain ⟨e3, e4⟩ := (hasBa h b).1 c2
      rw [e3, e4, if_neg one_ne, if_neg one_ne]
      by_cases c3 : inF f de
      · obtain ⟨e5, e6⟩ := (hasFa h f).1 c3
        rw [e5, e6, if_neg one_ne]
        exact Or.inr (Or.inr ⟨rfl, rfl, c1, c3, c2⟩)
      · obtain ⟨e5, e6⟩ := (hasFa h f).2 c3
        rw [e5, e6, if_pos rfl]
        exact Or.inr (Or.inl ⟨rfl, rfl⟩)
    · obtain ⟨e3, e4⟩ := (hasBa h b).2 c2
      rw [e3, e4, if_pos rfl, if_pos rfl]
      exact Or.inl ⟨rfl, rfl⟩
  · obtain ⟨e1, e2⟩ := (hasSp h s).2 c1
    rw [e1, e2, if_pos rfl, if_pos rfl]
    exact Or.inl ⟨rfl, rfl⟩
theorem wt_eq (h : PQ p q sp de ba as an bi cf ct) (a s f b : Int32) : ∃ tr : Int32, f_X10_wishTrouble a s f b p = tr ∧ f_X12_refusesQuestion (f_X12_isAnswer a q) s f b q = tr ∧ ((tr = 1 ∨ tr = 2) ∨ (tr = 0 ∧ inN a an ∧ inN s sp ∧ inF f de ∧ inN b ba)) := by
  unfold f_X10_wishTrouble f_X10_answerTrouble
  dsimp only [nm]
  by_cases c : inN a an
  · obtain ⟨e1, e2⟩ := (hasAn h a).1 c
    rw [e1, e2, if_neg one_ne, if_pos rfl]
    rcases qt_eq h s f b with ⟨g1, g2⟩ | ⟨g1, g2⟩ | ⟨g1, g2, g3, g4, g5⟩
    · exact ⟨1, g1, g2, Or.inl (Or.inl rfl)⟩
    · exact ⟨2, g1, g2, Or.inl (Or.inr rfl)⟩
    · exact ⟨0, g1, g2, Or.inr ⟨rfl, c, g3, g4, g5⟩⟩
  · obtain ⟨e1, e2⟩ := (hasAn h a).2 c
    rw [e1, e2, if_pos rfl, if_neg one_ne]
    exact ⟨1, rfl, rfl, Or.inl (Or.inl rfl)⟩
end TROUBLE
/-! wishes, and calls that ask the pier alone -/
theorem nI_mul (a b : Nat) : nI a * nI b = nI (a * b) := (Int32.ofNat_mul a b).symm
theorem qu_n (s f b : Nat) : f_X10_question (nI s) (nI f) (nI b) = nI (100 * s + 10 * f + b) := by
  unfold f_X10_question
  rw [show (100 : Int32) * nI s = nI (100 * s) from nI_mul 100 s, show (10 : Int32) * nI f = nI (10 * f) from nI_mul 10 f, nI_add, nI_add]
theorem sp_of {s f b : Nat} (hs : s ≤ 100) (hf : f ≤ 9) (hb : b ≤ 9) : f_X10_spotOf (nI (100 * s + 10 * f + b)) = nI s := by
  unfold f_X10_spotOf
  rw [show (100 : Int32) = nI 100 from rfl, pk_div (by omega) (by omega) (by omega)]
  exact congrArg nI (by omega)
theorem fa_of {s f b : Nat} (hs : s ≤ 100) (hf : f ≤ 9) (hb : b ≤ 9) : f_X10_fathomsOf (nI (100 * s + 10 * f + b)) = nI f := by
  unfold f_X10_fathomsOf
  dsimp only [nm]
  rw [show (10 : Int32) = nI 10 from rfl, pk_div (by omega) (by omega) (by omega), pk_rem (by omega) (by omega) (by omega)]
  exact congrArg nI (by omega)
theorem ba_of {s f b : Nat} (hs : s ≤ 100) (hf : f ≤ 9) (hb : b ≤ 9) : f_X10_baitOf (nI (100 * s + 10 * f + b)) = nI b := by
  unfold f_X10_baitOf
  rw [show (10 : Int32) = nI 10 from rfl, pk_rem (by omega) (by omega) (by omega)]
  exact congrArg nI (by omega)
theorem l10_t {Z : Int32} (h1 : 0 ≤ Z.toInt) (h2 : Z.toInt ≤ 20) : ((10 : Int32) * Z).toInt = 10 * Z.toInt := by
  rw [imul_t (by rw [ltv_10]; omega) (by rw [ltv_10]; omega), ltv_10]
theorem l8_t {Z : Int32} (h1 : 0 ≤ Z.toInt) (h2 : Z.toInt ≤ 20) : ((8 : Int32) * Z).toInt = 8 * Z.toInt := by
  rw [imul_t (by rw [ltv_8]; omega) (by rw [ltv_8]; omega), ltv_8]
theorem lin_0 {hu Z : Int32} (h1 : 0 ≤ hu.toInt) (h2 : hu.toInt ≤ 99) (z1 : 0 ≤ Z.toInt) (z2 : Z.toInt ≤ 20) : (hu - 10 * Z).toInt = hu.toInt - 10 * Z.toInt := by
  rw [isub_t (by rw [l10_t z1 z2]; omega) (by rw [l10_t z1 z2]; omega), l10_t z1 z2]
theorem lin_t {hu Z t : Int32} (h1 : 0 ≤ hu.toInt) (h2 : hu.toInt ≤ 99) (z1 : 0 ≤ Z.toInt) (z2 : Z.toInt ≤ 20) (t1 : -20 ≤ t.toInt) (t2 : t.toInt ≤ 20) : ((hu - 10 * Z) + t).toInt = hu.toInt - 10 * Z.toInt + t.toInt := by
  rw [iadd_t (by rw [lin_0 h1 h2 z1 z2]; omega) (by rw [lin_0 h1 h2 z1 z2]; omega), lin_0 h1 h2 z1 z2]
theorem lin_8 {v Z : Int32} (h1 : -1000 ≤ v.toInt) (h2 : v.toInt ≤ 1000) (z1 : 0 ≤ Z.toInt) (z2 : Z.toInt ≤ 20) : (v - 8 * Z).toInt = v.toInt - 8 * Z.toInt := by
  rw [isub_t (by rw [l8_t z1 z2]; omega) (by rw [l8_t z1 z2]; omega), l8_t z1 z2]
theorem lin_m {hu Z t : Int32} (h1 : 0 ≤ hu.toInt) (h2 : hu.toInt ≤ 99) (z1 : 0 ≤ Z.toInt) (z2 : Z.toInt ≤ 20) (t1 : -20 ≤ t.toInt) (t2 : t.toInt ≤ 20) : ((hu + t) - 10 * Z).toInt = hu.toInt - 10 * Z.toInt + t.toInt := by
  have e : (hu + t).toInt = hu.toInt + t.toInt := iadd_t (by omega) (by omega)
  rw [isub_t (by rw [l10_t z1 z2, e]; omega) (by rw [l10_t z1 z2, e]; omega), l10_t z1 z2, e]
  omega
/-- the WISH of an answer, by some hunger, for a question -/
def wI (q : TX11_q) (a : Nat) (hu : Int) (s f b : Nat) : Int := cI (hu - 10 * aI ((s : Int) - (qSt q a).toInt) + (if qKi q a = 3 then -20 else if qLi q a = nI b then 20 else 0) - (if qKi q a = 2 then 0 else 8 * aI ((f : Int) - (qDp q a).toInt)))
section WISHES
variable {p : TX6_p} {q : TX11_q} {sp de ba as an bi cf ct : Nat}
theorem wj53 (h : PQ p q sp de ba as an bi cf ct) {a s f b : Nat} (ha : a < an) (hs : s < sp) (hf : f ≤ de) (hb : b < ba) (v : Int32) (h1 : -1000 ≤ v.toInt) (h2 : v.toInt ≤ 1000) : ∃ r, f_X6_wishBy_J53 (nI a) (nI (100 * s + 10 * f + b)) p v = some r ∧ r.toInt = cI (v.toInt - (if qKi q a = 2 then 0 else 8 * aI ((f : Int) - (qDp q a).toInt))) := by
  obtain ⟨⟨a1, a2, a3, a4⟩, ⟨b1, b2, b3, b4⟩, -, ⟨c1, c2, c3, c4⟩, -, ⟨n1, n2, n3⟩, -, -, -, hw, -⟩ := h
  obtain ⟨⟨k1, k2, k3⟩, -, ⟨d1, d2, d3⟩, -, -, -⟩ := hw a ha
  rw [b2, nI_toInt (by omega)] at d3
  have hv : vp_in (nI a) 6 := vin (by omega) (by omega)
  have ef : (nI f).toInt = (f : Int) := nI_toInt (by omega)
  have eY0 : (nI f - qDp q a).toInt = (f : Int) - (qDp q a).toInt := by rw [isub_t (by rw [ef]; omega) (by rw [ef]; omega), ef]
  have eY : (iabs (nI f - qDp q a)).toInt = aI ((f : Int) - (qDp q a).toInt) := by rw [iabs_t (by rw [eY0]; omega) (by rw [eY0]; omega), eY0]
  have bY := aI_b (x := (f : Int) - (qDp q a).toInt) (n := 10) (by omega) (by omega)
  simp only [f_X6_wishBy_J53, f_X6_wishBy_J85, nm, gA_in hv, nI_clamp (show a < 2 ^ 31 by omega), fa_of (show s ≤ 100 by omega) (show f ≤ 9 by omega) (show b ≤ 9 by omega), k1, d1]
  by_cases c2 : qKi q a = 2
  · rw [if_pos c2, if_pos c2]
    refine ⟨_, rfl, ?_⟩
    rw [mm_t]
    exact congrArg cI (by omega)
  · rw [if_neg c2, if_neg c2]
    refine ⟨_, rfl, ?_⟩
    rw [mm_t, lin_8 h1 h2 (by rw [eY]; omega) (by rw [eY]; omega), eY]
theorem wx (h : PQ p q sp de ba as an bi cf ct) {a s f b : Nat} (ha : a < an) (hs : s < sp) (hf : f ≤ de) (hb : b < ba) {hu : Int32} (h1 : 0 ≤ hu.toInt) (h2 : hu.toInt ≤ 99) : ∃ r, f_X6_wishBy (nI a) hu (nI (100 * s + 10 * f + b)) p = some r ∧ r.toInt = wI q a hu.toInt s f b := by
  have W := wj53 h ha hs hf hb
  obtain ⟨⟨a1, a2, a3, a4⟩, ⟨b1, b2, b3, b4⟩, -, ⟨c1, c2, c3, c4⟩, -, ⟨n1, n2, n3⟩, -, -, -, hw, -⟩ := h
  obtain ⟨⟨k1, k2, k3⟩, ⟨t1, t2, t3⟩, -, -, ⟨l1, l2, l3⟩, -⟩ := hw a ha
  rw [a2, nI_toInt (by omega)] at t3
  have hv : vp_in (nI a) 6 := vin (by omega) (by omega)
  have es : (nI s).toInt = (s : Int) := nI_toInt (by omega)
  have eZ0 : (nI s - qSt q a).toInt = (s : Int) - (qSt q a).toInt := by rw [isub_t (by rw [es]; omega) (by rw [es]; omega), es]
  have eZ : (iabs (nI s - qSt q a)).toInt = aI ((s : Int) - (qSt q a).toInt) := by rw [iabs_t (by rw [eZ0]; omega) (by rw [eZ0]; omega), eZ0]
  have bZ := aI_b (x := (s : Int) - (qSt q a).toInt) (n := 10) (by omega) (by omega)
  simp only [f_X6_wishBy, nm, gA_in hv, nI_clamp (show a < 2 ^ 31 by omega), sp_of (show s ≤ 100 by omega) (show f ≤ 9 by omega) (show b ≤ 9 by omega), ba_of (show s ≤ 100 by omega) (show f ≤ 9 by omega) (show b ≤ 9 by omega), k1, t1, l1]
  unfold wI
  have L0 := lin_0 (Z := iabs (nI s - qSt q a)) h1 h2 (by rw [eZ]; omega) (by rw [eZ]; omega)
  rw [eZ] at L0
  have L : ∀ t : Int32, -20 ≤ t.toInt → t.toInt ≤ 20 → ((hu - 10 * iabs (nI s - qSt q a)) + t).toInt = hu.toInt - 10 * aI ((s : Int) - (qSt q a).toInt) + t.toInt := fun t t1 t2 => by rw [lin_t h1 h2 (by rw [eZ]; omega) (by rw [eZ]; omega) t1 t2, eZ]
  have fin : ∀ (t : Int32) (tt : Int), t.toInt = tt → -20 ≤ tt → tt ≤ 20 → ∃ r, f_X6_wishBy_J53 (nI a) (nI (100 * s + 10 * f + b)) p ((hu - 10 * iabs (nI s - qSt q a)) + t) = some r ∧ r.toInt = cI (hu.toInt - 10 * aI ((s : Int) - (qSt q a).toInt) + tt - (if qKi q a = 2 then 0 else 8 * aI ((f : Int) - (qDp q a).toInt))) := by
    intro t tt et t1 t2
    have Lt := L t (by omega) (by omega)
    rw [et] at Lt
    obtain ⟨r, e1, e2⟩ := W ((hu - 10 * iabs (nI s - qSt q a)) + t) (by rw [Lt]; omega) (by rw [Lt]; omega)
    rw [Lt] at e2
    exact ⟨r, e1, e2⟩
  by_cases c3 : qKi q a = 3
  · rw [if_pos c3, if_pos c3]
    exact fin (-20) (-20) (by decide) (by omega) (by omega)
  · rw [if_neg c3, if_neg c3]
    by_cases cl : qLi q a = nI b
    · rw [if_pos cl, if_pos cl]
      exact fin 20 20 (by decide) (by omega) (by omega)
    · rw [if_neg cl, if_neg cl, Int.add_zero]
      obtain ⟨r, e1, e2⟩ := W (hu - 10 * iabs (nI s - qSt q a)) (by rw [L0]; omega) (by rw [L0]; omega)
      rw [L0] at e2
      exact ⟨r, e1, e2⟩
theorem wm (h : PQ p q sp de ba as an bi cf ct) {a s f b : Nat} (ha : a < an) (hs : s < sp) (hf : f ≤ de) (hb : b < ba) {hu : Int32} (h1 : 0 ≤ hu.toInt) (h2 : hu.toInt ≤ 99) : ∃ r, f_X11_wishBy hu (nI a) (nI s) (nI f) (nI b) q = some r ∧ r.toInt = wI q a hu.toInt s f b := by
  obtain ⟨⟨a1, a2, a3, a4⟩, ⟨b1, b2, b3, b4⟩, -, ⟨c1, c2, c3, c4⟩, -, ⟨n1, n2, n3⟩, -, -, -, hw, -⟩ := h
  obtain ⟨⟨k1, k2, k3⟩, ⟨t1, t2, t3⟩, ⟨d1, d2, d3⟩, -, ⟨l1, l2, l3⟩, -⟩ := hw a ha
  rw [a2, nI_toInt (by omega)] at t3
  rw [b2, nI_toInt (by omega)] at d3
  have hv : vp_in (nI a) 6 := vin (by omega) (by omega)
  have es : (nI s).toInt = (s : Int) := nI_toInt (by omega)
  have ef : (nI f).toInt = (f : Int) := nI_toInt (by omega)
  have eZ : (f_X12_apart (qSt q a) (nI s)).toInt = aI ((s : Int) - (qSt q a).toInt) := by rw [apart_t (by omega) (by omega) (by rw [es]; omega) (by rw [es]; omega), es, aI_neg]
  have eY : (f_X12_apart (qDp q a) (nI f)).toInt = aI ((f : Int) - (qDp q a).toInt) := by rw [apart_t (by omega) (by omega) (by rw [ef]; omega) (by rw [ef]; omega), ef, aI_neg]
  have bZ := aI_b (x := (s : Int) - (qSt q a).toInt) (n := 10) (by omega) (by omega)
  have bY := aI_b (x := (f : Int) - (qDp q a).toInt) (n := 10) (by omega) (by omega)
  simp only [f_X11_wishBy, f_X11_wishBy_J33, f_X11_wishBy_J82, nm, gA_in hv, nI_clamp (show a < 2 ^ 31 by omega)]
  unfold wI
  have L : ∀ t : Int32, -20 ≤ t.toInt → t.toInt ≤ 20 → ((hu + t) - 10 * f_X12_apart (qSt q a) (nI s)).toInt = hu.toInt - 10 * aI ((s : Int) - (qSt q a).toInt) + t.toInt := fun t t1 t2 => by rw [lin_m h1 h2 (by rw [eZ]; omega) (by rw [eZ]; omega) t1 t2, eZ]
  have E8 : ∀ v : Int32, -1000 ≤ v.toInt → v.toInt ≤ 1000 → (v - 8 * f_X12_apart (qDp q a) (nI f)).toInt = v.toInt - 8 * aI ((f : Int) - (qDp q a).toInt) := fun v v1 v2 => by rw [lin_8 v1 v2 (by rw [eY]; omega) (by rw [eY]; omega), eY]
  have fin : ∀ (t : Int32) (tt : Int), t.toInt = tt → -20 ≤ tt → tt ≤ 20 → ∃ r, (if qKi q a = 2 then some (f_X11_cut ((hu + t) - 10 * f_X12_apart (qSt q a) (nI s))) else some (f_X11_cut (((hu + t) - 10 * f_X12_apart (qSt q a) (nI s)) - 8 * f_X12_apart (qDp q a) (nI f)))) = some r ∧ r.toInt = cI (hu.toInt - 10 * aI ((s : Int) - (qSt q a).toInt) + tt - (if qKi q a = 2 then 0 else 8 * aI ((f : Int) - (qDp q a).toInt))) := by
    intro t tt et t1 t2
    have Lt := L t (by omega) (by omega)
    rw [et] at Lt
    by_cases c2 : qKi q a = 2
    · rw [if_pos c2, if_pos c2]
      refine ⟨_, rfl, ?_⟩
      rw [cut_t, Lt]
      exact congrArg cI (by omega)
    · rw [if_neg c2, if_neg c2]
      refine ⟨_, rfl, ?_⟩
      rw [cut_t, E8 _ (by rw [Lt]; omega) (by rw [Lt]; omega), Lt]
  by_cases c3 : qKi q a = 3
  · rw [if_pos c3, if_pos c3]
    exact fin (-20) (-20) (by decide) (by omega) (by omega)
  · rw [if_neg c3, if_neg c3]
    by_cases cl : qLi q a = nI b
    · rw [if_pos cl, if_pos cl]
      exact fin 20 20 (by decide) (by omega) (by omega)
    · rw [if_neg cl, if_neg cl]
      exact fin 0 0 (by decide) (by omega) (by omega)
/-- the same WISH on both sides -/
theorem wish_by (h : PQ p q sp de ba as an bi cf ct) {a s f b : Nat} (ha : a < an) (hs : s < sp) (hf : f ≤ de) (hb : b < ba) {hu : Int32} (h1 : 0 ≤ hu.toInt) (h2 : hu.toInt ≤ 99) : ∃ r, f_X6_wishBy (nI a) hu (nI (100 * s + 10 * f + b)) p = some r ∧ f_X11_wishBy hu (nI a) (nI s) (nI f) (nI b) q = some r ∧ r.toInt = wI q a hu.toInt s f b := by
  obtain ⟨r, e1, e2⟩ := wx h ha hs hf hb h1 h2
  obtain ⟨r', e3, e4⟩ := wm h ha hs hf hb h1 h2
  obtain rfl : r' = r := Int32.toInt_inj.mp (e4.trans e2.symm)
  exact ⟨r', e1, e3, e2⟩
theorem wish_for (h : PQ p q sp de ba as an bi cf ct) {a s f b : Nat} (ha : a < an) (hs : s < sp) (hf : f ≤ de) (hb : b < ba) : ∃ r, f_X6_wishFor (nI a) (nI (100 * s + 10 * f + b)) p = some r ∧ f_X11_wish (nI a) (nI s) (nI f) (nI b) q = some r ∧ r.toInt = wI q a (qHu q a).toInt s f b := by
  obtain ⟨-, -, -, -, -, ⟨n1, n2, n3⟩, -, -, -, hw, -⟩ := id h
  obtain ⟨-, -, -, ⟨u1, u2, u3⟩, -⟩ := hw a ha
  obtain ⟨r, e1, e2, e3⟩ := wish_by h ha hs hf hb u2 u3
  have hv : vp_in (nI a) 6 := vin (by omega) (by omega)
  refine ⟨r, ?_, ?_, e3⟩
  · rw [f_X6_wishFor, gA_in hv, nI_clamp (by omega), show p.2.2.2.2.2.2.2.2.2.2.2.2.2.1 a = qHu q a from u1, e1, Option.bind_some]
  · rw [f_X11_wish, gA_in hv, nI_clamp (by omega)]
    show Option.bind (f_X11_wishBy (qHu q a) (nI a) (nI s) (nI f) (nI b) q) _ = _
    rw [e2, Option.bind_some]
theorem inF_of {k : Int32} {n : Nat} (h : inF k n) : ∃ f : Nat, 1 ≤ f ∧ f ≤ n ∧ k = nI f := by
  obtain ⟨j, hj, e⟩ := inn_of (show 0 ≤ k.toInt by have := h.1; omega)
  have h1 := h.1
  have h2 := h.2
  rw [e, nI_toInt hj] at h1 h2
  exact ⟨j, by omega, by omega, e⟩
theorem eq_wish (h : PQ p q sp de ba as an bi cf ct) (k1 k2 k3 k4 : Int32) (x : TX10_x) (t : TX12_t) : ∃ (r tr : Int32), f_X10_wish k1 k2 k3 k4 x p = some (r, (tr, x.2)) ∧ f_X12_wish k1 k2 k3 k4 t q = some (r, (0, tr, -1)) := by
  obtain ⟨tr, e1, e2, hc⟩ := wt_eq h k1 k2 k3 k4
  rw [f_X10_wish, f_X12_wish]
  dsimp only [nm]
  rw [e1, e2]
  rcases hc with hc | ⟨rfl, g1, g2, g3, g4⟩
  · have h0 : ¬ tr = 0 := by rcases hc with rfl | rfl <;> decide
    have h1 : ¬ tr ≤ 0 := by rcases hc with rfl | rfl <;> decide
    rw [ref_n h0, if_neg one_ne, if_neg h1]
    exact ⟨-1, tr, rfl, rfl⟩
  · obtain ⟨a, ha, rfl⟩ := inN_of g1
    obtain ⟨s, hs, rfl⟩ := inN_of g2
    obtain ⟨f, hf1, hf, rfl⟩ := inF_of g3
    obtain ⟨b, hb, rfl⟩ := inN_of g4
    obtain ⟨r, w1, w2, -⟩ := wish_for h ha hs hf hb
    rw [ref_0, if_pos rfl, qu_n, w1, Option.bind_some, if_pos (show (0 : Int32) ≤ 0 by decide), w2, Option.bind_some]
    exact ⟨r, 0, rfl, rfl⟩
theorem eq_hunger_L (h : PQ p q sp de ba as an bi cf ct) {a s f b : Nat} (ha : a < an) (hs : s < sp) (hf : f ≤ de) (hb : b < ba) (o : Int32 × TX10_x) (t : TX12_t) : ∀ (n : Nat) (v : Int32), 0 ≤ v.toInt → v.toInt ≤ 100 → ∃ w : Option Int32, f_X10_hungerFor_L30 (nI a) p o (nI (100 * s + 10 * f + b)) n v = w.map (fun r => (r, o.2)) ∧ f_X12_hungerFor_L35 (nI a) (nI s) (nI f) (nI b) t q n v = w.map (fun r => (r, (0, 0, -1))) := by
  intro n
  induction n with
  | zero => intro v _ _; exact ⟨none, rfl, rfl⟩
  | succ n ih =>
    intro v v1 v2
    rw [f_X10_hungerFor_L30, f_X12_hungerFor_L35]
    by_cases c : (99 : Int32) < v
    · rw [if_pos c, if_pos c]
      exact ⟨some (-2), rfl, rfl⟩
    · rw [if_neg c, if_neg c]
      rw [fa_lt, ltv_99] at c
      obtain ⟨r, w1, w2, -⟩ := wish_by h ha hs hf hb v1 (by omega)
      rw [w1, w2, Option.bind_some, Option.bind_some]
      by_cases c2 : r < 50
      · rw [if_pos c2, if_pos c2]
        have e : (v + 1).toInt = v.toInt + 1 := by rw [iadd_t (by rw [ltv_1]; omega) (by rw [ltv_1]; omega), ltv_1]
        exact ih (v + 1) (by omega) (by omega)
      · rw [if_neg c2, if_neg c2]
        exact ⟨some v, rfl, rfl⟩
theorem eq_hungerFor (h : PQ p q sp de ba as an bi cf ct) (k1 k2 k3 k4 : Int32) (x : TX10_x) (t : TX12_t) : ∃ (w : Option Int32) (tr : Int32), f_X10_hungerFor k1 k2 k3 k4 x p = w.map (fun r => (r, (tr, x.2))) ∧ f_X12_hungerFor k1 k2 k3 k4 t q = w.map (fun r => (r, (0, tr, -1))) := by
  obtain ⟨tr, e1, e2, hc⟩ := wt_eq h k1 k2 k3 k4
  rw [f_X10_hungerFor, f_X12_hungerFor]
  dsimp only [nm]
  rw [e1, e2]
  rcases hc with hc | ⟨rfl, g1, g2, g3, g4⟩
  · have h0 : ¬ tr = 0 := by rcases hc with rfl | rfl <;> decide
    have h1 : ¬ tr ≤ 0 := by rcases hc with rfl | rfl <;> decide
    rw [ref_n h0, if_neg one_ne, if_neg h1]
    exact ⟨some (-1), tr, rfl, rfl⟩
  · obtain ⟨a, ha, rfl⟩ := inN_of g1
    obtain ⟨s, hs, rfl⟩ := inN_of g2
    obtain ⟨f, hf1, hf, rfl⟩ := inF_of g3
    obtain ⟨b, hb, rfl⟩ := inN_of g4
    rw [ref_0, if_pos rfl, qu_n, if_pos (show (0 : Int32) ≤ 0 by decide)]
    obtain ⟨w, e1, e2⟩ := eq_hunger_L h ha hs hf hb (0, (0, x.2)) t FU 0 (by decide) (by decide)
    exact ⟨w, 0, e1, e2⟩
theorem eq_close (h : PQ p q sp de ba as an bi cf ct) (k1 : Int32) (x : TX10_x) (t : TX12_t) : ∃ (r tr : Int32), f_X10_close k1 x p = (r, (tr, x.2)) ∧ f_X12_close k1 t q = (r, (0, tr, -1)) := by
  obtain ⟨-, -, ⟨c1, c2, c3, c4, c5, c6⟩, -⟩ := id h
  have ec : f_X6_isClose k1 p = f_X11_isClose k1 q := by
    unfold f_X6_isClose f_X11_isClose nm f_X10_within
    rw [show p.2.2.1 = nI cf from c1, show q.2.2.1 = nI cf from c2, show p.2.2.2.1 = nI ct from c3, show q.2.2.2.1 = nI ct from c4]
  rw [f_X10_close, f_X12_close]
  dsimp only [nm]
  rw [in_wi]
  have w01 : f_X10_within k1 0 999 = 0 ∨ f_X10_within k1 0 999 = 1 := by
    unfold f_X10_within
    by_cases a1 : k1 < 0
    · rw [if_pos a1]
      exact Or.inl rfl
    · rw [if_neg a1]
      by_cases a2 : (999 : Int32) < k1
      · rw [if_pos a2]
        exact Or.inl rfl
      · rw [if_neg a2]
        exact Or.inr rfl
  rcases w01 with e | e
  · rw [e, nt_0 h, ref_n (show ¬ (2 : Int32) = 0 by decide), if_neg one_ne, if_pos rfl]
    exact ⟨-1, 2, rfl, rfl⟩
  · rw [e, nt_1 h, ref_0, if_pos rfl, if_neg one_ne, ec]
    by_cases c : f_X11_isClose k1 q = 0
    · rw [if_pos c, if_pos c]
      exact ⟨0, 0, rfl, rfl⟩
    · rw [if_neg c, if_neg c]
      exact ⟨1, 0, rfl, rfl⟩
theorem w01 (a b c : Int32) : f_X10_within a b c = 0 ∨ f_X10_within a b c = 1 := by
  unfold f_X10_within
  by_cases a1 : a < b
  · rw [if_pos a1]
    exact Or.inl rfl
  · rw [if_neg a1]
    by_cases a2 : c < a
    · rw [if_pos a2]
      exact Or.inl rfl
    · rw [if_neg a2]
      exact Or.inr rfl
theorem eq_tangles (h : PQ p q sp de ba as an bi cf ct) (k1 k2 k3 k4 : Int32) (x : TX10_x) (t : TX12_t) : ∃ (r tr : Int32), f_X10_tangles k1 k2 k3 k4 x p = some (r, (tr, x.2)) ∧ f_X12_tangles k1 k2 k3 k4 t q = some (r, (0, tr, -1)) := by
  have bad : f_X10_tangles_J54 k1 k2 k3 k4 x p = some (-1, (1, x.2)) := by
    rw [f_X10_tangles_J54, f_X10_tangles_J55, if_pos rfl, f_X10_tangles_J68, nm, ref_n one_ne, if_neg one_ne]
  have badm : f_X12_tangles_J61 t = some (-1, (0, 1, -1)) := rfl
  rw [f_X10_tangles, f_X12_tangles]
  dsimp only [nm]
  by_cases g1 : inN k1 as
  · obtain ⟨e1, e2⟩ := (hasAs h k1).1 g1
    rw [e1, e2, if_neg one_ne, if_neg one_ne]
    by_cases g2 : inN k3 as
    · obtain ⟨e3, e4⟩ := (hasAs h k3).1 g2
      rw [e3, e4, if_neg one_ne, if_neg one_ne]
      by_cases g3 : k1 = k3
      · rw [if_pos g3, if_pos g3, bad, badm]
        exact ⟨-1, 1, rfl, rfl⟩
      · rw [if_neg g3, if_neg g3]
        by_cases g4 : inN k2 sp
        · obtain ⟨e5, e6⟩ := (hasSp h k2).1 g4
          rw [e5, e6, if_neg one_ne, if_neg one_ne]
          by_cases g5 : inN k4 sp
          · obtain ⟨e7, e8⟩ := (hasSp h k4).1 g5
            rw [e7, e8, if_neg one_ne, if_neg one_ne, f_X10_tangles_J55, if_neg one_ne, f_X10_tangles_J68, nm, ref_0, if_pos rfl]
            obtain ⟨⟨a1, a2, a3, a4⟩, -, -, -, ⟨s1, s2, s3⟩, -, -, -, hr, -⟩ := id h
            obtain ⟨i, hi, rfl⟩ := inN_of g1
            obtain ⟨j, hj, rfl⟩ := inN_of g2
            obtain ⟨u, hu, rfl⟩ := inN_of g4
            obtain ⟨v, hv, rfl⟩ := inN_of g5
            obtain ⟨r1, -, -⟩ := hr i hi
            obtain ⟨r2, -, -⟩ := hr j hj
            have eu : (nI u).toInt = (u : Int) := nI_toInt (by omega)
            have ev : (nI v).toInt = (v : Int) := nI_toInt (by omega)
            have ed : (nI u - nI v).toInt = (u : Int) - (v : Int) := by rw [isub_t (by rw [eu, ev]; omega) (by rw [eu, ev]; omega), eu, ev]
            have eab : iabs (nI u - nI v) = f_X12_apart (nI u) (nI v) := by
              apply Int32.toInt_inj.mp
              rw [iabs_t (by rw [ed]; omega) (by rw [ed]; omega), ed, apart_t (by rw [eu]; omega) (by rw [eu]; omega) (by rw [ev]; omega) (by rw [ev]; omega), eu, ev]
            have et : f_X6_isTangle (nI i) (nI u) (nI j) (nI v) p = f_X12_areTangled (nI i) (nI u) (nI j) (nI v) q := by
              simp only [f_X6_isTangle, f_X12_areTangled, nm, gA_in (vin (show i < 5 by omega) (by omega)), gA_in (vin (show j < 5 by omega) (by omega)), nI_clamp (show i < 2 ^ 31 by omega), nI_clamp (show j < 2 ^ 31 by omega), eab, r1, r2]
            rw [et]
            simp only [f_X12_areTangled, nm, gA_in (vin (show i < 5 by omega) (by omega)), gA_in (vin (show j < 5 by omega) (by omega)), nI_clamp (show i < 2 ^ 31 by omega), nI_clamp (show j < 2 ^ 31 by omega)]
            by_cases c : q.2.2.2.2.2.2.2.2.2.2.1 i + q.2.2.2.2.2.2.2.2.2.2.1 j < f_X12_apart (nI u) (nI v)
            · rw [if_pos c, Option.bind_some, Option.bind_some, if_pos rfl, if_pos rfl]
              exact ⟨0, 0, rfl, rfl⟩
            · rw [if_neg c, Option.bind_some, Option.bind_some, if_neg one_ne, if_neg one_ne]
              exact ⟨1, 0, rfl, rfl⟩
          · obtain ⟨e7, e8⟩ := (hasSp h k4).2 g5
            rw [e7, e8, if_pos rfl, if_pos rfl, bad, badm]
            exact ⟨-1, 1, rfl, rfl⟩
        · obtain ⟨e5, e6⟩ := (hasSp h k2).2 g4
          rw [e5, e6, if_pos rfl, if_pos rfl, bad, badm]
          exact ⟨-1, 1, rfl, rfl⟩
    · obtain ⟨e3, e4⟩ := (hasAs h k3).2 g2
      rw [e3, e4, if_pos rfl, if_pos rfl, bad, badm]
      exact ⟨-1, 1, rfl, rfl⟩
  · obtain ⟨e1, e2⟩ := (hasAs h k1).2 g1
    rw [e1, e2, if_pos rfl, if_pos rfl, bad, badm]
    exact ⟨-1, 1, rfl, rfl⟩
theorem gain_eq (k a b : Int32) (ha : 0 ≤ a.toInt) (ha2 : a.toInt ≤ 6) (hb : 0 ≤ b.toInt) (hb2 : b.toInt ≤ 6) : f_X9_gain k a b = f_X12_gets k a b := by
  have e : (a + b).toInt = a.toInt + b.toInt := iadd_t (by omega) (by omega)
  unfold f_X9_gain f_X12_gets f_X12_gets_J15
  by_cases c : a = 0
  · subst c
    rw [if_pos rfl]
    by_cases c2 : (0 : Int32) + b = 0
    · rw [if_pos c2]
      rfl
    · rw [if_neg c2, gZi_ne c2]
      have z : (k * 0) / (0 + b) = (0 : Int32) := by
        rw [Int32.mul_zero, Int32.zero_div]
      rw [z]
  · have c2 : ¬ a + b = 0 := fun z => by
      rw [fa_eq, e, ltv_0] at z
      exact c (by rw [fa_eq, ltv_0]; omega)
    rw [if_neg c2, if_neg c, gZi_ne c2]
theorem wi_b {k : Int32} {a b : Nat} (ha : a ≤ 100000) (hb : b ≤ 100000) (h : f_X10_within k (nI a) (nI b) = 1) : (a : Int) ≤ k.toInt ∧ k.toInt ≤ (b : Int) := by
  by_cases c : (a : Int) ≤ k.toInt ∧ k.toInt ≤ (b : Int)
  · exact c
  · have := (wi_r hb ha).2 c
    rw [h] at this
    exact absurd this one_ne
theorem eq_lines (h : PQ p q sp de ba as an bi cf ct) (k1 k2 k3 k4 : Int32) (x : TX10_x) (t : TX12_t) : ∃ (w : Option Int32) (tr : Int32), f_X10_lines k1 k2 k3 k4 x p = w.map (fun r => (r, (tr, x.2))) ∧ f_X12_lines k1 k2 k3 k4 t = w.map (fun r => (r, (0, tr, -1))) := by
  have bad : f_X10_lines_J34 k1 k2 k3 k4 x p = some (-100, (2, x.2)) := by
    rw [f_X10_lines_J34, f_X10_lines_J35, nm, nt_0 h, nm, ref_n (show ¬ (2 : Int32) = 0 by decide), if_neg one_ne]
  have badm : f_X12_lines_J48 t = some (-100, (0, 2, -1)) := rfl
  rw [f_X10_lines, f_X12_lines]
  dsimp only [nm]
  rw [in_wi, in_wi, in_wi]
  rcases w01 k1 0 99 with e1 | e1
  · rw [e1, if_pos rfl, if_pos rfl, bad, badm]
    exact ⟨some (-100), 2, rfl, rfl⟩
  · rw [e1, if_neg one_ne, if_neg one_ne]
    rcases w01 k2 0 6 with e2 | e2
    · rw [e2, if_pos rfl, if_pos rfl, bad, badm]
      exact ⟨some (-100), 2, rfl, rfl⟩
    · rw [e2, if_neg one_ne, if_neg one_ne]
      rcases w01 k3 0 6 with e3 | e3
      · rw [e3, if_pos rfl, if_pos rfl, bad, badm]
        exact ⟨some (-100), 2, rfl, rfl⟩
      · rw [e3, if_neg one_ne, if_neg one_ne, f_X10_lines_J35, nm, nt_1 h, nm, ref_0, if_pos rfl]
        obtain ⟨a1, a2⟩ := wi_b (a := 0) (b := 6) (by omega) (by omega) e2
        obtain ⟨b1, b2⟩ := wi_b (a := 0) (b := 6) (by omega) (by omega) e3
        by_cases c : k4 = 0
        · rw [if_pos c, if_pos c, gain_eq k1 k2 k3 (by omega) (by omega) (by omega) (by omega)]
          refine ⟨f_X12_gets k1 k2 k3, 0, ?_, ?_⟩ <;> cases f_X12_gets k1 k2 k3 <;> rfl
        · rw [if_neg c, if_neg c, gain_eq k1 k3 k2 (by omega) (by omega) (by omega) (by omega)]
          refine ⟨f_X12_gets k1 k3 k2, 0, ?_, ?_⟩ <;> cases f_X12_gets k1 k3 k2 <;> rfl
end WISHES
/-! worth, rests; and without a pier -/
section MORE
variable {p : TX6_p} {q : TX11_q} {sp de ba as an bi cf ct : Nat}
theorem keeps_eq (h : PQ p q sp de ba as an bi cf ct) {a : Nat} (ha : a < an) {l d : Int32} (h1 : 0 ≤ (d - l).toInt) (h2 : (d - l).toInt ≤ 5000) : f_X6_worthAfter (nI a) (d - l) p = f_X12_keeps (nI a) l d q := by
  obtain ⟨-, -, -, -, -, ⟨n1, n2, n3⟩, -, -, -, hw, -⟩ := id h
  obtain ⟨⟨k1, k2, k3⟩, -, -, -, -, ⟨u1, u2, u3⟩⟩ := hw a ha
  have hv : vp_in (nI a) 6 := vin (by omega) (by omega)
  have e5 : ((5 : Int32) * (d - l)).toInt = 5 * (d - l).toInt := by rw [imul_t (by rw [ltv_5]; omega) (by rw [ltv_5]; omega), ltv_5]
  simp only [f_X6_worthAfter, f_X12_keeps, nm, gA_in hv, nI_clamp (show a < 2 ^ 31 by omega), k1, u1]
  by_cases c1 : qKi q a = 1
  · rw [if_pos c1, if_pos c1]
  · rw [if_neg c1, if_neg c1]
    by_cases c3 : qKi q a = 3
    · rw [if_pos c3, if_pos c3]
      unfold imin
      by_cases c : (99 : Int32) ≤ qWo q a + (d - l)
      · rw [if_pos c, if_neg (show ¬ qWo q a + (d - l) < (99 : Int32) by rw [fa_lt]; rw [fa_le] at c; omega)]
      · rw [if_neg c, if_pos (show qWo q a + (d - l) < (99 : Int32) by rw [fa_lt]; rw [fa_le] at c; omega)]
    · rw [if_neg c3, if_neg c3]
      have es : (qWo q a - 5 * (d - l)).toInt = (qWo q a).toInt - 5 * (d - l).toInt := by rw [isub_t (by rw [e5]; omega) (by rw [e5]; omega), e5]
      unfold imax
      by_cases c : qWo q a ≤ 5 * (d - l)
      · rw [if_pos c, if_neg (show ¬ (0 : Int32) < qWo q a - 5 * (d - l) by rw [fa_lt, ltv_0, es]; rw [fa_le, e5] at c; omega)]
      · rw [if_neg c, if_pos (show (0 : Int32) < qWo q a - 5 * (d - l) by rw [fa_lt, ltv_0, es]; rw [fa_le, e5] at c; omega)]
theorem eq_worth (h : PQ p q sp de ba as an bi cf ct) (k1 k2 k3 : Int32) (x : TX10_x) (t : TX12_t) : ∃ (w : Option Int32) (tr : Int32), f_X10_worth k1 k2 k3 x p = w.map (fun r => (r, (tr, x.2))) ∧ f_X12_worth k1 k2 k3 t q = w.map (fun r => (r, (0, tr, -1))) := by
  rw [f_X10_worth, f_X12_worth, f_X10_answerTrouble]
  dsimp only [nm]
  by_cases g : inN k1 an
  · obtain ⟨e1, e2⟩ := (hasAn h k1).1 g
    rw [e1, e2, if_neg one_ne, if_neg one_ne, in_wi, in_wi]
    have bad : f_X10_worth_J33 k1 k2 k3 x p 0 = some (-1, (2, x.2)) := by
      rw [f_X10_worth_J33, f_X10_worth_J34, if_pos rfl, if_pos rfl, f_X10_worth_J53, nm, ref_n (show ¬ (2 : Int32) = 0 by decide), if_neg one_ne]
    have badm : f_X12_worth_J55 t = some (-1, (0, 2, -1)) := rfl
    rcases w01 k2 0 999 with a1 | a1
    · rw [a1, if_pos rfl, if_pos rfl, bad, badm]
      exact ⟨some (-1), 2, rfl, rfl⟩
    · rw [a1, if_neg one_ne, if_neg one_ne]
      obtain ⟨b1, b2⟩ := wi_b (a := 0) (b := 999) (by omega) (by omega) a1
      obtain ⟨l, hl, rfl⟩ := inn_of (show 0 ≤ k2.toInt by omega)
      rcases w01 k3 (nI l) 999 with a2 | a2
      · rw [a2, if_pos rfl, if_pos rfl, bad, badm]
        exact ⟨some (-1), 2, rfl, rfl⟩
      · rw [a2, if_neg one_ne, if_neg one_ne, f_X10_worth_J34, if_pos rfl, if_neg one_ne, f_X10_worth_J51, f_X10_worth_J53, nm, ref_0, if_pos rfl]
        rw [nI_toInt hl] at b1 b2
        obtain ⟨c1, c2⟩ := wi_b (a := l) (b := 999) (by omega) (by omega) a2
        have ed : (k3 - nI l).toInt = k3.toInt - (l : Int) := by rw [isub_t (by rw [nI_toInt hl]; omega) (by rw [nI_toInt hl]; omega), nI_toInt hl]
        obtain ⟨a, ha, rfl⟩ := inN_of g
        rw [keeps_eq h ha (by rw [ed]; omega) (by rw [ed]; omega)]
        refine ⟨f_X12_keeps (nI a) (nI l) k3 q, 0, ?_, ?_⟩ <;> cases f_X12_keeps (nI a) (nI l) k3 q <;> rfl
  · obtain ⟨e1, e2⟩ := (hasAn h k1).2 g
    rw [e1, e2, if_pos rfl, if_pos rfl]
    have bad : f_X10_worth_J33 k1 k2 k3 x p 1 = some (-1, (1, x.2)) := by
      rw [f_X10_worth_J33, f_X10_worth_J34, if_neg one_ne, f_X10_worth_J51, f_X10_worth_J53, nm, ref_n one_ne, if_neg one_ne]
    have bad2 : f_X10_worth_J34 k1 k2 k3 x p 1 1 = some (-1, (1, x.2)) := by
      rw [f_X10_worth_J34, if_neg one_ne, f_X10_worth_J51, f_X10_worth_J53, nm, ref_n one_ne, if_neg one_ne]
    refine ⟨some (-1), 1, ?_, rfl⟩
    rcases w01 k2 0 999 with a1 | a1
    · rw [a1, if_pos rfl, bad]
      rfl
    · rw [a1, if_neg one_ne]
      rcases w01 k3 k2 999 with a2 | a2
      · rw [a2, if_pos rfl, bad]
        rfl
      · rw [a2, if_neg one_ne, bad2]
        rfl
theorem rests_o (k : Int32) (o : Int32 × TX10_x) : ∀ (n : Nat) (a b : Int32), f_X10_rests_L24 k o n a b = (f_X10_rests_L24 k (0, 0, 0) n a b).map (fun z => (z.1, o.2)) := by
  intro n
  induction n with
  | zero => intro a b; rfl
  | succ n ih =>
    intro a b
    rw [f_X10_rests_L24, f_X10_rests_L24]
    by_cases c : (70 : Int32) ≤ a
    · rw [if_pos c, if_pos c]
      rfl
    · rw [if_neg c, if_neg c]
      cases f_X9_isRest k a with
      | none => rfl
      | some r =>
        rw [Option.bind_some, Option.bind_some]
        by_cases c2 : r = 0
        · rw [if_pos c2, if_pos c2]
          exact ih _ _
        · rw [if_neg c2, if_neg c2]
          exact ih _ _
theorem rests_m (k : Int32) (t : TX12_t) : ∀ (n : Nat) (a b : Int32), f_X12_rests_L26 k t n a b = (f_X12_rests_L26 k (0, 0, 0) n a b).map (fun z => (z.1, (0, 0, -1))) := by
  intro n
  induction n with
  | zero => intro a b; rfl
  | succ n ih =>
    intro a b
    rw [f_X12_rests_L26, f_X12_rests_L26]
    by_cases c : (49 : Int32) ≤ a
    · rw [if_pos c, if_pos c]
      rfl
    · rw [if_neg c, if_neg c]
      cases f_X12_isRest k (a / 7) (a - a / 7 * 7) with
      | none => rfl
      | some r =>
        rw [Option.bind_some, Option.bind_some]
        by_cases c2 : r = 0
        · rw [if_pos c2, if_pos c2]
          exact ih _ _
        · rw [if_neg c2, if_neg c2]
          exact ih _ _
theorem rest_o (k : Int32) (o : Int32 × TX10_x) : ∀ (n : Nat) (a : Int32), f_X10_rest_L22 k o n a = (f_X10_rest_L22 k (0, 0, 0) n a).map (fun z => (z.1, o.2)) := by
  intro n
  induction n with
  | zero => intro a; rfl
  | succ n ih =>
    intro a
    rw [f_X10_rest_L22, f_X10_rest_L22]
    by_cases c : (70 : Int32) ≤ a
    · rw [if_pos c, if_pos c]
      rfl
    · rw [if_neg c, if_neg c]
      cases f_X9_isRest k a with
      | none => rfl
      | some r =>
        rw [Option.bind_some, Option.bind_some]
        by_cases c2 : r = 0
        · rw [if_pos c2, if_pos c2]
          exact ih _
        · rw [if_neg c2, if_neg c2]
          rfl
theorem rest_m (k : Int32) (t : TX12_t) : ∀ (n : Nat) (a : Int32), f_X12_rest_L23 k t n a = (f_X12_rest_L23 k (0, 0, 0) n a).map (fun z => (z.1, (0, 0, -1))) := by
  intro n
  induction n with
  | zero => intro a; rfl
  | succ n ih =>
    intro a
    rw [f_X12_rest_L23, f_X12_rest_L23]
    by_cases c : (49 : Int32) ≤ a
    · rw [if_pos c, if_pos c]
      rfl
    · rw [if_neg c, if_neg c]
      cases f_X12_isRest k (a / 7) (a - a / 7 * 7) with
      | none => rfl
      | some r =>
        rw [Option.bind_some, Option.bind_some]
        by_cases c2 : r = 0
        · rw [if_pos c2, if_pos c2]
          exact ih _
        · rw [if_neg c2, if_neg c2]
          rfl
end MORE
/-! without a pier -/
def PZ (p : TX6_p) : Prop := pSp p = 0 ∧ pDe p = 0 ∧ pBa p = 0 ∧ pAs p = 0 ∧ pAn p = 0 ∧ pBi p = 0
section NONE
variable {p : TX6_p}
theorem wz (k : Int32) : f_X10_within k 0 (0 - 1) = 0 := by
  unfold f_X10_within
  by_cases c : k < 0
  · rw [if_pos c]
  · rw [if_neg c, if_pos]
    rw [fa_lt, ltv_0] at c
    rw [fa_lt, show ((0 : Int32) - 1).toInt = -1 by decide]
    omega
theorem zAn (h : PZ p) (k : Int32) : f_X6_hasAnswer k p = 0 := by
  unfold f_X6_hasAnswer nm
  rw [show p.2.2.2.2.2.2.1 = 0 from h.2.2.2.2.1]
  exact wz k
theorem zAs (h : PZ p) (k : Int32) : f_X6_hasAsker k p = 0 := by
  unfold f_X6_hasAsker nm
  rw [show p.2.2.2.2.2.1 = 0 from h.2.2.2.1]
  exact wz k
theorem zSp (h : PZ p) (k : Int32) : f_X6_hasSpot k p = 0 := by
  unfold f_X6_hasSpot nm
  rw [show p.1 = 0 from h.1]
  exact wz k
theorem zPt (h : PZ p) : f_X10_pierTrouble p = 1 := by
  unfold f_X10_pierTrouble
  rw [if_pos (show p.1 = 0 from h.1)]
theorem zNt (h : PZ p) (k : Int32) : f_X10_numberTrouble k p = 1 := by
  unfold f_X10_numberTrouble
  dsimp only [nm]
  rw [zPt h, if_neg one_ne]
  rfl
theorem zAt (h : PZ p) (k : Int32) : f_X10_answerTrouble k p = 1 := by
  unfold f_X10_answerTrouble
  dsimp only [nm]
  rw [zAn h, if_pos rfl]
theorem zWt (h : PZ p) (a s f b : Int32) : f_X10_wishTrouble a s f b p = 1 := by
  unfold f_X10_wishTrouble
  dsimp only [nm]
  rw [zAt h, if_neg one_ne]
theorem zn_close (h : PZ p) (k1 : Int32) (x : TX10_x) : f_X10_close k1 x p = (-1, (1, x.2)) := by
  rw [f_X10_close, nm, nm, zNt h, nm, ref_n one_ne, if_neg one_ne]
theorem zn_wish (h : PZ p) (k1 k2 k3 k4 : Int32) (x : TX10_x) : f_X10_wish k1 k2 k3 k4 x p = some (-1, (1, x.2)) := by
  rw [f_X10_wish, nm, zWt h, nm, ref_n one_ne, if_neg one_ne]
theorem zn_hungerFor (h : PZ p) (k1 k2 k3 k4 : Int32) (x : TX10_x) : f_X10_hungerFor k1 k2 k3 k4 x p = some (-1, (1, x.2)) := by
  rw [f_X10_hungerFor, nm, zWt h, nm, ref_n one_ne, if_neg one_ne]
theorem zn_tangles (h : PZ p) (k1 k2 k3 k4 : Int32) (x : TX10_x) : f_X10_tangles k1 k2 k3 k4 x p = some (-1, (1, x.2)) := by
  rw [f_X10_tangles, nm, zAs h, if_pos rfl, f_X10_tangles_J54, f_X10_tangles_J55, if_pos rfl, f_X10_tangles_J68, nm, ref_n one_ne, if_neg one_ne]
theorem zn_linesJ (h : PZ p) (k1 k2 k3 k4 v : Int32) (x : TX10_x) : f_X10_lines_J35 k1 k2 k3 k4 x p v = some (-100, (1, x.2)) := by
  rw [f_X10_lines_J35, nm, zNt h, nm, ref_n one_ne, if_neg one_ne]
theorem zn_lines (h : PZ p) (k1 k2 k3 k4 : Int32) (x : TX10_x) : f_X10_lines k1 k2 k3 k4 x p = some (-100, (1, x.2)) := by
  simp only [f_X10_lines, f_X10_lines_J34, nm, zn_linesJ h, ite_self]
theorem zn_worthJ (h : PZ p) (k1 k2 k3 v : Int32) (x : TX10_x) : f_X10_worth_J34 k1 k2 k3 x p 1 v = some (-1, (1, x.2)) := by
  rw [f_X10_worth_J34, if_neg one_ne, f_X10_worth_J51, f_X10_worth_J53, nm, ref_n one_ne, if_neg one_ne]
theorem zn_worth (h : PZ p) (k1 k2 k3 : Int32) (x : TX10_x) : f_X10_worth k1 k2 k3 x p = some (-1, (1, x.2)) := by
  simp only [f_X10_worth, f_X10_worth_J33, nm, zAt h, zn_worthJ h, ite_self]
theorem zn_rests (h : PZ p) (k1 : Int32) (x : TX10_x) : f_X10_rests k1 x p = some (-1, (1, x.2)) := by
  rw [f_X10_rests, nm, nm, zNt h, nm, ref_n one_ne, if_neg one_ne]
theorem zn_rest (h : PZ p) (k1 : Int32) (x : TX10_x) : f_X10_rest k1 x p = some (-1, (1, x.2)) := by
  rw [f_X10_rest, nm, nm, zNt h, nm, ref_n one_ne, if_neg one_ne]
end NONE
/-! what stands now, on both sides -/
theorem nI_sub1 {a : Nat} (h : 1 ≤ a) (h2 : a < 2 ^ 31) : nI a - 1 = nI (a - 1) := by
  apply Int32.toInt_inj.mp
  rw [isub_t (by rw [nI_toInt h2, ltv_1]; omega) (by rw [nI_toInt h2, ltv_1]; omega), nI_toInt h2, ltv_1, nI_toInt (by omega)]
  omega
theorem i18 (k : Nat) : (18 : Int32) + nI k = nI (18 + k) := nI_add 18 k
theorem i12 (k : Nat) : (12 : Int32) + nI k = nI (12 + k) := nI_add 12 k
theorem i6 (k : Nat) : (6 : Int32) + nI k = nI (6 + k) := nI_add 6 k
theorem i0 (k : Nat) : (0 : Int32) + nI k = nI k := by
  rw [show (0 : Int32) = nI 0 from rfl, nI_add, Nat.zero_add]
theorem c23 : (23 : Int32).toNatClampNeg = 23 := by decide
theorem c24 : (24 : Int32).toNatClampNeg = 24 := by decide
theorem c25 : (25 : Int32).toNatClampNeg = 25 := by decide
theorem nI_neg {a : Nat} (h : a < 2 ^ 31) {x : Int32} (hx : x.toInt < 0) : ¬ nI a = x := fun z => by
  rw [← z, nI_toInt h] at hx
  omega
theorem nI_m2 {a : Nat} (h : a < 2 ^ 31) : ¬ nI a = -2 := nI_neg h (by decide)
/-- a line: none is out, or the same question on both sides -/
def NL (sp de ba : Nat) (x y : Int32) : Prop := (x = -1 ∧ y = -2) ∨ ∃ s f b : Nat, s < sp ∧ 1 ≤ f ∧ f ≤ de ∧ b < ba ∧ x = nI (100 * s + 10 * f + b) ∧ y = nI ((s * de + f - 1) * ba + b)
/-- an answer: there, or landed on a day by an asker -/
def NS (t : Nat) (n : TX4_n) (v : Nat → Int32) (a : Nat) : Prop := (n.2.2.2.1 a = 0 ∧ v a = 0 ∧ v (6 + a) = -2 ∧ v (12 + a) = -2) ∨ ((v a = 1 ∨ v a = 2) ∧ n.2.2.2.1 a = v a ∧ ∃ d k : Nat, d ≤ t ∧ k < 5 ∧ n.2.2.2.2.1 a = nI d ∧ v (6 + a) = nI d ∧ n.2.2.2.2.2.1 a = nI k ∧ v (12 + a) = nI k)
def NV (sp de ba t : Nat) (n : TX4_n) (v : Nat → Int32) : Prop := ∃ sd : Nat, sd ≤ 65536 ∧ n.1 = nI t ∧ v 23 = nI t ∧ n.2.1 = nI sd ∧ v 24 = nI sd ∧ n.2.2.1 = v 25 ∧ (∀ a, a < 6 → NS t n v a) ∧ (∀ k, k < 5 → NL sp de ba (n.2.2.2.2.2.2 k) (v (18 + k)))
theorem nv_cg {sp de ba t : Nat} {n n' : TX4_n} {v v' : Nat → Int32} (h : NV sp de ba t n v) (h1 : n'.1 = n.1) (h2 : n'.2.1 = n.2.1) (h3 : n'.2.2.1 = n.2.2.1) (h4 : ∀ a, a < 6 → n'.2.2.2.1 a = n.2.2.2.1 a ∧ n'.2.2.2.2.1 a = n.2.2.2.2.1 a ∧ n'.2.2.2.2.2.1 a = n.2.2.2.2.2.1 a) (h5 : ∀ k, k < 5 → n'.2.2.2.2.2.2 k = n.2.2.2.2.2.2 k) (hv : ∀ j, j < 26 → v' j = v j) : NV sp de ba t n' v' := by
  obtain ⟨sd, b1, e1, e2, e3, e4, e5, hs, hl⟩ := h
  refine ⟨sd, b1, h1.trans e1, (hv 23 (by omega)).trans e2, h2.trans e3, (hv 24 (by omega)).trans e4, h3.trans (e5.trans (hv 25 (by omega)).symm), fun a ha => ?_, fun k hk => ?_⟩
  · have := hs a ha
    unfold NS at this ⊢
    rw [(h4 a ha).1, (h4 a ha).2.1, (h4 a ha).2.2, hv a (by omega), hv (6 + a) (by omega), hv (12 + a) (by omega)]
    exact this
  · rw [h5 k hk, hv (18 + k) (by omega)]
    exact hl k hk
theorem cpy_at {f g : Nat → Int32} {m a : Nat} {z : Int32} (hz : z.toNatClampNeg = m) (h : a < m) : va_cpy f g (0 : Int32).toNatClampNeg (0 : Int32).toNatClampNeg z.toNatClampNeg a = f a := by
  rw [hz, show (0 : Int32).toNatClampNeg = 0 by decide]
  unfold va_cpy
  rw [if_pos ⟨Nat.zero_le a, by omega⟩]
  exact congrArg f (by omega)
theorem c6 : (6 : Int32).toNatClampNeg = 6 := by decide
theorem c5 : (5 : Int32).toNatClampNeg = 5 := by decide
/-- a row that becomes another one -/
theorem nv_bec {sp de ba t : Nat} {n n2 : TX4_n} {v : Nat → Int32} (h : NV sp de ba t n2 v) : NV sp de ba t (f_X4_become n n2) v := nv_cg h rfl rfl rfl (fun _ ha => ⟨cpy_at c6 ha, cpy_at c6 ha, cpy_at c6 ha⟩) (fun _ hk => cpy_at c5 hk) (fun _ _ => rfl)
/-! the reference keeps a row -/
theorem rem_L51 {v : Nat → Int32} {c : Nat} (hc : c ≤ 15) : ∀ (m i n : Nat) (h : TX12_h), h.2.2.1 = nI c → i + m = 26 → m < n → ∃ P : Nat → Int32, f_X12_remembers_L51 v n (nI i) h = some (P, h.2.1, nI (c + 1), h.2.2.2) ∧ ∀ j, P j = if 26 * c + i ≤ j ∧ j < 26 * c + 26 then v (j - 26 * c) else h.1 j := by
  intro m
  induction m with
  | zero =>
    intro i n h hh hi hn
    cases n with
    | zero => omega
    | succ n =>
      obtain rfl : i = 26 := by omega
      refine ⟨h.1, ?_, fun j => ?_⟩
      · rw [f_X12_remembers_L51, if_pos (show (26 : Int32) ≤ nI 26 by decide), hh, nI_1]
      · rw [if_neg (by omega)]
  | succ m ih =>
    intro i n h hh hi hn
    cases n with
    | zero => omega
    | succ n =>
      have ei : (26 : Int32) * h.2.2.1 + nI i = nI (26 * c + i) := by rw [hh, show (26 : Int32) * nI c = nI (26 * c) from nI_mul 26 c, nI_add]
      obtain ⟨P, e, hP⟩ := ih (i + 1) n (upd h.1 (26 * c + i) (v i), h.2) hh (by omega) (by omega)
      refine ⟨P, ?_, fun j => ?_⟩
      · rw [f_X12_remembers_L51, if_neg (show ¬ (26 : Int32) ≤ nI i by rw [show (26 : Int32) = nI 26 from rfl, nI_leI (by omega) (by omega)]; omega), ei, gA_in (vin (show i < 26 by omega) (by omega)), gA_in (vp_in_nI (show 26 * c + i < 416 by omega) (by omega)), nI_clamp (show i < 2 ^ 31 by omega), nI_clamp (show 26 * c + i < 2 ^ 31 by omega), nI_1]
        exact e
      · rw [hP j]
        by_cases c1 : 26 * c + (i + 1) ≤ j ∧ j < 26 * c + 26
        · rw [if_pos c1, if_pos ⟨by omega, by omega⟩]
        · rw [if_neg c1]
          by_cases c2 : j = 26 * c + i
          · subst c2
            rw [if_pos ⟨by omega, by omega⟩, show 26 * c + i - 26 * c = i by omega]
            exact upd_at
          · rw [if_neg (by omega)]
            exact upd_no c2
theorem rem_L11 {v : Nat → Int32} : ∀ (m i n : Nat) (h : TX12_h), i + m = 390 → m < n → ∃ P : Nat → Int32, f_X12_remembers_L11 v n (nI i) h = f_X12_remembers_J49 v (P, h.2.1, h.2.2.1 - 1, h.2.2.2) ∧ ∀ j, P j = if i ≤ j ∧ j < 390 then h.1 (j + 26) else h.1 j := by
  intro m
  induction m with
  | zero =>
    intro i n h hi hn
    cases n with
    | zero => omega
    | succ n =>
      obtain rfl : i = 390 := by omega
      refine ⟨h.1, ?_, fun j => ?_⟩
      · rw [f_X12_remembers_L11, if_pos (show (390 : Int32) ≤ nI 390 by decide)]
      · rw [if_neg (by omega)]
  | succ m ih =>
    intro i n h hi hn
    cases n with
    | zero => omega
    | succ n =>
      have ei : nI i + (26 : Int32) = nI (i + 26) := nI_add i 26
      obtain ⟨P, e, hP⟩ := ih (i + 1) n (upd h.1 i (h.1 (i + 26)), h.2) (by omega) (by omega)
      refine ⟨P, ?_, fun j => ?_⟩
      · rw [f_X12_remembers_L11, if_neg (show ¬ (390 : Int32) ≤ nI i by rw [show (390 : Int32) = nI 390 from rfl, nI_leI (by omega) (by omega)]; omega), ei, gA_in (vp_in_nI (show i + 26 < 416 by omega) (by omega)), gA_in (vp_in_nI (show i < 416 by omega) (by omega)), nI_clamp (show i < 2 ^ 31 by omega), nI_clamp (show i + 26 < 2 ^ 31 by omega), nI_1]
        exact e
      · rw [hP j]
        by_cases c1 : i + 1 ≤ j ∧ j < 390
        · rw [if_pos c1, if_pos ⟨by omega, by omega⟩]
          exact upd_no (by omega)
        · rw [if_neg c1]
          by_cases c2 : j = i
          · subst c2
            rw [if_pos ⟨by omega, by omega⟩]
            exact upd_at
          · rw [if_neg (by omega)]
            exact upd_no c2
theorem rem_eq {v : Nat → Int32} {h : TX12_h} {c : Nat} (hc : c ≤ 16) (hh : h.2.2.1 = nI c) : ∃ P : Nat → Int32, f_X12_remembers v h = some (P, h.2.1, nI (if c = 16 then 16 else c + 1), h.2.2.2) ∧ ∀ i j, j < 26 → i < 16 → P (26 * i + j) = if c = 16 then (if i = 15 then v j else h.1 (26 * (i + 1) + j)) else (if i = c then v j else h.1 (26 * i + j)) := by
  rw [f_X12_remembers]
  by_cases c16 : c = 16
  · subst c16
    rw [if_pos (show h.2.2.1 = (16 : Int32) from hh)]
    obtain ⟨P, e, hP⟩ := rem_L11 (v := v) 390 0 FU h (by omega) (by unfold FU; omega)
    obtain ⟨P2, e2, hP2⟩ := rem_L51 (v := v) (c := 15) (by omega) 26 0 FU (P, h.2.1, h.2.2.1 - 1, h.2.2.2) (by show h.2.2.1 - 1 = nI 15; rw [hh]; rfl) (by omega) (by unfold FU; omega)
    refine ⟨P2, ?_, fun i j hj hi => ?_⟩
    · rw [show (0 : Int32) = nI 0 from rfl, e, f_X12_remembers_J49, show (0 : Int32) = nI 0 from rfl, e2]
      rfl
    · rw [if_pos rfl, hP2]
      by_cases c1 : i = 15
      · subst c1
        rw [if_pos ⟨by omega, by omega⟩, if_pos rfl]
        exact congrArg v (by omega)
      · rw [if_neg (by omega), if_neg c1]
        show P (26 * i + j) = _
        rw [hP, if_pos ⟨by omega, by omega⟩]
        exact congrArg h.1 (by omega)
  · rw [if_neg (show ¬ h.2.2.1 = (16 : Int32) by rw [hh]; intro z; rw [fa_eq, nI_toInt (by omega), ltv_16] at z; omega)]
    obtain ⟨P2, e2, hP2⟩ := rem_L51 (v := v) (c := c) (by omega) 26 0 FU h hh (by omega) (by unfold FU; omega)
    refine ⟨P2, ?_, fun i j hj hi => ?_⟩
    · rw [f_X12_remembers_J49, show (0 : Int32) = nI 0 from rfl, e2, if_neg c16]
    · rw [if_neg c16, hP2]
      by_cases c1 : i = c
      · subst c1
        rw [if_pos ⟨by omega, by omega⟩, if_pos rfl]
        exact congrArg v (by omega)
      · rw [if_neg (by omega), if_neg c1]
/-! what was, on both sides -/
def HV (sp de ba : Nat) (h : TX2_h) (K : Nat → TX4_n) (g : TX12_h) : Prop := ∃ o c m : Nat, o < 16 ∧ c ≤ 16 ∧ m ≤ 3 ∧ h = (nI o, nI c, nI m) ∧ g.2.2.1 = nI c ∧ g.2.2.2 = nI m ∧ (∀ i, i < c → ∃ t, t ≤ 999 ∧ NV sp de ba t (K ((o + i) % 16)) (fun j => g.1 (26 * i + j))) ∧ (∀ i, i < m → ∃ t, t ≤ 999 ∧ NV sp de ba t (K (16 + i)) (fun j => g.2.1 (26 * i + j)))
/-- where the class keeps the next row -/
def kpI (h : TX2_h) : Nat := (((h.1 + h.2.1) - (h.1 + h.2.1) / (16 : Int32) * (16 : Int32))).toNatClampNeg % 16
theorem updN_at {K : Nat → TX4_n} {i : Nat} {v : TX4_n} : updN K i v i = v := if_pos rfl
theorem updN_no {K : Nat → TX4_n} {i j : Nat} {v : TX4_n} (h : ¬ j = i) : updN K i v j = K j := if_neg h
/-- an ACT is kept: both sides -/
theorem keep_hv {sp de ba t : Nat} {n : TX4_n} {v : Nat → Int32} {h : TX2_h} {K : Nat → TX4_n} {g : TX12_h} (hn : NV sp de ba t n v) (ht : t ≤ 999) (hh : HV sp de ba h K g) : ∃ (h' : TX2_h) (n' : TX4_n) (g' : TX12_h), f_X2_keep h n (K (kpI h)) = some (h', n') ∧ f_X12_remembers v g = some g' ∧ HV sp de ba h' (updN K (kpI h) n') g' := by
  obtain ⟨o, c, m, ho, hc, hm, rfl, g1, g2, hr, hk⟩ := hh
  have er : (nI o + nI c) - (nI o + nI c) / (16 : Int32) * (16 : Int32) = nI ((o + c) % 16) := by
    rw [nI_add, show (16 : Int32) = nI 16 from rfl, pk_rem (by omega) (by omega) (by omega)]
  have ek : kpI (nI o, nI c, nI m) = (o + c) % 16 := by
    unfold kpI
    dsimp only
    rw [er, nI_clamp (by omega)]
    omega
  obtain ⟨P, e2, hP⟩ := rem_eq (v := v) hc g1
  rw [ek, f_X2_keep]
  dsimp only [nm]
  rw [er, gA_in (vin (show (o + c) % 16 < 16 by omega) (by omega))]
  by_cases c16 : c = 16
  · subst c16
    rw [if_pos (show (16 : Int32) ≤ nI 16 by decide)]
    have eo : (nI o + 1) - (nI o + 1) / (16 : Int32) * (16 : Int32) = nI ((o + 1) % 16) := by
      rw [nI_1, show (16 : Int32) = nI 16 from rfl, pk_rem (by omega) (by omega) (by omega)]
    refine ⟨_, _, _, rfl, e2, (o + 1) % 16, 16, m, by omega, by omega, hm, by rw [eo], rfl, g2, fun i hi => ?_, fun i hi => ?_⟩
    · by_cases c1 : i = 15
      · subst c1
        refine ⟨t, ht, ?_⟩
        rw [show ((o + 1) % 16 + 15) % 16 = (o + 16) % 16 by omega, updN_at]
        refine nv_cg (nv_bec hn) rfl rfl rfl (fun _ _ => ⟨rfl, rfl, rfl⟩) (fun _ _ => rfl) (fun j hj => ?_)
        show P (26 * 15 + j) = v j
        rw [hP 15 j hj (by omega), if_pos rfl, if_pos rfl]
      · obtain ⟨t', ht', hv'⟩ := hr (i + 1) (by omega)
        refine ⟨t', ht', ?_⟩
        rw [updN_no (by omega), show ((o + 1) % 16 + i) % 16 = (o + (i + 1)) % 16 by omega]
        refine nv_cg hv' rfl rfl rfl (fun _ _ => ⟨rfl, rfl, rfl⟩) (fun _ _ => rfl) (fun j hj => ?_)
        show P (26 * i + j) = g.1 (26 * (i + 1) + j)
        rw [hP i j hj hi, if_pos rfl, if_neg c1]
    · rw [updN_no (by omega)]
      exact hk i hi
  · rw [if_neg (show ¬ (16 : Int32) ≤ nI c by rw [show (16 : Int32) = nI 16 from rfl, nI_leI (by omega) (by omega)]; omega), nI_1]
    rw [if_neg c16] at e2
    refine ⟨_, _, _, rfl, e2, o, c + 1, m, ho, by omega, hm, rfl, rfl, g2, fun i hi => ?_, fun i hi => ?_⟩
    · by_cases c1 : i = c
      · subst c1
        refine ⟨t, ht, ?_⟩
        rw [updN_at]
        refine nv_cg (nv_bec hn) rfl rfl rfl (fun _ _ => ⟨rfl, rfl, rfl⟩) (fun _ _ => rfl) (fun j hj => ?_)
        show P (26 * i + j) = v j
        rw [hP i j hj (by omega), if_neg c16, if_pos rfl]
      · obtain ⟨t', ht', hv'⟩ := hr i (by omega)
        refine ⟨t', ht', ?_⟩
        rw [updN_no (by omega)]
        refine nv_cg hv' rfl rfl rfl (fun _ _ => ⟨rfl, rfl, rfl⟩) (fun _ _ => rfl) (fun j hj => ?_)
        show P (26 * i + j) = g.1 (26 * i + j)
        rw [hP i j hj (by omega), if_neg c16, if_neg c1]
    · rw [updN_no (by omega)]
      exact hk i hi
/-- nothing to undo, no marks -/
theorem hv_0 {sp de ba o : Nat} (ho : o < 16) (K : Nat → TX4_n) (P Q : Nat → Int32) : HV sp de ba (nI o, 0, 0) K (P, Q, 0, 0) := ⟨o, 0, 0, ho, by omega, by omega, rfl, rfl, rfl, fun i hi => absurd hi (by omega), fun i hi => absurd hi (by omega)⟩
/-! acts: the same on both sides -/
theorem upK (K : Nat → TX4_n) (i : Nat) : updN K i (K i) = K := by
  funext j
  unfold updN
  by_cases c : j = i
  · rw [if_pos c, c]
  · rw [if_neg c]
theorem cd_b {sp de ba s f b : Nat} (hs : s < sp) (hf : f ≤ de) (hb : b < ba) (h1 : sp ≤ 8) (h2 : de ≤ 9) (h3 : ba ≤ 4) : (s * de + f - 1) * ba + b < 1000 := by
  have e1 : s * de ≤ 8 * 9 := Nat.mul_le_mul (by omega) h2
  have e2 : (s * de + f - 1) * ba ≤ 81 * 4 := Nat.mul_le_mul (by omega) h3
  omega
theorem nl_cs {sp de ba : Nat} {x y : Int32} (h : NL sp de ba x y) (h1 : sp ≤ 8) (h2 : de ≤ 9) (h3 : ba ≤ 4) : (x = -1 ∧ y = -2) ∨ (¬ x = -1 ∧ ¬ y = -2 ∧ ∃ s f b : Nat, s < sp ∧ 1 ≤ f ∧ f ≤ de ∧ b < ba ∧ x = nI (100 * s + 10 * f + b) ∧ y = nI ((s * de + f - 1) * ba + b)) := by
  rcases h with h | ⟨s, f, b, a1, a2, a3, a4, e1, e2⟩
  · exact Or.inl h
  · have hb := cd_b a1 a3 a4 h1 h2 h3
    exact Or.inr ⟨by rw [e1]; exact nI_m1 (by omega), by rw [e2]; exact nI_m2 (by omega), s, f, b, a1, a2, a3, a4, e1, e2⟩
section ACTS
variable {p : TX6_p} {q : TX11_q} {sp de ba as an bi cf ct t : Nat} {n : TX4_n} {v : Nat → Int32} {h : TX2_h} {K : Nat → TX4_n} {g : TX12_h}
theorem isCl (hq : PQ p q sp de ba as an bi cf ct) (d : Int32) : f_X6_isClose d p = f_X11_isClose d q := by
  obtain ⟨-, -, ⟨c1, c2, c3, c4, c5, c6⟩, -⟩ := id hq
  unfold f_X6_isClose f_X11_isClose nm f_X10_within
  rw [show p.2.2.1 = nI cf from c1, show q.2.2.1 = nI cf from c2, show p.2.2.2.1 = nI ct from c3, show q.2.2.2.1 = nI ct from c4]
theorem mq_n (hq : PQ p q sp de ba as an bi cf ct) {s f b : Nat} (hs : s < sp) (hf1 : 1 ≤ f) (hf : f ≤ de) (hb : b < ba) : f_X12_question (nI s) (nI f) (nI b) q = nI ((s * de + f - 1) * ba + b) := by
  obtain ⟨⟨-, -, -, s4⟩, ⟨d1, d2, d3, d4⟩, -, ⟨b1, b2, b3, b4⟩, -⟩ := id hq
  have e1 : s * de ≤ 8 * 9 := Nat.mul_le_mul (by omega) d4
  unfold f_X12_question
  dsimp only [nm]
  rw [show q.2.1 = nI de from d2, show q.2.2.2.2.1 = nI ba from b2, nI_mul, nI_add, nI_sub1 (by omega) (by omega), nI_mul, nI_add]
theorem nl_up {l w : Nat → Int32} (hl : ∀ k, k < 5 → NL sp de ba (l k) (w (18 + k))) {j : Nat} {x y : Int32} (hx : NL sp de ba x y) : ∀ k, k < 5 → NL sp de ba (upd l j x k) (upd w (18 + j) y (18 + k)) := by
  intro k hk
  by_cases c : k = j
  · subst c
    rw [upd_at, upd_at]
    exact hx
  · rw [upd_no c, upd_no (by omega)]
    exact hl k hk
theorem nv_line (hn : NV sp de ba t n v) {j : Nat} (hj : j < 5) {x y : Int32} (hx : NL sp de ba x y) : NV sp de ba t (n.1, n.2.1, n.2.2.1, n.2.2.2.1, n.2.2.2.2.1, n.2.2.2.2.2.1, upd n.2.2.2.2.2.2 j x) (upd v (18 + j) y) := by
  obtain ⟨sd, b1, e1, e2, e3, e4, e5, hs, hl⟩ := hn
  refine ⟨sd, b1, e1, ?_, e3, ?_, ?_, fun a ha => ?_, nl_up hl hx⟩
  · rw [upd_no (by omega)]
    exact e2
  · rw [upd_no (by omega)]
    exact e4
  · rw [upd_no (by omega)]
    exact e5
  · have := hs a ha
    unfold NS at this ⊢
    rw [upd_no (show ¬ a = 18 + j by omega), upd_no (show ¬ 6 + a = 18 + j by omega), upd_no (show ¬ 12 + a = 18 + j by omega)]
    exact this
/-- LET -/
theorem ac_let (hq : PQ p q sp de ba as an bi cf ct) (hn : NV sp de ba t n v) (ht : t ≤ 999) (hh : HV sp de ba h K g) (k1 k2 k3 k4 : Int32) (x : TX10_x) (tt : TX12_t) : ∃ (r tr : Int32) (kn n' : TX4_n) (h' : TX2_h) (v' : Nat → Int32) (g' : TX12_h), f_X10_let k1 k2 k3 k4 x (K (kpI h)) p n h = some (r, (tr, x.2), kn, n', h') ∧ f_X12_let k1 k2 k3 k4 tt v g q = some (r, (0, tr, -1), v', g') ∧ NV sp de ba t n' v' ∧ HV sp de ba h' (updN K (kpI h) kn) g' := by
  have bad : ∀ tr : Int32, ∃ (r tr' : Int32) (kn n' : TX4_n) (h' : TX2_h) (v' : Nat → Int32) (g' : TX12_h), (some ((0 : Int32), (tr, x.2), K (kpI h), n, h) : Option (Int32 × TX10_x × TX4_n × TX4_n × TX2_h)) = some (r, (tr', x.2), kn, n', h') ∧ (some ((0 : Int32), (0, tr, -1), v, g) : Option (Int32 × TX12_t × TX12_v × TX12_h)) = some (r, (0, tr', -1), v', g') ∧ NV sp de ba t n' v' ∧ HV sp de ba h' (updN K (kpI h) kn) g' := fun tr => ⟨0, tr, _, n, h, v, g, rfl, rfl, hn, by rw [upK]; exact hh⟩
  obtain ⟨⟨-, -, -, s4⟩, ⟨-, -, -, d4⟩, -, ⟨-, -, -, b4⟩, ⟨-, -, as5⟩, -⟩ := id hq
  rw [f_X10_let, f_X12_let, f_X10_letTrouble, f_X10_askerTrouble]
  dsimp only [nm]
  by_cases c1 : inN k1 as
  · obtain ⟨e1, e2⟩ := (hasAs hq k1).1 c1
    rw [e1, e2, if_neg one_ne, if_pos rfl]
    rcases qt_eq hq k2 k3 k4 with ⟨g1, g2⟩ | ⟨g1, g2⟩ | ⟨g1, g2, g3, g4, g5⟩
    · rw [g1, g2, f_X10_letTrouble_J22, if_neg one_ne, f_X10_letTrouble_J59, Option.bind_some, ref_n one_ne, if_neg one_ne, if_neg (show ¬ (1 : Int32) ≤ 0 by decide)]
      exact bad 1
    · rw [g1, g2, f_X10_letTrouble_J22, if_neg (show ¬ (2 : Int32) = 0 by decide), f_X10_letTrouble_J59, Option.bind_some, ref_n (show ¬ (2 : Int32) = 0 by decide), if_neg one_ne, if_neg (show ¬ (2 : Int32) ≤ 0 by decide)]
      exact bad 2
    · obtain ⟨a, ha, rfl⟩ := inN_of c1
      obtain ⟨s, hs, rfl⟩ := inN_of g3
      obtain ⟨f, hf1, hf, rfl⟩ := inF_of g4
      obtain ⟨b, hb, rfl⟩ := inN_of g5
      obtain ⟨sd, b1, en, ev, e3, e4, e5, hst, hl⟩ := id hn
      rw [g1, g2, f_X10_letTrouble_J22, if_pos rfl, gA_in (vin (show a < 5 by omega) (by omega)), nI_clamp (show a < 2 ^ 31 by omega), if_pos (show (0 : Int32) ≤ 0 by decide), i18, gA_in (vin (show 18 + a < 26 by omega) (by omega)), nI_clamp (show 18 + a < 2 ^ 31 by omega), c23, ev, en, isCl hq]
      rcases nl_cs (hl a (by omega)) s4 d4 b4 with ⟨z1, z2⟩ | ⟨z1, z2, -⟩
      · rw [if_pos z1, if_pos z2]
        dsimp only [nm]
        by_cases cc : f_X11_isClose (nI t) q = 0
        · rw [if_pos cc, if_pos cc, f_X10_letTrouble_J59, Option.bind_some, ref_0, if_pos rfl]
          obtain ⟨h', kn, g', k1', k2', k3'⟩ := keep_hv hn ht hh
          rw [k1', k2', Option.bind_some, Option.bind_some, gA_in (vin (show a < 5 by omega) (by omega)), gA_in (vin (show 18 + a < 26 by omega) (by omega)), mq_n hq hs hf1 hf hb, qu_n, ← en]
          exact ⟨1, 0, kn, _, h', _, g', rfl, rfl, nv_line hn (show a < 5 by omega) (Or.inr ⟨s, f, b, hs, hf1, hf, hb, rfl, rfl⟩), k3'⟩
        · rw [if_neg cc, if_neg cc, Option.bind_some, ref_n (show ¬ (5 : Int32) = 0 by decide), if_neg one_ne]
          exact bad 5
      · rw [if_neg z1, if_neg z2, Option.bind_some, ref_n (show ¬ (5 : Int32) = 0 by decide), if_neg one_ne]
        exact bad 5
  · obtain ⟨e1, e2⟩ := (hasAs hq k1).2 c1
    rw [e1, e2, if_pos rfl, if_neg one_ne, f_X10_letTrouble_J22, if_neg one_ne, f_X10_letTrouble_J59, Option.bind_some, ref_n one_ne, if_neg one_ne, f_X12_refusesQuestion, if_pos rfl, if_neg (show ¬ (1 : Int32) ≤ 0 by decide)]
    exact bad 1
/-- DRAW in -/
theorem ac_drawIn (hq : PQ p q sp de ba as an bi cf ct) (hn : NV sp de ba t n v) (ht : t ≤ 999) (hh : HV sp de ba h K g) (k1 : Int32) (x : TX10_x) (tt : TX12_t) : ∃ (r tr : Int32) (kn n' : TX4_n) (h' : TX2_h) (v' : Nat → Int32) (g' : TX12_h), f_X10_drawIn k1 x (K (kpI h)) p n h = some (r, (tr, x.2), kn, n', h') ∧ f_X12_drawIn k1 tt v g q = some (r, (0, tr, -1), v', g') ∧ NV sp de ba t n' v' ∧ HV sp de ba h' (updN K (kpI h) kn) g' := by
  obtain ⟨⟨-, -, -, s4⟩, ⟨-, -, -, d4⟩, -, ⟨-, -, -, b4⟩, ⟨-, -, as5⟩, -⟩ := id hq
  rw [f_X10_drawIn, f_X12_drawIn, f_X10_askerTrouble]
  dsimp only [nm]
  by_cases c1 : inN k1 as
  · obtain ⟨e1, e2⟩ := (hasAs hq k1).1 c1
    obtain ⟨a, ha, rfl⟩ := inN_of c1
    obtain ⟨sd, b1, en, ev, e3, e4, e5, hst, hl⟩ := id hn
    rw [e1, e2, if_neg one_ne, if_pos rfl, if_neg one_ne, gA_in (vin (show a < 5 by omega) (by omega)), nI_clamp (show a < 2 ^ 31 by omega), i18, gA_in (vin (show 18 + a < 26 by omega) (by omega)), nI_clamp (show 18 + a < 2 ^ 31 by omega)]
    rcases nl_cs (hl a (by omega)) s4 d4 b4 with ⟨z1, z2⟩ | ⟨z1, z2, -⟩
    · rw [if_pos z1, if_pos z2, f_X10_drawIn_J29]
      dsimp only [nm]
      rw [ref_n (show ¬ (5 : Int32) = 0 by decide), if_neg one_ne]
      exact ⟨0, 5, _, n, h, v, g, rfl, rfl, hn, by rw [upK]; exact hh⟩
    · rw [if_neg z1, if_neg z2, f_X10_drawIn_J28, f_X10_drawIn_J29]
      dsimp only [nm]
      obtain ⟨h', kn, g', k1', k2', k3'⟩ := keep_hv hn ht hh
      rw [ref_0, if_pos rfl, k1', k2', Option.bind_some, Option.bind_some, gA_in (vin (show a < 5 by omega) (by omega)), gA_in (vin (show 18 + a < 26 by omega) (by omega)), nI_clamp (show a < 2 ^ 31 by omega)]
      exact ⟨1, 0, kn, _, h', _, g', rfl, rfl, nv_line hn (show a < 5 by omega) (Or.inl ⟨rfl, rfl⟩), k3'⟩
  · obtain ⟨e1, e2⟩ := (hasAs hq k1).2 c1
    rw [e1, e2, if_pos rfl, if_neg one_ne, if_pos rfl, f_X10_drawIn_J28, f_X10_drawIn_J29]
    dsimp only [nm]
    rw [ref_n one_ne, if_neg one_ne]
    exact ⟨0, 1, _, n, h, v, g, rfl, rfl, hn, by rw [upK]; exact hh⟩
theorem keeps_so (hq : PQ p q sp de ba as an bi cf ct) {a : Nat} (ha : a < an) (l d : Int32) : ∃ r, f_X12_keeps (nI a) l d q = some r := by
  obtain ⟨-, -, -, -, -, ⟨n1, n2, n3⟩, -⟩ := id hq
  have hv : vp_in (nI a) 6 := vin (by omega) (by omega)
  simp only [f_X12_keeps, nm, gA_in hv]
  repeat' split
  all_goals exact ⟨_, rfl⟩
/-- what an answer is worth on a day -/
theorem worth_on (hq : PQ p q sp de ba as an bi cf ct) {a : Nat} (ha : a < an) {d u : Nat} (hd : d ≤ u) (hu : u ≤ 2000) : ∃ r, f_X6_worthAfter (nI a) (nI u - nI d) p = some r ∧ f_X12_keeps (nI a) (nI d) (nI u) q = some r := by
  have e : (nI u - nI d).toInt = (u : Int) - (d : Int) := by rw [isub_t (by rw [nI_toInt (by omega), nI_toInt (by omega)]; omega) (by rw [nI_toInt (by omega), nI_toInt (by omega)]; omega), nI_toInt (by omega), nI_toInt (by omega)]
  obtain ⟨r, hr⟩ := keeps_so hq ha (nI d) (nI u)
  exact ⟨r, by rw [keeps_eq hq ha (by rw [e]; omega) (by rw [e]; omega), hr], hr⟩
/-- SELL -/
theorem ac_sell (hq : PQ p q sp de ba as an bi cf ct) (hn : NV sp de ba t n v) (ht : t ≤ 999) (hh : HV sp de ba h K g) (k1 : Int32) (x : TX10_x) (tt : TX12_t) : ∃ (r tr : Int32) (kn n' : TX4_n) (h' : TX2_h) (v' : Nat → Int32) (g' : TX12_h), f_X10_sell k1 x (K (kpI h)) p n h = some (r, (tr, x.2), kn, n', h') ∧ f_X12_sell k1 tt v g q = some (r, (0, tr, -1), v', g') ∧ NV sp de ba t n' v' ∧ HV sp de ba h' (updN K (kpI h) kn) g' := by
  obtain ⟨-, -, -, -, -, ⟨-, -, an6⟩, -⟩ := id hq
  rw [f_X10_sell, f_X12_sell, f_X10_answerTrouble]
  dsimp only [nm]
  by_cases c1 : inN k1 an
  · obtain ⟨e1, e2⟩ := (hasAn hq k1).1 c1
    obtain ⟨a, ha, rfl⟩ := inN_of c1
    obtain ⟨sd, b1, en, ev, e3, e4, e5, hst, hl⟩ := id hn
    have hv6 : vp_in (nI a) 6 := vin (by omega) (by omega)
    have hv26 : vp_in (nI a) 26 := vin (by omega) (by omega)
    rw [e1, e2, if_neg one_ne, if_pos rfl, if_neg one_ne, gA_in hv6, nI_clamp (show a < 2 ^ 31 by omega), i0, gA_in hv26, nI_clamp (show a < 2 ^ 31 by omega)]
    have no : ∀ {y z : Int32}, ¬ y = 1 → ¬ z = 1 → ∃ (r tr : Int32) (kn n' : TX4_n) (h' : TX2_h) (v' : Nat → Int32) (g' : TX12_h), (some ((-1 : Int32), (5, x.2), K (kpI h), n, h) : Option (Int32 × TX10_x × TX4_n × TX4_n × TX2_h)) = some (r, (tr, x.2), kn, n', h') ∧ (some ((-1 : Int32), (0, 5, -1), v, g) : Option (Int32 × TX12_t × TX12_v × TX12_h)) = some (r, (0, tr, -1), v', g') ∧ NV sp de ba t n' v' ∧ HV sp de ba h' (updN K (kpI h) kn) g' := fun _ _ => ⟨-1, 5, _, n, h, v, g, rfl, rfl, hn, by rw [upK]; exact hh⟩
    rcases hst a (by omega) with ⟨z1, z2, -⟩ | ⟨z0, z1, d, k, hd, hk, y1, y2, y3, y4⟩
    · rw [z1, z2, if_neg (show ¬ (0 : Int32) = 1 by decide), if_neg (show ¬ (0 : Int32) = 1 by decide), f_X10_sell_J29]
      dsimp only [nm]
      rw [ref_n (show ¬ (5 : Int32) = 0 by decide), if_neg one_ne]
      exact no (show ¬ (0 : Int32) = 1 by decide) (show ¬ (0 : Int32) = 1 by decide)
    · rw [z1]
      rcases z0 with z0 | z0
      · rw [z0, if_pos rfl, if_pos rfl, f_X10_sell_J28, f_X10_sell_J29]
        dsimp only [nm]
        obtain ⟨h', kn, g', k1', k2', k3'⟩ := keep_hv hn ht hh
        obtain ⟨r, w1, w2⟩ := worth_on hq ha hd (show t ≤ 2000 by omega)
        have hv6a : vp_in (nI (6 + a)) 26 := vin (by omega) (by omega)
        have u25 : upd v a 2 25 = v 25 := upd_no (by omega)
        have wn : ∀ y : Int32, f_X12_worthNow (nI a) (upd (upd v a 2) 25 y) q = some r := fun y => by
          rw [f_X12_worthNow, i6, gA_in hv6a, nI_clamp (show 6 + a < 2 ^ 31 by omega), c23, upd_no (show ¬ 6 + a = 25 by omega), upd_no (show ¬ 6 + a = a by omega), upd_no (show ¬ 23 = 25 by omega), upd_no (show ¬ 23 = a by omega), y2, ev, w2, Option.bind_some]
        have wn0 : f_X12_worthNow (nI a) (upd v a 2) q = some r := by
          rw [f_X12_worthNow, i6, gA_in hv6a, nI_clamp (show 6 + a < 2 ^ 31 by omega), c23, upd_no (show ¬ 6 + a = a by omega), upd_no (show ¬ 23 = a by omega), y2, ev, w2, Option.bind_some]
        rw [ref_0, if_pos rfl, k1', k2', Option.bind_some, Option.bind_some, f_X3_worthOn, gA_in hv6, nI_clamp (show a < 2 ^ 31 by omega), y1, en, w1, Option.bind_some, Option.bind_some, gA_in hv6, gA_in hv26, c25, u25, wn0, Option.bind_some, wn, Option.bind_some]
        refine ⟨r, 0, kn, _, h', _, g', rfl, rfl, ⟨sd, b1, rfl, ?_, e3, ?_, ?_, fun j hj => ?_, fun j hj => ?_⟩, k3'⟩
        · rw [upd_no (by omega), upd_no (by omega)]
          exact ev
        · rw [upd_no (by omega), upd_no (by omega)]
          exact e4
        · rw [upd_at]
          show n.2.2.1 + r = v 25 + r
          rw [e5]
        · have hj' := hst j hj
          unfold NS at hj' ⊢
          rw [upd_no (show ¬ j = 25 by omega), upd_no (show ¬ 6 + j = 25 by omega), upd_no (show ¬ 12 + j = 25 by omega), upd_no (show ¬ 6 + j = a by omega), upd_no (show ¬ 12 + j = a by omega)]
          by_cases c : j = a
          · subst c
            refine Or.inr ⟨Or.inr upd_at, ?_, d, k, hd, hk, y1, y2, y3, y4⟩
            show upd n.2.2.2.1 j 2 j = upd v j 2 j
            rw [upd_at, upd_at]
          · rw [upd_no c]
            rcases hj' with ⟨q1, q2⟩ | ⟨q0, q1, q2⟩
            · exact Or.inl ⟨(upd_no c).trans q1, q2⟩
            · exact Or.inr ⟨q0, (upd_no c).trans q1, q2⟩
        · rw [upd_no (by omega), upd_no (by omega)]
          exact hl j hj
      · rw [z0, if_neg (show ¬ (2 : Int32) = 1 by decide), if_neg (show ¬ (2 : Int32) = 1 by decide), f_X10_sell_J29]
        dsimp only [nm]
        rw [ref_n (show ¬ (5 : Int32) = 0 by decide), if_neg one_ne]
        exact no (show ¬ (0 : Int32) = 1 by decide) (show ¬ (0 : Int32) = 1 by decide)
  · obtain ⟨e1, e2⟩ := (hasAn hq k1).2 c1
    rw [e1, e2, if_pos rfl, if_neg one_ne, if_pos rfl, f_X10_sell_J28, f_X10_sell_J29]
    dsimp only [nm]
    rw [ref_n one_ne, if_neg one_ne]
    exact ⟨-1, 1, _, n, h, v, g, rfl, rfl, hn, by rw [upK]; exact hh⟩
/-- SEED -/
theorem ac_seed (hq : PQ p q sp de ba as an bi cf ct) (hn : NV sp de ba t n v) (k1 : Int32) (x : TX10_x) (tt : TX12_t) : ∃ (r tr : Int32) (n' : TX4_n) (v' : Nat → Int32), f_X10_seed k1 x p n = (r, (tr, x.2), n') ∧ f_X12_seed k1 tt v = (r, (0, tr, -1), v') ∧ NV sp de ba t n' v' := by
  rw [f_X10_seed, f_X12_seed]
  dsimp only [nm]
  rw [in_wi]
  rcases w01 k1 0 65536 with e | e
  · rw [e, nt_0 hq, ref_n (show ¬ (2 : Int32) = 0 by decide), if_neg one_ne, if_pos rfl]
    exact ⟨0, 2, n, v, rfl, rfl, hn⟩
  · rw [e, nt_1 hq, ref_0, if_pos rfl, if_neg one_ne]
    obtain ⟨b1, b2⟩ := wi_b (a := 0) (b := 65536) (by omega) (by omega) e
    obtain ⟨z, hz, rfl⟩ := inn_of (show 0 ≤ k1.toInt by omega)
    rw [nI_toInt hz] at b2
    refine ⟨1, 0, _, _, rfl, rfl, ?_⟩
    obtain ⟨sd, b1, e1, e2, e3, e4, e5, hs, hl⟩ := hn
    rw [c24]
    refine ⟨z, by omega, e1, ?_, rfl, upd_at, ?_, fun a ha => ?_, fun k hk => ?_⟩
    · rw [upd_no (by omega)]
      exact e2
    · rw [upd_no (by omega)]
      exact e5
    · have := hs a ha
      unfold NS at this ⊢
      rw [upd_no (show ¬ a = 24 by omega), upd_no (show ¬ 6 + a = 24 by omega), upd_no (show ¬ 12 + a = 24 by omega)]
      exact this
    · rw [upd_no (by omega)]
      exact hl k hk
end ACTS
/-! undo, marks; a new pier -/
theorem und_L {tt : TX12_t} {g : TX12_h} {c : Nat} (h1 : 1 ≤ c) (hc : c ≤ 16) (hg : g.2.2.1 = nI c) : ∀ (m i n : Nat) (w : Nat → Int32), i + m = 26 → m < n → ∃ w' : Nat → Int32, f_X12_undo_L38 tt g n (nI i) w = some (1, (0, 0, -1), w', (g.1, g.2.1, nI (c - 1), g.2.2.2)) ∧ ∀ j, j < 26 → w' j = if i ≤ j then g.1 (26 * (c - 1) + j) else w j := by
  have ec : g.2.2.1 - 1 = nI (c - 1) := by rw [hg, nI_sub1 h1 (by omega)]
  intro m
  induction m with
  | zero =>
    intro i n w hi hn
    cases n with
    | zero => omega
    | succ n =>
      obtain rfl : i = 26 := by omega
      refine ⟨w, ?_, fun j hj => ?_⟩
      · rw [f_X12_undo_L38, if_pos (show (26 : Int32) ≤ nI 26 by decide), ec]
        rfl
      · rw [if_neg (by omega)]
  | succ m ih =>
    intro i n w hi hn
    cases n with
    | zero => omega
    | succ n =>
      have ei : (26 : Int32) * (g.2.2.1 - 1) + nI i = nI (26 * (c - 1) + i) := by rw [ec, show (26 : Int32) * nI (c - 1) = nI (26 * (c - 1)) from nI_mul 26 (c - 1), nI_add]
      obtain ⟨w', e, hw⟩ := ih (i + 1) n (upd w i (g.1 (26 * (c - 1) + i))) (by omega) (by omega)
      refine ⟨w', ?_, fun j hj => ?_⟩
      · rw [f_X12_undo_L38, if_neg (show ¬ (26 : Int32) ≤ nI i by rw [show (26 : Int32) = nI 26 from rfl, nI_leI (by omega) (by omega)]; omega), ei, gA_in (vp_in_nI (show 26 * (c - 1) + i < 416 by omega) (by omega)), nI_clamp (show 26 * (c - 1) + i < 2 ^ 31 by omega)]
        dsimp only [nm]
        rw [gA_in (vin (show i < 26 by omega) (by omega)), nI_clamp (show i < 2 ^ 31 by omega), nI_1]
        exact e
      · rw [hw j hj]
        by_cases c1 : i + 1 ≤ j
        · rw [if_pos c1, if_pos (by omega)]
        · rw [if_neg c1]
          by_cases c2 : j = i
          · subst c2
            rw [if_pos (by omega)]
            exact upd_at
          · rw [if_neg (by omega)]
            exact upd_no c2
theorem mrk_L {tt : TX12_t} {v : Nat → Int32} {k : Nat} (hk : k ≤ 2) : ∀ (m i n : Nat) (g : TX12_h), g.2.2.2 = nI k → i + m = 26 → m < n → ∃ Q : Nat → Int32, f_X12_mark_L34 tt v n (nI i) g = some (nI k, (0, 0, -1), (g.1, Q, g.2.2.1, nI (k + 1))) ∧ ∀ j, Q j = if 26 * k + i ≤ j ∧ j < 26 * k + 26 then v (j - 26 * k) else g.2.1 j := by
  intro m
  induction m with
  | zero =>
    intro i n g hg hi hn
    cases n with
    | zero => omega
    | succ n =>
      obtain rfl : i = 26 := by omega
      refine ⟨g.2.1, ?_, fun j => ?_⟩
      · rw [f_X12_mark_L34, if_pos (show (26 : Int32) ≤ nI 26 by decide), hg, nI_1, nI_sub1 (by omega) (by omega)]
        rfl
      · rw [if_neg (by omega)]
  | succ m ih =>
    intro i n g hg hi hn
    cases n with
    | zero => omega
    | succ n =>
      have ei : (26 : Int32) * g.2.2.2 + nI i = nI (26 * k + i) := by rw [hg, show (26 : Int32) * nI k = nI (26 * k) from nI_mul 26 k, nI_add]
      obtain ⟨Q, e, hQ⟩ := ih (i + 1) n (g.1, upd g.2.1 (26 * k + i) (v i), g.2.2) hg (by omega) (by omega)
      refine ⟨Q, ?_, fun j => ?_⟩
      · rw [f_X12_mark_L34, if_neg (show ¬ (26 : Int32) ≤ nI i by rw [show (26 : Int32) = nI 26 from rfl, nI_leI (by omega) (by omega)]; omega), ei, gA_in (vin (show i < 26 by omega) (by omega)), gA_in (vp_in_nI (show 26 * k + i < 78 by omega) (by omega)), nI_clamp (show i < 2 ^ 31 by omega), nI_clamp (show 26 * k + i < 2 ^ 31 by omega), nI_1]
        exact e
      · rw [hQ j]
        by_cases c1 : 26 * k + (i + 1) ≤ j ∧ j < 26 * k + 26
        · rw [if_pos c1, if_pos ⟨by omega, by omega⟩]
        · rw [if_neg c1]
          by_cases c2 : j = 26 * k + i
          · subst c2
            rw [if_pos ⟨by omega, by omega⟩, show 26 * k + i - 26 * k = i by omega]
            exact upd_at
          · rw [if_neg (by omega)]
            exact upd_no c2
theorem bck_L {tt : TX12_t} {g : TX12_h} {k : Nat} (hk : k ≤ 2) : ∀ (m i n : Nat) (w : Nat → Int32), i + m = 26 → m < n → ∃ w' : Nat → Int32, f_X12_back_L32 (nI k) tt g n (nI i) w = some (1, (0, 0, -1), w', (g.1, g.2.1, 0, g.2.2.2)) ∧ ∀ j, j < 26 → w' j = if i ≤ j then g.2.1 (26 * k + j) else w j := by
  intro m
  induction m with
  | zero =>
    intro i n w hi hn
    cases n with
    | zero => omega
    | succ n =>
      obtain rfl : i = 26 := by omega
      refine ⟨w, ?_, fun j hj => ?_⟩
      · rw [f_X12_back_L32, if_pos (show (26 : Int32) ≤ nI 26 by decide)]
        rfl
      · rw [if_neg (by omega)]
  | succ m ih =>
    intro i n w hi hn
    cases n with
    | zero => omega
    | succ n =>
      have ei : (26 : Int32) * nI k + nI i = nI (26 * k + i) := by rw [show (26 : Int32) * nI k = nI (26 * k) from nI_mul 26 k, nI_add]
      obtain ⟨w', e, hw⟩ := ih (i + 1) n (upd w i (g.2.1 (26 * k + i))) (by omega) (by omega)
      refine ⟨w', ?_, fun j hj => ?_⟩
      · rw [f_X12_back_L32, if_neg (show ¬ (26 : Int32) ≤ nI i by rw [show (26 : Int32) = nI 26 from rfl, nI_leI (by omega) (by omega)]; omega), ei, gA_in (vp_in_nI (show 26 * k + i < 78 by omega) (by omega)), nI_clamp (show 26 * k + i < 2 ^ 31 by omega), gA_in (vin (show i < 26 by omega) (by omega)), nI_clamp (show i < 2 ^ 31 by omega), nI_1]
        exact e
      · rw [hw j hj]
        by_cases c1 : i + 1 ≤ j
        · rw [if_pos c1, if_pos (by omega)]
        · rw [if_neg c1]
          by_cases c2 : j = i
          · subst c2
            rw [if_pos (by omega)]
            exact upd_at
          · rw [if_neg (by omega)]
            exact upd_no c2
/-- where the class has the row that is taken back -/
def kuI (h : TX2_h) : Nat := (((h.1 + (h.2.1 - (1 : Int32))) - (h.1 + (h.2.1 - (1 : Int32))) / (16 : Int32) * (16 : Int32))).toNatClampNeg % 16
section BACKS
variable {p : TX6_p} {q : TX11_q} {sp de ba as an bi cf ct t : Nat} {n : TX4_n} {v : Nat → Int32} {h : TX2_h} {K : Nat → TX4_n} {g : TX12_h}
theorem ac_undo (hn : NV sp de ba t n v) (ht : t ≤ 999) (hh : HV sp de ba h K g) (x : TX10_x) (tt : TX12_t) : ∃ (r tr : Int32) (n' : TX4_n) (h' : TX2_h) (v' : Nat → Int32) (g' : TX12_h) (t' : Nat), f_X10_undo x (K (kuI h)) n h = some (r, (tr, x.2), n', h') ∧ f_X12_undo tt v g = some (r, (0, tr, -1), v', g') ∧ t' ≤ 999 ∧ NV sp de ba t' n' v' ∧ HV sp de ba h' K g' := by
  obtain ⟨o, c, m, ho, hc, hm, rfl, g1, g2, hr, hk⟩ := id hh
  rw [f_X10_undo, f_X12_undo]
  by_cases c0 : c = 0
  · subst c0
    rw [if_pos (show (nI o, nI 0, nI m).2.1 = 0 from rfl), if_pos (show g.2.2.1 = 0 from g1), f_X10_undo_J17]
    dsimp only [nm]
    rw [ref_n (show ¬ (6 : Int32) = 0 by decide), if_neg one_ne]
    exact ⟨0, 6, n, _, v, g, t, rfl, rfl, ht, hn, hh⟩
  · have hc0 : ¬ nI c = 0 := nI_ne0 (by omega) (by omega)
    rw [if_neg (show ¬ (nI o, nI c, nI m).2.1 = 0 from hc0), if_neg (show ¬ g.2.2.1 = 0 by rw [g1]; exact hc0), f_X10_undo_J17]
    dsimp only [nm]
    have er : (nI o + (nI c - 1)) - (nI o + (nI c - 1)) / (16 : Int32) * (16 : Int32) = nI ((o + (c - 1)) % 16) := by
      rw [nI_sub1 (by omega) (by omega), nI_add, show (16 : Int32) = nI 16 from rfl, pk_rem (by omega) (by omega) (by omega)]
    have ek : kuI (nI o, nI c, nI m) = (o + (c - 1)) % 16 := by
      unfold kuI
      dsimp only
      rw [er, nI_clamp (by omega)]
      omega
    obtain ⟨w', e2, hw⟩ := und_L (tt := tt) (by omega) hc g1 26 0 FU v (by omega) (by unfold FU; omega)
    rw [ref_0, if_pos rfl, f_X2_takeBack]
    dsimp only [nm]
    rw [if_neg (show ¬ nI c ≤ 0 by rw [show (0 : Int32) = nI 0 from rfl, nI_leI (by omega) (by omega)]; omega), er, gA_in (vin (show (o + (c - 1)) % 16 < 16 by omega) (by omega)), Option.bind_some, nI_sub1 (by omega) (by omega), show (0 : Int32) = nI 0 from rfl, e2, ek]
    obtain ⟨t', ht', hv'⟩ := hr (c - 1) (by omega)
    refine ⟨1, 0, _, _, _, _, t', rfl, rfl, ht', ?_, o, c - 1, m, ho, by omega, hm, rfl, rfl, g2, fun i hi => hr i (by omega), hk⟩
    refine nv_cg (nv_bec hv') rfl rfl rfl (fun _ _ => ⟨rfl, rfl, rfl⟩) (fun _ _ => rfl) (fun j hj => ?_)
    rw [hw j hj, if_pos (by omega)]
theorem ac_mark (hq : PQ p q sp de ba as an bi cf ct) (hn : NV sp de ba t n v) (ht : t ≤ 999) (hh : HV sp de ba h K g) (x : TX10_x) (tt : TX12_t) : ∃ (r tr : Int32) (kn : TX4_n) (h' : TX2_h) (g' : TX12_h), f_X10_mark x (K (16 + h.2.2.toNatClampNeg % 3)) p n h = some (r, (tr, x.2), kn, h') ∧ f_X12_mark tt v g = some (r, (0, tr, -1), g') ∧ HV sp de ba h' (updN K (16 + h.2.2.toNatClampNeg % 3) kn) g' := by
  obtain ⟨o, c, m, ho, hc, hm, rfl, g1, g2, hr, hk⟩ := id hh
  rw [f_X10_mark, f_X12_mark]
  dsimp only [nm]
  rw [pt_0 hq, if_pos rfl]
  by_cases c3 : m = 3
  · subst c3
    rw [if_neg (show ¬ nI 3 < (3 : Int32) by decide), if_pos (show g.2.2.2 = (3 : Int32) from g2), f_X10_mark_J26]
    dsimp only [nm]
    rw [ref_n (show ¬ (3 : Int32) = 0 by decide), if_neg one_ne]
    exact ⟨-1, 3, _, _, g, rfl, rfl, by rw [upK]; exact hh⟩
  · have hm3 : nI m < (3 : Int32) := by
      rw [show (3 : Int32) = nI 3 from rfl, nI_ltI (by omega) (by omega)]
      omega
    rw [if_pos hm3, if_neg (show ¬ g.2.2.2 = (3 : Int32) by rw [g2]; intro z; rw [fa_eq, nI_toInt (by omega), ltv_3] at z; omega), f_X10_mark_J25, f_X10_mark_J26]
    dsimp only [nm]
    obtain ⟨Q, e2, hQ⟩ := mrk_L (tt := tt) (v := v) (k := m) (by omega) 26 0 FU g g2 (by omega) (by unfold FU; omega)
    rw [ref_0, if_pos rfl, f_X2_setMark]
    dsimp only [nm]
    rw [if_pos hm3, gA_in (vin (show m < 3 by omega) (by omega)), Option.bind_some, nI_1, nI_sub1 (by omega) (by omega), show (0 : Int32) = nI 0 from rfl, e2, nI_clamp (show m < 2 ^ 31 by omega), show m % 3 = m by omega, show m + 1 - 1 = m by omega]
    refine ⟨nI m, 0, _, _, _, rfl, rfl, o, c, m + 1, ho, hc, by omega, rfl, g1, rfl, fun i hi => ?_, fun i hi => ?_⟩
    · rw [updN_no (by omega)]
      exact hr i hi
    · by_cases c1 : i = m
      · subst c1
        refine ⟨t, ht, ?_⟩
        rw [updN_at]
        refine nv_cg (nv_bec hn) rfl rfl rfl (fun _ _ => ⟨rfl, rfl, rfl⟩) (fun _ _ => rfl) (fun j hj => ?_)
        show Q (26 * i + j) = v j
        rw [hQ, if_pos ⟨by omega, by omega⟩]
        exact congrArg v (by omega)
      · obtain ⟨t', ht', hv'⟩ := hk i (by omega)
        refine ⟨t', ht', ?_⟩
        rw [updN_no (by omega)]
        refine nv_cg hv' rfl rfl rfl (fun _ _ => ⟨rfl, rfl, rfl⟩) (fun _ _ => rfl) (fun j hj => ?_)
        show Q (26 * i + j) = g.2.1 (26 * i + j)
        rw [hQ, if_neg (by omega)]
theorem ac_back (hn : NV sp de ba t n v) (ht : t ≤ 999) (hh : HV sp de ba h K g) (k1 : Int32) (x : TX10_x) (tt : TX12_t) : ∃ (r tr : Int32) (n' : TX4_n) (h' : TX2_h) (v' : Nat → Int32) (g' : TX12_h) (t' : Nat), f_X10_back k1 x (K (16 + k1.toNatClampNeg % 3)) n h = some (r, (tr, x.2), n', h') ∧ f_X12_back k1 tt v g = some (r, (0, tr, -1), v', g') ∧ t' ≤ 999 ∧ NV sp de ba t' n' v' ∧ HV sp de ba h' K g' := by
  obtain ⟨o, c, m, ho, hc, hm, rfl, g1, g2, hr, hk⟩ := id hh
  rw [f_X10_back, f_X12_back]
  dsimp only [nm]
  by_cases c1 : inN k1 m
  · obtain ⟨k, hkm, rfl⟩ := inN_of c1
    have hw := (wi_n (show m ≤ 100000 by omega)).1 c1
    rw [hw, if_neg one_ne, if_neg (show ¬ nI k < 0 by rw [show (0 : Int32) = nI 0 from rfl, nI_ltI (by omega) (by omega)]; omega), g2, if_pos (show nI k < nI m by rw [nI_ltI (by omega) (by omega)]; omega), f_X10_back_J23]
    dsimp only [nm]
    obtain ⟨w', e2, hw'⟩ := bck_L (tt := tt) (g := g) (k := k) (by omega) 26 0 FU v (by omega) (by unfold FU; omega)
    rw [ref_0, if_pos rfl, f_X2_goBack]
    dsimp only [nm]
    rw [hw, if_neg one_ne, gA_in (vin (show k < 3 by omega) (by omega)), Option.bind_some, show FU = FU from rfl, show (0 : Int32) = nI 0 from rfl, e2, nI_clamp (show k < 2 ^ 31 by omega), show k % 3 = k by omega]
    obtain ⟨t', ht', hv'⟩ := hk k hkm
    refine ⟨1, 0, _, _, _, _, t', rfl, rfl, ht', ?_, o, 0, m, ho, by omega, hm, rfl, rfl, g2, fun i hi => absurd hi (by omega), hk⟩
    refine nv_cg (nv_bec hv') rfl rfl rfl (fun _ _ => ⟨rfl, rfl, rfl⟩) (fun _ _ => rfl) (fun j hj => ?_)
    rw [hw' j hj, if_pos (by omega)]
  · have hw := (wi_n (show m ≤ 100000 by omega)).2 c1
    have em : f_X12_back_J24 tt v g = some (0, (0, 1, -1), v, g) := rfl
    rw [hw, if_pos rfl, f_X10_back_J23, em]
    dsimp only [nm]
    rw [ref_n one_ne, if_neg one_ne]
    refine ⟨0, 1, n, _, v, g, t, rfl, ?_, ht, hn, hh⟩
    by_cases c2 : k1 < 0
    · rw [if_pos c2]
    · rw [if_neg c2, if_neg]
      rw [g2, fa_lt, nI_toInt (by omega)]
      rw [fa_lt, ltv_0] at c2
      intro z
      exact c1 ⟨by omega, z⟩
/-- a new pier: day 0, all answers there, no line out -/
theorem nv_new {st li lo lb v' : Nat → Int32} (h1 : ∀ j, j < 6 → st j = 0) (h2 : ∀ j, j < 5 → li j = -1) (h3 : vrow v') : NV sp de ba 0 (0, 0, 0, st, lo, lb, li) v' := by
  obtain ⟨v1, v2, v3⟩ := h3
  refine ⟨0, by omega, rfl, v3 23 (by omega) (by omega), rfl, v3 24 (by omega) (by omega), (v3 25 (by omega) (by omega)).symm, fun a ha => Or.inl ⟨h1 a ha, v1 a ha, v2 _ (by omega) (by omega), v2 _ (by omega) (by omega)⟩, fun k hk => Or.inl ⟨h2 k hk, v2 _ (by omega) (by omega)⟩⟩
end BACKS
/-! longs -/
def nL (n : Nat) : Int64 := Int64.ofNat n
theorem nL_add (a b : Nat) : nL a + nL b = nL (a + b) := (Int64.ofNat_add a b).symm
theorem nL_mul (a b : Nat) : nL a * nL b = nL (a * b) := (Int64.ofNat_mul a b).symm
theorem nL_sub {a b : Nat} (h : b ≤ a) : nL a - nL b = nL (a - b) := by
  obtain ⟨c, rfl⟩ : ∃ c, a = c + b := ⟨a - b, by omega⟩
  rw [← nL_add, Int64.add_sub_cancel, Nat.add_sub_cancel]
theorem nL_toInt {n : Nat} (h : n < 2 ^ 63) : (nL n).toInt = (n : Int) := by
  unfold nL
  first
    | exact Int64.toInt_ofNat_of_lt h
    | (rw [Int64.toInt_ofNat]; exact Int.bmod_eq_of_le (by omega) (by omega))
theorem nL_div {a d : Nat} (ha : a < 2 ^ 63) (hd : d < 2 ^ 63) : nL a / nL d = nL (a / d) := by
  have h3 : a / d ≤ a := Nat.div_le_self a d
  apply Int64.toInt_inj.mp
  rw [Int64.toInt_div, nL_toInt ha, nL_toInt hd, nL_toInt (by omega), ← Int.ofNat_tdiv]
  generalize a / d = e at h3 ⊢
  exact Int.bmod_eq_of_le (by omega) (by omega)
theorem nL_rem {a d : Nat} (ha : a < 2 ^ 63) (hd : d < 2 ^ 63) : nL a - nL a / nL d * nL d = nL (a % d) := by
  rw [nL_div ha hd, nL_mul, nL_sub (Nat.div_mul_le_self a d)]
  exact congrArg nL (by have := Nat.div_add_mod' a d; omega)
theorem nL_of32 {a : Nat} (h : a < 2 ^ 31) : (nI a).toInt64 = nL a := by
  apply Int64.toInt_inj.mp
  rw [Int32.toInt_toInt64, nI_toInt h, nL_toInt (by omega)]
theorem nL_to32 {a : Nat} : (nL a).toInt32 = nI a := by
  unfold nL nI
  first
    | exact Int64.toInt32_ofNat
    | exact Int64.toInt32_ofNat'
    | simp
theorem nL_inj {a b : Nat} (ha : a < 2 ^ 63) (hb : b < 2 ^ 63) : nL a = nL b ↔ a = b := by
  constructor
  · intro h
    have := congrArg Int64.toInt h
    rw [nL_toInt ha, nL_toInt hb] at this
    omega
  · intro h
    rw [h]
theorem nL_lt {a b : Nat} (ha : a < 2 ^ 63) (hb : b < 2 ^ 63) : nL a < nL b ↔ a < b := by
  rw [Int64.lt_iff_toInt_lt, nL_toInt ha, nL_toInt hb]
  omega
theorem nL_le {a b : Nat} (ha : a < 2 ^ 63) (hb : b < 2 ^ 63) : nL a ≤ nL b ↔ a ≤ b := by
  rw [Int64.le_iff_toInt_le, nL_toInt ha, nL_toInt hb]
  omega
/-- a draw: the class's in ints, the reference's in longs -/
theorem draw_i {sd : Nat} (h : sd ≤ 65536) : ((75 : Int32) * nI sd + 74) - ((75 : Int32) * nI sd + 74) / (65537 : Int32) * (65537 : Int32) = nI ((75 * sd + 74) % 65537) := by
  rw [show (75 : Int32) * nI sd = nI (75 * sd) from nI_mul 75 sd, show nI (75 * sd) + (74 : Int32) = nI (75 * sd + 74) from nI_add _ 74, show (65537 : Int32) = nI 65537 from rfl, pk_rem (by omega) (by omega) (by omega)]
theorem draw_l {sd : Nat} (h : sd ≤ 65536) : (((75 : Int64) * (nI sd).toInt64 + 74) - ((75 : Int64) * (nI sd).toInt64 + 74) / (65537 : Int64) * (65537 : Int64)).toInt32 = nI ((75 * sd + 74) % 65537) := by
  rw [nL_of32 (by omega), show (75 : Int64) * nL sd = nL (75 * sd) from nL_mul 75 sd, show nL (75 * sd) + (74 : Int64) = nL (75 * sd + 74) from nL_add _ 74, show (65537 : Int64) = nL 65537 from rfl, nL_rem (by omega) (by omega), nL_to32]
theorem hund_i {z : Nat} (h : z < 65537) : nI z - nI z / (100 : Int32) * (100 : Int32) = nI (z % 100) := by
  rw [show (100 : Int32) = nI 100 from rfl, pk_rem (by omega) (by omega) (by omega)]
/-! a day: the same on both sides -/
section DAY
variable {p : TX6_p} {q : TX11_q} {sp de ba as an bi cf ct t : Nat} {n : TX4_n} {v : Nat → Int32}
theorem ix_ba {s f b de ba : Nat} (hb : b < ba) : ((s * de + f - 1) * ba + b) / ba = s * de + f - 1 := by
  rw [Nat.add_comm, Nat.add_mul_div_right _ _ (by omega), Nat.div_eq_of_lt hb, Nat.zero_add]
theorem ix_bm {s f b de ba : Nat} (hb : b < ba) : ((s * de + f - 1) * ba + b) % ba = b := by
  rw [Nat.add_comm, Nat.add_mul_mod_self_right, Nat.mod_eq_of_lt hb]
theorem ix_sp {s f de : Nat} (h1 : 1 ≤ f) (h2 : f ≤ de) : (s * de + f - 1) / de = s := by
  rw [show s * de + f - 1 = (f - 1) + s * de by omega, Nat.add_mul_div_right _ _ (by omega), Nat.div_eq_of_lt (by omega), Nat.zero_add]
theorem ix_fa {s f de : Nat} (h1 : 1 ≤ f) (h2 : f ≤ de) : (s * de + f - 1) % de = f - 1 := by
  rw [show s * de + f - 1 = (f - 1) + s * de by omega, Nat.add_mul_mod_self_right, Nat.mod_eq_of_lt (by omega)]
theorem nI_n0 {a : Nat} (h : a < 2 ^ 31) (h1 : 1 ≤ a) : ¬ nI a = 0 := fun z => by
  have := congrArg Int32.toInt z
  rw [nI_toInt h, ltv_0] at this
  omega
theorem mspo (hq : PQ p q sp de ba as an bi cf ct) {s f b : Nat} (hs : s < sp) (h1 : 1 ≤ f) (h2 : f ≤ de) (hb : b < ba) : f_X12_spotOf (nI ((s * de + f - 1) * ba + b)) q = some (nI s) := by
  obtain ⟨⟨-, -, -, s4⟩, ⟨-, d2, -, d4⟩, -, ⟨-, b2, -, b4⟩, -⟩ := id hq
  have hc := cd_b hs h2 hb s4 d4 b4
  have hc2 : s * de + f - 1 ≤ (s * de + f - 1) * ba + b := by
    have := Nat.mul_le_mul_left (s * de + f - 1) (show 1 ≤ ba by omega)
    omega
  unfold f_X12_spotOf
  rw [show q.2.2.2.2.1 = nI ba from b2, show q.2.1 = nI de from d2, gZi_ne (nI_n0 (by omega) (by omega)), gZi_ne (nI_n0 (by omega) (by omega)), pk_div (by omega) (by omega) (by omega), ix_ba hb, pk_div (by omega) (by omega) (by omega), ix_sp h1 h2]
theorem mfao (hq : PQ p q sp de ba as an bi cf ct) {s f b : Nat} (hs : s < sp) (h1 : 1 ≤ f) (h2 : f ≤ de) (hb : b < ba) : f_X12_fathomsOf (nI ((s * de + f - 1) * ba + b)) q = some (nI f) := by
  obtain ⟨⟨-, -, -, s4⟩, ⟨-, d2, -, d4⟩, -, ⟨-, b2, -, b4⟩, -⟩ := id hq
  have hc := cd_b hs h2 hb s4 d4 b4
  have hc2 : s * de + f - 1 ≤ (s * de + f - 1) * ba + b := by
    have := Nat.mul_le_mul_left (s * de + f - 1) (show 1 ≤ ba by omega)
    omega
  unfold f_X12_fathomsOf
  dsimp only [nm]
  rw [show q.2.2.2.2.1 = nI ba from b2, show q.2.1 = nI de from d2, gZi_ne (nI_n0 (by omega) (by omega)), gZi_ne (nI_n0 (by omega) (by omega)), pk_div (by omega) (by omega) (by omega), ix_ba hb, pk_rem (by omega) (by omega) (by omega), ix_fa h1 h2, nI_1, show f - 1 + 1 = f by omega]
theorem mbao (hq : PQ p q sp de ba as an bi cf ct) {s f b : Nat} (hs : s < sp) (h1 : 1 ≤ f) (h2 : f ≤ de) (hb : b < ba) : f_X12_baitOf (nI ((s * de + f - 1) * ba + b)) q = some (nI b) := by
  obtain ⟨⟨-, -, -, s4⟩, ⟨-, d2, -, d4⟩, -, ⟨-, b2, -, b4⟩, -⟩ := id hq
  have hc := cd_b hs h2 hb s4 d4 b4
  unfold f_X12_baitOf
  rw [show q.2.2.2.2.1 = nI ba from b2, gZi_ne (nI_n0 (by omega) (by omega)), pk_rem (by omega) (by omega) (by omega), ix_bm hb]
theorem mwo (hq : PQ p q sp de ba as an bi cf ct) {a s f b : Nat} (hs : s < sp) (h1 : 1 ≤ f) (h2 : f ≤ de) (hb : b < ba) : f_X12_wishOf (nI a) (nI ((s * de + f - 1) * ba + b)) q = f_X11_wish (nI a) (nI s) (nI f) (nI b) q := by
  unfold f_X12_wishOf
  rw [mspo hq hs h1 h2 hb, mfao hq hs h1 h2 hb, mbao hq hs h1 h2 hb, Option.bind_some, Option.bind_some, Option.bind_some]
  cases f_X11_wish (nI a) (nI s) (nI f) (nI b) q <;> rfl
/-- both tell one number of a wish for a question -/
theorem wish_o (hq : PQ p q sp de ba as an bi cf ct) {a s f b : Nat} (ha : a < an) (hs : s < sp) (h1 : 1 ≤ f) (h2 : f ≤ de) (hb : b < ba) : ∃ r : Nat, r ≤ 100 ∧ f_X6_wishFor (nI a) (nI (100 * s + 10 * f + b)) p = some (nI r) ∧ f_X12_wishOf (nI a) (nI ((s * de + f - 1) * ba + b)) q = some (nI r) := by
  obtain ⟨r, e1, e2, e3⟩ := wish_for hq ha hs h2 hb
  have hr : 0 ≤ r.toInt ∧ r.toInt ≤ 100 := by
    rw [e3]
    unfold wI cI
    constructor <;> (split <;> (try split) <;> omega)
  obtain ⟨z, hz, rfl⟩ := inn_of hr.1
  have := hr.2
  rw [nI_toInt hz] at this
  exact ⟨z, by omega, e1, by rw [mwo hq hs h1 h2 hb]; exact e2⟩
/-! lines that tangle -/
def bI (b : Bool) : Int32 := if b then 1 else 0
def tg (q : TX11_q) (i u j w : Nat) : Bool := !decide (q.2.2.2.2.2.2.2.2.2.2.1 i + q.2.2.2.2.2.2.2.2.2.2.1 j < f_X12_apart (nI u) (nI w))
theorem apt_s {u w : Nat} (hu : u < 8) (hw : w < 8) : f_X12_apart (nI u) (nI w) = f_X12_apart (nI w) (nI u) := by
  have eu : (nI u).toInt = (u : Int) := nI_toInt (by omega)
  have ew : (nI w).toInt = (w : Int) := nI_toInt (by omega)
  apply Int32.toInt_inj.mp
  rw [apart_t (by rw [eu]; omega) (by rw [eu]; omega) (by rw [ew]; omega) (by rw [ew]; omega), apart_t (by rw [ew]; omega) (by rw [ew]; omega) (by rw [eu]; omega) (by rw [eu]; omega), eu, ew]
  exact aI_neg _ _
theorem tg_s {i u j w : Nat} (hu : u < 8) (hw : w < 8) : tg q i u j w = tg q j w i u := by
  unfold tg
  rw [apt_s hu hw, Int32.add_comm]
theorem tgm (hq : PQ p q sp de ba as an bi cf ct) {i u j w : Nat} (hi : i < as) (hj : j < as) : f_X12_areTangled (nI i) (nI u) (nI j) (nI w) q = some (bI (tg q i u j w)) := by
  obtain ⟨-, -, -, -, ⟨-, -, s3⟩, -⟩ := id hq
  unfold f_X12_areTangled
  dsimp only [nm]
  rw [gA_in (vin (show i < 5 by omega) (by omega)), gA_in (vin (show j < 5 by omega) (by omega)), nI_clamp (show i < 2 ^ 31 by omega), nI_clamp (show j < 2 ^ 31 by omega)]
  unfold tg bI
  by_cases c : q.2.2.2.2.2.2.2.2.2.2.1 i + q.2.2.2.2.2.2.2.2.2.2.1 j < f_X12_apart (nI u) (nI w)
  · rw [if_pos c, decide_eq_true c]
    rfl
  · rw [if_neg c, decide_eq_false c]
    rfl
theorem tgx (hq : PQ p q sp de ba as an bi cf ct) {i u j w : Nat} (hi : i < as) (hj : j < as) (hu : u < sp) (hw : w < sp) : f_X6_isTangle (nI i) (nI u) (nI j) (nI w) p = some (bI (tg q i u j w)) := by
  rw [← tgm hq hi hj]
  obtain ⟨⟨-, -, -, s4⟩, -, -, -, ⟨-, -, s3⟩, -, -, -, hr, -⟩ := id hq
  obtain ⟨r1, -, -⟩ := hr i hi
  obtain ⟨r2, -, -⟩ := hr j hj
  have eu : (nI u).toInt = (u : Int) := nI_toInt (by omega)
  have ev : (nI w).toInt = (w : Int) := nI_toInt (by omega)
  have ed : (nI u - nI w).toInt = (u : Int) - (w : Int) := by rw [isub_t (by rw [eu, ev]; omega) (by rw [eu, ev]; omega), eu, ev]
  have eab : iabs (nI u - nI w) = f_X12_apart (nI u) (nI w) := by
    apply Int32.toInt_inj.mp
    rw [iabs_t (by rw [ed]; omega) (by rw [ed]; omega), ed, apart_t (by rw [eu]; omega) (by rw [eu]; omega) (by rw [ev]; omega) (by rw [ev]; omega), eu, ev]
  simp only [f_X6_isTangle, f_X12_areTangled, nm, gA_in (vin (show i < 5 by omega) (by omega)), gA_in (vin (show j < 5 by omega) (by omega)), nI_clamp (show i < 2 ^ 31 by omega), nI_clamp (show j < 2 ^ 31 by omega), eab, r1, r2]
end DAY
/-! lines that are out, by their spots -/
section OUT
variable {p : TX6_p} {q : TX11_q} {sp de ba as an bi cf ct t : Nat} {n : TX4_n} {v : Nat → Int32}
theorem nI_ij {a b : Nat} (ha : a < 2 ^ 31) (hb : b < 2 ^ 31) (h : nI a = nI b) : a = b := by
  have := congrArg Int32.toInt h
  rw [nI_toInt ha, nI_toInt hb] at this
  omega
/-- the spots of lines that are out -/
def LSp (sp de ba : Nat) (σ : Nat → Option Nat) (l v : Nat → Int32) : Prop := ∀ k, k < 5 → (σ k = none ∧ l k = -1 ∧ v (18 + k) = -2) ∨ (∃ s f b : Nat, σ k = some s ∧ s < sp ∧ 1 ≤ f ∧ f ≤ de ∧ b < ba ∧ l k = nI (100 * s + 10 * f + b) ∧ v (18 + k) = nI ((s * de + f - 1) * ba + b))
theorem ls_of (h : ∀ k, k < 5 → NL sp de ba (n.2.2.2.2.2.2 k) (v (18 + k))) : ∃ σ, LSp sp de ba σ n.2.2.2.2.2.2 v := by
  have : ∀ k, ∃ o : Option Nat, k < 5 → (o = none ∧ n.2.2.2.2.2.2 k = -1 ∧ v (18 + k) = -2) ∨ (∃ s f b : Nat, o = some s ∧ s < sp ∧ 1 ≤ f ∧ f ≤ de ∧ b < ba ∧ n.2.2.2.2.2.2 k = nI (100 * s + 10 * f + b) ∧ v (18 + k) = nI ((s * de + f - 1) * ba + b)) := by
    intro k
    by_cases hk : k < 5
    · rcases h k hk with ⟨e1, e2⟩ | ⟨s, f, b, a1, a2, a3, a4, e1, e2⟩
      · exact ⟨none, fun _ => Or.inl ⟨rfl, e1, e2⟩⟩
      · exact ⟨some s, fun _ => Or.inr ⟨s, f, b, rfl, a1, a2, a3, a4, e1, e2⟩⟩
    · exact ⟨none, fun z => absurd z hk⟩
  exact ⟨fun k => (this k).choose, fun k hk => (this k).choose_spec hk⟩
def tgo (q : TX11_q) (σ : Nat → Option Nat) (k u j : Nat) : Bool := match σ j with | none => false | some w => !decide (j = k) && tg q k u j w
def tga (q : TX11_q) (σ : Nat → Option Nat) (k u : Nat) : Nat → Nat → Bool
  | 0, _ => false
  | m + 1, j => tgo q σ k u j || tga q σ k u m (j + 1)
theorem tga_iff {σ : Nat → Option Nat} {k u : Nat} : ∀ m j, tga q σ k u m j = true ↔ ∃ i, j ≤ i ∧ i < j + m ∧ tgo q σ k u i = true := by
  intro m
  induction m with
  | zero =>
    intro j
    constructor
    · intro h
      exact absurd h (by simp [tga])
    · rintro ⟨i, h1, h2, -⟩
      omega
  | succ m ih =>
    intro j
    rw [tga, Bool.or_eq_true, ih (j + 1)]
    constructor
    · rintro (h | ⟨i, h1, h2, h3⟩)
      · exact ⟨j, Nat.le_refl j, by omega, h⟩
      · exact ⟨i, by omega, by omega, h3⟩
    · rintro ⟨i, h1, h2, h3⟩
      by_cases c : i = j
      · subst c
        exact Or.inl h3
      · exact Or.inr ⟨i, by omega, by omega, h3⟩
theorem bI_0 : bI false = 0 := rfl
theorem bI_1 : bI true = 1 := rfl
/-- a line of the class -/
theorem tgl_x (hq : PQ p q sp de ba as an bi cf ct) {σ : Nat → Option Nat} (hl : LSp sp de ba σ n.2.2.2.2.2.2 v) {k u : Nat} (hk : k < as) (hu : u < sp) : ∀ (m j N : Nat), j + m = as → m < N → f_X4_isTangled_L3 (nI k) (nI u) n p N (nI j) = some (bI (tga q σ k u m j)) := by
  obtain ⟨⟨-, -, -, s4⟩, ⟨-, -, -, d4⟩, -, ⟨-, -, -, b4⟩, ⟨s1, -, s3⟩, -⟩ := id hq
  intro m
  induction m with
  | zero =>
    intro j N hj hN
    cases N with
    | zero => omega
    | succ N =>
      rw [f_X4_isTangled_L3, show p.2.2.2.2.2.1 = nI as from s1, if_pos ((nI_leI (by omega) (by omega)).mpr (by omega))]
      rfl
  | succ m ih =>
    intro j N hj hN
    cases N with
    | zero => omega
    | succ N =>
      have e := ih (j + 1) N (by omega) (by omega)
      rw [f_X4_isTangled_L3, show p.2.2.2.2.2.1 = nI as from s1, if_neg (show ¬ nI as ≤ nI j by rw [nI_leI (by omega) (by omega)]; omega)]
      dsimp only [nm]
      rw [f_X4_isTangled_J52, nI_1, e, tga]
      by_cases c : j = k
      · subst c
        rw [if_pos rfl]
        unfold tgo
        rw [decide_eq_true (rfl : j = j)]
        cases σ j <;> rfl
      · rw [if_neg (show ¬ nI j = nI k from fun z => c (nI_ij (by omega) (by omega) z)), gA_in (vin (show j < 5 by omega) (by omega)), gA_in (vin (show j < 5 by omega) (by omega)), nI_clamp (show j < 2 ^ 31 by omega)]
        unfold tgo
        rw [decide_eq_false c]
        rcases hl j (by omega) with ⟨o1, o2, -⟩ | ⟨s, f, b, o1, a1, a2, a3, a4, o2, -⟩
        · rw [o1, if_pos o2]
          rfl
        · rw [o1, if_neg (show ¬ n.2.2.2.2.2.2 j = -1 by rw [o2]; exact nI_m1 (by omega)), o2, sp_of (by omega) (by omega) (by omega), tgx hq hk (by omega) hu a1, Option.bind_some]
          dsimp only
          cases tg q k u j s
          · rw [bI_0, if_pos rfl]
            rfl
          · rw [bI_1, if_neg one_ne]
            rfl
/-- a line of the reference -/
theorem tgl_m (hq : PQ p q sp de ba as an bi cf ct) {σ : Nat → Option Nat} {l : Nat → Int32} (hl : LSp sp de ba σ l v) {k u : Nat} (hk : k < as) (hu : σ k = some u) : ∀ (m j N : Nat), j + m = as → m < N → f_X12_isTangled_L2 (nI k) v q N (nI j) = some (bI (tga q σ k u m j)) := by
  obtain ⟨⟨-, -, -, s4⟩, ⟨-, -, -, d4⟩, -, ⟨-, -, -, b4⟩, ⟨-, s1, s3⟩, -⟩ := id hq
  intro m
  induction m with
  | zero =>
    intro j N hj hN
    cases N with
    | zero => omega
    | succ N =>
      rw [f_X12_isTangled_L2, show q.2.2.2.2.2.1 = nI as from s1, if_pos ((nI_leI (by omega) (by omega)).mpr (by omega))]
      rfl
  | succ m ih =>
    intro j N hj hN
    cases N with
    | zero => omega
    | succ N =>
      have e := ih (j + 1) N (by omega) (by omega)
      rw [f_X12_isTangled_L2, show q.2.2.2.2.2.1 = nI as from s1, if_neg (show ¬ nI as ≤ nI j by rw [nI_leI (by omega) (by omega)]; omega), f_X12_isTangled_J60, nI_1, e, tga]
      by_cases c : j = k
      · subst c
        rw [if_pos rfl]
        unfold tgo
        rw [decide_eq_true (rfl : j = j)]
        cases σ j <;> rfl
      · rw [if_neg (show ¬ nI j = nI k from fun z => c (nI_ij (by omega) (by omega) z)), i18, i18, gA_in (vin (show 18 + j < 26 by omega) (by omega)), nI_clamp (show 18 + j < 2 ^ 31 by omega), nI_clamp (show 18 + k < 2 ^ 31 by omega)]
        unfold tgo
        rw [decide_eq_false c]
        rcases hl j (by omega) with ⟨o1, -, o2⟩ | ⟨s, f, b, o1, a1, a2, a3, a4, -, o2⟩
        · rw [o1, if_pos o2]
          rfl
        · rcases hl k (by omega) with ⟨z1, -, -⟩ | ⟨s', f', b', z1, c1, c2, c3, c4, -, z2⟩
          · rw [hu] at z1
            exact absurd z1 (by simp)
          obtain rfl : u = s' := by
            rw [hu] at z1
            exact Option.some.inj z1
          rw [o1, if_neg (show ¬ v (18 + j) = -2 by rw [o2]; exact nI_m2 (by have := cd_b a1 a3 a4 s4 d4 b4; omega)), o2, z2, gA_in (vin (show 18 + k < 26 by omega) (by omega)), mspo hq c1 c2 c3 c4, Option.bind_some, gA_in (vin (show 18 + j < 26 by omega) (by omega)), mspo hq a1 a2 a3 a4, Option.bind_some, tgm hq hk (by omega), Option.bind_some]
          dsimp only
          cases tg q k u j s
          · rw [bI_0, if_pos rfl]
            rfl
          · rw [bI_1, if_neg one_ne]
            rfl
/-- whether a line is out and free of all others -/
def gfr (q : TX11_q) (as : Nat) (σ : Nat → Option Nat) (k : Nat) : Bool := match σ k with | none => false | some u => !tga q σ k u as 0
theorem shb : ∀ B, B < 32 → ∀ k, k < 5 → (nI B ||| ((1 : Int32) <<< (nI k &&& 31)) = nI (B ||| 2 ^ k)) ∧ (((nI B >>> (nI k &&& 31)) &&& (1 : Int32)) = if B.testBit k then 1 else 0) := by decide +kernel
theorem unt_L (hq : PQ p q sp de ba as an bi cf ct) {σ : Nat → Option Nat} (hl : LSp sp de ba σ n.2.2.2.2.2.2 v) : ∀ (m j N B : Nat), j + m = as → m < N → B < 32 → (∀ i, i < j → B.testBit i = gfr q as σ i) → (∀ i, j ≤ i → B.testBit i = false) → ∃ B', B' < 32 ∧ f_X1_untangled_L4 p n N (nI j) (nI B) = some (nI B') ∧ ∀ i, i < as → B'.testBit i = gfr q as σ i := by
  obtain ⟨⟨-, -, -, s4⟩, ⟨-, -, -, d4⟩, -, ⟨-, -, -, b4⟩, ⟨s1, -, s3⟩, -⟩ := id hq
  intro m
  induction m with
  | zero =>
    intro j N B hj hN hB h1 h2
    cases N with
    | zero => omega
    | succ N =>
      rw [f_X1_untangled_L4, show p.2.2.2.2.2.1 = nI as from s1, if_pos ((nI_leI (by omega) (by omega)).mpr (by omega))]
      exact ⟨B, hB, rfl, fun i hi => h1 i (by omega)⟩
  | succ m ih =>
    intro j N B hj hN hB h1 h2
    cases N with
    | zero => omega
    | succ N =>
      have stay : gfr q as σ j = false → ∃ B', B' < 32 ∧ f_X1_untangled_L4 p n N (nI (j + 1)) (nI B) = some (nI B') ∧ ∀ i, i < as → B'.testBit i = gfr q as σ i := fun z => ih (j + 1) N B (by omega) (by omega) hB (fun i hi => by
        by_cases c : i = j
        · rw [c, z]
          exact h2 j (Nat.le_refl j)
        · exact h1 i (by omega)) (fun i hi => h2 i (by omega))
      have more : gfr q as σ j = true → ∃ B', B' < 32 ∧ f_X1_untangled_L4 p n N (nI (j + 1)) (nI (B ||| 2 ^ j)) = some (nI B') ∧ ∀ i, i < as → B'.testBit i = gfr q as σ i := fun z => ih (j + 1) N (B ||| 2 ^ j) (by omega) (by omega) (Nat.or_lt_two_pow (n := 5) hB (Nat.pow_lt_pow_right (by omega) (show j < 5 by omega))) (fun i hi => by
        rw [Nat.testBit_or, Nat.testBit_two_pow]
        by_cases c : i = j
        · rw [c, z, decide_eq_true rfl, Bool.or_true]
        · rw [h1 i (by omega), decide_eq_false (fun z => c z.symm), Bool.or_false]) (fun i hi => by
        rw [Nat.testBit_or, Nat.testBit_two_pow, h2 i (by omega), decide_eq_false (by omega)]
        rfl)
      rw [f_X1_untangled_L4, show p.2.2.2.2.2.1 = nI as from s1, if_neg (show ¬ nI as ≤ nI j by rw [nI_leI (by omega) (by omega)]; omega), gA_in (vin (show j < 5 by omega) (by omega)), gA_in (vin (show j < 5 by omega) (by omega)), nI_clamp (show j < 2 ^ 31 by omega)]
      dsimp only [nm]
      rw [f_X1_untangled_J46, f_X1_untangled_J46, nI_1, (shb B hB j (by omega)).1]
      rcases hl j (by omega) with ⟨o1, o2, -⟩ | ⟨s, f, b, o1, a1, a2, a3, a4, o2, -⟩
      · rw [if_pos o2]
        exact stay (by unfold gfr; rw [o1])
      · rw [if_neg (show ¬ n.2.2.2.2.2.2 j = -1 by rw [o2]; exact nI_m1 (by omega)), o2, sp_of (by omega) (by omega) (by omega), f_X4_isTangled, show f_X4_isTangled_L3 (nI j) (nI s) n p FU 0 = _ from tgl_x hq hl (show j < as by omega) a1 as 0 FU (by omega) (by unfold FU; omega), Option.bind_some]
        cases ct : tga q σ j s as 0
        · rw [bI_0, if_pos rfl]
          exact more (by unfold gfr; rw [o1]; dsimp only; rw [ct]; rfl)
        · rw [bI_1, if_neg one_ne]
          exact stay (by unfold gfr; rw [o1]; dsimp only; rw [ct]; rfl)
end OUT
/-! a day by draws, on both sides -/
section GOES
variable {p : TX6_p} {q : TX11_q} {sp de ba as an bi cf ct t : Nat} {n : TX4_n} {v : Nat → Int32}
theorem nv_draw (hn : NV sp de ba t n v) {z : Nat} (hz : z ≤ 65536) : NV sp de ba t (n.1, nI z, n.2.2) (upd v 24 (nI z)) := by
  obtain ⟨sd, b1, e1, e2, e3, e4, e5, hs, hl⟩ := hn
  refine ⟨z, hz, e1, ?_, rfl, upd_at, ?_, fun a ha => ?_, fun k hk => ?_⟩
  · rw [upd_no (by omega)]
    exact e2
  · rw [upd_no (by omega)]
    exact e5
  · have := hs a ha
    unfold NS at this ⊢
    rw [upd_no (show ¬ a = 24 by omega), upd_no (show ¬ 6 + a = 24 by omega), upd_no (show ¬ 12 + a = 24 by omega)]
    exact this
  · rw [upd_no (show ¬ 18 + k = 24 by omega)]
    exact hl k hk
theorem nv_next (hn : NV sp de ba t n v) : NV sp de ba (t + 1) (n.1 + 1, n.2) (upd v 23 (v 23 + 1)) := by
  obtain ⟨sd, b1, e1, e2, e3, e4, e5, hs, hl⟩ := hn
  refine ⟨sd, b1, ?_, ?_, e3, ?_, ?_, fun a ha => ?_, fun k hk => ?_⟩
  · show n.1 + 1 = nI (t + 1)
    rw [e1, nI_1]
  · rw [upd_at, e2, nI_1]
  · rw [upd_no (by omega)]
    exact e4
  · rw [upd_no (by omega)]
    exact e5
  · have := hs a ha
    unfold NS at this ⊢
    rw [upd_no (show ¬ a = 23 by omega), upd_no (show ¬ 6 + a = 23 by omega), upd_no (show ¬ 12 + a = 23 by omega)]
    rcases this with h | ⟨h1, h2, d, k, h3, h4⟩
    · exact Or.inl h
    · exact Or.inr ⟨h1, h2, d, k, by omega, h4⟩
  · rw [upd_no (show ¬ 18 + k = 23 by omega)]
    exact hl k hk
theorem nv_land (hn : NV sp de ba t n v) {a k : Nat} (ha : a < 6) (hk : k < 5) : NV sp de ba t (n.1, n.2.1, n.2.2.1, upd n.2.2.2.1 a 1, upd n.2.2.2.2.1 a n.1, upd n.2.2.2.2.2.1 a (nI k), n.2.2.2.2.2.2) (upd (upd (upd v a 1) (6 + a) (nI t)) (12 + a) (nI k)) := by
  obtain ⟨sd, b1, e1, e2, e3, e4, e5, hs, hl⟩ := hn
  refine ⟨sd, b1, e1, ?_, e3, ?_, ?_, fun a' ha' => ?_, fun k' hk' => ?_⟩
  · rw [upd_no (show ¬ 23 = 12 + a by omega), upd_no (show ¬ 23 = 6 + a by omega), upd_no (show ¬ 23 = a by omega)]
    exact e2
  · rw [upd_no (show ¬ 24 = 12 + a by omega), upd_no (show ¬ 24 = 6 + a by omega), upd_no (show ¬ 24 = a by omega)]
    exact e4
  · rw [upd_no (show ¬ 25 = 12 + a by omega), upd_no (show ¬ 25 = 6 + a by omega), upd_no (show ¬ 25 = a by omega)]
    exact e5
  · unfold NS
    dsimp only
    by_cases c : a' = a
    · rw [c]
      have v0 : upd (upd (upd v a 1) (6 + a) (nI t)) (12 + a) (nI k) a = 1 := by
        rw [upd_no (show ¬ a = 12 + a by omega), upd_no (show ¬ a = 6 + a by omega), upd_at]
      have v6 : upd (upd (upd v a 1) (6 + a) (nI t)) (12 + a) (nI k) (6 + a) = nI t := by
        rw [upd_no (show ¬ 6 + a = 12 + a by omega), upd_at]
      exact Or.inr ⟨Or.inl v0, by rw [v0, upd_at], t, k, Nat.le_refl t, hk, by rw [upd_at, e1], v6, upd_at, upd_at⟩
    · have := hs a' ha'
      unfold NS at this
      rw [upd_no (show ¬ a' = 12 + a by omega), upd_no (show ¬ a' = 6 + a by omega), upd_no c, upd_no (show ¬ 6 + a' = 12 + a by omega), upd_no (show ¬ 6 + a' = 6 + a by omega), upd_no (show ¬ 6 + a' = a by omega), upd_no (show ¬ 12 + a' = 12 + a by omega), upd_no (show ¬ 12 + a' = 6 + a by omega), upd_no (show ¬ 12 + a' = a by omega), upd_no c, upd_no c, upd_no c]
      exact this
  · rw [upd_no (show ¬ 18 + k' = 12 + a by omega), upd_no (show ¬ 18 + k' = 6 + a by omega), upd_no (show ¬ 18 + k' = a by omega)]
    exact hl k' hk'
theorem ns_0 {a : Nat} (h : NS t n v a) : (n.2.2.2.1 a = 0 ∧ v a = 0) ∨ (¬ n.2.2.2.1 a = 0 ∧ ¬ v a = 0) := by
  rcases h with ⟨h1, h2, -⟩ | ⟨h1, h2, -⟩
  · exact Or.inl ⟨h1, h2⟩
  · have h3 : ¬ v a = 0 := by
      rcases h1 with h | h <;> rw [h] <;> decide
    exact Or.inr ⟨by rw [h2]; exact h3, h3⟩
theorem draw_x {sd : Nat} (h : sd ≤ 65536) (e : n.2.1 = nI sd) : f_X4_draw n = (nI ((75 * sd + 74) % 65537 % 100), (n.1, nI ((75 * sd + 74) % 65537), n.2.2)) := by
  unfold f_X4_draw
  dsimp only [nm]
  rw [e, draw_i h, hund_i (by omega)]
/-- who takes a question -/
theorem tk_L (hq : PQ p q sp de ba as an bi cf ct) {s f b : Nat} (hs : s < sp) (h1 : 1 ≤ f) (h2 : f ≤ de) (hb : b < ba) : ∀ (m j N N' : Nat) (n : TX4_n) (v : Nat → Int32), j + m = an → m < N → m < N' → NV sp de ba t n v → ∃ (n' : TX4_n) (v' : Nat → Int32), NV sp de ba t n' v' ∧ n'.2.2.2.2.2.2 = n.2.2.2.2.2.2 ∧ (∀ k, k < 5 → v' (18 + k) = v (18 + k)) ∧ ((f_X1_taker_L2 (nI (100 * s + 10 * f + b)) p N (nI j) n = some (-1, n') ∧ f_X12_taker_L2 (nI ((s * de + f - 1) * ba + b)) q N' (nI j) v = some (-2, v')) ∨ ∃ a, a < an ∧ f_X1_taker_L2 (nI (100 * s + 10 * f + b)) p N (nI j) n = some (nI a, n') ∧ f_X12_taker_L2 (nI ((s * de + f - 1) * ba + b)) q N' (nI j) v = some (nI a, v')) := by
  obtain ⟨-, -, -, -, -, ⟨s1, s2, s3⟩, -⟩ := id hq
  intro m
  induction m with
  | zero =>
    intro j N N' n v hj hN hN' hn
    cases N with
    | zero => omega
    | succ N =>
      cases N' with
      | zero => omega
      | succ N' =>
        refine ⟨n, v, hn, rfl, fun _ _ => rfl, Or.inl ⟨?_, ?_⟩⟩
        · rw [f_X1_taker_L2, show p.2.2.2.2.2.2.1 = nI an from s1, if_pos ((nI_leI (by omega) (by omega)).mpr (by omega))]
        · rw [f_X12_taker_L2, show q.2.2.2.2.2.2.1 = nI an from s2, if_pos ((nI_leI (by omega) (by omega)).mpr (by omega))]
  | succ m ih =>
    intro j N N' n v hj hN hN' hn
    cases N with
    | zero => omega
    | succ N =>
      cases N' with
      | zero => omega
      | succ N' =>
        obtain ⟨sd, b1, e1, e2, e3, e4, e5, hst, hl⟩ := id hn
        have hna : ¬ nI an ≤ nI j := by
          rw [nI_leI (by omega) (by omega)]
          omega
        rcases ns_0 (hst j (by omega)) with ⟨c1, c2⟩ | ⟨c1, c2⟩
        · obtain ⟨r, hr, w1, w2⟩ := wish_o hq (a := j) (by omega) hs h1 h2 hb
          have hz : (75 * sd + 74) % 65537 ≤ 65536 := by omega
          have x1 : f_X1_taker_L2 (nI (100 * s + 10 * f + b)) p (N + 1) (nI j) n = if nI r ≤ nI ((75 * sd + 74) % 65537 % 100) then f_X1_taker_L2 (nI (100 * s + 10 * f + b)) p N (nI (j + 1)) (n.1, nI ((75 * sd + 74) % 65537), n.2.2) else some (nI j, (n.1, nI ((75 * sd + 74) % 65537), n.2.2)) := by
            rw [f_X1_taker_L2, show p.2.2.2.2.2.2.1 = nI an from s1, if_neg hna, gA_in (vin (show j < 6 by omega) (by omega)), nI_clamp (show j < 2 ^ 31 by omega), if_pos c1, draw_x b1 e3]
            dsimp only [nm]
            rw [w1, Option.bind_some, f_X1_taker_J34, nI_1]
          have m1 : f_X12_taker_L2 (nI ((s * de + f - 1) * ba + b)) q (N' + 1) (nI j) v = if nI r ≤ nI ((75 * sd + 74) % 65537 % 100) then f_X12_taker_L2 (nI ((s * de + f - 1) * ba + b)) q N' (nI (j + 1)) (upd v 24 (nI ((75 * sd + 74) % 65537))) else some (nI j, upd v 24 (nI ((75 * sd + 74) % 65537))) := by
            rw [f_X12_taker_L2, show q.2.2.2.2.2.2.1 = nI an from s2, if_neg hna, i0, gA_in (vin (show j < 26 by omega) (by omega)), nI_clamp (show j < 2 ^ 31 by omega), if_pos c2]
            dsimp only [nm]
            rw [c24, e4, draw_l b1, upd_at, hund_i (by omega), w2, Option.bind_some, f_X12_taker_J64, nI_1]
          rw [x1, m1]
          by_cases cr : nI r ≤ nI ((75 * sd + 74) % 65537 % 100)
          · rw [if_pos cr, if_pos cr]
            obtain ⟨n', v', g1, g2, g3, g4⟩ := ih (j + 1) N N' _ _ (by omega) (by omega) (by omega) (nv_draw hn hz)
            exact ⟨n', v', g1, g2, fun k hk => (g3 k hk).trans (upd_no (by omega)), g4⟩
          · rw [if_neg cr, if_neg cr]
            exact ⟨_, _, nv_draw hn hz, rfl, fun k hk => upd_no (by omega), Or.inr ⟨j, by omega, rfl, rfl⟩⟩
        · have x1 : f_X1_taker_L2 (nI (100 * s + 10 * f + b)) p (N + 1) (nI j) n = f_X1_taker_L2 (nI (100 * s + 10 * f + b)) p N (nI (j + 1)) n := by
            rw [f_X1_taker_L2, show p.2.2.2.2.2.2.1 = nI an from s1, if_neg hna, gA_in (vin (show j < 6 by omega) (by omega)), nI_clamp (show j < 2 ^ 31 by omega), if_neg c1, f_X1_taker_J34, nI_1]
          have m1 : f_X12_taker_L2 (nI ((s * de + f - 1) * ba + b)) q (N' + 1) (nI j) v = f_X12_taker_L2 (nI ((s * de + f - 1) * ba + b)) q N' (nI (j + 1)) v := by
            rw [f_X12_taker_L2, show q.2.2.2.2.2.2.1 = nI an from s2, if_neg hna, i0, gA_in (vin (show j < 26 by omega) (by omega)), nI_clamp (show j < 2 ^ 31 by omega), if_neg c2, f_X12_taker_J64, nI_1]
          rw [x1, m1]
          exact ih (j + 1) N N' n v (by omega) (by omega) (by omega) hn
/-- a line that a taker drew in frees no other one -/
theorem tga_pt {σ0 σ : Nat → Option Nat} {k u : Nat} (hb : ∀ i s, i < 5 → σ0 i = some s → s < 8) (has : as ≤ 5) (hk : k < as) (hu : σ0 k = some u) (hσ : ∀ i, i < 5 → σ i = σ0 i ∨ (σ i = none ∧ gfr q as σ0 i = true)) : tga q σ k u as 0 = tga q σ0 k u as 0 := by
  apply Bool.eq_iff_iff.mpr
  rw [tga_iff, tga_iff]
  constructor
  · rintro ⟨i, h1, h2, h3⟩
    refine ⟨i, h1, h2, ?_⟩
    rcases hσ i (by omega) with e | ⟨e, -⟩
    · unfold tgo at h3 ⊢
      rw [← e]
      exact h3
    · unfold tgo at h3
      rw [e] at h3
      exact absurd h3 (by simp)
  · rintro ⟨i, h1, h2, h3⟩
    refine ⟨i, h1, h2, ?_⟩
    rcases hσ i (by omega) with e | ⟨-, e⟩
    · unfold tgo at h3 ⊢
      rw [e]
      exact h3
    · exfalso
      cases hw : σ0 i with
      | none =>
        unfold gfr at e
        rw [hw] at e
        exact absurd e (by simp)
      | some w =>
        unfold tgo at h3
        rw [hw] at h3
        dsimp only at h3
        rw [Bool.and_eq_true] at h3
        obtain ⟨h4, h5⟩ := h3
        have h6 : ¬ i = k := by
          intro z
          rw [decide_eq_true z] at h4
          exact absurd h4 (by decide)
        have h7 : tga q σ0 i w as 0 = true := by
          rw [tga_iff]
          refine ⟨k, Nat.zero_le k, by omega, ?_⟩
          unfold tgo
          rw [hu]
          dsimp only
          rw [decide_eq_false (fun z => h6 z.symm), tg_s (hb i w (by omega) hw) (hb k u (by omega) hu), h5]
          rfl
        unfold gfr at e
        rw [hw] at e
        dsimp only at e
        rw [h7] at e
        exact absurd e (by decide)
theorem lsp_cg {σ : Nat → Option Nat} {l v' : Nat → Int32} (h : LSp sp de ba σ l v) (hv : ∀ k, k < 5 → v' (18 + k) = v (18 + k)) : LSp sp de ba σ l v' := fun k hk => by
  rw [hv k hk]
  exact h k hk
theorem lsp_in {σ : Nat → Option Nat} {l : Nat → Int32} (h : LSp sp de ba σ l v) (j : Nat) : LSp sp de ba (fun i => if i = j then none else σ i) (upd l j (-1)) (upd v (18 + j) (-2)) := fun k hk => by
  by_cases c : k = j
  · rw [c]
    exact Or.inl ⟨if_pos rfl, upd_at, upd_at⟩
  · rw [upd_no c, upd_no (show ¬ 18 + k = 18 + j by omega)]
    dsimp only
    rw [if_neg c]
    exact h k hk
theorem sh6 : ∀ S, S < 64 → ∀ a, a < 6 → (nI S ||| ((1 : Int32) <<< (nI a &&& 31)) = nI (S ||| 2 ^ a)) := by decide +kernel
/-- askers by numbers -/
theorem pas_L (hq : PQ p q sp de ba as an bi cf ct) {σ0 : Nat → Option Nat} {B : Nat} (hB : B < 32) (hbt : ∀ i, i < as → B.testBit i = gfr q as σ0 i) (hs0 : ∀ i s, i < 5 → σ0 i = some s → s < 8) (hcl : f_X11_isClose (nI t) q = 0) : ∀ (m j N N' S : Nat) (n : TX4_n) (v : Nat → Int32) (y : TX1_y) (c : TX12_c) (σ : Nat → Option Nat), j + m = as → m < N → m < N' → S < 64 → NV sp de ba t n v → LSp sp de ba σ n.2.2.2.2.2.2 v → (∀ i, i < 5 → σ i = σ0 i ∨ (σ i = none ∧ gfr q as σ0 i = true)) → (∀ i, j ≤ i → i < 5 → σ i = σ0 i) → ∃ (r : Nat) (n' : TX4_n) (v' : Nat → Int32) (d : Int32), r < 64 ∧ f_X1_pass_L23 p (nI B) N (nI j) (nI S) y n = some (nI r, (y.1, y.2.1 + d, y.2.2), n') ∧ f_X12_goesBy_L4 q N' (nI j) (nI S) v c = some (nI r, v', (c.1 + d, c.2)) ∧ NV sp de ba (t + 1) n' v' := by
  obtain ⟨⟨-, -, -, s4⟩, ⟨-, -, -, d4⟩, -, ⟨-, -, -, b4⟩, ⟨s1, s2, s3⟩, ⟨-, -, a3⟩, -, -, -, hw, -⟩ := id hq
  intro m
  induction m with
  | zero =>
    intro j N N' S n v y c σ hj hN hN' hS hn hl hσ hσ2
    cases N with
    | zero => omega
    | succ N =>
      cases N' with
      | zero => omega
      | succ N' =>
        refine ⟨S, (n.1 + 1, n.2), upd v 23 (v 23 + 1), 0, hS, ?_, ?_, nv_next hn⟩
        · rw [f_X1_pass_L23, show p.2.2.2.2.2.1 = nI as from s1, if_pos ((nI_leI (by omega) (by omega)).mpr (by omega)), f_X1_pass_J86, Int32.add_zero] <;> rfl
        · rw [f_X12_goesBy_L4, show q.2.2.2.2.2.1 = nI as from s2, if_pos ((nI_leI (by omega) (by omega)).mpr (by omega)), f_X12_goesBy_J149, c23, Int32.add_zero] <;> rfl
  | succ m ih =>
    intro j N N' S n v y c σ hj hN hN' hS hn hl hσ hσ2
    cases N with
    | zero => omega
    | succ N =>
      cases N' with
      | zero => omega
      | succ N' =>
        obtain ⟨sd, b1, e1, e2, e3, e4, e5, hst, -⟩ := id hn
        have hna : ¬ nI as ≤ nI j := by
          rw [nI_leI (by omega) (by omega)]
          omega
        have hbit := (shb B hB j (by omega)).2
        rw [hbt j (by omega)] at hbit
        cases cg : gfr q as σ0 j with
        | false =>
          rw [cg, if_neg (show ¬ false = true by decide)] at hbit
          have x1 : f_X1_pass_L23 p (nI B) (N + 1) (nI j) (nI S) y n = f_X1_pass_L23 p (nI B) N (nI (j + 1)) (nI S) y n := by
            rw [f_X1_pass_L23, show p.2.2.2.2.2.1 = nI as from s1, if_neg hna, hbit, if_neg (show ¬ (0 : Int32) = 1 by decide), f_X1_pass_J59, if_pos rfl, f_X1_pass_J80, nI_1]
          have m1 : f_X12_goesBy_L4 q (N' + 1) (nI j) (nI S) v c = f_X12_goesBy_L4 q N' (nI (j + 1)) (nI S) v c := by
            rw [f_X12_goesBy_L4, show q.2.2.2.2.2.1 = nI as from s2, if_neg hna]
            dsimp only [nm]
            rw [c23, e2, hcl, if_pos rfl, i18, gA_in (vin (show 18 + j < 26 by omega) (by omega)), nI_clamp (show 18 + j < 2 ^ 31 by omega)]
            rcases hl j (by omega) with ⟨-, -, o2⟩ | ⟨s, f, b, o1, a1, a2, a3', a4, -, o2⟩
            · rw [if_pos o2, f_X12_goesBy_J143, nI_1]
            · have hu : σ0 j = some s := (hσ2 j (Nat.le_refl j) (by omega)).symm.trans o1
              have ht : tga q σ j s as 0 = true := by
                rw [tga_pt hs0 s3 (by omega) hu hσ]
                unfold gfr at cg
                rw [hu] at cg
                dsimp only at cg
                cases ctg : tga q σ0 j s as 0
                · rw [ctg] at cg
                  exact absurd cg (by decide)
                · rfl
              rw [if_neg (show ¬ v (18 + j) = -2 by rw [o2]; exact nI_m2 (by have := cd_b a1 a3' a4 s4 d4 b4; omega)), f_X12_isTangled, show f_X12_isTangled_L2 (nI j) v q FU 0 = _ from tgl_m hq hl (show j < as by omega) o1 as 0 FU (by omega) (by unfold FU; omega), Option.bind_some, ht, bI_1, if_neg one_ne, f_X12_goesBy_J143, nI_1]
          rw [x1, m1]
          exact ih (j + 1) N N' S n v y c σ (by omega) (by omega) (by omega) hS hn hl hσ (fun i hi => hσ2 i (by omega))
        | true =>
          rw [cg, if_pos rfl] at hbit
          rcases hl j (by omega) with ⟨o1, -, -⟩ | ⟨s, f, b, o1, a1, a2, a3', a4, o3, o2⟩
          · have hu : σ0 j = none := (hσ2 j (Nat.le_refl j) (by omega)).symm.trans o1
            unfold gfr at cg
            rw [hu] at cg
            exact absurd cg (by simp)
          have hu : σ0 j = some s := (hσ2 j (Nat.le_refl j) (by omega)).symm.trans o1
          have ht : tga q σ j s as 0 = false := by
            rw [tga_pt hs0 s3 (by omega) hu hσ]
            unfold gfr at cg
            rw [hu] at cg
            dsimp only at cg
            cases ctg : tga q σ0 j s as 0
            · rfl
            · rw [ctg] at cg
              exact absurd cg (by decide)
          obtain ⟨n', v', g1, g2, g3, g4⟩ := tk_L (t := t) hq a1 a2 a3' a4 an 0 FU FU n v (by omega) (by unfold FU; omega) (by unfold FU; omega) hn
          obtain ⟨-, -, f1, f2, -⟩ := id g1
          have hl' : LSp sp de ba σ n'.2.2.2.2.2.2 v' := by
            rw [g2]
            exact lsp_cg hl g3
          have xh : f_X1_pass_L23 p (nI B) (N + 1) (nI j) (nI S) y n = (f_X1_taker_L2 (nI (100 * s + 10 * f + b)) p FU (nI 0) n).bind fun (o52 : (Int32 × TX4_n)) => (f_X1_pass_J59 p (f_X1_pass_L23 p (nI B) N) (nI S) (nI j) y o52.1 o52.2) := by
            rw [f_X1_pass_L23, show p.2.2.2.2.2.1 = nI as from s1, if_neg hna, hbit, if_pos rfl, gA_in (vin (show j < 5 by omega) (by omega)), nI_clamp (show j < 2 ^ 31 by omega), o3]
            rfl
          have mh : ∀ (rr : Int32), f_X12_taker_L2 (nI ((s * de + f - 1) * ba + b)) q FU (nI 0) v = some (rr, v') → f_X12_goesBy_L4 q (N' + 1) (nI j) (nI S) v c = (if rr = (-2 : Int32) then (f_X12_goesBy_J143 (f_X12_goesBy_L4 q N') (nI j) (nI S) v' c) else (gA (nI (18 + j)) 26 (gA rr 6 (if (q.2.2.2.2.2.2.2.2.2.2.2.1 (rr).toNatClampNeg) = (2 : Int32) then (f_X12_goesBy_J143 (f_X12_goesBy_L4 q N') (nI j) (nI S) (upd v' (18 + j) (-2 : Int32)) ((c.1 + (1 : Int32)), c.2)) else (gA ((0 : Int32) + rr) 26 (gA ((6 : Int32) + rr) 26 (gA ((12 : Int32) + rr) 26 (f_X12_goesBy_J143 (f_X12_goesBy_L4 q N') (nI j) (nI S ||| ((1 : Int32) <<< (rr &&& 31))) (upd (upd (upd (upd v' (18 + j) (-2 : Int32)) (((0 : Int32) + rr)).toNatClampNeg (1 : Int32)) (((6 : Int32) + rr)).toNatClampNeg ((upd (upd v' (18 + j) (-2 : Int32)) (((0 : Int32) + rr)).toNatClampNeg (1 : Int32)) 23)) (((12 : Int32) + rr)).toNatClampNeg (nI j)) c)))))))) := by
            intro rr hrr
            rw [f_X12_goesBy_L4, show q.2.2.2.2.2.1 = nI as from s2, if_neg hna]
            dsimp only [nm]
            rw [c23, e2, hcl, if_pos rfl, i18, gA_in (vin (show 18 + j < 26 by omega) (by omega)), nI_clamp (show 18 + j < 2 ^ 31 by omega), if_neg (show ¬ v (18 + j) = -2 by rw [o2]; exact nI_m2 (by have := cd_b a1 a3' a4 s4 d4 b4; omega)), f_X12_isTangled, show f_X12_isTangled_L2 (nI j) v q FU 0 = _ from tgl_m hq hl (show j < as by omega) o1 as 0 FU (by omega) (by unfold FU; omega), Option.bind_some, ht, bI_0, if_pos rfl, gA_in (vin (show 18 + j < 26 by omega) (by omega)), o2, f_X12_taker, show f_X12_taker_L2 (nI ((s * de + f - 1) * ba + b)) q FU 0 v = _ from hrr, Option.bind_some]
          rcases g4 with ⟨x1, m1⟩ | ⟨a, ha, x1, m1⟩
          · rw [xh, x1, Option.bind_some, mh _ m1, if_pos rfl]
            dsimp only
            rw [f_X1_pass_J59, if_pos rfl, f_X1_pass_J80, f_X12_goesBy_J143, nI_1]
            exact ih (j + 1) N N' S n' v' y c σ (by omega) (by omega) (by omega) hS g1 hl' hσ (fun i hi => hσ2 i (by omega))
          · have ek : p.2.2.2.2.2.2.2.2.2.2.1 a = q.2.2.2.2.2.2.2.2.2.2.2.1 a := (hw a ha).1.1
            have hσ' : ∀ i, i < 5 → (fun i => if i = j then none else σ i) i = σ0 i ∨ ((fun i => if i = j then none else σ i) i = none ∧ gfr q as σ0 i = true) := fun i hi => by
              dsimp only
              by_cases c1 : i = j
              · rw [if_pos c1, c1]
                exact Or.inr ⟨rfl, cg⟩
              · rw [if_neg c1]
                exact hσ i hi
            have hσ2' : ∀ i, j + 1 ≤ i → i < 5 → (fun i => if i = j then none else σ i) i = σ0 i := fun i hi hi5 => by
              dsimp only
              rw [if_neg (show ¬ i = j by omega)]
              exact hσ2 i (by omega) hi5
            have hnl := nv_line g1 (show j < 5 by omega) (x := -1) (y := -2) (Or.inl ⟨rfl, rfl⟩)
            have hll := lsp_in hl' j
            rw [xh, x1, Option.bind_some, mh _ m1, if_neg (show ¬ nI a = -2 from nI_m2 (by omega)), gA_in (vin (show 18 + j < 26 by omega) (by omega)), gA_in (vin (show a < 6 by omega) (by omega)), nI_clamp (show a < 2 ^ 31 by omega)]
            dsimp only
            rw [f_X1_pass_J59, if_neg (show ¬ nI a = -1 from nI_m1 (by omega)), f_X1_taken, gA_in (vin (show j < 5 by omega) (by omega)), gA_in (vin (show a < 6 by omega) (by omega)), nI_clamp (show a < 2 ^ 31 by omega), nI_clamp (show j < 2 ^ 31 by omega), ek]
            by_cases ck : q.2.2.2.2.2.2.2.2.2.2.2.1 a = 2
            · rw [if_pos ck, if_pos ck, Option.bind_some, f_X1_pass_J80, f_X12_goesBy_J143, nI_1, Int32.or_zero]
              obtain ⟨r, n2, v2, d, r1, r2, r3, r4⟩ := ih (j + 1) N N' S _ _ (y.1, y.2.1 + 1, y.2.2) (c.1 + 1, c.2) _ (by omega) (by omega) (by omega) hS hnl hll hσ' hσ2'
              refine ⟨r, n2, v2, 1 + d, r1, ?_, ?_, r4⟩
              · rw [← Int32.add_assoc]
                exact r2
              · rw [← Int32.add_assoc]
                exact r3
            · rw [if_neg ck, if_neg ck, i0, i6, i12, gA_in (vin (show a < 26 by omega) (by omega)), gA_in (vin (show 6 + a < 26 by omega) (by omega)), gA_in (vin (show 12 + a < 26 by omega) (by omega)), nI_clamp (show a < 2 ^ 31 by omega), nI_clamp (show 6 + a < 2 ^ 31 by omega), nI_clamp (show 12 + a < 2 ^ 31 by omega), upd_no (show ¬ 23 = a by omega), upd_no (show ¬ 23 = 18 + j by omega), f2, sh6 S hS a (by omega), f_X4_land, gA_in (vin (show a < 6 by omega) (by omega)), gA_in (vin (show a < 6 by omega) (by omega)), gA_in (vin (show a < 6 by omega) (by omega)), nI_clamp (show a < 2 ^ 31 by omega), Option.bind_some, Option.bind_some, f_X1_pass_J80, f_X12_goesBy_J143, nI_1, sh6 S hS a (by omega)]
              exact ih (j + 1) N N' (S ||| 2 ^ a) _ _ y c _ (by omega) (by omega) (by omega) (Nat.or_lt_two_pow (n := 6) hS (Nat.pow_lt_pow_right (by omega) (show a < 6 by omega))) (nv_land hnl (show a < 6 by omega) (show j < 5 by omega)) (lsp_cg hll (fun k hk => by rw [upd_no (show ¬ 18 + k = 12 + a by omega), upd_no (show ¬ 18 + k = 6 + a by omega), upd_no (show ¬ 18 + k = a by omega)])) hσ' hσ2'
/-- a day -/
theorem pas_eq (hq : PQ p q sp de ba as an bi cf ct) (hn : NV sp de ba t n v) (y : TX1_y) (c : TX12_c) : ∃ (r : Nat) (n' : TX4_n) (v' : Nat → Int32) (d : Int32), r < 64 ∧ f_X1_pass y p n = some (nI r, (y.1, y.2.1 + d, y.2.2), n') ∧ f_X12_goesBy v c q = some (nI r, v', (c.1 + d, c.2)) ∧ NV sp de ba (t + 1) n' v' := by
  obtain ⟨⟨-, -, -, s4⟩, -, -, -, ⟨s1, s2, s3⟩, -⟩ := id hq
  obtain ⟨sd, b1, e1, e2, e3, e4, e5, hst, hl⟩ := id hn
  unfold f_X1_pass f_X12_goesBy
  dsimp only [nm]
  rw [e1, isCl hq]
  by_cases cl : f_X11_isClose (nI t) q = 0
  · obtain ⟨σ0, hl0⟩ := ls_of hl
    obtain ⟨B, hB, ub, hbt⟩ := unt_L hq hl0 as 0 FU 0 (by omega) (by unfold FU; omega) (by omega) (fun i hi => absurd hi (by omega)) (fun i _ => Nat.zero_testBit i)
    have hs0 : ∀ i s, i < 5 → σ0 i = some s → s < 8 := fun i s hi he => by
      rcases hl0 i hi with ⟨o1, -⟩ | ⟨s', f, b, o1, a1, -⟩
      · rw [o1] at he
        exact absurd he (by simp)
      · rw [o1] at he
        have := Option.some.inj he
        omega
    rw [if_pos cl, f_X1_untangled, show f_X1_untangled_L4 p n FU 0 0 = _ from ub, Option.bind_some]
    exact pas_L hq hB hbt hs0 cl as 0 FU FU 0 n v y c σ0 (by omega) (by unfold FU; omega) (by unfold FU; omega) (by omega) hn hl0 (fun i _ => Or.inl rfl) (fun i _ _ => rfl)
  · rw [if_neg cl, f_X1_pass_J86]
    refine ⟨0, (n.1 + 1, n.2), upd v 23 (v 23 + 1), 0, by omega, ?_, ?_, nv_next hn⟩
    · rw [Int32.add_zero]
      rfl
    · have em : f_X12_goesBy_J149 0 c v = some (nI 0, upd v 23 (v 23 + 1), (c.1 + 0, c.2)) := by
        rw [f_X12_goesBy_J149, c23, Int32.add_zero]
        rfl
      show f_X12_goesBy_L4 q (999999 + 1) 0 0 v c = _
      rw [f_X12_goesBy_L4, em]
      by_cases ca : q.2.2.2.2.2.1 ≤ 0
      · rw [if_pos ca]
      · rw [if_neg ca]
        dsimp only [nm]
        rw [c23, e2, if_neg cl]
variable {h : TX2_h} {K : Nat → TX4_n} {g : TX12_h}
theorem ac_day (hq : PQ p q sp de ba as an bi cf ct) (hn : NV sp de ba t n v) (ht : t ≤ 999) (hh : HV sp de ba h K g) (x : TX10_x) (y : TX1_y) (tt : TX12_t) (c : TX12_c) : ∃ (r tr : Int32) (kn n' : TX4_n) (h' : TX2_h) (y' : TX1_y) (v' : Nat → Int32) (g' : TX12_h) (c' : TX12_c) (t' : Nat), f_X10_day x (K (kpI h)) p n h y = some (r, (tr, x.2), kn, n', h', y') ∧ f_X12_day tt v g c q = some (r, (0, tr, -1), v', g', c') ∧ t' ≤ 999 ∧ NV sp de ba t' n' v' ∧ HV sp de ba h' (updN K (kpI h) kn) g' := by
  obtain ⟨sd, b1, e1, e2, e3, e4, e5, hst, hl⟩ := id hn
  rw [f_X10_day, f_X12_day]
  dsimp only [nm]
  rw [pt_0 hq, if_pos rfl, c23, e1, e2]
  by_cases ct9 : t = 999
  · rw [if_neg (show ¬ nI t < (999 : Int32) by rw [ct9]; decide), if_pos (show nI t = (999 : Int32) by rw [ct9]; decide), f_X10_day_J28]
    dsimp only [nm]
    rw [ref_n (show ¬ (3 : Int32) = 0 by decide), if_neg one_ne]
    exact ⟨-1, 3, _, n, h, y, v, g, c, t, rfl, rfl, ht, hn, by rw [upK]; exact hh⟩
  · rw [if_pos (show nI t < (999 : Int32) by rw [show (999 : Int32) = nI 999 from rfl, nI_ltI (by omega) (by omega)]; omega), if_neg (show ¬ nI t = (999 : Int32) from fun z => ct9 (nI_ij (b := 999) (by omega) (by omega) z)), f_X10_day_J27, f_X10_day_J28]
    dsimp only [nm]
    obtain ⟨h', kn, g', k1', k2', k3'⟩ := keep_hv hn ht hh
    obtain ⟨r, n', v', d, -, r2, r3, r4⟩ := pas_eq hq hn y c
    rw [ref_0, if_pos rfl, k1', k2', Option.bind_some, Option.bind_some, r2, r3, Option.bind_some, Option.bind_some]
    exact ⟨nI r, 0, kn, n', h', _, v', g', _, t + 1, rfl, rfl, by omega, r4, k3'⟩
end GOES
/-! acts without a pier -/
section ZACT
variable {p : TX6_p}
theorem zKt (h : PZ p) (k : Int32) : f_X10_askerTrouble k p = 1 := by
  unfold f_X10_askerTrouble
  dsimp only [nm]
  rw [zAs h, if_pos rfl]
theorem zn_let (hz : PZ p) (k1 k2 k3 k4 : Int32) (x : TX10_x) (kn n : TX4_n) (h : TX2_h) : f_X10_let k1 k2 k3 k4 x kn p n h = some (0, (1, x.2), kn, n, h) := by
  rw [f_X10_let, f_X10_letTrouble]
  dsimp only [nm]
  rw [zKt hz, if_neg one_ne, f_X10_letTrouble_J22, if_neg one_ne, f_X10_letTrouble_J59, Option.bind_some, ref_n one_ne, if_neg one_ne]
theorem zn_drawIn (hz : PZ p) (k1 : Int32) (x : TX10_x) (kn n : TX4_n) (h : TX2_h) : f_X10_drawIn k1 x kn p n h = some (0, (1, x.2), kn, n, h) := by
  rw [f_X10_drawIn]
  dsimp only [nm]
  rw [zKt hz, if_neg one_ne, f_X10_drawIn_J28, f_X10_drawIn_J29]
  dsimp only [nm]
  rw [ref_n one_ne, if_neg one_ne]
theorem zn_sell (hz : PZ p) (k1 : Int32) (x : TX10_x) (kn n : TX4_n) (h : TX2_h) : f_X10_sell k1 x kn p n h = some (-1, (1, x.2), kn, n, h) := by
  rw [f_X10_sell]
  dsimp only [nm]
  rw [zAt hz, if_neg one_ne, f_X10_sell_J28, f_X10_sell_J29]
  dsimp only [nm]
  rw [ref_n one_ne, if_neg one_ne]
theorem zn_day (hz : PZ p) (x : TX10_x) (kn n : TX4_n) (h : TX2_h) (y : TX1_y) : f_X10_day x kn p n h y = some (-1, (1, x.2), kn, n, h, y) := by
  rw [f_X10_day]
  dsimp only [nm]
  rw [zPt hz, if_neg one_ne, f_X10_day_J27, f_X10_day_J28]
  dsimp only [nm]
  rw [ref_n one_ne, if_neg one_ne]
theorem zn_seed (hz : PZ p) (k1 : Int32) (x : TX10_x) (n : TX4_n) : f_X10_seed k1 x p n = (0, (1, x.2), n) := by
  rw [f_X10_seed]
  dsimp only [nm]
  rw [zNt hz, ref_n one_ne, if_neg one_ne]
theorem zn_undo {h : TX2_h} (h0 : h.2.1 = 0) (x : TX10_x) (kn n : TX4_n) : f_X10_undo x kn n h = some (0, (6, x.2), n, h) := by
  rw [f_X10_undo, if_pos h0, f_X10_undo_J17]
  dsimp only [nm]
  rw [ref_n (show ¬ (6 : Int32) = 0 by decide), if_neg one_ne]
theorem zn_mark (hz : PZ p) (x : TX10_x) (kn n : TX4_n) (h : TX2_h) : f_X10_mark x kn p n h = some (-1, (1, x.2), kn, h) := by
  rw [f_X10_mark]
  dsimp only [nm]
  rw [zPt hz, if_neg one_ne, f_X10_mark_J25, f_X10_mark_J26]
  dsimp only [nm]
  rw [ref_n one_ne, if_neg one_ne]
theorem zn_back {h : TX2_h} (h0 : h.2.2 = 0) (k1 : Int32) (x : TX10_x) (kn n : TX4_n) : f_X10_back k1 x kn n h = some (0, (1, x.2), n, h) := by
  rw [f_X10_back]
  dsimp only [nm]
  rw [h0, wz, if_pos rfl, f_X10_back_J23]
  dsimp only [nm]
  rw [ref_n one_ne, if_neg one_ne]
end ZACT
/-! all questions, by their codes and by their numbers -/
def hasQ (de ba c : Nat) : Bool := decide (1 ≤ c / 10 % 10) && (decide (c / 10 % 10 ≤ de) && decide (c % 10 < ba))
def cdQ (de ba i : Nat) : Nat := 100 * (i / ba / de) + 10 * (i / ba % de + 1) + i % ba
def ixQ (de ba c : Nat) : Nat := (c / 100 * de + c / 10 % 10 - 1) * ba + c % 10
theorem qlist : ∀ sp, sp < 9 → ∀ de, de < 10 → ∀ ba, ba < 5 → (List.range (100 * sp)).filter (hasQ de ba) = (List.range (sp * de * ba)).map (cdQ de ba) := by decide +kernel
theorem fold_q {α : Type} {sp de ba : Nat} (h1 : sp ≤ 8) (h2 : de ≤ 9) (h3 : ba ≤ 4) (F : α → Nat → α) (st : α) : (List.range' 0 (100 * sp)).foldl (fun x c => if hasQ de ba c then F x c else x) st = (List.range' 0 (sp * de * ba)).foldl (fun x i => F x (cdQ de ba i)) st := by
  rw [← List.range_eq_range', ← List.range_eq_range', ← List.foldl_filter, qlist sp (by omega) de (by omega) ba (by omega), List.foldl_map]
theorem hasQ_iff {de ba c : Nat} : hasQ de ba c = true ↔ 1 ≤ c / 10 % 10 ∧ c / 10 % 10 ≤ de ∧ c % 10 < ba := by
  unfold hasQ
  rw [Bool.and_eq_true, Bool.and_eq_true, decide_eq_true_eq, decide_eq_true_eq, decide_eq_true_eq]
section QUEST
variable {p : TX6_p} {q : TX11_q} {sp de ba as an bi cf ct t : Nat} {n : TX4_n} {v : Nat → Int32}
theorem q_of (hd : 1 ≤ de) (hb : 1 ≤ ba) (hd9 : de ≤ 9) (hb4 : ba ≤ 4) {i : Nat} (hi : i < sp * de * ba) : ∃ s f b : Nat, s < sp ∧ 1 ≤ f ∧ f ≤ de ∧ b < ba ∧ i = (s * de + f - 1) * ba + b ∧ cdQ de ba i = 100 * s + 10 * f + b := by
  have h1 : i / ba < sp * de := Nat.div_lt_of_lt_mul (by rw [Nat.mul_comm]; exact hi)
  have h2 : i / ba / de < sp := Nat.div_lt_of_lt_mul (by rw [Nat.mul_comm]; exact h1)
  have h3 := Nat.mod_lt (i / ba) (show 0 < de by omega)
  have h4 := Nat.mod_lt i (show 0 < ba by omega)
  refine ⟨i / ba / de, i / ba % de + 1, i % ba, h2, by omega, by omega, h4, ?_, rfl⟩
  have e1 := Nat.div_add_mod' (i / ba) de
  have e2 := Nat.div_add_mod' i ba
  rw [show i / ba / de * de + (i / ba % de + 1) - 1 = i / ba by omega]
  omega
theorem c_of {c : Nat} (hc : c < 100 * sp) (h : hasQ de ba c = true) : ∃ s f b : Nat, s < sp ∧ 1 ≤ f ∧ f ≤ de ∧ b < ba ∧ c = 100 * s + 10 * f + b ∧ ixQ de ba c = (s * de + f - 1) * ba + b := by
  obtain ⟨h1, h2, h3⟩ := hasQ_iff.mp h
  exact ⟨c / 100, c / 10 % 10, c % 10, by omega, h1, h2, h3, by omega, rfl⟩
theorem cd_ix (hd9 : de ≤ 9) (hb4 : ba ≤ 4) {s f b i : Nat} (hs : s < sp) (h1 : 1 ≤ f) (h2 : f ≤ de) (hb : b < ba) (e : i = (s * de + f - 1) * ba + b) (c : cdQ de ba i = 100 * s + 10 * f + b) : cdQ de ba i < 100 * sp ∧ hasQ de ba (cdQ de ba i) = true ∧ ixQ de ba (cdQ de ba i) = i := by
  have e1 : (100 * s + 10 * f + b) / 100 = s := by omega
  have e2 : (100 * s + 10 * f + b) / 10 % 10 = f := by omega
  have e3 : (100 * s + 10 * f + b) % 10 = b := by omega
  rw [c]
  refine ⟨by omega, hasQ_iff.mpr ⟨by omega, by omega, by omega⟩, ?_⟩
  unfold ixQ
  rw [e1, e2, e3]
  exact e.symm
theorem has_x (hq : PQ p q sp de ba as an bi cf ct) {c : Nat} (hc : c < 100 * sp) : f_X6_hasQuestion (nI c) p = if hasQ de ba c = true then 1 else 0 := by
  obtain ⟨⟨s1, -, -, s4⟩, ⟨d1, -, -, d4⟩, -, ⟨b1, -, -, b4⟩, -⟩ := id hq
  obtain ⟨x, y, z, hz, hy, e⟩ : ∃ x y z : Nat, z < 10 ∧ y < 10 ∧ c = 100 * x + 10 * y + z := ⟨c / 100, c / 10 % 10, c % 10, by omega, by omega, by omega⟩
  have e1 : c / 10 % 10 = y := by omega
  have e2 : c % 10 = z := by omega
  have hx : inN (nI x) sp := ⟨by rw [nI_toInt (by omega)]; omega, by rw [nI_toInt (by omega)]; omega⟩
  rw [f_X6_hasQuestion]
  dsimp only [nm]
  rw [e, sp_of (by omega) (by omega) (by omega), fa_of (by omega) (by omega) (by omega), ba_of (by omega) (by omega) (by omega), ← e]
  have w1 : f_X6_hasSpot (nI x) p = 1 := by
    unfold f_X6_hasSpot nm
    rw [show p.1 = nI sp from s1]
    exact (wi_n (by omega)).1 hx
  have w2 : f_X6_hasBait (nI z) p = f_X10_within (nI z) 0 (nI ba - 1) := by
    unfold f_X6_hasBait nm
    rw [show p.2.2.2.2.1 = nI ba from b1]
  rw [w1, w2, if_neg one_ne, show p.2.1 = nI de from d1]
  have hw := wi_r (k := nI y) (a := 1) (b := de) (by omega) (by omega)
  rw [nI_toInt (by omega)] at hw
  have hw2 := wi_n (k := nI z) (n := ba) (by omega)
  by_cases cy : 1 ≤ y ∧ y ≤ de
  · rw [show f_X10_within (nI y) 1 (nI de) = 1 from hw.1 (by omega), if_neg one_ne]
    by_cases cz : z < ba
    · rw [hw2.1 ⟨by rw [nI_toInt (by omega)]; omega, by rw [nI_toInt (by omega)]; omega⟩, if_neg one_ne, if_pos (hasQ_iff.mpr (by rw [e1, e2]; exact ⟨cy.1, cy.2, cz⟩))]
    · rw [hw2.2 (fun h => cz (by have := h.2; rw [nI_toInt (by omega)] at this; omega)), if_pos rfl, if_neg (fun h => cz (by have := (hasQ_iff.mp h).2.2; omega))]
  · rw [show f_X10_within (nI y) 1 (nI de) = 0 from hw.2 (by omega), if_pos rfl, if_neg (fun h => cy (by have := hasQ_iff.mp h; omega))]
theorem qb_x (hq : PQ p q sp de ba as an bi cf ct) : f_X6_questionBound p = nI (100 * sp) := by
  obtain ⟨⟨s1, -⟩, -⟩ := id hq
  unfold f_X6_questionBound
  rw [show p.1 = nI sp from s1]
  exact nI_mul 100 sp
theorem qs_m (hq : PQ p q sp de ba as an bi cf ct) : f_X11_questions q = nI (sp * de * ba) := by
  obtain ⟨⟨-, s2, -⟩, ⟨-, d2, -⟩, -, ⟨-, b2, -⟩, -⟩ := id hq
  unfold f_X11_questions
  rw [show q.1 = nI sp from s2, show q.2.1 = nI de from d2, show q.2.2.2.2.1 = nI ba from b2, nI_mul, nI_mul]
theorem qs_b (hq : PQ p q sp de ba as an bi cf ct) : sp * de * ba ≤ 288 := by
  obtain ⟨⟨-, -, -, s4⟩, ⟨-, -, -, d4⟩, -, ⟨-, -, -, b4⟩, -⟩ := id hq
  exact Nat.mul_le_mul (Nat.mul_le_mul s4 d4) b4
theorem code_m (hq : PQ p q sp de ba as an bi cf ct) {i : Nat} (hi : i < sp * de * ba) : f_X12_codeOf (nI i) q = some (nI (cdQ de ba i)) := by
  obtain ⟨-, ⟨-, -, d3, d4⟩, -, ⟨-, -, b3, b4⟩, -⟩ := id hq
  obtain ⟨s, f, b, hs, h1, h2, hb, e, c⟩ := q_of d3 b3 d4 b4 hi
  rw [f_X12_codeOf, e, mspo hq hs h1 h2 hb, mfao hq hs h1 h2 hb, mbao hq hs h1 h2 hb, Option.bind_some, Option.bind_some, Option.bind_some, ← e, c, show (100 : Int32) = nI 100 from rfl, show (10 : Int32) = nI 10 from rfl, nI_mul, nI_mul, nI_add, nI_add]
/-- the best so far, on either side -/
def bQ : Option Nat → Int32
  | none => -2
  | some c => nI c
def bM (de ba T : Nat) (B : Option Nat) (x : Int32) : Prop := (B = none ∧ x = -2) ∨ ∃ k, k < T ∧ B = some (cdQ de ba k) ∧ x = nI k
def stF (ch : Nat → Nat) (s : Nat × Option Nat) (c : Nat) : Nat × Option Nat := if s.1 < ch c then (ch c, some c) else s
end QUEST
/-! the one in the dark -/
def btZ (dk : Int) (s d b s' f' b' : Nat) : Int := dk + (if b = b' then 20 else 0) - 10 * aI ((s : Int) - (s' : Int)) - 8 * aI ((d : Int) - (f' : Int))
def bte (dk : Int) (s d b s' f' b' : Nat) : Bool := decide (50 ≤ btZ dk s d b s' f' b')
theorem z_of {k0 t1 u w : Int32} (h1 : -1 ≤ k0.toInt) (h2 : k0.toInt ≤ 99) (h3 : 0 ≤ t1.toInt) (h4 : t1.toInt ≤ 20) (h5 : 0 ≤ u.toInt) (h6 : u.toInt ≤ 100) (h7 : 0 ≤ w.toInt) (h8 : w.toInt ≤ 100) : (((k0 + t1) - ((10 : Int32) * u)) - ((8 : Int32) * w)).toInt = k0.toInt + t1.toInt - 10 * u.toInt - 8 * w.toInt := by
  have e1 : (k0 + t1).toInt = k0.toInt + t1.toInt := iadd_t (by omega) (by omega)
  have e2 : ((10 : Int32) * u).toInt = 10 * u.toInt := by rw [imul_t (by rw [ltv_10]; omega) (by rw [ltv_10]; omega), ltv_10]
  have e3 : ((8 : Int32) * w).toInt = 8 * w.toInt := by rw [imul_t (by rw [ltv_8]; omega) (by rw [ltv_8]; omega), ltv_8]
  have e4 : ((k0 + t1) - ((10 : Int32) * u)).toInt = k0.toInt + t1.toInt - 10 * u.toInt := by rw [isub_t (by rw [e1, e2]; omega) (by rw [e1, e2]; omega), e1, e2]
  rw [isub_t (by rw [e4, e3]; omega) (by rw [e4, e3]; omega), e4, e3]
section BITES
variable {p : TX6_p} {q : TX11_q} {sp de ba as an bi cf ct t : Nat} {n : TX4_n} {v : Nat → Int32}
theorem ab_n {x y : Nat} (hx : x ≤ 100) (hy : y ≤ 100) : (iabs (nI x - nI y)).toInt = aI ((x : Int) - (y : Int)) ∧ (f_X12_apart (nI x) (nI y)).toInt = aI ((x : Int) - (y : Int)) ∧ 0 ≤ aI ((x : Int) - (y : Int)) ∧ aI ((x : Int) - (y : Int)) ≤ 100 := by
  have ex : (nI x).toInt = (x : Int) := nI_toInt (by omega)
  have ey : (nI y).toInt = (y : Int) := nI_toInt (by omega)
  have ed : (nI x - nI y).toInt = (x : Int) - (y : Int) := by rw [isub_t (by rw [ex, ey]; omega) (by rw [ex, ey]; omega), ex, ey]
  obtain ⟨b1, b2⟩ := aI_b (x := (x : Int) - (y : Int)) (n := 100) (by omega) (by omega)
  exact ⟨by rw [iabs_t (by rw [ed]; omega) (by rw [ed]; omega), ed], by rw [apart_t (by rw [ex]; omega) (by rw [ex]; omega) (by rw [ey]; omega) (by rw [ey]; omega), ex, ey], b1, b2⟩
theorem bt_x {dk : Int32} (h1 : -1 ≤ dk.toInt) (h2 : dk.toInt ≤ 99) {s d b s' f' b' : Nat} (hs : s ≤ 8) (hd : d ≤ 9) (hb : b ≤ 9) (hs' : s' ≤ 8) (hf' : f' ≤ 9) (hb' : b' ≤ 9) : f_X0_wouldBite dk (nI (100 * s + 10 * d + b)) (nI (100 * s' + 10 * f' + b')) = bI (bte dk.toInt s d b s' f' b') := by
  obtain ⟨a1, -, a3, a4⟩ := ab_n (x := s) (y := s') (by omega) (by omega)
  obtain ⟨c1, -, c3, c4⟩ := ab_n (x := d) (y := f') (by omega) (by omega)
  have key : ∀ t1 : Int32, t1.toInt = (if b = b' then 20 else 0) → f_X0_wouldBite_J18 dk (nI (100 * s + 10 * d + b)) (nI (100 * s' + 10 * f' + b')) t1 = bI (bte dk.toInt s d b s' f' b') := fun t1 ht => by
    have ht2 : 0 ≤ t1.toInt ∧ t1.toInt ≤ 20 := by
      rw [ht]
      split <;> omega
    have ez := z_of (k0 := dk) (t1 := t1) (u := iabs (nI s - nI s')) (w := iabs (nI d - nI f')) h1 h2 ht2.1 ht2.2 (by rw [a1]; exact a3) (by rw [a1]; exact a4) (by rw [c1]; exact c3) (by rw [c1]; exact c4)
    rw [a1, c1, ht] at ez
    rw [f_X0_wouldBite_J18]
    dsimp only [nm]
    rw [sp_of (by omega) (by omega) (by omega), sp_of (by omega) (by omega) (by omega), fa_of (by omega) (by omega) (by omega), fa_of (by omega) (by omega) (by omega)]
    unfold bte bI btZ
    by_cases c : 50 ≤ dk.toInt + (if b = b' then 20 else 0) - 10 * aI ((s : Int) - (s' : Int)) - 8 * aI ((d : Int) - (f' : Int))
    · rw [if_neg (by rw [fa_lt, ez, ltv_50]; omega), decide_eq_true c]
      rfl
    · rw [if_pos (by rw [fa_lt, ez, ltv_50]; omega), decide_eq_false c]
      rfl
  rw [f_X0_wouldBite]
  dsimp only [nm]
  rw [ba_of (by omega) (by omega) (by omega), ba_of (by omega) (by omega) (by omega)]
  by_cases cb : b = b'
  · rw [if_pos (show nI b = nI b' by rw [cb])]
    exact key 20 (by rw [if_pos cb]; decide)
  · rw [if_neg (show ¬ nI b = nI b' from fun z => cb (nI_ij (by omega) (by omega) z))]
    exact key 0 (by rw [if_neg cb]; decide)
theorem cI_50 (x : Int) : cI x < 50 ↔ x < 50 := by
  unfold cI
  split
  · omega
  · split <;> omega
theorem bt_m {q : TX11_q} (h1 : -1 ≤ (qDk q).toInt) (h2 : (qDk q).toInt ≤ 99) {s d b s' f' b' : Nat} (hs : s ≤ 8) (hd : d ≤ 9) (hb : b ≤ 9) (hs' : s' ≤ 8) (hf' : f' ≤ 9) (hb' : b' ≤ 9) : (f_X11_darkWish (nI s) (nI d) (nI b) (nI s') (nI f') (nI b') q < 50) ↔ ¬ bte (qDk q).toInt s d b s' f' b' = true := by
  obtain ⟨-, a1, a3, a4⟩ := ab_n (x := s) (y := s') (by omega) (by omega)
  obtain ⟨-, c1, c3, c4⟩ := ab_n (x := d) (y := f') (by omega) (by omega)
  have key : ∀ t1 : Int32, t1.toInt = (if b = b' then 20 else 0) → ((f_X11_darkWish_J16 (nI s) (nI d) (nI s') (nI f') q t1 < 50) ↔ ¬ bte (qDk q).toInt s d b s' f' b' = true) := fun t1 ht => by
    have ht2 : 0 ≤ t1.toInt ∧ t1.toInt ≤ 20 := by
      rw [ht]
      split <;> omega
    have ez := z_of (k0 := qDk q) (t1 := t1) (u := f_X12_apart (nI s) (nI s')) (w := f_X12_apart (nI d) (nI f')) h1 h2 ht2.1 ht2.2 (by rw [a1]; exact a3) (by rw [a1]; exact a4) (by rw [c1]; exact c3) (by rw [c1]; exact c4)
    rw [a1, c1, ht] at ez
    rw [f_X11_darkWish_J16]
    dsimp only [nm]
    rw [fa_lt, cut_t, ltv_50, cI_50, show (q.2.2.2.2.2.2.2.2.1 + t1 - 10 * f_X12_apart (nI s) (nI s') - 8 * f_X12_apart (nI d) (nI f')).toInt = _ from ez]
    unfold bte btZ
    rw [decide_eq_true_eq]
    omega
  rw [f_X11_darkWish]
  by_cases cb : b = b'
  · rw [if_pos (show nI b = nI b' by rw [cb])]
    exact key 20 (by rw [if_pos cb]; decide)
  · rw [if_neg (show ¬ nI b = nI b' from fun z => cb (nI_ij (by omega) (by omega) z))]
    exact key 0 (by rw [if_neg cb]; decide)
/-- what is told of bites -/
def BTs (p : TX6_p) (q : TX11_q) (sp de ba bi : Nat) (S D B : Nat → Nat) (Y : Nat → Bool) : Prop := ∀ j, j < bi → S j < sp ∧ 1 ≤ D j ∧ D j ≤ de ∧ B j < ba ∧ pBt p j = nI (100 * S j + 10 * D j + B j) ∧ qBs q j = nI (S j) ∧ qBd q j = nI (D j) ∧ qBb q j = nI (B j) ∧ pBl p j = bI (Y j) ∧ qBl q j = bI (Y j)
theorem bts_of (hq : PQ p q sp de ba as an bi cf ct) : ∃ S D B Y, BTs p q sp de ba bi S D B Y := by
  obtain ⟨⟨-, q1, -, s4⟩, ⟨-, q2, -, d4⟩, -, ⟨-, -, -, b4⟩, -, -, -, -, -, -, hb⟩ := id hq
  refine ⟨fun j => (qBs q j).toInt.toNat, fun j => (qBd q j).toInt.toNat, fun j => (qBb q j).toInt.toNat, fun j => decide (qBl q j = 1), fun j hj => ?_⟩
  obtain ⟨g1, ⟨g2, g3⟩, ⟨g4, g5⟩, ⟨g6, g7⟩, g8, g9⟩ := hb j hj
  rw [show (qSp q).toInt = (sp : Int) by rw [q1, nI_toInt (by omega)]] at g3
  rw [show (qDe q).toInt = (de : Int) by rw [q2, nI_toInt (by omega)]] at g5
  have nn : ∀ {x : Int32}, 0 ≤ x.toInt → x = nI x.toInt.toNat := fun {x} hx => by
    obtain ⟨j, hj, e⟩ := inn_of hx
    rw [e, nI_toInt hj]
    rfl
  have e1 := nn g2
  have e2 := nn (x := qBd q j) (by omega)
  have e3 := nn g6
  have e4 : qBl q j = bI (decide (qBl q j = 1)) := by
    rcases g9 with z | z
    · rw [z]
      rfl
    · rw [z]
      rfl
  refine ⟨show (qBs q j).toInt.toNat < sp by omega, show 1 ≤ (qBd q j).toInt.toNat by omega, show (qBd q j).toInt.toNat ≤ de by omega, show (qBb q j).toInt.toNat < ba by omega, ?_, e1, e2, e3, g8.trans e4, e4⟩
  rw [g1, ← qu_n]
  dsimp only
  rw [← e1, ← e2, ← e3]
def asT (dk : Int) (S D B : Nat → Nat) (Y : Nat → Bool) (s d b : Nat) : Nat → Nat → Bool
  | 0, _ => true
  | m + 1, j => (bte dk s d b (S j) (D j) (B j) == Y j) && asT dk S D B Y s d b m (j + 1)
theorem at_x (hq : PQ p q sp de ba as an bi cf ct) {S D B : Nat → Nat} {Y : Nat → Bool} (hB : BTs p q sp de ba bi S D B Y) {s d b : Nat} (hs : s < sp) (hd : d ≤ de) (hb : b < ba) : ∀ (m j N : Nat), j + m = bi → m < N → f_X0_isAsTold_L2 (nI (100 * s + 10 * d + b)) p N (nI j) = some (bI (asT (qDk q).toInt S D B Y s d b m j)) := by
  obtain ⟨⟨-, -, -, s4⟩, ⟨-, -, -, d4⟩, -, ⟨-, -, -, b4⟩, -, -, ⟨i1, -, i3⟩, ⟨k1, k2, k3⟩, -⟩ := id hq
  intro m
  induction m with
  | zero =>
    intro j N hj hN
    cases N with
    | zero => omega
    | succ N =>
      rw [f_X0_isAsTold_L2, show p.2.2.2.2.2.2.2.1 = nI bi from i1, if_pos ((nI_leI (by omega) (by omega)).mpr (by omega))]
      rfl
  | succ m ih =>
    intro j N hj hN
    cases N with
    | zero => omega
    | succ N =>
      obtain ⟨g1, g2, g3, g4, g5, g6, g7, g8, g9, g10⟩ := hB j (by omega)
      rw [f_X0_isAsTold_L2, show p.2.2.2.2.2.2.2.1 = nI bi from i1, if_neg (show ¬ nI bi ≤ nI j by rw [nI_leI (by omega) (by omega)]; omega), gA_in (vin (show j < 6 by omega) (by omega)), nI_clamp (show j < 2 ^ 31 by omega)]
      dsimp only [nm]
      rw [gA_in (vin (show j < 6 by omega) (by omega)), show p.2.2.2.2.2.2.2.2.2.2.2.2.2.2.2.2.1 j = _ from g5, show p.2.2.2.2.2.2.2.2.2.2.2.2.2.2.2.2.2 j = _ from g9, show p.2.2.2.2.2.2.2.2.1 = qDk q from k1, bt_x k2 k3 (by omega) (by omega) (by omega) (by omega) (by omega) (by omega), nI_1, ih (j + 1) N (by omega) (by omega), asT]
      cases bte (qDk q).toInt s d b (S j) (D j) (B j) <;> cases Y j
      · rw [if_pos rfl]
        rfl
      · rw [if_neg (show ¬ bI false = bI true by decide)]
        rfl
      · rw [if_neg (show ¬ bI true = bI false by decide)]
        rfl
      · rw [if_pos rfl]
        rfl
theorem at_m (hq : PQ p q sp de ba as an bi cf ct) {S D B : Nat → Nat} {Y : Nat → Bool} (hB : BTs p q sp de ba bi S D B Y) {s d b : Nat} (hs : s < sp) (hd : d ≤ de) (hb : b < ba) : ∀ (m j N : Nat), j + m = bi → m < N → ∃ x : Int32, f_X11_wrongBite_L3 (nI s) (nI d) (nI b) q N (nI j) = some x ∧ ((asT (qDk q).toInt S D B Y s d b m j = true ∧ x = -2) ∨ (asT (qDk q).toInt S D B Y s d b m j = false ∧ ¬ x = -2)) := by
  obtain ⟨⟨-, -, -, s4⟩, ⟨-, -, -, d4⟩, -, ⟨-, -, -, b4⟩, -, -, ⟨-, i2, i3⟩, ⟨k1, k2, k3⟩, -⟩ := id hq
  intro m
  induction m with
  | zero =>
    intro j N hj hN
    cases N with
    | zero => omega
    | succ N =>
      rw [f_X11_wrongBite_L3, show q.2.2.2.2.2.2.2.1 = nI bi from i2, if_pos ((nI_leI (by omega) (by omega)).mpr (by omega))]
      exact ⟨-2, rfl, Or.inl ⟨rfl, rfl⟩⟩
  | succ m ih =>
    intro j N hj hN
    cases N with
    | zero => omega
    | succ N =>
      obtain ⟨g1, g2, g3, g4, g5, g6, g7, g8, g9, g10⟩ := hB j (by omega)
      obtain ⟨x, x1, x2⟩ := ih (j + 1) N (by omega) (by omega)
      have hm := bt_m (q := q) k2 k3 (s := s) (d := d) (b := b) (s' := S j) (f' := D j) (b' := B j) (by omega) (by omega) (by omega) (by omega) (by omega) (by omega)
      have e : f_X11_wrongBite_L3 (nI s) (nI d) (nI b) q (N + 1) (nI j) = if (bte (qDk q).toInt s d b (S j) (D j) (B j) == Y j) = true then some x else some (nI j) := by
        rw [f_X11_wrongBite_L3, show q.2.2.2.2.2.2.2.1 = nI bi from i2, if_neg (show ¬ nI bi ≤ nI j by rw [nI_leI (by omega) (by omega)]; omega)]
        simp only [gA_in (vin (show j < 6 by omega) (by omega)), nI_clamp (show j < 2 ^ 31 by omega), nm]
        rw [show q.2.2.2.2.2.2.2.2.2.2.2.2.2.2.2.2.2.1 j = _ from g6, show q.2.2.2.2.2.2.2.2.2.2.2.2.2.2.2.2.2.2.1 j = _ from g7, show q.2.2.2.2.2.2.2.2.2.2.2.2.2.2.2.2.2.2.2.1 j = _ from g8]
        simp only [f_X11_wrongBite_J50, f_X11_wrongBite_J66, gA_in (vin (show j < 6 by omega) (by omega)), nI_clamp (show j < 2 ^ 31 by omega), nm]
        rw [show q.2.2.2.2.2.2.2.2.2.2.2.2.2.2.2.2.2.2.2.2.1 j = _ from g10, nI_1, x1]
        cases cb : bte (qDk q).toInt s d b (S j) (D j) (B j)
        · rw [if_pos (hm.mpr (by rw [cb]; decide))]
          cases Y j
          · rw [if_neg (show ¬ bI false = 1 by decide), if_pos (show (false == false) = true by rfl)]
            first | rw [if_pos trivial] | rw [if_pos rfl]
          · rw [if_pos (show bI true = 1 by decide), if_neg (show ¬ (0 : Int32) = 1 by decide), if_neg (show ¬ (false == true) = true by decide)]
        · rw [if_neg (fun z => hm.mp z cb)]
          cases Y j
          · rw [if_neg (show ¬ bI false = 1 by decide), if_neg one_ne, if_neg (show ¬ (true == false) = true by decide)]
          · rw [if_pos (show bI true = 1 by decide), if_pos (show (true == true) = true by rfl)]
            first | rw [if_pos trivial] | rw [if_pos rfl]
      rw [e, asT]
      cases cc : (bte (qDk q).toInt s d b (S j) (D j) (B j) == Y j)
      · rw [if_neg (show ¬ false = true by decide), Bool.false_and]
        exact ⟨nI j, rfl, Or.inr ⟨rfl, nI_m2 (by omega)⟩⟩
      · rw [if_pos rfl, Bool.true_and]
        exact ⟨x, rfl, x2⟩
/-- which places may be, by their codes; which of two would bite -/
theorem dk_of (hq : PQ p q sp de ba as an bi cf ct) : ∃ (P : Nat → Bool), ∀ c, c < 100 * sp → hasQ de ba c = true → f_X0_isAsTold (nI c) p = some (bI (P c)) ∧ f_X12_isDark (nI (ixQ de ba c)) q = some (bI (P c)) := by
  obtain ⟨S, D, B, Y, hB⟩ := bts_of hq
  have hbi : bi ≤ 6 := hq.2.2.2.2.2.2.1.2.2
  refine ⟨fun c => asT (qDk q).toInt S D B Y (c / 100) (c / 10 % 10) (c % 10) bi 0, fun c h1 h2 => ?_⟩
  obtain ⟨g1, g2, g3⟩ := hasQ_iff.mp h2
  have hs : c / 100 < sp := by omega
  obtain ⟨x, x1, x2⟩ := at_m hq hB hs g2 g3 bi 0 FU (by omega) (by unfold FU; omega)
  refine ⟨?_, ?_⟩
  · have := at_x hq hB hs g2 g3 bi 0 FU (by omega) (by unfold FU; omega)
    rw [show 100 * (c / 100) + 10 * (c / 10 % 10) + c % 10 = c by omega] at this
    exact this
  · rw [f_X12_isDark]
    unfold ixQ
    rw [mspo hq hs g1 g2 g3, mfao hq hs g1 g2 g3, mbao hq hs g1 g2 g3, Option.bind_some, Option.bind_some, Option.bind_some, f_X11_wrongBite, show f_X11_wrongBite_L3 (nI (c / 100)) (nI (c / 10 % 10)) (nI (c % 10)) q FU 0 = _ from x1, Option.bind_some]
    dsimp only
    rcases x2 with ⟨y1, y2⟩ | ⟨y1, y2⟩
    · rw [y1, if_pos y2]
      rfl
    · rw [y1, if_neg y2]
      rfl
/-- all that may be -/
def dkL (de ba T : Nat) (P : Nat → Bool) : List Nat := ((List.range' 0 T).filter (fun i => P (cdQ de ba i))).map (cdQ de ba)
theorem dkL_c (h1 : sp ≤ 8) (h2 : de ≤ 9) (h3 : ba ≤ 4) (P : Nat → Bool) : (List.range' 0 (100 * sp)).filter (fun c => hasQ de ba c && P c) = dkL de ba (sp * de * ba) P := by
  have e : (List.range' 0 (100 * sp)).filter (fun c => hasQ de ba c && P c) = ((List.range' 0 (100 * sp)).filter (hasQ de ba)).filter P := by
    rw [List.filter_filter]
    apply List.filter_congr
    intro c _
    rw [Bool.and_comm]
  rw [e, ← List.range_eq_range', qlist sp (by omega) de (by omega) ba (by omega), List.filter_map, List.range_eq_range']
  rfl
theorem dkL_le (hq : PQ p q sp de ba as an bi cf ct) (P : Nat → Bool) : (dkL de ba (sp * de * ba) P).length ≤ 288 := by
  unfold dkL
  rw [List.length_map]
  have := List.length_filter_le (fun i => P (cdQ de ba i)) (List.range' 0 (sp * de * ba))
  rw [List.length_range'] at this
  have := qs_b hq
  omega
/-- the class's row of places holds a list -/
def holds (d : TX0_d) (l : List Nat) : Prop := d.2 = nI l.length ∧ ∀ k x, l[k]? = some x → d.1 k = nI x
theorem fd_L (hq : PQ p q sp de ba as an bi cf ct) {P : Nat → Bool} (hP : ∀ c, c < 100 * sp → hasQ de ba c = true → f_X0_isAsTold (nI c) p = some (bI (P c))) {E : List Nat} (hE : E.length ≤ 288) : ∀ (m c N : Nat) (d : TX0_d) (l : List Nat), c + m = 100 * sp → m < N → l ++ (List.range' c m).filter (fun c => hasQ de ba c && P c) = E → holds d l → ∃ d', f_X0_find_L7 p N (nI c) d = some d' ∧ holds d' E := by
  obtain ⟨⟨-, -, -, s4⟩, -⟩ := id hq
  intro m
  induction m with
  | zero =>
    intro c N d l hj hN hl hd
    cases N with
    | zero => omega
    | succ N =>
      rw [f_X0_find_L7]
      dsimp only [nm]
      rw [qb_x hq, if_pos ((nI_leI (by omega) (by omega)).mpr (by omega))]
      refine ⟨d, rfl, ?_⟩
      rw [← hl, List.range'_zero, List.filter_nil, List.append_nil]
      exact hd
  | succ m ih =>
    intro c N d l hj hN hl hd
    cases N with
    | zero => omega
    | succ N =>
      rw [List.range'_succ] at hl
      rw [f_X0_find_L7]
      dsimp only [nm]
      rw [qb_x hq, if_neg (show ¬ nI (100 * sp) ≤ nI c by rw [nI_leI (by omega) (by omega)]; omega), has_x hq (by omega)]
      by_cases cq : hasQ de ba c = true
      · rw [if_pos cq, if_neg one_ne, hP c (by omega) cq, Option.bind_some]
        cases cP : P c
        · rw [List.filter_cons_of_neg (by rw [cP, Bool.and_false]; decide)] at hl
          rw [bI_0, if_pos rfl, f_X0_find_J63, nI_1]
          exact ih (c + 1) N d l (by omega) (by omega) hl hd
        · rw [List.filter_cons_of_pos (by rw [cP, cq]; rfl)] at hl
          have hlen : l.length < E.length := by
            rw [← hl, List.length_append, List.length_cons]
            omega
          obtain ⟨d1, d2⟩ := hd
          rw [bI_1, if_neg one_ne, d1, if_neg (show ¬ (288 : Int32) ≤ nI l.length by rw [show (288 : Int32) = nI 288 from rfl, nI_leI (by omega) (by omega)]; omega), gA_in (vin (show l.length < 288 by omega) (by omega)), nI_clamp (show l.length < 2 ^ 31 by omega), f_X0_find_J63, nI_1, nI_1]
          refine ih (c + 1) N _ (l ++ [c]) (by omega) (by omega) (by rw [List.append_assoc]; exact hl) ⟨by rw [List.length_append]; rfl, fun k x hk => ?_⟩
          dsimp only
          by_cases ck : k = l.length
          · rw [ck, List.getElem?_append_right (Nat.le_refl _), Nat.sub_self] at hk
            have := Option.some.inj hk
            rw [ck, upd_at, this]
          · rw [upd_no ck]
            by_cases ck2 : k < l.length
            · rw [List.getElem?_append_left ck2] at hk
              exact d2 k x hk
            · rw [List.getElem?_eq_none (by rw [List.length_append]; show l.length + 1 ≤ k; omega)] at hk
              exact absurd hk (by simp)
      · rw [List.filter_cons_of_neg (by rw [Bool.eq_false_iff.mpr cq, Bool.false_and]; decide)] at hl
        rw [if_neg cq, if_pos rfl, f_X0_find_J63, nI_1]
        exact ih (c + 1) N d l (by omega) (by omega) hl hd
theorem fd_eq (hq : PQ p q sp de ba as an bi cf ct) {P : Nat → Bool} (hP : ∀ c, c < 100 * sp → hasQ de ba c = true → f_X0_isAsTold (nI c) p = some (bI (P c))) (d : TX0_d) : ∃ d', f_X0_find d p = some d' ∧ holds d' (dkL de ba (sp * de * ba) P) := by
  obtain ⟨⟨-, -, -, s4⟩, ⟨-, -, -, d4⟩, -, ⟨-, -, -, b4⟩, -⟩ := id hq
  exact fd_L hq hP (dkL_le hq P) (100 * sp) 0 FU (d.1, 0) [] (by omega) (by unfold FU; omega) (by rw [List.nil_append]; exact dkL_c s4 d4 b4 P) ⟨rfl, fun k x hk => absurd hk (by simp)⟩
theorem is_m (hq : PQ p q sp de ba as an bi cf ct) {P : Nat → Bool} (hP : ∀ c, c < 100 * sp → hasQ de ba c = true → f_X12_isDark (nI (ixQ de ba c)) q = some (bI (P c))) {i : Nat} (hi : i < sp * de * ba) : f_X12_isDark (nI i) q = some (bI (P (cdQ de ba i))) := by
  obtain ⟨-, ⟨-, -, d3, d4⟩, -, ⟨-, -, b3, b4⟩, -⟩ := id hq
  obtain ⟨s, f, b, g1, g2, g3, g4, g5, g6⟩ := q_of d3 b3 d4 b4 hi
  obtain ⟨j1, j2, j3⟩ := cd_ix d4 b4 g1 g2 g3 g4 g5 g6
  have := hP _ j1 j2
  rw [j3] at this
  exact this
/-- who refuses -/
theorem dt_of (hq : PQ p q sp de ba as an bi cf ct) : (f_X10_darkTrouble p = 6 ∧ f_X12_refusesDark q = 6) ∨ (f_X10_darkTrouble p = 0 ∧ f_X12_refusesDark q = 0) := by
  obtain ⟨-, -, -, -, -, -, -, ⟨k1, -⟩, -⟩ := id hq
  rw [f_X10_darkTrouble, f_X12_refusesDark]
  dsimp only [nm]
  rw [pt_0 hq, if_pos rfl, show p.2.2.2.2.2.2.2.2.1 = q.2.2.2.2.2.2.2.2.1 from k1]
  by_cases c : q.2.2.2.2.2.2.2.2.1 = -1
  · rw [if_pos c, if_pos c]
    exact Or.inl ⟨rfl, rfl⟩
  · rw [if_neg c, if_neg c]
    exact Or.inr ⟨rfl, rfl⟩
theorem zDt (h : PZ p) : f_X10_darkTrouble p = 1 := by
  rw [f_X10_darkTrouble]
  dsimp only [nm]
  rw [zPt h, if_neg one_ne]
  rfl
theorem zn_darks (hz : PZ p) (x : TX10_x) (d : TX0_d) : f_X10_darks x p d = some (-1, (1, x.2), d) := by
  rw [f_X10_darks]
  dsimp only [nm]
  rw [zDt hz, ref_n one_ne, if_neg one_ne]
theorem zn_darkAt (hz : PZ p) (k1 : Int32) (x : TX10_x) (d : TX0_d) : f_X10_darkAt k1 x p d = some (-1, (1, x.2), d) := by
  rw [f_X10_darkAt]
  dsimp only [nm]
  rw [zDt hz, ref_n one_ne, if_neg one_ne]
theorem zn_darkSpots (hz : PZ p) (x : TX10_x) (d : TX0_d) : f_X10_darkSpots x p d = some (-1, (1, x.2), d) := by
  rw [f_X10_darkSpots]
  dsimp only [nm]
  rw [zDt hz, ref_n one_ne, if_neg one_ne]
theorem dks_L (hq : PQ p q sp de ba as an bi cf ct) {P : Nat → Bool} (hP : ∀ i, i < sp * de * ba → f_X12_isDark (nI i) q = some (bI (P (cdQ de ba i)))) (tt : TX12_t) : ∀ (m i N c : Nat), i + m = sp * de * ba → m < N → f_X12_darks_L24 tt q N (nI i) (nI c) = some (nI (c + ((List.range' i m).filter (fun i => P (cdQ de ba i))).length), (0, 0, -1)) := by
  have hT := qs_b hq
  intro m
  induction m with
  | zero =>
    intro i N c hj hN
    cases N with
    | zero => omega
    | succ N =>
      rw [f_X12_darks_L24]
      dsimp only [nm]
      rw [qs_m hq, if_pos ((nI_leI (by omega) (by omega)).mpr (by omega))]
      rfl
  | succ m ih =>
    intro i N c hj hN
    cases N with
    | zero => omega
    | succ N =>
      rw [f_X12_darks_L24]
      dsimp only [nm]
      rw [qs_m hq, if_neg (show ¬ nI (sp * de * ba) ≤ nI i by rw [nI_leI (by omega) (by omega)]; omega), hP i (by omega), Option.bind_some, f_X12_darks_J49, f_X12_darks_J49, nI_1, nI_1, Int32.add_zero, List.range'_succ]
      cases cP : P (cdQ de ba i)
      · rw [bI_0, if_pos rfl, List.filter_cons_of_neg (by rw [cP]; decide), ih (i + 1) N c (by omega) (by omega)]
      · rw [bI_1, if_neg one_ne, List.filter_cons_of_pos (by rw [cP]), ih (i + 1) N (c + 1) (by omega) (by omega), List.length_cons, show c + 1 + ((List.range' (i + 1) m).filter (fun i => P (cdQ de ba i))).length = c + (((List.range' (i + 1) m).filter (fun i => P (cdQ de ba i))).length + 1) by omega]
theorem eq_darks (hq : PQ p q sp de ba as an bi cf ct) (hn : NV sp de ba t n v) (ht : t ≤ 999) (x : TX10_x) (d : TX0_d) (tt : TX12_t) : ∃ (r : Int32) (Y : TX10_x × TX0_d) (Z : TX12_t), f_X10_darks x p d = some (r, Y) ∧ f_X12_darks tt q = some (r, Z) ∧ Y.1.1 = Z.2.1 := by
  have hT := qs_b hq
  rw [f_X10_darks, f_X12_darks]
  dsimp only [nm]
  rcases dt_of hq with ⟨g1, g2⟩ | ⟨g1, g2⟩
  · rw [g1, g2, ref_n (show ¬ (6 : Int32) = 0 by decide), if_neg one_ne, if_neg (show ¬ (6 : Int32) ≤ 0 by decide)]
    exact ⟨-1, _, _, rfl, rfl, rfl⟩
  · obtain ⟨P, hP⟩ := dk_of hq
    obtain ⟨d', f1, f2, -⟩ := fd_eq hq (fun c h1 h2 => (hP c h1 h2).1) d
    have m1 := dks_L hq (fun i hi => is_m hq (fun c h1 h2 => (hP c h1 h2).2) hi) tt (sp * de * ba) 0 FU 0 (by omega) (by unfold FU; omega)
    rw [g1, g2, ref_0, if_pos rfl, if_pos (show (0 : Int32) ≤ 0 by decide), f1, Option.bind_some]
    refine ⟨_, _, (0, 0, -1), rfl, ?_, rfl⟩
    rw [show f_X12_darks_L24 tt q FU 0 0 = _ from m1, f2, Nat.zero_add]
    unfold dkL
    rw [List.length_map]
theorem dka_L (hq : PQ p q sp de ba as an bi cf ct) {P : Nat → Bool} (hP : ∀ i, i < sp * de * ba → f_X12_isDark (nI i) q = some (bI (P (cdQ de ba i)))) (k1 : Int32) (tt : TX12_t) : ∀ (m i N c : Nat), i + m = sp * de * ba → m < N → c ≤ i → (∀ k j, k1 = nI k → k < 1000 → c ≤ k → ((List.range' i m).filter (fun i => P (cdQ de ba i)))[k - c]? = some j → f_X12_darkAt_L25 k1 tt q N (nI i) (nI c) = some (nI (cdQ de ba j), (0, 0, -1))) ∧ ((∀ k, c ≤ k → k < c + ((List.range' i m).filter (fun i => P (cdQ de ba i))).length → ¬ k1 = nI k) → f_X12_darkAt_L25 k1 tt q N (nI i) (nI c) = some (-1, (0, 1, -1))) := by
  have hT := qs_b hq
  intro m
  induction m with
  | zero =>
    intro i N c hj hN hc
    cases N with
    | zero => omega
    | succ N =>
      refine ⟨fun k j _ _ _ hk => absurd hk (by simp), fun _ => ?_⟩
      rw [f_X12_darkAt_L25]
      dsimp only [nm]
      rw [qs_m hq, if_pos ((nI_leI (by omega) (by omega)).mpr (by omega))]
      rfl
  | succ m ih =>
    intro i N c hj hN hc
    cases N with
    | zero => omega
    | succ N =>
      have e : f_X12_darkAt_L25 k1 tt q (N + 1) (nI i) (nI c) = if P (cdQ de ba i) = true then (if nI c = k1 then some (nI (cdQ de ba i), (0, 0, -1)) else f_X12_darkAt_L25 k1 tt q N (nI (i + 1)) (nI (c + 1))) else f_X12_darkAt_L25 k1 tt q N (nI (i + 1)) (nI c) := by
        rw [f_X12_darkAt_L25]
        dsimp only [nm]
        rw [qs_m hq, if_neg (show ¬ nI (sp * de * ba) ≤ nI i by rw [nI_leI (by omega) (by omega)]; omega), hP i (by omega), Option.bind_some, f_X12_darkAt_J68, f_X12_darkAt_J68, nI_1, nI_1, code_m hq (show i < sp * de * ba by omega), Option.bind_some]
        cases P (cdQ de ba i)
        · rw [bI_0, if_pos rfl, if_neg (show ¬ false = true by decide)]
        · rw [bI_1, if_neg one_ne, if_pos rfl]
          rfl
      rw [e, List.range'_succ]
      cases cP : P (cdQ de ba i)
      · rw [if_neg (show ¬ false = true by decide), List.filter_cons_of_neg (by rw [cP]; decide)]
        exact ih (i + 1) N c (by omega) (by omega) (by omega)
      · rw [if_pos rfl, List.filter_cons_of_pos (by rw [cP])]
        obtain ⟨i1, i2⟩ := ih (i + 1) N (c + 1) (by omega) (by omega) (by omega)
        refine ⟨fun k j e1 e2 e3 e4 => ?_, fun h => ?_⟩
        · by_cases ck : k = c
          · rw [ck, Nat.sub_self] at e4
            have := Option.some.inj e4
            rw [if_pos (show nI c = k1 by rw [e1, ck]), this]
          · rw [if_neg (show ¬ nI c = k1 by rw [e1]; exact fun z => ck (nI_ij (by omega) (by omega) z).symm)]
            rw [show k - c = (k - (c + 1)) + 1 by omega] at e4
            exact i1 k j e1 e2 (by omega) e4
        · rw [if_neg (fun z => h c (Nat.le_refl c) (by rw [List.length_cons]; omega) z.symm)]
          exact i2 (fun k h1 h2 => h k (by omega) (by rw [List.length_cons]; omega))
theorem eq_darkAt (hq : PQ p q sp de ba as an bi cf ct) (hn : NV sp de ba t n v) (ht : t ≤ 999) (k1 : Int32) (x : TX10_x) (d : TX0_d) (tt : TX12_t) : ∃ (r : Int32) (Y : TX10_x × TX0_d) (Z : TX12_t), f_X10_darkAt k1 x p d = some (r, Y) ∧ f_X12_darkAt k1 tt q = some (r, Z) ∧ Y.1.1 = Z.2.1 := by
  have hT := qs_b hq
  rw [f_X10_darkAt, f_X12_darkAt]
  dsimp only [nm]
  rcases dt_of hq with ⟨g1, g2⟩ | ⟨g1, g2⟩
  · rw [g1, g2, ref_n (show ¬ (6 : Int32) = 0 by decide), if_neg one_ne, if_neg (show ¬ (6 : Int32) ≤ 0 by decide)]
    exact ⟨-1, _, _, rfl, rfl, rfl⟩
  · obtain ⟨P, hP⟩ := dk_of hq
    obtain ⟨d', f1, f2, f3⟩ := fd_eq hq (fun c h1 h2 => (hP c h1 h2).1) d
    obtain ⟨m1, m2⟩ := dka_L hq (fun i hi => is_m hq (fun c h1 h2 => (hP c h1 h2).2) hi) k1 tt (sp * de * ba) 0 FU 0 (by omega) (by unfold FU; omega) (by omega)
    have hlen := dkL_le hq P
    have hle : (dkL de ba (sp * de * ba) P).length = ((List.range' 0 (sp * de * ba)).filter (fun i => P (cdQ de ba i))).length := by
      unfold dkL
      rw [List.length_map]
    rw [g1, g2, ref_0, if_pos rfl, if_pos (show (0 : Int32) ≤ 0 by decide), f1, Option.bind_some, f2, f_X10_darkAt_J47, f_X10_darkAt_J47]
    dsimp only [nm]
    by_cases c : inN k1 (dkL de ba (sp * de * ba) P).length
    · rw [(wi_n (by omega)).1 c, if_neg one_ne]
      obtain ⟨k, hk, rfl⟩ := inN_of c
      obtain ⟨j, hj⟩ : ∃ j, ((List.range' 0 (sp * de * ba)).filter (fun i => P (cdQ de ba i)))[k]? = some j := ⟨_, List.getElem?_eq_getElem (by omega)⟩
      have hj2 : (dkL de ba (sp * de * ba) P)[k]? = some (cdQ de ba j) := by
        unfold dkL
        rw [List.getElem?_map, hj]
        rfl
      rw [ref_0, if_pos rfl, gA_in (vin (show k < 288 by omega) (by omega)), nI_clamp (show k < 2 ^ 31 by omega)]
      refine ⟨_, _, (0, 0, -1), rfl, ?_, rfl⟩
      rw [f3 k _ hj2]
      exact m1 k j rfl (by omega) (by omega) hj
    · rw [(wi_n (by omega)).2 c, if_pos rfl, ref_n one_ne, if_neg one_ne]
      refine ⟨-1, _, (0, 1, -1), rfl, m2 (fun k _ h2 z => c ?_), rfl⟩
      rw [z]
      exact ⟨by rw [nI_toInt (by omega)]; omega, by rw [nI_toInt (by omega)]; omega⟩
/-- spots, as bits -/
def orF (l : List Nat) (a : Int32) : Int32 := l.foldl (fun a c => a ||| ((1 : Int32) <<< (nI (c / 100) &&& 31))) a
theorem dsx_L {d : TX0_d} {E : List Nat} (hd : holds d E) (hE : E.length ≤ 288) (hE2 : ∀ c ∈ E, c < 1000) (o5 : Int32 × TX10_x) : ∀ (m k N : Nat) (a : Int32), k + m = E.length → m < N → f_X10_darkSpots_L28 d o5 N (nI k) a = some (orF (E.drop k) a, o5.2, d) := by
  obtain ⟨d1, d2⟩ := hd
  intro m
  induction m with
  | zero =>
    intro k N a hj hN
    cases N with
    | zero => omega
    | succ N =>
      rw [f_X10_darkSpots_L28, d1, if_pos ((nI_leI (by omega) (by omega)).mpr (by omega)), List.drop_eq_nil_of_le (by omega)]
      rfl
  | succ m ih =>
    intro k N a hj hN
    cases N with
    | zero => omega
    | succ N =>
      have hk : k < E.length := by omega
      have hc := hE2 _ (List.getElem_mem hk)
      rw [f_X10_darkSpots_L28, d1, if_neg (show ¬ nI E.length ≤ nI k by rw [nI_leI (by omega) (by omega)]; omega), gA_in (vin (show k < 288 by omega) (by omega)), nI_clamp (show k < 2 ^ 31 by omega), d2 k _ (List.getElem?_eq_getElem hk)]
      dsimp only [nm]
      rw [show nI E[k] = nI (100 * (E[k] / 100) + 10 * (E[k] / 10 % 10) + E[k] % 10) from congrArg nI (by omega), sp_of (by omega) (by omega) (by omega), nI_1, ih (k + 1) N _ (by omega) (by omega), List.drop_eq_getElem_cons hk]
      rfl
theorem dsm_L (hq : PQ p q sp de ba as an bi cf ct) {P : Nat → Bool} (hP : ∀ i, i < sp * de * ba → f_X12_isDark (nI i) q = some (bI (P (cdQ de ba i)))) (tt : TX12_t) : ∀ (m i N : Nat) (a : Int32), i + m = sp * de * ba → m < N → f_X12_darkSpots_L24 tt q N (nI i) a = some (orF (((List.range' i m).filter (fun i => P (cdQ de ba i))).map (cdQ de ba)) a, (0, 0, -1)) := by
  obtain ⟨⟨-, -, -, s4⟩, ⟨-, -, d3, d4⟩, -, ⟨-, -, b3, b4⟩, -⟩ := id hq
  have hT := qs_b hq
  intro m
  induction m with
  | zero =>
    intro i N a hj hN
    cases N with
    | zero => omega
    | succ N =>
      rw [f_X12_darkSpots_L24]
      dsimp only [nm]
      rw [qs_m hq, if_pos ((nI_leI (by omega) (by omega)).mpr (by omega))]
      rfl
  | succ m ih =>
    intro i N a hj hN
    cases N with
    | zero => omega
    | succ N =>
      obtain ⟨s, f, b, g1, g2, g3, g4, g5, g6⟩ := q_of d3 b3 d4 b4 (show i < sp * de * ba by omega)
      have es : f_X12_spotOf (nI i) q = some (nI (cdQ de ba i / 100)) := by
        rw [g6, show (100 * s + 10 * f + b) / 100 = s by omega]
        have := mspo hq g1 g2 g3 g4
        rw [← g5] at this
        exact this
      rw [f_X12_darkSpots_L24]
      dsimp only [nm]
      rw [qs_m hq, if_neg (show ¬ nI (sp * de * ba) ≤ nI i by rw [nI_leI (by omega) (by omega)]; omega), hP i (by omega), Option.bind_some, es, Option.bind_some, f_X12_darkSpots_J55, f_X12_darkSpots_J55, nI_1, Int32.or_zero, List.range'_succ]
      cases cP : P (cdQ de ba i)
      · rw [bI_0, if_pos rfl, List.filter_cons_of_neg (by rw [cP]; decide)]
        exact ih (i + 1) N a (by omega) (by omega)
      · rw [bI_1, if_neg one_ne, List.filter_cons_of_pos (by rw [cP]), List.map_cons]
        exact ih (i + 1) N _ (by omega) (by omega)
theorem dkL_b (hq : PQ p q sp de ba as an bi cf ct) (P : Nat → Bool) : ∀ c ∈ dkL de ba (sp * de * ba) P, ∃ s f b : Nat, s < sp ∧ 1 ≤ f ∧ f ≤ de ∧ b < ba ∧ c = 100 * s + 10 * f + b := by
  obtain ⟨-, ⟨-, -, d3, d4⟩, -, ⟨-, -, b3, b4⟩, -⟩ := id hq
  intro c hc
  unfold dkL at hc
  obtain ⟨i, hi, rfl⟩ := List.mem_map.mp hc
  have hi2 := List.mem_range'.mp (List.mem_filter.mp hi).1
  obtain ⟨z, hz, e⟩ := hi2
  obtain ⟨s, f, b, g1, g2, g3, g4, g5, g6⟩ := q_of d3 b3 d4 b4 (show i < sp * de * ba by omega)
  exact ⟨s, f, b, g1, g2, g3, g4, g6⟩
theorem eq_darkSpots (hq : PQ p q sp de ba as an bi cf ct) (hn : NV sp de ba t n v) (ht : t ≤ 999) (x : TX10_x) (d : TX0_d) (tt : TX12_t) : ∃ (r : Int32) (Y : TX10_x × TX0_d) (Z : TX12_t), f_X10_darkSpots x p d = some (r, Y) ∧ f_X12_darkSpots tt q = some (r, Z) ∧ Y.1.1 = Z.2.1 := by
  obtain ⟨⟨-, -, -, s4⟩, ⟨-, -, d3, d4⟩, -, ⟨-, -, b3, b4⟩, -⟩ := id hq
  have hT := qs_b hq
  rw [f_X10_darkSpots, f_X12_darkSpots]
  dsimp only [nm]
  rcases dt_of hq with ⟨g1, g2⟩ | ⟨g1, g2⟩
  · rw [g1, g2, ref_n (show ¬ (6 : Int32) = 0 by decide), if_neg one_ne, if_neg (show ¬ (6 : Int32) ≤ 0 by decide)]
    exact ⟨-1, _, _, rfl, rfl, rfl⟩
  · obtain ⟨P, hP⟩ := dk_of hq
    obtain ⟨d', f1, f2⟩ := fd_eq hq (fun c h1 h2 => (hP c h1 h2).1) d
    have hE := dkL_le hq P
    have x1 := dsx_L f2 hE (fun c hc => by
      obtain ⟨s, f, b, y1, y2, y3, y4, y5⟩ := dkL_b hq P c hc
      omega) (0, (0, x.2)) (dkL de ba (sp * de * ba) P).length 0 FU 0 (by omega) (by unfold FU; omega)
    have m1 := dsm_L hq (fun i hi => is_m hq (fun c h1 h2 => (hP c h1 h2).2) hi) tt (sp * de * ba) 0 FU 0 (by omega) (by unfold FU; omega)
    rw [g1, g2, ref_0, if_pos rfl, if_pos (show (0 : Int32) ≤ 0 by decide), f1, Option.bind_some, show f_X10_darkSpots_L28 d' (0, (0, x.2)) FU 0 0 = _ from x1, show f_X12_darkSpots_L24 tt q FU 0 0 = _ from m1]
    exact ⟨_, _, _, rfl, rfl, rfl⟩
end BITES
