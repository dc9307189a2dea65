/-! what a call leaves as it was -/
def KP {α : Type} (o : Option α) (φ : α → Prop) : Prop := ∀ z, o = some z → φ z
def KV {α : Type} (v : α) (φ : α → Prop) : Prop := φ v
section KEPT
variable {α β : Type} {φ : α → Prop} {ψ : β → Prop}
theorem kp_o : KP (none : Option α) φ := fun _ h => nomatch h
theorem kp_s {v : α} (h : φ v) : KP (some v) φ := fun z e => by cases e; exact h
theorem kv_s {v : α} (h : φ v) : KV v φ := h
theorem kp_i {c : Prop} {d : Decidable c} {a b : Option α} (h1 : KP a φ) (h2 : KP b φ) : KP (@ite _ c d a b) φ := by
  by_cases h : c
  · rw [if_pos h]; exact h1
  · rw [if_neg h]; exact h2
theorem kv_i {c : Prop} {d : Decidable c} {a b : α} (h1 : KV a φ) (h2 : KV b φ) : KV (@ite _ c d a b) φ := by
  by_cases h : c
  · rw [if_pos h]; exact h1
  · rw [if_neg h]; exact h2
theorem kp_b {o : Option β} {f : β → Option α} (h1 : KP o ψ) (h2 : ∀ z, ψ z → KP (f z) φ) : KP (o.bind f) φ := fun z e => by
  cases ho : o with
  | none => rw [ho] at e; exact nomatch e
  | some y => rw [ho] at e; exact h2 y (h1 y ho) z e
theorem kp_b0 {o : Option β} {f : β → Option α} (h2 : ∀ z, KP (f z) φ) : KP (o.bind f) φ := fun z e => by
  cases ho : o with
  | none => rw [ho] at e; exact nomatch e
  | some y => rw [ho] at e; exact h2 y z e
theorem kp_n {x : β} {f : β → Option α} (h1 : KV x ψ) (h2 : ∀ z, ψ z → KP (f z) φ) : KP (nm x f) φ := h2 x h1
theorem kp_n0 {x : β} {f : β → Option α} (h2 : ∀ z, KP (f z) φ) : KP (nm x f) φ := h2 x
theorem kp_nl {x : β} {f : β → Option α} (h2 : KP (f x) φ) : KP (nm x f) φ := h2
theorem kv_n {x : β} {f : β → α} (h1 : KV x ψ) (h2 : ∀ z, ψ z → KV (f z) φ) : KV (nm x f) φ := h2 x h1
theorem kv_n0 {x : β} {f : β → α} (h2 : ∀ z, KV (f z) φ) : KV (nm x f) φ := h2 x
theorem kv_nl {x : β} {f : β → α} (h2 : KV (f x) φ) : KV (nm x f) φ := h2
theorem kp_gA {i : Int32} {n : Nat} {k : Option α} (h : KP k φ) : KP (gA i n k) φ := kp_i kp_o h
theorem kp_gZi {y : Int32} {k : Option α} (h : KP k φ) : KP (gZi y k) φ := kp_i kp_o h
theorem kp_gZl {y : Int64} {k : Option α} (h : KP k φ) : KP (gZl y k) φ := kp_i kp_o h
theorem kp_w {o : Option α} {χ : α → Prop} (h : KP o χ) (w : ∀ z, χ z → φ z) : KP o φ := fun z e => w z (h z e)
theorem kv_w {v : α} {χ : α → Prop} (h : KV v χ) (w : ∀ z, χ z → φ z) : KV v φ := w v h
end KEPT
theorem kp_f_X10_within {k0 : Int32} {k1 : Int32} {k2 : Int32} : KV (f_X10_within k0 k1 k2) (fun (r : Int32) => ¬ r = (4 : Int32)) := by
  unfold f_X10_within
  refine kv_i ?_ ?_
  · skip
    exact kv_s (show ¬ (0 : Int32) = 4 by decide)
  · skip
    refine kv_i ?_ ?_
    · skip
      exact kv_s (show ¬ (0 : Int32) = 4 by decide)
    · skip
      exact kv_s (show ¬ (1 : Int32) = 4 by decide)
theorem kp_f_X6_hasAsker {k1 : Int32} {p_p : TX6_p} : KV (f_X6_hasAsker k1 p_p) (fun (r : Int32) => ¬ r = (4 : Int32)) := by
  unfold f_X6_hasAsker
  refine kv_n (kp_f_X10_within ) (fun o8 h1 => ?_)
  exact kv_s h1
theorem kp_f_X10_askerTrouble {k1 : Int32} {p_p : TX6_p} : KV (f_X10_askerTrouble k1 p_p) (fun (r : Int32) => ¬ r = (4 : Int32)) := by
  unfold f_X10_askerTrouble
  refine kv_n (kp_f_X6_hasAsker ) (fun o5 h1 => ?_)
  refine kv_i ?_ ?_
  · skip
    exact kv_s (show ¬ (1 : Int32) = 4 by decide)
  · skip
    exact kv_s (show ¬ (0 : Int32) = 4 by decide)
theorem kp_f_X6_hasSpot {k1 : Int32} {p_p : TX6_p} : KV (f_X6_hasSpot k1 p_p) (fun (r : Int32) => ¬ r = (4 : Int32)) := by
  unfold f_X6_hasSpot
  refine kv_n (kp_f_X10_within ) (fun o8 h1 => ?_)
  exact kv_s h1
theorem kp_f_X6_hasBait {k1 : Int32} {p_p : TX6_p} : KV (f_X6_hasBait k1 p_p) (fun (r : Int32) => ¬ r = (4 : Int32)) := by
  unfold f_X6_hasBait
  refine kv_n (kp_f_X10_within ) (fun o8 h1 => ?_)
  exact kv_s h1
theorem kp_f_X10_questionTrouble {k1 : Int32} {k2 : Int32} {k3 : Int32} {p_p : TX6_p} : KV (f_X10_questionTrouble k1 k2 k3 p_p) (fun (r : Int32) => ¬ r = (4 : Int32)) := by
  unfold f_X10_questionTrouble
  refine kv_n (kp_f_X6_hasSpot ) (fun o5 h1 => ?_)
  refine kv_i ?_ ?_
  · skip
    exact kv_s (show ¬ (1 : Int32) = 4 by decide)
  · skip
    refine kv_n (kp_f_X6_hasBait ) (fun o16 h2 => ?_)
    refine kv_i ?_ ?_
    · skip
      exact kv_s (show ¬ (1 : Int32) = 4 by decide)
    · skip
      refine kv_n (kp_f_X10_within ) (fun o33 h3 => ?_)
      refine kv_i ?_ ?_
      · skip
        exact kv_s (show ¬ (2 : Int32) = 4 by decide)
      · skip
        exact kv_s (show ¬ (0 : Int32) = 4 by decide)
theorem kp_f_X6_isClose {k1 : Int32} {p_p : TX6_p} : KV (f_X6_isClose k1 p_p) (fun (r : Int32) => ¬ r = (4 : Int32)) := by
  unfold f_X6_isClose
  refine kv_n (kp_f_X10_within ) (fun o9 h1 => ?_)
  exact kv_s h1
theorem kp_f_X10_letTrouble_J59 {v22_l5 : Int32} (hN_v22_l5 : ¬ v22_l5 = (4 : Int32)) : KP (f_X10_letTrouble_J59 v22_l5) (fun (r : Int32) => ¬ r = (4 : Int32)) := by
  unfold f_X10_letTrouble_J59
  exact kp_s hN_v22_l5
theorem kp_f_X10_letTrouble_J22 {k1 : Int32} {p_p : TX6_p} {n_n : TX4_n} {v22_l5 : Int32} (hN_v22_l5 : ¬ v22_l5 = (4 : Int32)) : KP (f_X10_letTrouble_J22 k1 p_p n_n v22_l5) (fun (r : Int32) => ¬ r = (4 : Int32)) := by
  unfold f_X10_letTrouble_J22
  refine kp_i ?_ ?_
  · skip
    refine kp_gA ?_
    refine kp_i ?_ ?_
    · skip
      refine kp_n (kp_f_X6_isClose ) (fun o51 h1 => ?_)
      refine kp_i ?_ ?_
      · skip
        exact (kp_f_X10_letTrouble_J59 hN_v22_l5)
      · skip
        exact kp_s (show ¬ (5 : Int32) = 4 by decide)
    · skip
      exact kp_s (show ¬ (5 : Int32) = 4 by decide)
  · skip
    exact (kp_f_X10_letTrouble_J59 hN_v22_l5)
theorem kp_f_X10_letTrouble {k1 : Int32} {k2 : Int32} {k3 : Int32} {k4 : Int32} {p_p : TX6_p} {n_n : TX4_n} : KP (f_X10_letTrouble k1 k2 k3 k4 p_p n_n) (fun (r : Int32) => ¬ r = (4 : Int32)) := by
  unfold f_X10_letTrouble
  refine kp_n (kp_f_X10_askerTrouble ) (fun o2 h1 => ?_)
  refine kp_i ?_ ?_
  · skip
    refine kp_n (kp_f_X10_questionTrouble ) (fun o17 h2 => ?_)
    exact (kp_f_X10_letTrouble_J22 h2)
  · skip
    exact (kp_f_X10_letTrouble_J22 h1)
theorem kp_f_X10_refused {F0 : Int32} {k1 : Int32} {x_x : TX10_x} (hN_k1 : ¬ k1 = (4 : Int32)) (hF_x_x_2 : x_x.2 = F0) : KV (f_X10_refused k1 x_x) (fun (r : Int32 × TX10_x) => ¬ r.1 = (4 : Int32) ∧ ¬ r.2.1 = (4 : Int32) ∧ r.2.2 = F0) := by
  unfold f_X10_refused
  refine kv_i ?_ ?_
  · skip
    exact kv_s ⟨(show ¬ (0 : Int32) = 4 by decide), hN_k1, hF_x_x_2⟩
  · skip
    exact kv_s ⟨(show ¬ (1 : Int32) = 4 by decide), hN_k1, hF_x_x_2⟩
theorem kp_f_X10_let {F0 : Int32} {k1 : Int32} {k2 : Int32} {k3 : Int32} {k4 : Int32} {x_x : TX10_x} {n_n : TX4_n} {p_p : TX6_p} {n2_n : TX4_n} {h_h : TX2_h} (hF_x_x_2 : x_x.2 = F0) : KP (f_X10_let k1 k2 k3 k4 x_x n_n p_p n2_n h_h) (fun (r : Int32 × TX10_x × TX4_n × TX4_n × TX2_h) => ¬ r.1 = (4 : Int32) ∧ ¬ r.2.1.1 = (4 : Int32) ∧ r.2.1.2 = F0) := by
  unfold f_X10_let
  refine kp_b (kp_f_X10_letTrouble ) (fun o7 h1 => ?_)
  refine kp_n (kp_f_X10_refused h1 hF_x_x_2) (fun o10 h2 => ?_)
  refine kp_i ?_ ?_
  · skip
    refine kp_b0 (fun o26 => ?_)
    refine kp_n0 (fun o41 => ?_)
    refine kp_gA ?_
    exact kp_s ⟨(show ¬ (1 : Int32) = 4 by decide), h2.2.1, h2.2.2⟩
  · skip
    exact kp_s ⟨(show ¬ (0 : Int32) = 4 by decide), h2.2.1, h2.2.2⟩
theorem kp_f_X10_drawIn_J29 {F0 : Int32} {k1 : Int32} {x_x : TX10_x} {n_n : TX4_n} {n2_n : TX4_n} {h_h : TX2_h} {v29_t1 : Int32} (hF_x_x_2 : x_x.2 = F0) (hN_v29_t1 : ¬ v29_t1 = (4 : Int32)) : KP (f_X10_drawIn_J29 k1 x_x n_n n2_n h_h v29_t1) (fun (r : Int32 × TX10_x × TX4_n × TX4_n × TX2_h) => ¬ r.1 = (4 : Int32) ∧ ¬ r.2.1.1 = (4 : Int32) ∧ r.2.1.2 = F0) := by
  unfold f_X10_drawIn_J29
  refine kp_n (kp_f_X10_refused hN_v29_t1 hF_x_x_2) (fun o29 h1 => ?_)
  refine kp_i ?_ ?_
  · skip
    refine kp_b0 (fun o45 => ?_)
    refine kp_gA ?_
    exact kp_s ⟨(show ¬ (1 : Int32) = 4 by decide), h1.2.1, h1.2.2⟩
  · skip
    exact kp_s ⟨(show ¬ (0 : Int32) = 4 by decide), h1.2.1, h1.2.2⟩
theorem kp_f_X10_drawIn_J28 {F0 : Int32} {k1 : Int32} {x_x : TX10_x} {n_n : TX4_n} {n2_n : TX4_n} {h_h : TX2_h} {o2 : Int32} (hF_x_x_2 : x_x.2 = F0) (hN_o2 : ¬ o2 = (4 : Int32)) : KP (f_X10_drawIn_J28 k1 x_x n_n n2_n h_h o2) (fun (r : Int32 × TX10_x × TX4_n × TX4_n × TX2_h) => ¬ r.1 = (4 : Int32) ∧ ¬ r.2.1.1 = (4 : Int32) ∧ r.2.1.2 = F0) := by
  unfold f_X10_drawIn_J28
  exact (kp_f_X10_drawIn_J29 hF_x_x_2 hN_o2)
theorem kp_f_X10_drawIn {F0 : Int32} {k1 : Int32} {x_x : TX10_x} {n_n : TX4_n} {p_p : TX6_p} {n2_n : TX4_n} {h_h : TX2_h} (hF_x_x_2 : x_x.2 = F0) : KP (f_X10_drawIn k1 x_x n_n p_p n2_n h_h) (fun (r : Int32 × TX10_x × TX4_n × TX4_n × TX2_h) => ¬ r.1 = (4 : Int32) ∧ ¬ r.2.1.1 = (4 : Int32) ∧ r.2.1.2 = F0) := by
  unfold f_X10_drawIn
  refine kp_n (kp_f_X10_askerTrouble ) (fun o2 h1 => ?_)
  refine kp_i ?_ ?_
  · skip
    refine kp_gA ?_
    refine kp_i ?_ ?_
    · skip
      exact (kp_f_X10_drawIn_J29 hF_x_x_2 (show ¬ (5 : Int32) = 4 by decide))
    · skip
      exact (kp_f_X10_drawIn_J28 hF_x_x_2 h1)
  · skip
    exact (kp_f_X10_drawIn_J28 hF_x_x_2 h1)
theorem kp_f_X6_hasAnswer {k1 : Int32} {p_p : TX6_p} : KV (f_X6_hasAnswer k1 p_p) (fun (r : Int32) => ¬ r = (4 : Int32)) := by
  unfold f_X6_hasAnswer
  refine kv_n (kp_f_X10_within ) (fun o8 h1 => ?_)
  exact kv_s h1
theorem kp_f_X10_answerTrouble {k1 : Int32} {p_p : TX6_p} : KV (f_X10_answerTrouble k1 p_p) (fun (r : Int32) => ¬ r = (4 : Int32)) := by
  unfold f_X10_answerTrouble
  refine kv_n (kp_f_X6_hasAnswer ) (fun o5 h1 => ?_)
  refine kv_i ?_ ?_
  · skip
    exact kv_s (show ¬ (1 : Int32) = 4 by decide)
  · skip
    exact kv_s (show ¬ (0 : Int32) = 4 by decide)
theorem kp_f_X10_sell_J29 {F0 : Int32} {k1 : Int32} {x_x : TX10_x} {n_n : TX4_n} {p_p : TX6_p} {n2_n : TX4_n} {h_h : TX2_h} {v29_t1 : Int32} (hF_x_x_2 : x_x.2 = F0) (hN_v29_t1 : ¬ v29_t1 = (4 : Int32)) : KP (f_X10_sell_J29 k1 x_x n_n p_p n2_n h_h v29_t1) (fun (r : Int32 × TX10_x × TX4_n × TX4_n × TX2_h) => ¬ r.2.1.1 = (4 : Int32) ∧ r.2.1.2 = F0) := by
  unfold f_X10_sell_J29
  refine kp_n (kp_f_X10_refused hN_v29_t1 hF_x_x_2) (fun o29 h1 => ?_)
  refine kp_i ?_ ?_
  · skip
    refine kp_b0 (fun o45 => ?_)
    refine kp_b0 (fun o64 => ?_)
    refine kp_gA ?_
    exact kp_s ⟨h1.2.1, h1.2.2⟩
  · skip
    exact kp_s ⟨h1.2.1, h1.2.2⟩
theorem kp_f_X10_sell_J28 {F0 : Int32} {k1 : Int32} {x_x : TX10_x} {n_n : TX4_n} {p_p : TX6_p} {n2_n : TX4_n} {h_h : TX2_h} {o2 : Int32} (hF_x_x_2 : x_x.2 = F0) (hN_o2 : ¬ o2 = (4 : Int32)) : KP (f_X10_sell_J28 k1 x_x n_n p_p n2_n h_h o2) (fun (r : Int32 × TX10_x × TX4_n × TX4_n × TX2_h) => ¬ r.2.1.1 = (4 : Int32) ∧ r.2.1.2 = F0) := by
  unfold f_X10_sell_J28
  exact (kp_f_X10_sell_J29 hF_x_x_2 hN_o2)
theorem kp_f_X10_sell {F0 : Int32} {k1 : Int32} {x_x : TX10_x} {n_n : TX4_n} {p_p : TX6_p} {n2_n : TX4_n} {h_h : TX2_h} (hF_x_x_2 : x_x.2 = F0) : KP (f_X10_sell k1 x_x n_n p_p n2_n h_h) (fun (r : Int32 × TX10_x × TX4_n × TX4_n × TX2_h) => ¬ r.2.1.1 = (4 : Int32) ∧ r.2.1.2 = F0) := by
  unfold f_X10_sell
  refine kp_n (kp_f_X10_answerTrouble ) (fun o2 h1 => ?_)
  refine kp_i ?_ ?_
  · skip
    refine kp_gA ?_
    refine kp_i ?_ ?_
    · skip
      exact (kp_f_X10_sell_J28 hF_x_x_2 h1)
    · skip
      exact (kp_f_X10_sell_J29 hF_x_x_2 (show ¬ (5 : Int32) = 4 by decide))
  · skip
    exact (kp_f_X10_sell_J28 hF_x_x_2 h1)
theorem kp_f_X10_pierTrouble {p_p : TX6_p} : KV (f_X10_pierTrouble p_p) (fun (r : Int32) => ¬ r = (4 : Int32)) := by
  unfold f_X10_pierTrouble
  refine kv_i ?_ ?_
  · skip
    exact kv_s (show ¬ (1 : Int32) = 4 by decide)
  · skip
    exact kv_s (show ¬ (0 : Int32) = 4 by decide)
theorem kp_f_X6_isTangle {k1 : Int32} {k2 : Int32} {k3 : Int32} {k4 : Int32} {p_p : TX6_p} : KP (f_X6_isTangle k1 k2 k3 k4 p_p) (fun (r : Int32) => ¬ r = (4 : Int32)) := by
  unfold f_X6_isTangle
  refine kp_n0 (fun z4 => ?_)
  refine kp_gA ?_
  refine kp_gA ?_
  refine kp_n0 (fun z19 => ?_)
  refine kp_i ?_ ?_
  · skip
    exact kp_s (show ¬ (0 : Int32) = 4 by decide)
  · skip
    exact kp_s (show ¬ (1 : Int32) = 4 by decide)
theorem kp_f_X4_isTangled_J52 {k3_ : Int32 → Option Int32} {v3_l4 : Int32} (hk3 : ∀ (v3_l4 : Int32), KP (k3_ v3_l4) (fun (r : Int32) => ¬ r = (4 : Int32))) : KP (f_X4_isTangled_J52 k3_ v3_l4) (fun (r : Int32) => ¬ r = (4 : Int32)) := by
  unfold f_X4_isTangled_J52
  exact hk3 _ 
theorem kp_f_X4_isTangled_L3 {k2 : Int32} {k3 : Int32} {n_n : TX4_n} {p_p : TX6_p} : ∀ (n : Nat) (v3_l4 : Int32), KP (f_X4_isTangled_L3 k2 k3 n_n p_p n v3_l4) (fun (r : Int32) => ¬ r = (4 : Int32)) := by
  intro n
  induction n with
  | zero =>
    intro v3_l4 
    exact kp_o
  | succ n ih =>
    intro v3_l4 
    rw [f_X4_isTangled_L3]
    refine kp_i ?_ ?_
    · skip
      exact kp_s (show ¬ (0 : Int32) = 4 by decide)
    · skip
      refine kp_i ?_ ?_
      · skip
        exact (kp_f_X4_isTangled_J52 ih)
      · skip
        refine kp_gA ?_
        refine kp_i ?_ ?_
        · skip
          exact (kp_f_X4_isTangled_J52 ih)
        · skip
          refine kp_gA ?_
          refine kp_n0 (fun o41 => ?_)
          refine kp_b (kp_f_X6_isTangle ) (fun o44 h1 => ?_)
          refine kp_i ?_ ?_
          · skip
            exact (kp_f_X4_isTangled_J52 ih)
          · skip
            exact kp_s (show ¬ (1 : Int32) = 4 by decide)
theorem kp_f_X4_isTangled {k2 : Int32} {k3 : Int32} {n_n : TX4_n} {p_p : TX6_p} : KP (f_X4_isTangled k2 k3 n_n p_p) (fun (r : Int32) => ¬ r = (4 : Int32)) := by
  unfold f_X4_isTangled
  exact (kp_f_X4_isTangled_L3  FU _ )
theorem kp_f_X10_day_J28 {F0 : Int32} {x_x : TX10_x} {n_n : TX4_n} {p_p : TX6_p} {n2_n : TX4_n} {h_h : TX2_h} {y_y : TX1_y} {v28_t1 : Int32} (hF_x_x_2 : x_x.2 = F0) (hN_v28_t1 : ¬ v28_t1 = (4 : Int32)) : KP (f_X10_day_J28 x_x n_n p_p n2_n h_h y_y v28_t1) (fun (r : Int32 × TX10_x × TX4_n × TX4_n × TX2_h × TX1_y) => ¬ r.2.1.1 = (4 : Int32) ∧ r.2.1.2 = F0) := by
  unfold f_X10_day_J28
  refine kp_n (kp_f_X10_refused hN_v28_t1 hF_x_x_2) (fun o28 h1 => ?_)
  refine kp_i ?_ ?_
  · skip
    refine kp_b0 (fun o44 => ?_)
    refine kp_b0 (fun o59 => ?_)
    exact kp_s ⟨h1.2.1, h1.2.2⟩
  · skip
    exact kp_s ⟨h1.2.1, h1.2.2⟩
theorem kp_f_X10_day_J27 {F0 : Int32} {x_x : TX10_x} {n_n : TX4_n} {p_p : TX6_p} {n2_n : TX4_n} {h_h : TX2_h} {y_y : TX1_y} {o1 : Int32} (hF_x_x_2 : x_x.2 = F0) (hN_o1 : ¬ o1 = (4 : Int32)) : KP (f_X10_day_J27 x_x n_n p_p n2_n h_h y_y o1) (fun (r : Int32 × TX10_x × TX4_n × TX4_n × TX2_h × TX1_y) => ¬ r.2.1.1 = (4 : Int32) ∧ r.2.1.2 = F0) := by
  unfold f_X10_day_J27
  exact (kp_f_X10_day_J28 hF_x_x_2 hN_o1)
theorem kp_f_X10_day {F0 : Int32} {x_x : TX10_x} {n_n : TX4_n} {p_p : TX6_p} {n2_n : TX4_n} {h_h : TX2_h} {y_y : TX1_y} (hF_x_x_2 : x_x.2 = F0) : KP (f_X10_day x_x n_n p_p n2_n h_h y_y) (fun (r : Int32 × TX10_x × TX4_n × TX4_n × TX2_h × TX1_y) => ¬ r.2.1.1 = (4 : Int32) ∧ r.2.1.2 = F0) := by
  unfold f_X10_day
  refine kp_n (kp_f_X10_pierTrouble ) (fun o1 h1 => ?_)
  refine kp_i ?_ ?_
  · skip
    refine kp_i ?_ ?_
    · skip
      exact (kp_f_X10_day_J27 hF_x_x_2 h1)
    · skip
      exact (kp_f_X10_day_J28 hF_x_x_2 (show ¬ (3 : Int32) = 4 by decide))
  · skip
    exact (kp_f_X10_day_J27 hF_x_x_2 h1)
theorem kp_f_X10_numberTrouble_J17 {o1 : Int32} (hN_o1 : ¬ o1 = (4 : Int32)) : KV (f_X10_numberTrouble_J17 o1) (fun (r : Int32) => ¬ r = (4 : Int32)) := by
  unfold f_X10_numberTrouble_J17
  exact kv_s hN_o1
theorem kp_f_X10_numberTrouble {k1 : Int32} {p_p : TX6_p} (hN_k1 : ¬ k1 = (4 : Int32)) : KV (f_X10_numberTrouble k1 p_p) (fun (r : Int32) => ¬ r = (4 : Int32)) := by
  unfold f_X10_numberTrouble
  refine kv_n (kp_f_X10_pierTrouble ) (fun o1 h1 => ?_)
  refine kv_i ?_ ?_
  · skip
    refine kv_i ?_ ?_
    · skip
      exact kv_s (show ¬ (2 : Int32) = 4 by decide)
    · skip
      exact (kp_f_X10_numberTrouble_J17 h1)
  · skip
    exact (kp_f_X10_numberTrouble_J17 h1)
theorem kp_f_X10_seed {F0 : Int32} {k1 : Int32} {x_x : TX10_x} {p_p : TX6_p} {n_n : TX4_n} (hF_x_x_2 : x_x.2 = F0) : KV (f_X10_seed k1 x_x p_p n_n) (fun (r : Int32 × TX10_x × TX4_n) => ¬ r.1 = (4 : Int32) ∧ ¬ r.2.1.1 = (4 : Int32) ∧ r.2.1.2 = F0) := by
  unfold f_X10_seed
  refine kv_n (kp_f_X10_within ) (fun o7 h1 => ?_)
  refine kv_n (kp_f_X10_numberTrouble h1) (fun o10 h2 => ?_)
  refine kv_n (kp_f_X10_refused h2 hF_x_x_2) (fun o13 h3 => ?_)
  refine kv_i ?_ ?_
  · skip
    exact kv_s ⟨(show ¬ (1 : Int32) = 4 by decide), h3.2.1, h3.2.2⟩
  · skip
    exact kv_s ⟨(show ¬ (0 : Int32) = 4 by decide), h3.2.1, h3.2.2⟩
theorem kp_f_X10_undo_J17 {F0 : Int32} {x_x : TX10_x} {n_n : TX4_n} {n2_n : TX4_n} {h_h : TX2_h} {v17_t1 : Int32} (hF_x_x_2 : x_x.2 = F0) (hN_v17_t1 : ¬ v17_t1 = (4 : Int32)) : KP (f_X10_undo_J17 x_x n_n n2_n h_h v17_t1) (fun (r : Int32 × TX10_x × TX4_n × TX2_h) => ¬ r.1 = (4 : Int32) ∧ ¬ r.2.1.1 = (4 : Int32) ∧ r.2.1.2 = F0) := by
  unfold f_X10_undo_J17
  refine kp_n (kp_f_X10_refused hN_v17_t1 hF_x_x_2) (fun o17 h1 => ?_)
  refine kp_i ?_ ?_
  · skip
    refine kp_b0 (fun o33 => ?_)
    exact kp_s ⟨(show ¬ (1 : Int32) = 4 by decide), h1.2.1, h1.2.2⟩
  · skip
    exact kp_s ⟨(show ¬ (0 : Int32) = 4 by decide), h1.2.1, h1.2.2⟩
theorem kp_f_X10_undo {F0 : Int32} {x_x : TX10_x} {n_n : TX4_n} {n2_n : TX4_n} {h_h : TX2_h} (hF_x_x_2 : x_x.2 = F0) : KP (f_X10_undo x_x n_n n2_n h_h) (fun (r : Int32 × TX10_x × TX4_n × TX2_h) => ¬ r.1 = (4 : Int32) ∧ ¬ r.2.1.1 = (4 : Int32) ∧ r.2.1.2 = F0) := by
  unfold f_X10_undo
  refine kp_i ?_ ?_
  · skip
    exact (kp_f_X10_undo_J17 hF_x_x_2 (show ¬ (6 : Int32) = 4 by decide))
  · skip
    exact (kp_f_X10_undo_J17 hF_x_x_2 (show ¬ (0 : Int32) = 4 by decide))
theorem kp_f_X10_mark_J26 {F0 : Int32} {x_x : TX10_x} {n_n : TX4_n} {n2_n : TX4_n} {h_h : TX2_h} {v26_t1 : Int32} (hF_x_x_2 : x_x.2 = F0) (hN_v26_t1 : ¬ v26_t1 = (4 : Int32)) : KP (f_X10_mark_J26 x_x n_n n2_n h_h v26_t1) (fun (r : Int32 × TX10_x × TX4_n × TX2_h) => ¬ r.2.1.1 = (4 : Int32) ∧ r.2.1.2 = F0) := by
  unfold f_X10_mark_J26
  refine kp_n (kp_f_X10_refused hN_v26_t1 hF_x_x_2) (fun o26 h1 => ?_)
  refine kp_i ?_ ?_
  · skip
    refine kp_b0 (fun o42 => ?_)
    exact kp_s ⟨h1.2.1, h1.2.2⟩
  · skip
    exact kp_s ⟨h1.2.1, h1.2.2⟩
theorem kp_f_X10_mark_J25 {F0 : Int32} {x_x : TX10_x} {n_n : TX4_n} {n2_n : TX4_n} {h_h : TX2_h} {o1 : Int32} (hF_x_x_2 : x_x.2 = F0) (hN_o1 : ¬ o1 = (4 : Int32)) : KP (f_X10_mark_J25 x_x n_n n2_n h_h o1) (fun (r : Int32 × TX10_x × TX4_n × TX2_h) => ¬ r.2.1.1 = (4 : Int32) ∧ r.2.1.2 = F0) := by
  unfold f_X10_mark_J25
  exact (kp_f_X10_mark_J26 hF_x_x_2 hN_o1)
theorem kp_f_X10_mark {F0 : Int32} {x_x : TX10_x} {n_n : TX4_n} {p_p : TX6_p} {n2_n : TX4_n} {h_h : TX2_h} (hF_x_x_2 : x_x.2 = F0) : KP (f_X10_mark x_x n_n p_p n2_n h_h) (fun (r : Int32 × TX10_x × TX4_n × TX2_h) => ¬ r.2.1.1 = (4 : Int32) ∧ r.2.1.2 = F0) := by
  unfold f_X10_mark
  refine kp_n (kp_f_X10_pierTrouble ) (fun o1 h1 => ?_)
  refine kp_i ?_ ?_
  · skip
    refine kp_i ?_ ?_
    · skip
      exact (kp_f_X10_mark_J25 hF_x_x_2 h1)
    · skip
      exact (kp_f_X10_mark_J26 hF_x_x_2 (show ¬ (3 : Int32) = 4 by decide))
  · skip
    exact (kp_f_X10_mark_J25 hF_x_x_2 h1)
theorem kp_f_X10_back_J23 {F0 : Int32} {k1 : Int32} {x_x : TX10_x} {n_n : TX4_n} {n2_n : TX4_n} {h_h : TX2_h} {v23_t1 : Int32} (hF_x_x_2 : x_x.2 = F0) (hN_v23_t1 : ¬ v23_t1 = (4 : Int32)) : KP (f_X10_back_J23 k1 x_x n_n n2_n h_h v23_t1) (fun (r : Int32 × TX10_x × TX4_n × TX2_h) => ¬ r.1 = (4 : Int32) ∧ ¬ r.2.1.1 = (4 : Int32) ∧ r.2.1.2 = F0) := by
  unfold f_X10_back_J23
  refine kp_n (kp_f_X10_refused hN_v23_t1 hF_x_x_2) (fun o23 h1 => ?_)
  refine kp_i ?_ ?_
  · skip
    refine kp_b0 (fun o40 => ?_)
    exact kp_s ⟨(show ¬ (1 : Int32) = 4 by decide), h1.2.1, h1.2.2⟩
  · skip
    exact kp_s ⟨(show ¬ (0 : Int32) = 4 by decide), h1.2.1, h1.2.2⟩
theorem kp_f_X10_back {F0 : Int32} {k1 : Int32} {x_x : TX10_x} {n_n : TX4_n} {n2_n : TX4_n} {h_h : TX2_h} (hF_x_x_2 : x_x.2 = F0) : KP (f_X10_back k1 x_x n_n n2_n h_h) (fun (r : Int32 × TX10_x × TX4_n × TX2_h) => ¬ r.1 = (4 : Int32) ∧ ¬ r.2.1.1 = (4 : Int32) ∧ r.2.1.2 = F0) := by
  unfold f_X10_back
  refine kp_n (kp_f_X10_within ) (fun o12 h1 => ?_)
  refine kp_i ?_ ?_
  · skip
    exact (kp_f_X10_back_J23 hF_x_x_2 (show ¬ (1 : Int32) = 4 by decide))
  · skip
    exact (kp_f_X10_back_J23 hF_x_x_2 (show ¬ (0 : Int32) = 4 by decide))
theorem kp_f_X10_answer_J20 {F0 : Int32} {k1 : Int32} {k2 : Int32} {x_x : TX10_x} {p_p : TX6_p} {n_n : TX4_n} {v20_t1 : Int32} (hF_x_x_2 : x_x.2 = F0) (hN_v20_t1 : ¬ v20_t1 = (4 : Int32)) : KP (f_X10_answer_J20 k1 k2 x_x p_p n_n v20_t1) (fun (r : Int32 × TX10_x) => ¬ r.2.1 = (4 : Int32) ∧ r.2.2 = F0) := by
  unfold f_X10_answer_J20
  refine kp_n (kp_f_X10_refused hN_v20_t1 hF_x_x_2) (fun o20 h1 => ?_)
  refine kp_i ?_ ?_
  · skip
    refine kp_i ?_ ?_
    · skip
      refine kp_gA ?_
      exact kp_s ⟨h1.2.1, h1.2.2⟩
    · skip
      refine kp_i ?_ ?_
      · skip
        refine kp_gA ?_
        exact kp_s ⟨h1.2.1, h1.2.2⟩
      · skip
        refine kp_i ?_ ?_
        · skip
          refine kp_gA ?_
          exact kp_s ⟨h1.2.1, h1.2.2⟩
        · skip
          refine kp_i ?_ ?_
          · skip
            refine kp_gA ?_
            exact kp_s ⟨h1.2.1, h1.2.2⟩
          · skip
            refine kp_i ?_ ?_
            · skip
              refine kp_gA ?_
              exact kp_s ⟨h1.2.1, h1.2.2⟩
            · skip
              refine kp_i ?_ ?_
              · skip
                refine kp_gA ?_
                exact kp_s ⟨h1.2.1, h1.2.2⟩
              · skip
                refine kp_i ?_ ?_
                · skip
                  refine kp_gA ?_
                  exact kp_s ⟨h1.2.1, h1.2.2⟩
                · skip
                  refine kp_i ?_ ?_
                  · skip
                    refine kp_gA ?_
                    refine kp_i ?_ ?_
                    · skip
                      exact kp_s ⟨h1.2.1, h1.2.2⟩
                    · skip
                      refine kp_gA ?_
                      exact kp_s ⟨h1.2.1, h1.2.2⟩
                  · skip
                    refine kp_i ?_ ?_
                    · skip
                      refine kp_gA ?_
                      refine kp_i ?_ ?_
                      · skip
                        exact kp_s ⟨h1.2.1, h1.2.2⟩
                      · skip
                        refine kp_gA ?_
                        exact kp_s ⟨h1.2.1, h1.2.2⟩
                    · skip
                      refine kp_gA ?_
                      refine kp_i ?_ ?_
                      · skip
                        refine kp_b0 (fun o233 => ?_)
                        exact kp_s ⟨h1.2.1, h1.2.2⟩
                      · skip
                        exact kp_s ⟨h1.2.1, h1.2.2⟩
  · skip
    exact kp_s ⟨h1.2.1, h1.2.2⟩
theorem kp_f_X10_answer {F0 : Int32} {k1 : Int32} {k2 : Int32} {x_x : TX10_x} {p_p : TX6_p} {n_n : TX4_n} (hF_x_x_2 : x_x.2 = F0) : KP (f_X10_answer k1 k2 x_x p_p n_n) (fun (r : Int32 × TX10_x) => ¬ r.2.1 = (4 : Int32) ∧ r.2.2 = F0) := by
  unfold f_X10_answer
  refine kp_n (kp_f_X10_within ) (fun o5 h1 => ?_)
  refine kp_i ?_ ?_
  · skip
    exact (kp_f_X10_answer_J20 hF_x_x_2 (show ¬ (1 : Int32) = 4 by decide))
  · skip
    refine kp_n (kp_f_X10_answerTrouble ) (fun o13 h2 => ?_)
    exact (kp_f_X10_answer_J20 hF_x_x_2 h2)
theorem kp_f_X10_asker_J19 {F0 : Int32} {k1 : Int32} {k2 : Int32} {x_x : TX10_x} {p_p : TX6_p} {n_n : TX4_n} {v19_t1 : Int32} (hF_x_x_2 : x_x.2 = F0) (hN_v19_t1 : ¬ v19_t1 = (4 : Int32)) : KP (f_X10_asker_J19 k1 k2 x_x p_p n_n v19_t1) (fun (r : Int32 × TX10_x) => ¬ r.2.1 = (4 : Int32) ∧ r.2.2 = F0) := by
  unfold f_X10_asker_J19
  refine kp_n (kp_f_X10_refused hN_v19_t1 hF_x_x_2) (fun o19 h1 => ?_)
  refine kp_i ?_ ?_
  · skip
    refine kp_gA ?_
    refine kp_i ?_ ?_
    · skip
      refine kp_gA ?_
      exact kp_s ⟨h1.2.1, h1.2.2⟩
    · skip
      refine kp_i ?_ ?_
      · skip
        refine kp_i ?_ ?_
        · skip
          exact kp_s ⟨h1.2.1, h1.2.2⟩
        · skip
          refine kp_n0 (fun o93 => ?_)
          exact kp_s ⟨h1.2.1, h1.2.2⟩
      · skip
        refine kp_i ?_ ?_
        · skip
          refine kp_i ?_ ?_
          · skip
            exact kp_s ⟨h1.2.1, h1.2.2⟩
          · skip
            refine kp_n0 (fun o108 => ?_)
            exact kp_s ⟨h1.2.1, h1.2.2⟩
        · skip
          refine kp_i ?_ ?_
          · skip
            refine kp_i ?_ ?_
            · skip
              exact kp_s ⟨h1.2.1, h1.2.2⟩
            · skip
              refine kp_n0 (fun o123 => ?_)
              exact kp_s ⟨h1.2.1, h1.2.2⟩
          · skip
            refine kp_i ?_ ?_
            · skip
              refine kp_b0 (fun o139 => ?_)
              exact kp_s ⟨h1.2.1, h1.2.2⟩
            · skip
              refine kp_i ?_ ?_
              · skip
                exact kp_s ⟨h1.2.1, h1.2.2⟩
              · skip
                refine kp_n0 (fun o158 => ?_)
                refine kp_b (kp_f_X4_isTangled ) (fun o161 h2 => ?_)
                refine kp_i ?_ ?_
                · skip
                  exact kp_s ⟨h1.2.1, h1.2.2⟩
                · skip
                  exact kp_s ⟨h1.2.1, h1.2.2⟩
  · skip
    exact kp_s ⟨h1.2.1, h1.2.2⟩
theorem kp_f_X10_asker {F0 : Int32} {k1 : Int32} {k2 : Int32} {x_x : TX10_x} {p_p : TX6_p} {n_n : TX4_n} (hF_x_x_2 : x_x.2 = F0) : KP (f_X10_asker k1 k2 x_x p_p n_n) (fun (r : Int32 × TX10_x) => ¬ r.2.1 = (4 : Int32) ∧ r.2.2 = F0) := by
  unfold f_X10_asker
  refine kp_n (kp_f_X10_within ) (fun o4 h1 => ?_)
  refine kp_i ?_ ?_
  · skip
    exact (kp_f_X10_asker_J19 hF_x_x_2 (show ¬ (1 : Int32) = 4 by decide))
  · skip
    refine kp_n (kp_f_X10_askerTrouble ) (fun o12 h2 => ?_)
    exact (kp_f_X10_asker_J19 hF_x_x_2 h2)
theorem kp_f_X10_close {F0 : Int32} {k1 : Int32} {x_x : TX10_x} {p_p : TX6_p} (hF_x_x_2 : x_x.2 = F0) : KV (f_X10_close k1 x_x p_p) (fun (r : Int32 × TX10_x) => ¬ r.1 = (4 : Int32) ∧ ¬ r.2.1 = (4 : Int32) ∧ r.2.2 = F0) := by
  unfold f_X10_close
  refine kv_n (kp_f_X10_within ) (fun o7 h1 => ?_)
  refine kv_n (kp_f_X10_numberTrouble h1) (fun o10 h2 => ?_)
  refine kv_n (kp_f_X10_refused h2 hF_x_x_2) (fun o13 h3 => ?_)
  refine kv_i ?_ ?_
  · skip
    refine kv_n (kp_f_X6_isClose ) (fun o26 h4 => ?_)
    refine kv_i ?_ ?_
    · skip
      exact kv_s ⟨(show ¬ (0 : Int32) = 4 by decide), h3.2.1, h3.2.2⟩
    · skip
      exact kv_s ⟨(show ¬ (1 : Int32) = 4 by decide), h3.2.1, h3.2.2⟩
  · skip
    exact kv_s ⟨(show ¬ (-1 : Int32) = 4 by decide), h3.2.1, h3.2.2⟩
theorem kp_f_X10_wishTrouble {k1 : Int32} {k2 : Int32} {k3 : Int32} {k4 : Int32} {p_p : TX6_p} : KV (f_X10_wishTrouble k1 k2 k3 k4 p_p) (fun (r : Int32) => ¬ r = (4 : Int32)) := by
  unfold f_X10_wishTrouble
  refine kv_n (kp_f_X10_answerTrouble ) (fun o2 h1 => ?_)
  refine kv_i ?_ ?_
  · skip
    refine kv_n (kp_f_X10_questionTrouble ) (fun o17 h2 => ?_)
    exact kv_s h2
  · skip
    exact kv_s h1
theorem kp_f_X10_wish {F0 : Int32} {k1 : Int32} {k2 : Int32} {k3 : Int32} {k4 : Int32} {x_x : TX10_x} {p_p : TX6_p} (hF_x_x_2 : x_x.2 = F0) : KP (f_X10_wish k1 k2 k3 k4 x_x p_p) (fun (r : Int32 × TX10_x) => ¬ r.2.1 = (4 : Int32) ∧ r.2.2 = F0) := by
  unfold f_X10_wish
  refine kp_n (kp_f_X10_wishTrouble ) (fun o7 h1 => ?_)
  refine kp_n (kp_f_X10_refused h1 hF_x_x_2) (fun o10 h2 => ?_)
  refine kp_i ?_ ?_
  · skip
    refine kp_n0 (fun o27 => ?_)
    refine kp_b0 (fun o30 => ?_)
    exact kp_s ⟨h2.2.1, h2.2.2⟩
  · skip
    exact kp_s ⟨h2.2.1, h2.2.2⟩
theorem kp_f_X10_takes {F0 : Int32} {k1 : Int32} {k2 : Int32} {k3 : Int32} {k4 : Int32} {k5 : Int32} {x_x : TX10_x} {p_p : TX6_p} {n_n : TX4_n} (hF_x_x_2 : x_x.2 = F0) : KP (f_X10_takes k1 k2 k3 k4 k5 x_x p_p n_n) (fun (r : Int64 × TX10_x) => ¬ r.2.1 = (4 : Int32) ∧ r.2.2 = F0) := by
  unfold f_X10_takes
  refine kp_n (kp_f_X10_wishTrouble ) (fun o7 h1 => ?_)
  refine kp_n (kp_f_X10_refused h1 hF_x_x_2) (fun o10 h2 => ?_)
  refine kp_i ?_ ?_
  · skip
    refine kp_n0 (fun o33 => ?_)
    refine kp_b0 (fun o36 => ?_)
    refine kp_b0 (fun o41 => ?_)
    exact kp_s ⟨h2.2.1, h2.2.2⟩
  · skip
    exact kp_s ⟨h2.2.1, h2.2.2⟩
theorem kp_f_X10_nothing {F0 : Int32} {k1 : Int32} {k2 : Int32} {k3 : Int32} {k4 : Int32} {x_x : TX10_x} {p_p : TX6_p} {n_n : TX4_n} (hF_x_x_2 : x_x.2 = F0) : KP (f_X10_nothing k1 k2 k3 k4 x_x p_p n_n) (fun (r : Int64 × TX10_x) => ¬ r.2.1 = (4 : Int32) ∧ r.2.2 = F0) := by
  unfold f_X10_nothing
  refine kp_n (kp_f_X10_questionTrouble ) (fun o5 h1 => ?_)
  refine kp_n (kp_f_X10_refused h1 hF_x_x_2) (fun o8 h2 => ?_)
  refine kp_i ?_ ?_
  · skip
    refine kp_n0 (fun o30 => ?_)
    refine kp_b0 (fun o33 => ?_)
    refine kp_b0 (fun o38 => ?_)
    exact kp_s ⟨h2.2.1, h2.2.2⟩
  · skip
    exact kp_s ⟨h2.2.1, h2.2.2⟩
theorem kp_f_X10_mean {F0 : Int32} {k1 : Int32} {k2 : Int32} {k3 : Int32} {k4 : Int32} {x_x : TX10_x} {p_p : TX6_p} {n_n : TX4_n} (hF_x_x_2 : x_x.2 = F0) : KP (f_X10_mean k1 k2 k3 k4 x_x p_p n_n) (fun (r : Int64 × TX10_x) => ¬ r.2.1 = (4 : Int32) ∧ r.2.2 = F0) := by
  unfold f_X10_mean
  refine kp_n (kp_f_X10_questionTrouble ) (fun o5 h1 => ?_)
  refine kp_n (kp_f_X10_refused h1 hF_x_x_2) (fun o8 h2 => ?_)
  refine kp_i ?_ ?_
  · skip
    refine kp_n0 (fun o29 => ?_)
    refine kp_b0 (fun o32 => ?_)
    refine kp_b0 (fun o37 => ?_)
    exact kp_s ⟨h2.2.1, h2.2.2⟩
  · skip
    exact kp_s ⟨h2.2.1, h2.2.2⟩
theorem kp_f_X10_likeliest {F0 : Int32} {k1 : Int32} {k2 : Int32} {k3 : Int32} {x_x : TX10_x} {p_p : TX6_p} {n_n : TX4_n} (hF_x_x_2 : x_x.2 = F0) : KP (f_X10_likeliest k1 k2 k3 x_x p_p n_n) (fun (r : Int32 × TX10_x) => ¬ r.2.1 = (4 : Int32) ∧ r.2.2 = F0) := by
  unfold f_X10_likeliest
  refine kp_n (kp_f_X10_questionTrouble ) (fun o5 h1 => ?_)
  refine kp_n (kp_f_X10_refused h1 hF_x_x_2) (fun o8 h2 => ?_)
  refine kp_i ?_ ?_
  · skip
    refine kp_n0 (fun o27 => ?_)
    refine kp_b0 (fun o30 => ?_)
    exact kp_s ⟨h2.2.1, h2.2.2⟩
  · skip
    exact kp_s ⟨h2.2.1, h2.2.2⟩
theorem kp_f_X10_thereTrouble_J26 {o2 : Int32} (hN_o2 : ¬ o2 = (4 : Int32)) : KP (f_X10_thereTrouble_J26 o2) (fun (r : Int32) => ¬ r = (4 : Int32)) := by
  unfold f_X10_thereTrouble_J26
  exact kp_s hN_o2
theorem kp_f_X10_thereTrouble {k1 : Int32} {p_p : TX6_p} {n_n : TX4_n} : KP (f_X10_thereTrouble k1 p_p n_n) (fun (r : Int32) => ¬ r = (4 : Int32)) := by
  unfold f_X10_thereTrouble
  refine kp_n (kp_f_X10_answerTrouble ) (fun o2 h1 => ?_)
  refine kp_i ?_ ?_
  · skip
    refine kp_gA ?_
    refine kp_i ?_ ?_
    · skip
      exact (kp_f_X10_thereTrouble_J26 h1)
    · skip
      exact kp_s (show ¬ (5 : Int32) = 4 by decide)
  · skip
    exact (kp_f_X10_thereTrouble_J26 h1)
theorem kp_f_X6_hasQuestion {k1 : Int32} {p_p : TX6_p} : KV (f_X6_hasQuestion k1 p_p) (fun (r : Int32) => ¬ r = (4 : Int32)) := by
  unfold f_X6_hasQuestion
  refine kv_n0 (fun o2 => ?_)
  refine kv_n (kp_f_X6_hasSpot ) (fun o5 h1 => ?_)
  refine kv_i ?_ ?_
  · skip
    exact kv_s (show ¬ (0 : Int32) = 4 by decide)
  · skip
    refine kv_n0 (fun o12 => ?_)
    refine kv_n (kp_f_X10_within ) (fun o20 h2 => ?_)
    refine kv_i ?_ ?_
    · skip
      exact kv_s (show ¬ (0 : Int32) = 4 by decide)
    · skip
      refine kv_n0 (fun o28 => ?_)
      refine kv_n (kp_f_X6_hasBait ) (fun o31 h3 => ?_)
      refine kv_i ?_ ?_
      · skip
        exact kv_s (show ¬ (0 : Int32) = 4 by decide)
      · skip
        exact kv_s (show ¬ (1 : Int32) = 4 by decide)
theorem kp_f_X10_surest {F0 : Int32} {k1 : Int32} {x_x : TX10_x} {p_p : TX6_p} {n_n : TX4_n} (hF_x_x_2 : x_x.2 = F0) : KP (f_X10_surest k1 x_x p_p n_n) (fun (r : Int32 × TX10_x) => ¬ r.2.1 = (4 : Int32) ∧ r.2.2 = F0) := by
  unfold f_X10_surest
  refine kp_b (kp_f_X10_thereTrouble ) (fun o3 h1 => ?_)
  refine kp_n (kp_f_X10_refused h1 hF_x_x_2) (fun o6 h2 => ?_)
  refine kp_i ?_ ?_
  · skip
    refine kp_b0 (fun o23 => ?_)
    exact kp_s ⟨h2.2.1, h2.2.2⟩
  · skip
    exact kp_s ⟨h2.2.1, h2.2.2⟩
theorem kp_f_X10_surestOdds_J52 {F0 : Int32} {k2 : Int32} {o6 : (Int32 × TX10_x)} {v52_t0 : Int64} (hN_o6_1 : ¬ o6.1 = (4 : Int32)) (hN_o6_2_1 : ¬ o6.2.1 = (4 : Int32)) (hF_o6_2_2 : o6.2.2 = F0) : KP (f_X10_surestOdds_J52 k2 o6 v52_t0) (fun (r : Int64 × TX10_x) => ¬ r.2.1 = (4 : Int32) ∧ r.2.2 = F0) := by
  unfold f_X10_surestOdds_J52
  refine kp_b0 (fun o53 => ?_)
  exact kp_s ⟨hN_o6_2_1, hF_o6_2_2⟩
theorem kp_f_X10_surestOdds {F0 : Int32} {k1 : Int32} {k2 : Int32} {x_x : TX10_x} {p_p : TX6_p} {n_n : TX4_n} (hF_x_x_2 : x_x.2 = F0) : KP (f_X10_surestOdds k1 k2 x_x p_p n_n) (fun (r : Int64 × TX10_x) => ¬ r.2.1 = (4 : Int32) ∧ r.2.2 = F0) := by
  unfold f_X10_surestOdds
  refine kp_b (kp_f_X10_thereTrouble ) (fun o3 h1 => ?_)
  refine kp_n (kp_f_X10_refused h1 hF_x_x_2) (fun o6 h2 => ?_)
  refine kp_i ?_ ?_
  · skip
    refine kp_b0 (fun o25 => ?_)
    refine kp_i ?_ ?_
    · skip
      exact (kp_f_X10_surestOdds_J52 h2.1 h2.2.1 h2.2.2)
    · skip
      refine kp_b0 (fun o49 => ?_)
      exact (kp_f_X10_surestOdds_J52 h2.1 h2.2.1 h2.2.2)
  · skip
    exact kp_s ⟨h2.2.1, h2.2.2⟩
theorem kp_f_X10_best {F0 : Int32} {x_x : TX10_x} {p_p : TX6_p} {n_n : TX4_n} (hF_x_x_2 : x_x.2 = F0) : KP (f_X10_best x_x p_p n_n) (fun (r : Int32 × TX10_x) => ¬ r.2.1 = (4 : Int32) ∧ r.2.2 = F0) := by
  unfold f_X10_best
  refine kp_n (kp_f_X10_pierTrouble ) (fun o2 h1 => ?_)
  refine kp_n (kp_f_X10_refused h1 hF_x_x_2) (fun o5 h2 => ?_)
  refine kp_i ?_ ?_
  · skip
    refine kp_b0 (fun o21 => ?_)
    exact kp_s ⟨h2.2.1, h2.2.2⟩
  · skip
    exact kp_s ⟨h2.2.1, h2.2.2⟩
theorem kp_f_X10_bestBait_J43 {F0 : Int32} {k17_ : Int32 → Int32 → Option (Int32 × TX10_x)} {v17_l2 : Int32} {v43_l1 : Int32} (hk17 : ∀ (v17_l2 : Int32) (v17_l1 : Int32), KP (k17_ v17_l2 v17_l1) (fun (r : Int32 × TX10_x) => ¬ r.2.1 = (4 : Int32) ∧ r.2.2 = F0)) : KP (f_X10_bestBait_J43 k17_ v17_l2 v43_l1) (fun (r : Int32 × TX10_x) => ¬ r.2.1 = (4 : Int32) ∧ r.2.2 = F0) := by
  unfold f_X10_bestBait_J43
  exact hk17 _ _ 
theorem kp_f_X10_bestBait_L17 {F0 : Int32} {p_p : TX6_p} {n_n : TX4_n} {o5 : (Int32 × TX10_x)} (hN_o5_1 : ¬ o5.1 = (4 : Int32)) (hN_o5_2_1 : ¬ o5.2.1 = (4 : Int32)) (hF_o5_2_2 : o5.2.2 = F0) : ∀ (n : Nat) (v17_l2 : Int32) (v17_l1 : Int32), KP (f_X10_bestBait_L17 p_p n_n o5 n v17_l2 v17_l1) (fun (r : Int32 × TX10_x) => ¬ r.2.1 = (4 : Int32) ∧ r.2.2 = F0) := by
  intro n
  induction n with
  | zero =>
    intro v17_l2 v17_l1 
    exact kp_o
  | succ n ih =>
    intro v17_l2 v17_l1 
    rw [f_X10_bestBait_L17]
    refine kp_i ?_ ?_
    · skip
      exact kp_s ⟨hN_o5_2_1, hF_o5_2_2⟩
    · skip
      refine kp_b0 (fun o30 => ?_)
      refine kp_b0 (fun o35 => ?_)
      refine kp_i ?_ ?_
      · skip
        exact (kp_f_X10_bestBait_J43 ih)
      · skip
        exact (kp_f_X10_bestBait_J43 ih)
theorem kp_f_X10_bestBait {F0 : Int32} {x_x : TX10_x} {p_p : TX6_p} {n_n : TX4_n} (hF_x_x_2 : x_x.2 = F0) : KP (f_X10_bestBait x_x p_p n_n) (fun (r : Int32 × TX10_x) => ¬ r.2.1 = (4 : Int32) ∧ r.2.2 = F0) := by
  unfold f_X10_bestBait
  refine kp_n (kp_f_X10_pierTrouble ) (fun o2 h1 => ?_)
  refine kp_n (kp_f_X10_refused h1 hF_x_x_2) (fun o5 h2 => ?_)
  refine kp_i ?_ ?_
  · skip
    exact (kp_f_X10_bestBait_L17 h2.1 h2.2.1 h2.2.2 FU _ _ )
  · skip
    exact kp_s ⟨h2.2.1, h2.2.2⟩
theorem kp_f_X10_hungerFor_L30 {F0 : Int32} {k1 : Int32} {p_p : TX6_p} {o10 : (Int32 × TX10_x)} {o22 : Int32} (hN_o10_1 : ¬ o10.1 = (4 : Int32)) (hN_o10_2_1 : ¬ o10.2.1 = (4 : Int32)) (hF_o10_2_2 : o10.2.2 = F0) : ∀ (n : Nat) (v30_l6 : Int32), KP (f_X10_hungerFor_L30 k1 p_p o10 o22 n v30_l6) (fun (r : Int32 × TX10_x) => ¬ r.2.1 = (4 : Int32) ∧ r.2.2 = F0) := by
  intro n
  induction n with
  | zero =>
    intro v30_l6 
    exact kp_o
  | succ n ih =>
    intro v30_l6 
    rw [f_X10_hungerFor_L30]
    refine kp_i ?_ ?_
    · skip
      exact kp_s ⟨hN_o10_2_1, hF_o10_2_2⟩
    · skip
      refine kp_b0 (fun o46 => ?_)
      refine kp_i ?_ ?_
      · skip
        exact ih _ 
      · skip
        exact kp_s ⟨hN_o10_2_1, hF_o10_2_2⟩
theorem kp_f_X10_hungerFor {F0 : Int32} {k1 : Int32} {k2 : Int32} {k3 : Int32} {k4 : Int32} {x_x : TX10_x} {p_p : TX6_p} (hF_x_x_2 : x_x.2 = F0) : KP (f_X10_hungerFor k1 k2 k3 k4 x_x p_p) (fun (r : Int32 × TX10_x) => ¬ r.2.1 = (4 : Int32) ∧ r.2.2 = F0) := by
  unfold f_X10_hungerFor
  refine kp_n (kp_f_X10_wishTrouble ) (fun o7 h1 => ?_)
  refine kp_n (kp_f_X10_refused h1 hF_x_x_2) (fun o10 h2 => ?_)
  refine kp_i ?_ ?_
  · skip
    refine kp_n0 (fun o22 => ?_)
    exact (kp_f_X10_hungerFor_L30 h2.1 h2.2.1 h2.2.2 FU _ )
  · skip
    exact kp_s ⟨h2.2.1, h2.2.2⟩
theorem kp_f_X10_freeSpots_J51 {F0 : Int32} {k18_ : Int32 → Int32 → Option (Int32 × TX10_x)} {v18_l3 : Int32} {v51_l2 : Int32} (hk18 : ∀ (v18_l3 : Int32) (v18_l2 : Int32), KP (k18_ v18_l3 v18_l2) (fun (r : Int32 × TX10_x) => ¬ r.2.1 = (4 : Int32) ∧ r.2.2 = F0)) : KP (f_X10_freeSpots_J51 k18_ v18_l3 v51_l2) (fun (r : Int32 × TX10_x) => ¬ r.2.1 = (4 : Int32) ∧ r.2.2 = F0) := by
  unfold f_X10_freeSpots_J51
  exact hk18 _ _ 
theorem kp_f_X10_freeSpots_L18 {F0 : Int32} {k1 : Int32} {p_p : TX6_p} {n_n : TX4_n} {o6 : (Int32 × TX10_x)} (hN_o6_1 : ¬ o6.1 = (4 : Int32)) (hN_o6_2_1 : ¬ o6.2.1 = (4 : Int32)) (hF_o6_2_2 : o6.2.2 = F0) : ∀ (n : Nat) (v18_l3 : Int32) (v18_l2 : Int32), KP (f_X10_freeSpots_L18 k1 p_p n_n o6 n v18_l3 v18_l2) (fun (r : Int32 × TX10_x) => ¬ r.2.1 = (4 : Int32) ∧ r.2.2 = F0) := by
  intro n
  induction n with
  | zero =>
    intro v18_l3 v18_l2 
    exact kp_o
  | succ n ih =>
    intro v18_l3 v18_l2 
    rw [f_X10_freeSpots_L18]
    refine kp_i ?_ ?_
    · skip
      exact kp_s ⟨hN_o6_2_1, hF_o6_2_2⟩
    · skip
      refine kp_b (kp_f_X4_isTangled ) (fun o39 h1 => ?_)
      refine kp_i ?_ ?_
      · skip
        exact (kp_f_X10_freeSpots_J51 ih)
      · skip
        exact (kp_f_X10_freeSpots_J51 ih)
theorem kp_f_X10_freeSpots {F0 : Int32} {k1 : Int32} {x_x : TX10_x} {p_p : TX6_p} {n_n : TX4_n} (hF_x_x_2 : x_x.2 = F0) : KP (f_X10_freeSpots k1 x_x p_p n_n) (fun (r : Int32 × TX10_x) => ¬ r.2.1 = (4 : Int32) ∧ r.2.2 = F0) := by
  unfold f_X10_freeSpots
  refine kp_n (kp_f_X10_askerTrouble ) (fun o3 h1 => ?_)
  refine kp_n (kp_f_X10_refused h1 hF_x_x_2) (fun o6 h2 => ?_)
  refine kp_i ?_ ?_
  · skip
    exact (kp_f_X10_freeSpots_L18 h2.1 h2.2.1 h2.2.2 FU _ _ )
  · skip
    exact kp_s ⟨h2.2.1, h2.2.2⟩
theorem kp_f_X10_tangles_J68 {F0 : Int32} {k1 : Int32} {k2 : Int32} {k3 : Int32} {k4 : Int32} {x_x : TX10_x} {p_p : TX6_p} {v68_t1 : Int32} (hF_x_x_2 : x_x.2 = F0) (hN_v68_t1 : ¬ v68_t1 = (4 : Int32)) : KP (f_X10_tangles_J68 k1 k2 k3 k4 x_x p_p v68_t1) (fun (r : Int32 × TX10_x) => ¬ r.1 = (4 : Int32) ∧ ¬ r.2.1 = (4 : Int32) ∧ r.2.2 = F0) := by
  unfold f_X10_tangles_J68
  refine kp_n (kp_f_X10_refused hN_v68_t1 hF_x_x_2) (fun o68 h1 => ?_)
  refine kp_i ?_ ?_
  · skip
    refine kp_b (kp_f_X6_isTangle ) (fun o85 h2 => ?_)
    refine kp_i ?_ ?_
    · skip
      exact kp_s ⟨(show ¬ (0 : Int32) = 4 by decide), h1.2.1, h1.2.2⟩
    · skip
      exact kp_s ⟨(show ¬ (1 : Int32) = 4 by decide), h1.2.1, h1.2.2⟩
  · skip
    exact kp_s ⟨(show ¬ (-1 : Int32) = 4 by decide), h1.2.1, h1.2.2⟩
theorem kp_f_X10_tangles_J55 {F0 : Int32} {k1 : Int32} {k2 : Int32} {k3 : Int32} {k4 : Int32} {x_x : TX10_x} {p_p : TX6_p} {v55_t0 : Int32} (hF_x_x_2 : x_x.2 = F0) (hN_v55_t0 : ¬ v55_t0 = (4 : Int32)) : KP (f_X10_tangles_J55 k1 k2 k3 k4 x_x p_p v55_t0) (fun (r : Int32 × TX10_x) => ¬ r.1 = (4 : Int32) ∧ ¬ r.2.1 = (4 : Int32) ∧ r.2.2 = F0) := by
  unfold f_X10_tangles_J55
  refine kp_i ?_ ?_
  · skip
    exact (kp_f_X10_tangles_J68 hF_x_x_2 (show ¬ (1 : Int32) = 4 by decide))
  · skip
    exact (kp_f_X10_tangles_J68 hF_x_x_2 (show ¬ (0 : Int32) = 4 by decide))
theorem kp_f_X10_tangles_J54 {F0 : Int32} {k1 : Int32} {k2 : Int32} {k3 : Int32} {k4 : Int32} {x_x : TX10_x} {p_p : TX6_p} (hF_x_x_2 : x_x.2 = F0) : KP (f_X10_tangles_J54 k1 k2 k3 k4 x_x p_p) (fun (r : Int32 × TX10_x) => ¬ r.1 = (4 : Int32) ∧ ¬ r.2.1 = (4 : Int32) ∧ r.2.2 = F0) := by
  unfold f_X10_tangles_J54
  exact (kp_f_X10_tangles_J55 hF_x_x_2 (show ¬ (0 : Int32) = 4 by decide))
theorem kp_f_X10_tangles {F0 : Int32} {k1 : Int32} {k2 : Int32} {k3 : Int32} {k4 : Int32} {x_x : TX10_x} {p_p : TX6_p} (hF_x_x_2 : x_x.2 = F0) : KP (f_X10_tangles k1 k2 k3 k4 x_x p_p) (fun (r : Int32 × TX10_x) => ¬ r.1 = (4 : Int32) ∧ ¬ r.2.1 = (4 : Int32) ∧ r.2.2 = F0) := by
  unfold f_X10_tangles
  refine kp_n (kp_f_X6_hasAsker ) (fun o5 h1 => ?_)
  refine kp_i ?_ ?_
  · skip
    exact (kp_f_X10_tangles_J54 hF_x_x_2)
  · skip
    refine kp_n (kp_f_X6_hasAsker ) (fun o16 h2 => ?_)
    refine kp_i ?_ ?_
    · skip
      exact (kp_f_X10_tangles_J54 hF_x_x_2)
    · skip
      refine kp_i ?_ ?_
      · skip
        exact (kp_f_X10_tangles_J54 hF_x_x_2)
      · skip
        refine kp_n (kp_f_X6_hasSpot ) (fun o32 h3 => ?_)
        refine kp_i ?_ ?_
        · skip
          exact (kp_f_X10_tangles_J54 hF_x_x_2)
        · skip
          refine kp_n (kp_f_X6_hasSpot ) (fun o44 h4 => ?_)
          refine kp_i ?_ ?_
          · skip
            exact (kp_f_X10_tangles_J54 hF_x_x_2)
          · skip
            exact (kp_f_X10_tangles_J55 hF_x_x_2 (show ¬ (1 : Int32) = 4 by decide))
theorem kp_f_X8_isFree_J40 {k3_ : Int32 → Option Int32} {v3_l4 : Int32} (hk3 : ∀ (v3_l4 : Int32), KP (k3_ v3_l4) (fun (r : Int32) => ¬ r = (4 : Int32))) : KP (f_X8_isFree_J40 k3_ v3_l4) (fun (r : Int32) => ¬ r = (4 : Int32)) := by
  unfold f_X8_isFree_J40
  exact hk3 _ 
theorem kp_f_X8_isFree_L3 {k2 : Int32} {k3 : Int32} {s_s : TX8_s} {p_p : TX6_p} : ∀ (n : Nat) (v3_l4 : Int32), KP (f_X8_isFree_L3 k2 k3 s_s p_p n v3_l4) (fun (r : Int32) => ¬ r = (4 : Int32)) := by
  intro n
  induction n with
  | zero =>
    intro v3_l4 
    exact kp_o
  | succ n ih =>
    intro v3_l4 
    rw [f_X8_isFree_L3]
    refine kp_i ?_ ?_
    · skip
      exact kp_s (show ¬ (1 : Int32) = 4 by decide)
    · skip
      refine kp_gA ?_
      refine kp_i ?_ ?_
      · skip
        exact (kp_f_X8_isFree_J40 ih)
      · skip
        refine kp_gA ?_
        refine kp_b (kp_f_X6_isTangle ) (fun o32 h1 => ?_)
        refine kp_i ?_ ?_
        · skip
          exact (kp_f_X8_isFree_J40 ih)
        · skip
          exact kp_s (show ¬ (0 : Int32) = 4 by decide)
theorem kp_f_X8_isFree {k2 : Int32} {k3 : Int32} {s_s : TX8_s} {p_p : TX6_p} : KP (f_X8_isFree k2 k3 s_s p_p) (fun (r : Int32) => ¬ r = (4 : Int32)) := by
  unfold f_X8_isFree
  exact (kp_f_X8_isFree_L3  FU _ )
theorem kp_f_X10_seatings_J26 {F0 : Int32} {x_x : TX10_x} {p_p : TX6_p} {s_s : TX8_s} {v26_t1 : Int32} (hF_x_x_2 : x_x.2 = F0) (hN_v26_t1 : ¬ v26_t1 = (4 : Int32)) : KP (f_X10_seatings_J26 x_x p_p s_s v26_t1) (fun (r : Int32 × TX10_x × TX8_s) => ¬ r.2.1.1 = (4 : Int32) ∧ r.2.1.2 = F0) := by
  unfold f_X10_seatings_J26
  refine kp_n (kp_f_X10_refused hN_v26_t1 hF_x_x_2) (fun o26 h1 => ?_)
  refine kp_i ?_ ?_
  · skip
    refine kp_n0 (fun o43 => ?_)
    refine kp_b0 (fun o49 => ?_)
    exact kp_s ⟨h1.2.1, h1.2.2⟩
  · skip
    exact kp_s ⟨h1.2.1, h1.2.2⟩
theorem kp_f_X10_seatings_J25 {F0 : Int32} {x_x : TX10_x} {p_p : TX6_p} {s_s : TX8_s} {o1 : Int32} (hF_x_x_2 : x_x.2 = F0) (hN_o1 : ¬ o1 = (4 : Int32)) : KP (f_X10_seatings_J25 x_x p_p s_s o1) (fun (r : Int32 × TX10_x × TX8_s) => ¬ r.2.1.1 = (4 : Int32) ∧ r.2.1.2 = F0) := by
  unfold f_X10_seatings_J25
  exact (kp_f_X10_seatings_J26 hF_x_x_2 hN_o1)
theorem kp_f_X10_seatings {F0 : Int32} {x_x : TX10_x} {p_p : TX6_p} {s_s : TX8_s} (hF_x_x_2 : x_x.2 = F0) : KP (f_X10_seatings x_x p_p s_s) (fun (r : Int32 × TX10_x × TX8_s) => ¬ r.2.1.1 = (4 : Int32) ∧ r.2.1.2 = F0) := by
  unfold f_X10_seatings
  refine kp_n (kp_f_X10_pierTrouble ) (fun o1 h1 => ?_)
  refine kp_i ?_ ?_
  · skip
    refine kp_i ?_ ?_
    · skip
      exact (kp_f_X10_seatings_J26 hF_x_x_2 (show ¬ (6 : Int32) = 4 by decide))
    · skip
      exact (kp_f_X10_seatings_J25 hF_x_x_2 h1)
  · skip
    exact (kp_f_X10_seatings_J25 hF_x_x_2 h1)
theorem kp_f_X10_seat {F0 : Int32} {k1 : Int32} {x_x : TX10_x} {p_p : TX6_p} {s_s : TX8_s} (hF_x_x_2 : x_x.2 = F0) : KP (f_X10_seat k1 x_x p_p s_s) (fun (r : Int32 × TX10_x × TX8_s) => ¬ r.2.1.1 = (4 : Int32) ∧ r.2.1.2 = F0) := by
  unfold f_X10_seat
  refine kp_n (kp_f_X10_askerTrouble ) (fun o3 h1 => ?_)
  refine kp_n (kp_f_X10_refused h1 hF_x_x_2) (fun o6 h2 => ?_)
  refine kp_i ?_ ?_
  · skip
    refine kp_n0 (fun o23 => ?_)
    refine kp_b0 (fun o27 => ?_)
    refine kp_i ?_ ?_
    · skip
      exact kp_s ⟨h2.2.1, h2.2.2⟩
    · skip
      refine kp_gA ?_
      exact kp_s ⟨h2.2.1, h2.2.2⟩
  · skip
    exact kp_s ⟨h2.2.1, h2.2.2⟩
theorem kp_f_X10_mostSeated_J54 {F0 : Int32} {k17_ : Int32 → Int32 → TX8_s → Option (Int32 × TX10_x × TX8_s)} {v17_l2 : Int32} {v54_s_s : TX8_s} {v54_l1 : Int32} (hk17 : ∀ (v17_l2 : Int32) (v17_l1 : Int32) (v17_s_s : TX8_s), KP (k17_ v17_l2 v17_l1 v17_s_s) (fun (r : Int32 × TX10_x × TX8_s) => ¬ r.2.1.1 = (4 : Int32) ∧ r.2.1.2 = F0)) : KP (f_X10_mostSeated_J54 k17_ v17_l2 v54_s_s v54_l1) (fun (r : Int32 × TX10_x × TX8_s) => ¬ r.2.1.1 = (4 : Int32) ∧ r.2.1.2 = F0) := by
  unfold f_X10_mostSeated_J54
  exact hk17 _ _ _ 
theorem kp_f_X10_mostSeated_L17 {F0 : Int32} {p_p : TX6_p} {o5 : (Int32 × TX10_x)} (hN_o5_1 : ¬ o5.1 = (4 : Int32)) (hN_o5_2_1 : ¬ o5.2.1 = (4 : Int32)) (hF_o5_2_2 : o5.2.2 = F0) : ∀ (n : Nat) (v17_l2 : Int32) (v17_l1 : Int32) (v17_s_s : TX8_s), KP (f_X10_mostSeated_L17 p_p o5 n v17_l2 v17_l1 v17_s_s) (fun (r : Int32 × TX10_x × TX8_s) => ¬ r.2.1.1 = (4 : Int32) ∧ r.2.1.2 = F0) := by
  intro n
  induction n with
  | zero =>
    intro v17_l2 v17_l1 v17_s_s 
    exact kp_o
  | succ n ih =>
    intro v17_l2 v17_l1 v17_s_s 
    rw [f_X10_mostSeated_L17]
    refine kp_n0 (fun o19 => ?_)
    refine kp_i ?_ ?_
    · skip
      exact kp_s ⟨hN_o5_2_1, hF_o5_2_2⟩
    · skip
      refine kp_n0 (fun o26 => ?_)
      refine kp_n0 (fun o30 => ?_)
      refine kp_i ?_ ?_
      · skip
        exact (kp_f_X10_mostSeated_J54 ih)
      · skip
        refine kp_b0 (fun o46 => ?_)
        refine kp_i ?_ ?_
        · skip
          exact (kp_f_X10_mostSeated_J54 ih)
        · skip
          exact (kp_f_X10_mostSeated_J54 ih)
theorem kp_f_X10_mostSeated {F0 : Int32} {x_x : TX10_x} {p_p : TX6_p} {s_s : TX8_s} (hF_x_x_2 : x_x.2 = F0) : KP (f_X10_mostSeated x_x p_p s_s) (fun (r : Int32 × TX10_x × TX8_s) => ¬ r.2.1.1 = (4 : Int32) ∧ r.2.1.2 = F0) := by
  unfold f_X10_mostSeated
  refine kp_n (kp_f_X10_pierTrouble ) (fun o2 h1 => ?_)
  refine kp_n (kp_f_X10_refused h1 hF_x_x_2) (fun o5 h2 => ?_)
  refine kp_i ?_ ?_
  · skip
    exact (kp_f_X10_mostSeated_L17 h2.1 h2.2.1 h2.2.2 FU _ _ _ )
  · skip
    exact kp_s ⟨h2.2.1, h2.2.2⟩
theorem kp_f_X10_darkTrouble_J25 {o1 : Int32} (hN_o1 : ¬ o1 = (4 : Int32)) : KV (f_X10_darkTrouble_J25 o1) (fun (r : Int32) => ¬ r = (4 : Int32)) := by
  unfold f_X10_darkTrouble_J25
  exact kv_s hN_o1
theorem kp_f_X10_darkTrouble {p_p : TX6_p} : KV (f_X10_darkTrouble p_p) (fun (r : Int32) => ¬ r = (4 : Int32)) := by
  unfold f_X10_darkTrouble
  refine kv_n (kp_f_X10_pierTrouble ) (fun o1 h1 => ?_)
  refine kv_i ?_ ?_
  · skip
    refine kv_i ?_ ?_
    · skip
      exact kv_s (show ¬ (6 : Int32) = 4 by decide)
    · skip
      exact (kp_f_X10_darkTrouble_J25 h1)
  · skip
    exact (kp_f_X10_darkTrouble_J25 h1)
theorem kp_f_X0_wouldBite_J18 {k0 : Int32} {k1 : Int32} {k2 : Int32} {v18_t1 : Int32} (hN_v18_t1 : ¬ v18_t1 = (4 : Int32)) : KV (f_X0_wouldBite_J18 k0 k1 k2 v18_t1) (fun (r : Int32) => ¬ r = (4 : Int32)) := by
  unfold f_X0_wouldBite_J18
  refine kv_n0 (fun o22 => ?_)
  refine kv_n0 (fun o26 => ?_)
  refine kv_n0 (fun z30 => ?_)
  refine kv_n0 (fun o38 => ?_)
  refine kv_n0 (fun o42 => ?_)
  refine kv_n0 (fun z46 => ?_)
  refine kv_n0 (fun z50 => ?_)
  refine kv_i ?_ ?_
  · skip
    exact kv_s (show ¬ (0 : Int32) = 4 by decide)
  · skip
    exact kv_s (show ¬ (1 : Int32) = 4 by decide)
theorem kp_f_X0_wouldBite {k0 : Int32} {k1 : Int32} {k2 : Int32} : KV (f_X0_wouldBite k0 k1 k2) (fun (r : Int32) => ¬ r = (4 : Int32)) := by
  unfold f_X0_wouldBite
  refine kv_n0 (fun o2 => ?_)
  refine kv_n0 (fun o6 => ?_)
  refine kv_i ?_ ?_
  · skip
    exact (kp_f_X0_wouldBite_J18 (show ¬ (20 : Int32) = 4 by decide))
  · skip
    exact (kp_f_X0_wouldBite_J18 (show ¬ (0 : Int32) = 4 by decide))
theorem kp_f_X0_isAsTold_L2 {k1 : Int32} {p_p : TX6_p} : ∀ (n : Nat) (v2_l2 : Int32), KP (f_X0_isAsTold_L2 k1 p_p n v2_l2) (fun (r : Int32) => ¬ r = (4 : Int32)) := by
  intro n
  induction n with
  | zero =>
    intro v2_l2 
    exact kp_o
  | succ n ih =>
    intro v2_l2 
    rw [f_X0_isAsTold_L2]
    refine kp_i ?_ ?_
    · skip
      exact kp_s (show ¬ (1 : Int32) = 4 by decide)
    · skip
      refine kp_gA ?_
      refine kp_n0 (fun z20 => ?_)
      refine kp_n (kp_f_X0_wouldBite ) (fun o21 h1 => ?_)
      refine kp_gA ?_
      refine kp_n0 (fun z29 => ?_)
      refine kp_i ?_ ?_
      · skip
        exact ih _ 
      · skip
        exact kp_s (show ¬ (0 : Int32) = 4 by decide)
theorem kp_f_X0_isAsTold {k1 : Int32} {p_p : TX6_p} : KP (f_X0_isAsTold k1 p_p) (fun (r : Int32) => ¬ r = (4 : Int32)) := by
  unfold f_X0_isAsTold
  exact (kp_f_X0_isAsTold_L2  FU _ )
theorem kp_f_X10_darks {F0 : Int32} {x_x : TX10_x} {p_p : TX6_p} {d_d : TX0_d} (hF_x_x_2 : x_x.2 = F0) : KP (f_X10_darks x_x p_p d_d) (fun (r : Int32 × TX10_x × TX0_d) => ¬ r.2.1.1 = (4 : Int32) ∧ r.2.1.2 = F0) := by
  unfold f_X10_darks
  refine kp_n (kp_f_X10_darkTrouble ) (fun o2 h1 => ?_)
  refine kp_n (kp_f_X10_refused h1 hF_x_x_2) (fun o5 h2 => ?_)
  refine kp_i ?_ ?_
  · skip
    refine kp_b0 (fun o21 => ?_)
    exact kp_s ⟨h2.2.1, h2.2.2⟩
  · skip
    exact kp_s ⟨h2.2.1, h2.2.2⟩
theorem kp_f_X10_darkAt_J47 {F0 : Int32} {k1 : Int32} {o21 : TX0_d} {o5 : (Int32 × TX10_x)} {v47_t1 : Int32} (hN_o5_1 : ¬ o5.1 = (4 : Int32)) (hN_o5_2_1 : ¬ o5.2.1 = (4 : Int32)) (hF_o5_2_2 : o5.2.2 = F0) (hN_v47_t1 : ¬ v47_t1 = (4 : Int32)) : KP (f_X10_darkAt_J47 k1 o21 o5 v47_t1) (fun (r : Int32 × TX10_x × TX0_d) => ¬ r.2.1.1 = (4 : Int32) ∧ r.2.1.2 = F0) := by
  unfold f_X10_darkAt_J47
  refine kp_n (kp_f_X10_refused hN_v47_t1 hF_o5_2_2) (fun o47 h1 => ?_)
  refine kp_i ?_ ?_
  · skip
    refine kp_gA ?_
    exact kp_s ⟨h1.2.1, h1.2.2⟩
  · skip
    exact kp_s ⟨h1.2.1, h1.2.2⟩
theorem kp_f_X10_darkAt {F0 : Int32} {k1 : Int32} {x_x : TX10_x} {p_p : TX6_p} {d_d : TX0_d} (hF_x_x_2 : x_x.2 = F0) : KP (f_X10_darkAt k1 x_x p_p d_d) (fun (r : Int32 × TX10_x × TX0_d) => ¬ r.2.1.1 = (4 : Int32) ∧ r.2.1.2 = F0) := by
  unfold f_X10_darkAt
  refine kp_n (kp_f_X10_darkTrouble ) (fun o2 h1 => ?_)
  refine kp_n (kp_f_X10_refused h1 hF_x_x_2) (fun o5 h2 => ?_)
  refine kp_i ?_ ?_
  · skip
    refine kp_b0 (fun o21 => ?_)
    refine kp_n (kp_f_X10_within ) (fun o36 h3 => ?_)
    refine kp_i ?_ ?_
    · skip
      exact (kp_f_X10_darkAt_J47 h2.1 h2.2.1 h2.2.2 (show ¬ (1 : Int32) = 4 by decide))
    · skip
      exact (kp_f_X10_darkAt_J47 h2.1 h2.2.1 h2.2.2 (show ¬ (0 : Int32) = 4 by decide))
  · skip
    exact kp_s ⟨h2.2.1, h2.2.2⟩
theorem kp_f_X10_darkSpots_L28 {F0 : Int32} {o21 : TX0_d} {o5 : (Int32 × TX10_x)} (hN_o5_1 : ¬ o5.1 = (4 : Int32)) (hN_o5_2_1 : ¬ o5.2.1 = (4 : Int32)) (hF_o5_2_2 : o5.2.2 = F0) : ∀ (n : Nat) (v28_l2 : Int32) (v28_l1 : Int32), KP (f_X10_darkSpots_L28 o21 o5 n v28_l2 v28_l1) (fun (r : Int32 × TX10_x × TX0_d) => ¬ r.2.1.1 = (4 : Int32) ∧ r.2.1.2 = F0) := by
  intro n
  induction n with
  | zero =>
    intro v28_l2 v28_l1 
    exact kp_o
  | succ n ih =>
    intro v28_l2 v28_l1 
    rw [f_X10_darkSpots_L28]
    refine kp_i ?_ ?_
    · skip
      exact kp_s ⟨hN_o5_2_1, hF_o5_2_2⟩
    · skip
      refine kp_gA ?_
      refine kp_n0 (fun o50 => ?_)
      exact ih _ _ 
theorem kp_f_X10_darkSpots {F0 : Int32} {x_x : TX10_x} {p_p : TX6_p} {d_d : TX0_d} (hF_x_x_2 : x_x.2 = F0) : KP (f_X10_darkSpots x_x p_p d_d) (fun (r : Int32 × TX10_x × TX0_d) => ¬ r.2.1.1 = (4 : Int32) ∧ r.2.1.2 = F0) := by
  unfold f_X10_darkSpots
  refine kp_n (kp_f_X10_darkTrouble ) (fun o2 h1 => ?_)
  refine kp_n (kp_f_X10_refused h1 hF_x_x_2) (fun o5 h2 => ?_)
  refine kp_i ?_ ?_
  · skip
    refine kp_b0 (fun o21 => ?_)
    exact (kp_f_X10_darkSpots_L28 h2.1 h2.2.1 h2.2.2 FU _ _ )
  · skip
    exact kp_s ⟨h2.2.1, h2.2.2⟩
theorem kp_f_X10_ask {F0 : Int32} {x_x : TX10_x} {p_p : TX6_p} {d_d : TX0_d} (hF_x_x_2 : x_x.2 = F0) : KP (f_X10_ask x_x p_p d_d) (fun (r : Int32 × TX10_x × TX0_d) => ¬ r.2.1.1 = (4 : Int32) ∧ r.2.1.2 = F0) := by
  unfold f_X10_ask
  refine kp_n (kp_f_X10_darkTrouble ) (fun o2 h1 => ?_)
  refine kp_n (kp_f_X10_refused h1 hF_x_x_2) (fun o5 h2 => ?_)
  refine kp_i ?_ ?_
  · skip
    refine kp_b0 (fun o21 => ?_)
    refine kp_b0 (fun o32 => ?_)
    exact kp_s ⟨h2.2.1, h2.2.2⟩
  · skip
    exact kp_s ⟨h2.2.1, h2.2.2⟩
theorem kp_f_X10_askLeaves {F0 : Int32} {x_x : TX10_x} {p_p : TX6_p} {d_d : TX0_d} (hF_x_x_2 : x_x.2 = F0) : KP (f_X10_askLeaves x_x p_p d_d) (fun (r : Int32 × TX10_x × TX0_d) => ¬ r.2.1.1 = (4 : Int32) ∧ r.2.1.2 = F0) := by
  unfold f_X10_askLeaves
  refine kp_n (kp_f_X10_darkTrouble ) (fun o2 h1 => ?_)
  refine kp_n (kp_f_X10_refused h1 hF_x_x_2) (fun o5 h2 => ?_)
  refine kp_i ?_ ?_
  · skip
    refine kp_b0 (fun o21 => ?_)
    refine kp_b0 (fun o32 => ?_)
    refine kp_i ?_ ?_
    · skip
      exact kp_s ⟨h2.2.1, h2.2.2⟩
    · skip
      refine kp_b0 (fun o56 => ?_)
      exact kp_s ⟨h2.2.1, h2.2.2⟩
  · skip
    exact kp_s ⟨h2.2.1, h2.2.2⟩
theorem kp_f_X10_judge_J74 {F0 : Int32} {p_p : TX6_p} {k29_ : Int32 → Option (Int32 × TX10_x)} {o19 : (Int32 × TX10_x)} {v29_l3 : Int32} {v74_t0 : Int32} (hk29 : ∀ (v29_l3 : Int32), KP (k29_ v29_l3) (fun (r : Int32 × TX10_x) => ¬ r.2.1 = (4 : Int32) ∧ r.2.2 = F0)) (hN_o19_1 : ¬ o19.1 = (4 : Int32)) (hN_o19_2_1 : ¬ o19.2.1 = (4 : Int32)) (hF_o19_2_2 : o19.2.2 = F0) (hN_v74_t0 : ¬ v74_t0 = (4 : Int32)) : KP (f_X10_judge_J74 p_p k29_ o19 v29_l3 v74_t0) (fun (r : Int32 × TX10_x) => ¬ r.2.1 = (4 : Int32) ∧ r.2.2 = F0) := by
  unfold f_X10_judge_J74
  refine kp_gA ?_
  refine kp_n0 (fun z86 => ?_)
  refine kp_i ?_ ?_
  · skip
    exact hk29 _ 
  · skip
    exact kp_s ⟨hN_o19_2_1, hF_o19_2_2⟩
theorem kp_f_X10_judge_L29 {F0 : Int32} {k1 : Int32} {p_p : TX6_p} {o19 : (Int32 × TX10_x)} (hN_o19_1 : ¬ o19.1 = (4 : Int32)) (hN_o19_2_1 : ¬ o19.2.1 = (4 : Int32)) (hF_o19_2_2 : o19.2.2 = F0) : ∀ (n : Nat) (v29_l3 : Int32), KP (f_X10_judge_L29 k1 p_p o19 n v29_l3) (fun (r : Int32 × TX10_x) => ¬ r.2.1 = (4 : Int32) ∧ r.2.2 = F0) := by
  intro n
  induction n with
  | zero =>
    intro v29_l3 
    exact kp_o
  | succ n ih =>
    intro v29_l3 
    rw [f_X10_judge_L29]
    refine kp_i ?_ ?_
    · skip
      exact kp_s ⟨hN_o19_2_1, hF_o19_2_2⟩
    · skip
      refine kp_gA ?_
      refine kp_n0 (fun z60 => ?_)
      refine kp_b0 (fun o61 => ?_)
      refine kp_i ?_ ?_
      · skip
        exact (kp_f_X10_judge_J74 ih hN_o19_1 hN_o19_2_1 hF_o19_2_2 (show ¬ (0 : Int32) = 4 by decide))
      · skip
        exact (kp_f_X10_judge_J74 ih hN_o19_1 hN_o19_2_1 hF_o19_2_2 (show ¬ (1 : Int32) = 4 by decide))
theorem kp_f_X10_judge_J19 {F0 : Int32} {k1 : Int32} {x_x : TX10_x} {p_p : TX6_p} {v19_t1 : Int32} (hF_x_x_2 : x_x.2 = F0) (hN_v19_t1 : ¬ v19_t1 = (4 : Int32)) : KP (f_X10_judge_J19 k1 x_x p_p v19_t1) (fun (r : Int32 × TX10_x) => ¬ r.2.1 = (4 : Int32) ∧ r.2.2 = F0) := by
  unfold f_X10_judge_J19
  refine kp_n (kp_f_X10_refused hN_v19_t1 hF_x_x_2) (fun o19 h1 => ?_)
  refine kp_i ?_ ?_
  · skip
    exact (kp_f_X10_judge_L29 h1.1 h1.2.1 h1.2.2 FU _ )
  · skip
    exact kp_s ⟨h1.2.1, h1.2.2⟩
theorem kp_f_X10_judge {F0 : Int32} {k1 : Int32} {x_x : TX10_x} {p_p : TX6_p} (hF_x_x_2 : x_x.2 = F0) : KP (f_X10_judge k1 x_x p_p) (fun (r : Int32 × TX10_x) => ¬ r.2.1 = (4 : Int32) ∧ r.2.2 = F0) := by
  unfold f_X10_judge
  refine kp_n (kp_f_X10_answerTrouble ) (fun o2 h1 => ?_)
  refine kp_i ?_ ?_
  · skip
    refine kp_n (kp_f_X10_darkTrouble ) (fun o12 h2 => ?_)
    exact (kp_f_X10_judge_J19 hF_x_x_2 h2)
  · skip
    exact (kp_f_X10_judge_J19 hF_x_x_2 h1)
theorem kp_f_X10_worth_J53 {F0 : Int32} {k1 : Int32} {k2 : Int32} {k3 : Int32} {x_x : TX10_x} {p_p : TX6_p} {v53_t1 : Int32} (hF_x_x_2 : x_x.2 = F0) (hN_v53_t1 : ¬ v53_t1 = (4 : Int32)) : KP (f_X10_worth_J53 k1 k2 k3 x_x p_p v53_t1) (fun (r : Int32 × TX10_x) => ¬ r.2.1 = (4 : Int32) ∧ r.2.2 = F0) := by
  unfold f_X10_worth_J53
  refine kp_n (kp_f_X10_refused hN_v53_t1 hF_x_x_2) (fun o53 h1 => ?_)
  refine kp_i ?_ ?_
  · skip
    refine kp_b0 (fun o69 => ?_)
    exact kp_s ⟨h1.2.1, h1.2.2⟩
  · skip
    exact kp_s ⟨h1.2.1, h1.2.2⟩
theorem kp_f_X10_worth_J51 {F0 : Int32} {k1 : Int32} {k2 : Int32} {k3 : Int32} {x_x : TX10_x} {p_p : TX6_p} {o2 : Int32} (hF_x_x_2 : x_x.2 = F0) (hN_o2 : ¬ o2 = (4 : Int32)) : KP (f_X10_worth_J51 k1 k2 k3 x_x p_p o2) (fun (r : Int32 × TX10_x) => ¬ r.2.1 = (4 : Int32) ∧ r.2.2 = F0) := by
  unfold f_X10_worth_J51
  exact (kp_f_X10_worth_J53 hF_x_x_2 hN_o2)
theorem kp_f_X10_worth_J34 {F0 : Int32} {k1 : Int32} {k2 : Int32} {k3 : Int32} {x_x : TX10_x} {p_p : TX6_p} {o2 : Int32} {v34_t0 : Int32} (hF_x_x_2 : x_x.2 = F0) (hN_o2 : ¬ o2 = (4 : Int32)) (hN_v34_t0 : ¬ v34_t0 = (4 : Int32)) : KP (f_X10_worth_J34 k1 k2 k3 x_x p_p o2 v34_t0) (fun (r : Int32 × TX10_x) => ¬ r.2.1 = (4 : Int32) ∧ r.2.2 = F0) := by
  unfold f_X10_worth_J34
  refine kp_i ?_ ?_
  · skip
    refine kp_i ?_ ?_
    · skip
      exact (kp_f_X10_worth_J53 hF_x_x_2 (show ¬ (2 : Int32) = 4 by decide))
    · skip
      exact (kp_f_X10_worth_J51 hF_x_x_2 hN_o2)
  · skip
    exact (kp_f_X10_worth_J51 hF_x_x_2 hN_o2)
theorem kp_f_X10_worth_J33 {F0 : Int32} {k1 : Int32} {k2 : Int32} {k3 : Int32} {x_x : TX10_x} {p_p : TX6_p} {o2 : Int32} (hF_x_x_2 : x_x.2 = F0) (hN_o2 : ¬ o2 = (4 : Int32)) : KP (f_X10_worth_J33 k1 k2 k3 x_x p_p o2) (fun (r : Int32 × TX10_x) => ¬ r.2.1 = (4 : Int32) ∧ r.2.2 = F0) := by
  unfold f_X10_worth_J33
  exact (kp_f_X10_worth_J34 hF_x_x_2 hN_o2 (show ¬ (0 : Int32) = 4 by decide))
theorem kp_f_X10_worth {F0 : Int32} {k1 : Int32} {k2 : Int32} {k3 : Int32} {x_x : TX10_x} {p_p : TX6_p} (hF_x_x_2 : x_x.2 = F0) : KP (f_X10_worth k1 k2 k3 x_x p_p) (fun (r : Int32 × TX10_x) => ¬ r.2.1 = (4 : Int32) ∧ r.2.2 = F0) := by
  unfold f_X10_worth
  refine kp_n (kp_f_X10_answerTrouble ) (fun o2 h1 => ?_)
  refine kp_n (kp_f_X10_within ) (fun o12 h2 => ?_)
  refine kp_i ?_ ?_
  · skip
    exact (kp_f_X10_worth_J33 hF_x_x_2 h1)
  · skip
    refine kp_n (kp_f_X10_within ) (fun o23 h3 => ?_)
    refine kp_i ?_ ?_
    · skip
      exact (kp_f_X10_worth_J33 hF_x_x_2 h1)
    · skip
      exact (kp_f_X10_worth_J34 hF_x_x_2 h1 (show ¬ (1 : Int32) = 4 by decide))
theorem kp_f_X10_load {F0 : Int32} {k1 : Int32} {x_x : TX10_x} {p_p : TX6_p} {n_n : TX4_n} (hF_x_x_2 : x_x.2 = F0) : KP (f_X10_load k1 x_x p_p n_n) (fun (r : Int32 × TX10_x) => ¬ r.2.1 = (4 : Int32) ∧ r.2.2 = F0) := by
  unfold f_X10_load
  refine kp_n (kp_f_X10_within ) (fun o6 h1 => ?_)
  refine kp_n (kp_f_X10_numberTrouble h1) (fun o9 h2 => ?_)
  refine kp_n (kp_f_X10_refused h2 hF_x_x_2) (fun o12 h3 => ?_)
  refine kp_i ?_ ?_
  · skip
    refine kp_b0 (fun o29 => ?_)
    exact kp_s ⟨h3.2.1, h3.2.2⟩
  · skip
    exact kp_s ⟨h3.2.1, h3.2.2⟩
theorem kp_f_X10_loadWorth {F0 : Int32} {k1 : Int32} {x_x : TX10_x} {p_p : TX6_p} {n_n : TX4_n} (hF_x_x_2 : x_x.2 = F0) : KP (f_X10_loadWorth k1 x_x p_p n_n) (fun (r : Int32 × TX10_x) => ¬ r.2.1 = (4 : Int32) ∧ r.2.2 = F0) := by
  unfold f_X10_loadWorth
  refine kp_n (kp_f_X10_within ) (fun o6 h1 => ?_)
  refine kp_n (kp_f_X10_numberTrouble h1) (fun o9 h2 => ?_)
  refine kp_n (kp_f_X10_refused h2 hF_x_x_2) (fun o12 h3 => ?_)
  refine kp_i ?_ ?_
  · skip
    refine kp_b0 (fun o37 => ?_)
    refine kp_b0 (fun o47 => ?_)
    exact kp_s ⟨h3.2.1, h3.2.2⟩
  · skip
    exact kp_s ⟨h3.2.1, h3.2.2⟩
theorem kp_f_X10_bestDay_J93 {F0 : Int32} {k50_ : Int32 → Int32 → Int32 → Option (Int32 × TX10_x)} {v50_l4 : Int32} {v93_l3 : Int32} {v93_l2 : Int32} (hk50 : ∀ (v50_l4 : Int32) (v50_l3 : Int32) (v50_l2 : Int32), KP (k50_ v50_l4 v50_l3 v50_l2) (fun (r : Int32 × TX10_x) => ¬ r.2.1 = (4 : Int32) ∧ r.2.2 = F0)) : KP (f_X10_bestDay_J93 k50_ v50_l4 v93_l3 v93_l2) (fun (r : Int32 × TX10_x) => ¬ r.2.1 = (4 : Int32) ∧ r.2.2 = F0) := by
  unfold f_X10_bestDay_J93
  exact hk50 _ _ _ 
theorem kp_f_X10_bestDay_L50 {F0 : Int32} {p_p : TX6_p} {n_n : TX4_n} {o21 : Int32} {o5 : (Int32 × TX10_x)} (hN_o5_1 : ¬ o5.1 = (4 : Int32)) (hN_o5_2_1 : ¬ o5.2.1 = (4 : Int32)) (hF_o5_2_2 : o5.2.2 = F0) : ∀ (n : Nat) (v50_l4 : Int32) (v50_l3 : Int32) (v50_l2 : Int32), KP (f_X10_bestDay_L50 p_p n_n o21 o5 n v50_l4 v50_l3 v50_l2) (fun (r : Int32 × TX10_x) => ¬ r.2.1 = (4 : Int32) ∧ r.2.2 = F0) := by
  intro n
  induction n with
  | zero =>
    intro v50_l4 v50_l3 v50_l2 
    exact kp_o
  | succ n ih =>
    intro v50_l4 v50_l3 v50_l2 
    rw [f_X10_bestDay_L50]
    refine kp_i ?_ ?_
    · skip
      exact kp_s ⟨hN_o5_2_1, hF_o5_2_2⟩
    · skip
      refine kp_b0 (fun o76 => ?_)
      refine kp_i ?_ ?_
      · skip
        exact (kp_f_X10_bestDay_J93 ih)
      · skip
        exact (kp_f_X10_bestDay_J93 ih)
theorem kp_f_X10_bestDay {F0 : Int32} {x_x : TX10_x} {p_p : TX6_p} {n_n : TX4_n} (hF_x_x_2 : x_x.2 = F0) : KP (f_X10_bestDay x_x p_p n_n) (fun (r : Int32 × TX10_x) => ¬ r.2.1 = (4 : Int32) ∧ r.2.2 = F0) := by
  unfold f_X10_bestDay
  refine kp_n (kp_f_X10_pierTrouble ) (fun o2 h1 => ?_)
  refine kp_n (kp_f_X10_refused h1 hF_x_x_2) (fun o5 h2 => ?_)
  refine kp_i ?_ ?_
  · skip
    refine kp_b0 (fun o21 => ?_)
    refine kp_b0 (fun o43 => ?_)
    exact (kp_f_X10_bestDay_L50 h2.1 h2.2.1 h2.2.2 FU _ _ _ )
  · skip
    exact kp_s ⟨h2.2.1, h2.2.2⟩
theorem kp_f_X10_hooksTrouble_J80 : KP (f_X10_hooksTrouble_J80) (fun (r : Int32) => ¬ r = (4 : Int32)) := by
  unfold f_X10_hooksTrouble_J80
  exact kp_s (show ¬ (5 : Int32) = 4 by decide)
theorem kp_f_X10_hooksTrouble {k1 : Int32} {k2 : Int32} {k3 : Int32} {k4 : Int32} {p_p : TX6_p} {n_n : TX4_n} : KP (f_X10_hooksTrouble k1 k2 k3 k4 p_p n_n) (fun (r : Int32) => ¬ r = (4 : Int32)) := by
  unfold f_X10_hooksTrouble
  refine kp_n (kp_f_X6_hasAnswer ) (fun o5 h1 => ?_)
  refine kp_i ?_ ?_
  · skip
    exact kp_s (show ¬ (1 : Int32) = 4 by decide)
  · skip
    refine kp_n (kp_f_X6_hasAsker ) (fun o16 h2 => ?_)
    refine kp_i ?_ ?_
    · skip
      exact kp_s (show ¬ (1 : Int32) = 4 by decide)
    · skip
      refine kp_n (kp_f_X6_hasAsker ) (fun o27 h3 => ?_)
      refine kp_i ?_ ?_
      · skip
        exact kp_s (show ¬ (1 : Int32) = 4 by decide)
      · skip
        refine kp_i ?_ ?_
        · skip
          exact kp_s (show ¬ (1 : Int32) = 4 by decide)
        · skip
          refine kp_n (kp_f_X10_within ) (fun o46 h4 => ?_)
          refine kp_i ?_ ?_
          · skip
            exact kp_s (show ¬ (2 : Int32) = 4 by decide)
          · skip
            refine kp_gA ?_
            refine kp_i ?_ ?_
            · skip
              exact (kp_f_X10_hooksTrouble_J80 )
            · skip
              refine kp_gA ?_
              refine kp_i ?_ ?_
              · skip
                exact (kp_f_X10_hooksTrouble_J80 )
              · skip
                exact kp_s (show ¬ (0 : Int32) = 4 by decide)
theorem kp_f_X10_hooks {F0 : Int32} {k1 : Int32} {k2 : Int32} {k3 : Int32} {k4 : Int32} {k5 : Int32} {x_x : TX10_x} {p_p : TX6_p} {n_n : TX4_n} (hF_x_x_2 : x_x.2 = F0) : KP (f_X10_hooks k1 k2 k3 k4 k5 x_x p_p n_n) (fun (r : Int32 × TX10_x) => ¬ r.2.1 = (4 : Int32) ∧ r.2.2 = F0) := by
  unfold f_X10_hooks
  refine kp_b (kp_f_X10_hooksTrouble ) (fun o7 h1 => ?_)
  refine kp_n (kp_f_X10_refused h1 hF_x_x_2) (fun o10 h2 => ?_)
  refine kp_i ?_ ?_
  · skip
    refine kp_gA ?_
    refine kp_b0 (fun o32 => ?_)
    refine kp_gA ?_
    refine kp_b0 (fun o51 => ?_)
    refine kp_i ?_ ?_
    · skip
      exact kp_s ⟨h2.2.1, h2.2.2⟩
    · skip
      refine kp_gZi ?_
      refine kp_gZi ?_
      refine kp_n0 (fun z97 => ?_)
      refine kp_i ?_ ?_
      · skip
        refine kp_i ?_ ?_
        · skip
          exact kp_s ⟨h2.2.1, h2.2.2⟩
        · skip
          exact kp_s ⟨h2.2.1, h2.2.2⟩
      · skip
        refine kp_i ?_ ?_
        · skip
          exact kp_s ⟨h2.2.1, h2.2.2⟩
        · skip
          exact kp_s ⟨h2.2.1, h2.2.2⟩
  · skip
    exact kp_s ⟨h2.2.1, h2.2.2⟩
theorem kp_f_X10_lines_J35 {F0 : Int32} {k1 : Int32} {k2 : Int32} {k3 : Int32} {k4 : Int32} {x_x : TX10_x} {p_p : TX6_p} {v35_t0 : Int32} (hF_x_x_2 : x_x.2 = F0) (hN_v35_t0 : ¬ v35_t0 = (4 : Int32)) : KP (f_X10_lines_J35 k1 k2 k3 k4 x_x p_p v35_t0) (fun (r : Int32 × TX10_x) => ¬ r.2.1 = (4 : Int32) ∧ r.2.2 = F0) := by
  unfold f_X10_lines_J35
  refine kp_n (kp_f_X10_numberTrouble hN_v35_t0) (fun o41 h1 => ?_)
  refine kp_n (kp_f_X10_refused h1 hF_x_x_2) (fun o44 h2 => ?_)
  refine kp_i ?_ ?_
  · skip
    refine kp_i ?_ ?_
    · skip
      refine kp_b0 (fun o70 => ?_)
      exact kp_s ⟨h2.2.1, h2.2.2⟩
    · skip
      refine kp_b0 (fun o61 => ?_)
      exact kp_s ⟨h2.2.1, h2.2.2⟩
  · skip
    exact kp_s ⟨h2.2.1, h2.2.2⟩
theorem kp_f_X10_lines_J34 {F0 : Int32} {k1 : Int32} {k2 : Int32} {k3 : Int32} {k4 : Int32} {x_x : TX10_x} {p_p : TX6_p} (hF_x_x_2 : x_x.2 = F0) : KP (f_X10_lines_J34 k1 k2 k3 k4 x_x p_p) (fun (r : Int32 × TX10_x) => ¬ r.2.1 = (4 : Int32) ∧ r.2.2 = F0) := by
  unfold f_X10_lines_J34
  exact (kp_f_X10_lines_J35 hF_x_x_2 (show ¬ (0 : Int32) = 4 by decide))
theorem kp_f_X10_lines {F0 : Int32} {k1 : Int32} {k2 : Int32} {k3 : Int32} {k4 : Int32} {x_x : TX10_x} {p_p : TX6_p} (hF_x_x_2 : x_x.2 = F0) : KP (f_X10_lines k1 k2 k3 k4 x_x p_p) (fun (r : Int32 × TX10_x) => ¬ r.2.1 = (4 : Int32) ∧ r.2.2 = F0) := by
  unfold f_X10_lines
  refine kp_n (kp_f_X10_within ) (fun o4 h1 => ?_)
  refine kp_i ?_ ?_
  · skip
    exact (kp_f_X10_lines_J34 hF_x_x_2)
  · skip
    refine kp_n (kp_f_X10_within ) (fun o14 h2 => ?_)
    refine kp_i ?_ ?_
    · skip
      exact (kp_f_X10_lines_J34 hF_x_x_2)
    · skip
      refine kp_n (kp_f_X10_within ) (fun o24 h3 => ?_)
      refine kp_i ?_ ?_
      · skip
        exact (kp_f_X10_lines_J34 hF_x_x_2)
      · skip
        exact (kp_f_X10_lines_J35 hF_x_x_2 (show ¬ (1 : Int32) = 4 by decide))
theorem kp_f_X9_isBestAlone_L2 {k0 : Int32} {k1 : Int32} {k2 : Int32} : ∀ (n : Nat) (v2_l3 : Int32), KP (f_X9_isBestAlone_L2 k0 k1 k2 n v2_l3) (fun (r : Int32) => ¬ r = (4 : Int32)) := by
  intro n
  induction n with
  | zero =>
    intro v2_l3 
    exact kp_o
  | succ n ih =>
    intro v2_l3 
    rw [f_X9_isBestAlone_L2]
    refine kp_i ?_ ?_
    · skip
      exact kp_s (show ¬ (1 : Int32) = 4 by decide)
    · skip
      refine kp_b0 (fun o11 => ?_)
      refine kp_b0 (fun o17 => ?_)
      refine kp_i ?_ ?_
      · skip
        exact ih _ 
      · skip
        exact kp_s (show ¬ (0 : Int32) = 4 by decide)
theorem kp_f_X9_isBestAlone {k0 : Int32} {k1 : Int32} {k2 : Int32} : KP (f_X9_isBestAlone k0 k1 k2) (fun (r : Int32) => ¬ r = (4 : Int32)) := by
  unfold f_X9_isBestAlone
  exact (kp_f_X9_isBestAlone_L2  FU _ )
theorem kp_f_X9_isRest {k0 : Int32} {k1 : Int32} : KP (f_X9_isRest k0 k1) (fun (r : Int32) => ¬ r = (4 : Int32)) := by
  unfold f_X9_isRest
  refine kp_i ?_ ?_
  · skip
    exact kp_s (show ¬ (0 : Int32) = 4 by decide)
  · skip
    refine kp_b (kp_f_X9_isBestAlone ) (fun o19 h1 => ?_)
    refine kp_i ?_ ?_
    · skip
      exact kp_s (show ¬ (0 : Int32) = 4 by decide)
    · skip
      refine kp_b (kp_f_X9_isBestAlone ) (fun o28 h2 => ?_)
      refine kp_i ?_ ?_
      · skip
        exact kp_s (show ¬ (0 : Int32) = 4 by decide)
      · skip
        exact kp_s (show ¬ (1 : Int32) = 4 by decide)
theorem kp_f_X10_rests_J41 {F0 : Int32} {k24_ : Int32 → Int32 → Option (Int32 × TX10_x)} {v24_l3 : Int32} {v41_l2 : Int32} (hk24 : ∀ (v24_l3 : Int32) (v24_l2 : Int32), KP (k24_ v24_l3 v24_l2) (fun (r : Int32 × TX10_x) => ¬ r.2.1 = (4 : Int32) ∧ r.2.2 = F0)) : KP (f_X10_rests_J41 k24_ v24_l3 v41_l2) (fun (r : Int32 × TX10_x) => ¬ r.2.1 = (4 : Int32) ∧ r.2.2 = F0) := by
  unfold f_X10_rests_J41
  exact hk24 _ _ 
theorem kp_f_X10_rests_L24 {F0 : Int32} {k1 : Int32} {o12 : (Int32 × TX10_x)} (hN_o12_1 : ¬ o12.1 = (4 : Int32)) (hN_o12_2_1 : ¬ o12.2.1 = (4 : Int32)) (hF_o12_2_2 : o12.2.2 = F0) : ∀ (n : Nat) (v24_l3 : Int32) (v24_l2 : Int32), KP (f_X10_rests_L24 k1 o12 n v24_l3 v24_l2) (fun (r : Int32 × TX10_x) => ¬ r.2.1 = (4 : Int32) ∧ r.2.2 = F0) := by
  intro n
  induction n with
  | zero =>
    intro v24_l3 v24_l2 
    exact kp_o
  | succ n ih =>
    intro v24_l3 v24_l2 
    rw [f_X10_rests_L24]
    refine kp_i ?_ ?_
    · skip
      exact kp_s ⟨hN_o12_2_1, hF_o12_2_2⟩
    · skip
      refine kp_b (kp_f_X9_isRest ) (fun o32 h1 => ?_)
      refine kp_i ?_ ?_
      · skip
        exact (kp_f_X10_rests_J41 ih)
      · skip
        exact (kp_f_X10_rests_J41 ih)
theorem kp_f_X10_rests {F0 : Int32} {k1 : Int32} {x_x : TX10_x} {p_p : TX6_p} (hF_x_x_2 : x_x.2 = F0) : KP (f_X10_rests k1 x_x p_p) (fun (r : Int32 × TX10_x) => ¬ r.2.1 = (4 : Int32) ∧ r.2.2 = F0) := by
  unfold f_X10_rests
  refine kp_n (kp_f_X10_within ) (fun o6 h1 => ?_)
  refine kp_n (kp_f_X10_numberTrouble h1) (fun o9 h2 => ?_)
  refine kp_n (kp_f_X10_refused h2 hF_x_x_2) (fun o12 h3 => ?_)
  refine kp_i ?_ ?_
  · skip
    exact (kp_f_X10_rests_L24 h3.1 h3.2.1 h3.2.2 FU _ _ )
  · skip
    exact kp_s ⟨h3.2.1, h3.2.2⟩
theorem kp_f_X10_rest_L22 {F0 : Int32} {k1 : Int32} {o12 : (Int32 × TX10_x)} (hN_o12_1 : ¬ o12.1 = (4 : Int32)) (hN_o12_2_1 : ¬ o12.2.1 = (4 : Int32)) (hF_o12_2_2 : o12.2.2 = F0) : ∀ (n : Nat) (v22_l2 : Int32), KP (f_X10_rest_L22 k1 o12 n v22_l2) (fun (r : Int32 × TX10_x) => ¬ r.2.1 = (4 : Int32) ∧ r.2.2 = F0) := by
  intro n
  induction n with
  | zero =>
    intro v22_l2 
    exact kp_o
  | succ n ih =>
    intro v22_l2 
    rw [f_X10_rest_L22]
    refine kp_i ?_ ?_
    · skip
      exact kp_s ⟨hN_o12_2_1, hF_o12_2_2⟩
    · skip
      refine kp_b (kp_f_X9_isRest ) (fun o30 h1 => ?_)
      refine kp_i ?_ ?_
      · skip
        exact ih _ 
      · skip
        exact kp_s ⟨hN_o12_2_1, hF_o12_2_2⟩
theorem kp_f_X10_rest {F0 : Int32} {k1 : Int32} {x_x : TX10_x} {p_p : TX6_p} (hF_x_x_2 : x_x.2 = F0) : KP (f_X10_rest k1 x_x p_p) (fun (r : Int32 × TX10_x) => ¬ r.2.1 = (4 : Int32) ∧ r.2.2 = F0) := by
  unfold f_X10_rest
  refine kp_n (kp_f_X10_within ) (fun o6 h1 => ?_)
  refine kp_n (kp_f_X10_numberTrouble h1) (fun o9 h2 => ?_)
  refine kp_n (kp_f_X10_refused h2 hF_x_x_2) (fun o12 h3 => ?_)
  refine kp_i ?_ ?_
  · skip
    exact (kp_f_X10_rest_L22 h3.1 h3.2.1 h3.2.2 FU _ )
  · skip
    exact kp_s ⟨h3.2.1, h3.2.2⟩
theorem kp_f_X10_isForecast {k0 : Int32} {k1 : Int32} : KV (f_X10_isForecast k0 k1) (fun (r : Int32) => ¬ r = (4 : Int32)) := by
  unfold f_X10_isForecast
  refine kv_n (kp_f_X10_within ) (fun o5 h1 => ?_)
  refine kv_i ?_ ?_
  · skip
    exact kv_s (show ¬ (0 : Int32) = 4 by decide)
  · skip
    refine kv_n (kp_f_X10_within ) (fun o15 h2 => ?_)
    refine kv_i ?_ ?_
    · skip
      exact kv_s (show ¬ (0 : Int32) = 4 by decide)
    · skip
      exact kv_s (show ¬ (1 : Int32) = 4 by decide)
theorem kp_f_X10_landed {F0 : Int32} {k1 : Int32} {k2 : Int32} {x_x : TX10_x} {p_p : TX6_p} {n_n : TX4_n} {y_y : TX1_y} {n2_n : TX4_n} (hF_x_x_2 : x_x.2 = F0) : KP (f_X10_landed k1 k2 x_x p_p n_n y_y n2_n) (fun (r : Int32 × TX10_x × TX1_y × TX4_n) => ¬ r.2.1.1 = (4 : Int32) ∧ r.2.1.2 = F0) := by
  unfold f_X10_landed
  refine kp_n (kp_f_X10_isForecast ) (fun o4 h1 => ?_)
  refine kp_n (kp_f_X10_numberTrouble h1) (fun o7 h2 => ?_)
  refine kp_n (kp_f_X10_refused h2 hF_x_x_2) (fun o10 h3 => ?_)
  refine kp_i ?_ ?_
  · skip
    refine kp_b0 (fun o32 => ?_)
    exact kp_s ⟨h3.2.1, h3.2.2⟩
  · skip
    exact kp_s ⟨h3.2.1, h3.2.2⟩
theorem kp_f_X10_landedIn_J27 {F0 : Int32} {k1 : Int32} {k2 : Int32} {k3 : Int32} {x_x : TX10_x} {p_p : TX6_p} {n_n : TX4_n} {y_y : TX1_y} {n2_n : TX4_n} {v27_t1 : Int32} (hF_x_x_2 : x_x.2 = F0) (hN_v27_t1 : ¬ v27_t1 = (4 : Int32)) : KP (f_X10_landedIn_J27 k1 k2 k3 x_x p_p n_n y_y n2_n v27_t1) (fun (r : Int32 × TX10_x × TX1_y × TX4_n) => ¬ r.2.1.1 = (4 : Int32) ∧ r.2.1.2 = F0) := by
  unfold f_X10_landedIn_J27
  refine kp_n (kp_f_X10_refused hN_v27_t1 hF_x_x_2) (fun o27 h1 => ?_)
  refine kp_i ?_ ?_
  · skip
    refine kp_b0 (fun o49 => ?_)
    refine kp_gA ?_
    exact kp_s ⟨h1.2.1, h1.2.2⟩
  · skip
    exact kp_s ⟨h1.2.1, h1.2.2⟩
theorem kp_f_X10_landedIn {F0 : Int32} {k1 : Int32} {k2 : Int32} {k3 : Int32} {x_x : TX10_x} {p_p : TX6_p} {n_n : TX4_n} {y_y : TX1_y} {n2_n : TX4_n} (hF_x_x_2 : x_x.2 = F0) : KP (f_X10_landedIn k1 k2 k3 x_x p_p n_n y_y n2_n) (fun (r : Int32 × TX10_x × TX1_y × TX4_n) => ¬ r.2.1.1 = (4 : Int32) ∧ r.2.1.2 = F0) := by
  unfold f_X10_landedIn
  refine kp_n (kp_f_X10_answerTrouble ) (fun o2 h1 => ?_)
  refine kp_i ?_ ?_
  · skip
    refine kp_n (kp_f_X10_isForecast ) (fun o16 h2 => ?_)
    refine kp_n (kp_f_X10_numberTrouble h2) (fun o19 h3 => ?_)
    exact (kp_f_X10_landedIn_J27 hF_x_x_2 h3)
  · skip
    exact (kp_f_X10_landedIn_J27 hF_x_x_2 h1)
theorem kp_f_X10_crabs {F0 : Int32} {k1 : Int32} {k2 : Int32} {x_x : TX10_x} {p_p : TX6_p} {n_n : TX4_n} {y_y : TX1_y} {n2_n : TX4_n} (hF_x_x_2 : x_x.2 = F0) : KP (f_X10_crabs k1 k2 x_x p_p n_n y_y n2_n) (fun (r : Int32 × TX10_x × TX1_y × TX4_n) => ¬ r.2.1.1 = (4 : Int32) ∧ r.2.1.2 = F0) := by
  unfold f_X10_crabs
  refine kp_n (kp_f_X10_isForecast ) (fun o4 h1 => ?_)
  refine kp_n (kp_f_X10_numberTrouble h1) (fun o7 h2 => ?_)
  refine kp_n (kp_f_X10_refused h2 hF_x_x_2) (fun o10 h3 => ?_)
  refine kp_i ?_ ?_
  · skip
    refine kp_b0 (fun o32 => ?_)
    exact kp_s ⟨h3.2.1, h3.2.2⟩
  · skip
    exact kp_s ⟨h3.2.1, h3.2.2⟩
theorem kp_f_X12_led_J51 {F0 : Int32} {k9_ : Int32 → Int32 → Option (Int32 × TX12_t)} {v9_l3 : Int32} {v51_l2 : Int32} (hk9 : ∀ (v9_l3 : Int32) (v9_l2 : Int32), KP (k9_ v9_l3 v9_l2) (fun (r : Int32 × TX12_t) => ¬ r.2.1 = (4 : Int32) ∧ r.2.2.2 = F0)) : KP (f_X12_led_J51 k9_ v9_l3 v51_l2) (fun (r : Int32 × TX12_t) => ¬ r.2.1 = (4 : Int32) ∧ r.2.2.2 = F0) := by
  unfold f_X12_led_J51
  exact hk9 _ _ 
theorem kp_f_X12_led_L9 {F0 : Int32} {k1 : Int32} {m_t : TX12_t} {m_v : TX12_v} {q_q : TX11_q} (hF_m_t_2_2 : m_t.2.2 = F0) : ∀ (n : Nat) (v9_l3 : Int32) (v9_l2 : Int32), KP (f_X12_led_L9 k1 m_t m_v q_q n v9_l3 v9_l2) (fun (r : Int32 × TX12_t) => ¬ r.2.1 = (4 : Int32) ∧ r.2.2.2 = F0) := by
  intro n
  induction n with
  | zero =>
    intro v9_l3 v9_l2 
    exact kp_o
  | succ n ih =>
    intro v9_l3 v9_l2 
    rw [f_X12_led_L9]
    refine kp_i ?_ ?_
    · skip
      exact kp_s ⟨(show ¬ (1 : Int32) = 4 by decide), hF_m_t_2_2⟩
    · skip
      refine kp_gA ?_
      refine kp_i ?_ ?_
      · skip
        exact (kp_f_X12_led_J51 ih)
      · skip
        refine kp_i ?_ ?_
        · skip
          exact kp_s ⟨(show ¬ (0 : Int32) = 4 by decide), hF_m_t_2_2⟩
        · skip
          exact (kp_f_X12_led_J51 ih)
theorem kp_f_X12_led {F0 : Int32} {k1 : Int32} {m_t : TX12_t} {m_v : TX12_v} {q_q : TX11_q} (hF_m_t_2_2 : m_t.2.2 = F0) : KP (f_X12_led k1 m_t m_v q_q) (fun (r : Int32 × TX12_t) => ¬ r.2.1 = (4 : Int32) ∧ r.2.2.2 = F0) := by
  unfold f_X12_led
  exact (kp_f_X12_led_L9 hF_m_t_2_2 FU _ _ )
theorem kp_f_X12_led_nul {F0 : Int32} {k1 : Int32} {m_t : TX12_t} (hF_m_t_2_2 : m_t.2.2 = F0) : KP (f_X12_led_nul k1 m_t) (fun (r : TX12_t) => ¬ r.1 = (4 : Int32) ∧ r.2.2 = F0) := by
  unfold f_X12_led_nul
  exact kp_s ⟨(show ¬ (1 : Int32) = 4 by decide), hF_m_t_2_2⟩
