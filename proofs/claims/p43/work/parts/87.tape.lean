/-! the tape, and reading it: class and reference side by side -/
abbrev TR7 : Type := Int32 × Int32 × Int32 × Int32 × Int32 × (Nat → Int64) × (Nat → Int32) × Int32 × Int32 × Int32
abbrev TS12 : Type := Int32 × Int32 × Int32 × Int32 × Int32 × Int32 × Int32 × Int64
def bt (k v : Int32) : Int32 := vp_nar .byte ((k >>> (v &&& 31))).toInt8.toInt32
def w4 (T : Nat → Int32) (f : Nat) (k : Int32) : Nat → Int32 := upd (upd (upd (upd T f (bt k 24)) (f + 1) (bt k 16)) (f + 2) (bt k 8)) (f + 3) (bt k 0)
theorem byt_bt (k v : Int32) : byt (bt k v) := by
  unfold bt byt
  rw [vp_nar_byte, Int8.toInt_toInt32]
  have h1 := Int8.le_toInt ((k >>> (v &&& 31)).toInt8.toInt32.toInt8)
  have h2 := Int8.toInt_lt ((k >>> (v &&& 31)).toInt8.toInt32.toInt8)
  omega
theorem byt_upd {T : Nat → Int32} {f : Nat} {x : Int32} (hT : ∀ j, byt (T j)) (hx : byt x) : ∀ j, byt (upd T f x j) := by
  intro j
  unfold upd
  by_cases h : j = f
  · rw [if_pos h]
    exact hx
  · rw [if_neg h]
    exact hT j
theorem byt_w4 {T : Nat → Int32} {f : Nat} {k : Int32} (hT : ∀ j, byt (T j)) : ∀ j, byt (w4 T f k j) := byt_upd (byt_upd (byt_upd (byt_upd hT (byt_bt _ _)) (byt_bt _ _)) (byt_bt _ _)) (byt_bt _ _)
theorem put_step {k v : Int32} {n f : Nat} {T : Nat → Int32} {tl : TR7} (hv : ¬ v < 0) (hf : f < 900) : f_X7_put_L3 k (n + 1) v (T, nI f, tl) = f_X7_put_L3 k n (v + (-8)) (upd T f (bt k v), nI (f + 1), tl) := by
  rw [f_X7_put_L3, if_neg hv, if_neg (show ¬ (900 : Int32) ≤ nI f from nI_ge (b := 900) hf (by omega)), gA_in (vin hf (by omega))]
  show f_X7_put_L3 k n (v + (-8)) (upd T (nI f).toNatClampNeg (bt k v), nI f + 1, tl) = _
  rw [nI_clamp (by omega), nIs]
theorem put_ok {k : Int32} {f : Nat} {T : Nat → Int32} {tl : TR7} (hf : f + 4 ≤ 900) : f_X7_put k (T, nI f, tl) = some (w4 T f k, nI (f + 4), tl) := by
  rw [f_X7_put, show FU = 999995 + 1 + 1 + 1 + 1 + 1 from rfl, put_step (by decide) (by omega), show (24 : Int32) + (-8) = 16 by decide, put_step (by decide) (by omega), show (16 : Int32) + (-8) = 8 by decide, put_step (by decide) (by omega), show (8 : Int32) + (-8) = 0 by decide, put_step (by decide) (by omega), show (0 : Int32) + (-8) = -8 by decide, f_X7_put_L3, if_pos (by decide)]
  rfl
theorem fm_J {K : Int32 → TX12_s → Option (Int32 × TX12_t × TX12_s)} {v t0 : Int32} {f : Nat} {T : Nat → Int32} {ts : TS12} (hf : f < 900) : f_X12_feed_J76 K v (T, nI f, ts) t0 = K (v + 1) (upd T f (bt t0 (24 - 8 * (v - v / 4 * 4))), nI (f + 1), ts) := by
  rw [f_X12_feed_J76, nm, gA_in (vin hf (by omega))]
  show K (v + 1) (upd T (nI f).toNatClampNeg (bt t0 (24 - 8 * (v - v / 4 * 4))), nI f + 1, ts) = _
  rw [nI_clamp (by omega), nIs]
section FEEDM
variable {k1 k2 k3 k4 k5 : Int32} {t : TX12_t} {n f : Nat} {T : Nat → Int32} {ts : TS12}
theorem fm_0 (hf : f < 900) : f_X12_feed_L23 k1 k2 k3 k4 k5 t (n + 1) 0 (T, nI f, ts) = f_X12_feed_L23 k1 k2 k3 k4 k5 t n 1 (upd T f (bt k1 24), nI (f + 1), ts) := by
  rw [f_X12_feed_L23, if_neg (show ¬ (20 : Int32) ≤ 0 by decide), if_neg (show ¬ (4 : Int32) ≤ 0 by decide), fm_J hf, show (0 : Int32) + 1 = 1 by decide, show (24 : Int32) - 8 * (0 - 0 / 4 * 4) = 24 by decide]
theorem fm_1 (hf : f < 900) : f_X12_feed_L23 k1 k2 k3 k4 k5 t (n + 1) 1 (T, nI f, ts) = f_X12_feed_L23 k1 k2 k3 k4 k5 t n 2 (upd T f (bt k1 16), nI (f + 1), ts) := by
  rw [f_X12_feed_L23, if_neg (show ¬ (20 : Int32) ≤ 1 by decide), if_neg (show ¬ (4 : Int32) ≤ 1 by decide), fm_J hf, show (1 : Int32) + 1 = 2 by decide, show (24 : Int32) - 8 * (1 - 1 / 4 * 4) = 16 by decide]
theorem fm_2 (hf : f < 900) : f_X12_feed_L23 k1 k2 k3 k4 k5 t (n + 1) 2 (T, nI f, ts) = f_X12_feed_L23 k1 k2 k3 k4 k5 t n 3 (upd T f (bt k1 8), nI (f + 1), ts) := by
  rw [f_X12_feed_L23, if_neg (show ¬ (20 : Int32) ≤ 2 by decide), if_neg (show ¬ (4 : Int32) ≤ 2 by decide), fm_J hf, show (2 : Int32) + 1 = 3 by decide, show (24 : Int32) - 8 * (2 - 2 / 4 * 4) = 8 by decide]
theorem fm_3 (hf : f < 900) : f_X12_feed_L23 k1 k2 k3 k4 k5 t (n + 1) 3 (T, nI f, ts) = f_X12_feed_L23 k1 k2 k3 k4 k5 t n 4 (upd T f (bt k1 0), nI (f + 1), ts) := by
  rw [f_X12_feed_L23, if_neg (show ¬ (20 : Int32) ≤ 3 by decide), if_neg (show ¬ (4 : Int32) ≤ 3 by decide), fm_J hf, show (3 : Int32) + 1 = 4 by decide, show (24 : Int32) - 8 * (3 - 3 / 4 * 4) = 0 by decide]
theorem fm_4 (hf : f < 900) : f_X12_feed_L23 k1 k2 k3 k4 k5 t (n + 1) 4 (T, nI f, ts) = f_X12_feed_L23 k1 k2 k3 k4 k5 t n 5 (upd T f (bt k2 24), nI (f + 1), ts) := by
  rw [f_X12_feed_L23, if_neg (show ¬ (20 : Int32) ≤ 4 by decide), if_pos (show (4 : Int32) ≤ 4 by decide), if_neg (show ¬ (8 : Int32) ≤ 4 by decide), fm_J hf, show (4 : Int32) + 1 = 5 by decide, show (24 : Int32) - 8 * (4 - 4 / 4 * 4) = 24 by decide]
theorem fm_5 (hf : f < 900) : f_X12_feed_L23 k1 k2 k3 k4 k5 t (n + 1) 5 (T, nI f, ts) = f_X12_feed_L23 k1 k2 k3 k4 k5 t n 6 (upd T f (bt k2 16), nI (f + 1), ts) := by
  rw [f_X12_feed_L23, if_neg (show ¬ (20 : Int32) ≤ 5 by decide), if_pos (show (4 : Int32) ≤ 5 by decide), if_neg (show ¬ (8 : Int32) ≤ 5 by decide), fm_J hf, show (5 : Int32) + 1 = 6 by decide, show (24 : Int32) - 8 * (5 - 5 / 4 * 4) = 16 by decide]
theorem fm_6 (hf : f < 900) : f_X12_feed_L23 k1 k2 k3 k4 k5 t (n + 1) 6 (T, nI f, ts) = f_X12_feed_L23 k1 k2 k3 k4 k5 t n 7 (upd T f (bt k2 8), nI (f + 1), ts) := by
  rw [f_X12_feed_L23, if_neg (show ¬ (20 : Int32) ≤ 6 by decide), if_pos (show (4 : Int32) ≤ 6 by decide), if_neg (show ¬ (8 : Int32) ≤ 6 by decide), fm_J hf, show (6 : Int32) + 1 = 7 by decide, show (24 : Int32) - 8 * (6 - 6 / 4 * 4) = 8 by decide]
theorem fm_7 (hf : f < 900) : f_X12_feed_L23 k1 k2 k3 k4 k5 t (n + 1) 7 (T, nI f, ts) = f_X12_feed_L23 k1 k2 k3 k4 k5 t n 8 (upd T f (bt k2 0), nI (f + 1), ts) := by
  rw [f_X12_feed_L23, if_neg (show ¬ (20 : Int32) ≤ 7 by decide), if_pos (show (4 : Int32) ≤ 7 by decide), if_neg (show ¬ (8 : Int32) ≤ 7 by decide), fm_J hf, show (7 : Int32) + 1 = 8 by decide, show (24 : Int32) - 8 * (7 - 7 / 4 * 4) = 0 by decide]
theorem fm_8 (hf : f < 900) : f_X12_feed_L23 k1 k2 k3 k4 k5 t (n + 1) 8 (T, nI f, ts) = f_X12_feed_L23 k1 k2 k3 k4 k5 t n 9 (upd T f (bt k3 24), nI (f + 1), ts) := by
  rw [f_X12_feed_L23, if_neg (show ¬ (20 : Int32) ≤ 8 by decide), if_pos (show (4 : Int32) ≤ 8 by decide), if_pos (show (8 : Int32) ≤ 8 by decide), if_neg (show ¬ (12 : Int32) ≤ 8 by decide), fm_J hf, show (8 : Int32) + 1 = 9 by decide, show (24 : Int32) - 8 * (8 - 8 / 4 * 4) = 24 by decide]
theorem fm_9 (hf : f < 900) : f_X12_feed_L23 k1 k2 k3 k4 k5 t (n + 1) 9 (T, nI f, ts) = f_X12_feed_L23 k1 k2 k3 k4 k5 t n 10 (upd T f (bt k3 16), nI (f + 1), ts) := by
  rw [f_X12_feed_L23, if_neg (show ¬ (20 : Int32) ≤ 9 by decide), if_pos (show (4 : Int32) ≤ 9 by decide), if_pos (show (8 : Int32) ≤ 9 by decide), if_neg (show ¬ (12 : Int32) ≤ 9 by decide), fm_J hf, show (9 : Int32) + 1 = 10 by decide, show (24 : Int32) - 8 * (9 - 9 / 4 * 4) = 16 by decide]
theorem fm_10 (hf : f < 900) : f_X12_feed_L23 k1 k2 k3 k4 k5 t (n + 1) 10 (T, nI f, ts) = f_X12_feed_L23 k1 k2 k3 k4 k5 t n 11 (upd T f (bt k3 8), nI (f + 1), ts) := by
  rw [f_X12_feed_L23, if_neg (show ¬ (20 : Int32) ≤ 10 by decide), if_pos (show (4 : Int32) ≤ 10 by decide), if_pos (show (8 : Int32) ≤ 10 by decide), if_neg (show ¬ (12 : Int32) ≤ 10 by decide), fm_J hf, show (10 : Int32) + 1 = 11 by decide, show (24 : Int32) - 8 * (10 - 10 / 4 * 4) = 8 by decide]
theorem fm_11 (hf : f < 900) : f_X12_feed_L23 k1 k2 k3 k4 k5 t (n + 1) 11 (T, nI f, ts) = f_X12_feed_L23 k1 k2 k3 k4 k5 t n 12 (upd T f (bt k3 0), nI (f + 1), ts) := by
  rw [f_X12_feed_L23, if_neg (show ¬ (20 : Int32) ≤ 11 by decide), if_pos (show (4 : Int32) ≤ 11 by decide), if_pos (show (8 : Int32) ≤ 11 by decide), if_neg (show ¬ (12 : Int32) ≤ 11 by decide), fm_J hf, show (11 : Int32) + 1 = 12 by decide, show (24 : Int32) - 8 * (11 - 11 / 4 * 4) = 0 by decide]
theorem fm_12 (hf : f < 900) : f_X12_feed_L23 k1 k2 k3 k4 k5 t (n + 1) 12 (T, nI f, ts) = f_X12_feed_L23 k1 k2 k3 k4 k5 t n 13 (upd T f (bt k4 24), nI (f + 1), ts) := by
  rw [f_X12_feed_L23, if_neg (show ¬ (20 : Int32) ≤ 12 by decide), if_pos (show (4 : Int32) ≤ 12 by decide), if_pos (show (8 : Int32) ≤ 12 by decide), if_pos (show (12 : Int32) ≤ 12 by decide), if_neg (show ¬ (16 : Int32) ≤ 12 by decide), fm_J hf, show (12 : Int32) + 1 = 13 by decide, show (24 : Int32) - 8 * (12 - 12 / 4 * 4) = 24 by decide]
theorem fm_13 (hf : f < 900) : f_X12_feed_L23 k1 k2 k3 k4 k5 t (n + 1) 13 (T, nI f, ts) = f_X12_feed_L23 k1 k2 k3 k4 k5 t n 14 (upd T f (bt k4 16), nI (f + 1), ts) := by
  rw [f_X12_feed_L23, if_neg (show ¬ (20 : Int32) ≤ 13 by decide), if_pos (show (4 : Int32) ≤ 13 by decide), if_pos (show (8 : Int32) ≤ 13 by decide), if_pos (show (12 : Int32) ≤ 13 by decide), if_neg (show ¬ (16 : Int32) ≤ 13 by decide), fm_J hf, show (13 : Int32) + 1 = 14 by decide, show (24 : Int32) - 8 * (13 - 13 / 4 * 4) = 16 by decide]
theorem fm_14 (hf : f < 900) : f_X12_feed_L23 k1 k2 k3 k4 k5 t (n + 1) 14 (T, nI f, ts) = f_X12_feed_L23 k1 k2 k3 k4 k5 t n 15 (upd T f (bt k4 8), nI (f + 1), ts) := by
  rw [f_X12_feed_L23, if_neg (show ¬ (20 : Int32) ≤ 14 by decide), if_pos (show (4 : Int32) ≤ 14 by decide), if_pos (show (8 : Int32) ≤ 14 by decide), if_pos (show (12 : Int32) ≤ 14 by decide), if_neg (show ¬ (16 : Int32) ≤ 14 by decide), fm_J hf, show (14 : Int32) + 1 = 15 by decide, show (24 : Int32) - 8 * (14 - 14 / 4 * 4) = 8 by decide]
theorem fm_15 (hf : f < 900) : f_X12_feed_L23 k1 k2 k3 k4 k5 t (n + 1) 15 (T, nI f, ts) = f_X12_feed_L23 k1 k2 k3 k4 k5 t n 16 (upd T f (bt k4 0), nI (f + 1), ts) := by
  rw [f_X12_feed_L23, if_neg (show ¬ (20 : Int32) ≤ 15 by decide), if_pos (show (4 : Int32) ≤ 15 by decide), if_pos (show (8 : Int32) ≤ 15 by decide), if_pos (show (12 : Int32) ≤ 15 by decide), if_neg (show ¬ (16 : Int32) ≤ 15 by decide), fm_J hf, show (15 : Int32) + 1 = 16 by decide, show (24 : Int32) - 8 * (15 - 15 / 4 * 4) = 0 by decide]
theorem fm_16 (hf : f < 900) : f_X12_feed_L23 k1 k2 k3 k4 k5 t (n + 1) 16 (T, nI f, ts) = f_X12_feed_L23 k1 k2 k3 k4 k5 t n 17 (upd T f (bt k5 24), nI (f + 1), ts) := by
  rw [f_X12_feed_L23, if_neg (show ¬ (20 : Int32) ≤ 16 by decide), if_pos (show (4 : Int32) ≤ 16 by decide), if_pos (show (8 : Int32) ≤ 16 by decide), if_pos (show (12 : Int32) ≤ 16 by decide), if_pos (show (16 : Int32) ≤ 16 by decide), fm_J hf, show (16 : Int32) + 1 = 17 by decide, show (24 : Int32) - 8 * (16 - 16 / 4 * 4) = 24 by decide]
theorem fm_17 (hf : f < 900) : f_X12_feed_L23 k1 k2 k3 k4 k5 t (n + 1) 17 (T, nI f, ts) = f_X12_feed_L23 k1 k2 k3 k4 k5 t n 18 (upd T f (bt k5 16), nI (f + 1), ts) := by
  rw [f_X12_feed_L23, if_neg (show ¬ (20 : Int32) ≤ 17 by decide), if_pos (show (4 : Int32) ≤ 17 by decide), if_pos (show (8 : Int32) ≤ 17 by decide), if_pos (show (12 : Int32) ≤ 17 by decide), if_pos (show (16 : Int32) ≤ 17 by decide), fm_J hf, show (17 : Int32) + 1 = 18 by decide, show (24 : Int32) - 8 * (17 - 17 / 4 * 4) = 16 by decide]
theorem fm_18 (hf : f < 900) : f_X12_feed_L23 k1 k2 k3 k4 k5 t (n + 1) 18 (T, nI f, ts) = f_X12_feed_L23 k1 k2 k3 k4 k5 t n 19 (upd T f (bt k5 8), nI (f + 1), ts) := by
  rw [f_X12_feed_L23, if_neg (show ¬ (20 : Int32) ≤ 18 by decide), if_pos (show (4 : Int32) ≤ 18 by decide), if_pos (show (8 : Int32) ≤ 18 by decide), if_pos (show (12 : Int32) ≤ 18 by decide), if_pos (show (16 : Int32) ≤ 18 by decide), fm_J hf, show (18 : Int32) + 1 = 19 by decide, show (24 : Int32) - 8 * (18 - 18 / 4 * 4) = 8 by decide]
theorem fm_19 (hf : f < 900) : f_X12_feed_L23 k1 k2 k3 k4 k5 t (n + 1) 19 (T, nI f, ts) = f_X12_feed_L23 k1 k2 k3 k4 k5 t n 20 (upd T f (bt k5 0), nI (f + 1), ts) := by
  rw [f_X12_feed_L23, if_neg (show ¬ (20 : Int32) ≤ 19 by decide), if_pos (show (4 : Int32) ≤ 19 by decide), if_pos (show (8 : Int32) ≤ 19 by decide), if_pos (show (12 : Int32) ≤ 19 by decide), if_pos (show (16 : Int32) ≤ 19 by decide), fm_J hf, show (19 : Int32) + 1 = 20 by decide, show (24 : Int32) - 8 * (19 - 19 / 4 * 4) = 0 by decide]
theorem fm4_0 (hf : f + 4 ≤ 900) : f_X12_feed_L23 k1 k2 k3 k4 k5 t (n + 1 + 1 + 1 + 1) 0 (T, nI f, ts) = f_X12_feed_L23 k1 k2 k3 k4 k5 t n 4 (w4 T f k1, nI (f + 4), ts) := by
  rw [fm_0 (by omega), fm_1 (by omega), fm_2 (by omega), fm_3 (by omega)]
  rfl
theorem fm4_1 (hf : f + 4 ≤ 900) : f_X12_feed_L23 k1 k2 k3 k4 k5 t (n + 1 + 1 + 1 + 1) 4 (T, nI f, ts) = f_X12_feed_L23 k1 k2 k3 k4 k5 t n 8 (w4 T f k2, nI (f + 4), ts) := by
  rw [fm_4 (by omega), fm_5 (by omega), fm_6 (by omega), fm_7 (by omega)]
  rfl
theorem fm4_2 (hf : f + 4 ≤ 900) : f_X12_feed_L23 k1 k2 k3 k4 k5 t (n + 1 + 1 + 1 + 1) 8 (T, nI f, ts) = f_X12_feed_L23 k1 k2 k3 k4 k5 t n 12 (w4 T f k3, nI (f + 4), ts) := by
  rw [fm_8 (by omega), fm_9 (by omega), fm_10 (by omega), fm_11 (by omega)]
  rfl
theorem fm4_3 (hf : f + 4 ≤ 900) : f_X12_feed_L23 k1 k2 k3 k4 k5 t (n + 1 + 1 + 1 + 1) 12 (T, nI f, ts) = f_X12_feed_L23 k1 k2 k3 k4 k5 t n 16 (w4 T f k4, nI (f + 4), ts) := by
  rw [fm_12 (by omega), fm_13 (by omega), fm_14 (by omega), fm_15 (by omega)]
  rfl
theorem fm4_4 (hf : f + 4 ≤ 900) : f_X12_feed_L23 k1 k2 k3 k4 k5 t (n + 1 + 1 + 1 + 1) 16 (T, nI f, ts) = f_X12_feed_L23 k1 k2 k3 k4 k5 t n 20 (w4 T f k5, nI (f + 4), ts) := by
  rw [fm_16 (by omega), fm_17 (by omega), fm_18 (by omega), fm_19 (by omega)]
  rfl
end FEEDM
theorem feed_both {k1 k2 k3 k4 k5 : Int32} {t : TX12_t} {f : Nat} {T : Nat → Int32} {tl : TR7} {ts : TS12} (hT : ∀ j, byt (T j)) (hf : f ≤ 900) : ∃ (v : Int32) (T' : Nat → Int32) (f' : Nat), f_X10_feed k1 k2 k3 k4 k5 (T, nI f, tl) = some (v, (T', nI f', tl)) ∧ f_X12_feed k1 k2 k3 k4 k5 t (T, nI f, ts) = some (v, (0, t.2), (T', nI f', ts)) ∧ f' ≤ 900 ∧ ∀ j, byt (T' j) := by
  have e20 : nI f + (20 : Int32) = nI (f + 20) := nI_add f 20
  by_cases h : f + 20 ≤ 900
  · have hc : nI (f + 20) ≤ (900 : Int32) := nI_le (b := 900) h (by omega)
    refine ⟨nI (f + 20), w4 (w4 (w4 (w4 (w4 T f k1) (f + 4) k2) (f + 8) k3) (f + 12) k4) (f + 16) k5, f + 20, ?_, ?_, h, byt_w4 (byt_w4 (byt_w4 (byt_w4 (byt_w4 hT))))⟩
    · rw [f_X10_feed, if_pos (show nI f + (20 : Int32) ≤ 900 by rw [e20]; exact hc), put_ok (by omega), Option.bind_some, put_ok (by omega), Option.bind_some, put_ok (by omega), Option.bind_some, put_ok (by omega), Option.bind_some, put_ok (by omega), Option.bind_some]
    · rw [f_X12_feed, if_pos (show nI f + (20 : Int32) ≤ 900 by rw [e20]; exact hc), show FU = 999979 + 1 + 1 + 1 + 1 + 1 + 1 + 1 + 1 + 1 + 1 + 1 + 1 + 1 + 1 + 1 + 1 + 1 + 1 + 1 + 1 + 1 from rfl, fm4_0 (by omega), fm4_1 (by omega), fm4_2 (by omega), fm4_3 (by omega), fm4_4 (by omega), f_X12_feed_L23, if_pos (show (20 : Int32) ≤ 20 by decide)]
  · have hc : ¬ nI (f + 20) ≤ (900 : Int32) := nI_ge (a := 900) (b := f + 20) (by omega) (by omega)
    refine ⟨-1, T, f, ?_, ?_, hf, hT⟩
    · rw [f_X10_feed, if_neg (show ¬ nI f + (20 : Int32) ≤ 900 by rw [e20]; exact hc)]
    · rw [f_X12_feed, if_neg (show ¬ nI f + (20 : Int32) ≤ 900 by rw [e20]; exact hc)]
/-! a new pier's beginning -/
theorem beg41 : ∀ (k i fu : Nat) (a b c : Int32) (st lo lb li : Nat → Int32), i + k = 5 → k < fu → ∃ li', f_X4_begin_L41 fu (nI i) (a, b, c, st, lo, lb, li) = some (a, b, c, st, lo, lb, li') ∧ ∀ j, li' j = if i ≤ j ∧ j < 5 then -1 else li j := by
  intro k
  induction k with
  | zero =>
    intro i fu a b c st lo lb li hi hf
    obtain ⟨fu, rfl⟩ : ∃ z, fu = z + 1 := ⟨fu - 1, by omega⟩
    refine ⟨li, ?_, fun j => by rw [if_neg (by omega)]⟩
    rw [f_X4_begin_L41, if_pos (show (5 : Int32) ≤ nI i from nI_le (a := 5) (by omega) (by omega))]
  | succ k ih =>
    intro i fu a b c st lo lb li hi hf
    obtain ⟨fu, rfl⟩ : ∃ z, fu = z + 1 := ⟨fu - 1, by omega⟩
    obtain ⟨li', e, h⟩ := ih (i + 1) fu a b c st lo lb (upd li i (-1)) (by omega) (by omega)
    refine ⟨li', ?_, fun j => ?_⟩
    · rw [f_X4_begin_L41, if_neg (show ¬ (5 : Int32) ≤ nI i from nI_ge (b := 5) (by omega) (by omega)), gA_in (vin (show i < 5 by omega) (by omega)), nI_clamp (by omega), nIs]
      exact e
    · rw [h j]
      by_cases hj : j = i
      · subst hj
        rw [if_neg (by omega), if_pos (by omega)]
        exact upd_at
      · rw [upd_no hj]
        by_cases h2 : i + 1 ≤ j ∧ j < 5
        · rw [if_pos h2, if_pos (by omega)]
        · rw [if_neg h2, if_neg (by omega)]
theorem beg17 : ∀ (k i fu : Nat) (a b c : Int32) (st lo lb li : Nat → Int32), i + k = 6 → k < fu → ∃ st', f_X4_begin_L17 fu (nI i) (a, b, c, st, lo, lb, li) = f_X4_begin_L41 FU 0 (a, b, c, st', lo, lb, li) ∧ ∀ j, st' j = if i ≤ j ∧ j < 6 then 0 else st j := by
  intro k
  induction k with
  | zero =>
    intro i fu a b c st lo lb li hi hf
    obtain ⟨fu, rfl⟩ : ∃ z, fu = z + 1 := ⟨fu - 1, by omega⟩
    refine ⟨st, ?_, fun j => by rw [if_neg (by omega)]⟩
    rw [f_X4_begin_L17, if_pos (show (6 : Int32) ≤ nI i from nI_le (a := 6) (by omega) (by omega))]
  | succ k ih =>
    intro i fu a b c st lo lb li hi hf
    obtain ⟨fu, rfl⟩ : ∃ z, fu = z + 1 := ⟨fu - 1, by omega⟩
    obtain ⟨st', e, h⟩ := ih (i + 1) fu a b c (upd st i 0) lo lb li (by omega) (by omega)
    refine ⟨st', ?_, fun j => ?_⟩
    · rw [f_X4_begin_L17, if_neg (show ¬ (6 : Int32) ≤ nI i from nI_ge (b := 6) (by omega) (by omega)), gA_in (vin (show i < 6 by omega) (by omega)), nI_clamp (by omega), nIs]
      exact e
    · rw [h j]
      by_cases hj : j = i
      · subst hj
        rw [if_neg (by omega), if_pos (by omega)]
        exact upd_at
      · rw [upd_no hj]
        by_cases h2 : i + 1 ≤ j ∧ j < 6
        · rw [if_pos h2, if_pos (by omega)]
        · rw [if_neg h2, if_neg (by omega)]
theorem begin_ok (n : TX4_n) : ∃ st li, f_X4_begin n = some (0, 0, 0, st, n.2.2.2.2.1, n.2.2.2.2.2.1, li) ∧ (∀ j, j < 6 → st j = 0) ∧ ∀ j, j < 5 → li j = -1 := by
  obtain ⟨a, b, c, st, lo, lb, li⟩ := n
  obtain ⟨st', e, h⟩ := beg17 6 0 FU 0 0 0 st lo lb li rfl (by decide)
  obtain ⟨li', e2, h2⟩ := beg41 5 0 FU 0 0 0 st' lo lb li rfl (by decide)
  refine ⟨st', li', ?_, fun j hj => by rw [h j, if_pos (by omega)], fun j hj => by rw [h2 j, if_pos (by omega)]⟩
  rw [nI_0] at e e2
  rw [f_X4_begin]
  exact e.trans e2
/-- the reference's row of a fresh pier -/
def vrow (v : Nat → Int32) : Prop := (∀ j, j < 6 → v j = 0) ∧ (∀ j, 6 ≤ j → j < 23 → v j = -2) ∧ ∀ j, 23 ≤ j → j < 26 → v j = 0
theorem po156 {t : TX12_t} {h : TX12_h} {z : TX12_s × TX11_q} : ∀ (k i fu : Nat) (v : Nat → Int32), i + k = 5 → k < fu → ∃ v', f_X12_pier_o_L156 t h z fu (nI i) v = some ((f_X12_good z.2.2.2.2.2.2.2.1 (0, t.2)).1, (f_X12_good z.2.2.2.2.2.2.2.1 (0, t.2)).2, z.1, v', (h.1, h.2.1, 0, 0), z.2) ∧ ∀ j, v' j = if 18 + i ≤ j ∧ j < 23 then -2 else v j := by
  intro k
  induction k with
  | zero =>
    intro i fu v hi hf
    obtain ⟨fu, rfl⟩ : ∃ z, fu = z + 1 := ⟨fu - 1, by omega⟩
    refine ⟨v, ?_, fun j => by rw [if_neg (by omega)]⟩
    rw [f_X12_pier_o_L156, if_pos (show (5 : Int32) ≤ nI i from nI_le (a := 5) (by omega) (by omega)), nm]
  | succ k ih =>
    intro i fu v hi hf
    obtain ⟨fu, rfl⟩ : ∃ z, fu = z + 1 := ⟨fu - 1, by omega⟩
    obtain ⟨v', e, h2⟩ := ih (i + 1) fu (upd v (18 + i) (-2)) (by omega) (by omega)
    have ea : (18 : Int32) + nI i = nI (18 + i) := nI_add 18 i
    refine ⟨v', ?_, fun j => ?_⟩
    · rw [f_X12_pier_o_L156, if_neg (show ¬ (5 : Int32) ≤ nI i from nI_ge (b := 5) (by omega) (by omega)), ea, gA_in (vin (show 18 + i < 26 by omega) (by omega)), nI_clamp (by omega), nIs]
      exact e
    · rw [h2 j]
      by_cases hj : j = 18 + i
      · subst hj
        rw [if_neg (by omega), if_pos (by omega)]
        exact upd_at
      · rw [upd_no hj]
        by_cases h3 : 18 + (i + 1) ≤ j ∧ j < 23
        · rw [if_pos h3, if_pos (by omega)]
        · rw [if_neg h3, if_neg (by omega)]
theorem po120 {t : TX12_t} {h : TX12_h} {z : TX12_s × TX11_q} : ∀ (k i fu : Nat) (v : Nat → Int32), i + k = 6 → k < fu → ∃ v', f_X12_pier_o_L120 t h z fu (nI i) v = f_X12_pier_o_L156 t h z FU 0 v' ∧ ∀ j, v' j = if (6 + i ≤ j ∧ j < 12) ∨ (12 + i ≤ j ∧ j < 18) then -2 else v j := by
  intro k
  induction k with
  | zero =>
    intro i fu v hi hf
    obtain ⟨fu, rfl⟩ : ∃ z, fu = z + 1 := ⟨fu - 1, by omega⟩
    refine ⟨v, ?_, fun j => by rw [if_neg (by omega)]⟩
    rw [f_X12_pier_o_L120, if_pos (show (6 : Int32) ≤ nI i from nI_le (a := 6) (by omega) (by omega))]
  | succ k ih =>
    intro i fu v hi hf
    obtain ⟨fu, rfl⟩ : ∃ z, fu = z + 1 := ⟨fu - 1, by omega⟩
    obtain ⟨v', e, h2⟩ := ih (i + 1) fu (upd (upd v (6 + i) (-2)) (12 + i) (-2)) (by omega) (by omega)
    have ea : (6 : Int32) + nI i = nI (6 + i) := nI_add 6 i
    have eb : (12 : Int32) + nI i = nI (12 + i) := nI_add 12 i
    refine ⟨v', ?_, fun j => ?_⟩
    · rw [f_X12_pier_o_L120, if_neg (show ¬ (6 : Int32) ≤ nI i from nI_ge (b := 6) (by omega) (by omega)), ea, eb, gA_in (vin (show 6 + i < 26 by omega) (by omega)), gA_in (vin (show 12 + i < 26 by omega) (by omega)), nI_clamp (by omega), nI_clamp (by omega), nIs]
      exact e
    · rw [h2 j]
      by_cases hj : j = 12 + i
      · subst hj
        rw [if_neg (by omega), if_pos (by omega)]
        exact upd_at
      · rw [upd_no hj]
        by_cases hk : j = 6 + i
        · subst hk
          rw [if_neg (by omega), if_pos (by omega)]
          exact upd_at
        · rw [upd_no hk]
          by_cases h3 : (6 + (i + 1) ≤ j ∧ j < 12) ∨ (12 + (i + 1) ≤ j ∧ j < 18)
          · rw [if_pos h3, if_pos (by omega)]
          · rw [if_neg h3, if_neg (by omega)]
theorem po99 {t : TX12_t} {h : TX12_h} {z : TX12_s × TX11_q} : ∀ (k i fu : Nat) (v : Nat → Int32), i + k = 26 → k < fu → ∃ v', f_X12_pier_o_L99 t h z fu (nI i) v = f_X12_pier_o_L120 t h z FU 0 v' ∧ ∀ j, v' j = if i ≤ j ∧ j < 26 then 0 else v j := by
  intro k
  induction k with
  | zero =>
    intro i fu v hi hf
    obtain ⟨fu, rfl⟩ : ∃ z, fu = z + 1 := ⟨fu - 1, by omega⟩
    refine ⟨v, ?_, fun j => by rw [if_neg (by omega)]⟩
    rw [f_X12_pier_o_L99, if_pos (show (26 : Int32) ≤ nI i from nI_le (a := 26) (by omega) (by omega))]
  | succ k ih =>
    intro i fu v hi hf
    obtain ⟨fu, rfl⟩ : ∃ z, fu = z + 1 := ⟨fu - 1, by omega⟩
    obtain ⟨v', e, h2⟩ := ih (i + 1) fu (upd v i 0) (by omega) (by omega)
    refine ⟨v', ?_, fun j => ?_⟩
    · rw [f_X12_pier_o_L99, if_neg (show ¬ (26 : Int32) ≤ nI i from nI_ge (b := 26) (by omega) (by omega)), gA_in (vin (show i < 26 by omega) (by omega)), nI_clamp (by omega), nIs]
      exact e
    · rw [h2 j]
      by_cases hj : j = i
      · subst hj
        rw [if_neg (by omega), if_pos (by omega)]
        exact upd_at
      · rw [upd_no hj]
        by_cases h3 : i + 1 ≤ j ∧ j < 26
        · rw [if_pos h3, if_pos (by omega)]
        · rw [if_neg h3, if_neg (by omega)]
theorem po_ok (t : TX12_t) (h : TX12_h) (z : TX12_s × TX11_q) (v : Nat → Int32) : ∃ v', f_X12_pier_o_L99 t h z FU 0 v = some (z.2.2.2.2.2.2.2.1, (0, 0, -1), z.1, v', (h.1, h.2.1, 0, 0), z.2) ∧ vrow v' := by
  obtain ⟨v1, e1, h1⟩ := po99 (t := t) (h := h) (z := z) 26 0 FU v rfl (by decide)
  obtain ⟨v2, e2, h2⟩ := po120 (t := t) (h := h) (z := z) 6 0 FU v1 rfl (by decide)
  obtain ⟨v3, e3, h3⟩ := po156 (t := t) (h := h) (z := z) 5 0 FU v2 rfl (by decide)
  rw [nI_0] at e1 e2 e3
  refine ⟨v3, ?_, fun j hj => ?_, fun j h4 h5 => ?_, fun j h4 h5 => ?_⟩
  · rw [e1, e2, e3]
    rfl
  · rw [h3 j, if_neg (by omega), h2 j, if_neg (by omega), h1 j, if_pos (by omega)]
  · by_cases h6 : 18 ≤ j
    · rw [h3 j, if_pos (by omega)]
    · rw [h3 j, if_neg (by omega), h2 j, if_pos (by omega)]
  · rw [h3 j, if_neg (by omega), h2 j, if_neg (by omega), h1 j, if_pos (by omega)]
