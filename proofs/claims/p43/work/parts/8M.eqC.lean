/-! acts without a pier -/
section ZACT
variable {p : TX6_p}
theorem zKt (h : PZ p) (k : Int32) : f_X10_askerTrouble k p = 1 := by
  unfold f_X10_askerTrouble
  dsimp only [nm]
  rw [zAs h, if_pos rfl]
theorem zn_let (hz : PZ p) (k1 k2 k3 k4 : Int32) (x : TX10_x) (kn n : TX4_n) (h : TX2_h) : f_X10_let k1 k2 k3 k4 x kn p n h = some (0, (1, x.2), kn, n, h) := by
  rw [f_X10_let, f_X10_letTrouble]
  dsimp only [nm]
  rw [zKt hz, if_neg one_ne, f_X10_letTrouble_J22, if_neg one_ne, f_X10_letTrouble_J59, Option.bind_some, ref_n one_ne, if_neg one_ne]
theorem zn_drawIn (hz : PZ p) (k1 : Int32) (x : TX10_x) (kn n : TX4_n) (h : TX2_h) : f_X10_drawIn k1 x kn p n h = some (0, (1, x.2), kn, n, h) := by
  rw [f_X10_drawIn]
  dsimp only [nm]
  rw [zKt hz, if_neg one_ne, f_X10_drawIn_J28, f_X10_drawIn_J29]
  dsimp only [nm]
  rw [ref_n one_ne, if_neg one_ne]
theorem zn_sell (hz : PZ p) (k1 : Int32) (x : TX10_x) (kn n : TX4_n) (h : TX2_h) : f_X10_sell k1 x kn p n h = some (-1, (1, x.2), kn, n, h) := by
  rw [f_X10_sell]
  dsimp only [nm]
  rw [zAt hz, if_neg one_ne, f_X10_sell_J28, f_X10_sell_J29]
  dsimp only [nm]
  rw [ref_n one_ne, if_neg one_ne]
theorem zn_day (hz : PZ p) (x : TX10_x) (kn n : TX4_n) (h : TX2_h) (y : TX1_y) : f_X10_day x kn p n h y = some (-1, (1, x.2), kn, n, h, y) := by
  rw [f_X10_day]
  dsimp only [nm]
  rw [zPt hz, if_neg one_ne, f_X10_day_J27, f_X10_day_J28]
  dsimp only [nm]
  rw [ref_n one_ne, if_neg one_ne]
theorem zn_seed (hz : PZ p) (k1 : Int32) (x : TX10_x) (n : TX4_n) : f_X10_seed k1 x p n = (0, (1, x.2), n) := by
  rw [f_X10_seed]
  dsimp only [nm]
  rw [zNt hz, ref_n one_ne, if_neg one_ne]
theorem zn_undo {h : TX2_h} (h0 : h.2.1 = 0) (x : TX10_x) (kn n : TX4_n) : f_X10_undo x kn n h = some (0, (6, x.2), n, h) := by
  rw [f_X10_undo, if_pos h0, f_X10_undo_J17]
  dsimp only [nm]
  rw [ref_n (show ¬ (6 : Int32) = 0 by decide), if_neg one_ne]
theorem zn_mark (hz : PZ p) (x : TX10_x) (kn n : TX4_n) (h : TX2_h) : f_X10_mark x kn p n h = some (-1, (1, x.2), kn, h) := by
  rw [f_X10_mark]
  dsimp only [nm]
  rw [zPt hz, if_neg one_ne, f_X10_mark_J25, f_X10_mark_J26]
  dsimp only [nm]
  rw [ref_n one_ne, if_neg one_ne]
theorem zn_back {h : TX2_h} (h0 : h.2.2 = 0) (k1 : Int32) (x : TX10_x) (kn n : TX4_n) : f_X10_back k1 x kn n h = some (0, (1, x.2), n, h) := by
  rw [f_X10_back]
  dsimp only [nm]
  rw [h0, wz, if_pos rfl, f_X10_back_J23]
  dsimp only [nm]
  rw [ref_n one_ne, if_neg one_ne]
end ZACT
