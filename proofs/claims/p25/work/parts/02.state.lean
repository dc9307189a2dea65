/-- links within a nest, by their places -/
def nwL : List Cond := [.methodLinkNest RX10 9 yX6_init "HookPier", .methodLinkNest RX10 21 yX7_init "HookPier", .methodLinkNest RX10 28 yX4_init "HookPier", .methodLinkNest RX2 30 yX4_init "HookPier", .methodLinkNest RX10 42 yX8_init "HookPier", .methodLinkNest RX10 49 yX0_init "HookPier", .methodLinkNest RX10 56 yX1_init "HookPier", .methodLinkNest RX1 11 yX4_init "HookPier", .methodLinkNest RX7 204 yX10_within "HookPier", .methodLinkNest RX7 193 yX10_question "HookPier", .methodLinkNest RX6 68 yX10_within "HookPier", .methodLinkNest RX4 49 yX10_spotOf "HookPier", .methodLinkNest RX6 72 yX10_spotOf "HookPier", .methodLinkNest RX6 83 yX10_baitOf "HookPier", .methodLinkNest RX6 80 yX10_fathomsOf "HookPier", .methodLinkNest RX0 60 yX10_baitOf "HookPier", .methodLinkNest RX0 64 yX10_spotOf "HookPier", .methodLinkNest RX0 70 yX10_fathomsOf "HookPier", .methodLinkNest RX1 79 yX10_spotOf "HookPier", .methodLinkNest RX2 35 yX10_within "HookPier", .methodLinkNest RX12 295 yX11_init "HookPierModel", .methodLinkNest RX11 66 yX12_apart "HookPierModel", .fieldLinkNest RX12 143 "HookPierModel$Pier" "spots" "I" "HookPierModel", .fieldLinkNest RX12 207 "HookPierModel$Pier" "deep" "I" "HookPierModel", .fieldLinkNest RX12 209 "HookPierModel$Pier" "from" "I" "HookPierModel", .fieldLinkNest RX12 211 "HookPierModel$Pier" "to" "I" "HookPierModel", .fieldLinkNest RX12 175 "HookPierModel$Pier" "baits" "I" "HookPierModel", .fieldLinkNest RX12 224 "HookPierModel$Pier" "askers" "I" "HookPierModel", .fieldLinkNest RX12 231 "HookPierModel$Pier" "answers" "I" "HookPierModel", .fieldLinkNest RX12 271 "HookPierModel$Pier" "bites" "I" "HookPierModel", .fieldLinkNest RX12 269 "HookPierModel$Pier" "dark" "I" "HookPierModel", .fieldLinkNest RX12 160 "HookPierModel$Pier" "names" "I" "HookPierModel", .fieldLinkNest RX12 229 "HookPierModel$Pier" "reach" "[I" "HookPierModel", .fieldLinkNest RX12 256 "HookPierModel$Pier" "kind" "[I" "HookPierModel", .fieldLinkNest RX12 259 "HookPierModel$Pier" "spot" "[I" "HookPierModel", .fieldLinkNest RX12 261 "HookPierModel$Pier" "depth" "[I" "HookPierModel", .fieldLinkNest RX12 263 "HookPierModel$Pier" "hunger" "[I" "HookPierModel", .fieldLinkNest RX12 265 "HookPierModel$Pier" "likes" "[I" "HookPierModel", .fieldLinkNest RX12 267 "HookPierModel$Pier" "worth" "[I" "HookPierModel", .fieldLinkNest RX12 280 "HookPierModel$Pier" "biteSpot" "[I" "HookPierModel", .fieldLinkNest RX12 283 "HookPierModel$Pier" "biteDeep" "[I" "HookPierModel", .fieldLinkNest RX12 286 "HookPierModel$Pier" "biteBait" "[I" "HookPierModel", .fieldLinkNest RX12 289 "HookPierModel$Pier" "bit" "[I" "HookPierModel", .fieldLinkNest RX12 156 "HookPierModel$Pier" "name" "[J" "HookPierModel", .fieldLinkNest RX12 163 "HookPierModel$Pier" "nameSort" "[I" "HookPierModel", .fieldLinkNest RX12 166 "HookPierModel$Pier" "numberOf" "[I" "HookPierModel"]
def strL : List (String × Nat × String) := [(RX7, 76, "pier"), (RX7, 129, "spots"), (RX7, 137, "deep"), (RX7, 141, "from"), (RX7, 146, "to"), (RX7, 88, "bait"), (RX7, 97, "asker"), (RX7, 105, "answer"), (RX7, 113, "dark"), (RX7, 121, "bite"), (RX7, 154, "reach"), (RX7, 208, "plain"), (RX7, 210, "cold"), (RX7, 212, "crab"), (RX7, 214, "boot"), (RX7, 165, "at"), (RX7, 169, "depth"), (RX7, 173, "hunger"), (RX7, 177, "likes"), (RX7, 184, "worth"), (RX7, 189, "fathoms"), (RX7, 216, "yes"), (RX7, 218, "no"), (RX10, 373, "no such answer was landed"), (RX12, 127, "pier"), (RX12, 196, "spots"), (RX12, 201, "deep"), (RX12, 203, "from"), (RX12, 205, "to"), (RX12, 129, "bait"), (RX12, 131, "asker"), (RX12, 133, "answer"), (RX12, 135, "dark"), (RX12, 137, "bite"), (RX12, 227, "reach"), (RX12, 234, "plain"), (RX12, 236, "cold"), (RX12, 238, "crab"), (RX12, 240, "boot"), (RX12, 242, "at"), (RX12, 244, "depth"), (RX12, 246, "hunger"), (RX12, 248, "likes"), (RX12, 254, "worth"), (RX12, 274, "fathoms"), (RX12, 276, "yes"), (RX12, 278, "no")]
def aoL : List String := [RX4]
def nwNest : Cond → Bool
  | .fieldLinkNest _ _ _ _ _ _ => true
  | .methodLinkNest _ _ _ _ => true
  | _ => false
theorem nwL_nest : nwL.all nwNest = true := by decide +kernel
theorem nwL_tab : nwL.all (fun w => w.onTables) = true := by decide +kernel
/-- what holds of the classes all through a launch, beside the word lists -/
def NW (U : State) : Prop := (∀ w ∈ nwL, va_Nw w U) ∧ (∀ C ∈ aoL, va_AO C U) ∧ ∀ z ∈ strL, ∃ q, vk_R z.1 z.2.1 z.2.2 q U
theorem nw_warm {w : Cond} (hn : nwNest w = true) {s U : State} (hW : s.WarmedH U.vm) (h : va_Nw w s) : va_Nw w U := by
  cases w <;> first
    | exact va_Nw.warmF hW h
    | exact va_Nw.warmM hW h
    | exact absurd hn (by simp [nwNest])
theorem NW.warm {s U : State} (hW : s.WarmedH U.vm) (h : NW s) : NW U :=
  ⟨fun w hw => nw_warm (List.all_eq_true.mp nwL_nest w hw) hW (h.1 w hw), fun C hC => va_AO.moved hW.alike (h.2.1 C hC), fun z hz => by
    obtain ⟨q, hq⟩ := h.2.2 z hz
    exact ⟨q, vk_R.warm hW hq⟩⟩
theorem NW.same {u U : State} (hv : u.vm = U.vm) (h : NW u) : NW U :=
  ⟨fun w hw => va_Nw.same (List.all_eq_true.mp nwL_tab w hw) hv (h.1 w hw), fun C hC => va_AO.moved (hv ▸ Vm.Alike.refl u.vm) (h.2.1 C hC), fun z hz => by
    obtain ⟨q, hq⟩ := h.2.2 z hz
    exact ⟨q, vk_R.same hv.symm hq⟩⟩
def PC (D : va_G) (As : List Value) (sz : Nat) (ws : va_W) (tys : List (ClassId × FieldType)) : Array Value → State → Prop := va_Pc As (fun U => U.heap.size = sz ∧ va_P D vwCl ws U.heap ∧ va_K D vwCl tys U ∧ va_D (fun _ => True) ws ∧ NW U)
def BC (D : va_G) (A : Nat → Prop) (ws : va_W) (tys : List (ClassId × FieldType)) (t : State) : Prop := va_P D vwCl ws t.heap ∧ va_K D vwCl tys t ∧ va_D A ws
theorem PC_blind {D : va_G} {As : List Value} {sz : Nat} {ws : va_W} {tys : List (ClassId × FieldType)} : FrameBlind (PC D As sz ws tys) := fun a U g mk q => by
  obtain ⟨q0, q1, qP, qK, qD, qN⟩ := q
  exact ⟨q0, q1, qP, va_K.moved (u := U) (U := U.calling g mk a) (Vm.Alike.refl U.vm) qK, qD, NW.same (u := U) (U := U.calling g mk a) rfl qN⟩
theorem PS {s : State} {H : Heap} {D : va_G} {ws : va_W} {tys : List (ClassId × FieldType)} {A : Nat → Prop} {As : List Value} (hP : va_P D vwCl ws H) (hK : va_K D vwCl tys s) (hD : va_D A ws) (hN : NW s) : PreS s H (PC D As H.size ws tys) As :=
  ⟨PC_blind, fun U hU hW => ⟨rfl, by rw [hU], by rw [hU]; exact hP, va_K.moved hW.alike hK, hD.weaken (fun _ _ _ _ => trivial), NW.warm hW hN⟩⟩
theorem PV {s : State} {H : Heap} {D : va_G} {ws : va_W} {tys : List (ClassId × FieldType)} {A : Nat → Prop} {As : List Value} (hP : va_P D vwCl ws H) (hK : va_K D vwCl tys s) (hD : va_D A ws) (hN : NW s) (q0 : Nat) {b ci : Nat} {fs : List Value} {C : String} {T : u_T} {N : Nat} (he : ws[q0]? = some (b, .inr (ci, fs))) (hc : vwCl[ci]? = some (C, T, N)) : PreV s H C b (PC D (.ref b :: As) H.size ws tys) As :=
  ⟨PC_blind, va_recv hK hP hc he, fun U hU hW => ⟨rfl, by rw [hU], by rw [hU]; exact hP, va_K.moved hW.alike hK, hD.weaken (fun _ _ _ _ => trivial), NW.warm hW hN⟩⟩
section CL
variable {p : Program} {l : Launch} {e : Env} {R : Room} {s : State} {m : MethodId} {args : Array Value} {below : List Frame} {meth : Method} {c : Code} {H : Heap} {locs : List Loc} {cells slots mc ms : Nat} {Q : State → Prop} {D : va_G} {A : Nat → Prop} {H0 : Heap} {ws wc wr : va_W} {tys : List (ClassId × FieldType)} {pc : Nat} {ls : Array Slot} {st0 rest : List Value} {a : Array Value} {S : Type} {w1 : S → va_W} {tys1 : S → List (ClassId × FieldType)}
theorem cl_i {post : Int32 → S → Prop} (hr : va_Run p l e R s m args below meth c H locs cells slots mc ms (F0 m pc ls st0) rest (va_Qi post (fun u t => BC D (va_A wc H.size) (w1 u) (tys1 u) t) (va_A wc H.size) a) (va_A wc H.size)) (hP : va_P D vwCl ws H) (hD : va_D A ws) (hK : va_K D vwCl tys s) (hS : va_S A H0 H locs) (hA : ∀ q, H0.size ≤ q → A q) (isC isR : List Nat) (hC : isC.map (fun i => ws[i]?) = wc.map some) (hR : isR.map (fun i => ws[i]?) = wr.map some) (hn : va_nd isR = true) (hdis : ∀ i ∈ isR, i ∉ isC)
    (kk : ∀ (r : Int32) (u : S) (H1 : Heap) (locs1 : List Loc), post r u → va_P D vwCl (wr ++ w1 u) H1 → va_D A (wr ++ w1 u) → va_K D vwCl (tys ++ tys1 u) s → va_S A H0 H1 locs1 → W p l e R s m args below meth c H1 locs1 (cells + mc) (slots + ms) Q (F0 m (pc + 3) ls (.int r :: rest))) : W p l e R s m args below meth c H locs cells slots Q (F0 m pc ls st0) := by
  have hF := va_free (wc := wc) hD hS hA isC hC
  refine va_calli hr hS (fun q _ h => hF q h) hF (fun r u t H1 locs1 ht hvm hw hB hz hk hS1 => ?_)
  obtain ⟨hP1, hK1, hD1⟩ := hB
  rw [ht] at hP1
  obtain ⟨hP2, hD2⟩ := va_join (wr := wr) (w1 := w1 u) hP hD isC isR hC hR hn hdis hk hF hP1 hD1
  exact kk r u H1 locs1 hw hP2 hD2 (hK.app (va_K.moved hvm.symm hK1)) hS1
theorem cl_l {post : Int64 → S → Prop} (hr : va_Run p l e R s m args below meth c H locs cells slots mc ms (F0 m pc ls st0) rest (va_Ql post (fun u t => BC D (va_A wc H.size) (w1 u) (tys1 u) t) (va_A wc H.size) a) (va_A wc H.size)) (hP : va_P D vwCl ws H) (hD : va_D A ws) (hK : va_K D vwCl tys s) (hS : va_S A H0 H locs) (hA : ∀ q, H0.size ≤ q → A q) (isC isR : List Nat) (hC : isC.map (fun i => ws[i]?) = wc.map some) (hR : isR.map (fun i => ws[i]?) = wr.map some) (hn : va_nd isR = true) (hdis : ∀ i ∈ isR, i ∉ isC)
    (kk : ∀ (r : Int64) (u : S) (H1 : Heap) (locs1 : List Loc), post r u → va_P D vwCl (wr ++ w1 u) H1 → va_D A (wr ++ w1 u) → va_K D vwCl (tys ++ tys1 u) s → va_S A H0 H1 locs1 → W p l e R s m args below meth c H1 locs1 (cells + mc) (slots + ms) Q (F0 m (pc + 3) ls (.long r :: rest))) : W p l e R s m args below meth c H locs cells slots Q (F0 m pc ls st0) := by
  have hF := va_free (wc := wc) hD hS hA isC hC
  refine va_calll hr hS (fun q _ h => hF q h) hF (fun r u t H1 locs1 ht hvm hw hB hz hk hS1 => ?_)
  obtain ⟨hP1, hK1, hD1⟩ := hB
  rw [ht] at hP1
  obtain ⟨hP2, hD2⟩ := va_join (wr := wr) (w1 := w1 u) hP hD isC isR hC hR hn hdis hk hF hP1 hD1
  exact kk r u H1 locs1 hw hP2 hD2 (hK.app (va_K.moved hvm.symm hK1)) hS1
theorem cl_v {post : S → Prop} (hr : va_Run p l e R s m args below meth c H locs cells slots mc ms (F0 m pc ls st0) rest (va_Qv post (fun u t => BC D (va_A wc H.size) (w1 u) (tys1 u) t) (va_A wc H.size) a) (va_A wc H.size)) (hP : va_P D vwCl ws H) (hD : va_D A ws) (hK : va_K D vwCl tys s) (hS : va_S A H0 H locs) (hA : ∀ q, H0.size ≤ q → A q) (isC isR : List Nat) (hC : isC.map (fun i => ws[i]?) = wc.map some) (hR : isR.map (fun i => ws[i]?) = wr.map some) (hn : va_nd isR = true) (hdis : ∀ i ∈ isR, i ∉ isC)
    (kk : ∀ (u : S) (H1 : Heap) (locs1 : List Loc), post u → va_P D vwCl (wr ++ w1 u) H1 → va_D A (wr ++ w1 u) → va_K D vwCl (tys ++ tys1 u) s → va_S A H0 H1 locs1 → W p l e R s m args below meth c H1 locs1 (cells + mc) (slots + ms) Q (F0 m (pc + 3) ls rest)) : W p l e R s m args below meth c H locs cells slots Q (F0 m pc ls st0) := by
  have hF := va_free (wc := wc) hD hS hA isC hC
  refine va_callv hr hS (fun q _ h => hF q h) hF (fun u t H1 locs1 ht hvm hw hB hz hk hS1 => ?_)
  obtain ⟨hP1, hK1, hD1⟩ := hB
  rw [ht] at hP1
  obtain ⟨hP2, hD2⟩ := va_join (wr := wr) (w1 := w1 u) hP hD isC isR hC hR hn hdis hk hF hP1 hD1
  exact kk u H1 locs1 hw hP2 hD2 (hK.app (va_K.moved hvm.symm hK1)) hS1
end CL
theorem fa_lt (a b : Int32) : a < b ↔ a.toInt < b.toInt := Int32.lt_iff_toInt_lt
theorem fa_le (a b : Int32) : a ≤ b ↔ a.toInt ≤ b.toInt := Int32.le_iff_toInt_le
theorem fa_eq (a b : Int32) : a = b ↔ a.toInt = b.toInt := Int32.toInt_inj.symm
theorem fa_or (a b : Nat) : nI a ||| nI b = nI (a ||| b) := by
  apply Int32.toBitVec_inj.1
  show BitVec.ofNat 32 a ||| BitVec.ofNat 32 b = BitVec.ofNat 32 (a ||| b)
  apply BitVec.eq_of_getLsbD_eq
  intro i hi
  simp [hi]
theorem ltv_m21 : ((-21) : Int32).toInt = (-21) := by decide
theorem ltv_m20 : ((-20) : Int32).toInt = (-20) := by decide
theorem ltv_m19 : ((-19) : Int32).toInt = (-19) := by decide
theorem ltv_m18 : ((-18) : Int32).toInt = (-18) := by decide
theorem ltv_m17 : ((-17) : Int32).toInt = (-17) := by decide
theorem ltv_m16 : ((-16) : Int32).toInt = (-16) := by decide
theorem ltv_m15 : ((-15) : Int32).toInt = (-15) := by decide
theorem ltv_m14 : ((-14) : Int32).toInt = (-14) := by decide
theorem ltv_m13 : ((-13) : Int32).toInt = (-13) := by decide
theorem ltv_m12 : ((-12) : Int32).toInt = (-12) := by decide
theorem ltv_m11 : ((-11) : Int32).toInt = (-11) := by decide
theorem ltv_m10 : ((-10) : Int32).toInt = (-10) := by decide
theorem ltv_m9 : ((-9) : Int32).toInt = (-9) := by decide
theorem ltv_m8 : ((-8) : Int32).toInt = (-8) := by decide
theorem ltv_m7 : ((-7) : Int32).toInt = (-7) := by decide
theorem ltv_m6 : ((-6) : Int32).toInt = (-6) := by decide
theorem ltv_m5 : ((-5) : Int32).toInt = (-5) := by decide
theorem ltv_m4 : ((-4) : Int32).toInt = (-4) := by decide
theorem ltv_m3 : ((-3) : Int32).toInt = (-3) := by decide
theorem ltv_m2 : ((-2) : Int32).toInt = (-2) := by decide
theorem ltv_m1 : ((-1) : Int32).toInt = (-1) := by decide
theorem ltv_0 : (0 : Int32).toInt = 0 := by decide
theorem ltv_1 : (1 : Int32).toInt = 1 := by decide
theorem ltv_2 : (2 : Int32).toInt = 2 := by decide
theorem ltv_3 : (3 : Int32).toInt = 3 := by decide
theorem ltv_4 : (4 : Int32).toInt = 4 := by decide
theorem ltv_5 : (5 : Int32).toInt = 5 := by decide
theorem ltv_6 : (6 : Int32).toInt = 6 := by decide
theorem ltv_7 : (7 : Int32).toInt = 7 := by decide
theorem ltv_8 : (8 : Int32).toInt = 8 := by decide
theorem ltv_9 : (9 : Int32).toInt = 9 := by decide
theorem ltv_10 : (10 : Int32).toInt = 10 := by decide
theorem ltv_11 : (11 : Int32).toInt = 11 := by decide
theorem ltv_12 : (12 : Int32).toInt = 12 := by decide
theorem ltv_13 : (13 : Int32).toInt = 13 := by decide
theorem ltv_14 : (14 : Int32).toInt = 14 := by decide
theorem ltv_15 : (15 : Int32).toInt = 15 := by decide
theorem ltv_16 : (16 : Int32).toInt = 16 := by decide
theorem ltv_17 : (17 : Int32).toInt = 17 := by decide
theorem ltv_18 : (18 : Int32).toInt = 18 := by decide
theorem ltv_19 : (19 : Int32).toInt = 19 := by decide
theorem ltv_20 : (20 : Int32).toInt = 20 := by decide
theorem ltv_21 : (21 : Int32).toInt = 21 := by decide
theorem ltv_22 : (22 : Int32).toInt = 22 := by decide
theorem ltv_23 : (23 : Int32).toInt = 23 := by decide
theorem ltv_24 : (24 : Int32).toInt = 24 := by decide
theorem ltv_25 : (25 : Int32).toInt = 25 := by decide
theorem ltv_26 : (26 : Int32).toInt = 26 := by decide
theorem ltv_27 : (27 : Int32).toInt = 27 := by decide
theorem ltv_28 : (28 : Int32).toInt = 28 := by decide
theorem ltv_29 : (29 : Int32).toInt = 29 := by decide
theorem ltv_30 : (30 : Int32).toInt = 30 := by decide
theorem ltv_31 : (31 : Int32).toInt = 31 := by decide
theorem ltv_32 : (32 : Int32).toInt = 32 := by decide
theorem ltv_33 : (33 : Int32).toInt = 33 := by decide
theorem ltv_34 : (34 : Int32).toInt = 34 := by decide
theorem ltv_35 : (35 : Int32).toInt = 35 := by decide
theorem ltv_36 : (36 : Int32).toInt = 36 := by decide
theorem ltv_37 : (37 : Int32).toInt = 37 := by decide
theorem ltv_38 : (38 : Int32).toInt = 38 := by decide
theorem ltv_39 : (39 : Int32).toInt = 39 := by decide
theorem ltv_40 : (40 : Int32).toInt = 40 := by decide
theorem ltv_41 : (41 : Int32).toInt = 41 := by decide
theorem ltv_42 : (42 : Int32).toInt = 42 := by decide
theorem ltv_43 : (43 : Int32).toInt = 43 := by decide
theorem ltv_44 : (44 : Int32).toInt = 44 := by decide
theorem ltv_45 : (45 : Int32).toInt = 45 := by decide
theorem ltv_46 : (46 : Int32).toInt = 46 := by decide
theorem ltv_47 : (47 : Int32).toInt = 47 := by decide
theorem ltv_48 : (48 : Int32).toInt = 48 := by decide
theorem ltv_49 : (49 : Int32).toInt = 49 := by decide
theorem ltv_50 : (50 : Int32).toInt = 50 := by decide
theorem ltv_51 : (51 : Int32).toInt = 51 := by decide
theorem ltv_52 : (52 : Int32).toInt = 52 := by decide
theorem ltv_53 : (53 : Int32).toInt = 53 := by decide
theorem ltv_54 : (54 : Int32).toInt = 54 := by decide
theorem ltv_55 : (55 : Int32).toInt = 55 := by decide
theorem ltv_56 : (56 : Int32).toInt = 56 := by decide
theorem ltv_57 : (57 : Int32).toInt = 57 := by decide
theorem ltv_58 : (58 : Int32).toInt = 58 := by decide
theorem ltv_59 : (59 : Int32).toInt = 59 := by decide
theorem ltv_60 : (60 : Int32).toInt = 60 := by decide
theorem ltv_61 : (61 : Int32).toInt = 61 := by decide
theorem ltv_62 : (62 : Int32).toInt = 62 := by decide
theorem ltv_63 : (63 : Int32).toInt = 63 := by decide
theorem ltv_64 : (64 : Int32).toInt = 64 := by decide
theorem ltv_65 : (65 : Int32).toInt = 65 := by decide
theorem ltv_66 : (66 : Int32).toInt = 66 := by decide
theorem ltv_67 : (67 : Int32).toInt = 67 := by decide
theorem ltv_68 : (68 : Int32).toInt = 68 := by decide
theorem ltv_69 : (69 : Int32).toInt = 69 := by decide
theorem ltv_70 : (70 : Int32).toInt = 70 := by decide
theorem ltv_m100 : ((-100) : Int32).toInt = (-100) := by decide
theorem ltv_99 : (99 : Int32).toInt = 99 := by decide
theorem ltv_100 : (100 : Int32).toInt = 100 := by decide
theorem ltv_255 : (255 : Int32).toInt = 255 := by decide
theorem ltv_288 : (288 : Int32).toInt = 288 := by decide
theorem ltv_799 : (799 : Int32).toInt = 799 := by decide
theorem ltv_800 : (800 : Int32).toInt = 800 := by decide
theorem ltv_899 : (899 : Int32).toInt = 899 := by decide
theorem ltv_900 : (900 : Int32).toInt = 900 := by decide
theorem ltv_998 : (998 : Int32).toInt = 998 := by decide
theorem ltv_999 : (999 : Int32).toInt = 999 := by decide
theorem ltv_1000 : (1000 : Int32).toInt = 1000 := by decide
theorem ltv_65536 : (65536 : Int32).toInt = 65536 := by decide
theorem ltv_65537 : (65537 : Int32).toInt = 65537 := by decide
theorem iadd_t {x y : Int32} (h1 : -2147483648 ≤ x.toInt + y.toInt) (h2 : x.toInt + y.toInt ≤ 2147483647) : (x + y).toInt = x.toInt + y.toInt := by
  rw [Int32.toInt_add]
  exact Int.bmod_eq_of_le (by omega) (by omega)
theorem isub_t {x y : Int32} (h1 : -2147483648 ≤ x.toInt - y.toInt) (h2 : x.toInt - y.toInt ≤ 2147483647) : (x - y).toInt = x.toInt - y.toInt := by
  rw [Int32.toInt_sub]
  exact Int.bmod_eq_of_le (by omega) (by omega)
theorem imul_t {x y : Int32} (h1 : -2147483648 ≤ x.toInt * y.toInt) (h2 : x.toInt * y.toInt ≤ 2147483647) : (x * y).toInt = x.toInt * y.toInt := by
  rw [Int32.toInt_mul]
  exact Int.bmod_eq_of_le (by omega) (by omega)
theorem inn_of {x : Int32} (h : 0 ≤ x.toInt) : ∃ j : Nat, j < 2 ^ 31 ∧ x = nI j := nI_of (by rw [fa_lt, ltv_0]; omega)
theorem irem_t {x y : Int32} (hx : 0 ≤ x.toInt) (hy : 0 < y.toInt) : (x - x / y * y).toInt = x.toInt % y.toInt := by
  obtain ⟨a, ha, rfl⟩ := inn_of hx
  obtain ⟨d, hd, rfl⟩ := inn_of (Int.le_of_lt hy)
  rw [nI_toInt hd] at hy
  have h0 : 0 < d := by omega
  rw [pk_rem ha h0 hd, nI_toInt (Nat.lt_of_le_of_lt (Nat.mod_le _ _) ha), nI_toInt ha, nI_toInt hd]
  first | rfl | simp
theorem idiv_t {x y : Int32} (hx : 0 ≤ x.toInt) (hy : 0 < y.toInt) : (x / y).toInt = x.toInt / y.toInt := by
  obtain ⟨a, ha, rfl⟩ := inn_of hx
  obtain ⟨d, hd, rfl⟩ := inn_of (Int.le_of_lt hy)
  rw [nI_toInt hd] at hy
  have h0 : 0 < d := by omega
  rw [pk_div ha h0 hd, nI_toInt (Nat.lt_of_le_of_lt (Nat.div_le_self _ _) ha), nI_toInt ha, nI_toInt hd]
  first | rfl | simp
theorem ishl1_f : ∀ j : Nat, j ≤ 8 → ((1 : Int32) <<< (nI j &&& 31)).toInt = ((2 ^ j : Nat) : Int) := by decide
theorem ishl1_t (c d p q : Nat) (hp : 2 ^ c = p) (hq : 2 ^ d = q) (hd : d ≤ 8) {k : Int32} (h1 : (c : Int) ≤ k.toInt) (h2 : k.toInt ≤ (d : Int)) : (p : Int) ≤ ((1 : Int32) <<< (k &&& 31)).toInt ∧ ((1 : Int32) <<< (k &&& 31)).toInt ≤ (q : Int) := by
  obtain ⟨j, hj, rfl⟩ := inn_of (x := k) (by omega)
  rw [nI_toInt hj] at h1 h2
  rw [ishl1_f j (by omega), ← hp, ← hq]
  exact ⟨Int.ofNat_le.mpr (Nat.pow_le_pow_right (by decide) (by omega)), Int.ofNat_le.mpr (Nat.pow_le_pow_right (by decide) (by omega))⟩
theorem ior_t (n q : Nat) (hq : 2 ^ n = q + 1) (hn : n ≤ 8) {x y : Int32} (hx : 0 ≤ x.toInt ∧ x.toInt ≤ (q : Int)) (hy : 0 ≤ y.toInt ∧ y.toInt ≤ (q : Int)) : 0 ≤ (x ||| y).toInt ∧ (x ||| y).toInt ≤ (q : Int) := by
  obtain ⟨a, ha, rfl⟩ := inn_of hx.1
  obtain ⟨b, hb, rfl⟩ := inn_of hy.1
  rw [nI_toInt ha] at hx
  rw [nI_toInt hb] at hy
  have h : a ||| b < 2 ^ n := Nat.or_lt_two_pow (by omega) (by omega)
  have h2 : 2 ^ n ≤ 2 ^ 8 := Nat.pow_le_pow_right (by decide) hn
  rw [fa_or, nI_toInt (by omega)]
  omega
theorem lg_ne {x : Int64} {z : Int32} (e : z = lg_cmp x 0) (c : ¬ z = 0) : ¬ x = 0 := by
  intro h
  apply c
  rw [e, h]
  decide
theorem narz {v : Int32} (h : 0 ≤ v.toInt ∧ v.toInt ≤ 1) : narrow .boolean (.int v) = .int v := by
  rcases (show v = 0 ∨ v = 1 by rw [fa_eq, fa_eq, ltv_0, ltv_1]; omega) with rfl | rfl <;> rfl
/-! decode rows by one pass over a method's bytes -/
def zby (c : ByteArray) : List Nat := c.data.toList.map UInt8.toNat
theorem zby_len (c : ByteArray) : (zby c).length = c.size := by
  unfold zby
  rw [List.length_map, Array.length_toList]
  rfl
theorem z_drop {l : List Nat} {p b : Nat} {r : List Nat} (h : l.drop p = b :: r) : ∃ hp : p < l.length, l[p] = b ∧ l.drop (p + 1) = r := by
  by_cases hp : p < l.length
  · rw [List.drop_eq_getElem_cons hp] at h
    injection h with h1 h2
    exact ⟨hp, h1, h2⟩
  · rw [List.drop_eq_nil_of_le (by omega)] at h
    cases h
theorem z_nx {l : List Nat} {p b : Nat} {r : List Nat} (h : l.drop p = b :: r) : l.drop (p + 1) = r := (z_drop h).2.2
abbrev ZD (α : Type) : Type := Jvm.ClassFile.Decoder α
abbrev zu1 : ZD Nat := Jvm.ClassFile.Reader.u1
abbrev zu2 : ZD Nat := Jvm.ClassFile.Reader.u2
theorem z_u1 {c : ByteArray} {p b : Nat} {r : List Nat} (h : (zby c).drop p = b :: r) : zu1 c p = .ok (b, p + 1) := by
  obtain ⟨hp, e, -⟩ := z_drop h
  have hs : p < c.size := by
    rw [← zby_len]
    exact hp
  have e2 : (c[p]'hs).toNat = b := by
    rw [← e]
    simp only [zby, List.getElem_map, Array.getElem_toList]
    rfl
  have key : ∀ (t : p < c.size → ZD Nat) (e : ¬ p < c.size → ZD Nat), (dite (p < c.size) t e) c p = t hs c p := by
    intro t e
    rw [dif_pos hs]
  refine (key (fun h => (do set (p + 1); pure (c[p]'h).toNat)) _).trans ?_
  show Except.ok ((c[p]'hs).toNat, p + 1) = _
  rw [e2]
theorem z_bd {α β : Type} {m : ZD α} {F : α → ZD β} {c : ByteArray} {p p' : Nat} {a : α} (h : m c p = .ok (a, p')) : (m >>= F) c p = F a c p' := by
  simp only [bind, ReaderT.bind, StateT.bind, h]
  rfl
theorem z_mp {α β : Type} {m : ZD α} {f : α → β} {c : ByteArray} {p p' : Nat} {a : α} (h : m c p = .ok (a, p')) : (f <$> m) c p = .ok (f a, p') := by
  have e : (f <$> m) = (m >>= fun x => pure (f x)) := rfl
  rw [e, z_bd h]
  rfl
theorem z_u2 {c : ByteArray} {p x y : Nat} {r : List Nat} (h : (zby c).drop p = x :: y :: r) : zu2 c p = .ok (x * 256 + y, p + 2) := by
  show (zu1 >>= fun hi => zu1 >>= fun lo => pure (hi * 256 + lo)) c p = _
  rw [z_bd (z_u1 h), z_bd (z_u1 (z_nx h))]
  rfl
theorem z_s1 {c : ByteArray} {p b : Nat} {r : List Nat} (h : (zby c).drop p = b :: r) : (Jvm.ClassFile.Reader.s1 : ZD Int) c p = .ok (Jvm.ClassFile.Reader.signed 8 b, p + 1) := z_mp (z_u1 h)
theorem z_s2 {c : ByteArray} {p x y : Nat} {r : List Nat} (h : (zby c).drop p = x :: y :: r) : (Jvm.ClassFile.Reader.s2 : ZD Int) c p = .ok (Jvm.ClassFile.Reader.signed 16 (x * 256 + y), p + 2) := z_mp (z_u2 h)
theorem z_dec {c : ByteArray} {p n : Nat} {i : Instr} (h : Jvm.ClassFile.Decoder.instr p c p = .ok (i, p + n)) : decode c p = .ok (i, n) := by
  unfold decode Jvm.ClassFile.Reader.runAt
  have e : ((Jvm.ClassFile.Decoder.instr p).run c).run p = .ok (i, p + n) := h
  rw [e]
  show Except.ok (i, p + n - p) = _
  rw [Nat.add_sub_cancel_left]
def Ok0 (op : Nat) (i : Instr) : Prop := ∀ (c : ByteArray) (p : Nat) (r : List Nat), (zby c).drop p = op :: r → decode c p = .ok (i, 1)
def OkU1 (op : Nat) (f : Nat → Instr) : Prop := ∀ (c : ByteArray) (p x : Nat) (r : List Nat), (zby c).drop p = op :: x :: r → decode c p = .ok (f x, 2)
def OkS1 (op : Nat) (f : Int → Instr) : Prop := ∀ (c : ByteArray) (p x : Nat) (r : List Nat), (zby c).drop p = op :: x :: r → decode c p = .ok (f (Jvm.ClassFile.Reader.signed 8 x), 2)
def OkU2 (op : Nat) (f : Nat → Instr) : Prop := ∀ (c : ByteArray) (p x y : Nat) (r : List Nat), (zby c).drop p = op :: x :: y :: r → decode c p = .ok (f (x * 256 + y), 3)
def OkS2 (op : Nat) (f : Int → Instr) : Prop := ∀ (c : ByteArray) (p x y : Nat) (r : List Nat), (zby c).drop p = op :: x :: y :: r → decode c p = .ok (f (Jvm.ClassFile.Reader.signed 16 (x * 256 + y)), 3)
def OkN (x : Nat) (i : Instr) : Prop := ∀ (c : ByteArray) (p : Nat) (r : List Nat), (zby c).drop p = 188 :: x :: r → decode c p = .ok (i, 2)
set_option maxRecDepth 20000 in
theorem zo_42 : Ok0 42 (.aload_n 0) := by
  intro c p r h
  refine z_dec ?_
  unfold Jvm.ClassFile.Decoder.instr
  rw [z_bd (z_u1 h)]
  rfl
set_option maxRecDepth 20000 in
theorem zo_43 : Ok0 43 (.aload_n 1) := by
  intro c p r h
  refine z_dec ?_
  unfold Jvm.ClassFile.Decoder.instr
  rw [z_bd (z_u1 h)]
  rfl
set_option maxRecDepth 20000 in
theorem zo_44 : Ok0 44 (.aload_n 2) := by
  intro c p r h
  refine z_dec ?_
  unfold Jvm.ClassFile.Decoder.instr
  rw [z_bd (z_u1 h)]
  rfl
set_option maxRecDepth 20000 in
theorem zo_45 : Ok0 45 (.aload_n 3) := by
  intro c p r h
  refine z_dec ?_
  unfold Jvm.ClassFile.Decoder.instr
  rw [z_bd (z_u1 h)]
  rfl
set_option maxRecDepth 20000 in
theorem zo_26 : Ok0 26 (.iload_n 0) := by
  intro c p r h
  refine z_dec ?_
  unfold Jvm.ClassFile.Decoder.instr
  rw [z_bd (z_u1 h)]
  rfl
set_option maxRecDepth 20000 in
theorem zo_27 : Ok0 27 (.iload_n 1) := by
  intro c p r h
  refine z_dec ?_
  unfold Jvm.ClassFile.Decoder.instr
  rw [z_bd (z_u1 h)]
  rfl
set_option maxRecDepth 20000 in
theorem zo_28 : Ok0 28 (.iload_n 2) := by
  intro c p r h
  refine z_dec ?_
  unfold Jvm.ClassFile.Decoder.instr
  rw [z_bd (z_u1 h)]
  rfl
set_option maxRecDepth 20000 in
theorem zo_29 : Ok0 29 (.iload_n 3) := by
  intro c p r h
  refine z_dec ?_
  unfold Jvm.ClassFile.Decoder.instr
  rw [z_bd (z_u1 h)]
  rfl
set_option maxRecDepth 20000 in
theorem zo_3 : Ok0 3 (.iconst 0) := by
  intro c p r h
  refine z_dec ?_
  unfold Jvm.ClassFile.Decoder.instr
  rw [z_bd (z_u1 h)]
  rfl
set_option maxRecDepth 20000 in
theorem zo_4 : Ok0 4 (.iconst 1) := by
  intro c p r h
  refine z_dec ?_
  unfold Jvm.ClassFile.Decoder.instr
  rw [z_bd (z_u1 h)]
  rfl
set_option maxRecDepth 20000 in
theorem zo_5 : Ok0 5 (.iconst 2) := by
  intro c p r h
  refine z_dec ?_
  unfold Jvm.ClassFile.Decoder.instr
  rw [z_bd (z_u1 h)]
  rfl
set_option maxRecDepth 20000 in
theorem zo_6 : Ok0 6 (.iconst 3) := by
  intro c p r h
  refine z_dec ?_
  unfold Jvm.ClassFile.Decoder.instr
  rw [z_bd (z_u1 h)]
  rfl
set_option maxRecDepth 20000 in
theorem zo_7 : Ok0 7 (.iconst 4) := by
  intro c p r h
  refine z_dec ?_
  unfold Jvm.ClassFile.Decoder.instr
  rw [z_bd (z_u1 h)]
  rfl
set_option maxRecDepth 20000 in
theorem zo_8 : Ok0 8 (.iconst 5) := by
  intro c p r h
  refine z_dec ?_
  unfold Jvm.ClassFile.Decoder.instr
  rw [z_bd (z_u1 h)]
  rfl
set_option maxRecDepth 20000 in
theorem zo_2 : Ok0 2 (.iconst (-1)) := by
  intro c p r h
  refine z_dec ?_
  unfold Jvm.ClassFile.Decoder.instr
  rw [z_bd (z_u1 h)]
  rfl
set_option maxRecDepth 20000 in
theorem zo_172 : Ok0 172 (.ireturn) := by
  intro c p r h
  refine z_dec ?_
  unfold Jvm.ClassFile.Decoder.instr
  rw [z_bd (z_u1 h)]
  rfl
set_option maxRecDepth 20000 in
theorem zo_46 : Ok0 46 (.iaload) := by
  intro c p r h
  refine z_dec ?_
  unfold Jvm.ClassFile.Decoder.instr
  rw [z_bd (z_u1 h)]
  rfl
set_option maxRecDepth 20000 in
theorem zo_96 : Ok0 96 (.iadd) := by
  intro c p r h
  refine z_dec ?_
  unfold Jvm.ClassFile.Decoder.instr
  rw [z_bd (z_u1 h)]
  rfl
set_option maxRecDepth 20000 in
theorem zo_59 : Ok0 59 (.istore_n 0) := by
  intro c p r h
  refine z_dec ?_
  unfold Jvm.ClassFile.Decoder.instr
  rw [z_bd (z_u1 h)]
  rfl
set_option maxRecDepth 20000 in
theorem zo_60 : Ok0 60 (.istore_n 1) := by
  intro c p r h
  refine z_dec ?_
  unfold Jvm.ClassFile.Decoder.instr
  rw [z_bd (z_u1 h)]
  rfl
set_option maxRecDepth 20000 in
theorem zo_61 : Ok0 61 (.istore_n 2) := by
  intro c p r h
  refine z_dec ?_
  unfold Jvm.ClassFile.Decoder.instr
  rw [z_bd (z_u1 h)]
  rfl
set_option maxRecDepth 20000 in
theorem zo_62 : Ok0 62 (.istore_n 3) := by
  intro c p r h
  refine z_dec ?_
  unfold Jvm.ClassFile.Decoder.instr
  rw [z_bd (z_u1 h)]
  rfl
set_option maxRecDepth 20000 in
theorem zo_87 : Ok0 87 (.pop) := by
  intro c p r h
  refine z_dec ?_
  unfold Jvm.ClassFile.Decoder.instr
  rw [z_bd (z_u1 h)]
  rfl
set_option maxRecDepth 20000 in
theorem zo_79 : Ok0 79 (.iastore) := by
  intro c p r h
  refine z_dec ?_
  unfold Jvm.ClassFile.Decoder.instr
  rw [z_bd (z_u1 h)]
  rfl
set_option maxRecDepth 20000 in
theorem zo_100 : Ok0 100 (.isub) := by
  intro c p r h
  refine z_dec ?_
  unfold Jvm.ClassFile.Decoder.instr
  rw [z_bd (z_u1 h)]
  rfl
set_option maxRecDepth 20000 in
theorem zo_177 : Ok0 177 (.return_) := by
  intro c p r h
  refine z_dec ?_
  unfold Jvm.ClassFile.Decoder.instr
  rw [z_bd (z_u1 h)]
  rfl
set_option maxRecDepth 20000 in
theorem zo_89 : Ok0 89 (.dup) := by
  intro c p r h
  refine z_dec ?_
  unfold Jvm.ClassFile.Decoder.instr
  rw [z_bd (z_u1 h)]
  rfl
set_option maxRecDepth 20000 in
theorem zo_30 : Ok0 30 (.lload_n 0) := by
  intro c p r h
  refine z_dec ?_
  unfold Jvm.ClassFile.Decoder.instr
  rw [z_bd (z_u1 h)]
  rfl
set_option maxRecDepth 20000 in
theorem zo_31 : Ok0 31 (.lload_n 1) := by
  intro c p r h
  refine z_dec ?_
  unfold Jvm.ClassFile.Decoder.instr
  rw [z_bd (z_u1 h)]
  rfl
set_option maxRecDepth 20000 in
theorem zo_32 : Ok0 32 (.lload_n 2) := by
  intro c p r h
  refine z_dec ?_
  unfold Jvm.ClassFile.Decoder.instr
  rw [z_bd (z_u1 h)]
  rfl
set_option maxRecDepth 20000 in
theorem zo_33 : Ok0 33 (.lload_n 3) := by
  intro c p r h
  refine z_dec ?_
  unfold Jvm.ClassFile.Decoder.instr
  rw [z_bd (z_u1 h)]
  rfl
set_option maxRecDepth 20000 in
theorem zo_104 : Ok0 104 (.imul) := by
  intro c p r h
  refine z_dec ?_
  unfold Jvm.ClassFile.Decoder.instr
  rw [z_bd (z_u1 h)]
  rfl
set_option maxRecDepth 20000 in
theorem zo_173 : Ok0 173 (.lreturn) := by
  intro c p r h
  refine z_dec ?_
  unfold Jvm.ClassFile.Decoder.instr
  rw [z_bd (z_u1 h)]
  rfl
set_option maxRecDepth 20000 in
theorem zo_63 : Ok0 63 (.lstore_n 0) := by
  intro c p r h
  refine z_dec ?_
  unfold Jvm.ClassFile.Decoder.instr
  rw [z_bd (z_u1 h)]
  rfl
set_option maxRecDepth 20000 in
theorem zo_64 : Ok0 64 (.lstore_n 1) := by
  intro c p r h
  refine z_dec ?_
  unfold Jvm.ClassFile.Decoder.instr
  rw [z_bd (z_u1 h)]
  rfl
set_option maxRecDepth 20000 in
theorem zo_65 : Ok0 65 (.lstore_n 2) := by
  intro c p r h
  refine z_dec ?_
  unfold Jvm.ClassFile.Decoder.instr
  rw [z_bd (z_u1 h)]
  rfl
set_option maxRecDepth 20000 in
theorem zo_66 : Ok0 66 (.lstore_n 3) := by
  intro c p r h
  refine z_dec ?_
  unfold Jvm.ClassFile.Decoder.instr
  rw [z_bd (z_u1 h)]
  rfl
set_option maxRecDepth 20000 in
theorem zo_9 : Ok0 9 (.lconst 0) := by
  intro c p r h
  refine z_dec ?_
  unfold Jvm.ClassFile.Decoder.instr
  rw [z_bd (z_u1 h)]
  rfl
set_option maxRecDepth 20000 in
theorem zo_10 : Ok0 10 (.lconst 1) := by
  intro c p r h
  refine z_dec ?_
  unfold Jvm.ClassFile.Decoder.instr
  rw [z_bd (z_u1 h)]
  rfl
set_option maxRecDepth 20000 in
theorem zo_190 : Ok0 190 (.arraylength) := by
  intro c p r h
  refine z_dec ?_
  unfold Jvm.ClassFile.Decoder.instr
  rw [z_bd (z_u1 h)]
  rfl
set_option maxRecDepth 20000 in
theorem zo_112 : Ok0 112 (.irem) := by
  intro c p r h
  refine z_dec ?_
  unfold Jvm.ClassFile.Decoder.instr
  rw [z_bd (z_u1 h)]
  rfl
set_option maxRecDepth 20000 in
theorem zo_108 : Ok0 108 (.idiv) := by
  intro c p r h
  refine z_dec ?_
  unfold Jvm.ClassFile.Decoder.instr
  rw [z_bd (z_u1 h)]
  rfl
set_option maxRecDepth 20000 in
theorem zo_126 : Ok0 126 (.iand) := by
  intro c p r h
  refine z_dec ?_
  unfold Jvm.ClassFile.Decoder.instr
  rw [z_bd (z_u1 h)]
  rfl
set_option maxRecDepth 20000 in
theorem zo_133 : Ok0 133 (.i2l) := by
  intro c p r h
  refine z_dec ?_
  unfold Jvm.ClassFile.Decoder.instr
  rw [z_bd (z_u1 h)]
  rfl
set_option maxRecDepth 20000 in
theorem zo_120 : Ok0 120 (.ishl) := by
  intro c p r h
  refine z_dec ?_
  unfold Jvm.ClassFile.Decoder.instr
  rw [z_bd (z_u1 h)]
  rfl
set_option maxRecDepth 20000 in
theorem zo_51 : Ok0 51 (.baload) := by
  intro c p r h
  refine z_dec ?_
  unfold Jvm.ClassFile.Decoder.instr
  rw [z_bd (z_u1 h)]
  rfl
set_option maxRecDepth 20000 in
theorem zo_148 : Ok0 148 (.lcmp) := by
  intro c p r h
  refine z_dec ?_
  unfold Jvm.ClassFile.Decoder.instr
  rw [z_bd (z_u1 h)]
  rfl
set_option maxRecDepth 20000 in
theorem zo_105 : Ok0 105 (.lmul) := by
  intro c p r h
  refine z_dec ?_
  unfold Jvm.ClassFile.Decoder.instr
  rw [z_bd (z_u1 h)]
  rfl
set_option maxRecDepth 20000 in
theorem zo_128 : Ok0 128 (.ior) := by
  intro c p r h
  refine z_dec ?_
  unfold Jvm.ClassFile.Decoder.instr
  rw [z_bd (z_u1 h)]
  rfl
set_option maxRecDepth 20000 in
theorem zo_88 : Ok0 88 (.pop2) := by
  intro c p r h
  refine z_dec ?_
  unfold Jvm.ClassFile.Decoder.instr
  rw [z_bd (z_u1 h)]
  rfl
set_option maxRecDepth 20000 in
theorem zo_122 : Ok0 122 (.ishr) := by
  intro c p r h
  refine z_dec ?_
  unfold Jvm.ClassFile.Decoder.instr
  rw [z_bd (z_u1 h)]
  rfl
set_option maxRecDepth 20000 in
theorem zo_97 : Ok0 97 (.ladd) := by
  intro c p r h
  refine z_dec ?_
  unfold Jvm.ClassFile.Decoder.instr
  rw [z_bd (z_u1 h)]
  rfl
set_option maxRecDepth 20000 in
theorem zo_124 : Ok0 124 (.iushr) := by
  intro c p r h
  refine z_dec ?_
  unfold Jvm.ClassFile.Decoder.instr
  rw [z_bd (z_u1 h)]
  rfl
set_option maxRecDepth 20000 in
theorem zo_75 : Ok0 75 (.astore_n 0) := by
  intro c p r h
  refine z_dec ?_
  unfold Jvm.ClassFile.Decoder.instr
  rw [z_bd (z_u1 h)]
  rfl
set_option maxRecDepth 20000 in
theorem zo_76 : Ok0 76 (.astore_n 1) := by
  intro c p r h
  refine z_dec ?_
  unfold Jvm.ClassFile.Decoder.instr
  rw [z_bd (z_u1 h)]
  rfl
set_option maxRecDepth 20000 in
theorem zo_77 : Ok0 77 (.astore_n 2) := by
  intro c p r h
  refine z_dec ?_
  unfold Jvm.ClassFile.Decoder.instr
  rw [z_bd (z_u1 h)]
  rfl
set_option maxRecDepth 20000 in
theorem zo_78 : Ok0 78 (.astore_n 3) := by
  intro c p r h
  refine z_dec ?_
  unfold Jvm.ClassFile.Decoder.instr
  rw [z_bd (z_u1 h)]
  rfl
set_option maxRecDepth 20000 in
theorem zo_101 : Ok0 101 (.lsub) := by
  intro c p r h
  refine z_dec ?_
  unfold Jvm.ClassFile.Decoder.instr
  rw [z_bd (z_u1 h)]
  rfl
set_option maxRecDepth 20000 in
theorem zo_92 : Ok0 92 (.dup2) := by
  intro c p r h
  refine z_dec ?_
  unfold Jvm.ClassFile.Decoder.instr
  rw [z_bd (z_u1 h)]
  rfl
set_option maxRecDepth 20000 in
theorem zo_50 : Ok0 50 (.aaload) := by
  intro c p r h
  refine z_dec ?_
  unfold Jvm.ClassFile.Decoder.instr
  rw [z_bd (z_u1 h)]
  rfl
set_option maxRecDepth 20000 in
theorem zo_113 : Ok0 113 (.lrem) := by
  intro c p r h
  refine z_dec ?_
  unfold Jvm.ClassFile.Decoder.instr
  rw [z_bd (z_u1 h)]
  rfl
set_option maxRecDepth 20000 in
theorem zo_109 : Ok0 109 (.ldiv) := by
  intro c p r h
  refine z_dec ?_
  unfold Jvm.ClassFile.Decoder.instr
  rw [z_bd (z_u1 h)]
  rfl
set_option maxRecDepth 20000 in
theorem zo_80 : Ok0 80 (.lastore) := by
  intro c p r h
  refine z_dec ?_
  unfold Jvm.ClassFile.Decoder.instr
  rw [z_bd (z_u1 h)]
  rfl
set_option maxRecDepth 20000 in
theorem zo_84 : Ok0 84 (.bastore) := by
  intro c p r h
  refine z_dec ?_
  unfold Jvm.ClassFile.Decoder.instr
  rw [z_bd (z_u1 h)]
  rfl
set_option maxRecDepth 20000 in
theorem zo_47 : Ok0 47 (.laload) := by
  intro c p r h
  refine z_dec ?_
  unfold Jvm.ClassFile.Decoder.instr
  rw [z_bd (z_u1 h)]
  rfl
set_option maxRecDepth 20000 in
theorem zo_145 : Ok0 145 (.i2b) := by
  intro c p r h
  refine z_dec ?_
  unfold Jvm.ClassFile.Decoder.instr
  rw [z_bd (z_u1 h)]
  rfl
set_option maxRecDepth 20000 in
theorem zo_83 : Ok0 83 (.aastore) := by
  intro c p r h
  refine z_dec ?_
  unfold Jvm.ClassFile.Decoder.instr
  rw [z_bd (z_u1 h)]
  rfl
set_option maxRecDepth 20000 in
theorem zo_136 : Ok0 136 (.l2i) := by
  intro c p r h
  refine z_dec ?_
  unfold Jvm.ClassFile.Decoder.instr
  rw [z_bd (z_u1 h)]
  rfl
set_option maxRecDepth 20000 in
theorem zo_130 : Ok0 130 (.ixor) := by
  intro c p r h
  refine z_dec ?_
  unfold Jvm.ClassFile.Decoder.instr
  rw [z_bd (z_u1 h)]
  rfl
set_option maxRecDepth 20000 in
theorem zo_146 : Ok0 146 (.i2c) := by
  intro c p r h
  refine z_dec ?_
  unfold Jvm.ClassFile.Decoder.instr
  rw [z_bd (z_u1 h)]
  rfl
set_option maxRecDepth 20000 in
theorem zo_191 : Ok0 191 (.athrow) := by
  intro c p r h
  refine z_dec ?_
  unfold Jvm.ClassFile.Decoder.instr
  rw [z_bd (z_u1 h)]
  rfl
set_option maxRecDepth 20000 in
theorem zo_1 : Ok0 1 (.aconst_null) := by
  intro c p r h
  refine z_dec ?_
  unfold Jvm.ClassFile.Decoder.instr
  rw [z_bd (z_u1 h)]
  rfl
set_option maxRecDepth 20000 in
theorem zo_21 : OkU1 21 .iload := by
  intro c p x r h
  refine z_dec ?_
  unfold Jvm.ClassFile.Decoder.instr
  rw [z_bd (z_u1 h)]
  show (zu1 >>= fun v => pure (Instr.iload v)) c (p + 1) = _
  rw [z_bd (z_u1 (z_nx h))]
  rfl
set_option maxRecDepth 20000 in
theorem zo_54 : OkU1 54 .istore := by
  intro c p x r h
  refine z_dec ?_
  unfold Jvm.ClassFile.Decoder.instr
  rw [z_bd (z_u1 h)]
  show (zu1 >>= fun v => pure (Instr.istore v)) c (p + 1) = _
  rw [z_bd (z_u1 (z_nx h))]
  rfl
set_option maxRecDepth 20000 in
theorem zo_18 : OkU1 18 .ldc := by
  intro c p x r h
  refine z_dec ?_
  unfold Jvm.ClassFile.Decoder.instr
  rw [z_bd (z_u1 h)]
  show (zu1 >>= fun v => pure (Instr.ldc v)) c (p + 1) = _
  rw [z_bd (z_u1 (z_nx h))]
  rfl
set_option maxRecDepth 20000 in
theorem zo_22 : OkU1 22 .lload := by
  intro c p x r h
  refine z_dec ?_
  unfold Jvm.ClassFile.Decoder.instr
  rw [z_bd (z_u1 h)]
  show (zu1 >>= fun v => pure (Instr.lload v)) c (p + 1) = _
  rw [z_bd (z_u1 (z_nx h))]
  rfl
set_option maxRecDepth 20000 in
theorem zo_55 : OkU1 55 .lstore := by
  intro c p x r h
  refine z_dec ?_
  unfold Jvm.ClassFile.Decoder.instr
  rw [z_bd (z_u1 h)]
  show (zu1 >>= fun v => pure (Instr.lstore v)) c (p + 1) = _
  rw [z_bd (z_u1 (z_nx h))]
  rfl
set_option maxRecDepth 20000 in
theorem zo_25 : OkU1 25 .aload := by
  intro c p x r h
  refine z_dec ?_
  unfold Jvm.ClassFile.Decoder.instr
  rw [z_bd (z_u1 h)]
  show (zu1 >>= fun v => pure (Instr.aload v)) c (p + 1) = _
  rw [z_bd (z_u1 (z_nx h))]
  rfl
set_option maxRecDepth 20000 in
theorem zo_58 : OkU1 58 .astore := by
  intro c p x r h
  refine z_dec ?_
  unfold Jvm.ClassFile.Decoder.instr
  rw [z_bd (z_u1 h)]
  show (zu1 >>= fun v => pure (Instr.astore v)) c (p + 1) = _
  rw [z_bd (z_u1 (z_nx h))]
  rfl
set_option maxRecDepth 20000 in
theorem zo_16 : OkS1 16 .bipush := by
  intro c p x r h
  refine z_dec ?_
  unfold Jvm.ClassFile.Decoder.instr
  rw [z_bd (z_u1 h)]
  show ((Jvm.ClassFile.Reader.s1 : ZD Int) >>= fun v => pure (Instr.bipush v)) c (p + 1) = _
  rw [z_bd (z_s1 (z_nx h))]
  rfl
set_option maxRecDepth 20000 in
theorem zo_180 : OkU2 180 (.getfield) := by
  intro c p x y r h
  refine z_dec ?_
  unfold Jvm.ClassFile.Decoder.instr
  rw [z_bd (z_u1 h)]
  show (zu2 >>= fun v => pure (Instr.getfield v)) c (p + 1) = _
  rw [z_bd (z_u2 (z_nx h))]
  rfl
set_option maxRecDepth 20000 in
theorem zo_182 : OkU2 182 (.invokevirtual) := by
  intro c p x y r h
  refine z_dec ?_
  unfold Jvm.ClassFile.Decoder.instr
  rw [z_bd (z_u1 h)]
  show (zu2 >>= fun v => pure (Instr.invokevirtual v)) c (p + 1) = _
  rw [z_bd (z_u2 (z_nx h))]
  rfl
set_option maxRecDepth 20000 in
theorem zo_181 : OkU2 181 (.putfield) := by
  intro c p x y r h
  refine z_dec ?_
  unfold Jvm.ClassFile.Decoder.instr
  rw [z_bd (z_u1 h)]
  show (zu2 >>= fun v => pure (Instr.putfield v)) c (p + 1) = _
  rw [z_bd (z_u2 (z_nx h))]
  rfl
set_option maxRecDepth 20000 in
theorem zo_184 : OkU2 184 (.invokestatic) := by
  intro c p x y r h
  refine z_dec ?_
  unfold Jvm.ClassFile.Decoder.instr
  rw [z_bd (z_u1 h)]
  show (zu2 >>= fun v => pure (Instr.invokestatic v)) c (p + 1) = _
  rw [z_bd (z_u2 (z_nx h))]
  rfl
set_option maxRecDepth 20000 in
theorem zo_183 : OkU2 183 (.invokespecial) := by
  intro c p x y r h
  refine z_dec ?_
  unfold Jvm.ClassFile.Decoder.instr
  rw [z_bd (z_u1 h)]
  show (zu2 >>= fun v => pure (Instr.invokespecial v)) c (p + 1) = _
  rw [z_bd (z_u2 (z_nx h))]
  rfl
set_option maxRecDepth 20000 in
theorem zo_20 : OkU2 20 (.ldc2_w) := by
  intro c p x y r h
  refine z_dec ?_
  unfold Jvm.ClassFile.Decoder.instr
  rw [z_bd (z_u1 h)]
  show (zu2 >>= fun v => pure (Instr.ldc2_w v)) c (p + 1) = _
  rw [z_bd (z_u2 (z_nx h))]
  rfl
set_option maxRecDepth 20000 in
theorem zo_187 : OkU2 187 (.new) := by
  intro c p x y r h
  refine z_dec ?_
  unfold Jvm.ClassFile.Decoder.instr
  rw [z_bd (z_u1 h)]
  show (zu2 >>= fun v => pure (Instr.new v)) c (p + 1) = _
  rw [z_bd (z_u2 (z_nx h))]
  rfl
set_option maxRecDepth 20000 in
theorem zo_19 : OkU2 19 (.ldc_w) := by
  intro c p x y r h
  refine z_dec ?_
  unfold Jvm.ClassFile.Decoder.instr
  rw [z_bd (z_u1 h)]
  show (zu2 >>= fun v => pure (Instr.ldc_w v)) c (p + 1) = _
  rw [z_bd (z_u2 (z_nx h))]
  rfl
set_option maxRecDepth 20000 in
theorem zo_178 : OkU2 178 (.getstatic) := by
  intro c p x y r h
  refine z_dec ?_
  unfold Jvm.ClassFile.Decoder.instr
  rw [z_bd (z_u1 h)]
  show (zu2 >>= fun v => pure (Instr.getstatic v)) c (p + 1) = _
  rw [z_bd (z_u2 (z_nx h))]
  rfl
set_option maxRecDepth 20000 in
theorem zo_189 : OkU2 189 (.anewarray) := by
  intro c p x y r h
  refine z_dec ?_
  unfold Jvm.ClassFile.Decoder.instr
  rw [z_bd (z_u1 h)]
  show (zu2 >>= fun v => pure (Instr.anewarray v)) c (p + 1) = _
  rw [z_bd (z_u2 (z_nx h))]
  rfl
set_option maxRecDepth 20000 in
theorem zo_167 : OkS2 167 (.goto) := by
  intro c p x y r h
  refine z_dec ?_
  unfold Jvm.ClassFile.Decoder.instr
  rw [z_bd (z_u1 h)]
  show ((Jvm.ClassFile.Reader.s2 : ZD Int) >>= fun v => pure (Instr.goto v)) c (p + 1) = _
  rw [z_bd (z_s2 (z_nx h))]
  rfl
set_option maxRecDepth 20000 in
theorem zo_153 : OkS2 153 (.ifCond .eq) := by
  intro c p x y r h
  refine z_dec ?_
  unfold Jvm.ClassFile.Decoder.instr
  rw [z_bd (z_u1 h)]
  show ((Jvm.ClassFile.Reader.s2 : ZD Int) >>= fun v => pure (Instr.ifCond .eq v)) c (p + 1) = _
  rw [z_bd (z_s2 (z_nx h))]
  rfl
set_option maxRecDepth 20000 in
theorem zo_154 : OkS2 154 (.ifCond .ne) := by
  intro c p x y r h
  refine z_dec ?_
  unfold Jvm.ClassFile.Decoder.instr
  rw [z_bd (z_u1 h)]
  show ((Jvm.ClassFile.Reader.s2 : ZD Int) >>= fun v => pure (Instr.ifCond .ne v)) c (p + 1) = _
  rw [z_bd (z_s2 (z_nx h))]
  rfl
set_option maxRecDepth 20000 in
theorem zo_155 : OkS2 155 (.ifCond .lt) := by
  intro c p x y r h
  refine z_dec ?_
  unfold Jvm.ClassFile.Decoder.instr
  rw [z_bd (z_u1 h)]
  show ((Jvm.ClassFile.Reader.s2 : ZD Int) >>= fun v => pure (Instr.ifCond .lt v)) c (p + 1) = _
  rw [z_bd (z_s2 (z_nx h))]
  rfl
set_option maxRecDepth 20000 in
theorem zo_156 : OkS2 156 (.ifCond .ge) := by
  intro c p x y r h
  refine z_dec ?_
  unfold Jvm.ClassFile.Decoder.instr
  rw [z_bd (z_u1 h)]
  show ((Jvm.ClassFile.Reader.s2 : ZD Int) >>= fun v => pure (Instr.ifCond .ge v)) c (p + 1) = _
  rw [z_bd (z_s2 (z_nx h))]
  rfl
set_option maxRecDepth 20000 in
theorem zo_157 : OkS2 157 (.ifCond .gt) := by
  intro c p x y r h
  refine z_dec ?_
  unfold Jvm.ClassFile.Decoder.instr
  rw [z_bd (z_u1 h)]
  show ((Jvm.ClassFile.Reader.s2 : ZD Int) >>= fun v => pure (Instr.ifCond .gt v)) c (p + 1) = _
  rw [z_bd (z_s2 (z_nx h))]
  rfl
set_option maxRecDepth 20000 in
theorem zo_158 : OkS2 158 (.ifCond .le) := by
  intro c p x y r h
  refine z_dec ?_
  unfold Jvm.ClassFile.Decoder.instr
  rw [z_bd (z_u1 h)]
  show ((Jvm.ClassFile.Reader.s2 : ZD Int) >>= fun v => pure (Instr.ifCond .le v)) c (p + 1) = _
  rw [z_bd (z_s2 (z_nx h))]
  rfl
set_option maxRecDepth 20000 in
theorem zo_159 : OkS2 159 (.if_icmp .eq) := by
  intro c p x y r h
  refine z_dec ?_
  unfold Jvm.ClassFile.Decoder.instr
  rw [z_bd (z_u1 h)]
  show ((Jvm.ClassFile.Reader.s2 : ZD Int) >>= fun v => pure (Instr.if_icmp .eq v)) c (p + 1) = _
  rw [z_bd (z_s2 (z_nx h))]
  rfl
set_option maxRecDepth 20000 in
theorem zo_160 : OkS2 160 (.if_icmp .ne) := by
  intro c p x y r h
  refine z_dec ?_
  unfold Jvm.ClassFile.Decoder.instr
  rw [z_bd (z_u1 h)]
  show ((Jvm.ClassFile.Reader.s2 : ZD Int) >>= fun v => pure (Instr.if_icmp .ne v)) c (p + 1) = _
  rw [z_bd (z_s2 (z_nx h))]
  rfl
set_option maxRecDepth 20000 in
theorem zo_161 : OkS2 161 (.if_icmp .lt) := by
  intro c p x y r h
  refine z_dec ?_
  unfold Jvm.ClassFile.Decoder.instr
  rw [z_bd (z_u1 h)]
  show ((Jvm.ClassFile.Reader.s2 : ZD Int) >>= fun v => pure (Instr.if_icmp .lt v)) c (p + 1) = _
  rw [z_bd (z_s2 (z_nx h))]
  rfl
set_option maxRecDepth 20000 in
theorem zo_162 : OkS2 162 (.if_icmp .ge) := by
  intro c p x y r h
  refine z_dec ?_
  unfold Jvm.ClassFile.Decoder.instr
  rw [z_bd (z_u1 h)]
  show ((Jvm.ClassFile.Reader.s2 : ZD Int) >>= fun v => pure (Instr.if_icmp .ge v)) c (p + 1) = _
  rw [z_bd (z_s2 (z_nx h))]
  rfl
set_option maxRecDepth 20000 in
theorem zo_163 : OkS2 163 (.if_icmp .gt) := by
  intro c p x y r h
  refine z_dec ?_
  unfold Jvm.ClassFile.Decoder.instr
  rw [z_bd (z_u1 h)]
  show ((Jvm.ClassFile.Reader.s2 : ZD Int) >>= fun v => pure (Instr.if_icmp .gt v)) c (p + 1) = _
  rw [z_bd (z_s2 (z_nx h))]
  rfl
set_option maxRecDepth 20000 in
theorem zo_164 : OkS2 164 (.if_icmp .le) := by
  intro c p x y r h
  refine z_dec ?_
  unfold Jvm.ClassFile.Decoder.instr
  rw [z_bd (z_u1 h)]
  show ((Jvm.ClassFile.Reader.s2 : ZD Int) >>= fun v => pure (Instr.if_icmp .le v)) c (p + 1) = _
  rw [z_bd (z_s2 (z_nx h))]
  rfl
set_option maxRecDepth 20000 in
theorem zo_17 : OkS2 17 (.sipush) := by
  intro c p x y r h
  refine z_dec ?_
  unfold Jvm.ClassFile.Decoder.instr
  rw [z_bd (z_u1 h)]
  show ((Jvm.ClassFile.Reader.s2 : ZD Int) >>= fun v => pure (Instr.sipush v)) c (p + 1) = _
  rw [z_bd (z_s2 (z_nx h))]
  rfl
set_option maxRecDepth 20000 in
theorem zo_199 : OkS2 199 (.ifnonnull) := by
  intro c p x y r h
  refine z_dec ?_
  unfold Jvm.ClassFile.Decoder.instr
  rw [z_bd (z_u1 h)]
  show ((Jvm.ClassFile.Reader.s2 : ZD Int) >>= fun v => pure (Instr.ifnonnull v)) c (p + 1) = _
  rw [z_bd (z_s2 (z_nx h))]
  rfl
set_option maxRecDepth 20000 in
theorem zo_198 : OkS2 198 (.ifnull) := by
  intro c p x y r h
  refine z_dec ?_
  unfold Jvm.ClassFile.Decoder.instr
  rw [z_bd (z_u1 h)]
  show ((Jvm.ClassFile.Reader.s2 : ZD Int) >>= fun v => pure (Instr.ifnull v)) c (p + 1) = _
  rw [z_bd (z_s2 (z_nx h))]
  rfl
set_option maxRecDepth 20000 in
theorem zn_10 : OkN 10 (.newarray .int) := by
  intro c p r h
  refine z_dec ?_
  unfold Jvm.ClassFile.Decoder.instr
  rw [z_bd (z_u1 h)]
  show (Jvm.ClassFile.Decoder.newarray p) c (p + 1) = _
  unfold Jvm.ClassFile.Decoder.newarray
  rw [z_bd (z_u1 (z_nx h))]
  rfl
set_option maxRecDepth 20000 in
theorem zn_11 : OkN 11 (.newarray .long) := by
  intro c p r h
  refine z_dec ?_
  unfold Jvm.ClassFile.Decoder.instr
  rw [z_bd (z_u1 h)]
  show (Jvm.ClassFile.Decoder.newarray p) c (p + 1) = _
  unfold Jvm.ClassFile.Decoder.newarray
  rw [z_bd (z_u1 (z_nx h))]
  rfl
set_option maxRecDepth 20000 in
theorem zn_8 : OkN 8 (.newarray .byte) := by
  intro c p r h
  refine z_dec ?_
  unfold Jvm.ClassFile.Decoder.instr
  rw [z_bd (z_u1 h)]
  show (Jvm.ClassFile.Decoder.newarray p) c (p + 1) = _
  unfold Jvm.ClassFile.Decoder.newarray
  rw [z_bd (z_u1 (z_nx h))]
  rfl
set_option maxRecDepth 20000 in
theorem zn_4 : OkN 4 (.newarray .boolean) := by
  intro c p r h
  refine z_dec ?_
  unfold Jvm.ClassFile.Decoder.instr
  rw [z_bd (z_u1 h)]
  show (Jvm.ClassFile.Decoder.newarray p) c (p + 1) = _
  unfold Jvm.ClassFile.Decoder.newarray
  rw [z_bd (z_u1 (z_nx h))]
  rfl
set_option maxRecDepth 20000 in
theorem zo_132 {c : ByteArray} {p x y : Nat} {r : List Nat} (h : (zby c).drop p = 132 :: x :: y :: r) : decode c p = .ok (.iinc x (Jvm.ClassFile.Reader.signed 8 y), 3) := by
  refine z_dec ?_
  unfold Jvm.ClassFile.Decoder.instr
  rw [z_bd (z_u1 h)]
  show (zu1 >>= fun v => (Jvm.ClassFile.Reader.s1 : ZD Int) >>= fun w => pure (Instr.iinc v w)) c (p + 1) = _
  rw [z_bd (z_u1 (z_nx h)), z_bd (z_s1 (z_nx (z_nx h)))]
  rfl
def Z0 : List (Nat × Instr) := [(42, .aload_n 0), (43, .aload_n 1), (44, .aload_n 2), (45, .aload_n 3), (26, .iload_n 0), (27, .iload_n 1), (28, .iload_n 2), (29, .iload_n 3), (3, .iconst 0), (4, .iconst 1), (5, .iconst 2), (6, .iconst 3), (7, .iconst 4), (8, .iconst 5), (2, .iconst (-1)), (172, .ireturn), (46, .iaload), (96, .iadd), (59, .istore_n 0), (60, .istore_n 1), (61, .istore_n 2), (62, .istore_n 3), (87, .pop), (79, .iastore), (100, .isub), (177, .return_), (89, .dup), (30, .lload_n 0), (31, .lload_n 1), (32, .lload_n 2), (33, .lload_n 3), (104, .imul), (173, .lreturn), (63, .lstore_n 0), (64, .lstore_n 1), (65, .lstore_n 2), (66, .lstore_n 3), (9, .lconst 0), (10, .lconst 1), (190, .arraylength), (112, .irem), (108, .idiv), (126, .iand), (133, .i2l), (120, .ishl), (51, .baload), (148, .lcmp), (105, .lmul), (128, .ior), (88, .pop2), (122, .ishr), (97, .ladd), (124, .iushr), (75, .astore_n 0), (76, .astore_n 1), (77, .astore_n 2), (78, .astore_n 3), (101, .lsub), (92, .dup2), (50, .aaload), (113, .lrem), (109, .ldiv), (80, .lastore), (84, .bastore), (47, .laload), (145, .i2b), (83, .aastore), (136, .l2i), (130, .ixor), (146, .i2c), (191, .athrow), (1, .aconst_null)]
theorem Z0_ok : ∀ e ∈ Z0, Ok0 e.1 e.2 := List.forall_mem_cons.mpr ⟨zo_42, List.forall_mem_cons.mpr ⟨zo_43, List.forall_mem_cons.mpr ⟨zo_44, List.forall_mem_cons.mpr ⟨zo_45, List.forall_mem_cons.mpr ⟨zo_26, List.forall_mem_cons.mpr ⟨zo_27, List.forall_mem_cons.mpr ⟨zo_28, List.forall_mem_cons.mpr ⟨zo_29, List.forall_mem_cons.mpr ⟨zo_3, List.forall_mem_cons.mpr ⟨zo_4, List.forall_mem_cons.mpr ⟨zo_5, List.forall_mem_cons.mpr ⟨zo_6, List.forall_mem_cons.mpr ⟨zo_7, List.forall_mem_cons.mpr ⟨zo_8, List.forall_mem_cons.mpr ⟨zo_2, List.forall_mem_cons.mpr ⟨zo_172, List.forall_mem_cons.mpr ⟨zo_46, List.forall_mem_cons.mpr ⟨zo_96, List.forall_mem_cons.mpr ⟨zo_59, List.forall_mem_cons.mpr ⟨zo_60, List.forall_mem_cons.mpr ⟨zo_61, List.forall_mem_cons.mpr ⟨zo_62, List.forall_mem_cons.mpr ⟨zo_87, List.forall_mem_cons.mpr ⟨zo_79, List.forall_mem_cons.mpr ⟨zo_100, List.forall_mem_cons.mpr ⟨zo_177, List.forall_mem_cons.mpr ⟨zo_89, List.forall_mem_cons.mpr ⟨zo_30, List.forall_mem_cons.mpr ⟨zo_31, List.forall_mem_cons.mpr ⟨zo_32, List.forall_mem_cons.mpr ⟨zo_33, List.forall_mem_cons.mpr ⟨zo_104, List.forall_mem_cons.mpr ⟨zo_173, List.forall_mem_cons.mpr ⟨zo_63, List.forall_mem_cons.mpr ⟨zo_64, List.forall_mem_cons.mpr ⟨zo_65, List.forall_mem_cons.mpr ⟨zo_66, List.forall_mem_cons.mpr ⟨zo_9, List.forall_mem_cons.mpr ⟨zo_10, List.forall_mem_cons.mpr ⟨zo_190, List.forall_mem_cons.mpr ⟨zo_112, List.forall_mem_cons.mpr ⟨zo_108, List.forall_mem_cons.mpr ⟨zo_126, List.forall_mem_cons.mpr ⟨zo_133, List.forall_mem_cons.mpr ⟨zo_120, List.forall_mem_cons.mpr ⟨zo_51, List.forall_mem_cons.mpr ⟨zo_148, List.forall_mem_cons.mpr ⟨zo_105, List.forall_mem_cons.mpr ⟨zo_128, List.forall_mem_cons.mpr ⟨zo_88, List.forall_mem_cons.mpr ⟨zo_122, List.forall_mem_cons.mpr ⟨zo_97, List.forall_mem_cons.mpr ⟨zo_124, List.forall_mem_cons.mpr ⟨zo_75, List.forall_mem_cons.mpr ⟨zo_76, List.forall_mem_cons.mpr ⟨zo_77, List.forall_mem_cons.mpr ⟨zo_78, List.forall_mem_cons.mpr ⟨zo_101, List.forall_mem_cons.mpr ⟨zo_92, List.forall_mem_cons.mpr ⟨zo_50, List.forall_mem_cons.mpr ⟨zo_113, List.forall_mem_cons.mpr ⟨zo_109, List.forall_mem_cons.mpr ⟨zo_80, List.forall_mem_cons.mpr ⟨zo_84, List.forall_mem_cons.mpr ⟨zo_47, List.forall_mem_cons.mpr ⟨zo_145, List.forall_mem_cons.mpr ⟨zo_83, List.forall_mem_cons.mpr ⟨zo_136, List.forall_mem_cons.mpr ⟨zo_130, List.forall_mem_cons.mpr ⟨zo_146, List.forall_mem_cons.mpr ⟨zo_191, List.forall_mem_cons.mpr ⟨zo_1, fun _ h => absurd h List.not_mem_nil⟩⟩⟩⟩⟩⟩⟩⟩⟩⟩⟩⟩⟩⟩⟩⟩⟩⟩⟩⟩⟩⟩⟩⟩⟩⟩⟩⟩⟩⟩⟩⟩⟩⟩⟩⟩⟩⟩⟩⟩⟩⟩⟩⟩⟩⟩⟩⟩⟩⟩⟩⟩⟩⟩⟩⟩⟩⟩⟩⟩⟩⟩⟩⟩⟩⟩⟩⟩⟩⟩⟩⟩
def ZU1 : List (Nat × (Nat → Instr)) := [(21, .iload), (54, .istore), (18, .ldc), (22, .lload), (55, .lstore), (25, .aload), (58, .astore)]
theorem ZU1_ok : ∀ e ∈ ZU1, OkU1 e.1 e.2 := List.forall_mem_cons.mpr ⟨zo_21, List.forall_mem_cons.mpr ⟨zo_54, List.forall_mem_cons.mpr ⟨zo_18, List.forall_mem_cons.mpr ⟨zo_22, List.forall_mem_cons.mpr ⟨zo_55, List.forall_mem_cons.mpr ⟨zo_25, List.forall_mem_cons.mpr ⟨zo_58, fun _ h => absurd h List.not_mem_nil⟩⟩⟩⟩⟩⟩⟩
def ZS1 : List (Nat × (Int → Instr)) := [(16, .bipush)]
theorem ZS1_ok : ∀ e ∈ ZS1, OkS1 e.1 e.2 := List.forall_mem_cons.mpr ⟨zo_16, fun _ h => absurd h List.not_mem_nil⟩
def ZU2 : List (Nat × (Nat → Instr)) := [(180, .getfield), (182, .invokevirtual), (181, .putfield), (184, .invokestatic), (183, .invokespecial), (20, .ldc2_w), (187, .new), (19, .ldc_w), (178, .getstatic), (189, .anewarray)]
theorem ZU2_ok : ∀ e ∈ ZU2, OkU2 e.1 e.2 := List.forall_mem_cons.mpr ⟨zo_180, List.forall_mem_cons.mpr ⟨zo_182, List.forall_mem_cons.mpr ⟨zo_181, List.forall_mem_cons.mpr ⟨zo_184, List.forall_mem_cons.mpr ⟨zo_183, List.forall_mem_cons.mpr ⟨zo_20, List.forall_mem_cons.mpr ⟨zo_187, List.forall_mem_cons.mpr ⟨zo_19, List.forall_mem_cons.mpr ⟨zo_178, List.forall_mem_cons.mpr ⟨zo_189, fun _ h => absurd h List.not_mem_nil⟩⟩⟩⟩⟩⟩⟩⟩⟩⟩
def ZS2 : List (Nat × (Int → Instr)) := [(167, .goto), (153, .ifCond .eq), (154, .ifCond .ne), (155, .ifCond .lt), (156, .ifCond .ge), (157, .ifCond .gt), (158, .ifCond .le), (159, .if_icmp .eq), (160, .if_icmp .ne), (161, .if_icmp .lt), (162, .if_icmp .ge), (163, .if_icmp .gt), (164, .if_icmp .le), (17, .sipush), (199, .ifnonnull), (198, .ifnull)]
theorem ZS2_ok : ∀ e ∈ ZS2, OkS2 e.1 e.2 := List.forall_mem_cons.mpr ⟨zo_167, List.forall_mem_cons.mpr ⟨zo_153, List.forall_mem_cons.mpr ⟨zo_154, List.forall_mem_cons.mpr ⟨zo_155, List.forall_mem_cons.mpr ⟨zo_156, List.forall_mem_cons.mpr ⟨zo_157, List.forall_mem_cons.mpr ⟨zo_158, List.forall_mem_cons.mpr ⟨zo_159, List.forall_mem_cons.mpr ⟨zo_160, List.forall_mem_cons.mpr ⟨zo_161, List.forall_mem_cons.mpr ⟨zo_162, List.forall_mem_cons.mpr ⟨zo_163, List.forall_mem_cons.mpr ⟨zo_164, List.forall_mem_cons.mpr ⟨zo_17, List.forall_mem_cons.mpr ⟨zo_199, List.forall_mem_cons.mpr ⟨zo_198, fun _ h => absurd h List.not_mem_nil⟩⟩⟩⟩⟩⟩⟩⟩⟩⟩⟩⟩⟩⟩⟩⟩
def ZN : List (Nat × Instr) := [(10, .newarray .int), (11, .newarray .long), (8, .newarray .byte), (4, .newarray .boolean)]
theorem ZN_ok : ∀ e ∈ ZN, OkN e.1 e.2 := List.forall_mem_cons.mpr ⟨zn_10, List.forall_mem_cons.mpr ⟨zn_11, List.forall_mem_cons.mpr ⟨zn_8, List.forall_mem_cons.mpr ⟨zn_4, fun _ h => absurd h List.not_mem_nil⟩⟩⟩⟩
noncomputable def zlk {α : Type} (l : List (Nat × α)) (n : Nat) : Option α := List.rec (motive := fun _ => Option α) none (fun e _ ih => cond (Nat.beq e.1 n) (some e.2) ih) l
theorem zlk_c {α : Type} (e : Nat × α) (l : List (Nat × α)) (n : Nat) : zlk (e :: l) n = cond (Nat.beq e.1 n) (some e.2) (zlk l n) := rfl
theorem zlk_mem {α : Type} {l : List (Nat × α)} {n : Nat} {a : α} (h : zlk l n = some a) : (n, a) ∈ l := by
  induction l with
  | nil => cases h
  | cons e l ih =>
    rw [zlk_c] at h
    cases hb : Nat.beq e.1 n with
    | true =>
      rw [hb] at h
      have e1 : e.2 = a := Option.some.inj h
      have e2 : e.1 = n := Nat.eq_of_beq_eq_true hb
      rw [← e1, ← e2]
      exact List.mem_cons_self
    | false =>
      rw [hb] at h
      exact List.mem_cons_of_mem _ (ih h)
noncomputable def zd3 (op x y : Nat) : Option (Instr × Nat) := match zlk ZU2 op with
  | some f => some (f (x * 256 + y), 3)
  | none => match zlk ZS2 op with
    | some f => some (f (Jvm.ClassFile.Reader.signed 16 (x * 256 + y)), 3)
    | none => cond (Nat.beq 132 op) (some (.iinc x (Jvm.ClassFile.Reader.signed 8 y), 3)) none
noncomputable def zd2 (op x : Nat) (r : List Nat) : Option (Instr × Nat) := match zlk ZU1 op with
  | some f => some (f x, 2)
  | none => match zlk ZS1 op with
    | some f => some (f (Jvm.ClassFile.Reader.signed 8 x), 2)
    | none => cond (Nat.beq 188 op) ((zlk ZN x).map (fun i => (i, 2))) (match r with
      | [] => none
      | y :: _ => zd3 op x y)
noncomputable def zd : List Nat → Option (Instr × Nat)
  | [] => none
  | op :: r => match zlk Z0 op with
    | some i => some (i, 1)
    | none => match r with
      | [] => none
      | x :: r2 => zd2 op x r2
theorem zd_ok {c : ByteArray} {p : Nat} {bs : List Nat} {i : Instr} {n : Nat} (hb : (zby c).drop p = bs) (h : zd bs = some (i, n)) : decode c p = .ok (i, n) := by
  cases bs with
  | nil => cases h
  | cons op r =>
    dsimp only [zd] at h
    cases h0 : zlk Z0 op with
    | some j =>
      rw [h0] at h
      injection h with h
      injection h with h1 h2
      subst h1 h2
      exact Z0_ok _ (zlk_mem h0) c p r hb
    | none =>
      rw [h0] at h
      cases r with
      | nil => cases h
      | cons x r =>
        replace h : zd2 op x r = some (i, n) := h
        unfold zd2 at h
        cases h1 : zlk ZU1 op with
        | some f =>
          rw [h1] at h
          injection h with h
          injection h with h2 h3
          subst h2 h3
          exact ZU1_ok _ (zlk_mem h1) c p x r hb
        | none =>
          rw [h1] at h
          cases h2 : zlk ZS1 op with
          | some f =>
            rw [h2] at h
            injection h with h
            injection h with h3 h4
            subst h3 h4
            exact ZS1_ok _ (zlk_mem h2) c p x r hb
          | none =>
            rw [h2] at h
            cases h3 : Nat.beq 188 op with
            | true =>
              rw [h3] at h
              have e := Nat.eq_of_beq_eq_true h3
              subst e
              cases h4 : zlk ZN x with
              | none =>
                rw [h4] at h
                cases h
              | some j =>
                rw [h4] at h
                injection h with h
                injection h with h5 h6
                subst h5 h6
                exact ZN_ok _ (zlk_mem h4) c p r hb
            | false =>
              rw [h3] at h
              cases r with
              | nil => cases h
              | cons y r =>
                replace h : zd3 op x y = some (i, n) := h
                unfold zd3 at h
                cases h4 : zlk ZU2 op with
                | some f =>
                  rw [h4] at h
                  injection h with h
                  injection h with h5 h6
                  subst h5 h6
                  exact ZU2_ok _ (zlk_mem h4) c p x y r hb
                | none =>
                  rw [h4] at h
                  cases h5 : zlk ZS2 op with
                  | some f =>
                    rw [h5] at h
                    injection h with h
                    injection h with h6 h7
                    subst h6 h7
                    exact ZS2_ok _ (zlk_mem h5) c p x y r hb
                  | none =>
                    rw [h5] at h
                    cases h6 : Nat.beq 132 op with
                    | false =>
                      rw [h6] at h
                      cases h
                    | true =>
                      rw [h6] at h
                      have e := Nat.eq_of_beq_eq_true h6
                      subst e
                      injection h with h
                      injection h with h7 h8
                      subst h7 h8
                      exact zo_132 hb
abbrev ZR : Type := Nat × Bool × Instr × Nat
noncomputable def zck (p : Nat) (bs : List Nat) (rows : List ZR) : Bool := List.rec (motive := fun _ => Nat → List Nat → Bool) (fun _ _ => true) (fun z _ ih p bs => cond (Nat.beq p z.1) (cond z.2.1 (decide (zd bs = some z.2.2)) true && ih (p + z.2.2.2) (bs.drop z.2.2.2)) false) rows p bs
theorem zck_c (p : Nat) (bs : List Nat) (z : ZR) (r : List ZR) : zck p bs (z :: r) = cond (Nat.beq p z.1) (cond z.2.1 (decide (zd bs = some z.2.2)) true && zck (p + z.2.2.2) (bs.drop z.2.2.2) r) false := rfl
theorem zck_ok {c : ByteArray} : ∀ {rows : List ZR} {p : Nat} {bs : List Nat}, (zby c).drop p = bs → zck p bs rows = true → ∀ z ∈ rows, z.2.1 = true → decode c z.1 = .ok (z.2.2.1, z.2.2.2) := by
  intro rows
  induction rows with
  | nil => intro p bs _ _ z hz; cases hz
  | cons y r ih =>
    intro p bs hb h z hz ht
    rw [zck_c] at h
    cases h1 : Nat.beq p y.1 with
    | false =>
      rw [h1] at h
      cases h
    | true =>
      rw [h1] at h
      have e := Nat.eq_of_beq_eq_true h1
      have h2 : (cond y.2.1 (decide (zd bs = some y.2.2)) true && zck (p + y.2.2.2) (bs.drop y.2.2.2) r) = true := h
      rw [Bool.and_eq_true] at h2
      rcases List.mem_cons.mp hz with rfl | hz
      · have h3 := h2.1
        rw [ht] at h3
        have h4 : zd bs = some z.2.2 := of_decide_eq_true h3
        rw [← e]
        exact zd_ok hb h4
      · exact ih (by rw [← hb, List.drop_drop]) h2.2 z hz ht
abbrev zc (p : Nat) (b : Bool) (i : Instr) (n : Nat) (r : List ZR) : List ZR := (p, b, i, n) :: r
theorem zat {c : ByteArray} {p : Nat} {rows : List ZR} (h : zck p ((zby c).drop p) rows = true) {q n : Nat} {i : Instr} (k : Nat) (hk : rows[k]? = some (q, true, i, n)) : decode c q = .ok (i, n)   := zck_ok (c := c) (rows := rows) (p := p) rfl h (q, true, i, n) (List.mem_of_getElem? hk) rfl
/-! worlds, written once -/
theorem pd_mk {D : va_G} {cl : List vw_C} {A : Nat → Prop} {H : Heap} (W : va_W) (hP : va_P D cl W H) (hD : va_D A W) : va_P D cl W H ∧ va_D A W := ⟨hP, hD⟩
theorem vp_map {D : va_G} {cl : List vw_C} {ws ws' : va_W} {H : Heap} {is : List Nat} (hP : va_P D cl ws H) (hs : is.map (fun i => ws[i]?) = ws'.map some) : va_P D cl ws' H := by
  intro k q hk
  have h1 : (ws'.map some)[k]? = some (some q) := by
    rw [List.getElem?_map, hk]
    rfl
  rw [← hs, List.getElem?_map] at h1
  obtain ⟨i, -, hi⟩ := Option.map_eq_some_iff.mp h1
  exact hP i q hi
theorem pd_sub {D : va_G} {cl : List vw_C} {A : Nat → Prop} {ws : va_W} {H : Heap} (ws' : va_W) (is : List Nat) (hP : va_P D cl ws H) (hD : va_D A ws) (hn : va_nd is = true) (hs : is.map (fun i => ws[i]?) = ws'.map some) : va_P D cl ws' H ∧ va_D A ws' := ⟨vp_map hP hs, hD.sub is hn hs⟩
abbrev KCi (l : Launch) (y : MethodName) (vf : List Cond) (rm : Room) (D : va_G) (As : List Value) (sz : Nat) (W : va_W) (tys : List (ClassId × FieldType)) (post : Int32 → Unit → Prop) (W1 : va_W) (mc ms : Nat) : Prop := Met l y vf rm (PC D As sz W tys) (va_Qi (S := Unit) post (fun _ t => BC D (va_A W sz) W1 [] t) (va_A W sz)) mc ms (va_A W sz)
abbrev KDi (l : Launch) (y : MethodName) (vf : List Cond) (rm : Room) (D : va_G) (As : List Value) (sz : Nat) (W : va_W) (tys : List (ClassId × FieldType)) (post : Int32 → Unit → Prop) (mc ms : Nat) : Prop := Met l y vf rm (PC D As sz W tys) (va_Qi (S := Unit) post (fun _ t => BC D (va_A W sz) W [] t) (va_A W sz)) mc ms (va_A W sz)
abbrev KCl (l : Launch) (y : MethodName) (vf : List Cond) (rm : Room) (D : va_G) (As : List Value) (sz : Nat) (W : va_W) (tys : List (ClassId × FieldType)) (post : Int64 → Unit → Prop) (W1 : va_W) (mc ms : Nat) : Prop := Met l y vf rm (PC D As sz W tys) (va_Ql (S := Unit) post (fun _ t => BC D (va_A W sz) W1 [] t) (va_A W sz)) mc ms (va_A W sz)
abbrev KDl (l : Launch) (y : MethodName) (vf : List Cond) (rm : Room) (D : va_G) (As : List Value) (sz : Nat) (W : va_W) (tys : List (ClassId × FieldType)) (post : Int64 → Unit → Prop) (mc ms : Nat) : Prop := Met l y vf rm (PC D As sz W tys) (va_Ql (S := Unit) post (fun _ t => BC D (va_A W sz) W [] t) (va_A W sz)) mc ms (va_A W sz)
abbrev KCv (l : Launch) (y : MethodName) (vf : List Cond) (rm : Room) (D : va_G) (As : List Value) (sz : Nat) (W : va_W) (tys : List (ClassId × FieldType)) (post : Unit → Prop) (W1 : va_W) (mc ms : Nat) : Prop := Met l y vf rm (PC D As sz W tys) (va_Qv (S := Unit) post (fun _ t => BC D (va_A W sz) W1 [] t) (va_A W sz)) mc ms (va_A W sz)
abbrev KDv (l : Launch) (y : MethodName) (vf : List Cond) (rm : Room) (D : va_G) (As : List Value) (sz : Nat) (W : va_W) (tys : List (ClassId × FieldType)) (post : Unit → Prop) (mc ms : Nat) : Prop := Met l y vf rm (PC D As sz W tys) (va_Qv (S := Unit) post (fun _ t => BC D (va_A W sz) W [] t) (va_A W sz)) mc ms (va_A W sz)
section CK
variable {p : Program} {l : Launch} {e : Env} {R : Room} {s : State} {m : MethodId} {args : Array Value} {below : List Frame} {meth : Method} {c : Code} {H : Heap} {locs : List Loc} {cells slots mc ms : Nat} {Q : State → Prop} {D : va_G} {A : Nat → Prop} {H0 : Heap} {ws wc wr : va_W} {tys : List (ClassId × FieldType)} {pc : Nat} {ls : Array Slot} {st0 rest : List Value} {a : Array Value} {S : Type} {w1 : S → va_W} {tys1 : S → List (ClassId × FieldType)}
theorem ck_i {post : Int32 → S → Prop} (hP : va_P D vwCl ws H) (hD : va_D A ws) (hK : va_K D vwCl tys s) (hS : va_S A H0 H locs) (hA : ∀ q, H0.size ≤ q → A q) (isC isR : List Nat) (hC : isC.map (fun i => ws[i]?) = wc.map some) (hR : isR.map (fun i => ws[i]?) = wr.map some) (hnC : va_nd isC = true) (hn : va_nd isR = true) (hdis : ∀ i ∈ isR, i ∉ isC)
    (hr : va_P D vwCl wc H → va_D A wc → va_Run p l e R s m args below meth c H locs cells slots mc ms (F0 m pc ls st0) rest (va_Qi post (fun u t => BC D (va_A wc H.size) (w1 u) (tys1 u) t) (va_A wc H.size) a) (va_A wc H.size))
    (kk : ∀ (r : Int32) (u : S) (H1 : Heap) (locs1 : List Loc), post r u → va_P D vwCl (wr ++ w1 u) H1 → va_D A (wr ++ w1 u) → va_K D vwCl (tys ++ tys1 u) s → va_S A H0 H1 locs1 → W p l e R s m args below meth c H1 locs1 (cells + mc) (slots + ms) Q (F0 m (pc + 3) ls (.int r :: rest))) : W p l e R s m args below meth c H locs cells slots Q (F0 m pc ls st0) := cl_i (hr (vp_map hP hC) (hD.sub isC hnC hC)) hP hD hK hS hA isC isR hC hR hn hdis kk
theorem ck_l {post : Int64 → S → Prop} (hP : va_P D vwCl ws H) (hD : va_D A ws) (hK : va_K D vwCl tys s) (hS : va_S A H0 H locs) (hA : ∀ q, H0.size ≤ q → A q) (isC isR : List Nat) (hC : isC.map (fun i => ws[i]?) = wc.map some) (hR : isR.map (fun i => ws[i]?) = wr.map some) (hnC : va_nd isC = true) (hn : va_nd isR = true) (hdis : ∀ i ∈ isR, i ∉ isC)
    (hr : va_P D vwCl wc H → va_D A wc → va_Run p l e R s m args below meth c H locs cells slots mc ms (F0 m pc ls st0) rest (va_Ql post (fun u t => BC D (va_A wc H.size) (w1 u) (tys1 u) t) (va_A wc H.size) a) (va_A wc H.size))
    (kk : ∀ (r : Int64) (u : S) (H1 : Heap) (locs1 : List Loc), post r u → va_P D vwCl (wr ++ w1 u) H1 → va_D A (wr ++ w1 u) → va_K D vwCl (tys ++ tys1 u) s → va_S A H0 H1 locs1 → W p l e R s m args below meth c H1 locs1 (cells + mc) (slots + ms) Q (F0 m (pc + 3) ls (.long r :: rest))) : W p l e R s m args below meth c H locs cells slots Q (F0 m pc ls st0) := cl_l (hr (vp_map hP hC) (hD.sub isC hnC hC)) hP hD hK hS hA isC isR hC hR hn hdis kk
theorem ck_v {post : S → Prop} (hP : va_P D vwCl ws H) (hD : va_D A ws) (hK : va_K D vwCl tys s) (hS : va_S A H0 H locs) (hA : ∀ q, H0.size ≤ q → A q) (isC isR : List Nat) (hC : isC.map (fun i => ws[i]?) = wc.map some) (hR : isR.map (fun i => ws[i]?) = wr.map some) (hnC : va_nd isC = true) (hn : va_nd isR = true) (hdis : ∀ i ∈ isR, i ∉ isC)
    (hr : va_P D vwCl wc H → va_D A wc → va_Run p l e R s m args below meth c H locs cells slots mc ms (F0 m pc ls st0) rest (va_Qv post (fun u t => BC D (va_A wc H.size) (w1 u) (tys1 u) t) (va_A wc H.size) a) (va_A wc H.size))
    (kk : ∀ (u : S) (H1 : Heap) (locs1 : List Loc), post u → va_P D vwCl (wr ++ w1 u) H1 → va_D A (wr ++ w1 u) → va_K D vwCl (tys ++ tys1 u) s → va_S A H0 H1 locs1 → W p l e R s m args below meth c H1 locs1 (cells + mc) (slots + ms) Q (F0 m (pc + 3) ls rest)) : W p l e R s m args below meth c H locs cells slots Q (F0 m pc ls st0) := cl_v (hr (vp_map hP hC) (hD.sub isC hnC hC)) hP hD hK hS hA isC isR hC hR hn hdis kk
end CK
def RJ0 : String := "java/lang/String"
def RJ1 : String := "java/lang/StringLatin1"
def RJ3 : String := "jdk/internal/util/Preconditions"
def RJ6 : String := "java/lang/Integer"
def yJ0_coder_7d493 : MethodName := ⟨RJ0, "coder", "()B"⟩
abbrev cJ0_coder_7d493 : ByteArray := prog_22_method_152_code
def yJ0_isLatin1_aae02 : MethodName := ⟨RJ0, "isLatin1", "()Z"⟩
abbrev cJ0_isLatin1_aae02 : ByteArray := prog_22_method_154_code
def yJ0_length_8abf5 : MethodName := ⟨RJ0, "length", "()I"⟩
abbrev cJ0_length_8abf5 : ByteArray := prog_22_method_54_code
def yJ3_checkIndex_8e157 : MethodName := ⟨RJ3, "checkIndex", "(IILjava/util/function/BiFunction;)I"⟩
abbrev cJ3_checkIndex_8e157 : ByteArray := prog_30_method_11_code
def yJ0_checkIndex_df160 : MethodName := ⟨RJ0, "checkIndex", "(II)V"⟩
abbrev cJ0_checkIndex_df160 : ByteArray := prog_22_method_155_code
def yJ1_charAt_3b067 : MethodName := ⟨RJ1, "charAt", "([BI)C"⟩
abbrev cJ1_charAt_3b067 : ByteArray := prog_23_method_2_code
def yJ0_charAt_5068e : MethodName := ⟨RJ0, "charAt", "(I)C"⟩
abbrev cJ0_charAt_5068e : ByteArray := prog_22_method_56_code
abbrev cJ6_bitCount_0f7a4 : ByteArray := prog_19_method_49_code
def yJ6_bitCount_0f7a4 : MethodName := ⟨RJ6, "bitCount", "(I)I"⟩

abbrev TX6_p : Type := Int32 × Int32 × Int32 × Int32 × Int32 × Int32 × Int32 × Int32 × Int32 × (Nat → Int32) × (Nat → Int32) × (Nat → Int32) × (Nat → Int32) × (Nat → Int32) × (Nat → Int32) × (Nat → Int32) × (Nat → Int32) × (Nat → Int32)
abbrev TX7_r : Type := (Nat → Int32) × Int32 × Int32 × Int32 × Int32 × Int32 × Int32 × (Nat → Int64) × (Nat → Int32) × Int32 × Int32 × Int32
abbrev TX4_n : Type := Int32 × Int32 × Int32 × (Nat → Int32) × (Nat → Int32) × (Nat → Int32) × (Nat → Int32)
abbrev TX2_h : Type := Int32 × Int32 × Int32
abbrev TX8_s : Type := (Nat → Int32) × (Nat → Int32) × Int32
abbrev TX0_d : Type := (Nat → Int32) × Int32
abbrev TX1_y : Type := Int32 × Int32 × (Nat → Int32)
abbrev TX10_x : Type := Int32 × Int32
abbrev TX11_q : Type := Int32 × Int32 × Int32 × Int32 × Int32 × Int32 × Int32 × Int32 × Int32 × Int32 × (Nat → Int32) × (Nat → Int32) × (Nat → Int32) × (Nat → Int32) × (Nat → Int32) × (Nat → Int32) × (Nat → Int32) × (Nat → Int32) × (Nat → Int32) × (Nat → Int32) × (Nat → Int32) × (Nat → Int64) × (Nat → Int32) × (Nat → Int32)
abbrev TX12_t : Type := Int32 × Int32 × Int32
abbrev TX12_s : Type := (Nat → Int32) × Int32 × Int32 × Int32 × Int32 × Int32 × Int32 × Int32 × Int32 × Int64
abbrev TX12_v : Type := (Nat → Int32)
abbrev TX12_w : Type := (Nat → Int32)
abbrev TX12_h : Type := (Nat → Int32) × (Nat → Int32) × Int32 × Int32
abbrev TX12_z : Type := (Nat → Int32) × (Nat → Int32) × Int32
abbrev TX12_k : Type := Int32 × Int32 × Int32
abbrev TX12_c : Type := Int32 × Int32 × Int32
def bX0 (a : Nat) (u : Nat → Nat) (k : Nat → ClassId) (p : TX0_d) (r : va_W) : va_W := (a, .inr (0, [.ref (u 0), .int p.2])) :: (u 0, .inl (k 0, 288, .inl p.1)) :: r
def tX0 (k : Nat → ClassId) (r : List (ClassId × FieldType)) : List (ClassId × FieldType) := (k 0, .int) :: r
def bX11 (a : Nat) (u : Nat → Nat) (k : Nat → ClassId) (p : TX11_q) (r : va_W) : va_W := (a, .inr (8, [.int p.1, .int p.2.1, .int p.2.2.1, .int p.2.2.2.1, .int p.2.2.2.2.1, .int p.2.2.2.2.2.1, .int p.2.2.2.2.2.2.1, .int p.2.2.2.2.2.2.2.1, .int p.2.2.2.2.2.2.2.2.1, .int p.2.2.2.2.2.2.2.2.2.1, .ref (u 0), .ref (u 1), .ref (u 2), .ref (u 3), .ref (u 4), .ref (u 5), .ref (u 6), .ref (u 7), .ref (u 8), .ref (u 9), .ref (u 10), .ref (u 11), .ref (u 12), .ref (u 13)])) :: (u 0, .inl (k 0, 5, .inl p.2.2.2.2.2.2.2.2.2.2.1)) :: (u 1, .inl (k 1, 6, .inl p.2.2.2.2.2.2.2.2.2.2.2.1)) :: (u 2, .inl (k 2, 6, .inl p.2.2.2.2.2.2.2.2.2.2.2.2.1)) :: (u 3, .inl (k 3, 6, .inl p.2.2.2.2.2.2.2.2.2.2.2.2.2.1)) :: (u 4, .inl (k 4, 6, .inl p.2.2.2.2.2.2.2.2.2.2.2.2.2.2.1)) :: (u 5, .inl (k 5, 6, .inl p.2.2.2.2.2.2.2.2.2.2.2.2.2.2.2.1)) :: (u 6, .inl (k 6, 6, .inl p.2.2.2.2.2.2.2.2.2.2.2.2.2.2.2.2.1)) :: (u 7, .inl (k 7, 6, .inl p.2.2.2.2.2.2.2.2.2.2.2.2.2.2.2.2.2.1)) :: (u 8, .inl (k 8, 6, .inl p.2.2.2.2.2.2.2.2.2.2.2.2.2.2.2.2.2.2.1)) :: (u 9, .inl (k 9, 6, .inl p.2.2.2.2.2.2.2.2.2.2.2.2.2.2.2.2.2.2.2.1)) :: (u 10, .inl (k 10, 6, .inl p.2.2.2.2.2.2.2.2.2.2.2.2.2.2.2.2.2.2.2.2.1)) :: (u 11, .inl (k 11, 15, .inr (.inl p.2.2.2.2.2.2.2.2.2.2.2.2.2.2.2.2.2.2.2.2.2.1))) :: (u 12, .inl (k 12, 15, .inl p.2.2.2.2.2.2.2.2.2.2.2.2.2.2.2.2.2.2.2.2.2.2.1)) :: (u 13, .inl (k 13, 15, .inl p.2.2.2.2.2.2.2.2.2.2.2.2.2.2.2.2.2.2.2.2.2.2.2)) :: r
def tX11 (k : Nat → ClassId) (r : List (ClassId × FieldType)) : List (ClassId × FieldType) := (k 0, .int) :: (k 1, .int) :: (k 2, .int) :: (k 3, .int) :: (k 4, .int) :: (k 5, .int) :: (k 6, .int) :: (k 7, .int) :: (k 8, .int) :: (k 9, .int) :: (k 10, .int) :: (k 11, .long) :: (k 12, .int) :: (k 13, .int) :: r
def bX4 (a : Nat) (u : Nat → Nat) (k : Nat → ClassId) (p : TX4_n) (r : va_W) : va_W := (a, .inr (3, [.int p.1, .int p.2.1, .int p.2.2.1, .ref (u 0), .ref (u 1), .ref (u 2), .ref (u 3)])) :: (u 0, .inl (k 0, 6, .inl p.2.2.2.1)) :: (u 1, .inl (k 1, 6, .inl p.2.2.2.2.1)) :: (u 2, .inl (k 2, 6, .inl p.2.2.2.2.2.1)) :: (u 3, .inl (k 3, 5, .inl p.2.2.2.2.2.2)) :: r
def tX4 (k : Nat → ClassId) (r : List (ClassId × FieldType)) : List (ClassId × FieldType) := (k 0, .int) :: (k 1, .int) :: (k 2, .int) :: (k 3, .int) :: r
def bX6 (a : Nat) (u : Nat → Nat) (k : Nat → ClassId) (p : TX6_p) (r : va_W) : va_W := (a, .inr (4, [.int p.1, .int p.2.1, .int p.2.2.1, .int p.2.2.2.1, .int p.2.2.2.2.1, .int p.2.2.2.2.2.1, .int p.2.2.2.2.2.2.1, .int p.2.2.2.2.2.2.2.1, .int p.2.2.2.2.2.2.2.2.1, .ref (u 0), .ref (u 1), .ref (u 2), .ref (u 3), .ref (u 4), .ref (u 5), .ref (u 6), .ref (u 7), .ref (u 8)])) :: (u 0, .inl (k 0, 5, .inl p.2.2.2.2.2.2.2.2.2.1)) :: (u 1, .inl (k 1, 6, .inl p.2.2.2.2.2.2.2.2.2.2.1)) :: (u 2, .inl (k 2, 6, .inl p.2.2.2.2.2.2.2.2.2.2.2.1)) :: (u 3, .inl (k 3, 6, .inl p.2.2.2.2.2.2.2.2.2.2.2.2.1)) :: (u 4, .inl (k 4, 6, .inl p.2.2.2.2.2.2.2.2.2.2.2.2.2.1)) :: (u 5, .inl (k 5, 6, .inl p.2.2.2.2.2.2.2.2.2.2.2.2.2.2.1)) :: (u 6, .inl (k 6, 6, .inl p.2.2.2.2.2.2.2.2.2.2.2.2.2.2.2.1)) :: (u 7, .inl (k 7, 6, .inl p.2.2.2.2.2.2.2.2.2.2.2.2.2.2.2.2.1)) :: (u 8, .inl (k 8, 6, .inl p.2.2.2.2.2.2.2.2.2.2.2.2.2.2.2.2.2)) :: r
def tX6 (k : Nat → ClassId) (r : List (ClassId × FieldType)) : List (ClassId × FieldType) := (k 0, .int) :: (k 1, .int) :: (k 2, .int) :: (k 3, .int) :: (k 4, .int) :: (k 5, .int) :: (k 6, .int) :: (k 7, .int) :: (k 8, .boolean) :: r
def bX7 (a : Nat) (u : Nat → Nat) (k : Nat → ClassId) (p : TX7_r) (r : va_W) : va_W := (a, .inr (5, [.ref (u 0), .int p.2.1, .int p.2.2.1, .int p.2.2.2.1, .int p.2.2.2.2.1, .int p.2.2.2.2.2.1, .int p.2.2.2.2.2.2.1, .ref (u 1), .ref (u 2), .int p.2.2.2.2.2.2.2.2.2.1, .int p.2.2.2.2.2.2.2.2.2.2.1, .int p.2.2.2.2.2.2.2.2.2.2.2])) :: (u 0, .inl (k 0, 900, .inl p.1)) :: (u 1, .inl (k 1, 15, .inr (.inl p.2.2.2.2.2.2.2.1))) :: (u 2, .inl (k 2, 15, .inl p.2.2.2.2.2.2.2.2.1)) :: r
def tX7 (k : Nat → ClassId) (r : List (ClassId × FieldType)) : List (ClassId × FieldType) := (k 0, .byte) :: (k 1, .long) :: (k 2, .int) :: r
def bX8 (a : Nat) (u : Nat → Nat) (k : Nat → ClassId) (p : TX8_s) (r : va_W) : va_W := (a, .inr (6, [.ref (u 0), .ref (u 1), .int p.2.2])) :: (u 0, .inl (k 0, 5, .inl p.1)) :: (u 1, .inl (k 1, 5, .inl p.2.1)) :: r
def tX8 (k : Nat → ClassId) (r : List (ClassId × FieldType)) : List (ClassId × FieldType) := (k 0, .int) :: (k 1, .int) :: r
def Good (l : List Cond) : Prop := ∀ w ∈ l, goodWord w = true
theorem gd_dec {l : List Cond} (h : l.all goodWord = true) : Good l := fun w hw => List.all_eq_true.mp h w hw
theorem gd_cons {w : Cond} {l : List Cond} (h : goodWord w = true) (hl : Good l) : Good (w :: l) := fun x hx => (List.mem_cons.mp hx).elim (fun e => by rw [e]; exact h) (hl x)
theorem gd_app {a b : List Cond} (ha : Good a) (hb : Good b) : Good (a ++ b) := fun x hx => (List.mem_append.mp hx).elim (ha x) (hb x)
theorem goodIn_m {big ws : List Cond} (hm : ∀ w ∈ ws, w ∈ big) (h : Good ws) : GoodIn big ws := fun w hw => ⟨hm w hw, good_of_word (h w hw)⟩
theorem qsX6 : Good wsX60 := gd_dec (by decide +kernel)
theorem qsX7 : Good wsX70 := gd_dec (by decide +kernel)
theorem qsX4 : Good wsX40 := gd_dec (by decide +kernel)
theorem qsX2 : Good wsX20 := gd_dec (by decide +kernel)
theorem qsX8 : Good wsX80 := gd_dec (by decide +kernel)
theorem qsX0 : Good wsX00 := gd_dec (by decide +kernel)
theorem qsX1 : Good wsX10 := gd_dec (by decide +kernel)
theorem qsX10 : Good wsX100 := gd_dec (by decide +kernel)
theorem qsX11 : Good wsX110 := gd_dec (by decide +kernel)
theorem qsX12 : Good wsX120 := gd_dec (by decide +kernel)
/-! functions out of bytecode: what their texts are made of -/
def FU : Nat := 1000000
def nm {α β : Type} (x : α) (k : α → β) : β := k x
theorem nm_of {α β : Type} {x : α} {k : α → β} {o : β} (h : nm x k = o) (z : α) (e : z = x) : k z = o := by
  subst e
  exact h
def gA {α : Type} (i : Int32) (n : Nat) (k : Option α) : Option α := if i < 0 ∨ n ≤ i.toNatClampNeg then none else k
theorem gA_of {α : Type} {i : Int32} {n : Nat} {k : Option α} {o : α} (h : gA i n k = some o) : vp_in i n ∧ k = some o := by
  unfold gA at h
  by_cases c : i < 0 ∨ n ≤ i.toNatClampNeg
  · rw [if_pos c] at h
    cases h
  · rw [if_neg c] at h
    exact ⟨c, h⟩
theorem gA_in {α : Type} {i : Int32} {n : Nat} {k : Option α} (h : vp_in i n) : gA i n k = k := if_neg h
def gZi {α : Type} (y : Int32) (k : Option α) : Option α := if y = 0 then none else k
theorem gZi_of {α : Type} {y : Int32} {k : Option α} {o : α} (h : gZi y k = some o) : ¬ y = 0 ∧ k = some o := by
  unfold gZi at h
  by_cases c : y = 0
  · rw [if_pos c] at h
    cases h
  · rw [if_neg c] at h
    exact ⟨c, h⟩
theorem gZi_ne {α : Type} {y : Int32} {k : Option α} (h : ¬ y = 0) : gZi y k = k := if_neg h
def gZl {α : Type} (y : Int64) (k : Option α) : Option α := if y = 0 then none else k
theorem gZl_of {α : Type} {y : Int64} {k : Option α} {o : α} (h : gZl y k = some o) : ¬ y = 0 ∧ k = some o := by
  unfold gZl at h
  by_cases c : y = 0
  · rw [if_pos c] at h
    cases h
  · rw [if_neg c] at h
    exact ⟨c, h⟩
theorem gZl_ne {α : Type} {y : Int64} {k : Option α} (h : ¬ y = 0) : gZl y k = k := if_neg h
theorem bd_of {α β : Type} {x : Option α} {k : α → Option β} {o : β} (h : x.bind k = some o) : ∃ r, x = some r ∧ k r = some o := by
  cases x with
  | none => cases h
  | some r => exact ⟨r, rfl, h⟩
def iabs (x : Int32) : Int32 := if 0 ≤ x then x else 0 - x
def imin (x y : Int32) : Int32 := if y < x then y else x
def imax (x y : Int32) : Int32 := if x < y then y else x
def sch (w : List Int32) (i : Int32) : Int32 := ((w.getD i.toNatClampNeg 0 &&& 255).toUInt32 % 65536).toInt32
section WQ
variable {p : Program} {l : Launch} {e : Env} {R : Room} {s : State} {m : MethodId} {args : Array Value} {below : List Frame} {meth : Method} {c : Code} {H : Heap} {locs : List Loc} {cells slots : Nat} {Q : State → Prop} {g : JFrame}
theorem W_q (k : ∀ QQ : State → Prop, QQ = Q → W p l e R s m args below meth c H locs cells slots QQ g) : W p l e R s m args below meth c H locs cells slots Q g := k Q rfl
variable {cc : ByteArray} {pc : Nat} {ls : Array Slot} {rest : List Value}
theorem va_ldcSw (hexec : p.tables.exec = Jvm.exec) (hb : c.code = cc) {own tx : String} {index q : Nat} (hown : s.vm.findClass own = some m.cls) (hZ : vk_R own index tx q s) (hdg : decode cc pc = .ok (.ldc_w index, 3))
    (k : W p l e R s m args below meth c H locs cells slots Q (F0 m (pc + 3) ls (.ref q :: rest))) : W p l e R s m args below meth c H locs cells slots Q (F0 m pc ls rest) := by
  intro T hT X
  obtain ⟨t, a1, b1⟩ := k T hT X
  exact ⟨t, X.ldcStringW hexec hown (text := tx) (a := q) hZ.1 hZ.2 (g := F0 m pc ls rest) rfl (by rw [hb]; exact hdg) t a1, b1⟩
end WQ
/-! strings that the class files hold -/
def tx_pier : List Int32 := [112, 105, 101, 114]
def tx_spots : List Int32 := [115, 112, 111, 116, 115]
def tx_deep : List Int32 := [100, 101, 101, 112]
def tx_from : List Int32 := [102, 114, 111, 109]
def tx_to : List Int32 := [116, 111]
def tx_bait : List Int32 := [98, 97, 105, 116]
def tx_asker : List Int32 := [97, 115, 107, 101, 114]
def tx_answer : List Int32 := [97, 110, 115, 119, 101, 114]
def tx_dark : List Int32 := [100, 97, 114, 107]
def tx_bite : List Int32 := [98, 105, 116, 101]
def tx_reach : List Int32 := [114, 101, 97, 99, 104]
def tx_plain : List Int32 := [112, 108, 97, 105, 110]
def tx_cold : List Int32 := [99, 111, 108, 100]
def tx_crab : List Int32 := [99, 114, 97, 98]
def tx_boot : List Int32 := [98, 111, 111, 116]
def tx_at : List Int32 := [97, 116]
def tx_depth : List Int32 := [100, 101, 112, 116, 104]
def tx_hunger : List Int32 := [104, 117, 110, 103, 101, 114]
def tx_likes : List Int32 := [108, 105, 107, 101, 115]
def tx_worth : List Int32 := [119, 111, 114, 116, 104]
def tx_fathoms : List Int32 := [102, 97, 116, 104, 111, 109, 115]
def tx_yes : List Int32 := [121, 101, 115]
def tx_no : List Int32 := [110, 111]
def tx_no_such_answer_was_landed : List Int32 := [110, 111, 32, 115, 117, 99, 104, 32, 97, 110, 115, 119, 101, 114, 32, 119, 97, 115, 32, 108, 97, 110, 100, 101, 100]
def strT : List (String × Nat × String × List Int32) := [(RX7, 76, "pier", tx_pier), (RX7, 129, "spots", tx_spots), (RX7, 137, "deep", tx_deep), (RX7, 141, "from", tx_from), (RX7, 146, "to", tx_to), (RX7, 88, "bait", tx_bait), (RX7, 97, "asker", tx_asker), (RX7, 105, "answer", tx_answer), (RX7, 113, "dark", tx_dark), (RX7, 121, "bite", tx_bite), (RX7, 154, "reach", tx_reach), (RX7, 208, "plain", tx_plain), (RX7, 210, "cold", tx_cold), (RX7, 212, "crab", tx_crab), (RX7, 214, "boot", tx_boot), (RX7, 165, "at", tx_at), (RX7, 169, "depth", tx_depth), (RX7, 173, "hunger", tx_hunger), (RX7, 177, "likes", tx_likes), (RX7, 184, "worth", tx_worth), (RX7, 189, "fathoms", tx_fathoms), (RX7, 216, "yes", tx_yes), (RX7, 218, "no", tx_no), (RX10, 373, "no such answer was landed", tx_no_such_answer_was_landed), (RX12, 127, "pier", tx_pier), (RX12, 196, "spots", tx_spots), (RX12, 201, "deep", tx_deep), (RX12, 203, "from", tx_from), (RX12, 205, "to", tx_to), (RX12, 129, "bait", tx_bait), (RX12, 131, "asker", tx_asker), (RX12, 133, "answer", tx_answer), (RX12, 135, "dark", tx_dark), (RX12, 137, "bite", tx_bite), (RX12, 227, "reach", tx_reach), (RX12, 234, "plain", tx_plain), (RX12, 236, "cold", tx_cold), (RX12, 238, "crab", tx_crab), (RX12, 240, "boot", tx_boot), (RX12, 242, "at", tx_at), (RX12, 244, "depth", tx_depth), (RX12, 246, "hunger", tx_hunger), (RX12, 248, "likes", tx_likes), (RX12, 254, "worth", tx_worth), (RX12, 274, "fathoms", tx_fathoms), (RX12, 276, "yes", tx_yes), (RX12, 278, "no", tx_no)]
def S1 (B q : Nat) (w : List Int32) (U : State) : Prop := w.length < 2 ^ 31 ∧ va_O "java/lang/String" q (fun x => B ≤ x) U U.heap ∧ va_OF "java/lang/String" "coder" "B" (.int 0) q (fun x => B ≤ x) U U.heap ∧ ∃ v : Nat, va_OF "java/lang/String" "value" "[B" (.ref v) q (fun x => B ≤ x) U U.heap ∧ va_T .byte v w.length (fun j => .int (w.getD j 0)) (fun x => B ≤ x) U U.heap
def SE (B : Nat) (U : State) : Prop := (∀ z ∈ strT, ∃ q, vk_R z.1 z.2.1 z.2.2.1 q U ∧ S1 B q z.2.2.2 U) ∧ va_Z "java/lang/String" "COMPACT_STRINGS" "Z" (.int 1) (fun x => B ≤ x) U U.heap ∧ va_Zq "jdk/internal/util/Preconditions" "SIOOBE_FORMATTER" "Ljava/util/function/BiFunction;" (fun x => B ≤ x) U U.heap
/-- the region that may be written lies above B, and all below it is older -/
def RB (B : Nat) (s : State) (A : Nat → Prop) : Prop := (∀ q, A q → B ≤ q) ∧ B ≤ s.heap.size
theorem S1.move {B q : Nat} {w : List Int32} {s U : State} (ha : s.vm.Alike U.vm) (hq : ∀ a : Nat, a < s.heap.size → ¬ B ≤ a → U.heap[a]? = s.heap[a]?) (h : S1 B q w s) : S1 B q w U := by
  obtain ⟨h0, h1, h2, v, h3, h4⟩ := h
  exact ⟨h0, (va_O.moved ha h1).kept hq, (va_OF.moved ha h2).kept hq, v, (va_OF.moved ha h3).kept hq, (va_T.moved ha h4).kept hq⟩
theorem SE.move {B : Nat} {s U : State} (hW : s.WarmedH U.vm) (hq : ∀ a : Nat, a < s.heap.size → ¬ B ≤ a → U.heap[a]? = s.heap[a]?) (h : SE B s) : SE B U := by
  refine ⟨fun z hz => ?_, (va_Z.moved hW.alike h.2.1).kept hq, (va_Zq.moved hW.alike h.2.2).kept hq⟩
  obtain ⟨q, h1, h2⟩ := h.1 z hz
  exact ⟨q, vk_R.warm hW h1, h2.move hW.alike hq⟩
theorem S1.same {B q : Nat} {w : List Int32} {u U : State} (hv : u.vm = U.vm) (hh : U.heap = u.heap) (h : S1 B q w u) : S1 B q w U := h.move (hv ▸ Vm.Alike.refl u.vm) (fun a _ _ => by rw [hh])
theorem SE.same {B : Nat} {u U : State} (hv : u.vm = U.vm) (hh : U.heap = u.heap) (h : SE B u) : SE B U := by
  refine ⟨fun z hz => ?_, (va_Z.moved (hv ▸ Vm.Alike.refl u.vm) h.2.1).kept (fun a _ _ => by rw [hh]), (va_Zq.moved (hv ▸ Vm.Alike.refl u.vm) h.2.2).kept (fun a _ _ => by rw [hh])⟩
  obtain ⟨q, h1, h2⟩ := h.1 z hz
  exact ⟨q, vk_R.same hv.symm h1, h2.same hv hh⟩
def PF (D : va_G) (B : Nat) (As : List Value) (sz : Nat) (ws : va_W) (tys : List (ClassId × FieldType)) (X : List (Nat × List Int32)) : Array Value → State → Prop := va_Pc As (fun U => U.heap.size = sz ∧ va_P D vwCl ws U.heap ∧ va_K D vwCl tys U ∧ va_D (fun q => B ≤ q) ws ∧ NW U ∧ B ≤ sz ∧ SE B U ∧ ∀ z ∈ X, S1 B z.1 z.2 U)
theorem PF_blind {D : va_G} {B : Nat} {As : List Value} {sz : Nat} {ws : va_W} {tys : List (ClassId × FieldType)} {X : List (Nat × List Int32)} : FrameBlind (PF D B As sz ws tys X) := fun a U g mk q => by
  obtain ⟨q0, q1, qP, qK, qD, qN, qB, qE, qX⟩ := q
  exact ⟨q0, q1, qP, va_K.moved (u := U) (U := U.calling g mk a) (Vm.Alike.refl U.vm) qK, qD, NW.same (u := U) (U := U.calling g mk a) rfl qN, qB, SE.same (u := U) (U := U.calling g mk a) rfl rfl qE, fun z hz => S1.same (u := U) (U := U.calling g mk a) rfl rfl (qX z hz)⟩
theorem PF_reg {ws : va_W} {B sz : Nat} (hD : va_D (fun q => B ≤ q) ws) (h : B ≤ sz) : ∀ q, va_A ws sz q → B ≤ q := by
  intro q hq
  rcases hq with ⟨k, e, hk⟩ | hq
  · exact hD.2 k _ hk
  · exact Nat.le_trans h hq
theorem RB_old {B : Nat} {s U : State} {A : Nat → Prop} {H : Heap} {locs : List Loc} (hS : va_S A s.heap H locs) (hB : RB B s A) (hU : U.heap = H) : ∀ a : Nat, a < s.heap.size → ¬ B ≤ a → U.heap[a]? = s.heap[a]? := fun a h1 h2 => by
  rw [hU]
  exact hS.2.1 a h1 (fun h => h2 (hB.1 a h))
theorem S1n {B : Nat} {s : State} : ∀ z ∈ ([] : List (Nat × List Int32)), S1 B z.1 z.2 s := fun _ h => by cases h
theorem S1c {B q : Nat} {w : List Int32} {s : State} {X : List (Nat × List Int32)} (h : S1 B q w s) (hX : ∀ z ∈ X, S1 B z.1 z.2 s) : ∀ z ∈ (q, w) :: X, S1 B z.1 z.2 s := by
  intro z hz
  rcases List.mem_cons.mp hz with rfl | hz
  · exact h
  · exact hX z hz
theorem PSF {s : State} {H : Heap} {D : va_G} {B : Nat} {ws : va_W} {tys : List (ClassId × FieldType)} {A : Nat → Prop} {As : List Value} {locs : List Loc} {X : List (Nat × List Int32)} (hP : va_P D vwCl ws H) (hK : va_K D vwCl tys s) (hD : va_D A ws) (hN : NW s) (hS : va_S A s.heap H locs) (hB : RB B s A) (hE : SE B s) (hX : ∀ z ∈ X, S1 B z.1 z.2 s) : PreS s H (PF D B As H.size ws tys X) As :=
  ⟨PF_blind, fun U hU hW => ⟨rfl, by rw [hU], by rw [hU]; exact hP, va_K.moved hW.alike hK, hD.weaken (fun _ _ _ h => hB.1 _ h), NW.warm hW hN, Nat.le_trans hB.2 hS.1, hE.move hW (RB_old hS hB hU), fun z hz => (hX z hz).move hW.alike (RB_old hS hB hU)⟩⟩
theorem PVF {s : State} {H : Heap} {D : va_G} {B : Nat} {ws : va_W} {tys : List (ClassId × FieldType)} {A : Nat → Prop} {As : List Value} {locs : List Loc} {X : List (Nat × List Int32)} (hP : va_P D vwCl ws H) (hK : va_K D vwCl tys s) (hD : va_D A ws) (hN : NW s) (hS : va_S A s.heap H locs) (hB : RB B s A) (hE : SE B s) (hX : ∀ z ∈ X, S1 B z.1 z.2 s) (q0 : Nat) {b ci : Nat} {fs : List Value} {C : String} {T : u_T} {N : Nat} (he : ws[q0]? = some (b, .inr (ci, fs))) (hc : vwCl[ci]? = some (C, T, N)) : PreV s H C b (PF D B (.ref b :: As) H.size ws tys X) As :=
  ⟨PF_blind, va_recv hK hP hc he, fun U hU hW => ⟨rfl, by rw [hU], by rw [hU]; exact hP, va_K.moved hW.alike hK, hD.weaken (fun _ _ _ h => hB.1 _ h), NW.warm hW hN, Nat.le_trans hB.2 hS.1, hE.move hW (RB_old hS hB hU), fun z hz => (hX z hz).move hW.alike (RB_old hS hB hU)⟩⟩
/-- a String is the receiver -/
theorem PVS {s : State} {H : Heap} {D : va_G} {B q : Nat} {w : List Int32} {tys : List (ClassId × FieldType)} {A : Nat → Prop} {As : List Value} {locs : List Loc} (hK : va_K D vwCl tys s) (hN : NW s) (hS : va_S A s.heap H locs) (hB : RB B s A) (hE : SE B s) (hx : S1 B q w s) : PreV s H RJ0 q (PF D B (.ref q :: As) H.size [] [] [(q, w)]) As :=
  ⟨PF_blind, by
    obtain ⟨cell, h1, h2, h3, -⟩ := (hx.2.1.narrow hB.1).kept hS.2.1
    exact ⟨cell, h1, h2, h3⟩, fun U hU hW => ⟨rfl, by rw [hU], (fun k q hk => by simp at hk), va_K.moved hW.alike (hK.sub (tys' := []) [] rfl), ⟨fun i j p q hi => by simp at hi, fun k q hk => by simp at hk⟩, NW.warm hW hN, Nat.le_trans hB.2 hS.1, hE.move hW (RB_old hS hB hU), S1c (hx.move hW.alike (RB_old hS hB hU)) S1n⟩⟩
abbrev apW (a b : List Cond) : List Cond := a ++ b
