/-- links within a nest, by their places -/
def nwL : List Cond := [.methodLinkNest RX10 9 yX6_init "HookPier", .methodLinkNest RX10 21 yX7_init "HookPier", .methodLinkNest RX10 28 yX4_init "HookPier", .methodLinkNest RX2 30 yX4_init "HookPier", .methodLinkNest RX10 42 yX8_init "HookPier", .methodLinkNest RX10 49 yX0_init "HookPier", .methodLinkNest RX10 56 yX1_init "HookPier", .methodLinkNest RX1 11 yX4_init "HookPier", .methodLinkNest RX7 204 yX10_within "HookPier", .methodLinkNest RX7 193 yX10_question "HookPier", .methodLinkNest RX6 68 yX10_within "HookPier", .methodLinkNest RX4 49 yX10_spotOf "HookPier", .methodLinkNest RX6 72 yX10_spotOf "HookPier", .methodLinkNest RX6 83 yX10_baitOf "HookPier", .methodLinkNest RX6 80 yX10_fathomsOf "HookPier", .methodLinkNest RX0 60 yX10_baitOf "HookPier", .methodLinkNest RX0 64 yX10_spotOf "HookPier", .methodLinkNest RX0 70 yX10_fathomsOf "HookPier", .methodLinkNest RX1 79 yX10_spotOf "HookPier", .methodLinkNest RX2 35 yX10_within "HookPier", .methodLinkNest RX12 295 yX11_init "HookPierModel", .methodLinkNest RX11 66 yX12_apart "HookPierModel", .fieldLinkNest RX12 143 "HookPierModel$Pier" "spots" "I" "HookPierModel", .fieldLinkNest RX12 207 "HookPierModel$Pier" "deep" "I" "HookPierModel", .fieldLinkNest RX12 209 "HookPierModel$Pier" "from" "I" "HookPierModel", .fieldLinkNest RX12 211 "HookPierModel$Pier" "to" "I" "HookPierModel", .fieldLinkNest RX12 175 "HookPierModel$Pier" "baits" "I" "HookPierModel", .fieldLinkNest RX12 224 "HookPierModel$Pier" "askers" "I" "HookPierModel", .fieldLinkNest RX12 231 "HookPierModel$Pier" "answers" "I" "HookPierModel", .fieldLinkNest RX12 271 "HookPierModel$Pier" "bites" "I" "HookPierModel", .fieldLinkNest RX12 269 "HookPierModel$Pier" "dark" "I" "HookPierModel", .fieldLinkNest RX12 160 "HookPierModel$Pier" "names" "I" "HookPierModel", .fieldLinkNest RX12 229 "HookPierModel$Pier" "reach" "[I" "HookPierModel", .fieldLinkNest RX12 256 "HookPierModel$Pier" "kind" "[I" "HookPierModel", .fieldLinkNest RX12 259 "HookPierModel$Pier" "spot" "[I" "HookPierModel", .fieldLinkNest RX12 261 "HookPierModel$Pier" "depth" "[I" "HookPierModel", .fieldLinkNest RX12 263 "HookPierModel$Pier" "hunger" "[I" "HookPierModel", .fieldLinkNest RX12 265 "HookPierModel$Pier" "likes" "[I" "HookPierModel", .fieldLinkNest RX12 267 "HookPierModel$Pier" "worth" "[I" "HookPierModel", .fieldLinkNest RX12 280 "HookPierModel$Pier" "biteSpot" "[I" "HookPierModel", .fieldLinkNest RX12 283 "HookPierModel$Pier" "biteDeep" "[I" "HookPierModel", .fieldLinkNest RX12 286 "HookPierModel$Pier" "biteBait" "[I" "HookPierModel", .fieldLinkNest RX12 289 "HookPierModel$Pier" "bit" "[I" "HookPierModel", .fieldLinkNest RX12 156 "HookPierModel$Pier" "name" "[J" "HookPierModel", .fieldLinkNest RX12 163 "HookPierModel$Pier" "nameSort" "[I" "HookPierModel", .fieldLinkNest RX12 166 "HookPierModel$Pier" "numberOf" "[I" "HookPierModel"]
def strL : List (String × Nat × String) := [(RX7, 76, "pier"), (RX7, 129, "spots"), (RX7, 137, "deep"), (RX7, 141, "from"), (RX7, 146, "to"), (RX7, 88, "bait"), (RX7, 97, "asker"), (RX7, 105, "answer"), (RX7, 113, "dark"), (RX7, 121, "bite"), (RX7, 154, "reach"), (RX7, 208, "plain"), (RX7, 210, "cold"), (RX7, 212, "crab"), (RX7, 214, "boot"), (RX7, 165, "at"), (RX7, 169, "depth"), (RX7, 173, "hunger"), (RX7, 177, "likes"), (RX7, 184, "worth"), (RX7, 189, "fathoms"), (RX7, 216, "yes"), (RX7, 218, "no"), (RX10, 373, "no such answer was landed"), (RX12, 127, "pier"), (RX12, 196, "spots"), (RX12, 201, "deep"), (RX12, 203, "from"), (RX12, 205, "to"), (RX12, 129, "bait"), (RX12, 131, "asker"), (RX12, 133, "answer"), (RX12, 135, "dark"), (RX12, 137, "bite"), (RX12, 227, "reach"), (RX12, 234, "plain"), (RX12, 236, "cold"), (RX12, 238, "crab"), (RX12, 240, "boot"), (RX12, 242, "at"), (RX12, 244, "depth"), (RX12, 246, "hunger"), (RX12, 248, "likes"), (RX12, 254, "worth"), (RX12, 274, "fathoms"), (RX12, 276, "yes"), (RX12, 278, "no")]
def aoL : List String := [RX4]
def nwNest : Cond → Bool
  | .fieldLinkNest _ _ _ _ _ _ => true
  | .methodLinkNest _ _ _ _ => true
  | _ => false
theorem nwL_nest : nwL.all nwNest = true := by decide +kernel
theorem nwL_tab : nwL.all (fun w => w.onTables) = true := by decide +kernel
/-- what holds of the classes all through a launch, beside the word lists -/
def NW (U : State) : Prop := (∀ w ∈ nwL, va_Nw w U) ∧ (∀ C ∈ aoL, va_AO C U) ∧ ∀ z ∈ strL, ∃ q, vk_R z.1 z.2.1 z.2.2 q U
theorem nw_warm {w : Cond} (hn : nwNest w = true) {s U : State} (hW : s.WarmedH U.vm) (h : va_Nw w s) : va_Nw w U := by
  cases w <;> first
    | exact va_Nw.warmF hW h
    | exact va_Nw.warmM hW h
    | exact absurd hn (by simp [nwNest])
theorem NW.warm {s U : State} (hW : s.WarmedH U.vm) (h : NW s) : NW U :=
  ⟨fun w hw => nw_warm (List.all_eq_true.mp nwL_nest w hw) hW (h.1 w hw), fun C hC => va_AO.moved hW.alike (h.2.1 C hC), fun z hz => by
    obtain ⟨q, hq⟩ := h.2.2 z hz
    exact ⟨q, vk_R.warm hW hq⟩⟩
theorem NW.same {u U : State} (hv : u.vm = U.vm) (h : NW u) : NW U :=
  ⟨fun w hw => va_Nw.same (List.all_eq_true.mp nwL_tab w hw) hv (h.1 w hw), fun C hC => va_AO.moved (hv ▸ Vm.Alike.refl u.vm) (h.2.1 C hC), fun z hz => by
    obtain ⟨q, hq⟩ := h.2.2 z hz
    exact ⟨q, vk_R.same hv.symm hq⟩⟩
def PC (D : va_G) (As : List Value) (sz : Nat) (ws : va_W) (tys : List (ClassId × FieldType)) : Array Value → State → Prop := va_Pc As (fun U => U.heap.size = sz ∧ va_P D vwCl ws U.heap ∧ va_K D vwCl tys U ∧ va_D (fun _ => True) ws ∧ NW U)
def BC (D : va_G) (A : Nat → Prop) (ws : va_W) (tys : List (ClassId × FieldType)) (t : State) : Prop := va_P D vwCl ws t.heap ∧ va_K D vwCl tys t ∧ va_D A ws
theorem PC_blind {D : va_G} {As : List Value} {sz : Nat} {ws : va_W} {tys : List (ClassId × FieldType)} : FrameBlind (PC D As sz ws tys) := fun a U g mk q => by
  obtain ⟨q0, q1, qP, qK, qD, qN⟩ := q
  exact ⟨q0, q1, qP, va_K.moved (u := U) (U := U.calling g mk a) (Vm.Alike.refl U.vm) qK, qD, NW.same (u := U) (U := U.calling g mk a) rfl qN⟩
theorem PS {s : State} {H : Heap} {D : va_G} {ws : va_W} {tys : List (ClassId × FieldType)} {A : Nat → Prop} {As : List Value} (hP : va_P D vwCl ws H) (hK : va_K D vwCl tys s) (hD : va_D A ws) (hN : NW s) : PreS s H (PC D As H.size ws tys) As :=
  ⟨PC_blind, fun U hU hW => ⟨rfl, by rw [hU], by rw [hU]; exact hP, va_K.moved hW.alike hK, hD.weaken (fun _ _ _ _ => trivial), NW.warm hW hN⟩⟩
theorem PV {s : State} {H : Heap} {D : va_G} {ws : va_W} {tys : List (ClassId × FieldType)} {A : Nat → Prop} {As : List Value} (hP : va_P D vwCl ws H) (hK : va_K D vwCl tys s) (hD : va_D A ws) (hN : NW s) (q0 : Nat) {b ci : Nat} {fs : List Value} {C : String} {T : u_T} {N : Nat} (he : ws[q0]? = some (b, .inr (ci, fs))) (hc : vwCl[ci]? = some (C, T, N)) : PreV s H C b (PC D (.ref b :: As) H.size ws tys) As :=
  ⟨PC_blind, va_recv hK hP hc he, fun U hU hW => ⟨rfl, by rw [hU], by rw [hU]; exact hP, va_K.moved hW.alike hK, hD.weaken (fun _ _ _ _ => trivial), NW.warm hW hN⟩⟩
section CL
variable {p : Program} {l : Launch} {e : Env} {R : Room} {s : State} {m : MethodId} {args : Array Value} {below : List Frame} {meth : Method} {c : Code} {H : Heap} {locs : List Loc} {cells slots mc ms : Nat} {Q : State → Prop} {D : va_G} {A : Nat → Prop} {H0 : Heap} {ws wc wr : va_W} {tys : List (ClassId × FieldType)} {pc : Nat} {ls : Array Slot} {st0 rest : List Value} {a : Array Value} {S : Type} {w1 : S → va_W} {tys1 : S → List (ClassId × FieldType)}
theorem cl_i {post : Int32 → S → Prop} (hr : va_Run p l e R s m args below meth c H locs cells slots mc ms (F0 m pc ls st0) rest (va_Qi post (fun u t => BC D (va_A wc H.size) (w1 u) (tys1 u) t) (va_A wc H.size) a) (va_A wc H.size)) (hP : va_P D vwCl ws H) (hD : va_D A ws) (hK : va_K D vwCl tys s) (hS : va_S A H0 H locs) (hA : ∀ q, H0.size ≤ q → A q) (isC isR : List Nat) (hC : isC.map (fun i => ws[i]?) = wc.map some) (hR : isR.map (fun i => ws[i]?) = wr.map some) (hn : va_nd isR = true) (hdis : ∀ i ∈ isR, i ∉ isC)
    (kk : ∀ (r : Int32) (u : S) (H1 : Heap) (locs1 : List Loc), post r u → va_P D vwCl (wr ++ w1 u) H1 → va_D A (wr ++ w1 u) → va_K D vwCl (tys ++ tys1 u) s → va_S A H0 H1 locs1 → W p l e R s m args below meth c H1 locs1 (cells + mc) (slots + ms) Q (F0 m (pc + 3) ls (.int r :: rest))) : W p l e R s m args below meth c H locs cells slots Q (F0 m pc ls st0) := by
  have hF := va_free (wc := wc) hD hS hA isC hC
  refine va_calli hr hS (fun q _ h => hF q h) hF (fun r u t H1 locs1 ht hvm hw hB hz hk hS1 => ?_)
  obtain ⟨hP1, hK1, hD1⟩ := hB
  rw [ht] at hP1
  obtain ⟨hP2, hD2⟩ := va_join (wr := wr) (w1 := w1 u) hP hD isC isR hC hR hn hdis hk hF hP1 hD1
  exact kk r u H1 locs1 hw hP2 hD2 (hK.app (va_K.moved hvm.symm hK1)) hS1
theorem cl_l {post : Int64 → S → Prop} (hr : va_Run p l e R s m args below meth c H locs cells slots mc ms (F0 m pc ls st0) rest (va_Ql post (fun u t => BC D (va_A wc H.size) (w1 u) (tys1 u) t) (va_A wc H.size) a) (va_A wc H.size)) (hP : va_P D vwCl ws H) (hD : va_D A ws) (hK : va_K D vwCl tys s) (hS : va_S A H0 H locs) (hA : ∀ q, H0.size ≤ q → A q) (isC isR : List Nat) (hC : isC.map (fun i => ws[i]?) = wc.map some) (hR : isR.map (fun i => ws[i]?) = wr.map some) (hn : va_nd isR = true) (hdis : ∀ i ∈ isR, i ∉ isC)
    (kk : ∀ (r : Int64) (u : S) (H1 : Heap) (locs1 : List Loc), post r u → va_P D vwCl (wr ++ w1 u) H1 → va_D A (wr ++ w1 u) → va_K D vwCl (tys ++ tys1 u) s → va_S A H0 H1 locs1 → W p l e R s m args below meth c H1 locs1 (cells + mc) (slots + ms) Q (F0 m (pc + 3) ls (.long r :: rest))) : W p l e R s m args below meth c H locs cells slots Q (F0 m pc ls st0) := by
  have hF := va_free (wc := wc) hD hS hA isC hC
  refine va_calll hr hS (fun q _ h => hF q h) hF (fun r u t H1 locs1 ht hvm hw hB hz hk hS1 => ?_)
  obtain ⟨hP1, hK1, hD1⟩ := hB
  rw [ht] at hP1
  obtain ⟨hP2, hD2⟩ := va_join (wr := wr) (w1 := w1 u) hP hD isC isR hC hR hn hdis hk hF hP1 hD1
  exact kk r u H1 locs1 hw hP2 hD2 (hK.app (va_K.moved hvm.symm hK1)) hS1
theorem cl_v {post : S → Prop} (hr : va_Run p l e R s m args below meth c H locs cells slots mc ms (F0 m pc ls st0) rest (va_Qv post (fun u t => BC D (va_A wc H.size) (w1 u) (tys1 u) t) (va_A wc H.size) a) (va_A wc H.size)) (hP : va_P D vwCl ws H) (hD : va_D A ws) (hK : va_K D vwCl tys s) (hS : va_S A H0 H locs) (hA : ∀ q, H0.size ≤ q → A q) (isC isR : List Nat) (hC : isC.map (fun i => ws[i]?) = wc.map some) (hR : isR.map (fun i => ws[i]?) = wr.map some) (hn : va_nd isR = true) (hdis : ∀ i ∈ isR, i ∉ isC)
    (kk : ∀ (u : S) (H1 : Heap) (locs1 : List Loc), post u → va_P D vwCl (wr ++ w1 u) H1 → va_D A (wr ++ w1 u) → va_K D vwCl (tys ++ tys1 u) s → va_S A H0 H1 locs1 → W p l e R s m args below meth c H1 locs1 (cells + mc) (slots + ms) Q (F0 m (pc + 3) ls rest)) : W p l e R s m args below meth c H locs cells slots Q (F0 m pc ls st0) := by
  have hF := va_free (wc := wc) hD hS hA isC hC
  refine va_callv hr hS (fun q _ h => hF q h) hF (fun u t H1 locs1 ht hvm hw hB hz hk hS1 => ?_)
  obtain ⟨hP1, hK1, hD1⟩ := hB
  rw [ht] at hP1
  obtain ⟨hP2, hD2⟩ := va_join (wr := wr) (w1 := w1 u) hP hD isC isR hC hR hn hdis hk hF hP1 hD1
  exact kk u H1 locs1 hw hP2 hD2 (hK.app (va_K.moved hvm.symm hK1)) hS1
end CL
theorem fa_lt (a b : Int32) : a < b ↔ a.toInt < b.toInt := Int32.lt_iff_toInt_lt
theorem fa_le (a b : Int32) : a ≤ b ↔ a.toInt ≤ b.toInt := Int32.le_iff_toInt_le
theorem fa_eq (a b : Int32) : a = b ↔ a.toInt = b.toInt := Int32.toInt_inj.symm
theorem fa_or (a b : Nat) : nI a ||| nI b = nI (a ||| b) := by
  apply Int32.toBitVec_inj.1
  show BitVec.ofNat 32 a ||| BitVec.ofNat 32 b = BitVec.ofNat 32 (a ||| b)
  apply BitVec.eq_of_getLsbD_eq
  intro i hi
  simp [hi]
theorem ltv_m21 : ((-21) : Int32).toInt = (-21) := by decide
theorem ltv_m20 : ((-20) : Int32).toInt = (-20) := by decide
theorem ltv_m19 : ((-19) : Int32).toInt = (-19) := by decide
theorem ltv_m18 : ((-18) : Int32).toInt = (-18) := by decide
theorem ltv_m17 : ((-17) : Int32).toInt = (-17) := by decide
theorem ltv_m16 : ((-16) : Int32).toInt = (-16) := by decide
theorem ltv_m15 : ((-15) : Int32).toInt = (-15) := by decide
theorem ltv_m14 : ((-14) : Int32).toInt = (-14) := by decide
theorem ltv_m13 : ((-13) : Int32).toInt = (-13) := by decide
theorem ltv_m12 : ((-12) : Int32).toInt = (-12) := by decide
theorem ltv_m11 : ((-11) : Int32).toInt = (-11) := by decide
theorem ltv_m10 : ((-10) : Int32).toInt = (-10) := by decide
theorem ltv_m9 : ((-9) : Int32).toInt = (-9) := by decide
theorem ltv_m8 : ((-8) : Int32).toInt = (-8) := by decide
theorem ltv_m7 : ((-7) : Int32).toInt = (-7) := by decide
theorem ltv_m6 : ((-6) : Int32).toInt = (-6) := by decide
theorem ltv_m5 : ((-5) : Int32).toInt = (-5) := by decide
theorem ltv_m4 : ((-4) : Int32).toInt = (-4) := by decide
theorem ltv_m3 : ((-3) : Int32).toInt = (-3) := by decide
theorem ltv_m2 : ((-2) : Int32).toInt = (-2) := by decide
theorem ltv_m1 : ((-1) : Int32).toInt = (-1) := by decide
theorem ltv_0 : (0 : Int32).toInt = 0 := by decide
theorem ltv_1 : (1 : Int32).toInt = 1 := by decide
theorem ltv_2 : (2 : Int32).toInt = 2 := by decide
theorem ltv_3 : (3 : Int32).toInt = 3 := by decide
theorem ltv_4 : (4 : Int32).toInt = 4 := by decide
theorem ltv_5 : (5 : Int32).toInt = 5 := by decide
theorem ltv_6 : (6 : Int32).toInt = 6 := by decide
theorem ltv_7 : (7 : Int32).toInt = 7 := by decide
theorem ltv_8 : (8 : Int32).toInt = 8 := by decide
theorem ltv_9 : (9 : Int32).toInt = 9 := by decide
theorem ltv_10 : (10 : Int32).toInt = 10 := by decide
theorem ltv_11 : (11 : Int32).toInt = 11 := by decide
theorem ltv_12 : (12 : Int32).toInt = 12 := by decide
theorem ltv_13 : (13 : Int32).toInt = 13 := by decide
theorem ltv_14 : (14 : Int32).toInt = 14 := by decide
theorem ltv_15 : (15 : Int32).toInt = 15 := by decide
theorem ltv_16 : (16 : Int32).toInt = 16 := by decide
theorem ltv_17 : (17 : Int32).toInt = 17 := by decide
theorem ltv_18 : (18 : Int32).toInt = 18 := by decide
theorem ltv_19 : (19 : Int32).toInt = 19 := by decide
theorem ltv_20 : (20 : Int32).toInt = 20 := by decide
theorem ltv_21 : (21 : Int32).toInt = 21 := by decide
theorem ltv_22 : (22 : Int32).toInt = 22 := by decide
theorem ltv_23 : (23 : Int32).toInt = 23 := by decide
theorem ltv_24 : (24 : Int32).toInt = 24 := by decide
theorem ltv_25 : (25 : Int32).toInt = 25 := by decide
theorem ltv_26 : (26 : Int32).toInt = 26 := by decide
theorem ltv_27 : (27 : Int32).toInt = 27 := by decide
theorem ltv_28 : (28 : Int32).toInt = 28 := by decide
theorem ltv_29 : (29 : Int32).toInt = 29 := by decide
theorem ltv_30 : (30 : Int32).toInt = 30 := by decide
theorem ltv_31 : (31 : Int32).toInt = 31 := by decide
theorem ltv_32 : (32 : Int32).toInt = 32 := by decide
theorem ltv_33 : (33 : Int32).toInt = 33 := by decide
theorem ltv_34 : (34 : Int32).toInt = 34 := by decide
theorem ltv_35 : (35 : Int32).toInt = 35 := by decide
theorem ltv_36 : (36 : Int32).toInt = 36 := by decide
theorem ltv_37 : (37 : Int32).toInt = 37 := by decide
theorem ltv_38 : (38 : Int32).toInt = 38 := by decide
theorem ltv_39 : (39 : Int32).toInt = 39 := by decide
theorem ltv_40 : (40 : Int32).toInt = 40 := by decide
theorem ltv_41 : (41 : Int32).toInt = 41 := by decide
theorem ltv_42 : (42 : Int32).toInt = 42 := by decide
theorem ltv_43 : (43 : Int32).toInt = 43 := by decide
theorem ltv_44 : (44 : Int32).toInt = 44 := by decide
theorem ltv_45 : (45 : Int32).toInt = 45 := by decide
theorem ltv_46 : (46 : Int32).toInt = 46 := by decide
theorem ltv_47 : (47 : Int32).toInt = 47 := by decide
theorem ltv_48 : (48 : Int32).toInt = 48 := by decide
theorem ltv_49 : (49 : Int32).toInt = 49 := by decide
theorem ltv_50 : (50 : Int32).toInt = 50 := by decide
theorem ltv_51 : (51 : Int32).toInt = 51 := by decide
theorem ltv_52 : (52 : Int32).toInt = 52 := by decide
theorem ltv_53 : (53 : Int32).toInt = 53 := by decide
theorem ltv_54 : (54 : Int32).toInt = 54 := by decide
theorem ltv_55 : (55 : Int32).toInt = 55 := by decide
theorem ltv_56 : (56 : Int32).toInt = 56 := by decide
theorem ltv_57 : (57 : Int32).toInt = 57 := by decide
theorem ltv_58 : (58 : Int32).toInt = 58 := by decide
theorem ltv_59 : (59 : Int32).toInt = 59 := by decide
theorem ltv_60 : (60 : Int32).toInt = 60 := by decide
theorem ltv_61 : (61 : Int32).toInt = 61 := by decide
theorem ltv_62 : (62 : Int32).toInt = 62 := by decide
theorem ltv_63 : (63 : Int32).toInt = 63 := by decide
theorem ltv_64 : (64 : Int32).toInt = 64 := by decide
theorem ltv_65 : (65 : Int32).toInt = 65 := by decide
theorem ltv_66 : (66 : Int32).toInt = 66 := by decide
theorem ltv_67 : (67 : Int32).toInt = 67 := by decide
theorem ltv_68 : (68 : Int32).toInt = 68 := by decide
theorem ltv_69 : (69 : Int32).toInt = 69 := by decide
theorem ltv_70 : (70 : Int32).toInt = 70 := by decide
theorem ltv_m100 : ((-100) : Int32).toInt = (-100) := by decide
theorem ltv_99 : (99 : Int32).toInt = 99 := by decide
theorem ltv_100 : (100 : Int32).toInt = 100 := by decide
theorem ltv_255 : (255 : Int32).toInt = 255 := by decide
theorem ltv_288 : (288 : Int32).toInt = 288 := by decide
theorem ltv_799 : (799 : Int32).toInt = 799 := by decide
theorem ltv_800 : (800 : Int32).toInt = 800 := by decide
theorem ltv_899 : (899 : Int32).toInt = 899 := by decide
theorem ltv_900 : (900 : Int32).toInt = 900 := by decide
theorem ltv_998 : (998 : Int32).toInt = 998 := by decide
theorem ltv_999 : (999 : Int32).toInt = 999 := by decide
theorem ltv_1000 : (1000 : Int32).toInt = 1000 := by decide
theorem ltv_65536 : (65536 : Int32).toInt = 65536 := by decide
theorem ltv_65537 : (65537 : Int32).toInt = 65537 := by decide
