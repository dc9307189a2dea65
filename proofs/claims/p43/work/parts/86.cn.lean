def pvO (o : Option TX11_q) (a : Nat) : Value := match o with | none => .null | some _ => .ref a
def qsO (o : Option TX11_q) (a : Nat) (u : Nat → Nat) (k : Nat → ClassId) : va_W := match o with | none => [] | some q => bX11 a u k q []
def KQ (D : va_G) (s : State) (k : Nat → ClassId) (o : Option TX11_q) : Prop := match o with | none => True | some _ => va_K D vwCl (tX11 k []) s
def wMo (B : Nat → Nat) (E : Nat → ClassId) (M : MS) (o : Option TX11_q) (RV : Value) (a : Nat) (u : Nat → Nat) (k : Nat → ClassId) : List va_W := wM B E M (pvO o a) RV (qsO o a u k)
def gM_feed (k1 : Int32) (k2 : Int32) (k3 : Int32) (k4 : Int32) (k5 : Int32) (M : MS) (o : Option TX11_q) : Option (Int32 × MS × Option TX11_q) := (f_X12_feed k1 k2 k3 k4 k5 M.1 M.2.1).map (fun (out : (Int32 × TX12_t × TX12_s)) => (out.1, (out.2.1, out.2.2, M.2.2.1, M.2.2.2.1, M.2.2.2.2.1, M.2.2.2.2.2.1, M.2.2.2.2.2.2.1, M.2.2.2.2.2.2.2), o))
set_option maxHeartbeats 1000000 in
theorem cn_feed {p : Program} {l : Launch} {e : Env} {s : State} {m : MethodId} {below : List Frame} {meth : Method} {c : Code} {b L : Nat} {xs : Nat → Int32} {H : Heap} {locs : List Loc} {cells slots : Nat} {Q : State → Prop} {dC : Nat → ClassId} {dI : Nat → Nat → Nat} {pc idx : Nat} {ls : Array Slot} {rest : List Value} {wr : va_W} {B : Nat → Nat} {E : Nat → ClassId} {M : MS} {RV : Value} {o : Option TX11_q} {qa : Nat} {qu : Nat → Nat} {qk : Nat → ClassId} (C0 : LW p l s m meth c b L xs) (hKM : KM (dC, dI) s E) (hKQ : KQ (dC, dI) s qk o) {k1 : Int32} {k2 : Int32} {k3 : Int32} {k4 : Int32} {k5 : Int32} (hH : HS (dC, dI) s (cat (wMo B E M o RV qa qu qk) wr) H locs) (hls : ls.size = 7) (hW : (rest.map fun v => v.category).sum ≤ 8) (hcs : cells ≤ 500000 ∧ slots ≤ 7000000) (hdg : decode cL_law pc = .ok (.invokevirtual idx, 3)) (hG : GoodIn lw_tbl (wsV RL idx RX12 yX12_feed vfX12_feed)) (r : Int32) (M' : MS) (o' : Option TX11_q) (h : gM_feed k1 k2 k3 k4 k5 M o = some (r, M', o'))
    (kk : ∀ (RV : Value) (qa : Nat) (qu : Nat → Nat) (qk : Nat → ClassId) (H : Heap) (locs : List Loc), KQ (dC, dI) s qk o' → HS (dC, dI) s (cat (wMo B E M' o' RV qa qu qk) wr) H locs → W p l e room_1 s m #[Value.ref b] below meth c H locs cells slots Q (F0 m (pc + 3) ls (.int r :: rest))) : W p l e room_1 s m #[Value.ref b] below meth c H locs cells slots Q (F0 m pc ls (.int k5 :: .int k4 :: .int k3 :: .int k2 :: .int k1 :: .ref (B 0) :: rest)) := by
  rw [gM_feed] at h
  obtain ⟨out, hf, e0⟩ := Option.map_eq_some_iff.mp h
  obtain ⟨e1, e2⟩ := Prod.mk.inj e0
  obtain ⟨e2, e3⟩ := Prod.mk.inj e2
  subst e1
  subst e2
  subst e3
  exact cm_feed C0 hKM hH hls hW hcs hdg hG out hf (fun H locs hH => kk RV qa qu qk H locs hKQ hH)
def gM_pier (k1 : Int32) (M : MS) (o : Option TX11_q) : Option (Int32 × MS × Option TX11_q) := match f_X12_pier_r k1 M.1 M.2.1 with | some out => some (-1, (out, M.2.1, M.2.2.1, M.2.2.2.1, M.2.2.2.2.1, M.2.2.2.2.2.1, M.2.2.2.2.2.2.1, M.2.2.2.2.2.2.2), o) | none => match f_X12_pier_f k1 M.1 M.2.1 with | some out => some (-1, (out.1, out.2.1, M.2.2.1, M.2.2.2.1, M.2.2.2.2.1, M.2.2.2.2.2.1, M.2.2.2.2.2.2.1, M.2.2.2.2.2.2.2), o) | none => (f_X12_pier_o k1 M.1 M.2.1 M.2.2.1 M.2.2.2.2.1).map (fun (out : (Int32 × TX12_t × TX12_s × TX12_v × TX12_h × TX11_q)) => (out.1, (out.2.1, out.2.2.1, out.2.2.2.1, M.2.2.2.1, out.2.2.2.2.1, M.2.2.2.2.2.1, M.2.2.2.2.2.2.1, M.2.2.2.2.2.2.2), some out.2.2.2.2.2))
set_option maxHeartbeats 1000000 in
theorem cn_pier {p : Program} {l : Launch} {e : Env} {s : State} {m : MethodId} {below : List Frame} {meth : Method} {c : Code} {b L : Nat} {xs : Nat → Int32} {H : Heap} {locs : List Loc} {cells slots : Nat} {Q : State → Prop} {dC : Nat → ClassId} {dI : Nat → Nat → Nat} {pc idx : Nat} {ls : Array Slot} {rest : List Value} {wr : va_W} {B : Nat → Nat} {E : Nat → ClassId} {M : MS} {RV : Value} {o : Option TX11_q} {qa : Nat} {qu : Nat → Nat} {qk : Nat → ClassId} (C0 : LW p l s m meth c b L xs) (hKM : KM (dC, dI) s E) (hKQ : KQ (dC, dI) s qk o) {k1 : Int32} (hH : HS (dC, dI) s (cat (wMo B E M o RV qa qu qk) wr) H locs) (hls : ls.size = 7) (hW : (rest.map fun v => v.category).sum ≤ 8) (hcs : cells ≤ 500000 ∧ slots ≤ 7000000) (hdg : decode cL_law pc = .ok (.invokevirtual idx, 3)) (hGr : GoodIn lw_tbl (wsV RL idx RX12 yX12_pier vfX12_pier_r)) (hGf : GoodIn lw_tbl (wsV RL idx RX12 yX12_pier vfX12_pier_f)) (hGo : GoodIn lw_tbl (wsV RL idx RX12 yX12_pier vfX12_pier_o)) (r : Int32) (M' : MS) (o' : Option TX11_q) (h : gM_pier k1 M o = some (r, M', o'))
    (kk : ∀ (RV : Value) (qa : Nat) (qu : Nat → Nat) (qk : Nat → ClassId) (H : Heap) (locs : List Loc), KQ (dC, dI) s qk o' → HS (dC, dI) s (cat (wMo B E M' o' RV qa qu qk) wr) H locs → W p l e room_1 s m #[Value.ref b] below meth c H locs (cells + 15) (slots + 134) Q (F0 m (pc + 3) ls (.int r :: rest))) : W p l e room_1 s m #[Value.ref b] below meth c H locs cells slots Q (F0 m pc ls (.int k1 :: .ref (B 0) :: rest)) := by
  unfold gM_pier at h
  split at h
  · rename_i out hr
    cases h
    exact cm_pier_r C0 hKM hH hls hW hcs hdg hGr out hr (fun H locs hH => W.widen (Nat.le_add_right _ _) (Nat.le_add_right _ _) (kk RV qa qu qk H locs hKQ hH))
  · split at h
    · rename_i out hr
      cases h
      exact cm_pier_f C0 hKM hH hls hW hcs hdg hGf out hr (fun RV H locs hH => kk RV qa qu qk H locs hKQ hH)
    · obtain ⟨out, hf, e0⟩ := Option.map_eq_some_iff.mp h
      obtain ⟨e1, e2⟩ := Prod.mk.inj e0
      obtain ⟨e2, e3⟩ := Prod.mk.inj e2
      subst e1
      subst e2
      subst e3
      exact cm_pier_o C0 hKM hH hls hW hcs hdg hGo out hf (fun a u k H locs hK hH => kk (.ref a) a u k H locs hK hH)
def gM_fault (M : MS) (o : Option TX11_q) : Option (Int32 × MS × Option TX11_q) := (some (f_X12_fault M.1 M.2.1)).map (fun (out : (Int32 × TX12_t)) => (out.1, (out.2, M.2.1, M.2.2.1, M.2.2.2.1, M.2.2.2.2.1, M.2.2.2.2.2.1, M.2.2.2.2.2.2.1, M.2.2.2.2.2.2.2), o))
set_option maxHeartbeats 1000000 in
theorem cn_fault {p : Program} {l : Launch} {e : Env} {s : State} {m : MethodId} {below : List Frame} {meth : Method} {c : Code} {b L : Nat} {xs : Nat → Int32} {H : Heap} {locs : List Loc} {cells slots : Nat} {Q : State → Prop} {dC : Nat → ClassId} {dI : Nat → Nat → Nat} {pc idx : Nat} {ls : Array Slot} {rest : List Value} {wr : va_W} {B : Nat → Nat} {E : Nat → ClassId} {M : MS} {RV : Value} {o : Option TX11_q} {qa : Nat} {qu : Nat → Nat} {qk : Nat → ClassId} (C0 : LW p l s m meth c b L xs) (hKM : KM (dC, dI) s E) (hKQ : KQ (dC, dI) s qk o) (hH : HS (dC, dI) s (cat (wMo B E M o RV qa qu qk) wr) H locs) (hls : ls.size = 7) (hW : (rest.map fun v => v.category).sum ≤ 8) (hcs : cells ≤ 500000 ∧ slots ≤ 7000000) (hdg : decode cL_law pc = .ok (.invokevirtual idx, 3)) (hG : GoodIn lw_tbl (wsV RL idx RX12 yX12_fault vfX12_fault)) (r : Int32) (M' : MS) (o' : Option TX11_q) (h : gM_fault M o = some (r, M', o'))
    (kk : ∀ (RV : Value) (qa : Nat) (qu : Nat → Nat) (qk : Nat → ClassId) (H : Heap) (locs : List Loc), KQ (dC, dI) s qk o' → HS (dC, dI) s (cat (wMo B E M' o' RV qa qu qk) wr) H locs → W p l e room_1 s m #[Value.ref b] below meth c H locs cells slots Q (F0 m (pc + 3) ls (.int r :: rest))) : W p l e room_1 s m #[Value.ref b] below meth c H locs cells slots Q (F0 m pc ls (.ref (B 0) :: rest)) := by
  rw [gM_fault] at h
  obtain ⟨out, hf, e0⟩ := Option.map_eq_some_iff.mp h
  obtain ⟨e1, e2⟩ := Prod.mk.inj e0
  obtain ⟨e2, e3⟩ := Prod.mk.inj e2
  subst e1
  subst e2
  subst e3
  exact cm_fault C0 hKM hH hls hW hcs hdg hG out (Option.some.inj hf) (fun H locs hH => kk RV qa qu qk H locs hKQ hH)
def gM_where (M : MS) (o : Option TX11_q) : Option (Int32 × MS × Option TX11_q) := (some (f_X12_where M.1)).map (fun (out : (Int32 × TX12_t)) => (out.1, (out.2, M.2.1, M.2.2.1, M.2.2.2.1, M.2.2.2.2.1, M.2.2.2.2.2.1, M.2.2.2.2.2.2.1, M.2.2.2.2.2.2.2), o))
set_option maxHeartbeats 1000000 in
theorem cn_where {p : Program} {l : Launch} {e : Env} {s : State} {m : MethodId} {below : List Frame} {meth : Method} {c : Code} {b L : Nat} {xs : Nat → Int32} {H : Heap} {locs : List Loc} {cells slots : Nat} {Q : State → Prop} {dC : Nat → ClassId} {dI : Nat → Nat → Nat} {pc idx : Nat} {ls : Array Slot} {rest : List Value} {wr : va_W} {B : Nat → Nat} {E : Nat → ClassId} {M : MS} {RV : Value} {o : Option TX11_q} {qa : Nat} {qu : Nat → Nat} {qk : Nat → ClassId} (C0 : LW p l s m meth c b L xs) (hKM : KM (dC, dI) s E) (hKQ : KQ (dC, dI) s qk o) (hH : HS (dC, dI) s (cat (wMo B E M o RV qa qu qk) wr) H locs) (hls : ls.size = 7) (hW : (rest.map fun v => v.category).sum ≤ 8) (hcs : cells ≤ 500000 ∧ slots ≤ 7000000) (hdg : decode cL_law pc = .ok (.invokevirtual idx, 3)) (hG : GoodIn lw_tbl (wsV RL idx RX12 yX12_where vfX12_where)) (r : Int32) (M' : MS) (o' : Option TX11_q) (h : gM_where M o = some (r, M', o'))
    (kk : ∀ (RV : Value) (qa : Nat) (qu : Nat → Nat) (qk : Nat → ClassId) (H : Heap) (locs : List Loc), KQ (dC, dI) s qk o' → HS (dC, dI) s (cat (wMo B E M' o' RV qa qu qk) wr) H locs → W p l e room_1 s m #[Value.ref b] below meth c H locs cells slots Q (F0 m (pc + 3) ls (.int r :: rest))) : W p l e room_1 s m #[Value.ref b] below meth c H locs cells slots Q (F0 m pc ls (.ref (B 0) :: rest)) := by
  rw [gM_where] at h
  obtain ⟨out, hf, e0⟩ := Option.map_eq_some_iff.mp h
  obtain ⟨e1, e2⟩ := Prod.mk.inj e0
  obtain ⟨e2, e3⟩ := Prod.mk.inj e2
  subst e1
  subst e2
  subst e3
  exact cm_where C0 hKM hH hls hW hcs hdg hG out (Option.some.inj hf) (fun H locs hH => kk RV qa qu qk H locs hKQ hH)
def gM_answer (k1 : Int32) (k2 : Int32) (M : MS) : Option TX11_q → Option (Int32 × MS × Option TX11_q)
  | none => (some (f_X12_answer_nul k1 k2 M.1)).map (fun (out : TX12_t) => ((-1), (out, M.2.1, M.2.2.1, M.2.2.2.1, M.2.2.2.2.1, M.2.2.2.2.2.1, M.2.2.2.2.2.2.1, M.2.2.2.2.2.2.2), none))
  | some q => (f_X12_answer k1 k2 M.1 M.2.2.1 q).map (fun (out : (Int32 × TX12_t)) => (out.1, (out.2, M.2.1, M.2.2.1, M.2.2.2.1, M.2.2.2.2.1, M.2.2.2.2.2.1, M.2.2.2.2.2.2.1, M.2.2.2.2.2.2.2), some q))
set_option maxHeartbeats 1000000 in
theorem cn_answer {p : Program} {l : Launch} {e : Env} {s : State} {m : MethodId} {below : List Frame} {meth : Method} {c : Code} {b L : Nat} {xs : Nat → Int32} {H : Heap} {locs : List Loc} {cells slots : Nat} {Q : State → Prop} {dC : Nat → ClassId} {dI : Nat → Nat → Nat} {pc idx : Nat} {ls : Array Slot} {rest : List Value} {wr : va_W} {B : Nat → Nat} {E : Nat → ClassId} {M : MS} {RV : Value} {o : Option TX11_q} {qa : Nat} {qu : Nat → Nat} {qk : Nat → ClassId} (C0 : LW p l s m meth c b L xs) (hKM : KM (dC, dI) s E) (hKQ : KQ (dC, dI) s qk o) {k1 : Int32} {k2 : Int32} (hH : HS (dC, dI) s (cat (wMo B E M o RV qa qu qk) wr) H locs) (hls : ls.size = 7) (hW : (rest.map fun v => v.category).sum ≤ 8) (hcs : cells ≤ 500000 ∧ slots ≤ 7000000) (hdg : decode cL_law pc = .ok (.invokevirtual idx, 3)) (hGn : GoodIn lw_tbl (wsV RL idx RX12 yX12_answer vfX12_answer_nul)) (hG : GoodIn lw_tbl (wsV RL idx RX12 yX12_answer vfX12_answer)) (r : Int32) (M' : MS) (o' : Option TX11_q) (h : gM_answer k1 k2 M o = some (r, M', o'))
    (kk : ∀ (RV : Value) (qa : Nat) (qu : Nat → Nat) (qk : Nat → ClassId) (H : Heap) (locs : List Loc), KQ (dC, dI) s qk o' → HS (dC, dI) s (cat (wMo B E M' o' RV qa qu qk) wr) H locs → W p l e room_1 s m #[Value.ref b] below meth c H locs cells slots Q (F0 m (pc + 3) ls (.int r :: rest))) : W p l e room_1 s m #[Value.ref b] below meth c H locs cells slots Q (F0 m pc ls (.int k2 :: .int k1 :: .ref (B 0) :: rest)) := by
  cases o with
  | none =>
    rw [gM_answer] at h
    obtain ⟨out, hf, e0⟩ := Option.map_eq_some_iff.mp h
    obtain ⟨e1, e2⟩ := Prod.mk.inj e0
    obtain ⟨e2, e3⟩ := Prod.mk.inj e2
    subst e1
    subst e2
    subst e3
    exact cm_answer_nul C0 hKM hH hls hW hcs hdg hGn out (Option.some.inj hf) (fun H locs hH => kk RV qa qu qk H locs hKQ hH)
  | some q =>
    rw [gM_answer] at h
    obtain ⟨out, hf, e0⟩ := Option.map_eq_some_iff.mp h
    obtain ⟨e1, e2⟩ := Prod.mk.inj e0
    obtain ⟨e2, e3⟩ := Prod.mk.inj e2
    subst e1
    subst e2
    subst e3
    exact cm_answer hKQ C0 hKM hH hls hW hcs hdg hG out hf (fun H locs hH => kk RV qa qu qk H locs hKQ hH)
def gM_asker (k1 : Int32) (k2 : Int32) (M : MS) : Option TX11_q → Option (Int32 × MS × Option TX11_q)
  | none => (some (f_X12_asker_nul k1 k2 M.1)).map (fun (out : TX12_t) => ((-1), (out, M.2.1, M.2.2.1, M.2.2.2.1, M.2.2.2.2.1, M.2.2.2.2.2.1, M.2.2.2.2.2.2.1, M.2.2.2.2.2.2.2), none))
  | some q => (f_X12_asker k1 k2 M.1 M.2.2.1 q).map (fun (out : (Int32 × TX12_t)) => (out.1, (out.2, M.2.1, M.2.2.1, M.2.2.2.1, M.2.2.2.2.1, M.2.2.2.2.2.1, M.2.2.2.2.2.2.1, M.2.2.2.2.2.2.2), some q))
set_option maxHeartbeats 1000000 in
theorem cn_asker {p : Program} {l : Launch} {e : Env} {s : State} {m : MethodId} {below : List Frame} {meth : Method} {c : Code} {b L : Nat} {xs : Nat → Int32} {H : Heap} {locs : List Loc} {cells slots : Nat} {Q : State → Prop} {dC : Nat → ClassId} {dI : Nat → Nat → Nat} {pc idx : Nat} {ls : Array Slot} {rest : List Value} {wr : va_W} {B : Nat → Nat} {E : Nat → ClassId} {M : MS} {RV : Value} {o : Option TX11_q} {qa : Nat} {qu : Nat → Nat} {qk : Nat → ClassId} (C0 : LW p l s m meth c b L xs) (hKM : KM (dC, dI) s E) (hKQ : KQ (dC, dI) s qk o) {k1 : Int32} {k2 : Int32} (hH : HS (dC, dI) s (cat (wMo B E M o RV qa qu qk) wr) H locs) (hls : ls.size = 7) (hW : (rest.map fun v => v.category).sum ≤ 8) (hcs : cells ≤ 500000 ∧ slots ≤ 7000000) (hdg : decode cL_law pc = .ok (.invokevirtual idx, 3)) (hGn : GoodIn lw_tbl (wsV RL idx RX12 yX12_asker vfX12_asker_nul)) (hG : GoodIn lw_tbl (wsV RL idx RX12 yX12_asker vfX12_asker)) (r : Int32) (M' : MS) (o' : Option TX11_q) (h : gM_asker k1 k2 M o = some (r, M', o'))
    (kk : ∀ (RV : Value) (qa : Nat) (qu : Nat → Nat) (qk : Nat → ClassId) (H : Heap) (locs : List Loc), KQ (dC, dI) s qk o' → HS (dC, dI) s (cat (wMo B E M' o' RV qa qu qk) wr) H locs → W p l e room_1 s m #[Value.ref b] below meth c H locs cells slots Q (F0 m (pc + 3) ls (.int r :: rest))) : W p l e room_1 s m #[Value.ref b] below meth c H locs cells slots Q (F0 m pc ls (.int k2 :: .int k1 :: .ref (B 0) :: rest)) := by
  cases o with
  | none =>
    rw [gM_asker] at h
    obtain ⟨out, hf, e0⟩ := Option.map_eq_some_iff.mp h
    obtain ⟨e1, e2⟩ := Prod.mk.inj e0
    obtain ⟨e2, e3⟩ := Prod.mk.inj e2
    subst e1
    subst e2
    subst e3
    exact cm_asker_nul C0 hKM hH hls hW hcs hdg hGn out (Option.some.inj hf) (fun H locs hH => kk RV qa qu qk H locs hKQ hH)
  | some q =>
    rw [gM_asker] at h
    obtain ⟨out, hf, e0⟩ := Option.map_eq_some_iff.mp h
    obtain ⟨e1, e2⟩ := Prod.mk.inj e0
    obtain ⟨e2, e3⟩ := Prod.mk.inj e2
    subst e1
    subst e2
    subst e3
    exact cm_asker hKQ C0 hKM hH hls hW hcs hdg hG out hf (fun H locs hH => kk RV qa qu qk H locs hKQ hH)
def gM_close (k1 : Int32) (M : MS) : Option TX11_q → Option (Int32 × MS × Option TX11_q)
  | none => (some (f_X12_close_nul k1 M.1)).map (fun (out : TX12_t) => ((-1), (out, M.2.1, M.2.2.1, M.2.2.2.1, M.2.2.2.2.1, M.2.2.2.2.2.1, M.2.2.2.2.2.2.1, M.2.2.2.2.2.2.2), none))
  | some q => (some (f_X12_close k1 M.1 q)).map (fun (out : (Int32 × TX12_t)) => (out.1, (out.2, M.2.1, M.2.2.1, M.2.2.2.1, M.2.2.2.2.1, M.2.2.2.2.2.1, M.2.2.2.2.2.2.1, M.2.2.2.2.2.2.2), some q))
set_option maxHeartbeats 1000000 in
theorem cn_close {p : Program} {l : Launch} {e : Env} {s : State} {m : MethodId} {below : List Frame} {meth : Method} {c : Code} {b L : Nat} {xs : Nat → Int32} {H : Heap} {locs : List Loc} {cells slots : Nat} {Q : State → Prop} {dC : Nat → ClassId} {dI : Nat → Nat → Nat} {pc idx : Nat} {ls : Array Slot} {rest : List Value} {wr : va_W} {B : Nat → Nat} {E : Nat → ClassId} {M : MS} {RV : Value} {o : Option TX11_q} {qa : Nat} {qu : Nat → Nat} {qk : Nat → ClassId} (C0 : LW p l s m meth c b L xs) (hKM : KM (dC, dI) s E) (hKQ : KQ (dC, dI) s qk o) {k1 : Int32} (hH : HS (dC, dI) s (cat (wMo B E M o RV qa qu qk) wr) H locs) (hls : ls.size = 7) (hW : (rest.map fun v => v.category).sum ≤ 8) (hcs : cells ≤ 500000 ∧ slots ≤ 7000000) (hdg : decode cL_law pc = .ok (.invokevirtual idx, 3)) (hGn : GoodIn lw_tbl (wsV RL idx RX12 yX12_close vfX12_close_nul)) (hG : GoodIn lw_tbl (wsV RL idx RX12 yX12_close vfX12_close)) (r : Int32) (M' : MS) (o' : Option TX11_q) (h : gM_close k1 M o = some (r, M', o'))
    (kk : ∀ (RV : Value) (qa : Nat) (qu : Nat → Nat) (qk : Nat → ClassId) (H : Heap) (locs : List Loc), KQ (dC, dI) s qk o' → HS (dC, dI) s (cat (wMo B E M' o' RV qa qu qk) wr) H locs → W p l e room_1 s m #[Value.ref b] below meth c H locs cells slots Q (F0 m (pc + 3) ls (.int r :: rest))) : W p l e room_1 s m #[Value.ref b] below meth c H locs cells slots Q (F0 m pc ls (.int k1 :: .ref (B 0) :: rest)) := by
  cases o with
  | none =>
    rw [gM_close] at h
    obtain ⟨out, hf, e0⟩ := Option.map_eq_some_iff.mp h
    obtain ⟨e1, e2⟩ := Prod.mk.inj e0
    obtain ⟨e2, e3⟩ := Prod.mk.inj e2
    subst e1
    subst e2
    subst e3
    exact cm_close_nul C0 hKM hH hls hW hcs hdg hGn out (Option.some.inj hf) (fun H locs hH => kk RV qa qu qk H locs hKQ hH)
  | some q =>
    rw [gM_close] at h
    obtain ⟨out, hf, e0⟩ := Option.map_eq_some_iff.mp h
    obtain ⟨e1, e2⟩ := Prod.mk.inj e0
    obtain ⟨e2, e3⟩ := Prod.mk.inj e2
    subst e1
    subst e2
    subst e3
    exact cm_close hKQ C0 hKM hH hls hW hcs hdg hG out (Option.some.inj hf) (fun H locs hH => kk RV qa qu qk H locs hKQ hH)
def gM_wish (k1 : Int32) (k2 : Int32) (k3 : Int32) (k4 : Int32) (M : MS) : Option TX11_q → Option (Int32 × MS × Option TX11_q)
  | none => (some (f_X12_wish_nul k1 k2 k3 k4 M.1)).map (fun (out : TX12_t) => ((-1), (out, M.2.1, M.2.2.1, M.2.2.2.1, M.2.2.2.2.1, M.2.2.2.2.2.1, M.2.2.2.2.2.2.1, M.2.2.2.2.2.2.2), none))
  | some q => (f_X12_wish k1 k2 k3 k4 M.1 q).map (fun (out : (Int32 × TX12_t)) => (out.1, (out.2, M.2.1, M.2.2.1, M.2.2.2.1, M.2.2.2.2.1, M.2.2.2.2.2.1, M.2.2.2.2.2.2.1, M.2.2.2.2.2.2.2), some q))
set_option maxHeartbeats 1000000 in
theorem cn_wish {p : Program} {l : Launch} {e : Env} {s : State} {m : MethodId} {below : List Frame} {meth : Method} {c : Code} {b L : Nat} {xs : Nat → Int32} {H : Heap} {locs : List Loc} {cells slots : Nat} {Q : State → Prop} {dC : Nat → ClassId} {dI : Nat → Nat → Nat} {pc idx : Nat} {ls : Array Slot} {rest : List Value} {wr : va_W} {B : Nat → Nat} {E : Nat → ClassId} {M : MS} {RV : Value} {o : Option TX11_q} {qa : Nat} {qu : Nat → Nat} {qk : Nat → ClassId} (C0 : LW p l s m meth c b L xs) (hKM : KM (dC, dI) s E) (hKQ : KQ (dC, dI) s qk o) {k1 : Int32} {k2 : Int32} {k3 : Int32} {k4 : Int32} (hH : HS (dC, dI) s (cat (wMo B E M o RV qa qu qk) wr) H locs) (hls : ls.size = 7) (hW : (rest.map fun v => v.category).sum ≤ 8) (hcs : cells ≤ 500000 ∧ slots ≤ 7000000) (hdg : decode cL_law pc = .ok (.invokevirtual idx, 3)) (hGn : GoodIn lw_tbl (wsV RL idx RX12 yX12_wish vfX12_wish_nul)) (hG : GoodIn lw_tbl (wsV RL idx RX12 yX12_wish vfX12_wish)) (r : Int32) (M' : MS) (o' : Option TX11_q) (h : gM_wish k1 k2 k3 k4 M o = some (r, M', o'))
    (kk : ∀ (RV : Value) (qa : Nat) (qu : Nat → Nat) (qk : Nat → ClassId) (H : Heap) (locs : List Loc), KQ (dC, dI) s qk o' → HS (dC, dI) s (cat (wMo B E M' o' RV qa qu qk) wr) H locs → W p l e room_1 s m #[Value.ref b] below meth c H locs cells slots Q (F0 m (pc + 3) ls (.int r :: rest))) : W p l e room_1 s m #[Value.ref b] below meth c H locs cells slots Q (F0 m pc ls (.int k4 :: .int k3 :: .int k2 :: .int k1 :: .ref (B 0) :: rest)) := by
  cases o with
  | none =>
    rw [gM_wish] at h
    obtain ⟨out, hf, e0⟩ := Option.map_eq_some_iff.mp h
    obtain ⟨e1, e2⟩ := Prod.mk.inj e0
    obtain ⟨e2, e3⟩ := Prod.mk.inj e2
    subst e1
    subst e2
    subst e3
    exact cm_wish_nul C0 hKM hH hls hW hcs hdg hGn out (Option.some.inj hf) (fun H locs hH => kk RV qa qu qk H locs hKQ hH)
  | some q =>
    rw [gM_wish] at h
    obtain ⟨out, hf, e0⟩ := Option.map_eq_some_iff.mp h
    obtain ⟨e1, e2⟩ := Prod.mk.inj e0
    obtain ⟨e2, e3⟩ := Prod.mk.inj e2
    subst e1
    subst e2
    subst e3
    exact cm_wish hKQ C0 hKM hH hls hW hcs hdg hG out hf (fun H locs hH => kk RV qa qu qk H locs hKQ hH)
def gM_takes (k1 : Int32) (k2 : Int32) (k3 : Int32) (k4 : Int32) (k5 : Int32) (M : MS) : Option TX11_q → Option (Int64 × MS × Option TX11_q)
  | none => (some (f_X12_takes_nul k1 k2 k3 k4 k5 M.1)).map (fun (out : TX12_t) => ((-1), (out, M.2.1, M.2.2.1, M.2.2.2.1, M.2.2.2.2.1, M.2.2.2.2.2.1, M.2.2.2.2.2.2.1, M.2.2.2.2.2.2.2), none))
  | some q => (f_X12_takes k1 k2 k3 k4 k5 M.1 M.2.2.1 q).map (fun (out : (Int64 × TX12_t)) => (out.1, (out.2, M.2.1, M.2.2.1, M.2.2.2.1, M.2.2.2.2.1, M.2.2.2.2.2.1, M.2.2.2.2.2.2.1, M.2.2.2.2.2.2.2), some q))
set_option maxHeartbeats 1000000 in
theorem cn_takes {p : Program} {l : Launch} {e : Env} {s : State} {m : MethodId} {below : List Frame} {meth : Method} {c : Code} {b L : Nat} {xs : Nat → Int32} {H : Heap} {locs : List Loc} {cells slots : Nat} {Q : State → Prop} {dC : Nat → ClassId} {dI : Nat → Nat → Nat} {pc idx : Nat} {ls : Array Slot} {rest : List Value} {wr : va_W} {B : Nat → Nat} {E : Nat → ClassId} {M : MS} {RV : Value} {o : Option TX11_q} {qa : Nat} {qu : Nat → Nat} {qk : Nat → ClassId} (C0 : LW p l s m meth c b L xs) (hKM : KM (dC, dI) s E) (hKQ : KQ (dC, dI) s qk o) {k1 : Int32} {k2 : Int32} {k3 : Int32} {k4 : Int32} {k5 : Int32} (hH : HS (dC, dI) s (cat (wMo B E M o RV qa qu qk) wr) H locs) (hls : ls.size = 7) (hW : (rest.map fun v => v.category).sum ≤ 8) (hcs : cells ≤ 500000 ∧ slots ≤ 7000000) (hdg : decode cL_law pc = .ok (.invokevirtual idx, 3)) (hGn : GoodIn lw_tbl (wsV RL idx RX12 yX12_takes vfX12_takes_nul)) (hG : GoodIn lw_tbl (wsV RL idx RX12 yX12_takes vfX12_takes)) (r : Int64) (M' : MS) (o' : Option TX11_q) (h : gM_takes k1 k2 k3 k4 k5 M o = some (r, M', o'))
    (kk : ∀ (RV : Value) (qa : Nat) (qu : Nat → Nat) (qk : Nat → ClassId) (H : Heap) (locs : List Loc), KQ (dC, dI) s qk o' → HS (dC, dI) s (cat (wMo B E M' o' RV qa qu qk) wr) H locs → W p l e room_1 s m #[Value.ref b] below meth c H locs cells slots Q (F0 m (pc + 3) ls (.long r :: rest))) : W p l e room_1 s m #[Value.ref b] below meth c H locs cells slots Q (F0 m pc ls (.int k5 :: .int k4 :: .int k3 :: .int k2 :: .int k1 :: .ref (B 0) :: rest)) := by
  cases o with
  | none =>
    rw [gM_takes] at h
    obtain ⟨out, hf, e0⟩ := Option.map_eq_some_iff.mp h
    obtain ⟨e1, e2⟩ := Prod.mk.inj e0
    obtain ⟨e2, e3⟩ := Prod.mk.inj e2
    subst e1
    subst e2
    subst e3
    exact cm_takes_nul C0 hKM hH hls hW hcs hdg hGn out (Option.some.inj hf) (fun H locs hH => kk RV qa qu qk H locs hKQ hH)
  | some q =>
    rw [gM_takes] at h
    obtain ⟨out, hf, e0⟩ := Option.map_eq_some_iff.mp h
    obtain ⟨e1, e2⟩ := Prod.mk.inj e0
    obtain ⟨e2, e3⟩ := Prod.mk.inj e2
    subst e1
    subst e2
    subst e3
    exact cm_takes hKQ C0 hKM hH hls hW hcs hdg hG out hf (fun H locs hH => kk RV qa qu qk H locs hKQ hH)
def gM_nothing (k1 : Int32) (k2 : Int32) (k3 : Int32) (k4 : Int32) (M : MS) : Option TX11_q → Option (Int64 × MS × Option TX11_q)
  | none => (some (f_X12_nothing_nul k1 k2 k3 k4 M.1)).map (fun (out : TX12_t) => ((-1), (out, M.2.1, M.2.2.1, M.2.2.2.1, M.2.2.2.2.1, M.2.2.2.2.2.1, M.2.2.2.2.2.2.1, M.2.2.2.2.2.2.2), none))
  | some q => (f_X12_nothing k1 k2 k3 k4 M.1 M.2.2.1 q).map (fun (out : (Int64 × TX12_t)) => (out.1, (out.2, M.2.1, M.2.2.1, M.2.2.2.1, M.2.2.2.2.1, M.2.2.2.2.2.1, M.2.2.2.2.2.2.1, M.2.2.2.2.2.2.2), some q))
set_option maxHeartbeats 1000000 in
theorem cn_nothing {p : Program} {l : Launch} {e : Env} {s : State} {m : MethodId} {below : List Frame} {meth : Method} {c : Code} {b L : Nat} {xs : Nat → Int32} {H : Heap} {locs : List Loc} {cells slots : Nat} {Q : State → Prop} {dC : Nat → ClassId} {dI : Nat → Nat → Nat} {pc idx : Nat} {ls : Array Slot} {rest : List Value} {wr : va_W} {B : Nat → Nat} {E : Nat → ClassId} {M : MS} {RV : Value} {o : Option TX11_q} {qa : Nat} {qu : Nat → Nat} {qk : Nat → ClassId} (C0 : LW p l s m meth c b L xs) (hKM : KM (dC, dI) s E) (hKQ : KQ (dC, dI) s qk o) {k1 : Int32} {k2 : Int32} {k3 : Int32} {k4 : Int32} (hH : HS (dC, dI) s (cat (wMo B E M o RV qa qu qk) wr) H locs) (hls : ls.size = 7) (hW : (rest.map fun v => v.category).sum ≤ 8) (hcs : cells ≤ 500000 ∧ slots ≤ 7000000) (hdg : decode cL_law pc = .ok (.invokevirtual idx, 3)) (hGn : GoodIn lw_tbl (wsV RL idx RX12 yX12_nothing vfX12_nothing_nul)) (hG : GoodIn lw_tbl (wsV RL idx RX12 yX12_nothing vfX12_nothing)) (r : Int64) (M' : MS) (o' : Option TX11_q) (h : gM_nothing k1 k2 k3 k4 M o = some (r, M', o'))
    (kk : ∀ (RV : Value) (qa : Nat) (qu : Nat → Nat) (qk : Nat → ClassId) (H : Heap) (locs : List Loc), KQ (dC, dI) s qk o' → HS (dC, dI) s (cat (wMo B E M' o' RV qa qu qk) wr) H locs → W p l e room_1 s m #[Value.ref b] below meth c H locs cells slots Q (F0 m (pc + 3) ls (.long r :: rest))) : W p l e room_1 s m #[Value.ref b] below meth c H locs cells slots Q (F0 m pc ls (.int k4 :: .int k3 :: .int k2 :: .int k1 :: .ref (B 0) :: rest)) := by
  cases o with
  | none =>
    rw [gM_nothing] at h
    obtain ⟨out, hf, e0⟩ := Option.map_eq_some_iff.mp h
    obtain ⟨e1, e2⟩ := Prod.mk.inj e0
    obtain ⟨e2, e3⟩ := Prod.mk.inj e2
    subst e1
    subst e2
    subst e3
    exact cm_nothing_nul C0 hKM hH hls hW hcs hdg hGn out (Option.some.inj hf) (fun H locs hH => kk RV qa qu qk H locs hKQ hH)
  | some q =>
    rw [gM_nothing] at h
    obtain ⟨out, hf, e0⟩ := Option.map_eq_some_iff.mp h
    obtain ⟨e1, e2⟩ := Prod.mk.inj e0
    obtain ⟨e2, e3⟩ := Prod.mk.inj e2
    subst e1
    subst e2
    subst e3
    exact cm_nothing hKQ C0 hKM hH hls hW hcs hdg hG out hf (fun H locs hH => kk RV qa qu qk H locs hKQ hH)
def gM_mean (k1 : Int32) (k2 : Int32) (k3 : Int32) (k4 : Int32) (M : MS) : Option TX11_q → Option (Int64 × MS × Option TX11_q)
  | none => (some (f_X12_mean_nul k1 k2 k3 k4 M.1)).map (fun (out : TX12_t) => ((-1), (out, M.2.1, M.2.2.1, M.2.2.2.1, M.2.2.2.2.1, M.2.2.2.2.2.1, M.2.2.2.2.2.2.1, M.2.2.2.2.2.2.2), none))
  | some q => (f_X12_mean k1 k2 k3 k4 M.1 M.2.2.1 q).map (fun (out : (Int64 × TX12_t)) => (out.1, (out.2, M.2.1, M.2.2.1, M.2.2.2.1, M.2.2.2.2.1, M.2.2.2.2.2.1, M.2.2.2.2.2.2.1, M.2.2.2.2.2.2.2), some q))
set_option maxHeartbeats 1000000 in
theorem cn_mean {p : Program} {l : Launch} {e : Env} {s : State} {m : MethodId} {below : List Frame} {meth : Method} {c : Code} {b L : Nat} {xs : Nat → Int32} {H : Heap} {locs : List Loc} {cells slots : Nat} {Q : State → Prop} {dC : Nat → ClassId} {dI : Nat → Nat → Nat} {pc idx : Nat} {ls : Array Slot} {rest : List Value} {wr : va_W} {B : Nat → Nat} {E : Nat → ClassId} {M : MS} {RV : Value} {o : Option TX11_q} {qa : Nat} {qu : Nat → Nat} {qk : Nat → ClassId} (C0 : LW p l s m meth c b L xs) (hKM : KM (dC, dI) s E) (hKQ : KQ (dC, dI) s qk o) {k1 : Int32} {k2 : Int32} {k3 : Int32} {k4 : Int32} (hH : HS (dC, dI) s (cat (wMo B E M o RV qa qu qk) wr) H locs) (hls : ls.size = 7) (hW : (rest.map fun v => v.category).sum ≤ 8) (hcs : cells ≤ 500000 ∧ slots ≤ 7000000) (hdg : decode cL_law pc = .ok (.invokevirtual idx, 3)) (hGn : GoodIn lw_tbl (wsV RL idx RX12 yX12_mean vfX12_mean_nul)) (hG : GoodIn lw_tbl (wsV RL idx RX12 yX12_mean vfX12_mean)) (r : Int64) (M' : MS) (o' : Option TX11_q) (h : gM_mean k1 k2 k3 k4 M o = some (r, M', o'))
    (kk : ∀ (RV : Value) (qa : Nat) (qu : Nat → Nat) (qk : Nat → ClassId) (H : Heap) (locs : List Loc), KQ (dC, dI) s qk o' → HS (dC, dI) s (cat (wMo B E M' o' RV qa qu qk) wr) H locs → W p l e room_1 s m #[Value.ref b] below meth c H locs cells slots Q (F0 m (pc + 3) ls (.long r :: rest))) : W p l e room_1 s m #[Value.ref b] below meth c H locs cells slots Q (F0 m pc ls (.int k4 :: .int k3 :: .int k2 :: .int k1 :: .ref (B 0) :: rest)) := by
  cases o with
  | none =>
    rw [gM_mean] at h
    obtain ⟨out, hf, e0⟩ := Option.map_eq_some_iff.mp h
    obtain ⟨e1, e2⟩ := Prod.mk.inj e0
    obtain ⟨e2, e3⟩ := Prod.mk.inj e2
    subst e1
    subst e2
    subst e3
    exact cm_mean_nul C0 hKM hH hls hW hcs hdg hGn out (Option.some.inj hf) (fun H locs hH => kk RV qa qu qk H locs hKQ hH)
  | some q =>
    rw [gM_mean] at h
    obtain ⟨out, hf, e0⟩ := Option.map_eq_some_iff.mp h
    obtain ⟨e1, e2⟩ := Prod.mk.inj e0
    obtain ⟨e2, e3⟩ := Prod.mk.inj e2
    subst e1
    subst e2
    subst e3
    exact cm_mean hKQ C0 hKM hH hls hW hcs hdg hG out hf (fun H locs hH => kk RV qa qu qk H locs hKQ hH)
def gM_likeliest (k1 : Int32) (k2 : Int32) (k3 : Int32) (M : MS) : Option TX11_q → Option (Int32 × MS × Option TX11_q)
  | none => (some (f_X12_likeliest_nul k1 k2 k3 M.1)).map (fun (out : TX12_t) => ((-1), (out, M.2.1, M.2.2.1, M.2.2.2.1, M.2.2.2.2.1, M.2.2.2.2.2.1, M.2.2.2.2.2.2.1, M.2.2.2.2.2.2.2), none))
  | some q => (f_X12_likeliest k1 k2 k3 M.1 M.2.2.1 q).map (fun (out : (Int32 × TX12_t)) => (out.1, (out.2, M.2.1, M.2.2.1, M.2.2.2.1, M.2.2.2.2.1, M.2.2.2.2.2.1, M.2.2.2.2.2.2.1, M.2.2.2.2.2.2.2), some q))
set_option maxHeartbeats 1000000 in
theorem cn_likeliest {p : Program} {l : Launch} {e : Env} {s : State} {m : MethodId} {below : List Frame} {meth : Method} {c : Code} {b L : Nat} {xs : Nat → Int32} {H : Heap} {locs : List Loc} {cells slots : Nat} {Q : State → Prop} {dC : Nat → ClassId} {dI : Nat → Nat → Nat} {pc idx : Nat} {ls : Array Slot} {rest : List Value} {wr : va_W} {B : Nat → Nat} {E : Nat → ClassId} {M : MS} {RV : Value} {o : Option TX11_q} {qa : Nat} {qu : Nat → Nat} {qk : Nat → ClassId} (C0 : LW p l s m meth c b L xs) (hKM : KM (dC, dI) s E) (hKQ : KQ (dC, dI) s qk o) {k1 : Int32} {k2 : Int32} {k3 : Int32} (hH : HS (dC, dI) s (cat (wMo B E M o RV qa qu qk) wr) H locs) (hls : ls.size = 7) (hW : (rest.map fun v => v.category).sum ≤ 8) (hcs : cells ≤ 500000 ∧ slots ≤ 7000000) (hdg : decode cL_law pc = .ok (.invokevirtual idx, 3)) (hGn : GoodIn lw_tbl (wsV RL idx RX12 yX12_likeliest vfX12_likeliest_nul)) (hG : GoodIn lw_tbl (wsV RL idx RX12 yX12_likeliest vfX12_likeliest)) (r : Int32) (M' : MS) (o' : Option TX11_q) (h : gM_likeliest k1 k2 k3 M o = some (r, M', o'))
    (kk : ∀ (RV : Value) (qa : Nat) (qu : Nat → Nat) (qk : Nat → ClassId) (H : Heap) (locs : List Loc), KQ (dC, dI) s qk o' → HS (dC, dI) s (cat (wMo B E M' o' RV qa qu qk) wr) H locs → W p l e room_1 s m #[Value.ref b] below meth c H locs cells slots Q (F0 m (pc + 3) ls (.int r :: rest))) : W p l e room_1 s m #[Value.ref b] below meth c H locs cells slots Q (F0 m pc ls (.int k3 :: .int k2 :: .int k1 :: .ref (B 0) :: rest)) := by
  cases o with
  | none =>
    rw [gM_likeliest] at h
    obtain ⟨out, hf, e0⟩ := Option.map_eq_some_iff.mp h
    obtain ⟨e1, e2⟩ := Prod.mk.inj e0
    obtain ⟨e2, e3⟩ := Prod.mk.inj e2
    subst e1
    subst e2
    subst e3
    exact cm_likeliest_nul C0 hKM hH hls hW hcs hdg hGn out (Option.some.inj hf) (fun H locs hH => kk RV qa qu qk H locs hKQ hH)
  | some q =>
    rw [gM_likeliest] at h
    obtain ⟨out, hf, e0⟩ := Option.map_eq_some_iff.mp h
    obtain ⟨e1, e2⟩ := Prod.mk.inj e0
    obtain ⟨e2, e3⟩ := Prod.mk.inj e2
    subst e1
    subst e2
    subst e3
    exact cm_likeliest hKQ C0 hKM hH hls hW hcs hdg hG out hf (fun H locs hH => kk RV qa qu qk H locs hKQ hH)
def gM_surest (k1 : Int32) (M : MS) : Option TX11_q → Option (Int32 × MS × Option TX11_q)
  | none => (some (f_X12_surest_nul k1 M.1)).map (fun (out : TX12_t) => ((-1), (out, M.2.1, M.2.2.1, M.2.2.2.1, M.2.2.2.2.1, M.2.2.2.2.2.1, M.2.2.2.2.2.2.1, M.2.2.2.2.2.2.2), none))
  | some q => (f_X12_surest k1 M.1 M.2.2.1 q).map (fun (out : (Int32 × TX12_t)) => (out.1, (out.2, M.2.1, M.2.2.1, M.2.2.2.1, M.2.2.2.2.1, M.2.2.2.2.2.1, M.2.2.2.2.2.2.1, M.2.2.2.2.2.2.2), some q))
set_option maxHeartbeats 1000000 in
theorem cn_surest {p : Program} {l : Launch} {e : Env} {s : State} {m : MethodId} {below : List Frame} {meth : Method} {c : Code} {b L : Nat} {xs : Nat → Int32} {H : Heap} {locs : List Loc} {cells slots : Nat} {Q : State → Prop} {dC : Nat → ClassId} {dI : Nat → Nat → Nat} {pc idx : Nat} {ls : Array Slot} {rest : List Value} {wr : va_W} {B : Nat → Nat} {E : Nat → ClassId} {M : MS} {RV : Value} {o : Option TX11_q} {qa : Nat} {qu : Nat → Nat} {qk : Nat → ClassId} (C0 : LW p l s m meth c b L xs) (hKM : KM (dC, dI) s E) (hKQ : KQ (dC, dI) s qk o) {k1 : Int32} (hH : HS (dC, dI) s (cat (wMo B E M o RV qa qu qk) wr) H locs) (hls : ls.size = 7) (hW : (rest.map fun v => v.category).sum ≤ 8) (hcs : cells ≤ 500000 ∧ slots ≤ 7000000) (hdg : decode cL_law pc = .ok (.invokevirtual idx, 3)) (hGn : GoodIn lw_tbl (wsV RL idx RX12 yX12_surest vfX12_surest_nul)) (hG : GoodIn lw_tbl (wsV RL idx RX12 yX12_surest vfX12_surest)) (r : Int32) (M' : MS) (o' : Option TX11_q) (h : gM_surest k1 M o = some (r, M', o'))
    (kk : ∀ (RV : Value) (qa : Nat) (qu : Nat → Nat) (qk : Nat → ClassId) (H : Heap) (locs : List Loc), KQ (dC, dI) s qk o' → HS (dC, dI) s (cat (wMo B E M' o' RV qa qu qk) wr) H locs → W p l e room_1 s m #[Value.ref b] below meth c H locs cells slots Q (F0 m (pc + 3) ls (.int r :: rest))) : W p l e room_1 s m #[Value.ref b] below meth c H locs cells slots Q (F0 m pc ls (.int k1 :: .ref (B 0) :: rest)) := by
  cases o with
  | none =>
    rw [gM_surest] at h
    obtain ⟨out, hf, e0⟩ := Option.map_eq_some_iff.mp h
    obtain ⟨e1, e2⟩ := Prod.mk.inj e0
    obtain ⟨e2, e3⟩ := Prod.mk.inj e2
    subst e1
    subst e2
    subst e3
    exact cm_surest_nul C0 hKM hH hls hW hcs hdg hGn out (Option.some.inj hf) (fun H locs hH => kk RV qa qu qk H locs hKQ hH)
  | some q =>
    rw [gM_surest] at h
    obtain ⟨out, hf, e0⟩ := Option.map_eq_some_iff.mp h
    obtain ⟨e1, e2⟩ := Prod.mk.inj e0
    obtain ⟨e2, e3⟩ := Prod.mk.inj e2
    subst e1
    subst e2
    subst e3
    exact cm_surest hKQ C0 hKM hH hls hW hcs hdg hG out hf (fun H locs hH => kk RV qa qu qk H locs hKQ hH)
def gM_surestOdds (k1 : Int32) (k2 : Int32) (M : MS) : Option TX11_q → Option (Int64 × MS × Option TX11_q)
  | none => (some (f_X12_surestOdds_nul k1 k2 M.1)).map (fun (out : TX12_t) => ((-1), (out, M.2.1, M.2.2.1, M.2.2.2.1, M.2.2.2.2.1, M.2.2.2.2.2.1, M.2.2.2.2.2.2.1, M.2.2.2.2.2.2.2), none))
  | some q => (f_X12_surestOdds k1 k2 M.1 M.2.2.1 q).map (fun (out : (Int64 × TX12_t)) => (out.1, (out.2, M.2.1, M.2.2.1, M.2.2.2.1, M.2.2.2.2.1, M.2.2.2.2.2.1, M.2.2.2.2.2.2.1, M.2.2.2.2.2.2.2), some q))
set_option maxHeartbeats 1000000 in
theorem cn_surestOdds {p : Program} {l : Launch} {e : Env} {s : State} {m : MethodId} {below : List Frame} {meth : Method} {c : Code} {b L : Nat} {xs : Nat → Int32} {H : Heap} {locs : List Loc} {cells slots : Nat} {Q : State → Prop} {dC : Nat → ClassId} {dI : Nat → Nat → Nat} {pc idx : Nat} {ls : Array Slot} {rest : List Value} {wr : va_W} {B : Nat → Nat} {E : Nat → ClassId} {M : MS} {RV : Value} {o : Option TX11_q} {qa : Nat} {qu : Nat → Nat} {qk : Nat → ClassId} (C0 : LW p l s m meth c b L xs) (hKM : KM (dC, dI) s E) (hKQ : KQ (dC, dI) s qk o) {k1 : Int32} {k2 : Int32} (hH : HS (dC, dI) s (cat (wMo B E M o RV qa qu qk) wr) H locs) (hls : ls.size = 7) (hW : (rest.map fun v => v.category).sum ≤ 8) (hcs : cells ≤ 500000 ∧ slots ≤ 7000000) (hdg : decode cL_law pc = .ok (.invokevirtual idx, 3)) (hGn : GoodIn lw_tbl (wsV RL idx RX12 yX12_surestOdds vfX12_surestOdds_nul)) (hG : GoodIn lw_tbl (wsV RL idx RX12 yX12_surestOdds vfX12_surestOdds)) (r : Int64) (M' : MS) (o' : Option TX11_q) (h : gM_surestOdds k1 k2 M o = some (r, M', o'))
    (kk : ∀ (RV : Value) (qa : Nat) (qu : Nat → Nat) (qk : Nat → ClassId) (H : Heap) (locs : List Loc), KQ (dC, dI) s qk o' → HS (dC, dI) s (cat (wMo B E M' o' RV qa qu qk) wr) H locs → W p l e room_1 s m #[Value.ref b] below meth c H locs cells slots Q (F0 m (pc + 3) ls (.long r :: rest))) : W p l e room_1 s m #[Value.ref b] below meth c H locs cells slots Q (F0 m pc ls (.int k2 :: .int k1 :: .ref (B 0) :: rest)) := by
  cases o with
  | none =>
    rw [gM_surestOdds] at h
    obtain ⟨out, hf, e0⟩ := Option.map_eq_some_iff.mp h
    obtain ⟨e1, e2⟩ := Prod.mk.inj e0
    obtain ⟨e2, e3⟩ := Prod.mk.inj e2
    subst e1
    subst e2
    subst e3
    exact cm_surestOdds_nul C0 hKM hH hls hW hcs hdg hGn out (Option.some.inj hf) (fun H locs hH => kk RV qa qu qk H locs hKQ hH)
  | some q =>
    rw [gM_surestOdds] at h
    obtain ⟨out, hf, e0⟩ := Option.map_eq_some_iff.mp h
    obtain ⟨e1, e2⟩ := Prod.mk.inj e0
    obtain ⟨e2, e3⟩ := Prod.mk.inj e2
    subst e1
    subst e2
    subst e3
    exact cm_surestOdds hKQ C0 hKM hH hls hW hcs hdg hG out hf (fun H locs hH => kk RV qa qu qk H locs hKQ hH)
def gM_best (M : MS) : Option TX11_q → Option (Int32 × MS × Option TX11_q)
  | none => (some (f_X12_best_nul M.1)).map (fun (out : TX12_t) => ((-1), (out, M.2.1, M.2.2.1, M.2.2.2.1, M.2.2.2.2.1, M.2.2.2.2.2.1, M.2.2.2.2.2.2.1, M.2.2.2.2.2.2.2), none))
  | some q => (f_X12_best M.1 M.2.2.1 q).map (fun (out : (Int32 × TX12_t)) => (out.1, (out.2, M.2.1, M.2.2.1, M.2.2.2.1, M.2.2.2.2.1, M.2.2.2.2.2.1, M.2.2.2.2.2.2.1, M.2.2.2.2.2.2.2), some q))
set_option maxHeartbeats 1000000 in
theorem cn_best {p : Program} {l : Launch} {e : Env} {s : State} {m : MethodId} {below : List Frame} {meth : Method} {c : Code} {b L : Nat} {xs : Nat → Int32} {H : Heap} {locs : List Loc} {cells slots : Nat} {Q : State → Prop} {dC : Nat → ClassId} {dI : Nat → Nat → Nat} {pc idx : Nat} {ls : Array Slot} {rest : List Value} {wr : va_W} {B : Nat → Nat} {E : Nat → ClassId} {M : MS} {RV : Value} {o : Option TX11_q} {qa : Nat} {qu : Nat → Nat} {qk : Nat → ClassId} (C0 : LW p l s m meth c b L xs) (hKM : KM (dC, dI) s E) (hKQ : KQ (dC, dI) s qk o) (hH : HS (dC, dI) s (cat (wMo B E M o RV qa qu qk) wr) H locs) (hls : ls.size = 7) (hW : (rest.map fun v => v.category).sum ≤ 8) (hcs : cells ≤ 500000 ∧ slots ≤ 7000000) (hdg : decode cL_law pc = .ok (.invokevirtual idx, 3)) (hGn : GoodIn lw_tbl (wsV RL idx RX12 yX12_best vfX12_best_nul)) (hG : GoodIn lw_tbl (wsV RL idx RX12 yX12_best vfX12_best)) (r : Int32) (M' : MS) (o' : Option TX11_q) (h : gM_best M o = some (r, M', o'))
    (kk : ∀ (RV : Value) (qa : Nat) (qu : Nat → Nat) (qk : Nat → ClassId) (H : Heap) (locs : List Loc), KQ (dC, dI) s qk o' → HS (dC, dI) s (cat (wMo B E M' o' RV qa qu qk) wr) H locs → W p l e room_1 s m #[Value.ref b] below meth c H locs cells slots Q (F0 m (pc + 3) ls (.int r :: rest))) : W p l e room_1 s m #[Value.ref b] below meth c H locs cells slots Q (F0 m pc ls (.ref (B 0) :: rest)) := by
  cases o with
  | none =>
    rw [gM_best] at h
    obtain ⟨out, hf, e0⟩ := Option.map_eq_some_iff.mp h
    obtain ⟨e1, e2⟩ := Prod.mk.inj e0
    obtain ⟨e2, e3⟩ := Prod.mk.inj e2
    subst e1
    subst e2
    subst e3
    exact cm_best_nul C0 hKM hH hls hW hcs hdg hGn out (Option.some.inj hf) (fun H locs hH => kk RV qa qu qk H locs hKQ hH)
  | some q =>
    rw [gM_best] at h
    obtain ⟨out, hf, e0⟩ := Option.map_eq_some_iff.mp h
    obtain ⟨e1, e2⟩ := Prod.mk.inj e0
    obtain ⟨e2, e3⟩ := Prod.mk.inj e2
    subst e1
    subst e2
    subst e3
    exact cm_best hKQ C0 hKM hH hls hW hcs hdg hG out hf (fun H locs hH => kk RV qa qu qk H locs hKQ hH)
def gM_bestBait (M : MS) : Option TX11_q → Option (Int32 × MS × Option TX11_q)
  | none => (some (f_X12_bestBait_nul M.1)).map (fun (out : TX12_t) => ((-1), (out, M.2.1, M.2.2.1, M.2.2.2.1, M.2.2.2.2.1, M.2.2.2.2.2.1, M.2.2.2.2.2.2.1, M.2.2.2.2.2.2.2), none))
  | some q => (f_X12_bestBait M.1 M.2.2.1 q).map (fun (out : (Int32 × TX12_t)) => (out.1, (out.2, M.2.1, M.2.2.1, M.2.2.2.1, M.2.2.2.2.1, M.2.2.2.2.2.1, M.2.2.2.2.2.2.1, M.2.2.2.2.2.2.2), some q))
set_option maxHeartbeats 1000000 in
theorem cn_bestBait {p : Program} {l : Launch} {e : Env} {s : State} {m : MethodId} {below : List Frame} {meth : Method} {c : Code} {b L : Nat} {xs : Nat → Int32} {H : Heap} {locs : List Loc} {cells slots : Nat} {Q : State → Prop} {dC : Nat → ClassId} {dI : Nat → Nat → Nat} {pc idx : Nat} {ls : Array Slot} {rest : List Value} {wr : va_W} {B : Nat → Nat} {E : Nat → ClassId} {M : MS} {RV : Value} {o : Option TX11_q} {qa : Nat} {qu : Nat → Nat} {qk : Nat → ClassId} (C0 : LW p l s m meth c b L xs) (hKM : KM (dC, dI) s E) (hKQ : KQ (dC, dI) s qk o) (hH : HS (dC, dI) s (cat (wMo B E M o RV qa qu qk) wr) H locs) (hls : ls.size = 7) (hW : (rest.map fun v => v.category).sum ≤ 8) (hcs : cells ≤ 500000 ∧ slots ≤ 7000000) (hdg : decode cL_law pc = .ok (.invokevirtual idx, 3)) (hGn : GoodIn lw_tbl (wsV RL idx RX12 yX12_bestBait vfX12_bestBait_nul)) (hG : GoodIn lw_tbl (wsV RL idx RX12 yX12_bestBait vfX12_bestBait)) (r : Int32) (M' : MS) (o' : Option TX11_q) (h : gM_bestBait M o = some (r, M', o'))
    (kk : ∀ (RV : Value) (qa : Nat) (qu : Nat → Nat) (qk : Nat → ClassId) (H : Heap) (locs : List Loc), KQ (dC, dI) s qk o' → HS (dC, dI) s (cat (wMo B E M' o' RV qa qu qk) wr) H locs → W p l e room_1 s m #[Value.ref b] below meth c H locs cells slots Q (F0 m (pc + 3) ls (.int r :: rest))) : W p l e room_1 s m #[Value.ref b] below meth c H locs cells slots Q (F0 m pc ls (.ref (B 0) :: rest)) := by
  cases o with
  | none =>
    rw [gM_bestBait] at h
    obtain ⟨out, hf, e0⟩ := Option.map_eq_some_iff.mp h
    obtain ⟨e1, e2⟩ := Prod.mk.inj e0
    obtain ⟨e2, e3⟩ := Prod.mk.inj e2
    subst e1
    subst e2
    subst e3
    exact cm_bestBait_nul C0 hKM hH hls hW hcs hdg hGn out (Option.some.inj hf) (fun H locs hH => kk RV qa qu qk H locs hKQ hH)
  | some q =>
    rw [gM_bestBait] at h
    obtain ⟨out, hf, e0⟩ := Option.map_eq_some_iff.mp h
    obtain ⟨e1, e2⟩ := Prod.mk.inj e0
    obtain ⟨e2, e3⟩ := Prod.mk.inj e2
    subst e1
    subst e2
    subst e3
    exact cm_bestBait hKQ C0 hKM hH hls hW hcs hdg hG out hf (fun H locs hH => kk RV qa qu qk H locs hKQ hH)
def gM_hungerFor (k1 : Int32) (k2 : Int32) (k3 : Int32) (k4 : Int32) (M : MS) : Option TX11_q → Option (Int32 × MS × Option TX11_q)
  | none => (some (f_X12_hungerFor_nul k1 k2 k3 k4 M.1)).map (fun (out : TX12_t) => ((-1), (out, M.2.1, M.2.2.1, M.2.2.2.1, M.2.2.2.2.1, M.2.2.2.2.2.1, M.2.2.2.2.2.2.1, M.2.2.2.2.2.2.2), none))
  | some q => (f_X12_hungerFor k1 k2 k3 k4 M.1 q).map (fun (out : (Int32 × TX12_t)) => (out.1, (out.2, M.2.1, M.2.2.1, M.2.2.2.1, M.2.2.2.2.1, M.2.2.2.2.2.1, M.2.2.2.2.2.2.1, M.2.2.2.2.2.2.2), some q))
set_option maxHeartbeats 1000000 in
theorem cn_hungerFor {p : Program} {l : Launch} {e : Env} {s : State} {m : MethodId} {below : List Frame} {meth : Method} {c : Code} {b L : Nat} {xs : Nat → Int32} {H : Heap} {locs : List Loc} {cells slots : Nat} {Q : State → Prop} {dC : Nat → ClassId} {dI : Nat → Nat → Nat} {pc idx : Nat} {ls : Array Slot} {rest : List Value} {wr : va_W} {B : Nat → Nat} {E : Nat → ClassId} {M : MS} {RV : Value} {o : Option TX11_q} {qa : Nat} {qu : Nat → Nat} {qk : Nat → ClassId} (C0 : LW p l s m meth c b L xs) (hKM : KM (dC, dI) s E) (hKQ : KQ (dC, dI) s qk o) {k1 : Int32} {k2 : Int32} {k3 : Int32} {k4 : Int32} (hH : HS (dC, dI) s (cat (wMo B E M o RV qa qu qk) wr) H locs) (hls : ls.size = 7) (hW : (rest.map fun v => v.category).sum ≤ 8) (hcs : cells ≤ 500000 ∧ slots ≤ 7000000) (hdg : decode cL_law pc = .ok (.invokevirtual idx, 3)) (hGn : GoodIn lw_tbl (wsV RL idx RX12 yX12_hungerFor vfX12_hungerFor_nul)) (hG : GoodIn lw_tbl (wsV RL idx RX12 yX12_hungerFor vfX12_hungerFor)) (r : Int32) (M' : MS) (o' : Option TX11_q) (h : gM_hungerFor k1 k2 k3 k4 M o = some (r, M', o'))
    (kk : ∀ (RV : Value) (qa : Nat) (qu : Nat → Nat) (qk : Nat → ClassId) (H : Heap) (locs : List Loc), KQ (dC, dI) s qk o' → HS (dC, dI) s (cat (wMo B E M' o' RV qa qu qk) wr) H locs → W p l e room_1 s m #[Value.ref b] below meth c H locs cells slots Q (F0 m (pc + 3) ls (.int r :: rest))) : W p l e room_1 s m #[Value.ref b] below meth c H locs cells slots Q (F0 m pc ls (.int k4 :: .int k3 :: .int k2 :: .int k1 :: .ref (B 0) :: rest)) := by
  cases o with
  | none =>
    rw [gM_hungerFor] at h
    obtain ⟨out, hf, e0⟩ := Option.map_eq_some_iff.mp h
    obtain ⟨e1, e2⟩ := Prod.mk.inj e0
    obtain ⟨e2, e3⟩ := Prod.mk.inj e2
    subst e1
    subst e2
    subst e3
    exact cm_hungerFor_nul C0 hKM hH hls hW hcs hdg hGn out (Option.some.inj hf) (fun H locs hH => kk RV qa qu qk H locs hKQ hH)
  | some q =>
    rw [gM_hungerFor] at h
    obtain ⟨out, hf, e0⟩ := Option.map_eq_some_iff.mp h
    obtain ⟨e1, e2⟩ := Prod.mk.inj e0
    obtain ⟨e2, e3⟩ := Prod.mk.inj e2
    subst e1
    subst e2
    subst e3
    exact cm_hungerFor hKQ C0 hKM hH hls hW hcs hdg hG out hf (fun H locs hH => kk RV qa qu qk H locs hKQ hH)
def gM_freeSpots (k1 : Int32) (M : MS) : Option TX11_q → Option (Int32 × MS × Option TX11_q)
  | none => (some (f_X12_freeSpots_nul k1 M.1)).map (fun (out : TX12_t) => ((-1), (out, M.2.1, M.2.2.1, M.2.2.2.1, M.2.2.2.2.1, M.2.2.2.2.2.1, M.2.2.2.2.2.2.1, M.2.2.2.2.2.2.2), none))
  | some q => (f_X12_freeSpots k1 M.1 M.2.2.1 q).map (fun (out : (Int32 × TX12_t)) => (out.1, (out.2, M.2.1, M.2.2.1, M.2.2.2.1, M.2.2.2.2.1, M.2.2.2.2.2.1, M.2.2.2.2.2.2.1, M.2.2.2.2.2.2.2), some q))
set_option maxHeartbeats 1000000 in
theorem cn_freeSpots {p : Program} {l : Launch} {e : Env} {s : State} {m : MethodId} {below : List Frame} {meth : Method} {c : Code} {b L : Nat} {xs : Nat → Int32} {H : Heap} {locs : List Loc} {cells slots : Nat} {Q : State → Prop} {dC : Nat → ClassId} {dI : Nat → Nat → Nat} {pc idx : Nat} {ls : Array Slot} {rest : List Value} {wr : va_W} {B : Nat → Nat} {E : Nat → ClassId} {M : MS} {RV : Value} {o : Option TX11_q} {qa : Nat} {qu : Nat → Nat} {qk : Nat → ClassId} (C0 : LW p l s m meth c b L xs) (hKM : KM (dC, dI) s E) (hKQ : KQ (dC, dI) s qk o) {k1 : Int32} (hH : HS (dC, dI) s (cat (wMo B E M o RV qa qu qk) wr) H locs) (hls : ls.size = 7) (hW : (rest.map fun v => v.category).sum ≤ 8) (hcs : cells ≤ 500000 ∧ slots ≤ 7000000) (hdg : decode cL_law pc = .ok (.invokevirtual idx, 3)) (hGn : GoodIn lw_tbl (wsV RL idx RX12 yX12_freeSpots vfX12_freeSpots_nul)) (hG : GoodIn lw_tbl (wsV RL idx RX12 yX12_freeSpots vfX12_freeSpots)) (r : Int32) (M' : MS) (o' : Option TX11_q) (h : gM_freeSpots k1 M o = some (r, M', o'))
    (kk : ∀ (RV : Value) (qa : Nat) (qu : Nat → Nat) (qk : Nat → ClassId) (H : Heap) (locs : List Loc), KQ (dC, dI) s qk o' → HS (dC, dI) s (cat (wMo B E M' o' RV qa qu qk) wr) H locs → W p l e room_1 s m #[Value.ref b] below meth c H locs cells slots Q (F0 m (pc + 3) ls (.int r :: rest))) : W p l e room_1 s m #[Value.ref b] below meth c H locs cells slots Q (F0 m pc ls (.int k1 :: .ref (B 0) :: rest)) := by
  cases o with
  | none =>
    rw [gM_freeSpots] at h
    obtain ⟨out, hf, e0⟩ := Option.map_eq_some_iff.mp h
    obtain ⟨e1, e2⟩ := Prod.mk.inj e0
    obtain ⟨e2, e3⟩ := Prod.mk.inj e2
    subst e1
    subst e2
    subst e3
    exact cm_freeSpots_nul C0 hKM hH hls hW hcs hdg hGn out (Option.some.inj hf) (fun H locs hH => kk RV qa qu qk H locs hKQ hH)
  | some q =>
    rw [gM_freeSpots] at h
    obtain ⟨out, hf, e0⟩ := Option.map_eq_some_iff.mp h
    obtain ⟨e1, e2⟩ := Prod.mk.inj e0
    obtain ⟨e2, e3⟩ := Prod.mk.inj e2
    subst e1
    subst e2
    subst e3
    exact cm_freeSpots hKQ C0 hKM hH hls hW hcs hdg hG out hf (fun H locs hH => kk RV qa qu qk H locs hKQ hH)
def gM_tangles (k1 : Int32) (k2 : Int32) (k3 : Int32) (k4 : Int32) (M : MS) : Option TX11_q → Option (Int32 × MS × Option TX11_q)
  | none => (some (f_X12_tangles_nul k1 k2 k3 k4 M.1)).map (fun (out : TX12_t) => ((-1), (out, M.2.1, M.2.2.1, M.2.2.2.1, M.2.2.2.2.1, M.2.2.2.2.2.1, M.2.2.2.2.2.2.1, M.2.2.2.2.2.2.2), none))
  | some q => (f_X12_tangles k1 k2 k3 k4 M.1 q).map (fun (out : (Int32 × TX12_t)) => (out.1, (out.2, M.2.1, M.2.2.1, M.2.2.2.1, M.2.2.2.2.1, M.2.2.2.2.2.1, M.2.2.2.2.2.2.1, M.2.2.2.2.2.2.2), some q))
set_option maxHeartbeats 1000000 in
theorem cn_tangles {p : Program} {l : Launch} {e : Env} {s : State} {m : MethodId} {below : List Frame} {meth : Method} {c : Code} {b L : Nat} {xs : Nat → Int32} {H : Heap} {locs : List Loc} {cells slots : Nat} {Q : State → Prop} {dC : Nat → ClassId} {dI : Nat → Nat → Nat} {pc idx : Nat} {ls : Array Slot} {rest : List Value} {wr : va_W} {B : Nat → Nat} {E : Nat → ClassId} {M : MS} {RV : Value} {o : Option TX11_q} {qa : Nat} {qu : Nat → Nat} {qk : Nat → ClassId} (C0 : LW p l s m meth c b L xs) (hKM : KM (dC, dI) s E) (hKQ : KQ (dC, dI) s qk o) {k1 : Int32} {k2 : Int32} {k3 : Int32} {k4 : Int32} (hH : HS (dC, dI) s (cat (wMo B E M o RV qa qu qk) wr) H locs) (hls : ls.size = 7) (hW : (rest.map fun v => v.category).sum ≤ 8) (hcs : cells ≤ 500000 ∧ slots ≤ 7000000) (hdg : decode cL_law pc = .ok (.invokevirtual idx, 3)) (hGn : GoodIn lw_tbl (wsV RL idx RX12 yX12_tangles vfX12_tangles_nul)) (hG : GoodIn lw_tbl (wsV RL idx RX12 yX12_tangles vfX12_tangles)) (r : Int32) (M' : MS) (o' : Option TX11_q) (h : gM_tangles k1 k2 k3 k4 M o = some (r, M', o'))
    (kk : ∀ (RV : Value) (qa : Nat) (qu : Nat → Nat) (qk : Nat → ClassId) (H : Heap) (locs : List Loc), KQ (dC, dI) s qk o' → HS (dC, dI) s (cat (wMo B E M' o' RV qa qu qk) wr) H locs → W p l e room_1 s m #[Value.ref b] below meth c H locs cells slots Q (F0 m (pc + 3) ls (.int r :: rest))) : W p l e room_1 s m #[Value.ref b] below meth c H locs cells slots Q (F0 m pc ls (.int k4 :: .int k3 :: .int k2 :: .int k1 :: .ref (B 0) :: rest)) := by
  cases o with
  | none =>
    rw [gM_tangles] at h
    obtain ⟨out, hf, e0⟩ := Option.map_eq_some_iff.mp h
    obtain ⟨e1, e2⟩ := Prod.mk.inj e0
    obtain ⟨e2, e3⟩ := Prod.mk.inj e2
    subst e1
    subst e2
    subst e3
    exact cm_tangles_nul C0 hKM hH hls hW hcs hdg hGn out (Option.some.inj hf) (fun H locs hH => kk RV qa qu qk H locs hKQ hH)
  | some q =>
    rw [gM_tangles] at h
    obtain ⟨out, hf, e0⟩ := Option.map_eq_some_iff.mp h
    obtain ⟨e1, e2⟩ := Prod.mk.inj e0
    obtain ⟨e2, e3⟩ := Prod.mk.inj e2
    subst e1
    subst e2
    subst e3
    exact cm_tangles hKQ C0 hKM hH hls hW hcs hdg hG out hf (fun H locs hH => kk RV qa qu qk H locs hKQ hH)
def gM_seatings (M : MS) : Option TX11_q → Option (Int32 × MS × Option TX11_q)
  | none => (some (f_X12_seatings_nul M.1)).map (fun (out : TX12_t) => ((-1), (out, M.2.1, M.2.2.1, M.2.2.2.1, M.2.2.2.2.1, M.2.2.2.2.2.1, M.2.2.2.2.2.2.1, M.2.2.2.2.2.2.2), none))
  | some q => (f_X12_seatings M.1 M.2.2.2.2.2.1 q).map (fun (out : (Int32 × TX12_t × TX12_z)) => (out.1, (out.2.1, M.2.1, M.2.2.1, M.2.2.2.1, M.2.2.2.2.1, out.2.2, M.2.2.2.2.2.2.1, M.2.2.2.2.2.2.2), some q))
set_option maxHeartbeats 1000000 in
theorem cn_seatings {p : Program} {l : Launch} {e : Env} {s : State} {m : MethodId} {below : List Frame} {meth : Method} {c : Code} {b L : Nat} {xs : Nat → Int32} {H : Heap} {locs : List Loc} {cells slots : Nat} {Q : State → Prop} {dC : Nat → ClassId} {dI : Nat → Nat → Nat} {pc idx : Nat} {ls : Array Slot} {rest : List Value} {wr : va_W} {B : Nat → Nat} {E : Nat → ClassId} {M : MS} {RV : Value} {o : Option TX11_q} {qa : Nat} {qu : Nat → Nat} {qk : Nat → ClassId} (C0 : LW p l s m meth c b L xs) (hKM : KM (dC, dI) s E) (hKQ : KQ (dC, dI) s qk o) (hH : HS (dC, dI) s (cat (wMo B E M o RV qa qu qk) wr) H locs) (hls : ls.size = 7) (hW : (rest.map fun v => v.category).sum ≤ 8) (hcs : cells ≤ 500000 ∧ slots ≤ 7000000) (hdg : decode cL_law pc = .ok (.invokevirtual idx, 3)) (hGn : GoodIn lw_tbl (wsV RL idx RX12 yX12_seatings vfX12_seatings_nul)) (hG : GoodIn lw_tbl (wsV RL idx RX12 yX12_seatings vfX12_seatings)) (r : Int32) (M' : MS) (o' : Option TX11_q) (h : gM_seatings M o = some (r, M', o'))
    (kk : ∀ (RV : Value) (qa : Nat) (qu : Nat → Nat) (qk : Nat → ClassId) (H : Heap) (locs : List Loc), KQ (dC, dI) s qk o' → HS (dC, dI) s (cat (wMo B E M' o' RV qa qu qk) wr) H locs → W p l e room_1 s m #[Value.ref b] below meth c H locs cells slots Q (F0 m (pc + 3) ls (.int r :: rest))) : W p l e room_1 s m #[Value.ref b] below meth c H locs cells slots Q (F0 m pc ls (.ref (B 0) :: rest)) := by
  cases o with
  | none =>
    rw [gM_seatings] at h
    obtain ⟨out, hf, e0⟩ := Option.map_eq_some_iff.mp h
    obtain ⟨e1, e2⟩ := Prod.mk.inj e0
    obtain ⟨e2, e3⟩ := Prod.mk.inj e2
    subst e1
    subst e2
    subst e3
    exact cm_seatings_nul C0 hKM hH hls hW hcs hdg hGn out (Option.some.inj hf) (fun H locs hH => kk RV qa qu qk H locs hKQ hH)
  | some q =>
    rw [gM_seatings] at h
    obtain ⟨out, hf, e0⟩ := Option.map_eq_some_iff.mp h
    obtain ⟨e1, e2⟩ := Prod.mk.inj e0
    obtain ⟨e2, e3⟩ := Prod.mk.inj e2
    subst e1
    subst e2
    subst e3
    exact cm_seatings hKQ C0 hKM hH hls hW hcs hdg hG out hf (fun H locs hH => kk RV qa qu qk H locs hKQ hH)
def gM_seat (k1 : Int32) (M : MS) : Option TX11_q → Option (Int32 × MS × Option TX11_q)
  | none => (some (f_X12_seat_nul k1 M.1)).map (fun (out : TX12_t) => ((-1), (out, M.2.1, M.2.2.1, M.2.2.2.1, M.2.2.2.2.1, M.2.2.2.2.2.1, M.2.2.2.2.2.2.1, M.2.2.2.2.2.2.2), none))
  | some q => (f_X12_seat k1 M.1 M.2.2.2.2.2.1 q).map (fun (out : (Int32 × TX12_t × TX12_z)) => (out.1, (out.2.1, M.2.1, M.2.2.1, M.2.2.2.1, M.2.2.2.2.1, out.2.2, M.2.2.2.2.2.2.1, M.2.2.2.2.2.2.2), some q))
set_option maxHeartbeats 1000000 in
theorem cn_seat {p : Program} {l : Launch} {e : Env} {s : State} {m : MethodId} {below : List Frame} {meth : Method} {c : Code} {b L : Nat} {xs : Nat → Int32} {H : Heap} {locs : List Loc} {cells slots : Nat} {Q : State → Prop} {dC : Nat → ClassId} {dI : Nat → Nat → Nat} {pc idx : Nat} {ls : Array Slot} {rest : List Value} {wr : va_W} {B : Nat → Nat} {E : Nat → ClassId} {M : MS} {RV : Value} {o : Option TX11_q} {qa : Nat} {qu : Nat → Nat} {qk : Nat → ClassId} (C0 : LW p l s m meth c b L xs) (hKM : KM (dC, dI) s E) (hKQ : KQ (dC, dI) s qk o) {k1 : Int32} (hH : HS (dC, dI) s (cat (wMo B E M o RV qa qu qk) wr) H locs) (hls : ls.size = 7) (hW : (rest.map fun v => v.category).sum ≤ 8) (hcs : cells ≤ 500000 ∧ slots ≤ 7000000) (hdg : decode cL_law pc = .ok (.invokevirtual idx, 3)) (hGn : GoodIn lw_tbl (wsV RL idx RX12 yX12_seat vfX12_seat_nul)) (hG : GoodIn lw_tbl (wsV RL idx RX12 yX12_seat vfX12_seat)) (r : Int32) (M' : MS) (o' : Option TX11_q) (h : gM_seat k1 M o = some (r, M', o'))
    (kk : ∀ (RV : Value) (qa : Nat) (qu : Nat → Nat) (qk : Nat → ClassId) (H : Heap) (locs : List Loc), KQ (dC, dI) s qk o' → HS (dC, dI) s (cat (wMo B E M' o' RV qa qu qk) wr) H locs → W p l e room_1 s m #[Value.ref b] below meth c H locs cells slots Q (F0 m (pc + 3) ls (.int r :: rest))) : W p l e room_1 s m #[Value.ref b] below meth c H locs cells slots Q (F0 m pc ls (.int k1 :: .ref (B 0) :: rest)) := by
  cases o with
  | none =>
    rw [gM_seat] at h
    obtain ⟨out, hf, e0⟩ := Option.map_eq_some_iff.mp h
    obtain ⟨e1, e2⟩ := Prod.mk.inj e0
    obtain ⟨e2, e3⟩ := Prod.mk.inj e2
    subst e1
    subst e2
    subst e3
    exact cm_seat_nul C0 hKM hH hls hW hcs hdg hGn out (Option.some.inj hf) (fun H locs hH => kk RV qa qu qk H locs hKQ hH)
  | some q =>
    rw [gM_seat] at h
    obtain ⟨out, hf, e0⟩ := Option.map_eq_some_iff.mp h
    obtain ⟨e1, e2⟩ := Prod.mk.inj e0
    obtain ⟨e2, e3⟩ := Prod.mk.inj e2
    subst e1
    subst e2
    subst e3
    exact cm_seat hKQ C0 hKM hH hls hW hcs hdg hG out hf (fun H locs hH => kk RV qa qu qk H locs hKQ hH)
def gM_mostSeated (M : MS) : Option TX11_q → Option (Int32 × MS × Option TX11_q)
  | none => (some (f_X12_mostSeated_nul M.1)).map (fun (out : TX12_t) => ((-1), (out, M.2.1, M.2.2.1, M.2.2.2.1, M.2.2.2.2.1, M.2.2.2.2.2.1, M.2.2.2.2.2.2.1, M.2.2.2.2.2.2.2), none))
  | some q => (f_X12_mostSeated M.1 M.2.2.2.2.2.1 q).map (fun (out : (Int32 × TX12_t × TX12_z)) => (out.1, (out.2.1, M.2.1, M.2.2.1, M.2.2.2.1, M.2.2.2.2.1, out.2.2, M.2.2.2.2.2.2.1, M.2.2.2.2.2.2.2), some q))
set_option maxHeartbeats 1000000 in
theorem cn_mostSeated {p : Program} {l : Launch} {e : Env} {s : State} {m : MethodId} {below : List Frame} {meth : Method} {c : Code} {b L : Nat} {xs : Nat → Int32} {H : Heap} {locs : List Loc} {cells slots : Nat} {Q : State → Prop} {dC : Nat → ClassId} {dI : Nat → Nat → Nat} {pc idx : Nat} {ls : Array Slot} {rest : List Value} {wr : va_W} {B : Nat → Nat} {E : Nat → ClassId} {M : MS} {RV : Value} {o : Option TX11_q} {qa : Nat} {qu : Nat → Nat} {qk : Nat → ClassId} (C0 : LW p l s m meth c b L xs) (hKM : KM (dC, dI) s E) (hKQ : KQ (dC, dI) s qk o) (hH : HS (dC, dI) s (cat (wMo B E M o RV qa qu qk) wr) H locs) (hls : ls.size = 7) (hW : (rest.map fun v => v.category).sum ≤ 8) (hcs : cells ≤ 500000 ∧ slots ≤ 7000000) (hdg : decode cL_law pc = .ok (.invokevirtual idx, 3)) (hGn : GoodIn lw_tbl (wsV RL idx RX12 yX12_mostSeated vfX12_mostSeated_nul)) (hG : GoodIn lw_tbl (wsV RL idx RX12 yX12_mostSeated vfX12_mostSeated)) (r : Int32) (M' : MS) (o' : Option TX11_q) (h : gM_mostSeated M o = some (r, M', o'))
    (kk : ∀ (RV : Value) (qa : Nat) (qu : Nat → Nat) (qk : Nat → ClassId) (H : Heap) (locs : List Loc), KQ (dC, dI) s qk o' → HS (dC, dI) s (cat (wMo B E M' o' RV qa qu qk) wr) H locs → W p l e room_1 s m #[Value.ref b] below meth c H locs cells slots Q (F0 m (pc + 3) ls (.int r :: rest))) : W p l e room_1 s m #[Value.ref b] below meth c H locs cells slots Q (F0 m pc ls (.ref (B 0) :: rest)) := by
  cases o with
  | none =>
    rw [gM_mostSeated] at h
    obtain ⟨out, hf, e0⟩ := Option.map_eq_some_iff.mp h
    obtain ⟨e1, e2⟩ := Prod.mk.inj e0
    obtain ⟨e2, e3⟩ := Prod.mk.inj e2
    subst e1
    subst e2
    subst e3
    exact cm_mostSeated_nul C0 hKM hH hls hW hcs hdg hGn out (Option.some.inj hf) (fun H locs hH => kk RV qa qu qk H locs hKQ hH)
  | some q =>
    rw [gM_mostSeated] at h
    obtain ⟨out, hf, e0⟩ := Option.map_eq_some_iff.mp h
    obtain ⟨e1, e2⟩ := Prod.mk.inj e0
    obtain ⟨e2, e3⟩ := Prod.mk.inj e2
    subst e1
    subst e2
    subst e3
    exact cm_mostSeated hKQ C0 hKM hH hls hW hcs hdg hG out hf (fun H locs hH => kk RV qa qu qk H locs hKQ hH)
def gM_darks (M : MS) : Option TX11_q → Option (Int32 × MS × Option TX11_q)
  | none => (some (f_X12_darks_nul M.1)).map (fun (out : TX12_t) => ((-1), (out, M.2.1, M.2.2.1, M.2.2.2.1, M.2.2.2.2.1, M.2.2.2.2.2.1, M.2.2.2.2.2.2.1, M.2.2.2.2.2.2.2), none))
  | some q => (f_X12_darks M.1 q).map (fun (out : (Int32 × TX12_t)) => (out.1, (out.2, M.2.1, M.2.2.1, M.2.2.2.1, M.2.2.2.2.1, M.2.2.2.2.2.1, M.2.2.2.2.2.2.1, M.2.2.2.2.2.2.2), some q))
set_option maxHeartbeats 1000000 in
theorem cn_darks {p : Program} {l : Launch} {e : Env} {s : State} {m : MethodId} {below : List Frame} {meth : Method} {c : Code} {b L : Nat} {xs : Nat → Int32} {H : Heap} {locs : List Loc} {cells slots : Nat} {Q : State → Prop} {dC : Nat → ClassId} {dI : Nat → Nat → Nat} {pc idx : Nat} {ls : Array Slot} {rest : List Value} {wr : va_W} {B : Nat → Nat} {E : Nat → ClassId} {M : MS} {RV : Value} {o : Option TX11_q} {qa : Nat} {qu : Nat → Nat} {qk : Nat → ClassId} (C0 : LW p l s m meth c b L xs) (hKM : KM (dC, dI) s E) (hKQ : KQ (dC, dI) s qk o) (hH : HS (dC, dI) s (cat (wMo B E M o RV qa qu qk) wr) H locs) (hls : ls.size = 7) (hW : (rest.map fun v => v.category).sum ≤ 8) (hcs : cells ≤ 500000 ∧ slots ≤ 7000000) (hdg : decode cL_law pc = .ok (.invokevirtual idx, 3)) (hGn : GoodIn lw_tbl (wsV RL idx RX12 yX12_darks vfX12_darks_nul)) (hG : GoodIn lw_tbl (wsV RL idx RX12 yX12_darks vfX12_darks)) (r : Int32) (M' : MS) (o' : Option TX11_q) (h : gM_darks M o = some (r, M', o'))
    (kk : ∀ (RV : Value) (qa : Nat) (qu : Nat → Nat) (qk : Nat → ClassId) (H : Heap) (locs : List Loc), KQ (dC, dI) s qk o' → HS (dC, dI) s (cat (wMo B E M' o' RV qa qu qk) wr) H locs → W p l e room_1 s m #[Value.ref b] below meth c H locs cells slots Q (F0 m (pc + 3) ls (.int r :: rest))) : W p l e room_1 s m #[Value.ref b] below meth c H locs cells slots Q (F0 m pc ls (.ref (B 0) :: rest)) := by
  cases o with
  | none =>
    rw [gM_darks] at h
    obtain ⟨out, hf, e0⟩ := Option.map_eq_some_iff.mp h
    obtain ⟨e1, e2⟩ := Prod.mk.inj e0
    obtain ⟨e2, e3⟩ := Prod.mk.inj e2
    subst e1
    subst e2
    subst e3
    exact cm_darks_nul C0 hKM hH hls hW hcs hdg hGn out (Option.some.inj hf) (fun H locs hH => kk RV qa qu qk H locs hKQ hH)
  | some q =>
    rw [gM_darks] at h
    obtain ⟨out, hf, e0⟩ := Option.map_eq_some_iff.mp h
    obtain ⟨e1, e2⟩ := Prod.mk.inj e0
    obtain ⟨e2, e3⟩ := Prod.mk.inj e2
    subst e1
    subst e2
    subst e3
    exact cm_darks hKQ C0 hKM hH hls hW hcs hdg hG out hf (fun H locs hH => kk RV qa qu qk H locs hKQ hH)
def gM_darkAt (k1 : Int32) (M : MS) : Option TX11_q → Option (Int32 × MS × Option TX11_q)
  | none => (some (f_X12_darkAt_nul k1 M.1)).map (fun (out : TX12_t) => ((-1), (out, M.2.1, M.2.2.1, M.2.2.2.1, M.2.2.2.2.1, M.2.2.2.2.2.1, M.2.2.2.2.2.2.1, M.2.2.2.2.2.2.2), none))
  | some q => (f_X12_darkAt k1 M.1 q).map (fun (out : (Int32 × TX12_t)) => (out.1, (out.2, M.2.1, M.2.2.1, M.2.2.2.1, M.2.2.2.2.1, M.2.2.2.2.2.1, M.2.2.2.2.2.2.1, M.2.2.2.2.2.2.2), some q))
set_option maxHeartbeats 1000000 in
theorem cn_darkAt {p : Program} {l : Launch} {e : Env} {s : State} {m : MethodId} {below : List Frame} {meth : Method} {c : Code} {b L : Nat} {xs : Nat → Int32} {H : Heap} {locs : List Loc} {cells slots : Nat} {Q : State → Prop} {dC : Nat → ClassId} {dI : Nat → Nat → Nat} {pc idx : Nat} {ls : Array Slot} {rest : List Value} {wr : va_W} {B : Nat → Nat} {E : Nat → ClassId} {M : MS} {RV : Value} {o : Option TX11_q} {qa : Nat} {qu : Nat → Nat} {qk : Nat → ClassId} (C0 : LW p l s m meth c b L xs) (hKM : KM (dC, dI) s E) (hKQ : KQ (dC, dI) s qk o) {k1 : Int32} (hH : HS (dC, dI) s (cat (wMo B E M o RV qa qu qk) wr) H locs) (hls : ls.size = 7) (hW : (rest.map fun v => v.category).sum ≤ 8) (hcs : cells ≤ 500000 ∧ slots ≤ 7000000) (hdg : decode cL_law pc = .ok (.invokevirtual idx, 3)) (hGn : GoodIn lw_tbl (wsV RL idx RX12 yX12_darkAt vfX12_darkAt_nul)) (hG : GoodIn lw_tbl (wsV RL idx RX12 yX12_darkAt vfX12_darkAt)) (r : Int32) (M' : MS) (o' : Option TX11_q) (h : gM_darkAt k1 M o = some (r, M', o'))
    (kk : ∀ (RV : Value) (qa : Nat) (qu : Nat → Nat) (qk : Nat → ClassId) (H : Heap) (locs : List Loc), KQ (dC, dI) s qk o' → HS (dC, dI) s (cat (wMo B E M' o' RV qa qu qk) wr) H locs → W p l e room_1 s m #[Value.ref b] below meth c H locs cells slots Q (F0 m (pc + 3) ls (.int r :: rest))) : W p l e room_1 s m #[Value.ref b] below meth c H locs cells slots Q (F0 m pc ls (.int k1 :: .ref (B 0) :: rest)) := by
  cases o with
  | none =>
    rw [gM_darkAt] at h
    obtain ⟨out, hf, e0⟩ := Option.map_eq_some_iff.mp h
    obtain ⟨e1, e2⟩ := Prod.mk.inj e0
    obtain ⟨e2, e3⟩ := Prod.mk.inj e2
    subst e1
    subst e2
    subst e3
    exact cm_darkAt_nul C0 hKM hH hls hW hcs hdg hGn out (Option.some.inj hf) (fun H locs hH => kk RV qa qu qk H locs hKQ hH)
  | some q =>
    rw [gM_darkAt] at h
    obtain ⟨out, hf, e0⟩ := Option.map_eq_some_iff.mp h
    obtain ⟨e1, e2⟩ := Prod.mk.inj e0
    obtain ⟨e2, e3⟩ := Prod.mk.inj e2
    subst e1
    subst e2
    subst e3
    exact cm_darkAt hKQ C0 hKM hH hls hW hcs hdg hG out hf (fun H locs hH => kk RV qa qu qk H locs hKQ hH)
def gM_darkSpots (M : MS) : Option TX11_q → Option (Int32 × MS × Option TX11_q)
  | none => (some (f_X12_darkSpots_nul M.1)).map (fun (out : TX12_t) => ((-1), (out, M.2.1, M.2.2.1, M.2.2.2.1, M.2.2.2.2.1, M.2.2.2.2.2.1, M.2.2.2.2.2.2.1, M.2.2.2.2.2.2.2), none))
  | some q => (f_X12_darkSpots M.1 q).map (fun (out : (Int32 × TX12_t)) => (out.1, (out.2, M.2.1, M.2.2.1, M.2.2.2.1, M.2.2.2.2.1, M.2.2.2.2.2.1, M.2.2.2.2.2.2.1, M.2.2.2.2.2.2.2), some q))
set_option maxHeartbeats 1000000 in
theorem cn_darkSpots {p : Program} {l : Launch} {e : Env} {s : State} {m : MethodId} {below : List Frame} {meth : Method} {c : Code} {b L : Nat} {xs : Nat → Int32} {H : Heap} {locs : List Loc} {cells slots : Nat} {Q : State → Prop} {dC : Nat → ClassId} {dI : Nat → Nat → Nat} {pc idx : Nat} {ls : Array Slot} {rest : List Value} {wr : va_W} {B : Nat → Nat} {E : Nat → ClassId} {M : MS} {RV : Value} {o : Option TX11_q} {qa : Nat} {qu : Nat → Nat} {qk : Nat → ClassId} (C0 : LW p l s m meth c b L xs) (hKM : KM (dC, dI) s E) (hKQ : KQ (dC, dI) s qk o) (hH : HS (dC, dI) s (cat (wMo B E M o RV qa qu qk) wr) H locs) (hls : ls.size = 7) (hW : (rest.map fun v => v.category).sum ≤ 8) (hcs : cells ≤ 500000 ∧ slots ≤ 7000000) (hdg : decode cL_law pc = .ok (.invokevirtual idx, 3)) (hGn : GoodIn lw_tbl (wsV RL idx RX12 yX12_darkSpots vfX12_darkSpots_nul)) (hG : GoodIn lw_tbl (wsV RL idx RX12 yX12_darkSpots vfX12_darkSpots)) (r : Int32) (M' : MS) (o' : Option TX11_q) (h : gM_darkSpots M o = some (r, M', o'))
    (kk : ∀ (RV : Value) (qa : Nat) (qu : Nat → Nat) (qk : Nat → ClassId) (H : Heap) (locs : List Loc), KQ (dC, dI) s qk o' → HS (dC, dI) s (cat (wMo B E M' o' RV qa qu qk) wr) H locs → W p l e room_1 s m #[Value.ref b] below meth c H locs cells slots Q (F0 m (pc + 3) ls (.int r :: rest))) : W p l e room_1 s m #[Value.ref b] below meth c H locs cells slots Q (F0 m pc ls (.ref (B 0) :: rest)) := by
  cases o with
  | none =>
    rw [gM_darkSpots] at h
    obtain ⟨out, hf, e0⟩ := Option.map_eq_some_iff.mp h
    obtain ⟨e1, e2⟩ := Prod.mk.inj e0
    obtain ⟨e2, e3⟩ := Prod.mk.inj e2
    subst e1
    subst e2
    subst e3
    exact cm_darkSpots_nul C0 hKM hH hls hW hcs hdg hGn out (Option.some.inj hf) (fun H locs hH => kk RV qa qu qk H locs hKQ hH)
  | some q =>
    rw [gM_darkSpots] at h
    obtain ⟨out, hf, e0⟩ := Option.map_eq_some_iff.mp h
    obtain ⟨e1, e2⟩ := Prod.mk.inj e0
    obtain ⟨e2, e3⟩ := Prod.mk.inj e2
    subst e1
    subst e2
    subst e3
    exact cm_darkSpots hKQ C0 hKM hH hls hW hcs hdg hG out hf (fun H locs hH => kk RV qa qu qk H locs hKQ hH)
def gM_ask (M : MS) : Option TX11_q → Option (Int32 × MS × Option TX11_q)
  | none => (some (f_X12_ask_nul M.1)).map (fun (out : TX12_t) => ((-1), (out, M.2.1, M.2.2.1, M.2.2.2.1, M.2.2.2.2.1, M.2.2.2.2.2.1, M.2.2.2.2.2.2.1, M.2.2.2.2.2.2.2), none))
  | some q => (f_X12_ask M.1 M.2.2.2.2.2.2.1 q).map (fun (out : (Int32 × TX12_t × TX12_k)) => (out.1, (out.2.1, M.2.1, M.2.2.1, M.2.2.2.1, M.2.2.2.2.1, M.2.2.2.2.2.1, out.2.2, M.2.2.2.2.2.2.2), some q))
set_option maxHeartbeats 1000000 in
theorem cn_ask {p : Program} {l : Launch} {e : Env} {s : State} {m : MethodId} {below : List Frame} {meth : Method} {c : Code} {b L : Nat} {xs : Nat → Int32} {H : Heap} {locs : List Loc} {cells slots : Nat} {Q : State → Prop} {dC : Nat → ClassId} {dI : Nat → Nat → Nat} {pc idx : Nat} {ls : Array Slot} {rest : List Value} {wr : va_W} {B : Nat → Nat} {E : Nat → ClassId} {M : MS} {RV : Value} {o : Option TX11_q} {qa : Nat} {qu : Nat → Nat} {qk : Nat → ClassId} (C0 : LW p l s m meth c b L xs) (hKM : KM (dC, dI) s E) (hKQ : KQ (dC, dI) s qk o) (hH : HS (dC, dI) s (cat (wMo B E M o RV qa qu qk) wr) H locs) (hls : ls.size = 7) (hW : (rest.map fun v => v.category).sum ≤ 8) (hcs : cells ≤ 500000 ∧ slots ≤ 7000000) (hdg : decode cL_law pc = .ok (.invokevirtual idx, 3)) (hGn : GoodIn lw_tbl (wsV RL idx RX12 yX12_ask vfX12_ask_nul)) (hG : GoodIn lw_tbl (wsV RL idx RX12 yX12_ask vfX12_ask)) (r : Int32) (M' : MS) (o' : Option TX11_q) (h : gM_ask M o = some (r, M', o'))
    (kk : ∀ (RV : Value) (qa : Nat) (qu : Nat → Nat) (qk : Nat → ClassId) (H : Heap) (locs : List Loc), KQ (dC, dI) s qk o' → HS (dC, dI) s (cat (wMo B E M' o' RV qa qu qk) wr) H locs → W p l e room_1 s m #[Value.ref b] below meth c H locs cells slots Q (F0 m (pc + 3) ls (.int r :: rest))) : W p l e room_1 s m #[Value.ref b] below meth c H locs cells slots Q (F0 m pc ls (.ref (B 0) :: rest)) := by
  cases o with
  | none =>
    rw [gM_ask] at h
    obtain ⟨out, hf, e0⟩ := Option.map_eq_some_iff.mp h
    obtain ⟨e1, e2⟩ := Prod.mk.inj e0
    obtain ⟨e2, e3⟩ := Prod.mk.inj e2
    subst e1
    subst e2
    subst e3
    exact cm_ask_nul C0 hKM hH hls hW hcs hdg hGn out (Option.some.inj hf) (fun H locs hH => kk RV qa qu qk H locs hKQ hH)
  | some q =>
    rw [gM_ask] at h
    obtain ⟨out, hf, e0⟩ := Option.map_eq_some_iff.mp h
    obtain ⟨e1, e2⟩ := Prod.mk.inj e0
    obtain ⟨e2, e3⟩ := Prod.mk.inj e2
    subst e1
    subst e2
    subst e3
    exact cm_ask hKQ C0 hKM hH hls hW hcs hdg hG out hf (fun H locs hH => kk RV qa qu qk H locs hKQ hH)
def gM_askLeaves (M : MS) : Option TX11_q → Option (Int32 × MS × Option TX11_q)
  | none => (some (f_X12_askLeaves_nul M.1)).map (fun (out : TX12_t) => ((-1), (out, M.2.1, M.2.2.1, M.2.2.2.1, M.2.2.2.2.1, M.2.2.2.2.2.1, M.2.2.2.2.2.2.1, M.2.2.2.2.2.2.2), none))
  | some q => (f_X12_askLeaves M.1 M.2.2.2.2.2.2.1 q).map (fun (out : (Int32 × TX12_t × TX12_k)) => (out.1, (out.2.1, M.2.1, M.2.2.1, M.2.2.2.1, M.2.2.2.2.1, M.2.2.2.2.2.1, out.2.2, M.2.2.2.2.2.2.2), some q))
set_option maxHeartbeats 1000000 in
theorem cn_askLeaves {p : Program} {l : Launch} {e : Env} {s : State} {m : MethodId} {below : List Frame} {meth : Method} {c : Code} {b L : Nat} {xs : Nat → Int32} {H : Heap} {locs : List Loc} {cells slots : Nat} {Q : State → Prop} {dC : Nat → ClassId} {dI : Nat → Nat → Nat} {pc idx : Nat} {ls : Array Slot} {rest : List Value} {wr : va_W} {B : Nat → Nat} {E : Nat → ClassId} {M : MS} {RV : Value} {o : Option TX11_q} {qa : Nat} {qu : Nat → Nat} {qk : Nat → ClassId} (C0 : LW p l s m meth c b L xs) (hKM : KM (dC, dI) s E) (hKQ : KQ (dC, dI) s qk o) (hH : HS (dC, dI) s (cat (wMo B E M o RV qa qu qk) wr) H locs) (hls : ls.size = 7) (hW : (rest.map fun v => v.category).sum ≤ 8) (hcs : cells ≤ 500000 ∧ slots ≤ 7000000) (hdg : decode cL_law pc = .ok (.invokevirtual idx, 3)) (hGn : GoodIn lw_tbl (wsV RL idx RX12 yX12_askLeaves vfX12_askLeaves_nul)) (hG : GoodIn lw_tbl (wsV RL idx RX12 yX12_askLeaves vfX12_askLeaves)) (r : Int32) (M' : MS) (o' : Option TX11_q) (h : gM_askLeaves M o = some (r, M', o'))
    (kk : ∀ (RV : Value) (qa : Nat) (qu : Nat → Nat) (qk : Nat → ClassId) (H : Heap) (locs : List Loc), KQ (dC, dI) s qk o' → HS (dC, dI) s (cat (wMo B E M' o' RV qa qu qk) wr) H locs → W p l e room_1 s m #[Value.ref b] below meth c H locs cells slots Q (F0 m (pc + 3) ls (.int r :: rest))) : W p l e room_1 s m #[Value.ref b] below meth c H locs cells slots Q (F0 m pc ls (.ref (B 0) :: rest)) := by
  cases o with
  | none =>
    rw [gM_askLeaves] at h
    obtain ⟨out, hf, e0⟩ := Option.map_eq_some_iff.mp h
    obtain ⟨e1, e2⟩ := Prod.mk.inj e0
    obtain ⟨e2, e3⟩ := Prod.mk.inj e2
    subst e1
    subst e2
    subst e3
    exact cm_askLeaves_nul C0 hKM hH hls hW hcs hdg hGn out (Option.some.inj hf) (fun H locs hH => kk RV qa qu qk H locs hKQ hH)
  | some q =>
    rw [gM_askLeaves] at h
    obtain ⟨out, hf, e0⟩ := Option.map_eq_some_iff.mp h
    obtain ⟨e1, e2⟩ := Prod.mk.inj e0
    obtain ⟨e2, e3⟩ := Prod.mk.inj e2
    subst e1
    subst e2
    subst e3
    exact cm_askLeaves hKQ C0 hKM hH hls hW hcs hdg hG out hf (fun H locs hH => kk RV qa qu qk H locs hKQ hH)
def gM_judge (k1 : Int32) (M : MS) : Option TX11_q → Option (Int32 × MS × Option TX11_q)
  | none => (some (f_X12_judge_nul k1 M.1)).map (fun (out : TX12_t) => ((-1), (out, M.2.1, M.2.2.1, M.2.2.2.1, M.2.2.2.2.1, M.2.2.2.2.2.1, M.2.2.2.2.2.2.1, M.2.2.2.2.2.2.2), none))
  | some q => (f_X12_judge k1 M.1 q).map (fun (out : (Int32 × TX12_t)) => (out.1, (out.2, M.2.1, M.2.2.1, M.2.2.2.1, M.2.2.2.2.1, M.2.2.2.2.2.1, M.2.2.2.2.2.2.1, M.2.2.2.2.2.2.2), some q))
set_option maxHeartbeats 1000000 in
theorem cn_judge {p : Program} {l : Launch} {e : Env} {s : State} {m : MethodId} {below : List Frame} {meth : Method} {c : Code} {b L : Nat} {xs : Nat → Int32} {H : Heap} {locs : List Loc} {cells slots : Nat} {Q : State → Prop} {dC : Nat → ClassId} {dI : Nat → Nat → Nat} {pc idx : Nat} {ls : Array Slot} {rest : List Value} {wr : va_W} {B : Nat → Nat} {E : Nat → ClassId} {M : MS} {RV : Value} {o : Option TX11_q} {qa : Nat} {qu : Nat → Nat} {qk : Nat → ClassId} (C0 : LW p l s m meth c b L xs) (hKM : KM (dC, dI) s E) (hKQ : KQ (dC, dI) s qk o) {k1 : Int32} (hH : HS (dC, dI) s (cat (wMo B E M o RV qa qu qk) wr) H locs) (hls : ls.size = 7) (hW : (rest.map fun v => v.category).sum ≤ 8) (hcs : cells ≤ 500000 ∧ slots ≤ 7000000) (hdg : decode cL_law pc = .ok (.invokevirtual idx, 3)) (hGn : GoodIn lw_tbl (wsV RL idx RX12 yX12_judge vfX12_judge_nul)) (hG : GoodIn lw_tbl (wsV RL idx RX12 yX12_judge vfX12_judge)) (r : Int32) (M' : MS) (o' : Option TX11_q) (h : gM_judge k1 M o = some (r, M', o'))
    (kk : ∀ (RV : Value) (qa : Nat) (qu : Nat → Nat) (qk : Nat → ClassId) (H : Heap) (locs : List Loc), KQ (dC, dI) s qk o' → HS (dC, dI) s (cat (wMo B E M' o' RV qa qu qk) wr) H locs → W p l e room_1 s m #[Value.ref b] below meth c H locs cells slots Q (F0 m (pc + 3) ls (.int r :: rest))) : W p l e room_1 s m #[Value.ref b] below meth c H locs cells slots Q (F0 m pc ls (.int k1 :: .ref (B 0) :: rest)) := by
  cases o with
  | none =>
    rw [gM_judge] at h
    obtain ⟨out, hf, e0⟩ := Option.map_eq_some_iff.mp h
    obtain ⟨e1, e2⟩ := Prod.mk.inj e0
    obtain ⟨e2, e3⟩ := Prod.mk.inj e2
    subst e1
    subst e2
    subst e3
    exact cm_judge_nul C0 hKM hH hls hW hcs hdg hGn out (Option.some.inj hf) (fun H locs hH => kk RV qa qu qk H locs hKQ hH)
  | some q =>
    rw [gM_judge] at h
    obtain ⟨out, hf, e0⟩ := Option.map_eq_some_iff.mp h
    obtain ⟨e1, e2⟩ := Prod.mk.inj e0
    obtain ⟨e2, e3⟩ := Prod.mk.inj e2
    subst e1
    subst e2
    subst e3
    exact cm_judge hKQ C0 hKM hH hls hW hcs hdg hG out hf (fun H locs hH => kk RV qa qu qk H locs hKQ hH)
def gM_worth (k1 : Int32) (k2 : Int32) (k3 : Int32) (M : MS) : Option TX11_q → Option (Int32 × MS × Option TX11_q)
  | none => (some (f_X12_worth_nul k1 k2 k3 M.1)).map (fun (out : TX12_t) => ((-1), (out, M.2.1, M.2.2.1, M.2.2.2.1, M.2.2.2.2.1, M.2.2.2.2.2.1, M.2.2.2.2.2.2.1, M.2.2.2.2.2.2.2), none))
  | some q => (f_X12_worth k1 k2 k3 M.1 q).map (fun (out : (Int32 × TX12_t)) => (out.1, (out.2, M.2.1, M.2.2.1, M.2.2.2.1, M.2.2.2.2.1, M.2.2.2.2.2.1, M.2.2.2.2.2.2.1, M.2.2.2.2.2.2.2), some q))
set_option maxHeartbeats 1000000 in
theorem cn_worth {p : Program} {l : Launch} {e : Env} {s : State} {m : MethodId} {below : List Frame} {meth : Method} {c : Code} {b L : Nat} {xs : Nat → Int32} {H : Heap} {locs : List Loc} {cells slots : Nat} {Q : State → Prop} {dC : Nat → ClassId} {dI : Nat → Nat → Nat} {pc idx : Nat} {ls : Array Slot} {rest : List Value} {wr : va_W} {B : Nat → Nat} {E : Nat → ClassId} {M : MS} {RV : Value} {o : Option TX11_q} {qa : Nat} {qu : Nat → Nat} {qk : Nat → ClassId} (C0 : LW p l s m meth c b L xs) (hKM : KM (dC, dI) s E) (hKQ : KQ (dC, dI) s qk o) {k1 : Int32} {k2 : Int32} {k3 : Int32} (hH : HS (dC, dI) s (cat (wMo B E M o RV qa qu qk) wr) H locs) (hls : ls.size = 7) (hW : (rest.map fun v => v.category).sum ≤ 8) (hcs : cells ≤ 500000 ∧ slots ≤ 7000000) (hdg : decode cL_law pc = .ok (.invokevirtual idx, 3)) (hGn : GoodIn lw_tbl (wsV RL idx RX12 yX12_worth vfX12_worth_nul)) (hG : GoodIn lw_tbl (wsV RL idx RX12 yX12_worth vfX12_worth)) (r : Int32) (M' : MS) (o' : Option TX11_q) (h : gM_worth k1 k2 k3 M o = some (r, M', o'))
    (kk : ∀ (RV : Value) (qa : Nat) (qu : Nat → Nat) (qk : Nat → ClassId) (H : Heap) (locs : List Loc), KQ (dC, dI) s qk o' → HS (dC, dI) s (cat (wMo B E M' o' RV qa qu qk) wr) H locs → W p l e room_1 s m #[Value.ref b] below meth c H locs cells slots Q (F0 m (pc + 3) ls (.int r :: rest))) : W p l e room_1 s m #[Value.ref b] below meth c H locs cells slots Q (F0 m pc ls (.int k3 :: .int k2 :: .int k1 :: .ref (B 0) :: rest)) := by
  cases o with
  | none =>
    rw [gM_worth] at h
    obtain ⟨out, hf, e0⟩ := Option.map_eq_some_iff.mp h
    obtain ⟨e1, e2⟩ := Prod.mk.inj e0
    obtain ⟨e2, e3⟩ := Prod.mk.inj e2
    subst e1
    subst e2
    subst e3
    exact cm_worth_nul C0 hKM hH hls hW hcs hdg hGn out (Option.some.inj hf) (fun H locs hH => kk RV qa qu qk H locs hKQ hH)
  | some q =>
    rw [gM_worth] at h
    obtain ⟨out, hf, e0⟩ := Option.map_eq_some_iff.mp h
    obtain ⟨e1, e2⟩ := Prod.mk.inj e0
    obtain ⟨e2, e3⟩ := Prod.mk.inj e2
    subst e1
    subst e2
    subst e3
    exact cm_worth hKQ C0 hKM hH hls hW hcs hdg hG out hf (fun H locs hH => kk RV qa qu qk H locs hKQ hH)
def gM_load (k1 : Int32) (M : MS) : Option TX11_q → Option (Int32 × MS × Option TX11_q)
  | none => (some (f_X12_load_nul k1 M.1)).map (fun (out : TX12_t) => ((-1), (out, M.2.1, M.2.2.1, M.2.2.2.1, M.2.2.2.2.1, M.2.2.2.2.2.1, M.2.2.2.2.2.2.1, M.2.2.2.2.2.2.2), none))
  | some q => (f_X12_load k1 M.1 M.2.2.1 M.2.2.2.2.2.2.1 q).map (fun (out : (Int32 × TX12_t × TX12_k)) => (out.1, (out.2.1, M.2.1, M.2.2.1, M.2.2.2.1, M.2.2.2.2.1, M.2.2.2.2.2.1, out.2.2, M.2.2.2.2.2.2.2), some q))
set_option maxHeartbeats 1000000 in
theorem cn_load {p : Program} {l : Launch} {e : Env} {s : State} {m : MethodId} {below : List Frame} {meth : Method} {c : Code} {b L : Nat} {xs : Nat → Int32} {H : Heap} {locs : List Loc} {cells slots : Nat} {Q : State → Prop} {dC : Nat → ClassId} {dI : Nat → Nat → Nat} {pc idx : Nat} {ls : Array Slot} {rest : List Value} {wr : va_W} {B : Nat → Nat} {E : Nat → ClassId} {M : MS} {RV : Value} {o : Option TX11_q} {qa : Nat} {qu : Nat → Nat} {qk : Nat → ClassId} (C0 : LW p l s m meth c b L xs) (hKM : KM (dC, dI) s E) (hKQ : KQ (dC, dI) s qk o) {k1 : Int32} (hH : HS (dC, dI) s (cat (wMo B E M o RV qa qu qk) wr) H locs) (hls : ls.size = 7) (hW : (rest.map fun v => v.category).sum ≤ 8) (hcs : cells ≤ 500000 ∧ slots ≤ 7000000) (hdg : decode cL_law pc = .ok (.invokevirtual idx, 3)) (hGn : GoodIn lw_tbl (wsV RL idx RX12 yX12_load vfX12_load_nul)) (hG : GoodIn lw_tbl (wsV RL idx RX12 yX12_load vfX12_load)) (r : Int32) (M' : MS) (o' : Option TX11_q) (h : gM_load k1 M o = some (r, M', o'))
    (kk : ∀ (RV : Value) (qa : Nat) (qu : Nat → Nat) (qk : Nat → ClassId) (H : Heap) (locs : List Loc), KQ (dC, dI) s qk o' → HS (dC, dI) s (cat (wMo B E M' o' RV qa qu qk) wr) H locs → W p l e room_1 s m #[Value.ref b] below meth c H locs cells slots Q (F0 m (pc + 3) ls (.int r :: rest))) : W p l e room_1 s m #[Value.ref b] below meth c H locs cells slots Q (F0 m pc ls (.int k1 :: .ref (B 0) :: rest)) := by
  cases o with
  | none =>
    rw [gM_load] at h
    obtain ⟨out, hf, e0⟩ := Option.map_eq_some_iff.mp h
    obtain ⟨e1, e2⟩ := Prod.mk.inj e0
    obtain ⟨e2, e3⟩ := Prod.mk.inj e2
    subst e1
    subst e2
    subst e3
    exact cm_load_nul C0 hKM hH hls hW hcs hdg hGn out (Option.some.inj hf) (fun H locs hH => kk RV qa qu qk H locs hKQ hH)
  | some q =>
    rw [gM_load] at h
    obtain ⟨out, hf, e0⟩ := Option.map_eq_some_iff.mp h
    obtain ⟨e1, e2⟩ := Prod.mk.inj e0
    obtain ⟨e2, e3⟩ := Prod.mk.inj e2
    subst e1
    subst e2
    subst e3
    exact cm_load hKQ C0 hKM hH hls hW hcs hdg hG out hf (fun H locs hH => kk RV qa qu qk H locs hKQ hH)
def gM_loadWorth (k1 : Int32) (M : MS) : Option TX11_q → Option (Int32 × MS × Option TX11_q)
  | none => (some (f_X12_loadWorth_nul k1 M.1)).map (fun (out : TX12_t) => ((-1), (out, M.2.1, M.2.2.1, M.2.2.2.1, M.2.2.2.2.1, M.2.2.2.2.2.1, M.2.2.2.2.2.2.1, M.2.2.2.2.2.2.2), none))
  | some q => (f_X12_loadWorth k1 M.1 M.2.2.1 M.2.2.2.2.2.2.1 q).map (fun (out : (Int32 × TX12_t × TX12_k)) => (out.1, (out.2.1, M.2.1, M.2.2.1, M.2.2.2.1, M.2.2.2.2.1, M.2.2.2.2.2.1, out.2.2, M.2.2.2.2.2.2.2), some q))
set_option maxHeartbeats 1000000 in
theorem cn_loadWorth {p : Program} {l : Launch} {e : Env} {s : State} {m : MethodId} {below : List Frame} {meth : Method} {c : Code} {b L : Nat} {xs : Nat → Int32} {H : Heap} {locs : List Loc} {cells slots : Nat} {Q : State → Prop} {dC : Nat → ClassId} {dI : Nat → Nat → Nat} {pc idx : Nat} {ls : Array Slot} {rest : List Value} {wr : va_W} {B : Nat → Nat} {E : Nat → ClassId} {M : MS} {RV : Value} {o : Option TX11_q} {qa : Nat} {qu : Nat → Nat} {qk : Nat → ClassId} (C0 : LW p l s m meth c b L xs) (hKM : KM (dC, dI) s E) (hKQ : KQ (dC, dI) s qk o) {k1 : Int32} (hH : HS (dC, dI) s (cat (wMo B E M o RV qa qu qk) wr) H locs) (hls : ls.size = 7) (hW : (rest.map fun v => v.category).sum ≤ 8) (hcs : cells ≤ 500000 ∧ slots ≤ 7000000) (hdg : decode cL_law pc = .ok (.invokevirtual idx, 3)) (hGn : GoodIn lw_tbl (wsV RL idx RX12 yX12_loadWorth vfX12_loadWorth_nul)) (hG : GoodIn lw_tbl (wsV RL idx RX12 yX12_loadWorth vfX12_loadWorth)) (r : Int32) (M' : MS) (o' : Option TX11_q) (h : gM_loadWorth k1 M o = some (r, M', o'))
    (kk : ∀ (RV : Value) (qa : Nat) (qu : Nat → Nat) (qk : Nat → ClassId) (H : Heap) (locs : List Loc), KQ (dC, dI) s qk o' → HS (dC, dI) s (cat (wMo B E M' o' RV qa qu qk) wr) H locs → W p l e room_1 s m #[Value.ref b] below meth c H locs cells slots Q (F0 m (pc + 3) ls (.int r :: rest))) : W p l e room_1 s m #[Value.ref b] below meth c H locs cells slots Q (F0 m pc ls (.int k1 :: .ref (B 0) :: rest)) := by
  cases o with
  | none =>
    rw [gM_loadWorth] at h
    obtain ⟨out, hf, e0⟩ := Option.map_eq_some_iff.mp h
    obtain ⟨e1, e2⟩ := Prod.mk.inj e0
    obtain ⟨e2, e3⟩ := Prod.mk.inj e2
    subst e1
    subst e2
    subst e3
    exact cm_loadWorth_nul C0 hKM hH hls hW hcs hdg hGn out (Option.some.inj hf) (fun H locs hH => kk RV qa qu qk H locs hKQ hH)
  | some q =>
    rw [gM_loadWorth] at h
    obtain ⟨out, hf, e0⟩ := Option.map_eq_some_iff.mp h
    obtain ⟨e1, e2⟩ := Prod.mk.inj e0
    obtain ⟨e2, e3⟩ := Prod.mk.inj e2
    subst e1
    subst e2
    subst e3
    exact cm_loadWorth hKQ C0 hKM hH hls hW hcs hdg hG out hf (fun H locs hH => kk RV qa qu qk H locs hKQ hH)
def gM_bestDay (M : MS) : Option TX11_q → Option (Int32 × MS × Option TX11_q)
  | none => (some (f_X12_bestDay_nul M.1)).map (fun (out : TX12_t) => ((-1), (out, M.2.1, M.2.2.1, M.2.2.2.1, M.2.2.2.2.1, M.2.2.2.2.2.1, M.2.2.2.2.2.2.1, M.2.2.2.2.2.2.2), none))
  | some q => (f_X12_bestDay M.1 M.2.2.1 q).map (fun (out : (Int32 × TX12_t)) => (out.1, (out.2, M.2.1, M.2.2.1, M.2.2.2.1, M.2.2.2.2.1, M.2.2.2.2.2.1, M.2.2.2.2.2.2.1, M.2.2.2.2.2.2.2), some q))
set_option maxHeartbeats 1000000 in
theorem cn_bestDay {p : Program} {l : Launch} {e : Env} {s : State} {m : MethodId} {below : List Frame} {meth : Method} {c : Code} {b L : Nat} {xs : Nat → Int32} {H : Heap} {locs : List Loc} {cells slots : Nat} {Q : State → Prop} {dC : Nat → ClassId} {dI : Nat → Nat → Nat} {pc idx : Nat} {ls : Array Slot} {rest : List Value} {wr : va_W} {B : Nat → Nat} {E : Nat → ClassId} {M : MS} {RV : Value} {o : Option TX11_q} {qa : Nat} {qu : Nat → Nat} {qk : Nat → ClassId} (C0 : LW p l s m meth c b L xs) (hKM : KM (dC, dI) s E) (hKQ : KQ (dC, dI) s qk o) (hH : HS (dC, dI) s (cat (wMo B E M o RV qa qu qk) wr) H locs) (hls : ls.size = 7) (hW : (rest.map fun v => v.category).sum ≤ 8) (hcs : cells ≤ 500000 ∧ slots ≤ 7000000) (hdg : decode cL_law pc = .ok (.invokevirtual idx, 3)) (hGn : GoodIn lw_tbl (wsV RL idx RX12 yX12_bestDay vfX12_bestDay_nul)) (hG : GoodIn lw_tbl (wsV RL idx RX12 yX12_bestDay vfX12_bestDay)) (r : Int32) (M' : MS) (o' : Option TX11_q) (h : gM_bestDay M o = some (r, M', o'))
    (kk : ∀ (RV : Value) (qa : Nat) (qu : Nat → Nat) (qk : Nat → ClassId) (H : Heap) (locs : List Loc), KQ (dC, dI) s qk o' → HS (dC, dI) s (cat (wMo B E M' o' RV qa qu qk) wr) H locs → W p l e room_1 s m #[Value.ref b] below meth c H locs cells slots Q (F0 m (pc + 3) ls (.int r :: rest))) : W p l e room_1 s m #[Value.ref b] below meth c H locs cells slots Q (F0 m pc ls (.ref (B 0) :: rest)) := by
  cases o with
  | none =>
    rw [gM_bestDay] at h
    obtain ⟨out, hf, e0⟩ := Option.map_eq_some_iff.mp h
    obtain ⟨e1, e2⟩ := Prod.mk.inj e0
    obtain ⟨e2, e3⟩ := Prod.mk.inj e2
    subst e1
    subst e2
    subst e3
    exact cm_bestDay_nul C0 hKM hH hls hW hcs hdg hGn out (Option.some.inj hf) (fun H locs hH => kk RV qa qu qk H locs hKQ hH)
  | some q =>
    rw [gM_bestDay] at h
    obtain ⟨out, hf, e0⟩ := Option.map_eq_some_iff.mp h
    obtain ⟨e1, e2⟩ := Prod.mk.inj e0
    obtain ⟨e2, e3⟩ := Prod.mk.inj e2
    subst e1
    subst e2
    subst e3
    exact cm_bestDay hKQ C0 hKM hH hls hW hcs hdg hG out hf (fun H locs hH => kk RV qa qu qk H locs hKQ hH)
def gM_hooks (k1 : Int32) (k2 : Int32) (k3 : Int32) (k4 : Int32) (k5 : Int32) (M : MS) : Option TX11_q → Option (Int32 × MS × Option TX11_q)
  | none => (some (f_X12_hooks_nul k1 k2 k3 k4 k5 M.1)).map (fun (out : TX12_t) => ((-1), (out, M.2.1, M.2.2.1, M.2.2.2.1, M.2.2.2.2.1, M.2.2.2.2.2.1, M.2.2.2.2.2.2.1, M.2.2.2.2.2.2.2), none))
  | some q => (f_X12_hooks k1 k2 k3 k4 k5 M.1 M.2.2.1 q).map (fun (out : (Int32 × TX12_t)) => (out.1, (out.2, M.2.1, M.2.2.1, M.2.2.2.1, M.2.2.2.2.1, M.2.2.2.2.2.1, M.2.2.2.2.2.2.1, M.2.2.2.2.2.2.2), some q))
set_option maxHeartbeats 1000000 in
theorem cn_hooks {p : Program} {l : Launch} {e : Env} {s : State} {m : MethodId} {below : List Frame} {meth : Method} {c : Code} {b L : Nat} {xs : Nat → Int32} {H : Heap} {locs : List Loc} {cells slots : Nat} {Q : State → Prop} {dC : Nat → ClassId} {dI : Nat → Nat → Nat} {pc idx : Nat} {ls : Array Slot} {rest : List Value} {wr : va_W} {B : Nat → Nat} {E : Nat → ClassId} {M : MS} {RV : Value} {o : Option TX11_q} {qa : Nat} {qu : Nat → Nat} {qk : Nat → ClassId} (C0 : LW p l s m meth c b L xs) (hKM : KM (dC, dI) s E) (hKQ : KQ (dC, dI) s qk o) {k1 : Int32} {k2 : Int32} {k3 : Int32} {k4 : Int32} {k5 : Int32} (hH : HS (dC, dI) s (cat (wMo B E M o RV qa qu qk) wr) H locs) (hls : ls.size = 7) (hW : (rest.map fun v => v.category).sum ≤ 8) (hcs : cells ≤ 500000 ∧ slots ≤ 7000000) (hdg : decode cL_law pc = .ok (.invokevirtual idx, 3)) (hGn : GoodIn lw_tbl (wsV RL idx RX12 yX12_hooks vfX12_hooks_nul)) (hG : GoodIn lw_tbl (wsV RL idx RX12 yX12_hooks vfX12_hooks)) (r : Int32) (M' : MS) (o' : Option TX11_q) (h : gM_hooks k1 k2 k3 k4 k5 M o = some (r, M', o'))
    (kk : ∀ (RV : Value) (qa : Nat) (qu : Nat → Nat) (qk : Nat → ClassId) (H : Heap) (locs : List Loc), KQ (dC, dI) s qk o' → HS (dC, dI) s (cat (wMo B E M' o' RV qa qu qk) wr) H locs → W p l e room_1 s m #[Value.ref b] below meth c H locs cells slots Q (F0 m (pc + 3) ls (.int r :: rest))) : W p l e room_1 s m #[Value.ref b] below meth c H locs cells slots Q (F0 m pc ls (.int k5 :: .int k4 :: .int k3 :: .int k2 :: .int k1 :: .ref (B 0) :: rest)) := by
  cases o with
  | none =>
    rw [gM_hooks] at h
    obtain ⟨out, hf, e0⟩ := Option.map_eq_some_iff.mp h
    obtain ⟨e1, e2⟩ := Prod.mk.inj e0
    obtain ⟨e2, e3⟩ := Prod.mk.inj e2
    subst e1
    subst e2
    subst e3
    exact cm_hooks_nul C0 hKM hH hls hW hcs hdg hGn out (Option.some.inj hf) (fun H locs hH => kk RV qa qu qk H locs hKQ hH)
  | some q =>
    rw [gM_hooks] at h
    obtain ⟨out, hf, e0⟩ := Option.map_eq_some_iff.mp h
    obtain ⟨e1, e2⟩ := Prod.mk.inj e0
    obtain ⟨e2, e3⟩ := Prod.mk.inj e2
    subst e1
    subst e2
    subst e3
    exact cm_hooks hKQ C0 hKM hH hls hW hcs hdg hG out hf (fun H locs hH => kk RV qa qu qk H locs hKQ hH)
def gM_lines (k1 : Int32) (k2 : Int32) (k3 : Int32) (k4 : Int32) (M : MS) : Option TX11_q → Option (Int32 × MS × Option TX11_q)
  | none => (some (f_X12_lines_nul k1 k2 k3 k4 M.1)).map (fun (out : TX12_t) => ((-100), (out, M.2.1, M.2.2.1, M.2.2.2.1, M.2.2.2.2.1, M.2.2.2.2.2.1, M.2.2.2.2.2.2.1, M.2.2.2.2.2.2.2), none))
  | some q => (f_X12_lines k1 k2 k3 k4 M.1).map (fun (out : (Int32 × TX12_t)) => (out.1, (out.2, M.2.1, M.2.2.1, M.2.2.2.1, M.2.2.2.2.1, M.2.2.2.2.2.1, M.2.2.2.2.2.2.1, M.2.2.2.2.2.2.2), some q))
set_option maxHeartbeats 1000000 in
theorem cn_lines {p : Program} {l : Launch} {e : Env} {s : State} {m : MethodId} {below : List Frame} {meth : Method} {c : Code} {b L : Nat} {xs : Nat → Int32} {H : Heap} {locs : List Loc} {cells slots : Nat} {Q : State → Prop} {dC : Nat → ClassId} {dI : Nat → Nat → Nat} {pc idx : Nat} {ls : Array Slot} {rest : List Value} {wr : va_W} {B : Nat → Nat} {E : Nat → ClassId} {M : MS} {RV : Value} {o : Option TX11_q} {qa : Nat} {qu : Nat → Nat} {qk : Nat → ClassId} (C0 : LW p l s m meth c b L xs) (hKM : KM (dC, dI) s E) (hKQ : KQ (dC, dI) s qk o) {k1 : Int32} {k2 : Int32} {k3 : Int32} {k4 : Int32} (hH : HS (dC, dI) s (cat (wMo B E M o RV qa qu qk) wr) H locs) (hls : ls.size = 7) (hW : (rest.map fun v => v.category).sum ≤ 8) (hcs : cells ≤ 500000 ∧ slots ≤ 7000000) (hdg : decode cL_law pc = .ok (.invokevirtual idx, 3)) (hGn : GoodIn lw_tbl (wsV RL idx RX12 yX12_lines vfX12_lines_nul)) (hG : GoodIn lw_tbl (wsV RL idx RX12 yX12_lines vfX12_lines)) (r : Int32) (M' : MS) (o' : Option TX11_q) (h : gM_lines k1 k2 k3 k4 M o = some (r, M', o'))
    (kk : ∀ (RV : Value) (qa : Nat) (qu : Nat → Nat) (qk : Nat → ClassId) (H : Heap) (locs : List Loc), KQ (dC, dI) s qk o' → HS (dC, dI) s (cat (wMo B E M' o' RV qa qu qk) wr) H locs → W p l e room_1 s m #[Value.ref b] below meth c H locs cells slots Q (F0 m (pc + 3) ls (.int r :: rest))) : W p l e room_1 s m #[Value.ref b] below meth c H locs cells slots Q (F0 m pc ls (.int k4 :: .int k3 :: .int k2 :: .int k1 :: .ref (B 0) :: rest)) := by
  cases o with
  | none =>
    rw [gM_lines] at h
    obtain ⟨out, hf, e0⟩ := Option.map_eq_some_iff.mp h
    obtain ⟨e1, e2⟩ := Prod.mk.inj e0
    obtain ⟨e2, e3⟩ := Prod.mk.inj e2
    subst e1
    subst e2
    subst e3
    exact cm_lines_nul C0 hKM hH hls hW hcs hdg hGn out (Option.some.inj hf) (fun H locs hH => kk RV qa qu qk H locs hKQ hH)
  | some q =>
    rw [gM_lines] at h
    obtain ⟨out, hf, e0⟩ := Option.map_eq_some_iff.mp h
    obtain ⟨e1, e2⟩ := Prod.mk.inj e0
    obtain ⟨e2, e3⟩ := Prod.mk.inj e2
    subst e1
    subst e2
    subst e3
    exact cm_lines C0 hKM hH hls hW hcs hdg hG out hf (fun H locs hH => kk RV qa qu qk H locs hKQ hH)
def gM_rests (k1 : Int32) (M : MS) : Option TX11_q → Option (Int32 × MS × Option TX11_q)
  | none => (some (f_X12_rests_nul k1 M.1)).map (fun (out : TX12_t) => ((-1), (out, M.2.1, M.2.2.1, M.2.2.2.1, M.2.2.2.2.1, M.2.2.2.2.2.1, M.2.2.2.2.2.2.1, M.2.2.2.2.2.2.2), none))
  | some q => (f_X12_rests k1 M.1).map (fun (out : (Int32 × TX12_t)) => (out.1, (out.2, M.2.1, M.2.2.1, M.2.2.2.1, M.2.2.2.2.1, M.2.2.2.2.2.1, M.2.2.2.2.2.2.1, M.2.2.2.2.2.2.2), some q))
set_option maxHeartbeats 1000000 in
theorem cn_rests {p : Program} {l : Launch} {e : Env} {s : State} {m : MethodId} {below : List Frame} {meth : Method} {c : Code} {b L : Nat} {xs : Nat → Int32} {H : Heap} {locs : List Loc} {cells slots : Nat} {Q : State → Prop} {dC : Nat → ClassId} {dI : Nat → Nat → Nat} {pc idx : Nat} {ls : Array Slot} {rest : List Value} {wr : va_W} {B : Nat → Nat} {E : Nat → ClassId} {M : MS} {RV : Value} {o : Option TX11_q} {qa : Nat} {qu : Nat → Nat} {qk : Nat → ClassId} (C0 : LW p l s m meth c b L xs) (hKM : KM (dC, dI) s E) (hKQ : KQ (dC, dI) s qk o) {k1 : Int32} (hH : HS (dC, dI) s (cat (wMo B E M o RV qa qu qk) wr) H locs) (hls : ls.size = 7) (hW : (rest.map fun v => v.category).sum ≤ 8) (hcs : cells ≤ 500000 ∧ slots ≤ 7000000) (hdg : decode cL_law pc = .ok (.invokevirtual idx, 3)) (hGn : GoodIn lw_tbl (wsV RL idx RX12 yX12_rests vfX12_rests_nul)) (hG : GoodIn lw_tbl (wsV RL idx RX12 yX12_rests vfX12_rests)) (r : Int32) (M' : MS) (o' : Option TX11_q) (h : gM_rests k1 M o = some (r, M', o'))
    (kk : ∀ (RV : Value) (qa : Nat) (qu : Nat → Nat) (qk : Nat → ClassId) (H : Heap) (locs : List Loc), KQ (dC, dI) s qk o' → HS (dC, dI) s (cat (wMo B E M' o' RV qa qu qk) wr) H locs → W p l e room_1 s m #[Value.ref b] below meth c H locs cells slots Q (F0 m (pc + 3) ls (.int r :: rest))) : W p l e room_1 s m #[Value.ref b] below meth c H locs cells slots Q (F0 m pc ls (.int k1 :: .ref (B 0) :: rest)) := by
  cases o with
  | none =>
    rw [gM_rests] at h
    obtain ⟨out, hf, e0⟩ := Option.map_eq_some_iff.mp h
    obtain ⟨e1, e2⟩ := Prod.mk.inj e0
    obtain ⟨e2, e3⟩ := Prod.mk.inj e2
    subst e1
    subst e2
    subst e3
    exact cm_rests_nul C0 hKM hH hls hW hcs hdg hGn out (Option.some.inj hf) (fun H locs hH => kk RV qa qu qk H locs hKQ hH)
  | some q =>
    rw [gM_rests] at h
    obtain ⟨out, hf, e0⟩ := Option.map_eq_some_iff.mp h
    obtain ⟨e1, e2⟩ := Prod.mk.inj e0
    obtain ⟨e2, e3⟩ := Prod.mk.inj e2
    subst e1
    subst e2
    subst e3
    exact cm_rests C0 hKM hH hls hW hcs hdg hG out hf (fun H locs hH => kk RV qa qu qk H locs hKQ hH)
def gM_rest (k1 : Int32) (M : MS) : Option TX11_q → Option (Int32 × MS × Option TX11_q)
  | none => (some (f_X12_rest_nul k1 M.1)).map (fun (out : TX12_t) => ((-1), (out, M.2.1, M.2.2.1, M.2.2.2.1, M.2.2.2.2.1, M.2.2.2.2.2.1, M.2.2.2.2.2.2.1, M.2.2.2.2.2.2.2), none))
  | some q => (f_X12_rest k1 M.1).map (fun (out : (Int32 × TX12_t)) => (out.1, (out.2, M.2.1, M.2.2.1, M.2.2.2.1, M.2.2.2.2.1, M.2.2.2.2.2.1, M.2.2.2.2.2.2.1, M.2.2.2.2.2.2.2), some q))
set_option maxHeartbeats 1000000 in
theorem cn_rest {p : Program} {l : Launch} {e : Env} {s : State} {m : MethodId} {below : List Frame} {meth : Method} {c : Code} {b L : Nat} {xs : Nat → Int32} {H : Heap} {locs : List Loc} {cells slots : Nat} {Q : State → Prop} {dC : Nat → ClassId} {dI : Nat → Nat → Nat} {pc idx : Nat} {ls : Array Slot} {rest : List Value} {wr : va_W} {B : Nat → Nat} {E : Nat → ClassId} {M : MS} {RV : Value} {o : Option TX11_q} {qa : Nat} {qu : Nat → Nat} {qk : Nat → ClassId} (C0 : LW p l s m meth c b L xs) (hKM : KM (dC, dI) s E) (hKQ : KQ (dC, dI) s qk o) {k1 : Int32} (hH : HS (dC, dI) s (cat (wMo B E M o RV qa qu qk) wr) H locs) (hls : ls.size = 7) (hW : (rest.map fun v => v.category).sum ≤ 8) (hcs : cells ≤ 500000 ∧ slots ≤ 7000000) (hdg : decode cL_law pc = .ok (.invokevirtual idx, 3)) (hGn : GoodIn lw_tbl (wsV RL idx RX12 yX12_rest vfX12_rest_nul)) (hG : GoodIn lw_tbl (wsV RL idx RX12 yX12_rest vfX12_rest)) (r : Int32) (M' : MS) (o' : Option TX11_q) (h : gM_rest k1 M o = some (r, M', o'))
    (kk : ∀ (RV : Value) (qa : Nat) (qu : Nat → Nat) (qk : Nat → ClassId) (H : Heap) (locs : List Loc), KQ (dC, dI) s qk o' → HS (dC, dI) s (cat (wMo B E M' o' RV qa qu qk) wr) H locs → W p l e room_1 s m #[Value.ref b] below meth c H locs cells slots Q (F0 m (pc + 3) ls (.int r :: rest))) : W p l e room_1 s m #[Value.ref b] below meth c H locs cells slots Q (F0 m pc ls (.int k1 :: .ref (B 0) :: rest)) := by
  cases o with
  | none =>
    rw [gM_rest] at h
    obtain ⟨out, hf, e0⟩ := Option.map_eq_some_iff.mp h
    obtain ⟨e1, e2⟩ := Prod.mk.inj e0
    obtain ⟨e2, e3⟩ := Prod.mk.inj e2
    subst e1
    subst e2
    subst e3
    exact cm_rest_nul C0 hKM hH hls hW hcs hdg hGn out (Option.some.inj hf) (fun H locs hH => kk RV qa qu qk H locs hKQ hH)
  | some q =>
    rw [gM_rest] at h
    obtain ⟨out, hf, e0⟩ := Option.map_eq_some_iff.mp h
    obtain ⟨e1, e2⟩ := Prod.mk.inj e0
    obtain ⟨e2, e3⟩ := Prod.mk.inj e2
    subst e1
    subst e2
    subst e3
    exact cm_rest C0 hKM hH hls hW hcs hdg hG out hf (fun H locs hH => kk RV qa qu qk H locs hKQ hH)
def gM_landed (k1 : Int32) (k2 : Int32) (M : MS) : Option TX11_q → Option (Int32 × MS × Option TX11_q)
  | none => (some (f_X12_landed_nul k1 k2 M.1)).map (fun (out : TX12_t) => ((-1), (out, M.2.1, M.2.2.1, M.2.2.2.1, M.2.2.2.2.1, M.2.2.2.2.2.1, M.2.2.2.2.2.2.1, M.2.2.2.2.2.2.2), none))
  | some q => (f_X12_landed k1 k2 M.1 M.2.2.1 M.2.2.2.1 M.2.2.2.2.2.2.2 q).map (fun (out : (Int32 × TX12_t × TX12_w × TX12_c)) => (out.1, (out.2.1, M.2.1, M.2.2.1, out.2.2.1, M.2.2.2.2.1, M.2.2.2.2.2.1, M.2.2.2.2.2.2.1, out.2.2.2), some q))
set_option maxHeartbeats 1000000 in
theorem cn_landed {p : Program} {l : Launch} {e : Env} {s : State} {m : MethodId} {below : List Frame} {meth : Method} {c : Code} {b L : Nat} {xs : Nat → Int32} {H : Heap} {locs : List Loc} {cells slots : Nat} {Q : State → Prop} {dC : Nat → ClassId} {dI : Nat → Nat → Nat} {pc idx : Nat} {ls : Array Slot} {rest : List Value} {wr : va_W} {B : Nat → Nat} {E : Nat → ClassId} {M : MS} {RV : Value} {o : Option TX11_q} {qa : Nat} {qu : Nat → Nat} {qk : Nat → ClassId} (C0 : LW p l s m meth c b L xs) (hKM : KM (dC, dI) s E) (hKQ : KQ (dC, dI) s qk o) {k1 : Int32} {k2 : Int32} (hH : HS (dC, dI) s (cat (wMo B E M o RV qa qu qk) wr) H locs) (hls : ls.size = 7) (hW : (rest.map fun v => v.category).sum ≤ 8) (hcs : cells ≤ 500000 ∧ slots ≤ 7000000) (hdg : decode cL_law pc = .ok (.invokevirtual idx, 3)) (hGn : GoodIn lw_tbl (wsV RL idx RX12 yX12_landed vfX12_landed_nul)) (hG : GoodIn lw_tbl (wsV RL idx RX12 yX12_landed vfX12_landed)) (r : Int32) (M' : MS) (o' : Option TX11_q) (h : gM_landed k1 k2 M o = some (r, M', o'))
    (kk : ∀ (RV : Value) (qa : Nat) (qu : Nat → Nat) (qk : Nat → ClassId) (H : Heap) (locs : List Loc), KQ (dC, dI) s qk o' → HS (dC, dI) s (cat (wMo B E M' o' RV qa qu qk) wr) H locs → W p l e room_1 s m #[Value.ref b] below meth c H locs cells slots Q (F0 m (pc + 3) ls (.int r :: rest))) : W p l e room_1 s m #[Value.ref b] below meth c H locs cells slots Q (F0 m pc ls (.int k2 :: .int k1 :: .ref (B 0) :: rest)) := by
  cases o with
  | none =>
    rw [gM_landed] at h
    obtain ⟨out, hf, e0⟩ := Option.map_eq_some_iff.mp h
    obtain ⟨e1, e2⟩ := Prod.mk.inj e0
    obtain ⟨e2, e3⟩ := Prod.mk.inj e2
    subst e1
    subst e2
    subst e3
    exact cm_landed_nul C0 hKM hH hls hW hcs hdg hGn out (Option.some.inj hf) (fun H locs hH => kk RV qa qu qk H locs hKQ hH)
  | some q =>
    rw [gM_landed] at h
    obtain ⟨out, hf, e0⟩ := Option.map_eq_some_iff.mp h
    obtain ⟨e1, e2⟩ := Prod.mk.inj e0
    obtain ⟨e2, e3⟩ := Prod.mk.inj e2
    subst e1
    subst e2
    subst e3
    exact cm_landed hKQ C0 hKM hH hls hW hcs hdg hG out hf (fun H locs hH => kk RV qa qu qk H locs hKQ hH)
def gM_landedIn (k1 : Int32) (k2 : Int32) (k3 : Int32) (M : MS) : Option TX11_q → Option (Int32 × MS × Option TX11_q)
  | none => (some (f_X12_landedIn_nul k1 k2 k3 M.1)).map (fun (out : TX12_t) => ((-1), (out, M.2.1, M.2.2.1, M.2.2.2.1, M.2.2.2.2.1, M.2.2.2.2.2.1, M.2.2.2.2.2.2.1, M.2.2.2.2.2.2.2), none))
  | some q => (f_X12_landedIn k1 k2 k3 M.1 M.2.2.1 M.2.2.2.1 M.2.2.2.2.2.2.2 q).map (fun (out : (Int32 × TX12_t × TX12_w × TX12_c)) => (out.1, (out.2.1, M.2.1, M.2.2.1, out.2.2.1, M.2.2.2.2.1, M.2.2.2.2.2.1, M.2.2.2.2.2.2.1, out.2.2.2), some q))
set_option maxHeartbeats 1000000 in
theorem cn_landedIn {p : Program} {l : Launch} {e : Env} {s : State} {m : MethodId} {below : List Frame} {meth : Method} {c : Code} {b L : Nat} {xs : Nat → Int32} {H : Heap} {locs : List Loc} {cells slots : Nat} {Q : State → Prop} {dC : Nat → ClassId} {dI : Nat → Nat → Nat} {pc idx : Nat} {ls : Array Slot} {rest : List Value} {wr : va_W} {B : Nat → Nat} {E : Nat → ClassId} {M : MS} {RV : Value} {o : Option TX11_q} {qa : Nat} {qu : Nat → Nat} {qk : Nat → ClassId} (C0 : LW p l s m meth c b L xs) (hKM : KM (dC, dI) s E) (hKQ : KQ (dC, dI) s qk o) {k1 : Int32} {k2 : Int32} {k3 : Int32} (hH : HS (dC, dI) s (cat (wMo B E M o RV qa qu qk) wr) H locs) (hls : ls.size = 7) (hW : (rest.map fun v => v.category).sum ≤ 8) (hcs : cells ≤ 500000 ∧ slots ≤ 7000000) (hdg : decode cL_law pc = .ok (.invokevirtual idx, 3)) (hGn : GoodIn lw_tbl (wsV RL idx RX12 yX12_landedIn vfX12_landedIn_nul)) (hG : GoodIn lw_tbl (wsV RL idx RX12 yX12_landedIn vfX12_landedIn)) (r : Int32) (M' : MS) (o' : Option TX11_q) (h : gM_landedIn k1 k2 k3 M o = some (r, M', o'))
    (kk : ∀ (RV : Value) (qa : Nat) (qu : Nat → Nat) (qk : Nat → ClassId) (H : Heap) (locs : List Loc), KQ (dC, dI) s qk o' → HS (dC, dI) s (cat (wMo B E M' o' RV qa qu qk) wr) H locs → W p l e room_1 s m #[Value.ref b] below meth c H locs cells slots Q (F0 m (pc + 3) ls (.int r :: rest))) : W p l e room_1 s m #[Value.ref b] below meth c H locs cells slots Q (F0 m pc ls (.int k3 :: .int k2 :: .int k1 :: .ref (B 0) :: rest)) := by
  cases o with
  | none =>
    rw [gM_landedIn] at h
    obtain ⟨out, hf, e0⟩ := Option.map_eq_some_iff.mp h
    obtain ⟨e1, e2⟩ := Prod.mk.inj e0
    obtain ⟨e2, e3⟩ := Prod.mk.inj e2
    subst e1
    subst e2
    subst e3
    exact cm_landedIn_nul C0 hKM hH hls hW hcs hdg hGn out (Option.some.inj hf) (fun H locs hH => kk RV qa qu qk H locs hKQ hH)
  | some q =>
    rw [gM_landedIn] at h
    obtain ⟨out, hf, e0⟩ := Option.map_eq_some_iff.mp h
    obtain ⟨e1, e2⟩ := Prod.mk.inj e0
    obtain ⟨e2, e3⟩ := Prod.mk.inj e2
    subst e1
    subst e2
    subst e3
    exact cm_landedIn hKQ C0 hKM hH hls hW hcs hdg hG out hf (fun H locs hH => kk RV qa qu qk H locs hKQ hH)
def gM_crabs (k1 : Int32) (k2 : Int32) (M : MS) : Option TX11_q → Option (Int32 × MS × Option TX11_q)
  | none => (some (f_X12_crabs_nul k1 k2 M.1)).map (fun (out : TX12_t) => ((-1), (out, M.2.1, M.2.2.1, M.2.2.2.1, M.2.2.2.2.1, M.2.2.2.2.2.1, M.2.2.2.2.2.2.1, M.2.2.2.2.2.2.2), none))
  | some q => (f_X12_crabs k1 k2 M.1 M.2.2.1 M.2.2.2.1 M.2.2.2.2.2.2.2 q).map (fun (out : (Int32 × TX12_t × TX12_w × TX12_c)) => (out.1, (out.2.1, M.2.1, M.2.2.1, out.2.2.1, M.2.2.2.2.1, M.2.2.2.2.2.1, M.2.2.2.2.2.2.1, out.2.2.2), some q))
set_option maxHeartbeats 1000000 in
theorem cn_crabs {p : Program} {l : Launch} {e : Env} {s : State} {m : MethodId} {below : List Frame} {meth : Method} {c : Code} {b L : Nat} {xs : Nat → Int32} {H : Heap} {locs : List Loc} {cells slots : Nat} {Q : State → Prop} {dC : Nat → ClassId} {dI : Nat → Nat → Nat} {pc idx : Nat} {ls : Array Slot} {rest : List Value} {wr : va_W} {B : Nat → Nat} {E : Nat → ClassId} {M : MS} {RV : Value} {o : Option TX11_q} {qa : Nat} {qu : Nat → Nat} {qk : Nat → ClassId} (C0 : LW p l s m meth c b L xs) (hKM : KM (dC, dI) s E) (hKQ : KQ (dC, dI) s qk o) {k1 : Int32} {k2 : Int32} (hH : HS (dC, dI) s (cat (wMo B E M o RV qa qu qk) wr) H locs) (hls : ls.size = 7) (hW : (rest.map fun v => v.category).sum ≤ 8) (hcs : cells ≤ 500000 ∧ slots ≤ 7000000) (hdg : decode cL_law pc = .ok (.invokevirtual idx, 3)) (hGn : GoodIn lw_tbl (wsV RL idx RX12 yX12_crabs vfX12_crabs_nul)) (hG : GoodIn lw_tbl (wsV RL idx RX12 yX12_crabs vfX12_crabs)) (r : Int32) (M' : MS) (o' : Option TX11_q) (h : gM_crabs k1 k2 M o = some (r, M', o'))
    (kk : ∀ (RV : Value) (qa : Nat) (qu : Nat → Nat) (qk : Nat → ClassId) (H : Heap) (locs : List Loc), KQ (dC, dI) s qk o' → HS (dC, dI) s (cat (wMo B E M' o' RV qa qu qk) wr) H locs → W p l e room_1 s m #[Value.ref b] below meth c H locs cells slots Q (F0 m (pc + 3) ls (.int r :: rest))) : W p l e room_1 s m #[Value.ref b] below meth c H locs cells slots Q (F0 m pc ls (.int k2 :: .int k1 :: .ref (B 0) :: rest)) := by
  cases o with
  | none =>
    rw [gM_crabs] at h
    obtain ⟨out, hf, e0⟩ := Option.map_eq_some_iff.mp h
    obtain ⟨e1, e2⟩ := Prod.mk.inj e0
    obtain ⟨e2, e3⟩ := Prod.mk.inj e2
    subst e1
    subst e2
    subst e3
    exact cm_crabs_nul C0 hKM hH hls hW hcs hdg hGn out (Option.some.inj hf) (fun H locs hH => kk RV qa qu qk H locs hKQ hH)
  | some q =>
    rw [gM_crabs] at h
    obtain ⟨out, hf, e0⟩ := Option.map_eq_some_iff.mp h
    obtain ⟨e1, e2⟩ := Prod.mk.inj e0
    obtain ⟨e2, e3⟩ := Prod.mk.inj e2
    subst e1
    subst e2
    subst e3
    exact cm_crabs hKQ C0 hKM hH hls hW hcs hdg hG out hf (fun H locs hH => kk RV qa qu qk H locs hKQ hH)
def gM_let (k1 : Int32) (k2 : Int32) (k3 : Int32) (k4 : Int32) (M : MS) : Option TX11_q → Option (Int32 × MS × Option TX11_q)
  | none => (some (f_X12_let_nul k1 k2 k3 k4 M.1)).map (fun (out : TX12_t) => (0, (out, M.2.1, M.2.2.1, M.2.2.2.1, M.2.2.2.2.1, M.2.2.2.2.2.1, M.2.2.2.2.2.2.1, M.2.2.2.2.2.2.2), none))
  | some q => (f_X12_let k1 k2 k3 k4 M.1 M.2.2.1 M.2.2.2.2.1 q).map (fun (out : (Int32 × TX12_t × TX12_v × TX12_h)) => (out.1, (out.2.1, M.2.1, out.2.2.1, M.2.2.2.1, out.2.2.2, M.2.2.2.2.2.1, M.2.2.2.2.2.2.1, M.2.2.2.2.2.2.2), some q))
set_option maxHeartbeats 1000000 in
theorem cn_let {p : Program} {l : Launch} {e : Env} {s : State} {m : MethodId} {below : List Frame} {meth : Method} {c : Code} {b L : Nat} {xs : Nat → Int32} {H : Heap} {locs : List Loc} {cells slots : Nat} {Q : State → Prop} {dC : Nat → ClassId} {dI : Nat → Nat → Nat} {pc idx : Nat} {ls : Array Slot} {rest : List Value} {wr : va_W} {B : Nat → Nat} {E : Nat → ClassId} {M : MS} {RV : Value} {o : Option TX11_q} {qa : Nat} {qu : Nat → Nat} {qk : Nat → ClassId} (C0 : LW p l s m meth c b L xs) (hKM : KM (dC, dI) s E) (hKQ : KQ (dC, dI) s qk o) {k1 : Int32} {k2 : Int32} {k3 : Int32} {k4 : Int32} (hH : HS (dC, dI) s (cat (wMo B E M o RV qa qu qk) wr) H locs) (hls : ls.size = 7) (hW : (rest.map fun v => v.category).sum ≤ 8) (hcs : cells ≤ 500000 ∧ slots ≤ 7000000) (hdg : decode cL_law pc = .ok (.invokevirtual idx, 3)) (hGn : GoodIn lw_tbl (wsV RL idx RX12 yX12_let vfX12_let_nul)) (hG : GoodIn lw_tbl (wsV RL idx RX12 yX12_let vfX12_let)) (r : Int32) (M' : MS) (o' : Option TX11_q) (h : gM_let k1 k2 k3 k4 M o = some (r, M', o'))
    (kk : ∀ (RV : Value) (qa : Nat) (qu : Nat → Nat) (qk : Nat → ClassId) (H : Heap) (locs : List Loc), KQ (dC, dI) s qk o' → HS (dC, dI) s (cat (wMo B E M' o' RV qa qu qk) wr) H locs → W p l e room_1 s m #[Value.ref b] below meth c H locs cells slots Q (F0 m (pc + 3) ls (.int r :: rest))) : W p l e room_1 s m #[Value.ref b] below meth c H locs cells slots Q (F0 m pc ls (.int k4 :: .int k3 :: .int k2 :: .int k1 :: .ref (B 0) :: rest)) := by
  cases o with
  | none =>
    rw [gM_let] at h
    obtain ⟨out, hf, e0⟩ := Option.map_eq_some_iff.mp h
    obtain ⟨e1, e2⟩ := Prod.mk.inj e0
    obtain ⟨e2, e3⟩ := Prod.mk.inj e2
    subst e1
    subst e2
    subst e3
    exact cm_let_nul C0 hKM hH hls hW hcs hdg hGn out (Option.some.inj hf) (fun H locs hH => kk RV qa qu qk H locs hKQ hH)
  | some q =>
    rw [gM_let] at h
    obtain ⟨out, hf, e0⟩ := Option.map_eq_some_iff.mp h
    obtain ⟨e1, e2⟩ := Prod.mk.inj e0
    obtain ⟨e2, e3⟩ := Prod.mk.inj e2
    subst e1
    subst e2
    subst e3
    exact cm_let hKQ C0 hKM hH hls hW hcs hdg hG out hf (fun H locs hH => kk RV qa qu qk H locs hKQ hH)
def gM_drawIn (k1 : Int32) (M : MS) : Option TX11_q → Option (Int32 × MS × Option TX11_q)
  | none => (some (f_X12_drawIn_nul k1 M.1)).map (fun (out : TX12_t) => (0, (out, M.2.1, M.2.2.1, M.2.2.2.1, M.2.2.2.2.1, M.2.2.2.2.2.1, M.2.2.2.2.2.2.1, M.2.2.2.2.2.2.2), none))
  | some q => (f_X12_drawIn k1 M.1 M.2.2.1 M.2.2.2.2.1 q).map (fun (out : (Int32 × TX12_t × TX12_v × TX12_h)) => (out.1, (out.2.1, M.2.1, out.2.2.1, M.2.2.2.1, out.2.2.2, M.2.2.2.2.2.1, M.2.2.2.2.2.2.1, M.2.2.2.2.2.2.2), some q))
set_option maxHeartbeats 1000000 in
theorem cn_drawIn {p : Program} {l : Launch} {e : Env} {s : State} {m : MethodId} {below : List Frame} {meth : Method} {c : Code} {b L : Nat} {xs : Nat → Int32} {H : Heap} {locs : List Loc} {cells slots : Nat} {Q : State → Prop} {dC : Nat → ClassId} {dI : Nat → Nat → Nat} {pc idx : Nat} {ls : Array Slot} {rest : List Value} {wr : va_W} {B : Nat → Nat} {E : Nat → ClassId} {M : MS} {RV : Value} {o : Option TX11_q} {qa : Nat} {qu : Nat → Nat} {qk : Nat → ClassId} (C0 : LW p l s m meth c b L xs) (hKM : KM (dC, dI) s E) (hKQ : KQ (dC, dI) s qk o) {k1 : Int32} (hH : HS (dC, dI) s (cat (wMo B E M o RV qa qu qk) wr) H locs) (hls : ls.size = 7) (hW : (rest.map fun v => v.category).sum ≤ 8) (hcs : cells ≤ 500000 ∧ slots ≤ 7000000) (hdg : decode cL_law pc = .ok (.invokevirtual idx, 3)) (hGn : GoodIn lw_tbl (wsV RL idx RX12 yX12_drawIn vfX12_drawIn_nul)) (hG : GoodIn lw_tbl (wsV RL idx RX12 yX12_drawIn vfX12_drawIn)) (r : Int32) (M' : MS) (o' : Option TX11_q) (h : gM_drawIn k1 M o = some (r, M', o'))
    (kk : ∀ (RV : Value) (qa : Nat) (qu : Nat → Nat) (qk : Nat → ClassId) (H : Heap) (locs : List Loc), KQ (dC, dI) s qk o' → HS (dC, dI) s (cat (wMo B E M' o' RV qa qu qk) wr) H locs → W p l e room_1 s m #[Value.ref b] below meth c H locs cells slots Q (F0 m (pc + 3) ls (.int r :: rest))) : W p l e room_1 s m #[Value.ref b] below meth c H locs cells slots Q (F0 m pc ls (.int k1 :: .ref (B 0) :: rest)) := by
  cases o with
  | none =>
    rw [gM_drawIn] at h
    obtain ⟨out, hf, e0⟩ := Option.map_eq_some_iff.mp h
    obtain ⟨e1, e2⟩ := Prod.mk.inj e0
    obtain ⟨e2, e3⟩ := Prod.mk.inj e2
    subst e1
    subst e2
    subst e3
    exact cm_drawIn_nul C0 hKM hH hls hW hcs hdg hGn out (Option.some.inj hf) (fun H locs hH => kk RV qa qu qk H locs hKQ hH)
  | some q =>
    rw [gM_drawIn] at h
    obtain ⟨out, hf, e0⟩ := Option.map_eq_some_iff.mp h
    obtain ⟨e1, e2⟩ := Prod.mk.inj e0
    obtain ⟨e2, e3⟩ := Prod.mk.inj e2
    subst e1
    subst e2
    subst e3
    exact cm_drawIn hKQ C0 hKM hH hls hW hcs hdg hG out hf (fun H locs hH => kk RV qa qu qk H locs hKQ hH)
def gM_sell (k1 : Int32) (M : MS) : Option TX11_q → Option (Int32 × MS × Option TX11_q)
  | none => (some (f_X12_sell_nul k1 M.1)).map (fun (out : TX12_t) => ((-1), (out, M.2.1, M.2.2.1, M.2.2.2.1, M.2.2.2.2.1, M.2.2.2.2.2.1, M.2.2.2.2.2.2.1, M.2.2.2.2.2.2.2), none))
  | some q => (f_X12_sell k1 M.1 M.2.2.1 M.2.2.2.2.1 q).map (fun (out : (Int32 × TX12_t × TX12_v × TX12_h)) => (out.1, (out.2.1, M.2.1, out.2.2.1, M.2.2.2.1, out.2.2.2, M.2.2.2.2.2.1, M.2.2.2.2.2.2.1, M.2.2.2.2.2.2.2), some q))
set_option maxHeartbeats 1000000 in
theorem cn_sell {p : Program} {l : Launch} {e : Env} {s : State} {m : MethodId} {below : List Frame} {meth : Method} {c : Code} {b L : Nat} {xs : Nat → Int32} {H : Heap} {locs : List Loc} {cells slots : Nat} {Q : State → Prop} {dC : Nat → ClassId} {dI : Nat → Nat → Nat} {pc idx : Nat} {ls : Array Slot} {rest : List Value} {wr : va_W} {B : Nat → Nat} {E : Nat → ClassId} {M : MS} {RV : Value} {o : Option TX11_q} {qa : Nat} {qu : Nat → Nat} {qk : Nat → ClassId} (C0 : LW p l s m meth c b L xs) (hKM : KM (dC, dI) s E) (hKQ : KQ (dC, dI) s qk o) {k1 : Int32} (hH : HS (dC, dI) s (cat (wMo B E M o RV qa qu qk) wr) H locs) (hls : ls.size = 7) (hW : (rest.map fun v => v.category).sum ≤ 8) (hcs : cells ≤ 500000 ∧ slots ≤ 7000000) (hdg : decode cL_law pc = .ok (.invokevirtual idx, 3)) (hGn : GoodIn lw_tbl (wsV RL idx RX12 yX12_sell vfX12_sell_nul)) (hG : GoodIn lw_tbl (wsV RL idx RX12 yX12_sell vfX12_sell)) (r : Int32) (M' : MS) (o' : Option TX11_q) (h : gM_sell k1 M o = some (r, M', o'))
    (kk : ∀ (RV : Value) (qa : Nat) (qu : Nat → Nat) (qk : Nat → ClassId) (H : Heap) (locs : List Loc), KQ (dC, dI) s qk o' → HS (dC, dI) s (cat (wMo B E M' o' RV qa qu qk) wr) H locs → W p l e room_1 s m #[Value.ref b] below meth c H locs cells slots Q (F0 m (pc + 3) ls (.int r :: rest))) : W p l e room_1 s m #[Value.ref b] below meth c H locs cells slots Q (F0 m pc ls (.int k1 :: .ref (B 0) :: rest)) := by
  cases o with
  | none =>
    rw [gM_sell] at h
    obtain ⟨out, hf, e0⟩ := Option.map_eq_some_iff.mp h
    obtain ⟨e1, e2⟩ := Prod.mk.inj e0
    obtain ⟨e2, e3⟩ := Prod.mk.inj e2
    subst e1
    subst e2
    subst e3
    exact cm_sell_nul C0 hKM hH hls hW hcs hdg hGn out (Option.some.inj hf) (fun H locs hH => kk RV qa qu qk H locs hKQ hH)
  | some q =>
    rw [gM_sell] at h
    obtain ⟨out, hf, e0⟩ := Option.map_eq_some_iff.mp h
    obtain ⟨e1, e2⟩ := Prod.mk.inj e0
    obtain ⟨e2, e3⟩ := Prod.mk.inj e2
    subst e1
    subst e2
    subst e3
    exact cm_sell hKQ C0 hKM hH hls hW hcs hdg hG out hf (fun H locs hH => kk RV qa qu qk H locs hKQ hH)
def gM_day (M : MS) : Option TX11_q → Option (Int32 × MS × Option TX11_q)
  | none => (some (f_X12_day_nul M.1)).map (fun (out : TX12_t) => ((-1), (out, M.2.1, M.2.2.1, M.2.2.2.1, M.2.2.2.2.1, M.2.2.2.2.2.1, M.2.2.2.2.2.2.1, M.2.2.2.2.2.2.2), none))
  | some q => (f_X12_day M.1 M.2.2.1 M.2.2.2.2.1 M.2.2.2.2.2.2.2 q).map (fun (out : (Int32 × TX12_t × TX12_v × TX12_h × TX12_c)) => (out.1, (out.2.1, M.2.1, out.2.2.1, M.2.2.2.1, out.2.2.2.1, M.2.2.2.2.2.1, M.2.2.2.2.2.2.1, out.2.2.2.2), some q))
set_option maxHeartbeats 1000000 in
theorem cn_day {p : Program} {l : Launch} {e : Env} {s : State} {m : MethodId} {below : List Frame} {meth : Method} {c : Code} {b L : Nat} {xs : Nat → Int32} {H : Heap} {locs : List Loc} {cells slots : Nat} {Q : State → Prop} {dC : Nat → ClassId} {dI : Nat → Nat → Nat} {pc idx : Nat} {ls : Array Slot} {rest : List Value} {wr : va_W} {B : Nat → Nat} {E : Nat → ClassId} {M : MS} {RV : Value} {o : Option TX11_q} {qa : Nat} {qu : Nat → Nat} {qk : Nat → ClassId} (C0 : LW p l s m meth c b L xs) (hKM : KM (dC, dI) s E) (hKQ : KQ (dC, dI) s qk o) (hH : HS (dC, dI) s (cat (wMo B E M o RV qa qu qk) wr) H locs) (hls : ls.size = 7) (hW : (rest.map fun v => v.category).sum ≤ 8) (hcs : cells ≤ 500000 ∧ slots ≤ 7000000) (hdg : decode cL_law pc = .ok (.invokevirtual idx, 3)) (hGn : GoodIn lw_tbl (wsV RL idx RX12 yX12_day vfX12_day_nul)) (hG : GoodIn lw_tbl (wsV RL idx RX12 yX12_day vfX12_day)) (r : Int32) (M' : MS) (o' : Option TX11_q) (h : gM_day M o = some (r, M', o'))
    (kk : ∀ (RV : Value) (qa : Nat) (qu : Nat → Nat) (qk : Nat → ClassId) (H : Heap) (locs : List Loc), KQ (dC, dI) s qk o' → HS (dC, dI) s (cat (wMo B E M' o' RV qa qu qk) wr) H locs → W p l e room_1 s m #[Value.ref b] below meth c H locs cells slots Q (F0 m (pc + 3) ls (.int r :: rest))) : W p l e room_1 s m #[Value.ref b] below meth c H locs cells slots Q (F0 m pc ls (.ref (B 0) :: rest)) := by
  cases o with
  | none =>
    rw [gM_day] at h
    obtain ⟨out, hf, e0⟩ := Option.map_eq_some_iff.mp h
    obtain ⟨e1, e2⟩ := Prod.mk.inj e0
    obtain ⟨e2, e3⟩ := Prod.mk.inj e2
    subst e1
    subst e2
    subst e3
    exact cm_day_nul C0 hKM hH hls hW hcs hdg hGn out (Option.some.inj hf) (fun H locs hH => kk RV qa qu qk H locs hKQ hH)
  | some q =>
    rw [gM_day] at h
    obtain ⟨out, hf, e0⟩ := Option.map_eq_some_iff.mp h
    obtain ⟨e1, e2⟩ := Prod.mk.inj e0
    obtain ⟨e2, e3⟩ := Prod.mk.inj e2
    subst e1
    subst e2
    subst e3
    exact cm_day hKQ C0 hKM hH hls hW hcs hdg hG out hf (fun H locs hH => kk RV qa qu qk H locs hKQ hH)
def gM_seed (k1 : Int32) (M : MS) : Option TX11_q → Option (Int32 × MS × Option TX11_q)
  | none => (some (f_X12_seed_nul k1 M.1)).map (fun (out : TX12_t) => (0, (out, M.2.1, M.2.2.1, M.2.2.2.1, M.2.2.2.2.1, M.2.2.2.2.2.1, M.2.2.2.2.2.2.1, M.2.2.2.2.2.2.2), none))
  | some q => (some (f_X12_seed k1 M.1 M.2.2.1)).map (fun (out : (Int32 × TX12_t × TX12_v)) => (out.1, (out.2.1, M.2.1, out.2.2, M.2.2.2.1, M.2.2.2.2.1, M.2.2.2.2.2.1, M.2.2.2.2.2.2.1, M.2.2.2.2.2.2.2), some q))
set_option maxHeartbeats 1000000 in
theorem cn_seed {p : Program} {l : Launch} {e : Env} {s : State} {m : MethodId} {below : List Frame} {meth : Method} {c : Code} {b L : Nat} {xs : Nat → Int32} {H : Heap} {locs : List Loc} {cells slots : Nat} {Q : State → Prop} {dC : Nat → ClassId} {dI : Nat → Nat → Nat} {pc idx : Nat} {ls : Array Slot} {rest : List Value} {wr : va_W} {B : Nat → Nat} {E : Nat → ClassId} {M : MS} {RV : Value} {o : Option TX11_q} {qa : Nat} {qu : Nat → Nat} {qk : Nat → ClassId} (C0 : LW p l s m meth c b L xs) (hKM : KM (dC, dI) s E) (hKQ : KQ (dC, dI) s qk o) {k1 : Int32} (hH : HS (dC, dI) s (cat (wMo B E M o RV qa qu qk) wr) H locs) (hls : ls.size = 7) (hW : (rest.map fun v => v.category).sum ≤ 8) (hcs : cells ≤ 500000 ∧ slots ≤ 7000000) (hdg : decode cL_law pc = .ok (.invokevirtual idx, 3)) (hGn : GoodIn lw_tbl (wsV RL idx RX12 yX12_seed vfX12_seed_nul)) (hG : GoodIn lw_tbl (wsV RL idx RX12 yX12_seed vfX12_seed)) (r : Int32) (M' : MS) (o' : Option TX11_q) (h : gM_seed k1 M o = some (r, M', o'))
    (kk : ∀ (RV : Value) (qa : Nat) (qu : Nat → Nat) (qk : Nat → ClassId) (H : Heap) (locs : List Loc), KQ (dC, dI) s qk o' → HS (dC, dI) s (cat (wMo B E M' o' RV qa qu qk) wr) H locs → W p l e room_1 s m #[Value.ref b] below meth c H locs cells slots Q (F0 m (pc + 3) ls (.int r :: rest))) : W p l e room_1 s m #[Value.ref b] below meth c H locs cells slots Q (F0 m pc ls (.int k1 :: .ref (B 0) :: rest)) := by
  cases o with
  | none =>
    rw [gM_seed] at h
    obtain ⟨out, hf, e0⟩ := Option.map_eq_some_iff.mp h
    obtain ⟨e1, e2⟩ := Prod.mk.inj e0
    obtain ⟨e2, e3⟩ := Prod.mk.inj e2
    subst e1
    subst e2
    subst e3
    exact cm_seed_nul C0 hKM hH hls hW hcs hdg hGn out (Option.some.inj hf) (fun H locs hH => kk RV qa qu qk H locs hKQ hH)
  | some q =>
    rw [gM_seed] at h
    obtain ⟨out, hf, e0⟩ := Option.map_eq_some_iff.mp h
    obtain ⟨e1, e2⟩ := Prod.mk.inj e0
    obtain ⟨e2, e3⟩ := Prod.mk.inj e2
    subst e1
    subst e2
    subst e3
    exact cm_seed C0 hKM hH hls hW hcs hdg hG out (Option.some.inj hf) (fun H locs hH => kk RV qa qu qk H locs hKQ hH)
def gM_undo (M : MS) : Option TX11_q → Option (Int32 × MS × Option TX11_q)
  | none => (some (f_X12_undo_nul M.1)).map (fun (out : TX12_t) => (0, (out, M.2.1, M.2.2.1, M.2.2.2.1, M.2.2.2.2.1, M.2.2.2.2.2.1, M.2.2.2.2.2.2.1, M.2.2.2.2.2.2.2), none))
  | some q => (f_X12_undo M.1 M.2.2.1 M.2.2.2.2.1).map (fun (out : (Int32 × TX12_t × TX12_v × TX12_h)) => (out.1, (out.2.1, M.2.1, out.2.2.1, M.2.2.2.1, out.2.2.2, M.2.2.2.2.2.1, M.2.2.2.2.2.2.1, M.2.2.2.2.2.2.2), some q))
set_option maxHeartbeats 1000000 in
theorem cn_undo {p : Program} {l : Launch} {e : Env} {s : State} {m : MethodId} {below : List Frame} {meth : Method} {c : Code} {b L : Nat} {xs : Nat → Int32} {H : Heap} {locs : List Loc} {cells slots : Nat} {Q : State → Prop} {dC : Nat → ClassId} {dI : Nat → Nat → Nat} {pc idx : Nat} {ls : Array Slot} {rest : List Value} {wr : va_W} {B : Nat → Nat} {E : Nat → ClassId} {M : MS} {RV : Value} {o : Option TX11_q} {qa : Nat} {qu : Nat → Nat} {qk : Nat → ClassId} (C0 : LW p l s m meth c b L xs) (hKM : KM (dC, dI) s E) (hKQ : KQ (dC, dI) s qk o) (hH : HS (dC, dI) s (cat (wMo B E M o RV qa qu qk) wr) H locs) (hls : ls.size = 7) (hW : (rest.map fun v => v.category).sum ≤ 8) (hcs : cells ≤ 500000 ∧ slots ≤ 7000000) (hdg : decode cL_law pc = .ok (.invokevirtual idx, 3)) (hGn : GoodIn lw_tbl (wsV RL idx RX12 yX12_undo vfX12_undo_nul)) (hG : GoodIn lw_tbl (wsV RL idx RX12 yX12_undo vfX12_undo)) (r : Int32) (M' : MS) (o' : Option TX11_q) (h : gM_undo M o = some (r, M', o'))
    (kk : ∀ (RV : Value) (qa : Nat) (qu : Nat → Nat) (qk : Nat → ClassId) (H : Heap) (locs : List Loc), KQ (dC, dI) s qk o' → HS (dC, dI) s (cat (wMo B E M' o' RV qa qu qk) wr) H locs → W p l e room_1 s m #[Value.ref b] below meth c H locs cells slots Q (F0 m (pc + 3) ls (.int r :: rest))) : W p l e room_1 s m #[Value.ref b] below meth c H locs cells slots Q (F0 m pc ls (.ref (B 0) :: rest)) := by
  cases o with
  | none =>
    rw [gM_undo] at h
    obtain ⟨out, hf, e0⟩ := Option.map_eq_some_iff.mp h
    obtain ⟨e1, e2⟩ := Prod.mk.inj e0
    obtain ⟨e2, e3⟩ := Prod.mk.inj e2
    subst e1
    subst e2
    subst e3
    exact cm_undo_nul C0 hKM hH hls hW hcs hdg hGn out (Option.some.inj hf) (fun H locs hH => kk RV qa qu qk H locs hKQ hH)
  | some q =>
    rw [gM_undo] at h
    obtain ⟨out, hf, e0⟩ := Option.map_eq_some_iff.mp h
    obtain ⟨e1, e2⟩ := Prod.mk.inj e0
    obtain ⟨e2, e3⟩ := Prod.mk.inj e2
    subst e1
    subst e2
    subst e3
    exact cm_undo C0 hKM hH hls hW hcs hdg hG out hf (fun H locs hH => kk RV qa qu qk H locs hKQ hH)
def gM_mark (M : MS) : Option TX11_q → Option (Int32 × MS × Option TX11_q)
  | none => (some (f_X12_mark_nul M.1)).map (fun (out : TX12_t) => ((-1), (out, M.2.1, M.2.2.1, M.2.2.2.1, M.2.2.2.2.1, M.2.2.2.2.2.1, M.2.2.2.2.2.2.1, M.2.2.2.2.2.2.2), none))
  | some q => (f_X12_mark M.1 M.2.2.1 M.2.2.2.2.1).map (fun (out : (Int32 × TX12_t × TX12_h)) => (out.1, (out.2.1, M.2.1, M.2.2.1, M.2.2.2.1, out.2.2, M.2.2.2.2.2.1, M.2.2.2.2.2.2.1, M.2.2.2.2.2.2.2), some q))
set_option maxHeartbeats 1000000 in
theorem cn_mark {p : Program} {l : Launch} {e : Env} {s : State} {m : MethodId} {below : List Frame} {meth : Method} {c : Code} {b L : Nat} {xs : Nat → Int32} {H : Heap} {locs : List Loc} {cells slots : Nat} {Q : State → Prop} {dC : Nat → ClassId} {dI : Nat → Nat → Nat} {pc idx : Nat} {ls : Array Slot} {rest : List Value} {wr : va_W} {B : Nat → Nat} {E : Nat → ClassId} {M : MS} {RV : Value} {o : Option TX11_q} {qa : Nat} {qu : Nat → Nat} {qk : Nat → ClassId} (C0 : LW p l s m meth c b L xs) (hKM : KM (dC, dI) s E) (hKQ : KQ (dC, dI) s qk o) (hH : HS (dC, dI) s (cat (wMo B E M o RV qa qu qk) wr) H locs) (hls : ls.size = 7) (hW : (rest.map fun v => v.category).sum ≤ 8) (hcs : cells ≤ 500000 ∧ slots ≤ 7000000) (hdg : decode cL_law pc = .ok (.invokevirtual idx, 3)) (hGn : GoodIn lw_tbl (wsV RL idx RX12 yX12_mark vfX12_mark_nul)) (hG : GoodIn lw_tbl (wsV RL idx RX12 yX12_mark vfX12_mark)) (r : Int32) (M' : MS) (o' : Option TX11_q) (h : gM_mark M o = some (r, M', o'))
    (kk : ∀ (RV : Value) (qa : Nat) (qu : Nat → Nat) (qk : Nat → ClassId) (H : Heap) (locs : List Loc), KQ (dC, dI) s qk o' → HS (dC, dI) s (cat (wMo B E M' o' RV qa qu qk) wr) H locs → W p l e room_1 s m #[Value.ref b] below meth c H locs cells slots Q (F0 m (pc + 3) ls (.int r :: rest))) : W p l e room_1 s m #[Value.ref b] below meth c H locs cells slots Q (F0 m pc ls (.ref (B 0) :: rest)) := by
  cases o with
  | none =>
    rw [gM_mark] at h
    obtain ⟨out, hf, e0⟩ := Option.map_eq_some_iff.mp h
    obtain ⟨e1, e2⟩ := Prod.mk.inj e0
    obtain ⟨e2, e3⟩ := Prod.mk.inj e2
    subst e1
    subst e2
    subst e3
    exact cm_mark_nul C0 hKM hH hls hW hcs hdg hGn out (Option.some.inj hf) (fun H locs hH => kk RV qa qu qk H locs hKQ hH)
  | some q =>
    rw [gM_mark] at h
    obtain ⟨out, hf, e0⟩ := Option.map_eq_some_iff.mp h
    obtain ⟨e1, e2⟩ := Prod.mk.inj e0
    obtain ⟨e2, e3⟩ := Prod.mk.inj e2
    subst e1
    subst e2
    subst e3
    exact cm_mark C0 hKM hH hls hW hcs hdg hG out hf (fun H locs hH => kk RV qa qu qk H locs hKQ hH)
def gM_back (k1 : Int32) (M : MS) : Option TX11_q → Option (Int32 × MS × Option TX11_q)
  | none => (some (f_X12_back_nul k1 M.1)).map (fun (out : TX12_t) => (0, (out, M.2.1, M.2.2.1, M.2.2.2.1, M.2.2.2.2.1, M.2.2.2.2.2.1, M.2.2.2.2.2.2.1, M.2.2.2.2.2.2.2), none))
  | some q => (f_X12_back k1 M.1 M.2.2.1 M.2.2.2.2.1).map (fun (out : (Int32 × TX12_t × TX12_v × TX12_h)) => (out.1, (out.2.1, M.2.1, out.2.2.1, M.2.2.2.1, out.2.2.2, M.2.2.2.2.2.1, M.2.2.2.2.2.2.1, M.2.2.2.2.2.2.2), some q))
set_option maxHeartbeats 1000000 in
theorem cn_back {p : Program} {l : Launch} {e : Env} {s : State} {m : MethodId} {below : List Frame} {meth : Method} {c : Code} {b L : Nat} {xs : Nat → Int32} {H : Heap} {locs : List Loc} {cells slots : Nat} {Q : State → Prop} {dC : Nat → ClassId} {dI : Nat → Nat → Nat} {pc idx : Nat} {ls : Array Slot} {rest : List Value} {wr : va_W} {B : Nat → Nat} {E : Nat → ClassId} {M : MS} {RV : Value} {o : Option TX11_q} {qa : Nat} {qu : Nat → Nat} {qk : Nat → ClassId} (C0 : LW p l s m meth c b L xs) (hKM : KM (dC, dI) s E) (hKQ : KQ (dC, dI) s qk o) {k1 : Int32} (hH : HS (dC, dI) s (cat (wMo B E M o RV qa qu qk) wr) H locs) (hls : ls.size = 7) (hW : (rest.map fun v => v.category).sum ≤ 8) (hcs : cells ≤ 500000 ∧ slots ≤ 7000000) (hdg : decode cL_law pc = .ok (.invokevirtual idx, 3)) (hGn : GoodIn lw_tbl (wsV RL idx RX12 yX12_back vfX12_back_nul)) (hG : GoodIn lw_tbl (wsV RL idx RX12 yX12_back vfX12_back)) (r : Int32) (M' : MS) (o' : Option TX11_q) (h : gM_back k1 M o = some (r, M', o'))
    (kk : ∀ (RV : Value) (qa : Nat) (qu : Nat → Nat) (qk : Nat → ClassId) (H : Heap) (locs : List Loc), KQ (dC, dI) s qk o' → HS (dC, dI) s (cat (wMo B E M' o' RV qa qu qk) wr) H locs → W p l e room_1 s m #[Value.ref b] below meth c H locs cells slots Q (F0 m (pc + 3) ls (.int r :: rest))) : W p l e room_1 s m #[Value.ref b] below meth c H locs cells slots Q (F0 m pc ls (.int k1 :: .ref (B 0) :: rest)) := by
  cases o with
  | none =>
    rw [gM_back] at h
    obtain ⟨out, hf, e0⟩ := Option.map_eq_some_iff.mp h
    obtain ⟨e1, e2⟩ := Prod.mk.inj e0
    obtain ⟨e2, e3⟩ := Prod.mk.inj e2
    subst e1
    subst e2
    subst e3
    exact cm_back_nul C0 hKM hH hls hW hcs hdg hGn out (Option.some.inj hf) (fun H locs hH => kk RV qa qu qk H locs hKQ hH)
  | some q =>
    rw [gM_back] at h
    obtain ⟨out, hf, e0⟩ := Option.map_eq_some_iff.mp h
    obtain ⟨e1, e2⟩ := Prod.mk.inj e0
    obtain ⟨e2, e3⟩ := Prod.mk.inj e2
    subst e1
    subst e2
    subst e3
    exact cm_back C0 hKM hH hls hW hcs hdg hG out hf (fun H locs hH => kk RV qa qu qk H locs hKQ hH)
def gM_led (k1 : Int32) (M : MS) : Option TX11_q → Option (Int32 × MS × Option TX11_q)
  | none => (f_X12_led_nul k1 M.1).map (fun (out : TX12_t) => (0, (out, M.2.1, M.2.2.1, M.2.2.2.1, M.2.2.2.2.1, M.2.2.2.2.2.1, M.2.2.2.2.2.2.1, M.2.2.2.2.2.2.2), none))
  | some q => (f_X12_led k1 M.1 M.2.2.1 q).map (fun (out : (Int32 × TX12_t)) => (out.1, (out.2, M.2.1, M.2.2.1, M.2.2.2.1, M.2.2.2.2.1, M.2.2.2.2.2.1, M.2.2.2.2.2.2.1, M.2.2.2.2.2.2.2), some q))
set_option maxHeartbeats 1000000 in
theorem cn_led {p : Program} {l : Launch} {e : Env} {s : State} {m : MethodId} {below : List Frame} {meth : Method} {c : Code} {b L : Nat} {xs : Nat → Int32} {H : Heap} {locs : List Loc} {cells slots : Nat} {Q : State → Prop} {dC : Nat → ClassId} {dI : Nat → Nat → Nat} {pc idx : Nat} {ls : Array Slot} {rest : List Value} {wr : va_W} {B : Nat → Nat} {E : Nat → ClassId} {M : MS} {RV : Value} {o : Option TX11_q} {qa : Nat} {qu : Nat → Nat} {qk : Nat → ClassId} (C0 : LW p l s m meth c b L xs) (hKM : KM (dC, dI) s E) (hKQ : KQ (dC, dI) s qk o) {k1 : Int32} (hH : HS (dC, dI) s (cat (wMo B E M o RV qa qu qk) wr) H locs) (hls : ls.size = 7) (hW : (rest.map fun v => v.category).sum ≤ 8) (hcs : cells ≤ 500000 ∧ slots ≤ 7000000) (hdg : decode cL_law pc = .ok (.invokevirtual idx, 3)) (hGn : GoodIn lw_tbl (wsV RL idx RX12 yX12_led vfX12_led_nul)) (hG : GoodIn lw_tbl (wsV RL idx RX12 yX12_led vfX12_led)) (r : Int32) (M' : MS) (o' : Option TX11_q) (h : gM_led k1 M o = some (r, M', o'))
    (kk : ∀ (RV : Value) (qa : Nat) (qu : Nat → Nat) (qk : Nat → ClassId) (H : Heap) (locs : List Loc), KQ (dC, dI) s qk o' → HS (dC, dI) s (cat (wMo B E M' o' RV qa qu qk) wr) H locs → W p l e room_1 s m #[Value.ref b] below meth c H locs cells slots Q (F0 m (pc + 3) ls (.int r :: rest))) : W p l e room_1 s m #[Value.ref b] below meth c H locs cells slots Q (F0 m pc ls (.int k1 :: .ref (B 0) :: rest)) := by
  cases o with
  | none =>
    rw [gM_led] at h
    obtain ⟨out, hf, e0⟩ := Option.map_eq_some_iff.mp h
    obtain ⟨e1, e2⟩ := Prod.mk.inj e0
    obtain ⟨e2, e3⟩ := Prod.mk.inj e2
    subst e1
    subst e2
    subst e3
    exact cm_led_nul C0 hKM hH hls hW hcs hdg hGn out hf (fun H locs hH => kk RV qa qu qk H locs hKQ hH)
  | some q =>
    rw [gM_led] at h
    obtain ⟨out, hf, e0⟩ := Option.map_eq_some_iff.mp h
    obtain ⟨e1, e2⟩ := Prod.mk.inj e0
    obtain ⟨e2, e3⟩ := Prod.mk.inj e2
    subst e1
    subst e2
    subst e3
    exact cm_led hKQ C0 hKM hH hls hW hcs hdg hG out hf (fun H locs hH => kk RV qa qu qk H locs hKQ hH)
def gM_size (k1 : Int32) (M : MS) : Option TX11_q → Option (Int32 × MS × Option TX11_q)
  | none => (some (f_X12_size_nul k1 M.1 M.2.1)).map (fun (out : (Int32 × TX12_t)) => (out.1, (out.2, M.2.1, M.2.2.1, M.2.2.2.1, M.2.2.2.2.1, M.2.2.2.2.2.1, M.2.2.2.2.2.2.1, M.2.2.2.2.2.2.2), none))
  | some q => (some (f_X12_size k1 M.1 M.2.1 M.2.2.1 M.2.2.2.2.1 q)).map (fun (out : (Int32 × TX12_t)) => (out.1, (out.2, M.2.1, M.2.2.1, M.2.2.2.1, M.2.2.2.2.1, M.2.2.2.2.2.1, M.2.2.2.2.2.2.1, M.2.2.2.2.2.2.2), some q))
set_option maxHeartbeats 1000000 in
theorem cn_size {p : Program} {l : Launch} {e : Env} {s : State} {m : MethodId} {below : List Frame} {meth : Method} {c : Code} {b L : Nat} {xs : Nat → Int32} {H : Heap} {locs : List Loc} {cells slots : Nat} {Q : State → Prop} {dC : Nat → ClassId} {dI : Nat → Nat → Nat} {pc idx : Nat} {ls : Array Slot} {rest : List Value} {wr : va_W} {B : Nat → Nat} {E : Nat → ClassId} {M : MS} {RV : Value} {o : Option TX11_q} {qa : Nat} {qu : Nat → Nat} {qk : Nat → ClassId} (C0 : LW p l s m meth c b L xs) (hKM : KM (dC, dI) s E) (hKQ : KQ (dC, dI) s qk o) {k1 : Int32} (hH : HS (dC, dI) s (cat (wMo B E M o RV qa qu qk) wr) H locs) (hls : ls.size = 7) (hW : (rest.map fun v => v.category).sum ≤ 8) (hcs : cells ≤ 500000 ∧ slots ≤ 7000000) (hdg : decode cL_law pc = .ok (.invokevirtual idx, 3)) (hGn : GoodIn lw_tbl (wsV RL idx RX12 yX12_size vfX12_size_nul)) (hG : GoodIn lw_tbl (wsV RL idx RX12 yX12_size vfX12_size)) (r : Int32) (M' : MS) (o' : Option TX11_q) (h : gM_size k1 M o = some (r, M', o'))
    (kk : ∀ (RV : Value) (qa : Nat) (qu : Nat → Nat) (qk : Nat → ClassId) (H : Heap) (locs : List Loc), KQ (dC, dI) s qk o' → HS (dC, dI) s (cat (wMo B E M' o' RV qa qu qk) wr) H locs → W p l e room_1 s m #[Value.ref b] below meth c H locs cells slots Q (F0 m (pc + 3) ls (.int r :: rest))) : W p l e room_1 s m #[Value.ref b] below meth c H locs cells slots Q (F0 m pc ls (.int k1 :: .ref (B 0) :: rest)) := by
  cases o with
  | none =>
    rw [gM_size] at h
    obtain ⟨out, hf, e0⟩ := Option.map_eq_some_iff.mp h
    obtain ⟨e1, e2⟩ := Prod.mk.inj e0
    obtain ⟨e2, e3⟩ := Prod.mk.inj e2
    subst e1
    subst e2
    subst e3
    exact cm_size_nul C0 hKM hH hls hW hcs hdg hGn out (Option.some.inj hf) (fun H locs hH => kk RV qa qu qk H locs hKQ hH)
  | some q =>
    rw [gM_size] at h
    obtain ⟨out, hf, e0⟩ := Option.map_eq_some_iff.mp h
    obtain ⟨e1, e2⟩ := Prod.mk.inj e0
    obtain ⟨e2, e3⟩ := Prod.mk.inj e2
    subst e1
    subst e2
    subst e3
    exact cm_size hKQ C0 hKM hH hls hW hcs hdg hG out (Option.some.inj hf) (fun H locs hH => kk RV qa qu qk H locs hKQ hH)
def gM_trouble (M : MS) (o : Option TX11_q) : Option (Int32 × MS × Option TX11_q) := (some (f_X12_trouble M.1)).map (fun (out : (Int32 × TX12_t)) => (out.1, (out.2, M.2.1, M.2.2.1, M.2.2.2.1, M.2.2.2.2.1, M.2.2.2.2.2.1, M.2.2.2.2.2.2.1, M.2.2.2.2.2.2.2), o))
set_option maxHeartbeats 1000000 in
theorem cn_trouble {p : Program} {l : Launch} {e : Env} {s : State} {m : MethodId} {below : List Frame} {meth : Method} {c : Code} {b L : Nat} {xs : Nat → Int32} {H : Heap} {locs : List Loc} {cells slots : Nat} {Q : State → Prop} {dC : Nat → ClassId} {dI : Nat → Nat → Nat} {pc idx : Nat} {ls : Array Slot} {rest : List Value} {wr : va_W} {B : Nat → Nat} {E : Nat → ClassId} {M : MS} {RV : Value} {o : Option TX11_q} {qa : Nat} {qu : Nat → Nat} {qk : Nat → ClassId} (C0 : LW p l s m meth c b L xs) (hKM : KM (dC, dI) s E) (hKQ : KQ (dC, dI) s qk o) (hH : HS (dC, dI) s (cat (wMo B E M o RV qa qu qk) wr) H locs) (hls : ls.size = 7) (hW : (rest.map fun v => v.category).sum ≤ 8) (hcs : cells ≤ 500000 ∧ slots ≤ 7000000) (hdg : decode cL_law pc = .ok (.invokevirtual idx, 3)) (hG : GoodIn lw_tbl (wsV RL idx RX12 yX12_trouble vfX12_trouble)) (r : Int32) (M' : MS) (o' : Option TX11_q) (h : gM_trouble M o = some (r, M', o'))
    (kk : ∀ (RV : Value) (qa : Nat) (qu : Nat → Nat) (qk : Nat → ClassId) (H : Heap) (locs : List Loc), KQ (dC, dI) s qk o' → HS (dC, dI) s (cat (wMo B E M' o' RV qa qu qk) wr) H locs → W p l e room_1 s m #[Value.ref b] below meth c H locs cells slots Q (F0 m (pc + 3) ls (.int r :: rest))) : W p l e room_1 s m #[Value.ref b] below meth c H locs cells slots Q (F0 m pc ls (.ref (B 0) :: rest)) := by
  rw [gM_trouble] at h
  obtain ⟨out, hf, e0⟩ := Option.map_eq_some_iff.mp h
  obtain ⟨e1, e2⟩ := Prod.mk.inj e0
  obtain ⟨e2, e3⟩ := Prod.mk.inj e2
  subst e1
  subst e2
  subst e3
  exact cm_trouble C0 hKM hH hls hW hcs hdg hG out (Option.some.inj hf) (fun H locs hH => kk RV qa qu qk H locs hKQ hH)
