/-! A made exception whose own <init>(String) links its super's by another entry than 7: the road of the library's ctorThrowS, its chain begun by one pass more; the cell's class and kind are all that is told of it. -/
def ox_atoms (own : String) (ic : Nat) (X Y : String) (r : List String) (idx : Nat) (bytes : ByteArray) : List Cond :=
  Bundle.throwableAtoms ++ Bundle.throwableSAtoms ++ (Bundle.passSAtoms X Y idx bytes ++ Bundle.chainSAtoms Y r) ++
  [.methodLink own ic (Bundle.initS X), .instantiable X 6, .castable X X, .selects X Bundle.tFill0 Bundle.tFill0, .selects X Bundle.tFill Bundle.tFill,
   .lays X Bundle.tN "cause" "Ljava/lang/Throwable;", .lays X Bundle.tN "stackTrace" Bundle.steD, .lays X Bundle.tN "suppressedExceptions" Bundle.listD, .lays X Bundle.tN "detailMessage" "Ljava/lang/String;",
   .isRef (.static Bundle.tN "UNASSIGNED_STACK" Bundle.steD), .isRef (.static Bundle.tN "SUPPRESSED_SENTINEL" Bundle.listD),
   .fieldLink Bundle.tN 198 Bundle.tN "backtrace" "Ljava/lang/Object;", .lays Bundle.tN Bundle.tN "backtrace" "Ljava/lang/Object;", .lays X Bundle.tN "backtrace" "Ljava/lang/Object;"]
def ox_at (own : String) (ic : Nat) (X Y : String) (r : List String) (idx : Nat) (bytes : ByteArray) : List Cond := (ox_atoms own ic X Y r idx bytes).filter vx_no
section OX
variable {p : Program} {l : Launch} {e : Env} {R : Room} {s : State} {m₀ : MethodId} {args : Array Value} {below : List Frame} {meth : Method} {c : Code} {Wt : State} {locs : List Loc} {cells slots : Nat}
set_option maxHeartbeats 2000000 in
theorem ox_ctor (X : Stand p l e R s m₀ args below meth c Wt locs cells slots) (hexec : p.tables.exec = Jvm.exec) (htr : e.platform.stackTraces = false) {own cls Y0 : String} {names : List String} {ic idx : Nat} {bytes : ByteArray}
    (hown : s.vm.findClass own = some m₀.cls) (hcls : Bundle.fit cls = true) (hY0 : Bundle.fit Y0 = true) (hnames : ∀ n ∈ names, Bundle.fit n = true)
    (b0 : decode bytes 0 = .ok (.aload_n 0, 1)) (b1 : decode bytes 1 = .ok (.aload_n 1, 1)) (b2 : decode bytes 2 = .ok (.invokespecial idx, 3)) (b5 : decode bytes 5 = .ok (.return_, 1))
    (h : ∀ a ∈ ox_atoms own ic cls Y0 names idx bytes, a.before args s = true)
    (hlocs : ∀ x ∈ locs, ∀ cell, s.heap[x.base]? = some cell → cell.vm.isStatics = false)
    {a : Addr} {cX : ClassId} {kX : Class} (hfoundX : s.vm.findClass cls = some cX) (hkX : s.vm.classes[cX]? = some kX) (hcell : Wt.heap[a]? = some (freshCell cX kX)) (hnew : s.heap.size ≤ a)
    {msg : Value} (hmsg : msg.isRef = true)
    {g : JFrame} (hg : g.method = m₀) (hsize : g.locals.size = c.maxLocals) (hlocked : g.locked = none) (hentered : g.entered = []) {rest : List Value} (hstack : g.stack = msg :: .ref a :: .ref a :: rest)
    (hd6 : decode c.code g.pc = .ok (.invokespecial ic, 3)) (hd9 : decode c.code (g.pc + 3) = .ok (.athrow, 1)) (hout : ∀ x ∈ c.exceptionTable.toList, covers x (g.pc + 3) = false)
    (hRframes : names.length + 4 < R.frames) (hRlocals : 2 * g.monitorRoom + ((Value.ref a :: rest).map fun v => v.category).sum + (13 * (names.length + 2) + 42) ≤ R.locals) (hlocks : meth.locks = false) :
    ∃ U : State, Steps p.tables e below (Wt.setTop g) U ∧ U.status = .running ∧ Ended U below (.threw a) ∧ s.WarmedH U.vm ∧ s.sameButNew ({ U with vm := s.vm } : State) locs cells slots ∧
      ∃ ce, U.heap[a]? = some ce ∧ s.vm.findClass cls = some ce.cls ∧ ce.vm = .none := by
  have howns : e.platform.frameOwnsMonitors = true := by rw [X.admits.platform]
  have hfin : e.platform.finalization = false := by rw [X.admits.platform]
  have hpl : e.platform.magicAccessors = ({} : Platform).magicAccessors := by rw [X.admits.platform]
  have a' : ∀ x, x ∈ ox_atoms own ic cls Y0 names idx bytes → x.holds args s none s [] = true := fun x hx => h x hx
  obtain ⟨T, Z0, L, -, Y⟩ := ThrowableC.of_atoms (args := args) howns hfin hpl (fun x hx => h x (by simp [ox_atoms, hx]))
  obtain ⟨Z, M, LZ, LM, hnZ⟩ := Init0T.ofS_atoms (args := args) hpl L Y (fun x hx => h x (by simp [ox_atoms, hx]))
  obtain ⟨P1, L1, hP1m, hP1s⟩ := PassC.ofS_atoms (args := args) (s := s) hpl (X := cls) (Y := Y0) (Bundle.fit_spec hcls).1 (Bundle.fit_spec hY0).2 b0 b1 b2 b5 (fun x hx => h x (by simp [ox_atoms, hx]))
  obtain ⟨P2, Ps, hlen, L2, hL, hP2m, hlink1, hlink⟩ := Bundle.chainS (args := args) hpl hnZ names Y0 hY0 hnames (fun x hx => h x (by simp [ox_atoms, hx]))
  have hsup12 : P1.sup = P2.m := Option.some.inj (hP1s.symm.trans hP2m)
  have hfound : s.vm.findClass cls = some P1.m.cls := findClass_of_methodNamed hP1m
  cases Option.some.inj (hfoundX.symm.trans hfound)
  obtain ⟨c1, kX', hc1, hk, hord, -, -, hn6⟩ := Cond.instantiable_spec (a' (.instantiable cls 6) (by simp [ox_atoms]))
  cases Option.some.inj (hc1.symm.trans hfound)
  cases Option.some.inj (hkX.symm.trans hk)
  have hsel0 : selectMethod e.platform s.vm P1.m.cls T.fill0 = .method T.fill0 := by
    obtain ⟨c2, r2, m2, q1, q2, q3, q4, -⟩ := Cond.selects_spec (a' (.selects cls Bundle.tFill0 Bundle.tFill0) (by simp [ox_atoms]))
    cases Option.some.inj (q1.symm.trans hfound)
    cases Option.some.inj (q2.symm.trans (State.methodFound?_of_named Y.fill0 (by decide)))
    cases Option.some.inj (q3.symm.trans Y.fill0)
    rw [Launch.admits_selectMethod X.admits]; exact q4
  have hselF : selectMethod e.platform s.vm P1.m.cls T.fill = .method T.fill := by
    obtain ⟨c2, r2, m2, q1, q2, q3, q4, -⟩ := Cond.selects_spec (a' (.selects cls Bundle.tFill Bundle.tFill) (by simp [ox_atoms]))
    cases Option.some.inj (q1.symm.trans hfound)
    cases Option.some.inj (q2.symm.trans (State.methodFound?_of_named Y.fill (by decide)))
    cases Option.some.inj (q3.symm.trans Y.fill)
    rw [Launch.admits_selectMethod X.admits]; exact q4
  obtain ⟨cellS0, hcS0, hiss⟩ := Y.statics
  obtain ⟨u0, hu0⟩ := Cond.staticRefV Y.unassigned L.unassignedStatic L.statics hcS0 hiss (a' (.isRef (.static Bundle.tN "UNASSIGNED_STACK" Bundle.steD)) (by simp [ox_atoms]))
  obtain ⟨sen, hsen⟩ := Cond.staticRefV Y.sentinel L.sentinelStatic L.statics hcS0 hiss (a' (.isRef (.static Bundle.tN "SUPPRESSED_SENTINEL" Bundle.listD)) (by simp [ox_atoms]))
  obtain ⟨ci198, i198, fB, hk198, hg198, ha198, hsB, -, hnB, htB, hffB⟩ := Cond.ownField (t := .object "java/lang/Object") Y.found L.cls (by decide +kernel) (a' (.fieldLink Bundle.tN 198 Bundle.tN "backtrace" "Ljava/lang/Object;") (by simp [ox_atoms])) (a' (.lays Bundle.tN Bundle.tN "backtrace" "Ljava/lang/Object;") (by simp [ox_atoms])) e.platform hpl
  obtain ⟨cellS, hcS', heS, -, hkeep⟩ := X.same.2.2.2.2.2 T.aS cellS0 hcS0
  have hcellS : Wt.heap[T.aS]? = some cellS := hcS'
  have hout' : ∀ i, (⟨T.aS, i⟩ : Loc) ∉ locs := fun i hmem => by
    have := hlocs _ hmem cellS0 hcS0
    rw [hiss] at this; cases this
  have hknownS : cellS.vm ≠ .unknown := by
    rw [heS]; intro hu
    rw [show cellS0.vm = .unknown from hu] at hiss
    cases hiss
  have hneS : T.aS ≠ a := Nat.ne_of_lt (Nat.lt_of_lt_of_le (Array.getElem?_eq_some_iff.mp hcS0).1 hnew)
  obtain ⟨iM, hffM⟩ := Y.msg
  obtain ⟨tyC, dC, hdC, hdnC⟩ := Cond.laysAt hfound hk Y.cause (a' (.lays cls Bundle.tN "cause" "Ljava/lang/Throwable;") (by simp [ox_atoms]))
  obtain ⟨tyS, dS, hdS, hdnS⟩ := Cond.laysAt hfound hk Y.stack (a' (.lays cls Bundle.tN "stackTrace" Bundle.steD) (by simp [ox_atoms]))
  obtain ⟨tyP, dP, hdP, hdnP⟩ := Cond.laysAt hfound hk Y.supp (a' (.lays cls Bundle.tN "suppressedExceptions" Bundle.listD) (by simp [ox_atoms]))
  obtain ⟨tyM, dM, hdM, hdnM⟩ := Cond.laysAt hfound hk hffM (a' (.lays cls Bundle.tN "detailMessage" "Ljava/lang/String;") (by simp [ox_atoms]))
  obtain ⟨tyB, dB, hdB, hdnB⟩ := Cond.laysAt hfound hk hffB (a' (.lays cls Bundle.tN "backtrace" "Ljava/lang/Object;") (by simp [ox_atoms]))
  have bC := Cond.laysApart hdB hdC hdnB hdnC (by rw [hnB, Y.causeName]; decide)
  have bS := Cond.laysApart hdB hdS hdnB hdnS (by rw [hnB, Y.stackName]; decide)
  have bP := Cond.laysApart hdB hdP hdnB hdnP (by rw [hnB, Y.suppName]; decide)
  have hskip : SkipFacts T e.platform s (fun u => u) u0 ((preparedCellV T.toThrowableT (freshCell P1.m.cls kX) a u0 sen).withEntry Wt.cur) :=
    ⟨{ ci198 := ci198, i198 := i198, fBack := fB }, ⟨hk198, hg198, ha198, hsB⟩, by
      have := fresh_default (c := P1.m.cls) tyB
      rw [htB] at this
      simpa [preparedCellV, Cell.setSlot, Cell.withEntry, Array.getElem?_setIfInBounds, bC, bS, bP, bC.symm, bS.symm, bP.symm, defaultValue] using this, fun _ _ => rfl⟩
  obtain ⟨tm, methC, cdC, kC, vm₁, hnC, -, -, -, -, -, -, -, hW₁, st1⟩ := Steps.initColdS (tb := p.tables) (e := e) (below := below) (s := s) (U := Wt) X.here hexec X.warmed hpl hown (t := Bundle.initS cls) rfl rfl (Bundle.fit_spec hcls).2
    (a' (.methodLink own ic (Bundle.initS cls)) (by simp [ox_atoms])) (h (.instanceMethod (Bundle.initS cls)) (by simp [ox_atoms, Bundle.passSAtoms])) (bytes := bytes) (maxL := 2) (h (.code (Bundle.initS cls) bytes 2 none) (by simp [ox_atoms, Bundle.passSAtoms]))
    (f := g) hg (a := a) (msg := msg) (rest := .ref a :: rest) hstack hd6
  cases Option.some.inj (hnC.symm.trans hP1m)
  have X₁ := X.noted hW₁
  obtain ⟨vm₂, X₂, st2⟩ := X₁.ctorMessageOffV hexec (g := { g with stack := .ref a :: rest }) hg hsize T L Z LZ M LM (P1 :: P2 :: Ps)
    (fun P hP => by
      rcases List.mem_cons.mp hP with rfl | hP
      · exact L1
      · rcases List.mem_cons.mp hP with rfl | hP
        · exact L2
        · exact hL P hP) ⟨hsup12, hlink1, hlink⟩ (u0 := u0) (sen := sen) (self := a) hmsg (cell := freshCell P1.m.cls kX) (cellS := cellS)
    hcell (fun _ => by simp) (by simp) rfl rfl hsel0 hselF hcellS hneS hknownS (by rw [hkeep _ (hout' _)]; exact hu0) (by rw [hkeep _ (hout' _)]; exact hsen)
    (Takes.of_laid hk hord tyC (by rw [Y.causeType]; rfl)) (Takes.of_laid hk hord tyS (by rw [Y.stackType]; exact fits_refV_array _ u0)) (Takes.of_laid hk hord tyP (by rw [Y.suppType]; exact fits_refV_object _ sen))
    (Takes.of_laid hk hord tyM (by rw [Y.msgType]; exact fits_refV_object _ ⟨msg, hmsg⟩)) Y.objLocals hskip htr [] hd6
    (by simp only [List.length_cons, hlen]; omega) (by simp only [List.length_cons, hlen]; exact hRlocals)
  obtain ⟨hwalk, hrun, hended, hWU, hsame⟩ := X₂.athrowLeaves hexec (g := { g with stack := .ref a :: rest, pc := g.pc + 3 }) hg hlocked hentered hout (a := a) (rest := rest) rfl hd9
  have hlt : a < ((Wt.setVm vm₁).setVm vm₂).heap.size := (Array.getElem?_eq_some_iff.mp hcell).1
  have hU := heapAt_setCell_self (s := (Wt.setVm vm₁).setVm vm₂) (plainBareV T.toThrowableT (freshCell P1.m.cls kX) a u0 sen msg) hlt
  refine ⟨_, st1 _ (fun acts => ?_), hrun, hended, hWU, hsame.weaken (fun y hy hlt' => ?_) (Nat.le_refl _) (Nat.le_refl _), _, hU, hfound, rfl⟩
  · rw [doInvoke_state]
    exact st2 _ hwalk
  · rcases List.mem_append.mp hy with h1 | h1
    · exact h1
    · exfalso
      have hb : y.base = a := by
        simp only [List.mem_cons, List.not_mem_nil, or_false] at h1
        rcases h1 with rfl | rfl | rfl | rfl | rfl <;> rfl
      rw [hb] at hlt'
      exact Nat.not_lt.mpr hnew hlt'
end OX
section OXW
variable {p : Program} {l : Launch} {e : Env} {R : Room} {s : State} {m : MethodId} {args : Array Value} {below : List Frame} {meth : Method} {c : Code} {H : Heap} {locs : List Loc} {cells slots : Nat} {free : Addr → Prop} {ls : Array Slot} {rest : List Value} {Qc : Array Value → State → Outcome → State → Prop} {XC : String → State → State → Prop}
set_option maxHeartbeats 2000000 in
/-- new, dup, ldc_w, <init>(String), athrow of such an exception -/
theorem ox_throw {cc : ByteArray} {pc : Nat} (hexec : p.tables.exec = Jvm.exec) (hb : c.code = cc) (hl : l.stackTraces = false) {own cls Y0 text : String} {names : List String} {ik is ic idx mc ms sa : Nat} {bytes : ByteArray} {A : Nat → Prop}
    (hown : s.vm.findClass own = some m.cls) (hcls : Bundle.fit cls = true) (hY0 : Bundle.fit Y0 = true) (hnames : ∀ n ∈ names, Bundle.fit n = true)
    (b0 : decode bytes 0 = .ok (.aload_n 0, 1)) (b1 : decode bytes 1 = .ok (.aload_n 1, 1)) (b2 : decode bytes 2 = .ok (.invokespecial idx, 3)) (b5 : decode bytes 5 = .ok (.return_, 1))
    (hk : (Cond.classLink own ik cls).before args s = true) (hini : (Cond.initialized cls).before args s = true) (hstr : vk_R own is text sa s) (hat : ∀ w ∈ ox_at own ic cls Y0 names idx bytes, w.before args s = true)
    (hgood : ∀ w ∈ Cond.classLink own ik cls :: Cond.initialized cls :: ox_at own ic cls Y0 names idx bytes, vx_ot w = true)
    (hU : vx_Zq Bundle.tN "UNASSIGNED_STACK" Bundle.steD A s s.heap) (hN : vx_Zq Bundle.tN "SUPPRESSED_SENTINEL" Bundle.listD A s s.heap) (hS : va_S A s.heap H locs) (hsize : ls.size = c.maxLocals)
    (d0 : decode cc pc = .ok (.new ik, 3)) (d3 : decode cc (pc + 3) = .ok (.dup, 1)) (d4 : decode cc (pc + 4) = .ok (.ldc_w is, 3)) (d7 : decode cc (pc + 7) = .ok (.invokespecial ic, 3)) (d10 : decode cc (pc + 10) = .ok (.athrow, 1))
    (hout : ∀ x ∈ c.exceptionTable.toList, covers x (pc + 10) = false)
    (hRframes : names.length + 4 < R.frames) (hRlocals : (rest.map fun v => v.category).sum + (13 * (names.length + 2) + 43) ≤ R.locals) (hRcells : cells + 1 ≤ R.cells) (hRslots : slots + 6 ≤ R.slots) (hlocks : meth.locks = false)
    (hx : ∀ t : State, s.vm.Alike t.vm → H.size ≤ t.heap.size → (∀ q : Nat, q < H.size → t.heap[q]? = H[q]?) → XC cls s t)
    (hf : ∀ z ∈ locs, free z.base) (hc : cells + 1 ≤ mc) (hs : slots + 6 ≤ ms) :
    W p l e R s m args below meth c H locs cells slots (vx_MQ below Qc XC args s mc ms free) (F0 m pc ls rest) := by
  intro T hT X
  have htr : e.platform.stackTraces = false := (show e.platform.stackTraces = l.stackTraces by rw [X.admits.platform]).trans hl
  have Y := vx_rebase X (R' := { frames := R.frames, locals := R.locals, cells := 1, slots := 6 }) (Nat.le_refl _) (Nat.le_refl _) hRcells hRslots
  obtain ⟨s', hA⟩ : ∃ z, z = (T.setVm s.vm).setFrames (.invoking m args :: below) := ⟨_, rfl⟩
  rw [← hA] at Y
  have hvm : s'.vm = s.vm := by rw [hA]; rfl
  have hhp : s'.heap = H := by rw [hA]; exact hT
  have hW0 : s.WarmedH s'.vm := by rw [hvm]; exact State.WarmedH.refl s
  have hat' : ∀ w ∈ ox_at own ic cls Y0 names idx bytes, w.before args s' = true := fun w hw => vx_ot_at hW0 hvm.symm (hgood w (List.mem_cons_of_mem _ (List.mem_cons_of_mem _ hw))) (hat w hw)
  have hk' : (Cond.classLink own ik cls).before args s' = true := vx_ot_at hW0 hvm.symm (hgood _ List.mem_cons_self) hk
  have hini' : (Cond.initialized cls).before args s' = true := vx_ot_at hW0 hvm.symm (hgood _ (List.mem_cons_of_mem _ List.mem_cons_self)) hini
  have hU' : vx_Zq Bundle.tN "UNASSIGNED_STACK" Bundle.steD A s' s'.heap := by rw [hhp]; exact vx_Zq.moved hW0.alike (hU.kept hS.2.1)
  have hN' : vx_Zq Bundle.tN "SUPPRESSED_SENTINEL" Bundle.listD A s' s'.heap := by rw [hhp]; exact vx_Zq.moved hW0.alike (hN.kept hS.2.1)
  have h : ∀ w ∈ ox_atoms own ic cls Y0 names idx bytes, w.before args s' = true := vx_own hat' (vx_isRefq hU'.1) (vx_isRefq hN'.1) hU'.2.word hN'.2.word
  have hown' : s'.vm.findClass own = some m.cls := by rw [hvm]; exact hown
  have hins : (Cond.instantiable cls 6).before args s' = true := h _ (by simp [ox_atoms])
  obtain ⟨vm₁, cX, kX, hfX, hkX, -, -, X₁, st1⟩ := Y.newCold hexec (own := own) (C := cls) (index := ik) (n := 6) hown' hk' hins hini'
    (g := F0 m pc ls rest) rfl (by rw [hb]; exact d0) (Nat.le_refl _) (Nat.le_refl _)
  generalize hT1 : (T.setVm vm₁).pushCell { cls := cX, slots := kX.instanceTypes.map defaultValue, vm := .none } = T1 at X₁ st1
  have hcat : (Value.ref T.heap.size).category = 1 := rfl
  have hcellA : T1.heap[T.heap.size]? = some (freshCell cX kX) := by rw [← hT1]; exact State.heap_pushCell_size _ _
  have d3' : decode c.code (pc + 3) = .ok (.dup, 1) := by rw [hb]; exact d3
  have d4' : decode c.code (pc + 4) = .ok (.ldc_w is, 3) := by rw [hb]; exact d4
  have hstr' : vk_R own is text sa s' := vk_R.warm hW0 hstr
  obtain ⟨U, hsteps, hrun, hend, hW, hsame, ce, hce, hO1, hO2⟩ := ox_ctor X₁ hexec htr (own := own) (cls := cls) (Y0 := Y0) (names := names) (ic := ic) (idx := idx) (bytes := bytes) hown' hcls hY0 hnames b0 b1 b2 b5 h (fun x hx => nomatch hx) hfX hkX hcellA (by rw [hhp, hT]; exact Nat.le_refl _) (msg := .ref sa) rfl
    (g := { method := m, pc := pc + 7, locals := ls, stack := .ref sa :: .ref T.heap.size :: .ref T.heap.size :: rest, locked := none }) rfl hsize rfl rfl (rest := rest) rfl
    (by rw [hb]; exact d7) (by rw [hb]; exact d10) hout hRframes (by simp only [List.map_cons, List.sum_cons, hcat]; have h0 : JFrame.monitorRoom { method := m, pc := pc + 7, locals := ls, stack := .ref sa :: .ref T.heap.size :: .ref T.heap.size :: rest, locked := none } = 0 := rfl; omega) hlocks
  obtain ⟨f1, f2⟩ := vx_frame hsame
  rw [hhp] at f1 f2
  have hWs : s.WarmedH U.vm := State.WarmedH.trans hW0 hW
  have hcl : s.vm.findClass cls = some ce.cls := by
    rw [hvm] at hO1
    exact hO1
  have hall : s.sameButNew ({ U with vm := s.vm } : State) locs mc ms := by
    subst hA
    obtain ⟨e1, e2⟩ := hsame
    rw [State.setFrames_setFrames] at e1
    have h2 : (T.setVm s.vm).sameButNew ({ U with vm := s.vm } : State) [] (0 + 1) (0 + 6) := ⟨e1, e2⟩
    have h3 := X.same.trans h2
    rw [List.append_nil] at h3
    exact h3.mono hc hs
  refine ⟨U, ?_, .threw T.heap.size, hrun, hend, Or.inr ⟨T.heap.size, rfl, cls, ce, locs, hx U hWs.alike f1 (fun q hq => f2 q hq (fun z hz => nomatch hz)), hce, hO2, hcl, hWs, hall, hf⟩⟩
  refine st1 _ ?_
  show Steps p.tables e below (T1.setTop { method := m, pc := pc + 3, locals := ls, stack := .ref T.heap.size :: rest, locked := none }) _
  jvm_step X₁.here [X₁.here.top, hexec, d3', Value.category]
  exact X₁.ldcStringW hexec (own := own) (text := text) (index := is) (a := sa) hown' hstr'.1 hstr'.2
    (g := { method := m, pc := pc + 4, locals := ls, stack := .ref T.heap.size :: .ref T.heap.size :: rest, locked := none }) rfl d4' _ hsteps
end OXW
def ledB : List Cond := (ox_at RX10 375 "java/util/NoSuchElementException" "java/lang/RuntimeException" ["java/lang/Exception"] 13 prog_29_method_4_code).filter (fun w => !goodWord w)
def oxG : List Cond := (ox_at RX10 375 "java/util/NoSuchElementException" "java/lang/RuntimeException" ["java/lang/Exception"] 13 prog_29_method_4_code).filter goodWord
def ledCD : Cond → Bool
  | .castable _ _ => true
  | .declares _ => true
  | _ => false
theorem ledB_cd : ledB.all ledCD = true := by decide +kernel
theorem ledB_tab : ledB.all (fun w => w.onTables) = true := by decide +kernel
theorem led_warm {w : Cond} (hn : ledCD w = true) {s U : State} (hW : s.WarmedH U.vm) (h : va_Nw w s) : va_Nw w U := by
  cases w <;> first
    | exact va_Nw.warmC hW h
    | exact va_Nw.warmD hW h
    | exact absurd hn (by simp [ledCD])
/-- words of the exception's class that a word list cannot hold -/
def LB (U : State) : Prop := ∀ w ∈ ledB, va_Nw w U
theorem LB.warm {s U : State} (hW : s.WarmedH U.vm) (h : LB s) : LB U := fun w hw => led_warm (List.all_eq_true.mp ledB_cd w hw) hW (h w hw)
theorem LB.same {u U : State} (hv : u.vm = U.vm) (h : LB u) : LB U := fun w hw => va_Nw.same (List.all_eq_true.mp ledB_tab w hw) hv (h w hw)
def PCZ (D : va_G) (As : List Value) (sz : Nat) (ws : va_W) (tys : List (ClassId × FieldType)) : Array Value → State → Prop := va_Pc As (fun U => U.heap.size = sz ∧ va_P D vwCl ws U.heap ∧ va_K D vwCl tys U ∧ va_D (fun _ => True) ws ∧ NW U ∧ vx_Zq Bundle.tN "UNASSIGNED_STACK" Bundle.steD (va_A ws sz) U U.heap ∧ vx_Zq Bundle.tN "SUPPRESSED_SENTINEL" Bundle.listD (va_A ws sz) U U.heap ∧ LB U)
theorem PCZ_blind {D : va_G} {As : List Value} {sz : Nat} {ws : va_W} {tys : List (ClassId × FieldType)} : FrameBlind (PCZ D As sz ws tys) := fun a U g mk q => by
  obtain ⟨q0, q1, qP, qK, qD, qN, qU, qV, qL⟩ := q
  exact ⟨q0, q1, qP, va_K.moved (u := U) (U := U.calling g mk a) (Vm.Alike.refl U.vm) qK, qD, NW.same (u := U) (U := U.calling g mk a) rfl qN, vx_Zq.moved (u := U) (U := U.calling g mk a) (Vm.Alike.refl U.vm) qU, vx_Zq.moved (u := U) (U := U.calling g mk a) (Vm.Alike.refl U.vm) qV, LB.same (u := U) (U := U.calling g mk a) rfl qL⟩
theorem PSZ {s : State} {H : Heap} {D : va_G} {ws : va_W} {tys : List (ClassId × FieldType)} {A : Nat → Prop} {As : List Value} (hP : va_P D vwCl ws H) (hK : va_K D vwCl tys s) (hD : va_D A ws) (hN : NW s) (hF : ∀ q, va_A ws H.size q → A q) (hU : vx_Zq Bundle.tN "UNASSIGNED_STACK" Bundle.steD A s H) (hV : vx_Zq Bundle.tN "SUPPRESSED_SENTINEL" Bundle.listD A s H) (hL : LB s) : PreS s H (PCZ D As H.size ws tys) As :=
  ⟨PCZ_blind, fun U hU0 hW => ⟨rfl, by rw [hU0], by rw [hU0]; exact hP, va_K.moved hW.alike hK, hD.weaken (fun _ _ _ _ => trivial), NW.warm hW hN, by rw [hU0]; exact vx_Zq.moved hW.alike (vx_Zq.narrow hU hF), by rw [hU0]; exact vx_Zq.moved hW.alike (vx_Zq.narrow hV hF), LB.warm hW hL⟩⟩
theorem PVZ {s : State} {H : Heap} {D : va_G} {ws : va_W} {tys : List (ClassId × FieldType)} {A : Nat → Prop} {As : List Value} (hP : va_P D vwCl ws H) (hK : va_K D vwCl tys s) (hD : va_D A ws) (hN : NW s) (hF : ∀ q, va_A ws H.size q → A q) (hU : vx_Zq Bundle.tN "UNASSIGNED_STACK" Bundle.steD A s H) (hV : vx_Zq Bundle.tN "SUPPRESSED_SENTINEL" Bundle.listD A s H) (hL : LB s) (q0 : Nat) {b ci : Nat} {fs : List Value} {C : String} {T : u_T} {N : Nat} (he : ws[q0]? = some (b, .inr (ci, fs))) (hc : vwCl[ci]? = some (C, T, N)) : PreV s H C b (PCZ D (.ref b :: As) H.size ws tys) As :=
  ⟨PCZ_blind, va_recv hK hP hc he, fun U hU0 hW => ⟨rfl, by rw [hU0], by rw [hU0]; exact hP, va_K.moved hW.alike hK, hD.weaken (fun _ _ _ _ => trivial), NW.warm hW hN, by rw [hU0]; exact vx_Zq.moved hW.alike (vx_Zq.narrow hU hF), by rw [hU0]; exact vx_Zq.moved hW.alike (vx_Zq.narrow hV hF), LB.warm hW hL⟩⟩
theorem led_ot : ∀ w ∈ Cond.classLink RX10 371 "java/util/NoSuchElementException" :: Cond.initialized "java/util/NoSuchElementException" :: (ox_at RX10 375 "java/util/NoSuchElementException" "java/lang/RuntimeException" ["java/lang/Exception"] 13 prog_29_method_4_code), vx_ot w = true := by decide +kernel
def vX10_led : List Cond := .code yX10_led cX10_led 4 (some .int) :: ([.classLink RX10 371 "java/util/NoSuchElementException", .initialized "java/util/NoSuchElementException", .fieldLink RX10 10 "HookPier" "plan" "LHookPier$Plan;", .fieldLink RX10 96 "HookPier$Plan" "answers" "I", .fieldLink RX10 29 "HookPier" "now" "LHookPier$Now;", .fieldLink RX10 125 "HookPier$Now" "stage" "[I"] ++ (wsX100 ++ (wsX60 ++ (wsX40 ++ oxG))))
def vL_led : List Cond := .codeWith yL_led cL_led 4 (some .int) [(0, 9, 12, 13)] :: ([.classLink RL 13 "java/util/NoSuchElementException", .methodLink RL 7 yX10_led, .instanceMethod yX10_led, .selects RX10 yX10_led yX10_led, .initialized RX10] ++ (wsX100 ++ vX10_led))
theorem iX10_led_X10 : ∀ w ∈ wsX100, w ∈ vX10_led := fun _ h => List.mem_cons_of_mem _ (List.mem_append_right _ (List.mem_append_left _ h))
theorem iX10_led_X6 : ∀ w ∈ wsX60, w ∈ vX10_led := fun _ h => List.mem_cons_of_mem _ (List.mem_append_right _ (List.mem_append_right _ (List.mem_append_left _ h)))
theorem iX10_led_X4 : ∀ w ∈ wsX40, w ∈ vX10_led := fun _ h => List.mem_cons_of_mem _ (List.mem_append_right _ (List.mem_append_right _ (List.mem_append_right _ (List.mem_append_left _ h))))
theorem iX10_led_G : ∀ w ∈ oxG, w ∈ vX10_led := fun _ h => List.mem_cons_of_mem _ (List.mem_append_right _ (List.mem_append_right _ (List.mem_append_right _ (List.mem_append_right _ h))))
theorem qX10_led : Good vX10_led := gd_cons (by decide +kernel) (gd_app (gd_dec (by decide +kernel)) (gd_app qsX10 (gd_app qsX6 (gd_app qsX4 (gd_dec (by decide +kernel))))))
theorem gL_led_X10_led : GoodIn vL_led (wsV RL 7 RX10 yX10_led vX10_led) := goodIn_app (goodIn_r [.methodLink RL 7 yX10_led, .instanceMethod yX10_led, .selects RX10 yX10_led yX10_led, .initialized RX10] [2, 3, 4, 5] rfl (by decide +kernel)) (goodIn_m (fun _ h => List.mem_cons_of_mem _ (List.mem_append_right _ (List.mem_append_right _ h))) qX10_led)
noncomputable def zrX10_led_0 : List ZR := zc 0 true (.iconst 0) 1 (zc 1 true (.istore_n 2) 1 (zc 2 true (.iconst 0) 1 (zc 3 true (.istore_n 3) 1 (zc 4 true (.iload_n 3) 1 (zc 5 true (.aload_n 0) 1 (zc 6 true (.getfield 10) 3 (zc 9 true (.getfield 96) 3 (zc 12 true (.if_icmp .ge 31) 3 (zc 15 true (.aload_n 0) 1 (zc 16 true (.getfield 29) 3 (zc 19 true (.getfield 125) 3 (zc 22 true (.iload_n 3) 1 (zc 23 true (.iaload) 1 (zc 24 true (.ifCond .eq 13) 3 (zc 27 true (.iload_n 2) 1 (zc 28 true (.iload_n 1) 1 (zc 29 true (.if_icmp .ne 5) 3 (zc 32 true (.iload_n 3) 1 (zc 33 true (.ireturn) 1 (zc 34 true (.iinc 2 1) 3 (zc 37 true (.iinc 3 1) 3 (zc 40 true (.goto (-36)) 3 (zc 43 true (.new 371) 3 (zc 46 true (.dup) 1 (zc 47 true (.ldc_w 373) 3 (zc 50 true (.invokespecial 375) 3 (zc 53 true (.athrow) 1 ([]))))))))))))))))))))))))))))
theorem zrX10_led_0_ok : zck 0 ((zby cX10_led).drop 0) zrX10_led_0 = true := by decide +kernel
noncomputable def zrL_led_0 : List ZR := zc 0 true (.aload_n 2) 1 (zc 1 true (.iconst 0) 1 (zc 2 true (.aload_n 0) 1 (zc 3 true (.iload_n 1) 1 (zc 4 true (.invokevirtual 7) 3 (zc 7 true (.i2l) 1 (zc 8 true (.lastore) 1 (zc 9 true (.goto 6) 3 (zc 12 true (.astore_n 3) 1 (zc 13 true (.iconst 1) 1 (zc 14 true (.ireturn) 1 (zc 15 true (.iconst 0) 1 (zc 16 true (.ireturn) 1 ([])))))))))))))
theorem zrL_led_0_ok : zck 0 ((zby cL_led).drop 0) zrL_led_0 = true := by decide +kernel
/-- the one that is asked for, of those that aren't there any more; none: there is none such -/
def ledF (k1 : Int32) (st : Nat → Int32) : Nat → Nat → Int32 → Option Nat
  | 0, _, _ => none
  | c + 1, a, bf => if st a = 0 then ledF k1 st c (a + 1) bf else if bf = k1 then some a else ledF k1 st c (a + 1) (bf + 1)
set_option maxHeartbeats 1000000 in
set_option maxRecDepth 100000 in
theorem kX10_led (l : Launch) (hl0 : l.stackTraces = false) (dC : Nat → ClassId) (dI : Nat → Nat → Nat) (a0 : Nat) (k1 : Int32) (a2 a4 : Nat) (up : Nat → Nat) (kp : Nat → ClassId) (un : Nat → Nat) (kn : Nat → ClassId) (g3 : Value) (g4 : Value) (g5 : Value) (g6 : Value) (g7 : Value) (g8 : Value) (g9 : Value) (g10 : Value) (p_p : TX6_p) (n_n : TX4_n) (an : Nat) (hp : p_p.2.2.2.2.2.2.1 = nI an) (han : an ≤ 6) (out : Option Nat) (hf : ledF k1 n_n.2.2.2.1 an 0 0 = out) (sz : Nat) : vx_Met l yX10_led vX10_led ({ frames := 8, cells := 1, slots := 6, locals := 100 }) (PCZ (dC, dI) [.ref a0, .int k1] sz ((a0, .inr (7, [.ref a2, g3, g4, .ref a4, g5, g6, g7, g8, g9, g10])) :: bX6 a2 up kp p_p (bX4 a4 un kn n_n [])) (tX6 kp (tX4 kn []))) (va_Qi (S := Unit) (fun (r : Int32) _ => ∃ a, a < 6 ∧ out = some a ∧ r = nI a) (fun _ t => BC (dC, dI) (va_A ((a0, .inr (7, [.ref a2, g3, g4, .ref a4, g5, g6, g7, g8, g9, g10])) :: bX6 a2 up kp p_p (bX4 a4 un kn n_n [])) sz) ((a0, .inr (7, [.ref a2, g3, g4, .ref a4, g5, g6, g7, g8, g9, g10])) :: bX6 a2 up kp p_p (bX4 a4 un kn n_n [])) [] t) (va_A ((a0, .inr (7, [.ref a2, g3, g4, .ref a4, g5, g6, g7, g8, g9, g10])) :: bX6 a2 up kp p_p (bX4 a4 un kn n_n [])) sz)) (vx_X (S := Unit) (fun _ => out = none) (fun E _ t => E = "java/util/NoSuchElementException") (fun q => sz ≤ q)) 1 6 (va_A ((a0, .inr (7, [.ref a2, g3, g4, .ref a4, g5, g6, g7, g8, g9, g10])) :: bX6 a2 up kp p_p (bX4 a4 un kn n_n [])) sz) := by
  refine vx_ofW (cc := cX10_led) (maxL := 4) (ret := (some .int)) (by decide) rfl ?_
  intro p e s m args below meth c s₁ B hml hxt hv
  obtain ⟨rfl, hsz, hP, hK, hD0, hN, hU, hV, hLB⟩ := hv
  have hx := B.exec
  have hb := B.bytes
  have hr := B.returns
  have hts := atoms_spec (ws := vX10_led) B.pre
  have hown : s.vm.findClass RX10 = some m.cls := findClass_of_methodNamed B.named
  have hlocks := B.notSynchronized
  subst hsz
  have hD := hD0.self (sz := s.heap.size)
  generalize hAe : va_A ((a0, .inr (7, [.ref a2, g3, g4, .ref a4, g5, g6, g7, g8, g9, g10])) :: bX6 a2 up kp p_p (bX4 a4 un kn n_n [])) s.heap.size = A at hD hU hV ⊢
  have hS : va_S A s.heap s.heap [] := va_S.rf
  have hP : va_P (dC, dI) vwCl ((a0, .inr (7, [.ref a2, g3, g4, .ref a4, g5, g6, g7, g8, g9, g10])) :: bX6 a2 up kp p_p (bX4 a4 un kn n_n [])) s.heap := hP
  have hl := lv_entry ([.ref a0, .int k1]) (n := 4) (Nat.le_of_ble_eq_true rfl)
  rw [lg_entry_eq]
  generalize (lg_sl ([.ref a0, .int k1]) ++ List.replicate (4 - (lg_sl ([.ref a0, .int k1])).length) Slot.unset).toArray = ls at hl ⊢
  have hl : lv_has ls 4 [(0, .ref a0), (1, .int k1)] := hl
  refine W_q (fun QQ hQQ => ?_)
  have loop : ∀ (cn a : Nat) (bf : Int32) (ls : Array Slot), a + cn = an → lv_has ls 4 [(3, .int (nI a)), (2, .int bf), (0, .ref a0), (1, .int k1)] → ledF k1 n_n.2.2.2.1 cn a bf = out → W p l e (headSpec vX10_led { frames := 8, cells := 1, slots := 6, locals := 100 }).room s m ([.ref a0, .int k1]).toArray below meth c s.heap [] 0 0 QQ (F0 m 4 ls []) := by
    intro cn
    induction cn with
    | zero =>
      intro a bf ls ha hl ho
      rw [ledF] at ho
      refine lv_iload_n hx hb (zat zrX10_led_0_ok 4 rfl) rfl (lv_at hl 0 rfl) ?_
      refine lv_aload_n hx hb (zat zrX10_led_0_ok 5 rfl) rfl (lv_at hl 2 rfl) ?_
      refine va_get (D := (dC, dI)) (ci := 7) (v := .ref a2) (C := RX10) (T := TX10) (N := 10) hx hb hts iX10_led_X10 hown hK hP 0 rfl rfl 0 (by decide) (hts (.fieldLink RX10 10 "HookPier" "plan" "LHookPier$Plan;") (List.mem_of_getElem? (i := 3) rfl)) (fun _ h9 => h9) rfl (zat zrX10_led_0_ok 6 rfl) ?_
      refine va_get (D := (dC, dI)) (ci := 4) (v := .int p_p.2.2.2.2.2.2.1) (C := RX6) (T := TX6) (N := 18) hx hb hts iX10_led_X6 hown hK hP 1 rfl rfl 6 (by decide) (hts (.fieldLink RX10 96 "HookPier$Plan" "answers" "I") (List.mem_of_getElem? (i := 4) rfl)) (fun _ h9 => h9) rfl (zat zrX10_led_0_ok 7 rfl) ?_
      refine lv_icmp_ge (tgt := 43) hx hb (zat zrX10_led_0_ok 8 rfl) (by decide) (fun _ => ?_) (fun c1 => absurd (show p_p.2.2.2.2.2.2.1 ≤ nI a by rw [hp]; exact nI_le (by omega) (by omega)) c1)
      obtain ⟨sa, hsa⟩ := hN.2.2 (RX10, 373, "no such answer was landed") (List.mem_of_getElem? (i := 23) rfl)
      rw [hQQ]
      exact ox_throw (pc := 43) hx hb hl0 hown (by decide +kernel) (by decide +kernel) (by decide +kernel) (by decide +kernel) (by decide +kernel) (by decide +kernel) (by decide +kernel) (hts (.classLink RX10 371 "java/util/NoSuchElementException") (List.mem_of_getElem? (i := 1) rfl)) (hts (.initialized "java/util/NoSuchElementException") (List.mem_of_getElem? (i := 2) rfl)) hsa (vx_hat (B := ledB) (fun w h => hts w (iX10_led_G w h)) (fun _ h => h) (fun w h => va_Nw.use (List.all_eq_true.mp ledB_tab w h) (hLB w h))) led_ot hU hV hS (by rw [hml]; exact hl.1) (zat zrX10_led_0_ok 23 rfl) (zat zrX10_led_0_ok 24 rfl) (zat zrX10_led_0_ok 25 rfl) (zat zrX10_led_0_ok 26 rfl) (zat zrX10_led_0_ok 27 rfl) (fun x hx => (hxt x hx).elim) (by decide) (by decide) (by decide) (by decide) hlocks (fun t hvm h1 h2 => ⟨(), ho.symm, rfl, h1, fun q hq hq2 => h2 q hq⟩) (fun z hz => nomatch hz) (by decide) (by decide)
    | succ cn ih =>
      intro a bf ls ha hl ho
      rw [ledF] at ho
      refine lv_iload_n hx hb (zat zrX10_led_0_ok 4 rfl) rfl (lv_at hl 0 rfl) ?_
      refine lv_aload_n hx hb (zat zrX10_led_0_ok 5 rfl) rfl (lv_at hl 2 rfl) ?_
      refine va_get (D := (dC, dI)) (ci := 7) (v := .ref a2) (C := RX10) (T := TX10) (N := 10) hx hb hts iX10_led_X10 hown hK hP 0 rfl rfl 0 (by decide) (hts (.fieldLink RX10 10 "HookPier" "plan" "LHookPier$Plan;") (List.mem_of_getElem? (i := 3) rfl)) (fun _ h9 => h9) rfl (zat zrX10_led_0_ok 6 rfl) ?_
      refine va_get (D := (dC, dI)) (ci := 4) (v := .int p_p.2.2.2.2.2.2.1) (C := RX6) (T := TX6) (N := 18) hx hb hts iX10_led_X6 hown hK hP 1 rfl rfl 6 (by decide) (hts (.fieldLink RX10 96 "HookPier$Plan" "answers" "I") (List.mem_of_getElem? (i := 4) rfl)) (fun _ h9 => h9) rfl (zat zrX10_led_0_ok 7 rfl) ?_
      refine lv_icmp_ge (tgt := 43) hx hb (zat zrX10_led_0_ok 8 rfl) (by decide) (fun c1 => absurd (show p_p.2.2.2.2.2.2.1 ≤ nI a from c1) (by rw [hp]; exact nI_ge (by omega) (by omega))) (fun _ => ?_)
      refine lv_aload_n hx hb (zat zrX10_led_0_ok 9 rfl) rfl (lv_at hl 2 rfl) ?_
      refine va_get (D := (dC, dI)) (ci := 7) (v := .ref a4) (C := RX10) (T := TX10) (N := 10) hx hb hts iX10_led_X10 hown hK hP 0 rfl rfl 3 (by decide) (hts (.fieldLink RX10 29 "HookPier" "now" "LHookPier$Now;") (List.mem_of_getElem? (i := 5) rfl)) (fun _ h9 => h9) rfl (zat zrX10_led_0_ok 10 rfl) ?_
      refine va_get (D := (dC, dI)) (ci := 3) (v := .ref (un 0)) (C := RX4) (T := TX4) (N := 7) hx hb hts iX10_led_X4 hown hK hP 11 rfl rfl 3 (by decide) (hts (.fieldLink RX10 125 "HookPier$Now" "stage" "[I") (List.mem_of_getElem? (i := 6) rfl)) (fun _ h9 => h9) rfl (zat zrX10_led_0_ok 11 rfl) ?_
      refine lv_iload_n hx hb (zat zrX10_led_0_ok 12 rfl) rfl (lv_at hl 0 rfl) ?_
      refine va_iald hx hb hK hP 12 9 rfl rfl (vp_in_nI (show a < 6 by omega) (by omega)) (zat zrX10_led_0_ok 13 rfl) ?_
      rw [nI_clamp (show a < 2 ^ 31 by omega)]
      have fin : ∀ (bf : Int32) (ls : Array Slot), lv_has ls 4 [(3, .int (nI a)), (2, .int bf), (0, .ref a0), (1, .int k1)] → ledF k1 n_n.2.2.2.1 cn (a + 1) bf = out → W p l e (headSpec vX10_led { frames := 8, cells := 1, slots := 6, locals := 100 }).room s m ([.ref a0, .int k1]).toArray below meth c s.heap [] 0 0 QQ (F0 m 37 ls []) := by
        intro bf ls hl ho
        refine lv_iinc (v := nI (a + 1)) (lv' := [(3, .int (nI (a + 1))), (2, .int bf), (0, .ref a0), (1, .int k1)]) hx hb (zat zrX10_led_0_ok 21 rfl) hl (k := 0) rfl (nI_1 a) (by decide) rfl (fun ls hl => ?_)
        refine lv_goto (tgt := 4) hx hb (zat zrX10_led_0_ok 22 rfl) (by decide) ?_
        exact ih (a + 1) bf ls (by omega) hl ho
      refine lv_if_eq (tgt := 37) hx hb (zat zrX10_led_0_ok 14 rfl) (by decide) (fun c2 => ?_) (fun c2 => ?_)
      · rw [if_pos c2] at ho
        exact fin bf ls hl ho
      · rw [if_neg c2] at ho
        refine lv_iload_n hx hb (zat zrX10_led_0_ok 15 rfl) rfl (lv_at hl 1 rfl) ?_
        refine lv_iload_n hx hb (zat zrX10_led_0_ok 16 rfl) rfl (lv_at hl 3 rfl) ?_
        refine lv_icmp_ne (tgt := 34) hx hb (zat zrX10_led_0_ok 17 rfl) (by decide) (fun c3 => ?_) (fun c3 => ?_)
        · have c3 : ¬ bf = k1 := c3
          rw [if_neg c3] at ho
          refine lv_iinc (v := bf + 1) (lv' := [(2, .int (bf + 1)), (3, .int (nI a)), (0, .ref a0), (1, .int k1)]) hx hb (zat zrX10_led_0_ok 20 rfl) hl (k := 1) rfl rfl (by decide) rfl (fun ls hl => ?_)
          exact fin (bf + 1) ls (lv_sub hl [1, 0, 2, 3] rfl) ho
        · have c3 : bf = k1 := by first | exact c3 | exact Classical.not_not.mp c3
          rw [if_pos c3] at ho
          refine lv_iload_n hx hb (zat zrX10_led_0_ok 18 rfl) rfl (lv_at hl 0 rfl) ?_
          rw [hQQ, ← hAe]
          rw [← hAe] at hD hS
          refine vx_ret ?_
          have hK9 := hK.sub (tys' := []) [] rfl
          refine W.widen (k := 1) (n := 6) (by decide) (by decide) ?_
          exact W.iret (v := nI a) hx hb hr (fun t ht hW => ⟨⟨nI a, (), rfl, ⟨a, by omega, ho.symm, rfl⟩, by rw [ht]; exact hP, va_K.moved hW.alike hK9, hD⟩, hS.F ht⟩) hS.2.2 (zat zrX10_led_0_ok 19 rfl)
  refine lv_iconst (v := 0) hx hb (zat zrX10_led_0_ok 0 rfl) (by decide) ?_
  refine lv_istore_n (lv' := [(2, .int 0), (0, .ref a0), (1, .int k1)]) hx hb (zat zrX10_led_0_ok 1 rfl) rfl hl (by decide) rfl (fun ls hl => ?_)
  refine lv_iconst (v := 0) hx hb (zat zrX10_led_0_ok 2 rfl) (by decide) ?_
  refine lv_istore_n (lv' := [(3, .int (nI 0)), (2, .int 0), (0, .ref a0), (1, .int k1)]) hx hb (zat zrX10_led_0_ok 3 rfl) rfl hl (by decide) rfl (fun ls hl => ?_)
  exact loop an 0 0 ls (by omega) hl hf
set_option maxHeartbeats 1000000 in
set_option maxRecDepth 100000 in
theorem kL_led (l : Launch) (hl0 : l.stackTraces = false) (dC : Nat → ClassId) (dI : Nat → Nat → Nat) (a0 : Nat) (k1 : Int32) (a9 a2 a4 : Nat) (up : Nat → Nat) (kp : Nat → ClassId) (un : Nat → Nat) (kn : Nat → ClassId) (g3 : Value) (g4 : Value) (g5 : Value) (g6 : Value) (g7 : Value) (g8 : Value) (g9 : Value) (g10 : Value) (p_p : TX6_p) (n_n : TX4_n) (cO : ClassId) (fO : Nat → Int64) (an : Nat) (hp : p_p.2.2.2.2.2.2.1 = nI an) (han : an ≤ 6) (out : Option Nat) (hf : ledF k1 n_n.2.2.2.1 an 0 0 = out) (sz : Nat) : Met l yL_led vL_led ({ frames := 9, cells := 1, slots := 6, locals := 130 }) (PCZ (dC, dI) [.ref a0, .int k1, .ref a9] sz ((a0, .inr (7, [.ref a2, g3, g4, .ref a4, g5, g6, g7, g8, g9, g10])) :: bX6 a2 up kp p_p (bX4 a4 un kn n_n [(a9, .inl (cO, 1, .inr (.inl fO)))])) (tX6 kp (tX4 kn [(cO, .long)]))) (va_Qi (S := (Nat → Int64)) (fun (r : Int32) u => (∃ a, a < 6 ∧ out = some a ∧ r = 0 ∧ u = vp_updL fO 0 (nI a).toInt64) ∨ (out = none ∧ r = 1 ∧ u = fO)) (fun u t => BC (dC, dI) (va_A ((a0, .inr (7, [.ref a2, g3, g4, .ref a4, g5, g6, g7, g8, g9, g10])) :: bX6 a2 up kp p_p (bX4 a4 un kn n_n [(a9, .inl (cO, 1, .inr (.inl fO)))])) sz) ((a0, .inr (7, [.ref a2, g3, g4, .ref a4, g5, g6, g7, g8, g9, g10])) :: bX6 a2 up kp p_p (bX4 a4 un kn n_n [(a9, .inl (cO, 1, .inr (.inl u)))])) [] t) (va_A ((a0, .inr (7, [.ref a2, g3, g4, .ref a4, g5, g6, g7, g8, g9, g10])) :: bX6 a2 up kp p_p (bX4 a4 un kn n_n [(a9, .inl (cO, 1, .inr (.inl fO)))])) sz)) 1 6 (va_A ((a0, .inr (7, [.ref a2, g3, g4, .ref a4, g5, g6, g7, g8, g9, g10])) :: bX6 a2 up kp p_p (bX4 a4 un kn n_n [(a9, .inl (cO, 1, .inr (.inl fO)))])) sz) := by
  refine va_MetW (cc := cL_led) (maxL := 4) (ret := (some .int)) (hh := [(0, 9, 12, 13)]) (by decide) rfl ?_
  intro p e s m args below meth c s₁ B hml hv
  obtain ⟨rfl, hsz, hP, hK, hD0, hN, hU, hV, hLB⟩ := hv
  have hx := B.exec
  have hb := B.bytes
  have hr := B.returns
  have hts := atoms_spec (ws := vL_led) B.pre
  have hown : s.vm.findClass RL = some m.cls := findClass_of_methodNamed B.named
  have hlocks := B.notSynchronized
  subst hsz
  have hD := hD0.self (sz := s.heap.size)
  have hF0 : ∀ q, va_A ((a0, .inr (7, [.ref a2, g3, g4, .ref a4, g5, g6, g7, g8, g9, g10])) :: bX6 a2 up kp p_p (bX4 a4 un kn n_n [(a9, .inl (cO, 1, .inr (.inl fO)))])) s.heap.size q → va_A ((a0, .inr (7, [.ref a2, g3, g4, .ref a4, g5, g6, g7, g8, g9, g10])) :: bX6 a2 up kp p_p (bX4 a4 un kn n_n [(a9, .inl (cO, 1, .inr (.inl fO)))])) s.heap.size q := fun _ h => h
  have htab := vx_table (x := yL_led) B (hts (.codeWith yL_led cL_led 4 (some .int) [(0, 9, 12, 13)]) List.mem_cons_self)
  have hS : va_S (va_A ((a0, .inr (7, [.ref a2, g3, g4, .ref a4, g5, g6, g7, g8, g9, g10])) :: bX6 a2 up kp p_p (bX4 a4 un kn n_n [(a9, .inl (cO, 1, .inr (.inl fO)))])) s.heap.size) s.heap s.heap [] := va_S.rf
  have hP : va_P (dC, dI) vwCl (((a0, .inr (7, [.ref a2, g3, g4, .ref a4, g5, g6, g7, g8, g9, g10])) :: bX6 a2 up kp p_p (bX4 a4 un kn n_n [])) ++ [(a9, .inl (cO, 1, .inr (.inl fO)))]) s.heap := hP
  have hD : va_D (va_A ((a0, .inr (7, [.ref a2, g3, g4, .ref a4, g5, g6, g7, g8, g9, g10])) :: bX6 a2 up kp p_p (bX4 a4 un kn n_n [(a9, .inl (cO, 1, .inr (.inl fO)))])) s.heap.size) (((a0, .inr (7, [.ref a2, g3, g4, .ref a4, g5, g6, g7, g8, g9, g10])) :: bX6 a2 up kp p_p (bX4 a4 un kn n_n [])) ++ [(a9, .inl (cO, 1, .inr (.inl fO)))]) := hD
  have hF : ∀ q, va_A ((a0, .inr (7, [.ref a2, g3, g4, .ref a4, g5, g6, g7, g8, g9, g10])) :: bX6 a2 up kp p_p (bX4 a4 un kn n_n [])) s.heap.size q → va_A ((a0, .inr (7, [.ref a2, g3, g4, .ref a4, g5, g6, g7, g8, g9, g10])) :: bX6 a2 up kp p_p (bX4 a4 un kn n_n [(a9, .inl (cO, 1, .inr (.inl fO)))])) s.heap.size q := hs_free hD hS (fun _ h => Or.inr h)
  have hKc : va_K (dC, dI) vwCl (tX6 kp (tX4 kn [])) s := hK.sub (tys' := (tX6 kp (tX4 kn []))) [0, 1, 2, 3, 4, 5, 6, 7, 8, 9, 10, 11, 12] rfl
  have hl := lv_entry ([.ref a0, .int k1, .ref a9]) (n := 4) (Nat.le_of_ble_eq_true rfl)
  rw [lg_entry_eq]
  generalize (lg_sl ([.ref a0, .int k1, .ref a9]) ++ List.replicate (4 - (lg_sl ([.ref a0, .int k1, .ref a9])).length) Slot.unset).toArray = ls at hl ⊢
  have hl : lv_has ls 4 [(0, .ref a0), (1, .int k1), (2, .ref a9)] := hl
  refine lv_aload_n hx hb (zat zrL_led_0_ok 0 rfl) rfl (lv_at hl 2 rfl) ?_
  refine lv_iconst (v := 0) hx hb (zat zrL_led_0_ok 1 rfl) (by decide) ?_
  refine lv_aload_n hx hb (zat zrL_led_0_ok 2 rfl) rfl (lv_at hl 0 rfl) ?_
  refine lv_iload_n hx hb (zat zrL_led_0_ok 3 rfl) rfl (lv_at hl 1 rfl) ?_
  refine vx_calli (vx_runV (As := [.int k1]) (rest := [.int 0, .ref a9]) ⟨hx, hb, hml, hown, hts⟩ (kX10_led l hl0 dC dI a0 k1 a2 a4 up kp un kn g3 g4 g5 g6 g7 g8 g9 g10 p_p n_n an hp han out hf s.heap.size) (cwV 1 hts gL_led_X10_led rfl rfl rfl (by decide +kernel) ⟨Nat.le_of_ble_eq_true rfl, Nat.le_of_ble_eq_true rfl⟩) (PVZ (vP_left hP) hKc (vD_left hD) hN hF hU hV hLB 0 rfl rfl) rfl rfl hl.1 rfl (lv_room (Nat.le_of_ble_eq_true rfl)) (zat zrL_led_0_ok 4 rfl) ⟨Nat.le_of_ble_eq_true rfl, Nat.le_of_ble_eq_true rfl⟩) hS (fun q _ h => hF q h) (fun q h => hF q h) (fun q _ h => Or.inr h) (fun E ce q9 u t H locs ht hvm hno hE hz hk hS hq hv0 hcl => ?_) (fun r u t H locs ht hvm hw hB hz hk hS => ?_)
  · obtain rfl : E = "java/util/NoSuchElementException" := hE
    refine vx_widen (k := 1) (n := 6) (Nat.le_of_ble_eq_true rfl) (Nat.le_of_ble_eq_true rfl) ?_
    refine vx_catch (own := RL) (name := "java/util/NoSuchElementException") hown [] ⟨0, 9, 12, 13⟩ [] htab (fun z hz => nomatch hz) (by decide) (by decide) (hts (.classLink RL 13 "java/util/NoSuchElementException") (List.mem_of_getElem? (i := 1) rfl)) (va_Nw.use rfl (hLB (.castable "java/util/NoSuchElementException" "java/util/NoSuchElementException") (by decide +kernel))) hq hv0 hcl ?_
    refine lv_astore_n (lv' := [(3, .ref q9), (0, .ref a0), (1, .int k1), (2, .ref a9)]) hx hb (zat zrL_led_0_ok 8 rfl) rfl hl (by decide) rfl (fun ls hl => ?_)
    refine lv_iconst (v := 1) hx hb (zat zrL_led_0_ok 9 rfl) (by decide) ?_
    have hP9 : va_P (dC, dI) vwCl ((a0, .inr (7, [.ref a2, g3, g4, .ref a4, g5, g6, g7, g8, g9, g10])) :: bX6 a2 up kp p_p (bX4 a4 un kn n_n [(a9, .inl (cO, 1, .inr (.inl fO)))])) H := vP_iff.mpr (fun q hq => (vP_iff.mp hP q hq).kept (hk q.1 (vP_iff.mp hP q hq).lt (Nat.not_le.mpr (vP_iff.mp hP q hq).lt)))
    have hK9 := hK.sub (tys' := []) [] rfl
    exact W.iret (v := 1) hx hb hr (fun t ht hW => ⟨⟨1, fO, rfl, Or.inr ⟨hno, rfl, rfl⟩, by rw [ht]; exact hP9, va_K.moved hW.alike hK9, hD⟩, hS.F ht⟩) hS.2.2 (zat zrL_led_0_ok 10 rfl)
  · obtain ⟨hP1, hK1, hD1⟩ := hB
    rw [ht] at hP1
    obtain ⟨hP2, hD2⟩ := hs_join hP hD hk hF hP1 hD1
    obtain ⟨a, ha, ho, rfl⟩ := hw
    refine lv_i2l (v := (nI a).toInt64) hx hb (zat zrL_led_0_ok 5 rfl) rfl ?_
    refine va_last hx hb hK hP2 hD2 hS 0 13 rfl rfl (by unfold vp_in; decide) (zat zrL_led_0_ok 6 rfl) (fun H locs hP hD hS => ?_)
    refine lv_goto (tgt := 15) hx hb (zat zrL_led_0_ok 7 rfl) (by decide) ?_
    refine lv_iconst (v := 0) hx hb (zat zrL_led_0_ok 11 rfl) (by decide) ?_
    refine W.widen (k := 1) (n := 6) (by decide) (by decide) ?_
    have hP9 : va_P (dC, dI) vwCl ((a0, .inr (7, [.ref a2, g3, g4, .ref a4, g5, g6, g7, g8, g9, g10])) :: bX6 a2 up kp p_p (bX4 a4 un kn n_n [(a9, .inl (cO, 1, .inr (.inl (vp_updL fO 0 (nI a).toInt64))))])) H := va_P.perm (ws := [(a9, .inl (cO, 1, .inr (.inl (vp_updL fO 0 (nI a).toInt64))))] ++ ((a0, .inr (7, [.ref a2, g3, g4, .ref a4, g5, g6, g7, g8, g9, g10])) :: bX6 a2 up kp p_p (bX4 a4 un kn n_n []))) hP List.perm_append_comm
    have hD9 : va_D (va_A ((a0, .inr (7, [.ref a2, g3, g4, .ref a4, g5, g6, g7, g8, g9, g10])) :: bX6 a2 up kp p_p (bX4 a4 un kn n_n [(a9, .inl (cO, 1, .inr (.inl fO)))])) s.heap.size) ((a0, .inr (7, [.ref a2, g3, g4, .ref a4, g5, g6, g7, g8, g9, g10])) :: bX6 a2 up kp p_p (bX4 a4 un kn n_n [(a9, .inl (cO, 1, .inr (.inl (vp_updL fO 0 (nI a).toInt64))))])) := va_D.perm (ws := [(a9, .inl (cO, 1, .inr (.inl (vp_updL fO 0 (nI a).toInt64))))] ++ ((a0, .inr (7, [.ref a2, g3, g4, .ref a4, g5, g6, g7, g8, g9, g10])) :: bX6 a2 up kp p_p (bX4 a4 un kn n_n []))) hD List.perm_append_comm
    have hK9 := hK.sub (tys' := []) [] rfl
    exact W.iret (v := 0) hx hb hr (fun t ht hW => ⟨⟨0, vp_updL fO 0 (nI a).toInt64, rfl, Or.inl ⟨a, ha, ho, rfl, rfl⟩, by rw [ht]; exact hP9, va_K.moved hW.alike hK9, hD9⟩, hS.F ht⟩) hS.2.2 (zat zrL_led_0_ok 12 rfl)
theorem ox_or : ∀ w ∈ oxG, w ∈ (tch 5).drop 89 ∨ w ∈ tch 1 ∨ w ∈ lw_tbl := by decide +kernel
theorem oxG_in : ∀ w ∈ oxG, w ∈ lw_tbl := fun w h => (ox_or w h).elim (fun h => tch_in 5 w (List.mem_of_mem_drop h)) (fun h => h.elim (tch_in 1 w) id)
theorem ledB_in : ∀ w ∈ ledB, w ∈ lw_tbl := by decide +kernel
set_option maxRecDepth 20000 in
theorem tX10_led : ∀ w ∈ vX10_led, w ∈ lw_tbl := List.forall_mem_cons.mpr ⟨mem_1 5 88 (by decide +kernel), List.forall_mem_append.mpr ⟨mem_c (ws := [.classLink RX10 371 "java/util/NoSuchElementException", .initialized "java/util/NoSuchElementException", .fieldLink RX10 10 "HookPier" "plan" "LHookPier$Plan;", .fieldLink RX10 96 "HookPier$Plan" "answers" "I", .fieldLink RX10 29 "HookPier" "now" "LHookPier$Now;", .fieldLink RX10 125 "HookPier$Now" "stage" "[I"]) [(5, 89), (1, 24), (2, 78), (1, 62), (2, 81), (1, 210)] (by decide +kernel), List.forall_mem_append.mpr ⟨lwt_X10, List.forall_mem_append.mpr ⟨lwt_X6, List.forall_mem_append.mpr ⟨lwt_X4, oxG_in⟩⟩⟩⟩⟩
set_option maxRecDepth 20000 in
theorem tL_led : ∀ w ∈ vL_led, w ∈ lw_tbl := List.forall_mem_cons.mpr ⟨mem_1 5 83 (by decide +kernel), List.forall_mem_append.mpr ⟨mem_c (ws := [.classLink RL 13 "java/util/NoSuchElementException", .methodLink RL 7 yX10_led, .instanceMethod yX10_led, .selects RX10 yX10_led yX10_led, .initialized RX10]) [(5, 84), (5, 85), (5, 86), (5, 87), (1, 1)] (by decide +kernel), List.forall_mem_append.mpr ⟨lwt_X10, tX10_led⟩⟩⟩
set_option maxRecDepth 20000 in
theorem qL_led : Good vL_led := gd_cons (by decide +kernel) (gd_app (gd_dec (by decide +kernel)) (gd_app qsX10 qX10_led))
set_option maxRecDepth 20000 in
theorem gl_led : GoodIn lw_tbl (va_wsS RL 220 yL_led vL_led) := goodIn_app (goodIn_m (mem_c (ws := [.methodLink RL 220 yL_led, .static yL_led, .initialized RL]) [(5, 81), (5, 82), (1, 0)] (by decide +kernel)) (gd_dec (by decide +kernel))) (goodIn_m tL_led qL_led)
theorem cat3 (a b : List va_W) (r : va_W) : (cat a (cat b r)).Perm (cat (a ++ [r]) (cat b [])) := by
  rw [cat_eq, cat_eq, cat_eq, cat_eq, List.append_nil, List.flatten_append, List.append_assoc]
  refine List.Perm.append_left _ ?_
  simpa using List.perm_append_comm
theorem cat3r (a b : List va_W) (r : va_W) : (cat (a ++ [r]) (cat b [])).Perm (cat a (cat b r)) := (cat3 a b r).symm
section LAWZ
variable {p : Program} {l : Launch} {e : Env} {s : State} {m : MethodId} {below : List Frame} {meth : Method} {c : Code} {b L : Nat} {xs : Nat → Int32} {H : Heap} {locs : List Loc} {cells slots mc ms : Nat} {Q : State → Prop} {D : va_G} {wc wr : va_W} {L1 L2 : List va_W} {tys : List (ClassId × FieldType)} {pc idx n maxL : Nat} {ls : Array Slot} {rest As : List Value} {S : Type} {w1 : S → va_W} {L1' : S → List va_W} {tys1 : S → List (ClassId × FieldType)} {y : MethodName} {vf vf' : List Cond} {rm : Room} {bytes : ByteArray} {ret : Option FieldType} {hh : List (Nat × Nat × Nat × Nat)}
theorem law_z (C0 : LW p l s m meth c b L xs) {post : Int32 → S → Prop} (hM : Met l y vf rm (PCZ D As H.size wc tys) (va_Qi post (fun u t => BC D (va_A wc H.size) (w1 u) (tys1 u) t) (va_A wc H.size)) mc ms (va_A wc H.size)) (hG : GoodIn lw_tbl (va_wsS RL idx y vf)) (hvf : vf = Cond.codeWith y bytes maxL ret hh :: vf') (hrc : rm.cells = mc) (hrs : rm.slots = ms) (hd : y.cls ≠ "java/lang/invoke/MethodHandle" ∧ y.cls ≠ "java/lang/invoke/VarHandle" ∧ (parseMethodDescriptor y.desc).map (fun d => d.parameters.length) = some n) (hR : rm.frames + 1 ≤ room_1.frames ∧ 8 + (maxL + 11) + rm.locals ≤ room_1.locals) (hm : mc ≤ 50 ∧ ms ≤ 300)
    (hwc : wc = cat L1 []) (hw1 : ∀ u, w1 u = cat (L1' u) []) (hH : HS D s (cat L1 (cat L2 wr)) H locs) (hK : va_K D vwCl tys s) (hn : As.length = n) (hls : ls.size = 7) (hW : (rest.map fun v => v.category).sum ≤ 8) (hdg : decode cL_law pc = .ok (.invokestatic idx, 3)) (hcs : cells ≤ 500000 ∧ slots ≤ 7000000)
    (kk : ∀ (r : Int32) (u : S) (H1 : Heap) (locs1 : List Loc), post r u → va_K D vwCl (tys1 u) s → HS D s (cat (L1' u) (cat L2 wr)) H1 locs1 → W p l e room_1 s m #[Value.ref b] below meth c H1 locs1 (cells + mc) (slots + ms) Q (F0 m (pc + 3) ls (.int r :: rest))) : W p l e room_1 s m #[Value.ref b] below meth c H locs cells slots Q (F0 m pc ls (As.reverse ++ rest)) := by
  obtain ⟨⟨hx, hb, hr, hml, hown, htb, hX, hbl, hlocks, hgv⟩, hN, -, -⟩ := C0
  have hb : c.code = cL_law := hb
  have hown : s.vm.findClass RL = some m.cls := hown
  have hLB : LB s := fun w hw => va_Nw.of (List.all_eq_true.mp ledB_tab w hw) (htb w (ledB_in w hw))
  have hU : vx_Zq Bundle.tN "UNASSIGNED_STACK" Bundle.steD (fun q : Nat => s.heap.size ≤ q) s s.heap := vx_Zqof (htb (.laysStatic Bundle.tN "UNASSIGNED_STACK" Bundle.steD) (by decide +kernel)) (htb (.initialized Bundle.tN) (by decide +kernel)) (flat_of_before _ hgv (.isRef (.static Bundle.tN "UNASSIGNED_STACK" Bundle.steD)) (by decide +kernel)) (fun a h => Nat.not_le.mpr h)
  have hV : vx_Zq Bundle.tN "SUPPRESSED_SENTINEL" Bundle.listD (fun q : Nat => s.heap.size ≤ q) s s.heap := vx_Zqof (htb (.laysStatic Bundle.tN "SUPPRESSED_SENTINEL" Bundle.listD) (by decide +kernel)) (htb (.initialized Bundle.tN) (by decide +kernel)) (flat_of_before _ hgv (.isRef (.static Bundle.tN "SUPPRESSED_SENTINEL" Bundle.listD)) (by decide +kernel)) (fun a h => Nat.not_le.mpr h)
  rw [cat_nil, ← hwc] at hH
  obtain ⟨hP, hD, hS⟩ := hH
  have hF := hs_free hD hS (fun _ h => h)
  have h1 := room_c
  have h2 := room_s
  refine va_calli (vx_runSW (As := As) (rest := rest) ⟨hx, hb, hml, hown, htb⟩ hM (vx_cwSW n htb hG hvf hrc hrs hd hR) (PSZ (vP_left hP) hK (vD_left hD) hN hF (vx_Zq.kept hU hS.2.1) (vx_Zq.kept hV hS.2.1) hLB) rfl hn hls rfl (lv_room hW) hdg ⟨by omega, by omega⟩) hS (fun q _ h => hF q h) hF (fun r u t H1 locs1 ht hvm hw hB hz hk hS1 => ?_)
  obtain ⟨hP1, hK1, hD1⟩ := hB
  rw [ht] at hP1
  obtain ⟨hP2, hD2⟩ := hs_join hP hD hk hF hP1 hD1
  refine kk r u H1 locs1 hw (va_K.moved hvm.symm hK1) ?_
  rw [cat_nil, ← hw1 u]
  exact ⟨hP2.perm List.perm_append_comm, hD2.perm List.perm_append_comm, hS1⟩
end LAWZ
set_option maxHeartbeats 1000000 in
set_option maxRecDepth 20000 in
theorem lc_47 {p : Program} {l : Launch} {e : Env} {s : State} {m : MethodId} {below : List Frame} {meth : Method} {c : Code} {b L : Nat} {xs : Nat → Int32} {H : Heap} {locs : List Loc} {cells slots : Nat} {Q : State → Prop} {dC : Nat → ClassId} {dI : Nat → Nat → Nat} (C0 : LW p l s m meth c b L xs) (hL : L ≤ 3072) {n : Nat} (hn : n + 6 ≤ L) {h0 g0 q9 : Nat} (hI : LI (dC, dI) s h0 g0 q9 H locs) (hcs : cells ≤ 400000 ∧ slots ≤ 6000000) (ls : Array Slot) (hl : lv_has ls 7 [(4, .int (nI n)), (3, .ref q9), (2, .ref g0), (1, .ref h0), (0, .ref b)])
    (kk : ∀ (H : Heap) (locs : List Loc), LI (dC, dI) s h0 g0 q9 H locs → ∀ ls : Array Slot, lv_has ls 7 [(4, .int (nI n)), (3, .ref q9), (2, .ref g0), (1, .ref h0), (0, .ref b)] → W p l e room_1 s m #[Value.ref b] below meth c H locs (cells + 50) (slots + 300) Q (F0 m 1953 ls [])) : W p l e room_1 s m #[Value.ref b] below meth c H locs cells slots Q (F0 m 1887 ls []) := by
  obtain ⟨⟨hx, hb, -⟩, -, -, hl0⟩ := id C0
  have hb : c.code = cL_law := hb
  obtain ⟨A, U, C, na, nu, nk, X, B, E, M, o, RV, qa, qu, qk, cO, fO, rfl, rfl, hKX, hKM, hKQ, hKO, hR, hH⟩ := hI
  have hc5 : cells ≤ 500000 ∧ slots ≤ 7000000 := ⟨by omega, by omega⟩
  obtain ⟨an, han, ean, rm, M', em, hR'⟩ := st_led (k1 := xs (n + 1)) hR
  have hKX0 := hKX
  obtain ⟨hK1, hK2, hK3, hK4, hK9, hK10, hK6, hK7, hK11, hK12, hKp⟩ := hKX
  refine lv_aload_n hx hb (zat zrL_law_18_ok 20 rfl) rfl (lv_at hl 3 rfl) ?_
  refine ld_a C0 hH.2.2 (lv_at hl 4 rfl) (lv_at hl 0 rfl) (show n + 1 < L by omega) hL rfl (zat zrL_law_18_ok 21 rfl) (zat zrL_law_18_ok 22 rfl) (zat zrL_law_18_ok 23 rfl) (zat zrL_law_18_ok 24 rfl) (zat zrL_law_18_ok 25 rfl) ?_
  refine lv_aload_n hx hb (zat zrL_law_18_ok 26 rfl) rfl (lv_at hl 1 rfl) ?_
  have hH := hH.perm (cat3 _ _ _)
  have hH := hH.perm (pm2 15 (wX A U C na nu nk X ++ [[(q9, .inl (cO, 1, .inr (.inl fO)))]]) [0, 1, 4, 14, 2, 3, 5, 6, 7, 8, 9, 10, 11, 12, 13] _ [xo A X.1, bX6 (A 1) (U 1) (C 1) X.2.1 [], bX4 (A 4) (U 4) (C 4) X.2.2.2.2.1 [], [(q9, .inl (cO, 1, .inr (.inl fO)))]] [bX6 (A 2) (U 2) (C 2) X.2.2.1 [], bX7 (A 3) (U 3) (C 3) X.2.2.2.1 [], hio A X.2.2.2.2.2.1, kao A C na, mao A C na, bX8 (A 6) (U 6) (C 6) X.2.2.2.2.2.2.2.1 [], bX0 (A 7) (U 7) (C 7) X.2.2.2.2.2.2.2.2.1 [], dyo A X.2.2.2.2.2.2.2.2.2.1, dao A C X.2.2.2.2.2.2.2.2.2.1, bX4 (A 12) (U 12) (C 12) X.2.2.2.2.2.2.2.2.2.2 [], pool na nu nk X.2.2.2.2.2.2.1] rfl (by decide) rfl)
  refine law_z (n := 3) (As := [.ref (A 0), .int (xs (n + 1)), .ref q9]) (L1 := [xo A X.1, bX6 (A 1) (U 1) (C 1) X.2.1 [], bX4 (A 4) (U 4) (C 4) X.2.2.2.2.1 [], [(q9, .inl (cO, 1, .inr (.inl fO)))]]) (L1' := fun u => [xo A X.1, bX6 (A 1) (U 1) (C 1) X.2.1 [], bX4 (A 4) (U 4) (C 4) X.2.2.2.2.1 [], [(q9, .inl (cO, 1, .inr (.inl u)))]]) (L2 := [bX6 (A 2) (U 2) (C 2) X.2.2.1 [], bX7 (A 3) (U 3) (C 3) X.2.2.2.1 [], hio A X.2.2.2.2.2.1, kao A C na, mao A C na, bX8 (A 6) (U 6) (C 6) X.2.2.2.2.2.2.2.1 [], bX0 (A 7) (U 7) (C 7) X.2.2.2.2.2.2.2.2.1 [], dyo A X.2.2.2.2.2.2.2.2.2.1, dao A C X.2.2.2.2.2.2.2.2.2.1, bX4 (A 12) (U 12) (C 12) X.2.2.2.2.2.2.2.2.2.2 [], pool na nu nk X.2.2.2.2.2.2.1]) C0 (kL_led l hl0 dC dI (A 0) (xs (n + 1)) q9 (A 1) (A 4) (U 1) (C 1) (U 4) (C 4) (.ref (A 2)) (.ref (A 3)) (.ref (A 5)) (.ref (A 6)) (.ref (A 7)) (.ref (A 8)) (.int X.1.1) (.int X.1.2) X.2.1 X.2.2.2.2.1 cO fO an ean han _ rfl H.size) gl_led rfl rfl rfl (by decide +kernel) ⟨Nat.le_of_ble_eq_true rfl, Nat.le_of_ble_eq_true rfl⟩ ⟨by decide, by decide⟩ rfl (fun _ => rfl) hH (hK1.app (hK4.app hKO)) rfl hl.1 (Nat.le_of_ble_eq_true rfl) (zat zrL_law_18_ok 27 rfl) hc5 (fun r u H locs hw _ hH => ?_)
  have hH := hH.perm (pm3 15 (wX A U C na nu nk X ++ [[(q9, .inl (cO, 1, .inr (.inl u)))]]) [0, 1, 4, 5, 2, 6, 7, 8, 9, 10, 11, 12, 13, 14, 3] _ [xo A X.1, bX6 (A 1) (U 1) (C 1) X.2.1 [], bX4 (A 4) (U 4) (C 4) X.2.2.2.2.1 [], [(q9, .inl (cO, 1, .inr (.inl u)))]] [bX6 (A 2) (U 2) (C 2) X.2.2.1 [], bX7 (A 3) (U 3) (C 3) X.2.2.2.1 [], hio A X.2.2.2.2.2.1, kao A C na, mao A C na, bX8 (A 6) (U 6) (C 6) X.2.2.2.2.2.2.2.1 [], bX0 (A 7) (U 7) (C 7) X.2.2.2.2.2.2.2.2.1 [], dyo A X.2.2.2.2.2.2.2.2.2.1, dao A C X.2.2.2.2.2.2.2.2.2.1, bX4 (A 12) (U 12) (C 12) X.2.2.2.2.2.2.2.2.2.2 [], pool na nu nk X.2.2.2.2.2.2.1] rfl (by decide) rfl)
  have hH := hH.perm (cat3r _ _ _)
  refine lv_istore (lv' := [(5, .int r), (4, .int (nI n)), (3, .ref q9), (2, .ref (B 0)), (1, .ref (A 0)), (0, .ref b)]) hx hb (zat zrL_law_18_ok 28 rfl) hl (by decide) rfl (fun ls hl => ?_)
  have hH := hH.perm (cat_swap _ _ _)
  refine lv_aload_n hx hb (zat zrL_law_18_ok 29 rfl) rfl (lv_at hl 3 rfl) ?_
  refine ld_a C0 hH.2.2 (lv_at hl 5 rfl) (lv_at hl 1 rfl) (show n + 1 < L by omega) hL rfl (zat zrL_law_18_ok 30 rfl) (zat zrL_law_18_ok 31 rfl) (zat zrL_law_18_ok 32 rfl) (zat zrL_law_18_ok 33 rfl) (zat zrL_law_18_ok 34 rfl) ?_
  refine cn_led C0 hKM hKQ hH hl.1 (Nat.le_of_ble_eq_true rfl) ⟨by omega, by omega⟩ (zat zrL_law_18_ok 35 rfl) glM_led_nul glM_led rm M' o em (fun RV qa qu qk H locs hKQ hH => ?_)
  have hH := hH.perm (cat_swap _ _ _)
  refine lv_istore (lv' := [(6, .int rm), (5, .int r), (4, .int (nI n)), (3, .ref q9), (2, .ref (B 0)), (1, .ref (A 0)), (0, .ref b)]) hx hb (zat zrL_law_18_ok 36 rfl) hl (by decide) rfl (fun ls hl => ?_)

  refine lv_goto (tgt := 1953) hx hb (zat zrL_law_18_ok 37 rfl) (by decide) ?_
  exact W.widen (by omega) (by omega) (kk H locs ⟨A, U, C, na, nu, nk, X, B, E, M', o, RV, qa, qu, qk, cO, u, rfl, rfl, hKX0, hKM, hKQ, hKO, hR', hH⟩ ls (lv_sub hl [2, 3, 4, 5, 6] rfl))
/-! the law from its entry -/
set_option maxRecDepth 20000 in
theorem tfcX6_init : ∀ w ∈ vcX6_init, w ∈ lw_tbl := List.forall_mem_cons.mpr ⟨mem_1 1 37 (by decide +kernel), List.forall_mem_append.mpr ⟨mem_c (ws := [.methodLink RX6 3 objectInit, .instanceMethod objectInit, .code objectInit ⟨#[0xb1]⟩ 1 none, .fieldLink RX6 9 "HookPier$Plan" "spots" "I", .fieldLink RX6 15 "HookPier$Plan" "deep" "I", .fieldLink RX6 18 "HookPier$Plan" "closeFrom" "I", .fieldLink RX6 21 "HookPier$Plan" "closeTo" "I", .fieldLink RX6 24 "HookPier$Plan" "baits" "I", .fieldLink RX6 27 "HookPier$Plan" "askers" "I", .fieldLink RX6 30 "HookPier$Plan" "answers" "I", .fieldLink RX6 33 "HookPier$Plan" "bites" "I", .fieldLink RX6 36 "HookPier$Plan" "darkHunger" "I", .arrayClass .int, .fieldLink RX6 39 "HookPier$Plan" "reach" "[I", .fieldLink RX6 43 "HookPier$Plan" "kind" "[I", .fieldLink RX6 46 "HookPier$Plan" "at" "[I", .fieldLink RX6 49 "HookPier$Plan" "depth" "[I", .fieldLink RX6 52 "HookPier$Plan" "hunger" "[I", .fieldLink RX6 55 "HookPier$Plan" "likes" "[I", .fieldLink RX6 58 "HookPier$Plan" "told" "[I", .fieldLink RX6 61 "HookPier$Plan" "bite" "[I", .arrayClass .boolean, .fieldLink RX6 64 "HookPier$Plan" "bit" "[Z"]) [(1, 38), (1, 31), (1, 32), (1, 39), (1, 43), (1, 46), (1, 48), (1, 50), (1, 53), (1, 59), (1, 65), (1, 69), (1, 142), (1, 73), (1, 76), (1, 81), (1, 84), (1, 87), (1, 90), (1, 93), (1, 97), (1, 143), (1, 101)] (by decide +kernel), lwt_X6⟩⟩
set_option maxRecDepth 20000 in
theorem tfcX7_init : ∀ w ∈ vcX7_init, w ∈ lw_tbl := List.forall_mem_cons.mpr ⟨mem_1 1 148 (by decide +kernel), List.forall_mem_append.mpr ⟨mem_c (ws := [.methodLink RX7 3 objectInit, .instanceMethod objectInit, .code objectInit ⟨#[0xb1]⟩ 1 none, .arrayClass .byte, .fieldLink RX7 9 "HookPier$Reader" "text" "[B", .fieldLink RX7 15 "HookPier$Reader" "fed" "I", .fieldLink RX7 19 "HookPier$Reader" "end" "I", .fieldLink RX7 22 "HookPier$Reader" "token" "I", .fieldLink RX7 25 "HookPier$Reader" "start" "I", .fieldLink RX7 28 "HookPier$Reader" "behind" "I", .fieldLink RX7 31 "HookPier$Reader" "value" "I", .arrayClass .long, .fieldLink RX7 34 "HookPier$Reader" "name" "[J", .arrayClass .int, .fieldLink RX7 38 "HookPier$Reader" "nameBait" "[I", .fieldLink RX7 42 "HookPier$Reader" "names" "I", .fieldLink RX7 45 "HookPier$Reader" "fault" "I", .fieldLink RX7 48 "HookPier$Reader" "place" "I"]) [(1, 149), (1, 31), (1, 32), (1, 190), (1, 150), (1, 151), (1, 153), (1, 154), (1, 155), (1, 156), (1, 157), (1, 191), (1, 158), (1, 142), (1, 159), (1, 160), (1, 161), (1, 163)] (by decide +kernel), lwt_X7⟩⟩
set_option maxRecDepth 20000 in
theorem tfcX4_init : ∀ w ∈ vcX4_init, w ∈ lw_tbl := List.forall_mem_cons.mpr ⟨mem_1 1 196 (by decide +kernel), List.forall_mem_append.mpr ⟨mem_c (ws := [.methodLink RX4 3 objectInit, .instanceMethod objectInit, .code objectInit ⟨#[0xb1]⟩ 1 none, .fieldLink RX4 9 "HookPier$Now" "today" "I", .fieldLink RX4 15 "HookPier$Now" "seedNow" "I", .fieldLink RX4 18 "HookPier$Now" "soldFor" "I", .arrayClass .int, .fieldLink RX4 21 "HookPier$Now" "stage" "[I", .fieldLink RX4 25 "HookPier$Now" "landedOn" "[I", .fieldLink RX4 28 "HookPier$Now" "landedBy" "[I", .fieldLink RX4 31 "HookPier$Now" "line" "[I"]) [(1, 197), (1, 31), (1, 32), (1, 198), (1, 202), (1, 205), (1, 142), (1, 207), (1, 212), (1, 215), (1, 217)] (by decide +kernel), lwt_X4⟩⟩
set_option maxRecDepth 20000 in
theorem tfcX2_init : ∀ w ∈ vcX2_init, w ∈ lw_tbl := List.forall_mem_cons.mpr ⟨mem_1 1 239 (by decide +kernel), List.forall_mem_append.mpr ⟨mem_c (ws := [.methodLink RX2 3 objectInit, .instanceMethod objectInit, .code objectInit ⟨#[0xb1]⟩ 1 none, .classLink RX2 9 RX4, .fieldLink RX2 11 "HookPier$History" "kept" "[LHookPier$Now;", .fieldLink RX2 17 "HookPier$History" "marked" "[LHookPier$Now;", .fieldLink RX2 20 "HookPier$History" "oldest" "I", .fieldLink RX2 24 "HookPier$History" "acts" "I", .fieldLink RX2 27 "HookPier$History" "marks" "I", .instantiable RX4 7, .initialized RX4, .instanceMethod yX4_init]) [(2, 0), (1, 31), (1, 32), (2, 1), (2, 4), (2, 5), (2, 6), (2, 7), (2, 9), (1, 193), (1, 4), (1, 195)] (by decide +kernel), List.forall_mem_append.mpr ⟨lwt_X2, List.forall_mem_append.mpr ⟨lwt_X4, tfcX4_init⟩⟩⟩⟩
set_option maxRecDepth 20000 in
theorem tfcX8_init : ∀ w ∈ vcX8_init, w ∈ lw_tbl := List.forall_mem_cons.mpr ⟨mem_1 2 26 (by decide +kernel), List.forall_mem_append.mpr ⟨mem_c (ws := [.methodLink RX8 3 objectInit, .instanceMethod objectInit, .code objectInit ⟨#[0xb1]⟩ 1 none, .arrayClass .int, .fieldLink RX8 9 "HookPier$Seats" "row" "[I", .fieldLink RX8 15 "HookPier$Seats" "first" "[I", .fieldLink RX8 18 "HookPier$Seats" "found" "I"]) [(2, 27), (1, 31), (1, 32), (1, 142), (2, 28), (2, 29), (2, 31)] (by decide +kernel), lwt_X8⟩⟩
set_option maxRecDepth 20000 in
theorem tfcX0_init : ∀ w ∈ vcX0_init, w ∈ lw_tbl := List.forall_mem_cons.mpr ⟨mem_1 2 43 (by decide +kernel), List.forall_mem_append.mpr ⟨mem_c (ws := [.methodLink RX0 3 objectInit, .instanceMethod objectInit, .code objectInit ⟨#[0xb1]⟩ 1 none, .arrayClass .int, .fieldLink RX0 11 "HookPier$Dark" "place" "[I", .fieldLink RX0 15 "HookPier$Dark" "many" "I"]) [(2, 44), (1, 31), (1, 32), (1, 142), (2, 45), (2, 47)] (by decide +kernel), lwt_X0⟩⟩
set_option maxRecDepth 20000 in
theorem tfcX1_init : ∀ w ∈ vcX1_init, w ∈ lw_tbl := List.forall_mem_cons.mpr ⟨mem_1 2 58 (by decide +kernel), List.forall_mem_append.mpr ⟨mem_c (ws := [.methodLink RX1 3 objectInit, .instanceMethod objectInit, .code objectInit ⟨#[0xb1]⟩ 1 none, .classLink RX1 9 RX4, .instantiable RX4 7, .initialized RX4, .instanceMethod yX4_init, .fieldLink RX1 12 "HookPier$Days" "ahead" "LHookPier$Now;", .fieldLink RX1 18 "HookPier$Days" "landedMany" "I", .fieldLink RX1 22 "HookPier$Days" "crabTakes" "I", .arrayClass .int, .fieldLink RX1 25 "HookPier$Days" "landedInDay" "[I"]) [(2, 59), (1, 31), (1, 32), (2, 60), (1, 193), (1, 4), (1, 195), (2, 62), (2, 63), (2, 65), (1, 142), (2, 67)] (by decide +kernel), List.forall_mem_append.mpr ⟨lwt_X4, List.forall_mem_append.mpr ⟨lwt_X1, tfcX4_init⟩⟩⟩⟩
set_option maxRecDepth 20000 in
theorem tfcX10_init : ∀ w ∈ vcX10_init, w ∈ lw_tbl := List.forall_mem_cons.mpr ⟨mem_1 1 29 (by decide +kernel), List.forall_mem_append.mpr ⟨mem_c (ws := [.methodLink RX10 1 objectInit, .instanceMethod objectInit, .code objectInit ⟨#[0xb1]⟩ 1 none, .classLink RX10 7 RX6, .instantiable RX6 18, .initialized RX6, .instanceMethod yX6_init, .fieldLink RX10 10 "HookPier" "plan" "LHookPier$Plan;", .fieldLink RX10 16 "HookPier" "spare" "LHookPier$Plan;", .classLink RX10 19 RX7, .instantiable RX7 12, .initialized RX7, .instanceMethod yX7_init, .fieldLink RX10 22 "HookPier" "reader" "LHookPier$Reader;", .classLink RX10 26 RX4, .instantiable RX4 7, .initialized RX4, .instanceMethod yX4_init, .fieldLink RX10 29 "HookPier" "now" "LHookPier$Now;", .classLink RX10 33 RX2, .instantiable RX2 5, .initialized RX2, .methodLink RX10 35 yX2_init, .instanceMethod yX2_init, .fieldLink RX10 36 "HookPier" "history" "LHookPier$History;", .classLink RX10 40 RX8, .instantiable RX8 3, .initialized RX8, .instanceMethod yX8_init, .fieldLink RX10 43 "HookPier" "seats" "LHookPier$Seats;", .classLink RX10 47 RX0, .instantiable RX0 2, .initialized RX0, .instanceMethod yX0_init, .fieldLink RX10 50 "HookPier" "dark" "LHookPier$Dark;", .classLink RX10 54 RX1, .instantiable RX1 4, .initialized RX1, .instanceMethod yX1_init, .fieldLink RX10 57 "HookPier" "days" "LHookPier$Days;", .fieldLink RX10 61 "HookPier" "troubleNow" "I", .fieldLink RX10 65 "HookPier" "faultNow" "I"]) [(1, 30), (1, 31), (1, 32), (1, 33), (1, 34), (1, 2), (1, 36), (2, 78), (2, 79), (1, 144), (1, 145), (1, 3), (1, 147), (2, 80), (1, 192), (1, 193), (1, 4), (1, 195), (2, 81), (1, 235), (1, 236), (1, 5), (1, 237), (1, 238), (2, 82), (2, 22), (2, 23), (1, 6), (2, 25), (2, 83), (2, 39), (2, 40), (1, 7), (2, 42), (2, 84), (2, 54), (2, 55), (1, 8), (2, 57), (2, 85), (2, 86), (2, 87)] (by decide +kernel), List.forall_mem_append.mpr ⟨lwt_X6, List.forall_mem_append.mpr ⟨lwt_X10, List.forall_mem_append.mpr ⟨lwt_X7, List.forall_mem_append.mpr ⟨lwt_X4, List.forall_mem_append.mpr ⟨lwt_X2, List.forall_mem_append.mpr ⟨lwt_X8, List.forall_mem_append.mpr ⟨lwt_X0, List.forall_mem_append.mpr ⟨lwt_X1, List.forall_mem_append.mpr ⟨tfcX6_init, List.forall_mem_append.mpr ⟨tfcX7_init, List.forall_mem_append.mpr ⟨tfcX4_init, List.forall_mem_append.mpr ⟨tfcX2_init, List.forall_mem_append.mpr ⟨tfcX8_init, List.forall_mem_append.mpr ⟨tfcX0_init, tfcX1_init⟩⟩⟩⟩⟩⟩⟩⟩⟩⟩⟩⟩⟩⟩⟩⟩
set_option maxRecDepth 20000 in
theorem tfcX12_init : ∀ w ∈ vcX12_init, w ∈ lw_tbl := List.forall_mem_cons.mpr ⟨mem_1 5 158 (by decide +kernel), List.forall_mem_append.mpr ⟨mem_c (ws := [.methodLink RX12 3 objectInit, .instanceMethod objectInit, .code objectInit ⟨#[0xb1]⟩ 1 none, .fieldLink RX12 9 "HookPierModel" "where" "I", .arrayClass .byte, .fieldLink RX12 13 "HookPierModel" "tape" "[B", .arrayClass .int, .fieldLink RX12 17 "HookPierModel" "v" "[I", .fieldLink RX12 21 "HookPierModel" "x" "[I", .fieldLink RX12 24 "HookPierModel" "past" "[I", .fieldLink RX12 27 "HookPierModel" "kept" "[I", .fieldLink RX12 30 "HookPierModel" "seat" "[I", .fieldLink RX12 33 "HookPierModel" "firstSeat" "[I"]) [(5, 159), (1, 31), (1, 32), (5, 162), (1, 190), (5, 165), (1, 142), (5, 175), (5, 176), (5, 177), (5, 178), (5, 181), (5, 182)] (by decide +kernel), lwt_X12⟩⟩
theorem vp_q {cA : ClassId} {n : Nat} {f g : Nat → Option Nat} (h : ∀ j, j < n → f j = g j) : vp_cell cA (n, .inr (.inr (.inr (.inr f)))) = vp_cell cA (n, .inr (.inr (.inr (.inr g)))) := by
  rw [vp_cell_q, vp_cell_q]
  unfold arrV
  have e : (fun j : Fin n => va_rf (f j.val)) = (fun j : Fin n => va_rf (g j.val)) := funext (fun j => by rw [h j.val j.isLt])
  rw [e]
theorem HS_q {D : va_G} {s : State} {a : Nat} {cA : ClassId} {n : Nat} {f g : Nat → Option Nat} {ws : va_W} {H : Heap} {locs : List Loc} (h : ∀ j, j < n → f j = g j) (hH : HS D s ((a, .inl (cA, n, .inr (.inr (.inr (.inr f))))) :: ws) H locs) : HS D s ((a, .inl (cA, n, .inr (.inr (.inr (.inr g))))) :: ws) H locs := by
  obtain ⟨hP, hD, hS⟩ := hH
  refine ⟨vP_iff.mpr (fun q hq => ?_), vD_iff.mpr ?_, hS⟩
  · rcases List.mem_cons.mp hq with rfl | hq
    · have := vP_iff.mp hP _ List.mem_cons_self
      have h2 : H[a]? = some (vp_cell cA (n, .inr (.inr (.inr (.inr f))))) := this
      show H[a]? = some (vp_cell cA (n, .inr (.inr (.inr (.inr g)))))
      rw [h2, vp_q h]
    · exact vP_iff.mp hP q (List.mem_cons_of_mem _ hq)
  · obtain ⟨d1, d2⟩ := vD_iff.mp hD
    refine ⟨d1, fun q hq => ?_⟩
    rcases List.mem_cons.mp hq with rfl | hq
    · exact d2 (a, .inl (cA, n, .inr (.inr (.inr (.inr f))))) List.mem_cons_self
    · exact d2 q (List.mem_cons_of_mem _ hq)
def xL (a0 : Nat) (v0 : Nat) (v1 : Nat → Nat) (v2 : Nat → ClassId) (v3 : Nat) (v4 : Nat → Nat) (v5 : Nat → ClassId) (v6 : Nat) (v7 : Nat → Nat) (v8 : Nat → ClassId) (v9 : Nat) (v10 : Nat → Nat) (v11 : Nat → ClassId) (v12 : Nat) (v13 : Nat) (v14 : ClassId) (v15 : Nat) (v16 : ClassId) (v17 : Nat) (v18 : Nat → Nat) (v19 : Nat → ClassId) (v20 : Nat) (v21 : Nat → Nat) (v22 : Nat → ClassId) (v23 : Nat) (v24 : Nat → Nat) (v25 : Nat → ClassId) (v26 : Nat) (v27 : Nat → Nat) (v28 : Nat → ClassId) (v29 : Nat) (v30 : Nat → Nat) (v31 : Nat → ClassId) (v32 : Nat) (v33 : Nat → Nat) (v34 : Nat → ClassId) (v35 : Nat) (v36 : Nat → Nat) (v37 : Nat → ClassId) (v38 : Nat) (v39 : Nat → Nat) (v40 : Nat → ClassId) (v41 : Nat) (v42 : Nat → Nat) (v43 : Nat → ClassId) (v44 : Nat) (v45 : Nat → Nat) (v46 : Nat → ClassId) (v47 : Nat) (v48 : Nat → Nat) (v49 : Nat → ClassId) (v50 : Nat) (v51 : Nat → Nat) (v52 : Nat → ClassId) (v53 : Nat) (v54 : Nat → Nat) (v55 : Nat → ClassId) (v56 : Nat) (v57 : Nat → Nat) (v58 : Nat → ClassId) (v59 : Nat) (v60 : Nat → Nat) (v61 : Nat → ClassId) (v62 : Nat) (v63 : Nat → Nat) (v64 : Nat → ClassId) (v65 : Nat) (v66 : Nat → Nat) (v67 : Nat → ClassId) (v68 : Nat) (v69 : Nat → Nat) (v70 : Nat → ClassId) (v71 : Nat) (v72 : Nat → Nat) (v73 : Nat → ClassId) (v74 : Nat) (v75 : Nat → Nat) (v76 : Nat → ClassId) (v77 : Nat) (v78 : Nat → Nat) (v79 : Nat → ClassId) (v80 : Nat) (v81 : Nat) (v82 : Nat → Nat) (v83 : Nat → ClassId) (v84 : Nat) (v85 : ClassId) : List va_W := [[(a0, .inr (7, [.ref v0, .ref v3, .ref v6, .ref v9, .ref v12, .ref v74, .ref v77, .ref v80, .int 0, .int 0]))], bX6 v0 v1 v2 iX6 [], bX6 v3 v4 v5 iX6 [], bX7 v6 v7 v8 iX7 [], bX4 v9 v10 v11 iX4 [], [(v12, .inr (2, [.ref v13, .ref v15, .int 0, .int 0, .int 0]))], [(v13, .inl (v14, 16, .inr (.inr (.inr (.inr (va_up (va_up (va_up (va_up (va_up (va_up (va_up (va_up (va_up (va_up (va_up (va_up (va_up (va_up (va_up (va_up (fun _ => none) (0 : Int32).toNatClampNeg (some v17)) (1 : Int32).toNatClampNeg (some v20)) (2 : Int32).toNatClampNeg (some v23)) (3 : Int32).toNatClampNeg (some v26)) (4 : Int32).toNatClampNeg (some v29)) (5 : Int32).toNatClampNeg (some v32)) (6 : Int32).toNatClampNeg (some v35)) (7 : Int32).toNatClampNeg (some v38)) (8 : Int32).toNatClampNeg (some v41)) (9 : Int32).toNatClampNeg (some v44)) (10 : Int32).toNatClampNeg (some v47)) (11 : Int32).toNatClampNeg (some v50)) (12 : Int32).toNatClampNeg (some v53)) (13 : Int32).toNatClampNeg (some v56)) (14 : Int32).toNatClampNeg (some v59)) (15 : Int32).toNatClampNeg (some v62)))))))], [(v15, .inl (v16, 3, .inr (.inr (.inr (.inr (va_up (va_up (va_up (fun _ => none) (0 : Int32).toNatClampNeg (some v65)) (1 : Int32).toNatClampNeg (some v68)) (2 : Int32).toNatClampNeg (some v71)))))))], bX4 v17 v18 v19 iX4 [], bX4 v20 v21 v22 iX4 [], bX4 v23 v24 v25 iX4 [], bX4 v26 v27 v28 iX4 [], bX4 v29 v30 v31 iX4 [], bX4 v32 v33 v34 iX4 [], bX4 v35 v36 v37 iX4 [], bX4 v38 v39 v40 iX4 [], bX4 v41 v42 v43 iX4 [], bX4 v44 v45 v46 iX4 [], bX4 v47 v48 v49 iX4 [], bX4 v50 v51 v52 iX4 [], bX4 v53 v54 v55 iX4 [], bX4 v56 v57 v58 iX4 [], bX4 v59 v60 v61 iX4 [], bX4 v62 v63 v64 iX4 [], bX4 v65 v66 v67 iX4 [], bX4 v68 v69 v70 iX4 [], bX4 v71 v72 v73 iX4 [], bX8 v74 v75 v76 iX8 [], bX0 v77 v78 v79 iX0 [], [(v80, .inr (1, [.ref v81, .int 0, .int 0, .ref v84]))], bX4 v81 v82 v83 iX4 [], [(v84, .inl (v85, 6, .inl (fun _ => 0)))]]
theorem pool_cat (na : Nat → Nat) (nu : Nat → Nat → Nat) (nk : Nat → Nat → ClassId) (K : Nat → TX4_n) : pool na nu nk K = cat [bX4 (na 0) (nu 0) (nk 0) (K 0) [], bX4 (na 1) (nu 1) (nk 1) (K 1) [], bX4 (na 2) (nu 2) (nk 2) (K 2) [], bX4 (na 3) (nu 3) (nk 3) (K 3) [], bX4 (na 4) (nu 4) (nk 4) (K 4) [], bX4 (na 5) (nu 5) (nk 5) (K 5) [], bX4 (na 6) (nu 6) (nk 6) (K 6) [], bX4 (na 7) (nu 7) (nk 7) (K 7) [], bX4 (na 8) (nu 8) (nk 8) (K 8) [], bX4 (na 9) (nu 9) (nk 9) (K 9) [], bX4 (na 10) (nu 10) (nk 10) (K 10) [], bX4 (na 11) (nu 11) (nk 11) (K 11) [], bX4 (na 12) (nu 12) (nk 12) (K 12) [], bX4 (na 13) (nu 13) (nk 13) (K 13) [], bX4 (na 14) (nu 14) (nk 14) (K 14) [], bX4 (na 15) (nu 15) (nk 15) (K 15) [], bX4 (na 16) (nu 16) (nk 16) (K 16) [], bX4 (na 17) (nu 17) (nk 17) (K 17) [], bX4 (na 18) (nu 18) (nk 18) (K 18) []] [] := rfl
theorem cat_pool (L : List va_W) (na : Nat → Nat) (nu : Nat → Nat → Nat) (nk : Nat → Nat → ClassId) (K : Nat → TX4_n) (r : va_W) : cat (L ++ [bX4 (na 0) (nu 0) (nk 0) (K 0) [], bX4 (na 1) (nu 1) (nk 1) (K 1) [], bX4 (na 2) (nu 2) (nk 2) (K 2) [], bX4 (na 3) (nu 3) (nk 3) (K 3) [], bX4 (na 4) (nu 4) (nk 4) (K 4) [], bX4 (na 5) (nu 5) (nk 5) (K 5) [], bX4 (na 6) (nu 6) (nk 6) (K 6) [], bX4 (na 7) (nu 7) (nk 7) (K 7) [], bX4 (na 8) (nu 8) (nk 8) (K 8) [], bX4 (na 9) (nu 9) (nk 9) (K 9) [], bX4 (na 10) (nu 10) (nk 10) (K 10) [], bX4 (na 11) (nu 11) (nk 11) (K 11) [], bX4 (na 12) (nu 12) (nk 12) (K 12) [], bX4 (na 13) (nu 13) (nk 13) (K 13) [], bX4 (na 14) (nu 14) (nk 14) (K 14) [], bX4 (na 15) (nu 15) (nk 15) (K 15) [], bX4 (na 16) (nu 16) (nk 16) (K 16) [], bX4 (na 17) (nu 17) (nk 17) (K 17) [], bX4 (na 18) (nu 18) (nk 18) (K 18) []]) r = cat (L ++ [pool na nu nk K]) r := by
  rw [cat_app, cat_app, pool_cat]
  exact congrArg (cat L) (cat_nil _ r)
set_option maxHeartbeats 2000000 in
set_option maxRecDepth 20000 in
theorem x_start {dC : Nat → ClassId} {dI : Nat → Nat → Nat} {s : State} {H : Heap} {locs : List Loc} {wr : va_W} (a0 : Nat) (v0 : Nat) (v1 : Nat → Nat) (v2 : Nat → ClassId) (v3 : Nat) (v4 : Nat → Nat) (v5 : Nat → ClassId) (v6 : Nat) (v7 : Nat → Nat) (v8 : Nat → ClassId) (v9 : Nat) (v10 : Nat → Nat) (v11 : Nat → ClassId) (v12 : Nat) (v13 : Nat) (v14 : ClassId) (v15 : Nat) (v16 : ClassId) (v17 : Nat) (v18 : Nat → Nat) (v19 : Nat → ClassId) (v20 : Nat) (v21 : Nat → Nat) (v22 : Nat → ClassId) (v23 : Nat) (v24 : Nat → Nat) (v25 : Nat → ClassId) (v26 : Nat) (v27 : Nat → Nat) (v28 : Nat → ClassId) (v29 : Nat) (v30 : Nat → Nat) (v31 : Nat → ClassId) (v32 : Nat) (v33 : Nat → Nat) (v34 : Nat → ClassId) (v35 : Nat) (v36 : Nat → Nat) (v37 : Nat → ClassId) (v38 : Nat) (v39 : Nat → Nat) (v40 : Nat → ClassId) (v41 : Nat) (v42 : Nat → Nat) (v43 : Nat → ClassId) (v44 : Nat) (v45 : Nat → Nat) (v46 : Nat → ClassId) (v47 : Nat) (v48 : Nat → Nat) (v49 : Nat → ClassId) (v50 : Nat) (v51 : Nat → Nat) (v52 : Nat → ClassId) (v53 : Nat) (v54 : Nat → Nat) (v55 : Nat → ClassId) (v56 : Nat) (v57 : Nat → Nat) (v58 : Nat → ClassId) (v59 : Nat) (v60 : Nat → Nat) (v61 : Nat → ClassId) (v62 : Nat) (v63 : Nat → Nat) (v64 : Nat → ClassId) (v65 : Nat) (v66 : Nat → Nat) (v67 : Nat → ClassId) (v68 : Nat) (v69 : Nat → Nat) (v70 : Nat → ClassId) (v71 : Nat) (v72 : Nat → Nat) (v73 : Nat → ClassId) (v74 : Nat) (v75 : Nat → Nat) (v76 : Nat → ClassId) (v77 : Nat) (v78 : Nat → Nat) (v79 : Nat → ClassId) (v80 : Nat) (v81 : Nat) (v82 : Nat → Nat) (v83 : Nat → ClassId) (v84 : Nat) (v85 : ClassId) (hK : va_K (dC, dI) vwCl (tX6 v2 (tX6 v5 (tX7 v8 (tX4 v11 ((v14, .object RX4) :: (v16, .object RX4) :: ((v19 0), .int) :: ((v19 1), .int) :: ((v19 2), .int) :: ((v19 3), .int) :: ((v22 0), .int) :: ((v22 1), .int) :: ((v22 2), .int) :: ((v22 3), .int) :: ((v25 0), .int) :: ((v25 1), .int) :: ((v25 2), .int) :: ((v25 3), .int) :: ((v28 0), .int) :: ((v28 1), .int) :: ((v28 2), .int) :: ((v28 3), .int) :: ((v31 0), .int) :: ((v31 1), .int) :: ((v31 2), .int) :: ((v31 3), .int) :: ((v34 0), .int) :: ((v34 1), .int) :: ((v34 2), .int) :: ((v34 3), .int) :: ((v37 0), .int) :: ((v37 1), .int) :: ((v37 2), .int) :: ((v37 3), .int) :: ((v40 0), .int) :: ((v40 1), .int) :: ((v40 2), .int) :: ((v40 3), .int) :: ((v43 0), .int) :: ((v43 1), .int) :: ((v43 2), .int) :: ((v43 3), .int) :: ((v46 0), .int) :: ((v46 1), .int) :: ((v46 2), .int) :: ((v46 3), .int) :: ((v49 0), .int) :: ((v49 1), .int) :: ((v49 2), .int) :: ((v49 3), .int) :: ((v52 0), .int) :: ((v52 1), .int) :: ((v52 2), .int) :: ((v52 3), .int) :: ((v55 0), .int) :: ((v55 1), .int) :: ((v55 2), .int) :: ((v55 3), .int) :: ((v58 0), .int) :: ((v58 1), .int) :: ((v58 2), .int) :: ((v58 3), .int) :: ((v61 0), .int) :: ((v61 1), .int) :: ((v61 2), .int) :: ((v61 3), .int) :: ((v64 0), .int) :: ((v64 1), .int) :: ((v64 2), .int) :: ((v64 3), .int) :: ((v67 0), .int) :: ((v67 1), .int) :: ((v67 2), .int) :: ((v67 3), .int) :: ((v70 0), .int) :: ((v70 1), .int) :: ((v70 2), .int) :: ((v70 3), .int) :: ((v73 0), .int) :: ((v73 1), .int) :: ((v73 2), .int) :: ((v73 3), .int) :: tX8 v76 (tX0 v79 (((v83 0), .int) :: ((v83 1), .int) :: ((v83 2), .int) :: ((v83 3), .int) :: (v85, .int) :: []))))))) s) (hH : HS (dC, dI) s (cat (xL a0 v0 v1 v2 v3 v4 v5 v6 v7 v8 v9 v10 v11 v12 v13 v14 v15 v16 v17 v18 v19 v20 v21 v22 v23 v24 v25 v26 v27 v28 v29 v30 v31 v32 v33 v34 v35 v36 v37 v38 v39 v40 v41 v42 v43 v44 v45 v46 v47 v48 v49 v50 v51 v52 v53 v54 v55 v56 v57 v58 v59 v60 v61 v62 v63 v64 v65 v66 v67 v68 v69 v70 v71 v72 v73 v74 v75 v76 v77 v78 v79 v80 v81 v82 v83 v84 v85) wr) H locs) : ∃ A U C na nu nk, A 0 = a0 ∧ KX (dC, dI) s C nk ∧ HS (dC, dI) s (cat (wX A U C na nu nk ((0, 0), iX6, iX6, iX7, iX4, (0, 0, 0), (fun _ => iX4), iX8, iX0, (0, 0, fun _ => 0), iX4)) wr) H locs := by
  have hH := hH.perm (pm2 32 (xL a0 v0 v1 v2 v3 v4 v5 v6 v7 v8 v9 v10 v11 v12 v13 v14 v15 v16 v17 v18 v19 v20 v21 v22 v23 v24 v25 v26 v27 v28 v29 v30 v31 v32 v33 v34 v35 v36 v37 v38 v39 v40 v41 v42 v43 v44 v45 v46 v47 v48 v49 v50 v51 v52 v53 v54 v55 v56 v57 v58 v59 v60 v61 v62 v63 v64 v65 v66 v67 v68 v69 v70 v71 v72 v73 v74 v75 v76 v77 v78 v79 v80 v81 v82 v83 v84 v85) [6, 7, 0, 1, 2, 3, 4, 5, 8, 9, 10, 11, 12, 13, 14, 15, 16, 17, 18, 19, 20, 21, 22, 23, 24, 25, 26, 27, 28, 29, 30, 31] wr [[(v13, .inl (v14, 16, .inr (.inr (.inr (.inr (va_up (va_up (va_up (va_up (va_up (va_up (va_up (va_up (va_up (va_up (va_up (va_up (va_up (va_up (va_up (va_up (fun _ => none) (0 : Int32).toNatClampNeg (some v17)) (1 : Int32).toNatClampNeg (some v20)) (2 : Int32).toNatClampNeg (some v23)) (3 : Int32).toNatClampNeg (some v26)) (4 : Int32).toNatClampNeg (some v29)) (5 : Int32).toNatClampNeg (some v32)) (6 : Int32).toNatClampNeg (some v35)) (7 : Int32).toNatClampNeg (some v38)) (8 : Int32).toNatClampNeg (some v41)) (9 : Int32).toNatClampNeg (some v44)) (10 : Int32).toNatClampNeg (some v47)) (11 : Int32).toNatClampNeg (some v50)) (12 : Int32).toNatClampNeg (some v53)) (13 : Int32).toNatClampNeg (some v56)) (14 : Int32).toNatClampNeg (some v59)) (15 : Int32).toNatClampNeg (some v62)))))))]] [[(v15, .inl (v16, 3, .inr (.inr (.inr (.inr (va_up (va_up (va_up (fun _ => none) (0 : Int32).toNatClampNeg (some v65)) (1 : Int32).toNatClampNeg (some v68)) (2 : Int32).toNatClampNeg (some v71)))))))], [(a0, .inr (7, [.ref v0, .ref v3, .ref v6, .ref v9, .ref v12, .ref v74, .ref v77, .ref v80, .int 0, .int 0]))], bX6 v0 v1 v2 iX6 [], bX6 v3 v4 v5 iX6 [], bX7 v6 v7 v8 iX7 [], bX4 v9 v10 v11 iX4 [], [(v12, .inr (2, [.ref v13, .ref v15, .int 0, .int 0, .int 0]))], bX4 v17 v18 v19 iX4 [], bX4 v20 v21 v22 iX4 [], bX4 v23 v24 v25 iX4 [], bX4 v26 v27 v28 iX4 [], bX4 v29 v30 v31 iX4 [], bX4 v32 v33 v34 iX4 [], bX4 v35 v36 v37 iX4 [], bX4 v38 v39 v40 iX4 [], bX4 v41 v42 v43 iX4 [], bX4 v44 v45 v46 iX4 [], bX4 v47 v48 v49 iX4 [], bX4 v50 v51 v52 iX4 [], bX4 v53 v54 v55 iX4 [], bX4 v56 v57 v58 iX4 [], bX4 v59 v60 v61 iX4 [], bX4 v62 v63 v64 iX4 [], bX4 v65 v66 v67 iX4 [], bX4 v68 v69 v70 iX4 [], bX4 v71 v72 v73 iX4 [], bX8 v74 v75 v76 iX8 [], bX0 v77 v78 v79 iX0 [], [(v80, .inr (1, [.ref v81, .int 0, .int 0, .ref v84]))], bX4 v81 v82 v83 iX4 [], [(v84, .inl (v85, 6, .inl (fun _ => 0)))]] rfl (by decide) rfl)
  have hH : HS (dC, dI) s (cat [[(v13, .inl (v14, 16, .inr (.inr (.inr (.inr (kfK (fun i => match i with | 0 => v17 | 1 => v20 | 2 => v23 | 3 => v26 | 4 => v29 | 5 => v32 | 6 => v35 | 7 => v38 | 8 => v41 | 9 => v44 | 10 => v47 | 11 => v50 | 12 => v53 | 13 => v56 | 14 => v59 | 15 => v62 | 16 => v65 | 17 => v68 | 18 => v71 | _ => 0)))))))]] (cat [[(v15, .inl (v16, 3, .inr (.inr (.inr (.inr (va_up (va_up (va_up (fun _ => none) (0 : Int32).toNatClampNeg (some v65)) (1 : Int32).toNatClampNeg (some v68)) (2 : Int32).toNatClampNeg (some v71)))))))], [(a0, .inr (7, [.ref v0, .ref v3, .ref v6, .ref v9, .ref v12, .ref v74, .ref v77, .ref v80, .int 0, .int 0]))], bX6 v0 v1 v2 iX6 [], bX6 v3 v4 v5 iX6 [], bX7 v6 v7 v8 iX7 [], bX4 v9 v10 v11 iX4 [], [(v12, .inr (2, [.ref v13, .ref v15, .int 0, .int 0, .int 0]))], bX4 v17 v18 v19 iX4 [], bX4 v20 v21 v22 iX4 [], bX4 v23 v24 v25 iX4 [], bX4 v26 v27 v28 iX4 [], bX4 v29 v30 v31 iX4 [], bX4 v32 v33 v34 iX4 [], bX4 v35 v36 v37 iX4 [], bX4 v38 v39 v40 iX4 [], bX4 v41 v42 v43 iX4 [], bX4 v44 v45 v46 iX4 [], bX4 v47 v48 v49 iX4 [], bX4 v50 v51 v52 iX4 [], bX4 v53 v54 v55 iX4 [], bX4 v56 v57 v58 iX4 [], bX4 v59 v60 v61 iX4 [], bX4 v62 v63 v64 iX4 [], bX4 v65 v66 v67 iX4 [], bX4 v68 v69 v70 iX4 [], bX4 v71 v72 v73 iX4 [], bX8 v74 v75 v76 iX8 [], bX0 v77 v78 v79 iX0 [], [(v80, .inr (1, [.ref v81, .int 0, .int 0, .ref v84]))], bX4 v81 v82 v83 iX4 [], [(v84, .inl (v85, 6, .inl (fun _ => 0)))]] wr)) H locs := HS_q (g := kfK (fun i => match i with | 0 => v17 | 1 => v20 | 2 => v23 | 3 => v26 | 4 => v29 | 5 => v32 | 6 => v35 | 7 => v38 | 8 => v41 | 9 => v44 | 10 => v47 | 11 => v50 | 12 => v53 | 13 => v56 | 14 => v59 | 15 => v62 | 16 => v65 | 17 => v68 | 18 => v71 | _ => 0)) (fun j hj => by
    rcases (show j = 0 ∨ j = 1 ∨ j = 2 ∨ j = 3 ∨ j = 4 ∨ j = 5 ∨ j = 6 ∨ j = 7 ∨ j = 8 ∨ j = 9 ∨ j = 10 ∨ j = 11 ∨ j = 12 ∨ j = 13 ∨ j = 14 ∨ j = 15 by omega) with rfl | rfl | rfl | rfl | rfl | rfl | rfl | rfl | rfl | rfl | rfl | rfl | rfl | rfl | rfl | rfl <;> rfl) hH
  have hH := hH.perm (pm3 32 [[(v15, .inl (v16, 3, .inr (.inr (.inr (.inr (va_up (va_up (va_up (fun _ => none) (0 : Int32).toNatClampNeg (some v65)) (1 : Int32).toNatClampNeg (some v68)) (2 : Int32).toNatClampNeg (some v71)))))))], [(v13, .inl (v14, 16, .inr (.inr (.inr (.inr (kfK (fun i => match i with | 0 => v17 | 1 => v20 | 2 => v23 | 3 => v26 | 4 => v29 | 5 => v32 | 6 => v35 | 7 => v38 | 8 => v41 | 9 => v44 | 10 => v47 | 11 => v50 | 12 => v53 | 13 => v56 | 14 => v59 | 15 => v62 | 16 => v65 | 17 => v68 | 18 => v71 | _ => 0)))))))], [(a0, .inr (7, [.ref v0, .ref v3, .ref v6, .ref v9, .ref v12, .ref v74, .ref v77, .ref v80, .int 0, .int 0]))], bX6 v0 v1 v2 iX6 [], bX6 v3 v4 v5 iX6 [], bX7 v6 v7 v8 iX7 [], bX4 v9 v10 v11 iX4 [], [(v12, .inr (2, [.ref v13, .ref v15, .int 0, .int 0, .int 0]))], bX4 v17 v18 v19 iX4 [], bX4 v20 v21 v22 iX4 [], bX4 v23 v24 v25 iX4 [], bX4 v26 v27 v28 iX4 [], bX4 v29 v30 v31 iX4 [], bX4 v32 v33 v34 iX4 [], bX4 v35 v36 v37 iX4 [], bX4 v38 v39 v40 iX4 [], bX4 v41 v42 v43 iX4 [], bX4 v44 v45 v46 iX4 [], bX4 v47 v48 v49 iX4 [], bX4 v50 v51 v52 iX4 [], bX4 v53 v54 v55 iX4 [], bX4 v56 v57 v58 iX4 [], bX4 v59 v60 v61 iX4 [], bX4 v62 v63 v64 iX4 [], bX4 v65 v66 v67 iX4 [], bX4 v68 v69 v70 iX4 [], bX4 v71 v72 v73 iX4 [], bX8 v74 v75 v76 iX8 [], bX0 v77 v78 v79 iX0 [], [(v80, .inr (1, [.ref v81, .int 0, .int 0, .ref v84]))], bX4 v81 v82 v83 iX4 [], [(v84, .inl (v85, 6, .inl (fun _ => 0)))]] [1, 0, 2, 3, 4, 5, 6, 7, 8, 9, 10, 11, 12, 13, 14, 15, 16, 17, 18, 19, 20, 21, 22, 23, 24, 25, 26, 27, 28, 29, 30, 31] wr [[(v13, .inl (v14, 16, .inr (.inr (.inr (.inr (kfK (fun i => match i with | 0 => v17 | 1 => v20 | 2 => v23 | 3 => v26 | 4 => v29 | 5 => v32 | 6 => v35 | 7 => v38 | 8 => v41 | 9 => v44 | 10 => v47 | 11 => v50 | 12 => v53 | 13 => v56 | 14 => v59 | 15 => v62 | 16 => v65 | 17 => v68 | 18 => v71 | _ => 0)))))))]] [[(v15, .inl (v16, 3, .inr (.inr (.inr (.inr (va_up (va_up (va_up (fun _ => none) (0 : Int32).toNatClampNeg (some v65)) (1 : Int32).toNatClampNeg (some v68)) (2 : Int32).toNatClampNeg (some v71)))))))], [(a0, .inr (7, [.ref v0, .ref v3, .ref v6, .ref v9, .ref v12, .ref v74, .ref v77, .ref v80, .int 0, .int 0]))], bX6 v0 v1 v2 iX6 [], bX6 v3 v4 v5 iX6 [], bX7 v6 v7 v8 iX7 [], bX4 v9 v10 v11 iX4 [], [(v12, .inr (2, [.ref v13, .ref v15, .int 0, .int 0, .int 0]))], bX4 v17 v18 v19 iX4 [], bX4 v20 v21 v22 iX4 [], bX4 v23 v24 v25 iX4 [], bX4 v26 v27 v28 iX4 [], bX4 v29 v30 v31 iX4 [], bX4 v32 v33 v34 iX4 [], bX4 v35 v36 v37 iX4 [], bX4 v38 v39 v40 iX4 [], bX4 v41 v42 v43 iX4 [], bX4 v44 v45 v46 iX4 [], bX4 v47 v48 v49 iX4 [], bX4 v50 v51 v52 iX4 [], bX4 v53 v54 v55 iX4 [], bX4 v56 v57 v58 iX4 [], bX4 v59 v60 v61 iX4 [], bX4 v62 v63 v64 iX4 [], bX4 v65 v66 v67 iX4 [], bX4 v68 v69 v70 iX4 [], bX4 v71 v72 v73 iX4 [], bX8 v74 v75 v76 iX8 [], bX0 v77 v78 v79 iX0 [], [(v80, .inr (1, [.ref v81, .int 0, .int 0, .ref v84]))], bX4 v81 v82 v83 iX4 [], [(v84, .inl (v85, 6, .inl (fun _ => 0)))]] rfl (by decide) rfl)
  have hH : HS (dC, dI) s (cat [[(v15, .inl (v16, 3, .inr (.inr (.inr (.inr (kfM (fun i => match i with | 0 => v17 | 1 => v20 | 2 => v23 | 3 => v26 | 4 => v29 | 5 => v32 | 6 => v35 | 7 => v38 | 8 => v41 | 9 => v44 | 10 => v47 | 11 => v50 | 12 => v53 | 13 => v56 | 14 => v59 | 15 => v62 | 16 => v65 | 17 => v68 | 18 => v71 | _ => 0)))))))]] (cat [[(v13, .inl (v14, 16, .inr (.inr (.inr (.inr (kfK (fun i => match i with | 0 => v17 | 1 => v20 | 2 => v23 | 3 => v26 | 4 => v29 | 5 => v32 | 6 => v35 | 7 => v38 | 8 => v41 | 9 => v44 | 10 => v47 | 11 => v50 | 12 => v53 | 13 => v56 | 14 => v59 | 15 => v62 | 16 => v65 | 17 => v68 | 18 => v71 | _ => 0)))))))], [(a0, .inr (7, [.ref v0, .ref v3, .ref v6, .ref v9, .ref v12, .ref v74, .ref v77, .ref v80, .int 0, .int 0]))], bX6 v0 v1 v2 iX6 [], bX6 v3 v4 v5 iX6 [], bX7 v6 v7 v8 iX7 [], bX4 v9 v10 v11 iX4 [], [(v12, .inr (2, [.ref v13, .ref v15, .int 0, .int 0, .int 0]))], bX4 v17 v18 v19 iX4 [], bX4 v20 v21 v22 iX4 [], bX4 v23 v24 v25 iX4 [], bX4 v26 v27 v28 iX4 [], bX4 v29 v30 v31 iX4 [], bX4 v32 v33 v34 iX4 [], bX4 v35 v36 v37 iX4 [], bX4 v38 v39 v40 iX4 [], bX4 v41 v42 v43 iX4 [], bX4 v44 v45 v46 iX4 [], bX4 v47 v48 v49 iX4 [], bX4 v50 v51 v52 iX4 [], bX4 v53 v54 v55 iX4 [], bX4 v56 v57 v58 iX4 [], bX4 v59 v60 v61 iX4 [], bX4 v62 v63 v64 iX4 [], bX4 v65 v66 v67 iX4 [], bX4 v68 v69 v70 iX4 [], bX4 v71 v72 v73 iX4 [], bX8 v74 v75 v76 iX8 [], bX0 v77 v78 v79 iX0 [], [(v80, .inr (1, [.ref v81, .int 0, .int 0, .ref v84]))], bX4 v81 v82 v83 iX4 [], [(v84, .inl (v85, 6, .inl (fun _ => 0)))]] wr)) H locs := HS_q (g := kfM (fun i => match i with | 0 => v17 | 1 => v20 | 2 => v23 | 3 => v26 | 4 => v29 | 5 => v32 | 6 => v35 | 7 => v38 | 8 => v41 | 9 => v44 | 10 => v47 | 11 => v50 | 12 => v53 | 13 => v56 | 14 => v59 | 15 => v62 | 16 => v65 | 17 => v68 | 18 => v71 | _ => 0)) (fun j hj => by
    rcases (show j = 0 ∨ j = 1 ∨ j = 2 by omega) with rfl | rfl | rfl <;> rfl) hH
  have hH := hH.perm (pm3 32 (wX0 (fun i => match i with | 0 => a0 | 1 => v0 | 2 => v3 | 3 => v6 | 4 => v9 | 5 => v12 | 6 => v74 | 7 => v77 | 8 => v80 | 9 => v13 | 10 => v15 | 11 => v84 | 12 => v81 | _ => 0) (fun i => match i with | 1 => v1 | 2 => v4 | 3 => v7 | 4 => v10 | 6 => v75 | 7 => v78 | 12 => v82 | _ => (fun _ => 0)) (fun i => match i with | 1 => v2 | 2 => v5 | 3 => v8 | 4 => v11 | 6 => v76 | 7 => v79 | 12 => v83 | 9 => (fun _ => v14) | 10 => (fun _ => v16) | 11 => (fun _ => v85) | _ => (fun _ => v14)) (fun i => match i with | 0 => v17 | 1 => v20 | 2 => v23 | 3 => v26 | 4 => v29 | 5 => v32 | 6 => v35 | 7 => v38 | 8 => v41 | 9 => v44 | 10 => v47 | 11 => v50 | 12 => v53 | 13 => v56 | 14 => v59 | 15 => v62 | 16 => v65 | 17 => v68 | 18 => v71 | _ => 0) ((0, 0), iX6, iX6, iX7, iX4, (0, 0, 0), (fun _ => iX4), iX8, iX0, (0, 0, fun _ => 0), iX4) [bX4 ((fun i => match i with | 0 => v17 | 1 => v20 | 2 => v23 | 3 => v26 | 4 => v29 | 5 => v32 | 6 => v35 | 7 => v38 | 8 => v41 | 9 => v44 | 10 => v47 | 11 => v50 | 12 => v53 | 13 => v56 | 14 => v59 | 15 => v62 | 16 => v65 | 17 => v68 | 18 => v71 | _ => 0) 0) ((fun i => match i with | 0 => v18 | 1 => v21 | 2 => v24 | 3 => v27 | 4 => v30 | 5 => v33 | 6 => v36 | 7 => v39 | 8 => v42 | 9 => v45 | 10 => v48 | 11 => v51 | 12 => v54 | 13 => v57 | 14 => v60 | 15 => v63 | 16 => v66 | 17 => v69 | 18 => v72 | _ => (fun _ => 0)) 0) ((fun i => match i with | 0 => v19 | 1 => v22 | 2 => v25 | 3 => v28 | 4 => v31 | 5 => v34 | 6 => v37 | 7 => v40 | 8 => v43 | 9 => v46 | 10 => v49 | 11 => v52 | 12 => v55 | 13 => v58 | 14 => v61 | 15 => v64 | 16 => v67 | 17 => v70 | 18 => v73 | _ => v19) 0) iX4 [], bX4 ((fun i => match i with | 0 => v17 | 1 => v20 | 2 => v23 | 3 => v26 | 4 => v29 | 5 => v32 | 6 => v35 | 7 => v38 | 8 => v41 | 9 => v44 | 10 => v47 | 11 => v50 | 12 => v53 | 13 => v56 | 14 => v59 | 15 => v62 | 16 => v65 | 17 => v68 | 18 => v71 | _ => 0) 1) ((fun i => match i with | 0 => v18 | 1 => v21 | 2 => v24 | 3 => v27 | 4 => v30 | 5 => v33 | 6 => v36 | 7 => v39 | 8 => v42 | 9 => v45 | 10 => v48 | 11 => v51 | 12 => v54 | 13 => v57 | 14 => v60 | 15 => v63 | 16 => v66 | 17 => v69 | 18 => v72 | _ => (fun _ => 0)) 1) ((fun i => match i with | 0 => v19 | 1 => v22 | 2 => v25 | 3 => v28 | 4 => v31 | 5 => v34 | 6 => v37 | 7 => v40 | 8 => v43 | 9 => v46 | 10 => v49 | 11 => v52 | 12 => v55 | 13 => v58 | 14 => v61 | 15 => v64 | 16 => v67 | 17 => v70 | 18 => v73 | _ => v19) 1) iX4 [], bX4 ((fun i => match i with | 0 => v17 | 1 => v20 | 2 => v23 | 3 => v26 | 4 => v29 | 5 => v32 | 6 => v35 | 7 => v38 | 8 => v41 | 9 => v44 | 10 => v47 | 11 => v50 | 12 => v53 | 13 => v56 | 14 => v59 | 15 => v62 | 16 => v65 | 17 => v68 | 18 => v71 | _ => 0) 2) ((fun i => match i with | 0 => v18 | 1 => v21 | 2 => v24 | 3 => v27 | 4 => v30 | 5 => v33 | 6 => v36 | 7 => v39 | 8 => v42 | 9 => v45 | 10 => v48 | 11 => v51 | 12 => v54 | 13 => v57 | 14 => v60 | 15 => v63 | 16 => v66 | 17 => v69 | 18 => v72 | _ => (fun _ => 0)) 2) ((fun i => match i with | 0 => v19 | 1 => v22 | 2 => v25 | 3 => v28 | 4 => v31 | 5 => v34 | 6 => v37 | 7 => v40 | 8 => v43 | 9 => v46 | 10 => v49 | 11 => v52 | 12 => v55 | 13 => v58 | 14 => v61 | 15 => v64 | 16 => v67 | 17 => v70 | 18 => v73 | _ => v19) 2) iX4 [], bX4 ((fun i => match i with | 0 => v17 | 1 => v20 | 2 => v23 | 3 => v26 | 4 => v29 | 5 => v32 | 6 => v35 | 7 => v38 | 8 => v41 | 9 => v44 | 10 => v47 | 11 => v50 | 12 => v53 | 13 => v56 | 14 => v59 | 15 => v62 | 16 => v65 | 17 => v68 | 18 => v71 | _ => 0) 3) ((fun i => match i with | 0 => v18 | 1 => v21 | 2 => v24 | 3 => v27 | 4 => v30 | 5 => v33 | 6 => v36 | 7 => v39 | 8 => v42 | 9 => v45 | 10 => v48 | 11 => v51 | 12 => v54 | 13 => v57 | 14 => v60 | 15 => v63 | 16 => v66 | 17 => v69 | 18 => v72 | _ => (fun _ => 0)) 3) ((fun i => match i with | 0 => v19 | 1 => v22 | 2 => v25 | 3 => v28 | 4 => v31 | 5 => v34 | 6 => v37 | 7 => v40 | 8 => v43 | 9 => v46 | 10 => v49 | 11 => v52 | 12 => v55 | 13 => v58 | 14 => v61 | 15 => v64 | 16 => v67 | 17 => v70 | 18 => v73 | _ => v19) 3) iX4 [], bX4 ((fun i => match i with | 0 => v17 | 1 => v20 | 2 => v23 | 3 => v26 | 4 => v29 | 5 => v32 | 6 => v35 | 7 => v38 | 8 => v41 | 9 => v44 | 10 => v47 | 11 => v50 | 12 => v53 | 13 => v56 | 14 => v59 | 15 => v62 | 16 => v65 | 17 => v68 | 18 => v71 | _ => 0) 4) ((fun i => match i with | 0 => v18 | 1 => v21 | 2 => v24 | 3 => v27 | 4 => v30 | 5 => v33 | 6 => v36 | 7 => v39 | 8 => v42 | 9 => v45 | 10 => v48 | 11 => v51 | 12 => v54 | 13 => v57 | 14 => v60 | 15 => v63 | 16 => v66 | 17 => v69 | 18 => v72 | _ => (fun _ => 0)) 4) ((fun i => match i with | 0 => v19 | 1 => v22 | 2 => v25 | 3 => v28 | 4 => v31 | 5 => v34 | 6 => v37 | 7 => v40 | 8 => v43 | 9 => v46 | 10 => v49 | 11 => v52 | 12 => v55 | 13 => v58 | 14 => v61 | 15 => v64 | 16 => v67 | 17 => v70 | 18 => v73 | _ => v19) 4) iX4 [], bX4 ((fun i => match i with | 0 => v17 | 1 => v20 | 2 => v23 | 3 => v26 | 4 => v29 | 5 => v32 | 6 => v35 | 7 => v38 | 8 => v41 | 9 => v44 | 10 => v47 | 11 => v50 | 12 => v53 | 13 => v56 | 14 => v59 | 15 => v62 | 16 => v65 | 17 => v68 | 18 => v71 | _ => 0) 5) ((fun i => match i with | 0 => v18 | 1 => v21 | 2 => v24 | 3 => v27 | 4 => v30 | 5 => v33 | 6 => v36 | 7 => v39 | 8 => v42 | 9 => v45 | 10 => v48 | 11 => v51 | 12 => v54 | 13 => v57 | 14 => v60 | 15 => v63 | 16 => v66 | 17 => v69 | 18 => v72 | _ => (fun _ => 0)) 5) ((fun i => match i with | 0 => v19 | 1 => v22 | 2 => v25 | 3 => v28 | 4 => v31 | 5 => v34 | 6 => v37 | 7 => v40 | 8 => v43 | 9 => v46 | 10 => v49 | 11 => v52 | 12 => v55 | 13 => v58 | 14 => v61 | 15 => v64 | 16 => v67 | 17 => v70 | 18 => v73 | _ => v19) 5) iX4 [], bX4 ((fun i => match i with | 0 => v17 | 1 => v20 | 2 => v23 | 3 => v26 | 4 => v29 | 5 => v32 | 6 => v35 | 7 => v38 | 8 => v41 | 9 => v44 | 10 => v47 | 11 => v50 | 12 => v53 | 13 => v56 | 14 => v59 | 15 => v62 | 16 => v65 | 17 => v68 | 18 => v71 | _ => 0) 6) ((fun i => match i with | 0 => v18 | 1 => v21 | 2 => v24 | 3 => v27 | 4 => v30 | 5 => v33 | 6 => v36 | 7 => v39 | 8 => v42 | 9 => v45 | 10 => v48 | 11 => v51 | 12 => v54 | 13 => v57 | 14 => v60 | 15 => v63 | 16 => v66 | 17 => v69 | 18 => v72 | _ => (fun _ => 0)) 6) ((fun i => match i with | 0 => v19 | 1 => v22 | 2 => v25 | 3 => v28 | 4 => v31 | 5 => v34 | 6 => v37 | 7 => v40 | 8 => v43 | 9 => v46 | 10 => v49 | 11 => v52 | 12 => v55 | 13 => v58 | 14 => v61 | 15 => v64 | 16 => v67 | 17 => v70 | 18 => v73 | _ => v19) 6) iX4 [], bX4 ((fun i => match i with | 0 => v17 | 1 => v20 | 2 => v23 | 3 => v26 | 4 => v29 | 5 => v32 | 6 => v35 | 7 => v38 | 8 => v41 | 9 => v44 | 10 => v47 | 11 => v50 | 12 => v53 | 13 => v56 | 14 => v59 | 15 => v62 | 16 => v65 | 17 => v68 | 18 => v71 | _ => 0) 7) ((fun i => match i with | 0 => v18 | 1 => v21 | 2 => v24 | 3 => v27 | 4 => v30 | 5 => v33 | 6 => v36 | 7 => v39 | 8 => v42 | 9 => v45 | 10 => v48 | 11 => v51 | 12 => v54 | 13 => v57 | 14 => v60 | 15 => v63 | 16 => v66 | 17 => v69 | 18 => v72 | _ => (fun _ => 0)) 7) ((fun i => match i with | 0 => v19 | 1 => v22 | 2 => v25 | 3 => v28 | 4 => v31 | 5 => v34 | 6 => v37 | 7 => v40 | 8 => v43 | 9 => v46 | 10 => v49 | 11 => v52 | 12 => v55 | 13 => v58 | 14 => v61 | 15 => v64 | 16 => v67 | 17 => v70 | 18 => v73 | _ => v19) 7) iX4 [], bX4 ((fun i => match i with | 0 => v17 | 1 => v20 | 2 => v23 | 3 => v26 | 4 => v29 | 5 => v32 | 6 => v35 | 7 => v38 | 8 => v41 | 9 => v44 | 10 => v47 | 11 => v50 | 12 => v53 | 13 => v56 | 14 => v59 | 15 => v62 | 16 => v65 | 17 => v68 | 18 => v71 | _ => 0) 8) ((fun i => match i with | 0 => v18 | 1 => v21 | 2 => v24 | 3 => v27 | 4 => v30 | 5 => v33 | 6 => v36 | 7 => v39 | 8 => v42 | 9 => v45 | 10 => v48 | 11 => v51 | 12 => v54 | 13 => v57 | 14 => v60 | 15 => v63 | 16 => v66 | 17 => v69 | 18 => v72 | _ => (fun _ => 0)) 8) ((fun i => match i with | 0 => v19 | 1 => v22 | 2 => v25 | 3 => v28 | 4 => v31 | 5 => v34 | 6 => v37 | 7 => v40 | 8 => v43 | 9 => v46 | 10 => v49 | 11 => v52 | 12 => v55 | 13 => v58 | 14 => v61 | 15 => v64 | 16 => v67 | 17 => v70 | 18 => v73 | _ => v19) 8) iX4 [], bX4 ((fun i => match i with | 0 => v17 | 1 => v20 | 2 => v23 | 3 => v26 | 4 => v29 | 5 => v32 | 6 => v35 | 7 => v38 | 8 => v41 | 9 => v44 | 10 => v47 | 11 => v50 | 12 => v53 | 13 => v56 | 14 => v59 | 15 => v62 | 16 => v65 | 17 => v68 | 18 => v71 | _ => 0) 9) ((fun i => match i with | 0 => v18 | 1 => v21 | 2 => v24 | 3 => v27 | 4 => v30 | 5 => v33 | 6 => v36 | 7 => v39 | 8 => v42 | 9 => v45 | 10 => v48 | 11 => v51 | 12 => v54 | 13 => v57 | 14 => v60 | 15 => v63 | 16 => v66 | 17 => v69 | 18 => v72 | _ => (fun _ => 0)) 9) ((fun i => match i with | 0 => v19 | 1 => v22 | 2 => v25 | 3 => v28 | 4 => v31 | 5 => v34 | 6 => v37 | 7 => v40 | 8 => v43 | 9 => v46 | 10 => v49 | 11 => v52 | 12 => v55 | 13 => v58 | 14 => v61 | 15 => v64 | 16 => v67 | 17 => v70 | 18 => v73 | _ => v19) 9) iX4 [], bX4 ((fun i => match i with | 0 => v17 | 1 => v20 | 2 => v23 | 3 => v26 | 4 => v29 | 5 => v32 | 6 => v35 | 7 => v38 | 8 => v41 | 9 => v44 | 10 => v47 | 11 => v50 | 12 => v53 | 13 => v56 | 14 => v59 | 15 => v62 | 16 => v65 | 17 => v68 | 18 => v71 | _ => 0) 10) ((fun i => match i with | 0 => v18 | 1 => v21 | 2 => v24 | 3 => v27 | 4 => v30 | 5 => v33 | 6 => v36 | 7 => v39 | 8 => v42 | 9 => v45 | 10 => v48 | 11 => v51 | 12 => v54 | 13 => v57 | 14 => v60 | 15 => v63 | 16 => v66 | 17 => v69 | 18 => v72 | _ => (fun _ => 0)) 10) ((fun i => match i with | 0 => v19 | 1 => v22 | 2 => v25 | 3 => v28 | 4 => v31 | 5 => v34 | 6 => v37 | 7 => v40 | 8 => v43 | 9 => v46 | 10 => v49 | 11 => v52 | 12 => v55 | 13 => v58 | 14 => v61 | 15 => v64 | 16 => v67 | 17 => v70 | 18 => v73 | _ => v19) 10) iX4 [], bX4 ((fun i => match i with | 0 => v17 | 1 => v20 | 2 => v23 | 3 => v26 | 4 => v29 | 5 => v32 | 6 => v35 | 7 => v38 | 8 => v41 | 9 => v44 | 10 => v47 | 11 => v50 | 12 => v53 | 13 => v56 | 14 => v59 | 15 => v62 | 16 => v65 | 17 => v68 | 18 => v71 | _ => 0) 11) ((fun i => match i with | 0 => v18 | 1 => v21 | 2 => v24 | 3 => v27 | 4 => v30 | 5 => v33 | 6 => v36 | 7 => v39 | 8 => v42 | 9 => v45 | 10 => v48 | 11 => v51 | 12 => v54 | 13 => v57 | 14 => v60 | 15 => v63 | 16 => v66 | 17 => v69 | 18 => v72 | _ => (fun _ => 0)) 11) ((fun i => match i with | 0 => v19 | 1 => v22 | 2 => v25 | 3 => v28 | 4 => v31 | 5 => v34 | 6 => v37 | 7 => v40 | 8 => v43 | 9 => v46 | 10 => v49 | 11 => v52 | 12 => v55 | 13 => v58 | 14 => v61 | 15 => v64 | 16 => v67 | 17 => v70 | 18 => v73 | _ => v19) 11) iX4 [], bX4 ((fun i => match i with | 0 => v17 | 1 => v20 | 2 => v23 | 3 => v26 | 4 => v29 | 5 => v32 | 6 => v35 | 7 => v38 | 8 => v41 | 9 => v44 | 10 => v47 | 11 => v50 | 12 => v53 | 13 => v56 | 14 => v59 | 15 => v62 | 16 => v65 | 17 => v68 | 18 => v71 | _ => 0) 12) ((fun i => match i with | 0 => v18 | 1 => v21 | 2 => v24 | 3 => v27 | 4 => v30 | 5 => v33 | 6 => v36 | 7 => v39 | 8 => v42 | 9 => v45 | 10 => v48 | 11 => v51 | 12 => v54 | 13 => v57 | 14 => v60 | 15 => v63 | 16 => v66 | 17 => v69 | 18 => v72 | _ => (fun _ => 0)) 12) ((fun i => match i with | 0 => v19 | 1 => v22 | 2 => v25 | 3 => v28 | 4 => v31 | 5 => v34 | 6 => v37 | 7 => v40 | 8 => v43 | 9 => v46 | 10 => v49 | 11 => v52 | 12 => v55 | 13 => v58 | 14 => v61 | 15 => v64 | 16 => v67 | 17 => v70 | 18 => v73 | _ => v19) 12) iX4 [], bX4 ((fun i => match i with | 0 => v17 | 1 => v20 | 2 => v23 | 3 => v26 | 4 => v29 | 5 => v32 | 6 => v35 | 7 => v38 | 8 => v41 | 9 => v44 | 10 => v47 | 11 => v50 | 12 => v53 | 13 => v56 | 14 => v59 | 15 => v62 | 16 => v65 | 17 => v68 | 18 => v71 | _ => 0) 13) ((fun i => match i with | 0 => v18 | 1 => v21 | 2 => v24 | 3 => v27 | 4 => v30 | 5 => v33 | 6 => v36 | 7 => v39 | 8 => v42 | 9 => v45 | 10 => v48 | 11 => v51 | 12 => v54 | 13 => v57 | 14 => v60 | 15 => v63 | 16 => v66 | 17 => v69 | 18 => v72 | _ => (fun _ => 0)) 13) ((fun i => match i with | 0 => v19 | 1 => v22 | 2 => v25 | 3 => v28 | 4 => v31 | 5 => v34 | 6 => v37 | 7 => v40 | 8 => v43 | 9 => v46 | 10 => v49 | 11 => v52 | 12 => v55 | 13 => v58 | 14 => v61 | 15 => v64 | 16 => v67 | 17 => v70 | 18 => v73 | _ => v19) 13) iX4 [], bX4 ((fun i => match i with | 0 => v17 | 1 => v20 | 2 => v23 | 3 => v26 | 4 => v29 | 5 => v32 | 6 => v35 | 7 => v38 | 8 => v41 | 9 => v44 | 10 => v47 | 11 => v50 | 12 => v53 | 13 => v56 | 14 => v59 | 15 => v62 | 16 => v65 | 17 => v68 | 18 => v71 | _ => 0) 14) ((fun i => match i with | 0 => v18 | 1 => v21 | 2 => v24 | 3 => v27 | 4 => v30 | 5 => v33 | 6 => v36 | 7 => v39 | 8 => v42 | 9 => v45 | 10 => v48 | 11 => v51 | 12 => v54 | 13 => v57 | 14 => v60 | 15 => v63 | 16 => v66 | 17 => v69 | 18 => v72 | _ => (fun _ => 0)) 14) ((fun i => match i with | 0 => v19 | 1 => v22 | 2 => v25 | 3 => v28 | 4 => v31 | 5 => v34 | 6 => v37 | 7 => v40 | 8 => v43 | 9 => v46 | 10 => v49 | 11 => v52 | 12 => v55 | 13 => v58 | 14 => v61 | 15 => v64 | 16 => v67 | 17 => v70 | 18 => v73 | _ => v19) 14) iX4 [], bX4 ((fun i => match i with | 0 => v17 | 1 => v20 | 2 => v23 | 3 => v26 | 4 => v29 | 5 => v32 | 6 => v35 | 7 => v38 | 8 => v41 | 9 => v44 | 10 => v47 | 11 => v50 | 12 => v53 | 13 => v56 | 14 => v59 | 15 => v62 | 16 => v65 | 17 => v68 | 18 => v71 | _ => 0) 15) ((fun i => match i with | 0 => v18 | 1 => v21 | 2 => v24 | 3 => v27 | 4 => v30 | 5 => v33 | 6 => v36 | 7 => v39 | 8 => v42 | 9 => v45 | 10 => v48 | 11 => v51 | 12 => v54 | 13 => v57 | 14 => v60 | 15 => v63 | 16 => v66 | 17 => v69 | 18 => v72 | _ => (fun _ => 0)) 15) ((fun i => match i with | 0 => v19 | 1 => v22 | 2 => v25 | 3 => v28 | 4 => v31 | 5 => v34 | 6 => v37 | 7 => v40 | 8 => v43 | 9 => v46 | 10 => v49 | 11 => v52 | 12 => v55 | 13 => v58 | 14 => v61 | 15 => v64 | 16 => v67 | 17 => v70 | 18 => v73 | _ => v19) 15) iX4 [], bX4 ((fun i => match i with | 0 => v17 | 1 => v20 | 2 => v23 | 3 => v26 | 4 => v29 | 5 => v32 | 6 => v35 | 7 => v38 | 8 => v41 | 9 => v44 | 10 => v47 | 11 => v50 | 12 => v53 | 13 => v56 | 14 => v59 | 15 => v62 | 16 => v65 | 17 => v68 | 18 => v71 | _ => 0) 16) ((fun i => match i with | 0 => v18 | 1 => v21 | 2 => v24 | 3 => v27 | 4 => v30 | 5 => v33 | 6 => v36 | 7 => v39 | 8 => v42 | 9 => v45 | 10 => v48 | 11 => v51 | 12 => v54 | 13 => v57 | 14 => v60 | 15 => v63 | 16 => v66 | 17 => v69 | 18 => v72 | _ => (fun _ => 0)) 16) ((fun i => match i with | 0 => v19 | 1 => v22 | 2 => v25 | 3 => v28 | 4 => v31 | 5 => v34 | 6 => v37 | 7 => v40 | 8 => v43 | 9 => v46 | 10 => v49 | 11 => v52 | 12 => v55 | 13 => v58 | 14 => v61 | 15 => v64 | 16 => v67 | 17 => v70 | 18 => v73 | _ => v19) 16) iX4 [], bX4 ((fun i => match i with | 0 => v17 | 1 => v20 | 2 => v23 | 3 => v26 | 4 => v29 | 5 => v32 | 6 => v35 | 7 => v38 | 8 => v41 | 9 => v44 | 10 => v47 | 11 => v50 | 12 => v53 | 13 => v56 | 14 => v59 | 15 => v62 | 16 => v65 | 17 => v68 | 18 => v71 | _ => 0) 17) ((fun i => match i with | 0 => v18 | 1 => v21 | 2 => v24 | 3 => v27 | 4 => v30 | 5 => v33 | 6 => v36 | 7 => v39 | 8 => v42 | 9 => v45 | 10 => v48 | 11 => v51 | 12 => v54 | 13 => v57 | 14 => v60 | 15 => v63 | 16 => v66 | 17 => v69 | 18 => v72 | _ => (fun _ => 0)) 17) ((fun i => match i with | 0 => v19 | 1 => v22 | 2 => v25 | 3 => v28 | 4 => v31 | 5 => v34 | 6 => v37 | 7 => v40 | 8 => v43 | 9 => v46 | 10 => v49 | 11 => v52 | 12 => v55 | 13 => v58 | 14 => v61 | 15 => v64 | 16 => v67 | 17 => v70 | 18 => v73 | _ => v19) 17) iX4 [], bX4 ((fun i => match i with | 0 => v17 | 1 => v20 | 2 => v23 | 3 => v26 | 4 => v29 | 5 => v32 | 6 => v35 | 7 => v38 | 8 => v41 | 9 => v44 | 10 => v47 | 11 => v50 | 12 => v53 | 13 => v56 | 14 => v59 | 15 => v62 | 16 => v65 | 17 => v68 | 18 => v71 | _ => 0) 18) ((fun i => match i with | 0 => v18 | 1 => v21 | 2 => v24 | 3 => v27 | 4 => v30 | 5 => v33 | 6 => v36 | 7 => v39 | 8 => v42 | 9 => v45 | 10 => v48 | 11 => v51 | 12 => v54 | 13 => v57 | 14 => v60 | 15 => v63 | 16 => v66 | 17 => v69 | 18 => v72 | _ => (fun _ => 0)) 18) ((fun i => match i with | 0 => v19 | 1 => v22 | 2 => v25 | 3 => v28 | 4 => v31 | 5 => v34 | 6 => v37 | 7 => v40 | 8 => v43 | 9 => v46 | 10 => v49 | 11 => v52 | 12 => v55 | 13 => v58 | 14 => v61 | 15 => v64 | 16 => v67 | 17 => v70 | 18 => v73 | _ => v19) 18) iX4 []]) [2, 3, 4, 5, 6, 7, 1, 0, 27, 28, 29, 31, 30, 8, 9, 10, 11, 12, 13, 14, 15, 16, 17, 18, 19, 20, 21, 22, 23, 24, 25, 26] wr [[(v15, .inl (v16, 3, .inr (.inr (.inr (.inr (kfM (fun i => match i with | 0 => v17 | 1 => v20 | 2 => v23 | 3 => v26 | 4 => v29 | 5 => v32 | 6 => v35 | 7 => v38 | 8 => v41 | 9 => v44 | 10 => v47 | 11 => v50 | 12 => v53 | 13 => v56 | 14 => v59 | 15 => v62 | 16 => v65 | 17 => v68 | 18 => v71 | _ => 0)))))))]] [[(v13, .inl (v14, 16, .inr (.inr (.inr (.inr (kfK (fun i => match i with | 0 => v17 | 1 => v20 | 2 => v23 | 3 => v26 | 4 => v29 | 5 => v32 | 6 => v35 | 7 => v38 | 8 => v41 | 9 => v44 | 10 => v47 | 11 => v50 | 12 => v53 | 13 => v56 | 14 => v59 | 15 => v62 | 16 => v65 | 17 => v68 | 18 => v71 | _ => 0)))))))], [(a0, .inr (7, [.ref v0, .ref v3, .ref v6, .ref v9, .ref v12, .ref v74, .ref v77, .ref v80, .int 0, .int 0]))], bX6 v0 v1 v2 iX6 [], bX6 v3 v4 v5 iX6 [], bX7 v6 v7 v8 iX7 [], bX4 v9 v10 v11 iX4 [], [(v12, .inr (2, [.ref v13, .ref v15, .int 0, .int 0, .int 0]))], bX4 v17 v18 v19 iX4 [], bX4 v20 v21 v22 iX4 [], bX4 v23 v24 v25 iX4 [], bX4 v26 v27 v28 iX4 [], bX4 v29 v30 v31 iX4 [], bX4 v32 v33 v34 iX4 [], bX4 v35 v36 v37 iX4 [], bX4 v38 v39 v40 iX4 [], bX4 v41 v42 v43 iX4 [], bX4 v44 v45 v46 iX4 [], bX4 v47 v48 v49 iX4 [], bX4 v50 v51 v52 iX4 [], bX4 v53 v54 v55 iX4 [], bX4 v56 v57 v58 iX4 [], bX4 v59 v60 v61 iX4 [], bX4 v62 v63 v64 iX4 [], bX4 v65 v66 v67 iX4 [], bX4 v68 v69 v70 iX4 [], bX4 v71 v72 v73 iX4 [], bX8 v74 v75 v76 iX8 [], bX0 v77 v78 v79 iX0 [], [(v80, .inr (1, [.ref v81, .int 0, .int 0, .ref v84]))], bX4 v81 v82 v83 iX4 [], [(v84, .inl (v85, 6, .inl (fun _ => 0)))]] rfl (by decide) rfl)
  refine ⟨(fun i => match i with | 0 => a0 | 1 => v0 | 2 => v3 | 3 => v6 | 4 => v9 | 5 => v12 | 6 => v74 | 7 => v77 | 8 => v80 | 9 => v13 | 10 => v15 | 11 => v84 | 12 => v81 | _ => 0), (fun i => match i with | 1 => v1 | 2 => v4 | 3 => v7 | 4 => v10 | 6 => v75 | 7 => v78 | 12 => v82 | _ => (fun _ => 0)), (fun i => match i with | 1 => v2 | 2 => v5 | 3 => v8 | 4 => v11 | 6 => v76 | 7 => v79 | 12 => v83 | 9 => (fun _ => v14) | 10 => (fun _ => v16) | 11 => (fun _ => v85) | _ => (fun _ => v14)), (fun i => match i with | 0 => v17 | 1 => v20 | 2 => v23 | 3 => v26 | 4 => v29 | 5 => v32 | 6 => v35 | 7 => v38 | 8 => v41 | 9 => v44 | 10 => v47 | 11 => v50 | 12 => v53 | 13 => v56 | 14 => v59 | 15 => v62 | 16 => v65 | 17 => v68 | 18 => v71 | _ => 0), (fun i => match i with | 0 => v18 | 1 => v21 | 2 => v24 | 3 => v27 | 4 => v30 | 5 => v33 | 6 => v36 | 7 => v39 | 8 => v42 | 9 => v45 | 10 => v48 | 11 => v51 | 12 => v54 | 13 => v57 | 14 => v60 | 15 => v63 | 16 => v66 | 17 => v69 | 18 => v72 | _ => (fun _ => 0)), (fun i => match i with | 0 => v19 | 1 => v22 | 2 => v25 | 3 => v28 | 4 => v31 | 5 => v34 | 6 => v37 | 7 => v40 | 8 => v43 | 9 => v46 | 10 => v49 | 11 => v52 | 12 => v55 | 13 => v58 | 14 => v61 | 15 => v64 | 16 => v67 | 17 => v70 | 18 => v73 | _ => v19), rfl, ?_, ?_⟩
  · exact ⟨hK.sub [0, 1, 2, 3, 4, 5, 6, 7, 8] rfl, hK.sub [9, 10, 11, 12, 13, 14, 15, 16, 17] rfl, hK.sub [18, 19, 20] rfl, hK.sub [21, 22, 23, 24] rfl, hK.sub [25] rfl, hK.sub [26] rfl, hK.sub [103, 104] rfl, hK.sub [105] rfl, hK.sub [110] rfl, hK.sub [106, 107, 108, 109] rfl, fun i => by
      match i with
      | 0 => exact hK.sub [27, 28, 29, 30] rfl
      | 1 => exact hK.sub [31, 32, 33, 34] rfl
      | 2 => exact hK.sub [35, 36, 37, 38] rfl
      | 3 => exact hK.sub [39, 40, 41, 42] rfl
      | 4 => exact hK.sub [43, 44, 45, 46] rfl
      | 5 => exact hK.sub [47, 48, 49, 50] rfl
      | 6 => exact hK.sub [51, 52, 53, 54] rfl
      | 7 => exact hK.sub [55, 56, 57, 58] rfl
      | 8 => exact hK.sub [59, 60, 61, 62] rfl
      | 9 => exact hK.sub [63, 64, 65, 66] rfl
      | 10 => exact hK.sub [67, 68, 69, 70] rfl
      | 11 => exact hK.sub [71, 72, 73, 74] rfl
      | 12 => exact hK.sub [75, 76, 77, 78] rfl
      | 13 => exact hK.sub [79, 80, 81, 82] rfl
      | 14 => exact hK.sub [83, 84, 85, 86] rfl
      | 15 => exact hK.sub [87, 88, 89, 90] rfl
      | 16 => exact hK.sub [91, 92, 93, 94] rfl
      | 17 => exact hK.sub [95, 96, 97, 98] rfl
      | 18 => exact hK.sub [99, 100, 101, 102] rfl
      | (_ + 19) => exact hK.sub [27, 28, 29, 30] rfl⟩
  · have e := cat_pool (wX0 (fun i => match i with | 0 => a0 | 1 => v0 | 2 => v3 | 3 => v6 | 4 => v9 | 5 => v12 | 6 => v74 | 7 => v77 | 8 => v80 | 9 => v13 | 10 => v15 | 11 => v84 | 12 => v81 | _ => 0) (fun i => match i with | 1 => v1 | 2 => v4 | 3 => v7 | 4 => v10 | 6 => v75 | 7 => v78 | 12 => v82 | _ => (fun _ => 0)) (fun i => match i with | 1 => v2 | 2 => v5 | 3 => v8 | 4 => v11 | 6 => v76 | 7 => v79 | 12 => v83 | 9 => (fun _ => v14) | 10 => (fun _ => v16) | 11 => (fun _ => v85) | _ => (fun _ => v14)) (fun i => match i with | 0 => v17 | 1 => v20 | 2 => v23 | 3 => v26 | 4 => v29 | 5 => v32 | 6 => v35 | 7 => v38 | 8 => v41 | 9 => v44 | 10 => v47 | 11 => v50 | 12 => v53 | 13 => v56 | 14 => v59 | 15 => v62 | 16 => v65 | 17 => v68 | 18 => v71 | _ => 0) ((0, 0), iX6, iX6, iX7, iX4, (0, 0, 0), (fun _ => iX4), iX8, iX0, (0, 0, fun _ => 0), iX4) []) (fun i => match i with | 0 => v17 | 1 => v20 | 2 => v23 | 3 => v26 | 4 => v29 | 5 => v32 | 6 => v35 | 7 => v38 | 8 => v41 | 9 => v44 | 10 => v47 | 11 => v50 | 12 => v53 | 13 => v56 | 14 => v59 | 15 => v62 | 16 => v65 | 17 => v68 | 18 => v71 | _ => 0) (fun i => match i with | 0 => v18 | 1 => v21 | 2 => v24 | 3 => v27 | 4 => v30 | 5 => v33 | 6 => v36 | 7 => v39 | 8 => v42 | 9 => v45 | 10 => v48 | 11 => v51 | 12 => v54 | 13 => v57 | 14 => v60 | 15 => v63 | 16 => v66 | 17 => v69 | 18 => v72 | _ => (fun _ => 0)) (fun i => match i with | 0 => v19 | 1 => v22 | 2 => v25 | 3 => v28 | 4 => v31 | 5 => v34 | 6 => v37 | 7 => v40 | 8 => v43 | 9 => v46 | 10 => v49 | 11 => v52 | 12 => v55 | 13 => v58 | 14 => v61 | 15 => v64 | 16 => v67 | 17 => v70 | 18 => v73 | _ => v19) (fun _ => iX4) wr
    rw [show cat (wX (fun i => match i with | 0 => a0 | 1 => v0 | 2 => v3 | 3 => v6 | 4 => v9 | 5 => v12 | 6 => v74 | 7 => v77 | 8 => v80 | 9 => v13 | 10 => v15 | 11 => v84 | 12 => v81 | _ => 0) (fun i => match i with | 1 => v1 | 2 => v4 | 3 => v7 | 4 => v10 | 6 => v75 | 7 => v78 | 12 => v82 | _ => (fun _ => 0)) (fun i => match i with | 1 => v2 | 2 => v5 | 3 => v8 | 4 => v11 | 6 => v76 | 7 => v79 | 12 => v83 | 9 => (fun _ => v14) | 10 => (fun _ => v16) | 11 => (fun _ => v85) | _ => (fun _ => v14)) (fun i => match i with | 0 => v17 | 1 => v20 | 2 => v23 | 3 => v26 | 4 => v29 | 5 => v32 | 6 => v35 | 7 => v38 | 8 => v41 | 9 => v44 | 10 => v47 | 11 => v50 | 12 => v53 | 13 => v56 | 14 => v59 | 15 => v62 | 16 => v65 | 17 => v68 | 18 => v71 | _ => 0) (fun i => match i with | 0 => v18 | 1 => v21 | 2 => v24 | 3 => v27 | 4 => v30 | 5 => v33 | 6 => v36 | 7 => v39 | 8 => v42 | 9 => v45 | 10 => v48 | 11 => v51 | 12 => v54 | 13 => v57 | 14 => v60 | 15 => v63 | 16 => v66 | 17 => v69 | 18 => v72 | _ => (fun _ => 0)) (fun i => match i with | 0 => v19 | 1 => v22 | 2 => v25 | 3 => v28 | 4 => v31 | 5 => v34 | 6 => v37 | 7 => v40 | 8 => v43 | 9 => v46 | 10 => v49 | 11 => v52 | 12 => v55 | 13 => v58 | 14 => v61 | 15 => v64 | 16 => v67 | 17 => v70 | 18 => v73 | _ => v19) ((0, 0), iX6, iX6, iX7, iX4, (0, 0, 0), (fun _ => iX4), iX8, iX0, (0, 0, fun _ => 0), iX4)) wr = _ from e.symm]
    exact hH
def mL (a0 : Nat) (v0 : Nat) (v1 : ClassId) (v2 : Nat) (v3 : ClassId) (v4 : Nat) (v5 : ClassId) (v6 : Nat) (v7 : ClassId) (v8 : Nat) (v9 : ClassId) (v10 : Nat) (v11 : ClassId) (v12 : Nat) (v13 : ClassId) : List va_W := [[(a0, .inr (9, [.int 0, .int 0, .int (-1), .null, .null, .ref v0, .int 0, .int 0, .int 0, .int 0, .int 0, .int 0, .int 0, .int 0, .long 0, .ref v2, .ref v4, .ref v6, .ref v8, .int 0, .int 0, .ref v10, .ref v12, .int 0, .int 0, .int 0, .int 0, .int 0, .int 0, .int 0]))], [(v0, .inl (v1, 900, .inl (fun _ => 0)))], [(v2, .inl (v3, 26, .inl (fun _ => 0)))], [(v4, .inl (v5, 26, .inl (fun _ => 0)))], [(v6, .inl (v7, 416, .inl (fun _ => 0)))], [(v8, .inl (v9, 78, .inl (fun _ => 0)))], [(v10, .inl (v11, 5, .inl (fun _ => 0)))], [(v12, .inl (v13, 5, .inl (fun _ => 0)))]]
set_option maxRecDepth 20000 in
theorem m_start {dC : Nat → ClassId} {dI : Nat → Nat → Nat} {s : State} {H : Heap} {locs : List Loc} {wr : va_W} (a0 : Nat) (v0 : Nat) (v1 : ClassId) (v2 : Nat) (v3 : ClassId) (v4 : Nat) (v5 : ClassId) (v6 : Nat) (v7 : ClassId) (v8 : Nat) (v9 : ClassId) (v10 : Nat) (v11 : ClassId) (v12 : Nat) (v13 : ClassId) (hK : va_K (dC, dI) vwCl ((v1, .byte) :: (v3, .int) :: (v5, .int) :: (v7, .int) :: (v9, .int) :: (v11, .int) :: (v13, .int) :: []) s) (hH : HS (dC, dI) s (cat (mL a0 v0 v1 v2 v3 v4 v5 v6 v7 v8 v9 v10 v11 v12 v13) wr) H locs) : ∃ B E, B 0 = a0 ∧ KM (dC, dI) s E ∧ HS (dC, dI) s (cat (wMo B E ((0, 0, -1), ((fun _ => 0), 0, 0, 0, 0, 0, 0, 0, 0, 0), (fun _ => 0), (fun _ => 0), ((fun _ => 0), (fun _ => 0), 0, 0), ((fun _ => 0), (fun _ => 0), 0), (0, 0, 0), (0, 0, 0)) none .null 0 (fun _ => 0) (E)) wr) H locs := by
  refine ⟨(fun i => match i with | 0 => a0 | 1 => v0 | 2 => v2 | 3 => v4 | 4 => v6 | 5 => v8 | 6 => v10 | 7 => v12 | _ => 0), (fun i => match i with | 1 => v1 | 2 => v3 | 3 => v5 | 4 => v7 | 5 => v9 | 6 => v11 | 7 => v13 | _ => v1), rfl, ⟨hK.sub [0] rfl, hK.sub [1] rfl, hK.sub [2] rfl, hK.sub [3] rfl, hK.sub [4] rfl, hK.sub [5] rfl, hK.sub [6] rfl⟩, ?_⟩
  exact hH
/-! what the Statement gives of the start -/
def strPl : List (String × Nat × Nat) := [(RX7, 76, 21), (RX7, 129, 29), (RX7, 137, 38), (RX7, 141, 46), (RX7, 146, 54), (RX7, 88, 60), (RX7, 97, 68), (RX7, 105, 77), (RX7, 113, 87), (RX7, 121, 95), (RX7, 154, 103), (RX7, 208, 112), (RX7, 210, 121), (RX7, 212, 129), (RX7, 214, 137), (RX7, 165, 145), (RX7, 169, 151), (RX7, 173, 160), (RX7, 177, 170), (RX7, 184, 179), (RX7, 189, 188), (RX7, 216, 199), (RX7, 218, 206), (RX10, 373, 212), (RX12, 127, 241), (RX12, 196, 250), (RX12, 201, 260), (RX12, 203, 269), (RX12, 205, 278), (RX12, 129, 285), (RX12, 131, 294), (RX12, 133, 304), (RX12, 135, 315), (RX12, 137, 324), (RX12, 227, 333), (RX12, 234, 343), (RX12, 236, 353), (RX12, 238, 362), (RX12, 240, 371), (RX12, 242, 380), (RX12, 244, 387), (RX12, 246, 397), (RX12, 248, 408), (RX12, 254, 418), (RX12, 274, 428), (RX12, 276, 440), (RX12, 278, 448)]
def plz (z : String × Nat × String × List Int32) : Nat := ((strPl.find? (fun x => x.1 == z.1 && x.2.1 == z.2.1)).map (fun x => x.2.2)).getD 0
def strC (z : String × Nat × String × List Int32) : List Cond := Cond.exactly (.string z.1 z.2.1) "java/lang/String" :: Cond.eq (.field (.string z.1 z.2.1) "java/lang/String" "coder" "B") (.int 0) :: Cond.arrayOf (.field (.string z.1 z.2.1) "java/lang/String" "value" "[B") .byte :: Cond.eq (.length (.field (.string z.1 z.2.1) "java/lang/String" "value" "[B")) (.int (Int32.ofNat z.2.2.2.length)) :: (List.range z.2.2.2.length).map (fun j => Cond.eq (.elem (.field (.string z.1 z.2.1) "java/lang/String" "value" "[B") (.int (Int32.ofNat j))) (.int (z.2.2.2.getD j 0)))
theorem strC_at : strT.all (fun z => decide (strC z = ((flatC (Jvm.Cond.and given_1 narrow_1)).drop (plz z)).take (4 + z.2.2.2.length))) = true := by decide +kernel
theorem strT_len : strT.all (fun z => decide (z.2.2.2.length < 2 ^ 31)) = true := by decide +kernel
theorem strT_in : ∀ w ∈ strT.map (fun z => Cond.stringRef z.1 z.2.1 z.2.2.1), w ∈ lw_tbl := mem_r _ [500, 557, 571, 572, 573, 574, 591, 592, 593, 594, 609, 618, 619, 620, 621, 622, 623, 624, 625, 630, 639, 647, 648, 1193, 1452, 1470, 1486, 1487, 1488, 1489, 1506, 1507, 1508, 1509, 1522, 1527, 1528, 1529, 1530, 1531, 1532, 1533, 1534, 1539, 1548, 1549, 1550] (by decide +kernel)
theorem nwL_in : ∀ w ∈ nwL, w ∈ lw_tbl := mem_r nwL [140, 251, 299, 348, 369, 386, 401, 406, 570, 640, 677, 718, 771, 772, 773, 927, 928, 930, 1051, 1137, 1330, 1634, 1335, 1337, 1339, 1341, 1343, 1344, 1345, 1347, 1349, 1351, 1353, 1355, 1357, 1359, 1361, 1363, 1365, 1367, 1369, 1371, 1373, 1375, 1377, 1379] (by decide +kernel)
theorem strL_T : strL = strT.map (fun z => (z.1, z.2.1, z.2.2.1)) := by decide +kernel
theorem str_one {s : State} {b : Nat} (htb : ∀ w ∈ lw_tbl, w.before #[Value.ref b] s = true) (hgv : (Jvm.Cond.and given_1 narrow_1).before #[Value.ref b] s = true) (z : String × Nat × String × List Int32) (hz : z ∈ strT) : ∃ q, vk_R z.1 z.2.1 z.2.2.1 q s ∧ S1 s.heap.size q z.2.2.2 s := by
  have h : ∀ c ∈ strC z, c.before #[Value.ref b] s = true := fun c hc => flat_of_before _ hgv c (by
    rw [of_decide_eq_true (List.all_eq_true.mp strC_at z hz)] at hc
    exact List.mem_of_mem_drop (List.mem_of_mem_take hc))
  have hlt : z.2.2.2.length < 2 ^ 31 := of_decide_eq_true (List.all_eq_true.mp strT_len z hz)
  have hA : ∀ a : Nat, a < s.heap.size → ¬ (fun x : Nat => s.heap.size ≤ x) a := fun a h => Nat.not_le.mpr h
  have hex := h (Cond.exactly (.string z.1 z.2.1) "java/lang/String") List.mem_cons_self
  obtain ⟨a, c, cA, kA, q1, -⟩ := Cond.exactly_spec (args := #[Value.ref b]) (first := s) (o := none) (s := s) (idx := []) (t := .string z.1 z.2.1) (cls := "java/lang/String") hex
  obtain ⟨v, ev, hT⟩ := va_Tof (N := z.2.2.2.length) (f := fun j => .int (z.2.2.2.getD j 0)) (A := fun x : Nat => s.heap.size ≤ x) hlt (h (Cond.arrayOf (.field (.string z.1 z.2.1) "java/lang/String" "value" "[B") .byte) (List.mem_cons_of_mem _ (List.mem_cons_of_mem _ List.mem_cons_self))) (va_eqt (h (Cond.eq (.length (.field (.string z.1 z.2.1) "java/lang/String" "value" "[B")) (.int (Int32.ofNat z.2.2.2.length))) (List.mem_cons_of_mem _ (List.mem_cons_of_mem _ (List.mem_cons_of_mem _ List.mem_cons_self))))) (fun j hj => va_eqt (h (Cond.eq (.elem (.field (.string z.1 z.2.1) "java/lang/String" "value" "[B") (.int (Int32.ofNat j))) (.int (z.2.2.2.getD j 0))) (List.mem_cons_of_mem _ (List.mem_cons_of_mem _ (List.mem_cons_of_mem _ (List.mem_cons_of_mem _ (List.mem_map.mpr ⟨j, List.mem_range.mpr hj, rfl⟩))))))) hA
  exact ⟨a, vk_R.of (htb _ (strT_in _ (List.mem_map.mpr ⟨z, hz, rfl⟩))) q1, hlt, va_Oof hex q1 hA, vk_OFof q1 (va_eqt (h (Cond.eq (.field (.string z.1 z.2.1) "java/lang/String" "coder" "B") (.int 0)) (List.mem_cons_of_mem _ List.mem_cons_self))) hA, v, vk_OFof q1 ev hA, hT⟩
theorem nw_start {s : State} {b : Nat} (htb : ∀ w ∈ lw_tbl, w.before #[Value.ref b] s = true) (hgv : (Jvm.Cond.and given_1 narrow_1).before #[Value.ref b] s = true) : NW s := by
  refine ⟨fun w hw => va_Nw.of (List.all_eq_true.mp nwL_tab w hw) (htb w (nwL_in w hw)), fun C hC => ?_, fun z hz => ?_⟩
  · obtain rfl : C = RX4 := List.mem_singleton.mp hC
    exact va_AO.of (htb (.arrayOver (.object RX4)) (List.mem_of_getElem? (i := 347) (by decide +kernel)))
  · rw [strL_T] at hz
    obtain ⟨y, hy, rfl⟩ := List.mem_map.mp hz
    obtain ⟨q, h1, -⟩ := str_one htb hgv y hy
    exact ⟨q, h1⟩
theorem se_start {s : State} {b : Nat} (htb : ∀ w ∈ lw_tbl, w.before #[Value.ref b] s = true) (hgv : (Jvm.Cond.and given_1 narrow_1).before #[Value.ref b] s = true) : SE s.heap.size s := by
  have hA : ∀ a : Nat, a < s.heap.size → ¬ (fun x : Nat => s.heap.size ≤ x) a := fun a h => Nat.not_le.mpr h
  refine ⟨fun z hz => str_one htb hgv z hz, va_Zof (htb (.laysStatic "java/lang/String" "COMPACT_STRINGS" "Z") (by decide +kernel)) (htb (.initialized "java/lang/String") (by decide +kernel)) (va_eqi (flat_of_before _ hgv (.eq (.static "java/lang/String" "COMPACT_STRINGS" "Z") (.int 1)) (by decide +kernel))) hA, va_Zqof (htb (.laysStatic "jdk/internal/util/Preconditions" "SIOOBE_FORMATTER" "Ljava/util/function/BiFunction;") (by decide +kernel)) (htb (.initialized "jdk/internal/util/Preconditions") (by decide +kernel)) (flat_of_before _ hgv (.isRef (.static "jdk/internal/util/Preconditions" "SIOOBE_FORMATTER" "Ljava/util/function/BiFunction;")) (by decide +kernel)) hA⟩
set_option maxHeartbeats 2000000 in
set_option maxRecDepth 20000 in
/-- THE LAW's loop -/
theorem law_loop {p : Program} {l : Launch} {e : Env} {s : State} {m : MethodId} {below : List Frame} {meth : Method} {c : Code} {b L : Nat} {xs : Nat → Int32} {dC : Nat → ClassId} {dI : Nat → Nat → Nat} (C0 : LW p l s m meth c b L xs) (hL : L ≤ 3072) {h0 g0 q9 : Nat} : ∀ (k j : Nat) (H : Heap) (locs : List Loc) (ls : Array Slot), 512 ≤ j + k → j ≤ 512 → LI (dC, dI) s h0 g0 q9 H locs → lv_has ls 7 [(4, .int (nI (6 * j))), (3, .ref q9), (2, .ref g0), (1, .ref h0), (0, .ref b)] → W p l e room_1 s m #[Value.ref b] below meth c H locs (1000 + 50 * j) (10000 + 300 * j) (lw_Z below #[Value.ref b] s) (F0 m 23 ls []) := by
  obtain ⟨⟨hx, hb, hr, hml, hown, htb, hX, hbl, hlocks, hgv⟩, hN, hE, hl0⟩ := id C0
  have hb : c.code = cL_law := hb
  have hbA : ¬ (fun q : Nat => s.heap.size ≤ q) b := Nat.not_le.mpr hbl
  intro k
  induction k with
  | zero =>
    intro j H locs ls hk hj hI hl
    obtain ⟨A, U, C, na, nu, nk, X, B, E, M, o, RV, qa, qu, qk, cO, fO, -, -, -, -, -, -, -, hH⟩ := id hI
    have hS := hH.2.2
    refine lv_iload hx hb (zat zrL_law_0_ok 13 rfl) (lv_at hl 0 rfl) ?_
    refine lv_aload_n hx hb (zat zrL_law_0_ok 14 rfl) rfl (lv_at hl 4 rfl) ?_
    refine va_slen hx hb hX hbl hbA hS (zat zrL_law_0_ok 15 rfl) ?_
    refine lv_bipush (v := 6) hx hb (zat zrL_law_0_ok 16 rfl) (by decide) ?_
    refine lv_isub hx hb (zat zrL_law_0_ok 17 rfl) ?_
    refine lv_topi (fun z1 e1 => ?_)
    have ez : z1.toInt = (L : Int) - 6 := by
      have h1 : (nI L).toInt = (L : Int) := nI_toInt (by omega)
      rw [e1]
      show (nI L - 6).toInt = _
      rw [isub_t (by rw [h1, ltv_6]; omega) (by rw [h1, ltv_6]; omega), h1, ltv_6]
    refine lv_icmp_gt (tgt := 1959) hx hb (zat zrL_law_0_ok 18 rfl) (by decide) (fun _ => ?_) (fun c1 => absurd (show z1 < nI (6 * j) by rw [fa_lt, ez, nI_toInt (by omega)]; omega) c1)
    refine lv_iconst (v := 1) hx hb (zat zrL_law_19_ok 0 rfl) (by decide) ?_
    refine va_forget (fun q hq => hS.2.2 q hq) ?_
    refine W.widen (k := 601024) (n := 7293034) (by omega) (by omega) ?_
    exact lw_ret hx hb hr hlocks (zat zrL_law_19_ok 1 rfl)
  | succ k ih =>
    intro j H locs ls hk hj hI hl
    obtain ⟨A, U, C, na, nu, nk, X, B, E, M, o, RV, qa, qu, qk, cO, fO, -, -, -, -, -, -, -, hH⟩ := id hI
    have hS := hH.2.2
    refine lv_iload hx hb (zat zrL_law_0_ok 13 rfl) (lv_at hl 0 rfl) ?_
    refine lv_aload_n hx hb (zat zrL_law_0_ok 14 rfl) rfl (lv_at hl 4 rfl) ?_
    refine va_slen hx hb hX hbl hbA hS (zat zrL_law_0_ok 15 rfl) ?_
    refine lv_bipush (v := 6) hx hb (zat zrL_law_0_ok 16 rfl) (by decide) ?_
    refine lv_isub hx hb (zat zrL_law_0_ok 17 rfl) ?_
    refine lv_topi (fun z1 e1 => ?_)
    have ez : z1.toInt = (L : Int) - 6 := by
      have h1 : (nI L).toInt = (L : Int) := nI_toInt (by omega)
      rw [e1]
      show (nI L - 6).toInt = _
      rw [isub_t (by rw [h1, ltv_6]; omega) (by rw [h1, ltv_6]; omega), h1, ltv_6]
    refine lv_icmp_gt (tgt := 1959) hx hb (zat zrL_law_0_ok 18 rfl) (by decide) (fun _ => ?_) (fun c1 => ?_)
    · refine lv_iconst (v := 1) hx hb (zat zrL_law_19_ok 0 rfl) (by decide) ?_
      refine va_forget (fun q hq => hS.2.2 q hq) ?_
      refine W.widen (k := 601024) (n := 7293034) (by omega) (by omega) ?_
      exact lw_ret hx hb hr hlocks (zat zrL_law_19_ok 1 rfl)
    have hn : 6 * j + 6 ≤ L := by
      rw [fa_lt, ez, nI_toInt (by omega)] at c1
      omega
    have next : ∀ (H : Heap) (locs : List Loc), LI (dC, dI) s h0 g0 q9 H locs → ∀ ls : Array Slot, lv_has ls 7 [(4, .int (nI (6 * j))), (3, .ref q9), (2, .ref g0), (1, .ref h0), (0, .ref b)] → W p l e room_1 s m #[Value.ref b] below meth c H locs (1000 + 50 * j + 50) (10000 + 300 * j + 300) (lw_Z below #[Value.ref b] s) (F0 m 1953 ls []) := by
      intro H locs hI ls hl
      refine lv_iinc (v := nI (6 * (j + 1))) (lv' := [(4, .int (nI (6 * (j + 1)))), (3, .ref q9), (2, .ref g0), (1, .ref h0), (0, .ref b)]) hx hb (zat zrL_law_18_ok 62 rfl) hl (k := 0) rfl (nI_add (6 * j) 6) (by decide) rfl (fun ls hl => ?_)
      refine lv_goto (tgt := 23) hx hb (zat zrL_law_18_ok 63 rfl) (by decide) ?_
      exact W.widen (by omega) (by omega) (ih (j + 1) H locs ls (by omega) (by omega) hI hl)
    have hcs : 1000 + 50 * j ≤ 400000 ∧ 10000 + 300 * j ≤ 6000000 := ⟨by omega, by omega⟩
    refine lv_aload_n hx hb (zat zrL_law_0_ok 19 rfl) rfl (lv_at hl 4 rfl) ?_
    refine lv_iload hx hb (zat zrL_law_0_ok 20 rfl) (lv_at hl 0 rfl) ?_
    refine va_sld hx hb hX hbl hbA hS (vp_in_nI (show 6 * j < L by omega) (by omega)) (zat zrL_law_0_ok 21 rfl) ?_
    refine lv_bipush (v := 63) hx hb (zat zrL_law_0_ok 22 rfl) (by decide) ?_
    refine lv_iand hx hb (zat zrL_law_0_ok 23 rfl) ?_
    refine lv_topi (fun z2 e2 => ?_)
    obtain ⟨i, hi, ei⟩ := pk_andE (xs (nI (6 * j)).toNatClampNeg) (m := 63) 6 (by decide)
    have hi : i < 64 := hi
    rcases (show i = 0 ∨ i = 1 ∨ i = 2 ∨ i = 3 ∨ i = 4 ∨ i = 5 ∨ i = 6 ∨ i = 7 ∨ i = 8 ∨ i = 9 ∨ i = 10 ∨ i = 11 ∨ i = 12 ∨ i = 13 ∨ i = 14 ∨ i = 15 ∨ i = 16 ∨ i = 17 ∨ i = 18 ∨ i = 19 ∨ i = 20 ∨ i = 21 ∨ i = 22 ∨ i = 23 ∨ i = 24 ∨ i = 25 ∨ i = 26 ∨ i = 27 ∨ i = 28 ∨ i = 29 ∨ i = 30 ∨ i = 31 ∨ i = 32 ∨ i = 33 ∨ i = 34 ∨ i = 35 ∨ i = 36 ∨ i = 37 ∨ i = 38 ∨ i = 39 ∨ i = 40 ∨ i = 41 ∨ i = 42 ∨ i = 43 ∨ i = 44 ∨ i = 45 ∨ i = 46 ∨ i = 47 ∨ i = 48 ∨ i = 49 ∨ 50 ≤ i by omega) with rfl | rfl | rfl | rfl | rfl | rfl | rfl | rfl | rfl | rfl | rfl | rfl | rfl | rfl | rfl | rfl | rfl | rfl | rfl | rfl | rfl | rfl | rfl | rfl | rfl | rfl | rfl | rfl | rfl | rfl | rfl | rfl | rfl | rfl | rfl | rfl | rfl | rfl | rfl | rfl | rfl | rfl | rfl | rfl | rfl | rfl | rfl | rfl | rfl | rfl | hge
    · obtain rfl : z2 = 0 := (e2.trans ei).trans (by decide)
      refine lv_tableIn (tgt := 256) hx hb dL_law_40 (by decide) (by decide) rfl (by decide) ?_
      exact lc_0 C0 hL hn hI hcs ls hl next
    · obtain rfl : z2 = 1 := (e2.trans ei).trans (by decide)
      refine lv_tableIn (tgt := 329) hx hb dL_law_40 (by decide) (by decide) rfl (by decide) ?_
      exact lc_1 C0 hL hn hI hcs ls hl next
    · obtain rfl : z2 = 2 := (e2.trans ei).trans (by decide)
      refine lv_tableIn (tgt := 354) hx hb dL_law_40 (by decide) (by decide) rfl (by decide) ?_
      exact lc_2 C0 hL hn hI hcs ls hl next
    · obtain rfl : z2 = 3 := (e2.trans ei).trans (by decide)
      refine lv_tableIn (tgt := 367) hx hb dL_law_40 (by decide) (by decide) rfl (by decide) ?_
      exact lc_3 C0 hL hn hI hcs ls hl next
    · obtain rfl : z2 = 4 := (e2.trans ei).trans (by decide)
      refine lv_tableIn (tgt := 380) hx hb dL_law_40 (by decide) (by decide) rfl (by decide) ?_
      exact lc_4 C0 hL hn hI hcs ls hl next
    · obtain rfl : z2 = 5 := (e2.trans ei).trans (by decide)
      refine lv_tableIn (tgt := 417) hx hb dL_law_40 (by decide) (by decide) rfl (by decide) ?_
      exact lc_5 C0 hL hn hI hcs ls hl next
    · obtain rfl : z2 = 6 := (e2.trans ei).trans (by decide)
      refine lv_tableIn (tgt := 454) hx hb dL_law_40 (by decide) (by decide) rfl (by decide) ?_
      exact lc_6 C0 hL hn hI hcs ls hl next
    · obtain rfl : z2 = 7 := (e2.trans ei).trans (by decide)
      refine lv_tableIn (tgt := 479) hx hb dL_law_40 (by decide) (by decide) rfl (by decide) ?_
      exact lc_7 C0 hL hn hI hcs ls hl next
    · obtain rfl : z2 = 8 := (e2.trans ei).trans (by decide)
      refine lv_tableIn (tgt := 540) hx hb dL_law_40 (by decide) (by decide) rfl (by decide) ?_
      exact lc_8 C0 hL hn hI hcs ls hl next
    · obtain rfl : z2 = 9 := (e2.trans ei).trans (by decide)
      refine lv_tableIn (tgt := 629) hx hb dL_law_40 (by decide) (by decide) rfl (by decide) ?_
      exact lc_9 C0 hL hn hI hcs ls hl next
    · obtain rfl : z2 = 10 := (e2.trans ei).trans (by decide)
      refine lv_tableIn (tgt := 706) hx hb dL_law_40 (by decide) (by decide) rfl (by decide) ?_
      exact lc_10 C0 hL hn hI hcs ls hl next
    · obtain rfl : z2 = 11 := (e2.trans ei).trans (by decide)
      refine lv_tableIn (tgt := 783) hx hb dL_law_40 (by decide) (by decide) rfl (by decide) ?_
      exact lc_11 C0 hL hn hI hcs ls hl next
    · obtain rfl : z2 = 12 := (e2.trans ei).trans (by decide)
      refine lv_tableIn (tgt := 832) hx hb dL_law_40 (by decide) (by decide) rfl (by decide) ?_
      exact lc_12 C0 hL hn hI hcs ls hl next
    · obtain rfl : z2 = 13 := (e2.trans ei).trans (by decide)
      refine lv_tableIn (tgt := 857) hx hb dL_law_40 (by decide) (by decide) rfl (by decide) ?_
      exact lc_13 C0 hL hn hI hcs ls hl next
    · obtain rfl : z2 = 14 := (e2.trans ei).trans (by decide)
      refine lv_tableIn (tgt := 910) hx hb dL_law_40 (by decide) (by decide) rfl (by decide) ?_
      exact lc_14 C0 hL hn hI hcs ls hl next
    · obtain rfl : z2 = 15 := (e2.trans ei).trans (by decide)
      refine lv_tableIn (tgt := 923) hx hb dL_law_40 (by decide) (by decide) rfl (by decide) ?_
      exact lc_15 C0 hL hn hI hcs ls hl next
    · obtain rfl : z2 = 16 := (e2.trans ei).trans (by decide)
      refine lv_tableIn (tgt := 936) hx hb dL_law_40 (by decide) (by decide) rfl (by decide) ?_
      exact lc_16 C0 hL hn hI hcs ls hl next
    · obtain rfl : z2 = 17 := (e2.trans ei).trans (by decide)
      refine lv_tableIn (tgt := 997) hx hb dL_law_40 (by decide) (by decide) rfl (by decide) ?_
      exact lc_17 C0 hL hn hI hcs ls hl next
    · obtain rfl : z2 = 18 := (e2.trans ei).trans (by decide)
      refine lv_tableIn (tgt := 1022) hx hb dL_law_40 (by decide) (by decide) rfl (by decide) ?_
      exact lc_18 C0 hL hn hI hcs ls hl next
    · obtain rfl : z2 = 19 := (e2.trans ei).trans (by decide)
      refine lv_tableIn (tgt := 1083) hx hb dL_law_40 (by decide) (by decide) rfl (by decide) ?_
      exact lc_19 C0 hL hn hI hcs ls hl next
    · obtain rfl : z2 = 20 := (e2.trans ei).trans (by decide)
      refine lv_tableIn (tgt := 1096) hx hb dL_law_40 (by decide) (by decide) rfl (by decide) ?_
      exact lc_20 C0 hL hn hI hcs ls hl next
    · obtain rfl : z2 = 21 := (e2.trans ei).trans (by decide)
      refine lv_tableIn (tgt := 1121) hx hb dL_law_40 (by decide) (by decide) rfl (by decide) ?_
      exact lc_21 C0 hL hn hI hcs ls hl next
    · obtain rfl : z2 = 22 := (e2.trans ei).trans (by decide)
      refine lv_tableIn (tgt := 1134) hx hb dL_law_40 (by decide) (by decide) rfl (by decide) ?_
      exact lc_22 C0 hL hn hI hcs ls hl next
    · obtain rfl : z2 = 23 := (e2.trans ei).trans (by decide)
      refine lv_tableIn (tgt := 1147) hx hb dL_law_40 (by decide) (by decide) rfl (by decide) ?_
      exact lc_23 C0 hL hn hI hcs ls hl next
    · obtain rfl : z2 = 24 := (e2.trans ei).trans (by decide)
      refine lv_tableIn (tgt := 1172) hx hb dL_law_40 (by decide) (by decide) rfl (by decide) ?_
      exact lc_24 C0 hL hn hI hcs ls hl next
    · obtain rfl : z2 = 25 := (e2.trans ei).trans (by decide)
      refine lv_tableIn (tgt := 1185) hx hb dL_law_40 (by decide) (by decide) rfl (by decide) ?_
      exact lc_25 C0 hL hn hI hcs ls hl next
    · obtain rfl : z2 = 26 := (e2.trans ei).trans (by decide)
      refine lv_tableIn (tgt := 1198) hx hb dL_law_40 (by decide) (by decide) rfl (by decide) ?_
      exact lc_26 C0 hL hn hI hcs ls hl next
    · obtain rfl : z2 = 27 := (e2.trans ei).trans (by decide)
      refine lv_tableIn (tgt := 1211) hx hb dL_law_40 (by decide) (by decide) rfl (by decide) ?_
      exact lc_27 C0 hL hn hI hcs ls hl next
    · obtain rfl : z2 = 28 := (e2.trans ei).trans (by decide)
      refine lv_tableIn (tgt := 1236) hx hb dL_law_40 (by decide) (by decide) rfl (by decide) ?_
      exact lc_28 C0 hL hn hI hcs ls hl next
    · obtain rfl : z2 = 29 := (e2.trans ei).trans (by decide)
      refine lv_tableIn (tgt := 1285) hx hb dL_law_40 (by decide) (by decide) rfl (by decide) ?_
      exact lc_29 C0 hL hn hI hcs ls hl next
    · obtain rfl : z2 = 30 := (e2.trans ei).trans (by decide)
      refine lv_tableIn (tgt := 1310) hx hb dL_law_40 (by decide) (by decide) rfl (by decide) ?_
      exact lc_30 C0 hL hn hI hcs ls hl next
    · obtain rfl : z2 = 31 := (e2.trans ei).trans (by decide)
      refine lv_tableIn (tgt := 1335) hx hb dL_law_40 (by decide) (by decide) rfl (by decide) ?_
      exact lc_31 C0 hL hn hI hcs ls hl next
    · obtain rfl : z2 = 32 := (e2.trans ei).trans (by decide)
      refine lv_tableIn (tgt := 1348) hx hb dL_law_40 (by decide) (by decide) rfl (by decide) ?_
      exact lc_32 C0 hL hn hI hcs ls hl next
    · obtain rfl : z2 = 33 := (e2.trans ei).trans (by decide)
      refine lv_tableIn (tgt := 1437) hx hb dL_law_40 (by decide) (by decide) rfl (by decide) ?_
      exact lc_33 C0 hL hn hI hcs ls hl next
    · obtain rfl : z2 = 34 := (e2.trans ei).trans (by decide)
      refine lv_tableIn (tgt := 1514) hx hb dL_law_40 (by decide) (by decide) rfl (by decide) ?_
      exact lc_34 C0 hL hn hI hcs ls hl next
    · obtain rfl : z2 = 35 := (e2.trans ei).trans (by decide)
      refine lv_tableIn (tgt := 1539) hx hb dL_law_40 (by decide) (by decide) rfl (by decide) ?_
      exact lc_35 C0 hL hn hI hcs ls hl next
    · obtain rfl : z2 = 36 := (e2.trans ei).trans (by decide)
      refine lv_tableIn (tgt := 1564) hx hb dL_law_40 (by decide) (by decide) rfl (by decide) ?_
      exact lc_36 C0 hL hn hI hcs ls hl next
    · obtain rfl : z2 = 37 := (e2.trans ei).trans (by decide)
      refine lv_tableIn (tgt := 1601) hx hb dL_law_40 (by decide) (by decide) rfl (by decide) ?_
      exact lc_37 C0 hL hn hI hcs ls hl next
    · obtain rfl : z2 = 38 := (e2.trans ei).trans (by decide)
      refine lv_tableIn (tgt := 1650) hx hb dL_law_40 (by decide) (by decide) rfl (by decide) ?_
      exact lc_38 C0 hL hn hI hcs ls hl next
    · obtain rfl : z2 = 39 := (e2.trans ei).trans (by decide)
      refine lv_tableIn (tgt := 1687) hx hb dL_law_40 (by decide) (by decide) rfl (by decide) ?_
      exact lc_39 C0 hL hn hI hcs ls hl next
    · obtain rfl : z2 = 40 := (e2.trans ei).trans (by decide)
      refine lv_tableIn (tgt := 1748) hx hb dL_law_40 (by decide) (by decide) rfl (by decide) ?_
      exact lc_40 C0 hL hn hI hcs ls hl next
    · obtain rfl : z2 = 41 := (e2.trans ei).trans (by decide)
      refine lv_tableIn (tgt := 1773) hx hb dL_law_40 (by decide) (by decide) rfl (by decide) ?_
      exact lc_41 C0 hL hn hI hcs ls hl next
    · obtain rfl : z2 = 42 := (e2.trans ei).trans (by decide)
      refine lv_tableIn (tgt := 1798) hx hb dL_law_40 (by decide) (by decide) rfl (by decide) ?_
      exact lc_42 C0 hL hn hI hcs ls hl next
    · obtain rfl : z2 = 43 := (e2.trans ei).trans (by decide)
      refine lv_tableIn (tgt := 1811) hx hb dL_law_40 (by decide) (by decide) rfl (by decide) ?_
      exact lc_43 C0 hL hn hI hcs ls hl next
    · obtain rfl : z2 = 44 := (e2.trans ei).trans (by decide)
      refine lv_tableIn (tgt := 1836) hx hb dL_law_40 (by decide) (by decide) rfl (by decide) ?_
      exact lc_44 C0 hL hn hI hcs ls hl next
    · obtain rfl : z2 = 45 := (e2.trans ei).trans (by decide)
      refine lv_tableIn (tgt := 1849) hx hb dL_law_40 (by decide) (by decide) rfl (by decide) ?_
      exact lc_45 C0 hL hn hI hcs ls hl next
    · obtain rfl : z2 = 46 := (e2.trans ei).trans (by decide)
      refine lv_tableIn (tgt := 1862) hx hb dL_law_40 (by decide) (by decide) rfl (by decide) ?_
      exact lc_46 C0 hL hn hI hcs ls hl next
    · obtain rfl : z2 = 47 := (e2.trans ei).trans (by decide)
      refine lv_tableIn (tgt := 1887) hx hb dL_law_40 (by decide) (by decide) rfl (by decide) ?_
      exact lc_47 C0 hL hn hI hcs ls hl next
    · obtain rfl : z2 = 48 := (e2.trans ei).trans (by decide)
      refine lv_tableIn (tgt := 1915) hx hb dL_law_40 (by decide) (by decide) rfl (by decide) ?_
      exact lc_48 C0 hL hn hI hcs ls hl next
    · obtain rfl : z2 = 49 := (e2.trans ei).trans (by decide)
      refine lv_tableIn (tgt := 1940) hx hb dL_law_40 (by decide) (by decide) rfl (by decide) ?_
      exact lc_49 C0 hL hn hI hcs ls hl next
    · have e3 : z2 = nI i := e2.trans ei
      refine lv_tableOut (tgt := 1953) hx hb dL_law_40 (Or.inr (by rw [e3, nI_toInt (by omega)]; omega)) (by decide) ?_
      exact W.widen (by omega) (by omega) (next H locs hI ls hl)
