/-! A made exception whose own <init>(String) links its super's by another entry than 7: the road of the library's ctorThrowS, its chain begun by one pass more; the cell's class and kind are all that is told of it. -/
def ox_atoms (own : String) (ic : Nat) (X Y : String) (r : List String) (idx : Nat) (bytes : ByteArray) : List Cond :=
  Bundle.throwableAtoms ++ Bundle.throwableSAtoms ++ (Bundle.passSAtoms X Y idx bytes ++ Bundle.chainSAtoms Y r) ++
  [.methodLink own ic (Bundle.initS X), .instantiable X 6, .castable X X, .selects X Bundle.tFill0 Bundle.tFill0, .selects X Bundle.tFill Bundle.tFill,
   .lays X Bundle.tN "cause" "Ljava/lang/Throwable;", .lays X Bundle.tN "stackTrace" Bundle.steD, .lays X Bundle.tN "suppressedExceptions" Bundle.listD, .lays X Bundle.tN "detailMessage" "Ljava/lang/String;",
   .isRef (.static Bundle.tN "UNASSIGNED_STACK" Bundle.steD), .isRef (.static Bundle.tN "SUPPRESSED_SENTINEL" Bundle.listD),
   .fieldLink Bundle.tN 198 Bundle.tN "backtrace" "Ljava/lang/Object;", .lays Bundle.tN Bundle.tN "backtrace" "Ljava/lang/Object;", .lays X Bundle.tN "backtrace" "Ljava/lang/Object;"]
def ox_at (own : String) (ic : Nat) (X Y : String) (r : List String) (idx : Nat) (bytes : ByteArray) : List Cond := (ox_atoms own ic X Y r idx bytes).filter vx_no
section OX
variable {p : Program} {l : Launch} {e : Env} {R : Room} {s : State} {m₀ : MethodId} {args : Array Value} {below : List Frame} {meth : Method} {c : Code} {Wt : State} {locs : List Loc} {cells slots : Nat}
set_option maxHeartbeats 2000000 in
theorem ox_ctor (X : Stand p l e R s m₀ args below meth c Wt locs cells slots) (hexec : p.tables.exec = Jvm.exec) (htr : e.platform.stackTraces = false) {own cls Y0 : String} {names : List String} {ic idx : Nat} {bytes : ByteArray}
    (hown : s.vm.findClass own = some m₀.cls) (hcls : Bundle.fit cls = true) (hY0 : Bundle.fit Y0 = true) (hnames : ∀ n ∈ names, Bundle.fit n = true)
    (b0 : decode bytes 0 = .ok (.aload_n 0, 1)) (b1 : decode bytes 1 = .ok (.aload_n 1, 1)) (b2 : decode bytes 2 = .ok (.invokespecial idx, 3)) (b5 : decode bytes 5 = .ok (.return_, 1))
    (h : ∀ a ∈ ox_atoms own ic cls Y0 names idx bytes, a.before args s = true)
    (hlocs : ∀ x ∈ locs, ∀ cell, s.heap[x.base]? = some cell → cell.vm.isStatics = false)
    {a : Addr} {cX : ClassId} {kX : Class} (hfoundX : s.vm.findClass cls = some cX) (hkX : s.vm.classes[cX]? = some kX) (hcell : Wt.heap[a]? = some (freshCell cX kX)) (hnew : s.heap.size ≤ a)
    {msg : Value} (hmsg : msg.isRef = true)
    {g : JFrame} (hg : g.method = m₀) (hsize : g.locals.size = c.maxLocals) (hlocked : g.locked = none) (hentered : g.entered = []) {rest : List Value} (hstack : g.stack = msg :: .ref a :: .ref a :: rest)
    (hd6 : decode c.code g.pc = .ok (.invokespecial ic, 3)) (hd9 : decode c.code (g.pc + 3) = .ok (.athrow, 1)) (hout : ∀ x ∈ c.exceptionTable.toList, covers x (g.pc + 3) = false)
    (hRframes : names.length + 4 < R.frames) (hRlocals : 2 * g.monitorRoom + ((Value.ref a :: rest).map fun v => v.category).sum + (13 * (names.length + 2) + 42) ≤ R.locals) (hlocks : meth.locks = false) :
    ∃ U : State, Steps p.tables e below (Wt.setTop g) U ∧ U.status = .running ∧ Ended U below (.threw a) ∧ s.WarmedH U.vm ∧ s.sameButNew ({ U with vm := s.vm } : State) locs cells slots ∧
      ∃ ce, U.heap[a]? = some ce ∧ s.vm.findClass cls = some ce.cls ∧ ce.vm = .none := by
  have howns : e.platform.frameOwnsMonitors = true := by rw [X.admits.platform]
  have hfin : e.platform.finalization = false := by rw [X.admits.platform]
  have hpl : e.platform.magicAccessors = ({} : Platform).magicAccessors := by rw [X.admits.platform]
  have a' : ∀ x, x ∈ ox_atoms own ic cls Y0 names idx bytes → x.holds args s none s [] = true := fun x hx => h x hx
  obtain ⟨T, Z0, L, -, Y⟩ := ThrowableC.of_atoms (args := args) howns hfin hpl (fun x hx => h x (by simp [ox_atoms, hx]))
  obtain ⟨Z, M, LZ, LM, hnZ⟩ := Init0T.ofS_atoms (args := args) hpl L Y (fun x hx => h x (by simp [ox_atoms, hx]))
  obtain ⟨P1, L1, hP1m, hP1s⟩ := PassC.ofS_atoms (args := args) (s := s) hpl (X := cls) (Y := Y0) (Bundle.fit_spec hcls).1 (Bundle.fit_spec hY0).2 b0 b1 b2 b5 (fun x hx => h x (by simp [ox_atoms, hx]))
  obtain ⟨P2, Ps, hlen, L2, hL, hP2m, hlink1, hlink⟩ := Bundle.chainS (args := args) hpl hnZ names Y0 hY0 hnames (fun x hx => h x (by simp [ox_atoms, hx]))
  have hsup12 : P1.sup = P2.m := Option.some.inj (hP1s.symm.trans hP2m)
  have hfound : s.vm.findClass cls = some P1.m.cls := findClass_of_methodNamed hP1m
  cases Option.some.inj (hfoundX.symm.trans hfound)
  obtain ⟨c1, kX', hc1, hk, hord, -, -, hn6⟩ := Cond.instantiable_spec (a' (.instantiable cls 6) (by simp [ox_atoms]))
  cases Option.some.inj (hc1.symm.trans hfound)
  cases Option.some.inj (hkX.symm.trans hk)
  have hsel0 : selectMethod e.platform s.vm P1.m.cls T.fill0 = .method T.fill0 := by
    obtain ⟨c2, r2, m2, q1, q2, q3, q4, -⟩ := Cond.selects_spec (a' (.selects cls Bundle.tFill0 Bundle.tFill0) (by simp [ox_atoms]))
    cases Option.some.inj (q1.symm.trans hfound)
    cases Option.some.inj (q2.symm.trans (State.methodFound?_of_named Y.fill0 (by decide)))
    cases Option.some.inj (q3.symm.trans Y.fill0)
    rw [Launch.admits_selectMethod X.admits]; exact q4
  have hselF : selectMethod e.platform s.vm P1.m.cls T.fill = .method T.fill := by
    obtain ⟨c2, r2, m2, q1, q2, q3, q4, -⟩ := Cond.selects_spec (a' (.selects cls Bundle.tFill Bundle.tFill) (by simp [ox_atoms]))
    cases Option.some.inj (q1.symm.trans hfound)
    cases Option.some.inj (q2.symm.trans (State.methodFound?_of_named Y.fill (by decide)))
    cases Option.some.inj (q3.symm.trans Y.fill)
    rw [Launch.admits_selectMethod X.admits]; exact q4
  obtain ⟨cellS0, hcS0, hiss⟩ := Y.statics
  obtain ⟨u0, hu0⟩ := Cond.staticRefV Y.unassigned L.unassignedStatic L.statics hcS0 hiss (a' (.isRef (.static Bundle.tN "UNASSIGNED_STACK" Bundle.steD)) (by simp [ox_atoms]))
  obtain ⟨sen, hsen⟩ := Cond.staticRefV Y.sentinel L.sentinelStatic L.statics hcS0 hiss (a' (.isRef (.static Bundle.tN "SUPPRESSED_SENTINEL" Bundle.listD)) (by simp [ox_atoms]))
  obtain ⟨ci198, i198, fB, hk198, hg198, ha198, hsB, -, hnB, htB, hffB⟩ := Cond.ownField (t := .object "java/lang/Object") Y.found L.cls (by decide +kernel) (a' (.fieldLink Bundle.tN 198 Bundle.tN "backtrace" "Ljava/lang/Object;") (by simp [ox_atoms])) (a' (.lays Bundle.tN Bundle.tN "backtrace" "Ljava/lang/Object;") (by simp [ox_atoms])) e.platform hpl
  obtain ⟨cellS, hcS', heS, -, hkeep⟩ := X.same.2.2.2.2.2 T.aS cellS0 hcS0
  have hcellS : Wt.heap[T.aS]? = some cellS := hcS'
  have hout' : ∀ i, (⟨T.aS, i⟩ : Loc) ∉ locs := fun i hmem => by
    have := hlocs _ hmem cellS0 hcS0
    rw [hiss] at this; cases this
  have hknownS : cellS.vm ≠ .unknown := by
    rw [heS]; intro hu
    rw [show cellS0.vm = .unknown from hu] at hiss
    cases hiss
  have hneS : T.aS ≠ a := Nat.ne_of_lt (Nat.lt_of_lt_of_le (Array.getElem?_eq_some_iff.mp hcS0).1 hnew)
  obtain ⟨iM, hffM⟩ := Y.msg
  obtain ⟨tyC, dC, hdC, hdnC⟩ := Cond.laysAt hfound hk Y.cause (a' (.lays cls Bundle.tN "cause" "Ljava/lang/Throwable;") (by simp [ox_atoms]))
  obtain ⟨tyS, dS, hdS, hdnS⟩ := Cond.laysAt hfound hk Y.stack (a' (.lays cls Bundle.tN "stackTrace" Bundle.steD) (by simp [ox_atoms]))
  obtain ⟨tyP, dP, hdP, hdnP⟩ := Cond.laysAt hfound hk Y.supp (a' (.lays cls Bundle.tN "suppressedExceptions" Bundle.listD) (by simp [ox_atoms]))
  obtain ⟨tyM, dM, hdM, hdnM⟩ := Cond.laysAt hfound hk hffM (a' (.lays cls Bundle.tN "detailMessage" "Ljava/lang/String;") (by simp [ox_atoms]))
  obtain ⟨tyB, dB, hdB, hdnB⟩ := Cond.laysAt hfound hk hffB (a' (.lays cls Bundle.tN "backtrace" "Ljava/lang/Object;") (by simp [ox_atoms]))
  have bC := Cond.laysApart hdB hdC hdnB hdnC (by rw [hnB, Y.causeName]; decide)
  have bS := Cond.laysApart hdB hdS hdnB hdnS (by rw [hnB, Y.stackName]; decide)
  have bP := Cond.laysApart hdB hdP hdnB hdnP (by rw [hnB, Y.suppName]; decide)
  have hskip : SkipFacts T e.platform s (fun u => u) u0 ((preparedCellV T.toThrowableT (freshCell P1.m.cls kX) a u0 sen).withEntry Wt.cur) :=
    ⟨{ ci198 := ci198, i198 := i198, fBack := fB }, ⟨hk198, hg198, ha198, hsB⟩, by
      have := fresh_default (c := P1.m.cls) tyB
      rw [htB] at this
      simpa [preparedCellV, Cell.setSlot, Cell.withEntry, Array.getElem?_setIfInBounds, bC, bS, bP, bC.symm, bS.symm, bP.symm, defaultValue] using this, fun _ _ => rfl⟩
  obtain ⟨tm, methC, cdC, kC, vm₁, hnC, -, -, -, -, -, -, -, hW₁, st1⟩ := Steps.initColdS (tb := p.tables) (e := e) (below := below) (s := s) (U := Wt) X.here hexec X.warmed hpl hown (t := Bundle.initS cls) rfl rfl (Bundle.fit_spec hcls).2
    (a' (.methodLink own ic (Bundle.initS cls)) (by simp [ox_atoms])) (h (.instanceMethod (Bundle.initS cls)) (by simp [ox_atoms, Bundle.passSAtoms])) (bytes := bytes) (maxL := 2) (h (.code (Bundle.initS cls) bytes 2 none) (by simp [ox_atoms, Bundle.passSAtoms]))
    (f := g) hg (a := a) (msg := msg) (rest := .ref a :: rest) hstack hd6
  cases Option.some.inj (hnC.symm.trans hP1m)
  have X₁ := X.noted hW₁
  obtain ⟨vm₂, X₂, st2⟩ := X₁.ctorMessageOffV hexec (g := { g with stack := .ref a :: rest }) hg hsize T L Z LZ M LM (P1 :: P2 :: Ps)
    (fun P hP => by
      rcases List.mem_cons.mp hP with rfl | hP
      · exact L1
      · rcases List.mem_cons.mp hP with rfl | hP
        · exact L2
        · exact hL P hP) ⟨hsup12, hlink1, hlink⟩ (u0 := u0) (sen := sen) (self := a) hmsg (cell := freshCell P1.m.cls kX) (cellS := cellS)
    hcell (fun _ => by simp) (by simp) rfl rfl hsel0 hselF hcellS hneS hknownS (by rw [hkeep _ (hout' _)]; exact hu0) (by rw [hkeep _ (hout' _)]; exact hsen)
    (Takes.of_laid hk hord tyC (by rw [Y.causeType]; rfl)) (Takes.of_laid hk hord tyS (by rw [Y.stackType]; exact fits_refV_array _ u0)) (Takes.of_laid hk hord tyP (by rw [Y.suppType]; exact fits_refV_object _ sen))
    (Takes.of_laid hk hord tyM (by rw [Y.msgType]; exact fits_refV_object _ ⟨msg, hmsg⟩)) Y.objLocals hskip htr [] hd6
    (by simp only [List.length_cons, hlen]; omega) (by simp only [List.length_cons, hlen]; exact hRlocals)
  obtain ⟨hwalk, hrun, hended, hWU, hsame⟩ := X₂.athrowLeaves hexec (g := { g with stack := .ref a :: rest, pc := g.pc + 3 }) hg hlocked hentered hout (a := a) (rest := rest) rfl hd9
  have hlt : a < ((Wt.setVm vm₁).setVm vm₂).heap.size := (Array.getElem?_eq_some_iff.mp hcell).1
  have hU := heapAt_setCell_self (s := (Wt.setVm vm₁).setVm vm₂) (plainBareV T.toThrowableT (freshCell P1.m.cls kX) a u0 sen msg) hlt
  refine ⟨_, st1 _ (fun acts => ?_), hrun, hended, hWU, hsame.weaken (fun y hy hlt' => ?_) (Nat.le_refl _) (Nat.le_refl _), _, hU, hfound, rfl⟩
  · rw [doInvoke_state]
    exact st2 _ hwalk
  · rcases List.mem_append.mp hy with h1 | h1
    · exact h1
    · exfalso
      have hb : y.base = a := by
        simp only [List.mem_cons, List.not_mem_nil, or_false] at h1
        rcases h1 with rfl | rfl | rfl | rfl | rfl <;> rfl
      rw [hb] at hlt'
      exact Nat.not_lt.mpr hnew hlt'
end OX
section OXW
variable {p : Program} {l : Launch} {e : Env} {R : Room} {s : State} {m : MethodId} {args : Array Value} {below : List Frame} {meth : Method} {c : Code} {H : Heap} {locs : List Loc} {cells slots : Nat} {free : Addr → Prop} {ls : Array Slot} {rest : List Value} {Qc : Array Value → State → Outcome → State → Prop} {XC : String → State → State → Prop}
set_option maxHeartbeats 2000000 in
/-- new, dup, ldc_w, <init>(String), athrow of such an exception -/
theorem ox_throw {cc : ByteArray} {pc : Nat} (hexec : p.tables.exec = Jvm.exec) (hb : c.code = cc) (hl : l.stackTraces = false) {own cls Y0 text : String} {names : List String} {ik is ic idx mc ms sa : Nat} {bytes : ByteArray} {A : Nat → Prop}
    (hown : s.vm.findClass own = some m.cls) (hcls : Bundle.fit cls = true) (hY0 : Bundle.fit Y0 = true) (hnames : ∀ n ∈ names, Bundle.fit n = true)
    (b0 : decode bytes 0 = .ok (.aload_n 0, 1)) (b1 : decode bytes 1 = .ok (.aload_n 1, 1)) (b2 : decode bytes 2 = .ok (.invokespecial idx, 3)) (b5 : decode bytes 5 = .ok (.return_, 1))
    (hk : (Cond.classLink own ik cls).before args s = true) (hini : (Cond.initialized cls).before args s = true) (hstr : vk_R own is text sa s) (hat : ∀ w ∈ ox_at own ic cls Y0 names idx bytes, w.before args s = true)
    (hgood : ∀ w ∈ Cond.classLink own ik cls :: Cond.initialized cls :: ox_at own ic cls Y0 names idx bytes, vx_ot w = true)
    (hU : vx_Zq Bundle.tN "UNASSIGNED_STACK" Bundle.steD A s s.heap) (hN : vx_Zq Bundle.tN "SUPPRESSED_SENTINEL" Bundle.listD A s s.heap) (hS : va_S A s.heap H locs) (hsize : ls.size = c.maxLocals)
    (d0 : decode cc pc = .ok (.new ik, 3)) (d3 : decode cc (pc + 3) = .ok (.dup, 1)) (d4 : decode cc (pc + 4) = .ok (.ldc_w is, 3)) (d7 : decode cc (pc + 7) = .ok (.invokespecial ic, 3)) (d10 : decode cc (pc + 10) = .ok (.athrow, 1))
    (hout : ∀ x ∈ c.exceptionTable.toList, covers x (pc + 10) = false)
    (hRframes : names.length + 4 < R.frames) (hRlocals : (rest.map fun v => v.category).sum + (13 * (names.length + 2) + 43) ≤ R.locals) (hRcells : cells + 1 ≤ R.cells) (hRslots : slots + 6 ≤ R.slots) (hlocks : meth.locks = false)
    (hx : ∀ t : State, s.vm.Alike t.vm → H.size ≤ t.heap.size → (∀ q : Nat, q < H.size → t.heap[q]? = H[q]?) → XC cls s t)
    (hf : ∀ z ∈ locs, free z.base) (hc : cells + 1 ≤ mc) (hs : slots + 6 ≤ ms) :
    W p l e R s m args below meth c H locs cells slots (vx_MQ below Qc XC args s mc ms free) (F0 m pc ls rest) := by
  intro T hT X
  have htr : e.platform.stackTraces = false := (show e.platform.stackTraces = l.stackTraces by rw [X.admits.platform]).trans hl
  have Y := vx_rebase X (R' := { frames := R.frames, locals := R.locals, cells := 1, slots := 6 }) (Nat.le_refl _) (Nat.le_refl _) hRcells hRslots
  obtain ⟨s', hA⟩ : ∃ z, z = (T.setVm s.vm).setFrames (.invoking m args :: below) := ⟨_, rfl⟩
  rw [← hA] at Y
  have hvm : s'.vm = s.vm := by rw [hA]; rfl
  have hhp : s'.heap = H := by rw [hA]; exact hT
  have hW0 : s.WarmedH s'.vm := by rw [hvm]; exact State.WarmedH.refl s
  have hat' : ∀ w ∈ ox_at own ic cls Y0 names idx bytes, w.before args s' = true := fun w hw => vx_ot_at hW0 hvm.symm (hgood w (List.mem_cons_of_mem _ (List.mem_cons_of_mem _ hw))) (hat w hw)
  have hk' : (Cond.classLink own ik cls).before args s' = true := vx_ot_at hW0 hvm.symm (hgood _ List.mem_cons_self) hk
  have hini' : (Cond.initialized cls).before args s' = true := vx_ot_at hW0 hvm.symm (hgood _ (List.mem_cons_of_mem _ List.mem_cons_self)) hini
  have hU' : vx_Zq Bundle.tN "UNASSIGNED_STACK" Bundle.steD A s' s'.heap := by rw [hhp]; exact vx_Zq.moved hW0.alike (hU.kept hS.2.1)
  have hN' : vx_Zq Bundle.tN "SUPPRESSED_SENTINEL" Bundle.listD A s' s'.heap := by rw [hhp]; exact vx_Zq.moved hW0.alike (hN.kept hS.2.1)
  have h : ∀ w ∈ ox_atoms own ic cls Y0 names idx bytes, w.before args s' = true := vx_own hat' (vx_isRefq hU'.1) (vx_isRefq hN'.1) hU'.2.word hN'.2.word
  have hown' : s'.vm.findClass own = some m.cls := by rw [hvm]; exact hown
  have hins : (Cond.instantiable cls 6).before args s' = true := h _ (by simp [ox_atoms])
  obtain ⟨vm₁, cX, kX, hfX, hkX, -, -, X₁, st1⟩ := Y.newCold hexec (own := own) (C := cls) (index := ik) (n := 6) hown' hk' hins hini'
    (g := F0 m pc ls rest) rfl (by rw [hb]; exact d0) (Nat.le_refl _) (Nat.le_refl _)
  generalize hT1 : (T.setVm vm₁).pushCell { cls := cX, slots := kX.instanceTypes.map defaultValue, vm := .none } = T1 at X₁ st1
  have hcat : (Value.ref T.heap.size).category = 1 := rfl
  have hcellA : T1.heap[T.heap.size]? = some (freshCell cX kX) := by rw [← hT1]; exact State.heap_pushCell_size _ _
  have d3' : decode c.code (pc + 3) = .ok (.dup, 1) := by rw [hb]; exact d3
  have d4' : decode c.code (pc + 4) = .ok (.ldc_w is, 3) := by rw [hb]; exact d4
  have hstr' : vk_R own is text sa s' := vk_R.warm hW0 hstr
  obtain ⟨U, hsteps, hrun, hend, hW, hsame, ce, hce, hO1, hO2⟩ := ox_ctor X₁ hexec htr (own := own) (cls := cls) (Y0 := Y0) (names := names) (ic := ic) (idx := idx) (bytes := bytes) hown' hcls hY0 hnames b0 b1 b2 b5 h (fun x hx => nomatch hx) hfX hkX hcellA (by rw [hhp, hT]; exact Nat.le_refl _) (msg := .ref sa) rfl
    (g := { method := m, pc := pc + 7, locals := ls, stack := .ref sa :: .ref T.heap.size :: .ref T.heap.size :: rest, locked := none }) rfl hsize rfl rfl (rest := rest) rfl
    (by rw [hb]; exact d7) (by rw [hb]; exact d10) hout hRframes (by simp only [List.map_cons, List.sum_cons, hcat]; have h0 : JFrame.monitorRoom { method := m, pc := pc + 7, locals := ls, stack := .ref sa :: .ref T.heap.size :: .ref T.heap.size :: rest, locked := none } = 0 := rfl; omega) hlocks
  obtain ⟨f1, f2⟩ := vx_frame hsame
  rw [hhp] at f1 f2
  have hWs : s.WarmedH U.vm := State.WarmedH.trans hW0 hW
  have hcl : s.vm.findClass cls = some ce.cls := by
    rw [hvm] at hO1
    exact hO1
  have hall : s.sameButNew ({ U with vm := s.vm } : State) locs mc ms := by
    subst hA
    obtain ⟨e1, e2⟩ := hsame
    rw [State.setFrames_setFrames] at e1
    have h2 : (T.setVm s.vm).sameButNew ({ U with vm := s.vm } : State) [] (0 + 1) (0 + 6) := ⟨e1, e2⟩
    have h3 := X.same.trans h2
    rw [List.append_nil] at h3
    exact h3.mono hc hs
  refine ⟨U, ?_, .threw T.heap.size, hrun, hend, Or.inr ⟨T.heap.size, rfl, cls, ce, locs, hx U hWs.alike f1 (fun q hq => f2 q hq (fun z hz => nomatch hz)), hce, hO2, hcl, hWs, hall, hf⟩⟩
  refine st1 _ ?_
  show Steps p.tables e below (T1.setTop { method := m, pc := pc + 3, locals := ls, stack := .ref T.heap.size :: rest, locked := none }) _
  jvm_step X₁.here [X₁.here.top, hexec, d3', Value.category]
  exact X₁.ldcStringW hexec (own := own) (text := text) (index := is) (a := sa) hown' hstr'.1 hstr'.2
    (g := { method := m, pc := pc + 4, locals := ls, stack := .ref T.heap.size :: .ref T.heap.size :: rest, locked := none }) rfl d4' _ hsteps
end OXW
def ledB : List Cond := (ox_at RX10 375 "java/util/NoSuchElementException" "java/lang/RuntimeException" ["java/lang/Exception"] 13 prog_29_method_4_code).filter (fun w => !goodWord w)
def oxG : List Cond := (ox_at RX10 375 "java/util/NoSuchElementException" "java/lang/RuntimeException" ["java/lang/Exception"] 13 prog_29_method_4_code).filter goodWord
def ledCD : Cond → Bool
  | .castable _ _ => true
  | .declares _ => true
  | _ => false
theorem ledB_cd : ledB.all ledCD = true := by decide +kernel
theorem ledB_tab : ledB.all (fun w => w.onTables) = true := by decide +kernel
theorem led_warm {w : Cond} (hn : ledCD w = true) {s U : State} (hW : s.WarmedH U.vm) (h : va_Nw w s) : va_Nw w U := by
  cases w <;> first
    | exact va_Nw.warmC hW h
    | exact va_Nw.warmD hW h
    | exact absurd hn (by simp [ledCD])
/-- words of the exception's class that a word list cannot hold -/
def LB (U : State) : Prop := ∀ w ∈ ledB, va_Nw w U
theorem LB.warm {s U : State} (hW : s.WarmedH U.vm) (h : LB s) : LB U := fun w hw => led_warm (List.all_eq_true.mp ledB_cd w hw) hW (h w hw)
theorem LB.same {u U : State} (hv : u.vm = U.vm) (h : LB u) : LB U := fun w hw => va_Nw.same (List.all_eq_true.mp ledB_tab w hw) hv (h w hw)
def PCZ (D : va_G) (As : List Value) (sz : Nat) (ws : va_W) (tys : List (ClassId × FieldType)) : Array Value → State → Prop := va_Pc As (fun U => U.heap.size = sz ∧ va_P D vwCl ws U.heap ∧ va_K D vwCl tys U ∧ va_D (fun _ => True) ws ∧ NW U ∧ vx_Zq Bundle.tN "UNASSIGNED_STACK" Bundle.steD (va_A ws sz) U U.heap ∧ vx_Zq Bundle.tN "SUPPRESSED_SENTINEL" Bundle.listD (va_A ws sz) U U.heap ∧ LB U)
theorem PCZ_blind {D : va_G} {As : List Value} {sz : Nat} {ws : va_W} {tys : List (ClassId × FieldType)} : FrameBlind (PCZ D As sz ws tys) := fun a U g mk q => by
  obtain ⟨q0, q1, qP, qK, qD, qN, qU, qV, qL⟩ := q
  exact ⟨q0, q1, qP, va_K.moved (u := U) (U := U.calling g mk a) (Vm.Alike.refl U.vm) qK, qD, NW.same (u := U) (U := U.calling g mk a) rfl qN, vx_Zq.moved (u := U) (U := U.calling g mk a) (Vm.Alike.refl U.vm) qU, vx_Zq.moved (u := U) (U := U.calling g mk a) (Vm.Alike.refl U.vm) qV, LB.same (u := U) (U := U.calling g mk a) rfl qL⟩
theorem PSZ {s : State} {H : Heap} {D : va_G} {ws : va_W} {tys : List (ClassId × FieldType)} {A : Nat → Prop} {As : List Value} (hP : va_P D vwCl ws H) (hK : va_K D vwCl tys s) (hD : va_D A ws) (hN : NW s) (hF : ∀ q, va_A ws H.size q → A q) (hU : vx_Zq Bundle.tN "UNASSIGNED_STACK" Bundle.steD A s H) (hV : vx_Zq Bundle.tN "SUPPRESSED_SENTINEL" Bundle.listD A s H) (hL : LB s) : PreS s H (PCZ D As H.size ws tys) As :=
  ⟨PCZ_blind, fun U hU0 hW => ⟨rfl, by rw [hU0], by rw [hU0]; exact hP, va_K.moved hW.alike hK, hD.weaken (fun _ _ _ _ => trivial), NW.warm hW hN, by rw [hU0]; exact vx_Zq.moved hW.alike (vx_Zq.narrow hU hF), by rw [hU0]; exact vx_Zq.moved hW.alike (vx_Zq.narrow hV hF), LB.warm hW hL⟩⟩
theorem PVZ {s : State} {H : Heap} {D : va_G} {ws : va_W} {tys : List (ClassId × FieldType)} {A : Nat → Prop} {As : List Value} (hP : va_P D vwCl ws H) (hK : va_K D vwCl tys s) (hD : va_D A ws) (hN : NW s) (hF : ∀ q, va_A ws H.size q → A q) (hU : vx_Zq Bundle.tN "UNASSIGNED_STACK" Bundle.steD A s H) (hV : vx_Zq Bundle.tN "SUPPRESSED_SENTINEL" Bundle.listD A s H) (hL : LB s) (q0 : Nat) {b ci : Nat} {fs : List Value} {C : String} {T : u_T} {N : Nat} (he : ws[q0]? = some (b, .inr (ci, fs))) (hc : vwCl[ci]? = some (C, T, N)) : PreV s H C b (PCZ D (.ref b :: As) H.size ws tys) As :=
  ⟨PCZ_blind, va_recv hK hP hc he, fun U hU0 hW => ⟨rfl, by rw [hU0], by rw [hU0]; exact hP, va_K.moved hW.alike hK, hD.weaken (fun _ _ _ _ => trivial), NW.warm hW hN, by rw [hU0]; exact vx_Zq.moved hW.alike (vx_Zq.narrow hU hF), by rw [hU0]; exact vx_Zq.moved hW.alike (vx_Zq.narrow hV hF), LB.warm hW hL⟩⟩
theorem led_ot : ∀ w ∈ Cond.classLink RX10 371 "java/util/NoSuchElementException" :: Cond.initialized "java/util/NoSuchElementException" :: (ox_at RX10 375 "java/util/NoSuchElementException" "java/lang/RuntimeException" ["java/lang/Exception"] 13 prog_29_method_4_code), vx_ot w = true := by decide +kernel
def vX10_led : List Cond := .code yX10_led cX10_led 4 (some .int) :: ([.classLink RX10 371 "java/util/NoSuchElementException", .initialized "java/util/NoSuchElementException", .fieldLink RX10 10 "HookPier" "plan" "LHookPier$Plan;", .fieldLink RX10 96 "HookPier$Plan" "answers" "I", .fieldLink RX10 29 "HookPier" "now" "LHookPier$Now;", .fieldLink RX10 125 "HookPier$Now" "stage" "[I"] ++ (wsX100 ++ (wsX60 ++ (wsX40 ++ oxG))))
def vL_led : List Cond := .codeWith yL_led cL_led 4 (some .int) [(0, 9, 12, 13)] :: ([.classLink RL 13 "java/util/NoSuchElementException", .methodLink RL 7 yX10_led, .instanceMethod yX10_led, .selects RX10 yX10_led yX10_led, .initialized RX10] ++ (wsX100 ++ vX10_led))
theorem iX10_led_X10 : ∀ w ∈ wsX100, w ∈ vX10_led := fun _ h => List.mem_cons_of_mem _ (List.mem_append_right _ (List.mem_append_left _ h))
theorem iX10_led_X6 : ∀ w ∈ wsX60, w ∈ vX10_led := fun _ h => List.mem_cons_of_mem _ (List.mem_append_right _ (List.mem_append_right _ (List.mem_append_left _ h)))
theorem iX10_led_X4 : ∀ w ∈ wsX40, w ∈ vX10_led := fun _ h => List.mem_cons_of_mem _ (List.mem_append_right _ (List.mem_append_right _ (List.mem_append_right _ (List.mem_append_left _ h))))
theorem iX10_led_G : ∀ w ∈ oxG, w ∈ vX10_led := fun _ h => List.mem_cons_of_mem _ (List.mem_append_right _ (List.mem_append_right _ (List.mem_append_right _ (List.mem_append_right _ h))))
theorem qX10_led : Good vX10_led := gd_cons (by decide +kernel) (gd_app (gd_dec (by decide +kernel)) (gd_app qsX10 (gd_app qsX6 (gd_app qsX4 (gd_dec (by decide +kernel))))))
theorem gL_led_X10_led : GoodIn vL_led (wsV RL 7 RX10 yX10_led vX10_led) := goodIn_app (goodIn_r [.methodLink RL 7 yX10_led, .instanceMethod yX10_led, .selects RX10 yX10_led yX10_led, .initialized RX10] [2, 3, 4, 5] rfl (by decide +kernel)) (goodIn_m (fun _ h => List.mem_cons_of_mem _ (List.mem_append_right _ (List.mem_append_right _ h))) qX10_led)
noncomputable def zrX10_led_0 : List ZR := zc 0 true (.iconst 0) 1 (zc 1 true (.istore_n 2) 1 (zc 2 true (.iconst 0) 1 (zc 3 true (.istore_n 3) 1 (zc 4 true (.iload_n 3) 1 (zc 5 true (.aload_n 0) 1 (zc 6 true (.getfield 10) 3 (zc 9 true (.getfield 96) 3 (zc 12 true (.if_icmp .ge 31) 3 (zc 15 true (.aload_n 0) 1 (zc 16 true (.getfield 29) 3 (zc 19 true (.getfield 125) 3 (zc 22 true (.iload_n 3) 1 (zc 23 true (.iaload) 1 (zc 24 true (.ifCond .eq 13) 3 (zc 27 true (.iload_n 2) 1 (zc 28 true (.iload_n 1) 1 (zc 29 true (.if_icmp .ne 5) 3 (zc 32 true (.iload_n 3) 1 (zc 33 true (.ireturn) 1 (zc 34 true (.iinc 2 1) 3 (zc 37 true (.iinc 3 1) 3 (zc 40 true (.goto (-36)) 3 (zc 43 true (.new 371) 3 (zc 46 true (.dup) 1 (zc 47 true (.ldc_w 373) 3 (zc 50 true (.invokespecial 375) 3 (zc 53 true (.athrow) 1 ([]))))))))))))))))))))))))))))
theorem zrX10_led_0_ok : zck 0 ((zby cX10_led).drop 0) zrX10_led_0 = true := by decide +kernel
noncomputable def zrL_led_0 : List ZR := zc 0 true (.aload_n 2) 1 (zc 1 true (.iconst 0) 1 (zc 2 true (.aload_n 0) 1 (zc 3 true (.iload_n 1) 1 (zc 4 true (.invokevirtual 7) 3 (zc 7 true (.i2l) 1 (zc 8 true (.lastore) 1 (zc 9 true (.goto 6) 3 (zc 12 true (.astore_n 3) 1 (zc 13 true (.iconst 1) 1 (zc 14 true (.ireturn) 1 (zc 15 true (.iconst 0) 1 (zc 16 true (.ireturn) 1 ([])))))))))))))
theorem zrL_led_0_ok : zck 0 ((zby cL_led).drop 0) zrL_led_0 = true := by decide +kernel
/-- the one that is asked for, of those that aren't there any more; none: there is none such -/
def ledF (k1 : Int32) (st : Nat → Int32) : Nat → Nat → Int32 → Option Nat
  | 0, _, _ => none
  | c + 1, a, bf => if st a = 0 then ledF k1 st c (a + 1) bf else if bf = k1 then some a else ledF k1 st c (a + 1) (bf + 1)
set_option maxHeartbeats 1000000 in
set_option maxRecDepth 100000 in
theorem kX10_led (l : Launch) (hl0 : l.stackTraces = false) (dC : Nat → ClassId) (dI : Nat → Nat → Nat) (a0 : Nat) (k1 : Int32) (a2 a4 : Nat) (up : Nat → Nat) (kp : Nat → ClassId) (un : Nat → Nat) (kn : Nat → ClassId) (g3 : Value) (g4 : Value) (g5 : Value) (g6 : Value) (g7 : Value) (g8 : Value) (g9 : Value) (g10 : Value) (p_p : TX6_p) (n_n : TX4_n) (an : Nat) (hp : p_p.2.2.2.2.2.2.1 = nI an) (han : an ≤ 6) (out : Option Nat) (hf : ledF k1 n_n.2.2.2.1 an 0 0 = out) (sz : Nat) : vx_Met l yX10_led vX10_led ({ frames := 8, cells := 1, slots := 6, locals := 100 }) (PCZ (dC, dI) [.ref a0, .int k1] sz ((a0, .inr (7, [.ref a2, g3, g4, .ref a4, g5, g6, g7, g8, g9, g10])) :: bX6 a2 up kp p_p (bX4 a4 un kn n_n [])) (tX6 kp (tX4 kn []))) (va_Qi (S := Unit) (fun (r : Int32) _ => ∃ a, a < 6 ∧ out = some a ∧ r = nI a) (fun _ t => BC (dC, dI) (va_A ((a0, .inr (7, [.ref a2, g3, g4, .ref a4, g5, g6, g7, g8, g9, g10])) :: bX6 a2 up kp p_p (bX4 a4 un kn n_n [])) sz) ((a0, .inr (7, [.ref a2, g3, g4, .ref a4, g5, g6, g7, g8, g9, g10])) :: bX6 a2 up kp p_p (bX4 a4 un kn n_n [])) [] t) (va_A ((a0, .inr (7, [.ref a2, g3, g4, .ref a4, g5, g6, g7, g8, g9, g10])) :: bX6 a2 up kp p_p (bX4 a4 un kn n_n [])) sz)) (vx_X (S := Unit) (fun _ => out = none) (fun E _ t => E = "java/util/NoSuchElementException") (fun q => sz ≤ q)) 1 6 (va_A ((a0, .inr (7, [.ref a2, g3, g4, .ref a4, g5, g6, g7, g8, g9, g10])) :: bX6 a2 up kp p_p (bX4 a4 un kn n_n [])) sz) := by
  refine vx_ofW (cc := cX10_led) (maxL := 4) (ret := (some .int)) (by decide) rfl ?_
  intro p e s m args below meth c s₁ B hml hxt hv
  obtain ⟨rfl, hsz, hP, hK, hD0, hN, hU, hV, hLB⟩ := hv
  have hx := B.exec
  have hb := B.bytes
  have hr := B.returns
  have hts := atoms_spec (ws := vX10_led) B.pre
  have hown : s.vm.findClass RX10 = some m.cls := findClass_of_methodNamed B.named
  have hlocks := B.notSynchronized
  subst hsz
  have hD := hD0.self (sz := s.heap.size)
  generalize hAe : va_A ((a0, .inr (7, [.ref a2, g3, g4, .ref a4, g5, g6, g7, g8, g9, g10])) :: bX6 a2 up kp p_p (bX4 a4 un kn n_n [])) s.heap.size = A at hD hU hV ⊢
  have hS : va_S A s.heap s.heap [] := va_S.rf
  have hP : va_P (dC, dI) vwCl ((a0, .inr (7, [.ref a2, g3, g4, .ref a4, g5, g6, g7, g8, g9, g10])) :: bX6 a2 up kp p_p (bX4 a4 un kn n_n [])) s.heap := hP
  have hl := lv_entry ([.ref a0, .int k1]) (n := 4) (Nat.le_of_ble_eq_true rfl)
  rw [lg_entry_eq]
  generalize (lg_sl ([.ref a0, .int k1]) ++ List.replicate (4 - (lg_sl ([.ref a0, .int k1])).length) Slot.unset).toArray = ls at hl ⊢
  have hl : lv_has ls 4 [(0, .ref a0), (1, .int k1)] := hl
  refine W_q (fun QQ hQQ => ?_)
  have loop : ∀ (cn a : Nat) (bf : Int32) (ls : Array Slot), a + cn = an → lv_has ls 4 [(3, .int (nI a)), (2, .int bf), (0, .ref a0), (1, .int k1)] → ledF k1 n_n.2.2.2.1 cn a bf = out → W p l e (headSpec vX10_led { frames := 8, cells := 1, slots := 6, locals := 100 }).room s m ([.ref a0, .int k1]).toArray below meth c s.heap [] 0 0 QQ (F0 m 4 ls []) := by
    intro cn
    induction cn with
    | zero =>
      intro a bf ls ha hl ho
      rw [ledF] at ho
      refine lv_iload_n hx hb (zat zrX10_led_0_ok 4 rfl) rfl (lv_at hl 0 rfl) ?_
      refine lv_aload_n hx hb (zat zrX10_led_0_ok 5 rfl) rfl (lv_at hl 2 rfl) ?_
      refine va_get (D := (dC, dI)) (ci := 7) (v := .ref a2) (C := RX10) (T := TX10) (N := 10) hx hb hts iX10_led_X10 hown hK hP 0 rfl rfl 0 (by decide) (hts (.fieldLink RX10 10 "HookPier" "plan" "LHookPier$Plan;") (List.mem_of_getElem? (i := 3) rfl)) (fun _ h9 => h9) rfl (zat zrX10_led_0_ok 6 rfl) ?_
      refine va_get (D := (dC, dI)) (ci := 4) (v := .int p_p.2.2.2.2.2.2.1) (C := RX6) (T := TX6) (N := 18) hx hb hts iX10_led_X6 hown hK hP 1 rfl rfl 6 (by decide) (hts (.fieldLink RX10 96 "HookPier$Plan" "answers" "I") (List.mem_of_getElem? (i := 4) rfl)) (fun _ h9 => h9) rfl (zat zrX10_led_0_ok 7 rfl) ?_
      refine lv_icmp_ge (tgt := 43) hx hb (zat zrX10_led_0_ok 8 rfl) (by decide) (fun _ => ?_) (fun c1 => absurd (show p_p.2.2.2.2.2.2.1 ≤ nI a by rw [hp]; exact nI_le (by omega) (by omega)) c1)
      obtain ⟨sa, hsa⟩ := hN.2.2 (RX10, 373, "no such answer was landed") (List.mem_of_getElem? (i := 23) rfl)
      rw [hQQ]
      exact ox_throw (pc := 43) hx hb hl0 hown (by decide +kernel) (by decide +kernel) (by decide +kernel) (by decide +kernel) (by decide +kernel) (by decide +kernel) (by decide +kernel) (hts (.classLink RX10 371 "java/util/NoSuchElementException") (List.mem_of_getElem? (i := 1) rfl)) (hts (.initialized "java/util/NoSuchElementException") (List.mem_of_getElem? (i := 2) rfl)) hsa (vx_hat (B := ledB) (fun w h => hts w (iX10_led_G w h)) (fun _ h => h) (fun w h => va_Nw.use (List.all_eq_true.mp ledB_tab w h) (hLB w h))) led_ot hU hV hS (by rw [hml]; exact hl.1) (zat zrX10_led_0_ok 23 rfl) (zat zrX10_led_0_ok 24 rfl) (zat zrX10_led_0_ok 25 rfl) (zat zrX10_led_0_ok 26 rfl) (zat zrX10_led_0_ok 27 rfl) (fun x hx => (hxt x hx).elim) (by decide) (by decide) (by decide) (by decide) hlocks (fun t hvm h1 h2 => ⟨(), ho.symm, rfl, h1, fun q hq hq2 => h2 q hq⟩) (fun z hz => nomatch hz) (by decide) (by decide)
    | succ cn ih =>
      intro a bf ls ha hl ho
      rw [ledF] at ho
      refine lv_iload_n hx hb (zat zrX10_led_0_ok 4 rfl) rfl (lv_at hl 0 rfl) ?_
      refine lv_aload_n hx hb (zat zrX10_led_0_ok 5 rfl) rfl (lv_at hl 2 rfl) ?_
      refine va_get (D := (dC, dI)) (ci := 7) (v := .ref a2) (C := RX10) (T := TX10) (N := 10) hx hb hts iX10_led_X10 hown hK hP 0 rfl rfl 0 (by decide) (hts (.fieldLink RX10 10 "HookPier" "plan" "LHookPier$Plan;") (List.mem_of_getElem? (i := 3) rfl)) (fun _ h9 => h9) rfl (zat zrX10_led_0_ok 6 rfl) ?_
      refine va_get (D := (dC, dI)) (ci := 4) (v := .int p_p.2.2.2.2.2.2.1) (C := RX6) (T := TX6) (N := 18) hx hb hts iX10_led_X6 hown hK hP 1 rfl rfl 6 (by decide) (hts (.fieldLink RX10 96 "HookPier$Plan" "answers" "I") (List.mem_of_getElem? (i := 4) rfl)) (fun _ h9 => h9) rfl (zat zrX10_led_0_ok 7 rfl) ?_
      refine lv_icmp_ge (tgt := 43) hx hb (zat zrX10_led_0_ok 8 rfl) (by decide) (fun c1 => absurd (show p_p.2.2.2.2.2.2.1 ≤ nI a from c1) (by rw [hp]; exact nI_ge (by omega) (by omega))) (fun _ => ?_)
      refine lv_aload_n hx hb (zat zrX10_led_0_ok 9 rfl) rfl (lv_at hl 2 rfl) ?_
      refine va_get (D := (dC, dI)) (ci := 7) (v := .ref a4) (C := RX10) (T := TX10) (N := 10) hx hb hts iX10_led_X10 hown hK hP 0 rfl rfl 3 (by decide) (hts (.fieldLink RX10 29 "HookPier" "now" "LHookPier$Now;") (List.mem_of_getElem? (i := 5) rfl)) (fun _ h9 => h9) rfl (zat zrX10_led_0_ok 10 rfl) ?_
      refine va_get (D := (dC, dI)) (ci := 3) (v := .ref (un 0)) (C := RX4) (T := TX4) (N := 7) hx hb hts iX10_led_X4 hown hK hP 11 rfl rfl 3 (by decide) (hts (.fieldLink RX10 125 "HookPier$Now" "stage" "[I") (List.mem_of_getElem? (i := 6) rfl)) (fun _ h9 => h9) rfl (zat zrX10_led_0_ok 11 rfl) ?_
      refine lv_iload_n hx hb (zat zrX10_led_0_ok 12 rfl) rfl (lv_at hl 0 rfl) ?_
      refine va_iald hx hb hK hP 12 9 rfl rfl (vp_in_nI (show a < 6 by omega) (by omega)) (zat zrX10_led_0_ok 13 rfl) ?_
      rw [nI_clamp (show a < 2 ^ 31 by omega)]
      have fin : ∀ (bf : Int32) (ls : Array Slot), lv_has ls 4 [(3, .int (nI a)), (2, .int bf), (0, .ref a0), (1, .int k1)] → ledF k1 n_n.2.2.2.1 cn (a + 1) bf = out → W p l e (headSpec vX10_led { frames := 8, cells := 1, slots := 6, locals := 100 }).room s m ([.ref a0, .int k1]).toArray below meth c s.heap [] 0 0 QQ (F0 m 37 ls []) := by
        intro bf ls hl ho
        refine lv_iinc (v := nI (a + 1)) (lv' := [(3, .int (nI (a + 1))), (2, .int bf), (0, .ref a0), (1, .int k1)]) hx hb (zat zrX10_led_0_ok 21 rfl) hl (k := 0) rfl (nI_1 a) (by decide) rfl (fun ls hl => ?_)
        refine lv_goto (tgt := 4) hx hb (zat zrX10_led_0_ok 22 rfl) (by decide) ?_
        exact ih (a + 1) bf ls (by omega) hl ho
      refine lv_if_eq (tgt := 37) hx hb (zat zrX10_led_0_ok 14 rfl) (by decide) (fun c2 => ?_) (fun c2 => ?_)
      · rw [if_pos c2] at ho
        exact fin bf ls hl ho
      · rw [if_neg c2] at ho
        refine lv_iload_n hx hb (zat zrX10_led_0_ok 15 rfl) rfl (lv_at hl 1 rfl) ?_
        refine lv_iload_n hx hb (zat zrX10_led_0_ok 16 rfl) rfl (lv_at hl 3 rfl) ?_
        refine lv_icmp_ne (tgt := 34) hx hb (zat zrX10_led_0_ok 17 rfl) (by decide) (fun c3 => ?_) (fun c3 => ?_)
        · have c3 : ¬ bf = k1 := c3
          rw [if_neg c3] at ho
          refine lv_iinc (v := bf + 1) (lv' := [(2, .int (bf + 1)), (3, .int (nI a)), (0, .ref a0), (1, .int k1)]) hx hb (zat zrX10_led_0_ok 20 rfl) hl (k := 1) rfl rfl (by decide) rfl (fun ls hl => ?_)
          exact fin (bf + 1) ls (lv_sub hl [1, 0, 2, 3] rfl) ho
        · have c3 : bf = k1 := by first | exact c3 | exact Classical.not_not.mp c3
          rw [if_pos c3] at ho
          refine lv_iload_n hx hb (zat zrX10_led_0_ok 18 rfl) rfl (lv_at hl 0 rfl) ?_
          rw [hQQ, ← hAe]
          rw [← hAe] at hD hS
          refine vx_ret ?_
          have hK9 := hK.sub (tys' := []) [] rfl
          refine W.widen (k := 1) (n := 6) (by decide) (by decide) ?_
          exact W.iret (v := nI a) hx hb hr (fun t ht hW => ⟨⟨nI a, (), rfl, ⟨a, by omega, ho.symm, rfl⟩, by rw [ht]; exact hP, va_K.moved hW.alike hK9, hD⟩, hS.F ht⟩) hS.2.2 (zat zrX10_led_0_ok 19 rfl)
  refine lv_iconst (v := 0) hx hb (zat zrX10_led_0_ok 0 rfl) (by decide) ?_
  refine lv_istore_n (lv' := [(2, .int 0), (0, .ref a0), (1, .int k1)]) hx hb (zat zrX10_led_0_ok 1 rfl) rfl hl (by decide) rfl (fun ls hl => ?_)
  refine lv_iconst (v := 0) hx hb (zat zrX10_led_0_ok 2 rfl) (by decide) ?_
  refine lv_istore_n (lv' := [(3, .int (nI 0)), (2, .int 0), (0, .ref a0), (1, .int k1)]) hx hb (zat zrX10_led_0_ok 3 rfl) rfl hl (by decide) rfl (fun ls hl => ?_)
  exact loop an 0 0 ls (by omega) hl hf
set_option maxHeartbeats 1000000 in
set_option maxRecDepth 100000 in
theorem kL_led (l : Launch) (hl0 : l.stackTraces = false) (dC : Nat → ClassId) (dI : Nat → Nat → Nat) (a0 : Nat) (k1 : Int32) (a9 a2 a4 : Nat) (up : Nat → Nat) (kp : Nat → ClassId) (un : Nat → Nat) (kn : Nat → ClassId) (g3 : Value) (g4 : Value) (g5 : Value) (g6 : Value) (g7 : Value) (g8 : Value) (g9 : Value) (g10 : Value) (p_p : TX6_p) (n_n : TX4_n) (cO : ClassId) (fO : Nat → Int64) (an : Nat) (hp : p_p.2.2.2.2.2.2.1 = nI an) (han : an ≤ 6) (out : Option Nat) (hf : ledF k1 n_n.2.2.2.1 an 0 0 = out) (sz : Nat) : Met l yL_led vL_led ({ frames := 9, cells := 1, slots := 6, locals := 130 }) (PCZ (dC, dI) [.ref a0, .int k1, .ref a9] sz ((a0, .inr (7, [.ref a2, g3, g4, .ref a4, g5, g6, g7, g8, g9, g10])) :: bX6 a2 up kp p_p (bX4 a4 un kn n_n [(a9, .inl (cO, 1, .inr (.inl fO)))])) (tX6 kp (tX4 kn [(cO, .long)]))) (va_Qi (S := (Nat → Int64)) (fun (r : Int32) u => (∃ a, a < 6 ∧ out = some a ∧ r = 0 ∧ u = vp_updL fO 0 (nI a).toInt64) ∨ (out = none ∧ r = 1 ∧ u = fO)) (fun u t => BC (dC, dI) (va_A ((a0, .inr (7, [.ref a2, g3, g4, .ref a4, g5, g6, g7, g8, g9, g10])) :: bX6 a2 up kp p_p (bX4 a4 un kn n_n [(a9, .inl (cO, 1, .inr (.inl fO)))])) sz) ((a0, .inr (7, [.ref a2, g3, g4, .ref a4, g5, g6, g7, g8, g9, g10])) :: bX6 a2 up kp p_p (bX4 a4 un kn n_n [(a9, .inl (cO, 1, .inr (.inl u)))])) [] t) (va_A ((a0, .inr (7, [.ref a2, g3, g4, .ref a4, g5, g6, g7, g8, g9, g10])) :: bX6 a2 up kp p_p (bX4 a4 un kn n_n [(a9, .inl (cO, 1, .inr (.inl fO)))])) sz)) 1 6 (va_A ((a0, .inr (7, [.ref a2, g3, g4, .ref a4, g5, g6, g7, g8, g9, g10])) :: bX6 a2 up kp p_p (bX4 a4 un kn n_n [(a9, .inl (cO, 1, .inr (.inl fO)))])) sz) := by
  refine va_MetW (cc := cL_led) (maxL := 4) (ret := (some .int)) (hh := [(0, 9, 12, 13)]) (by decide) rfl ?_
  intro p e s m args below meth c s₁ B hml hv
  obtain ⟨rfl, hsz, hP, hK, hD0, hN, hU, hV, hLB⟩ := hv
  have hx := B.exec
  have hb := B.bytes
  have hr := B.returns
  have hts := atoms_spec (ws := vL_led) B.pre
  have hown : s.vm.findClass RL = some m.cls := findClass_of_methodNamed B.named
  have hlocks := B.notSynchronized
  subst hsz
  have hD := hD0.self (sz := s.heap.size)
  have hF0 : ∀ q, va_A ((a0, .inr (7, [.ref a2, g3, g4, .ref a4, g5, g6, g7, g8, g9, g10])) :: bX6 a2 up kp p_p (bX4 a4 un kn n_n [(a9, .inl (cO, 1, .inr (.inl fO)))])) s.heap.size q → va_A ((a0, .inr (7, [.ref a2, g3, g4, .ref a4, g5, g6, g7, g8, g9, g10])) :: bX6 a2 up kp p_p (bX4 a4 un kn n_n [(a9, .inl (cO, 1, .inr (.inl fO)))])) s.heap.size q := fun _ h => h
  have htab := vx_table (x := yL_led) B (hts (.codeWith yL_led cL_led 4 (some .int) [(0, 9, 12, 13)]) List.mem_cons_self)
  have hS : va_S (va_A ((a0, .inr (7, [.ref a2, g3, g4, .ref a4, g5, g6, g7, g8, g9, g10])) :: bX6 a2 up kp p_p (bX4 a4 un kn n_n [(a9, .inl (cO, 1, .inr (.inl fO)))])) s.heap.size) s.heap s.heap [] := va_S.rf
  have hP : va_P (dC, dI) vwCl (((a0, .inr (7, [.ref a2, g3, g4, .ref a4, g5, g6, g7, g8, g9, g10])) :: bX6 a2 up kp p_p (bX4 a4 un kn n_n [])) ++ [(a9, .inl (cO, 1, .inr (.inl fO)))]) s.heap := hP
  have hD : va_D (va_A ((a0, .inr (7, [.ref a2, g3, g4, .ref a4, g5, g6, g7, g8, g9, g10])) :: bX6 a2 up kp p_p (bX4 a4 un kn n_n [(a9, .inl (cO, 1, .inr (.inl fO)))])) s.heap.size) (((a0, .inr (7, [.ref a2, g3, g4, .ref a4, g5, g6, g7, g8, g9, g10])) :: bX6 a2 up kp p_p (bX4 a4 un kn n_n [])) ++ [(a9, .inl (cO, 1, .inr (.inl fO)))]) := hD
  have hF : ∀ q, va_A ((a0, .inr (7, [.ref a2, g3, g4, .ref a4, g5, g6, g7, g8, g9, g10])) :: bX6 a2 up kp p_p (bX4 a4 un kn n_n [])) s.heap.size q → va_A ((a0, .inr (7, [.ref a2, g3, g4, .ref a4, g5, g6, g7, g8, g9, g10])) :: bX6 a2 up kp p_p (bX4 a4 un kn n_n [(a9, .inl (cO, 1, .inr (.inl fO)))])) s.heap.size q := hs_free hD hS (fun _ h => Or.inr h)
  have hKc : va_K (dC, dI) vwCl (tX6 kp (tX4 kn [])) s := hK.sub (tys' := (tX6 kp (tX4 kn []))) [0, 1, 2, 3, 4, 5, 6, 7, 8, 9, 10, 11, 12] rfl
  have hl := lv_entry ([.ref a0, .int k1, .ref a9]) (n := 4) (Nat.le_of_ble_eq_true rfl)
  rw [lg_entry_eq]
  generalize (lg_sl ([.ref a0, .int k1, .ref a9]) ++ List.replicate (4 - (lg_sl ([.ref a0, .int k1, .ref a9])).length) Slot.unset).toArray = ls at hl ⊢
  have hl : lv_has ls 4 [(0, .ref a0), (1, .int k1), (2, .ref a9)] := hl
  refine lv_aload_n hx hb (zat zrL_led_0_ok 0 rfl) rfl (lv_at hl 2 rfl) ?_
  refine lv_iconst (v := 0) hx hb (zat zrL_led_0_ok 1 rfl) (by decide) ?_
  refine lv_aload_n hx hb (zat zrL_led_0_ok 2 rfl) rfl (lv_at hl 0 rfl) ?_
  refine lv_iload_n hx hb (zat zrL_led_0_ok 3 rfl) rfl (lv_at hl 1 rfl) ?_
  refine vx_calli (vx_runV (As := [.int k1]) (rest := [.int 0, .ref a9]) ⟨hx, hb, hml, hown, hts⟩ (kX10_led l hl0 dC dI a0 k1 a2 a4 up kp un kn g3 g4 g5 g6 g7 g8 g9 g10 p_p n_n an hp han out hf s.heap.size) (cwV 1 hts gL_led_X10_led rfl rfl rfl (by decide +kernel) ⟨Nat.le_of_ble_eq_true rfl, Nat.le_of_ble_eq_true rfl⟩) (PVZ (vP_left hP) hKc (vD_left hD) hN hF hU hV hLB 0 rfl rfl) rfl rfl hl.1 rfl (lv_room (Nat.le_of_ble_eq_true rfl)) (zat zrL_led_0_ok 4 rfl) ⟨Nat.le_of_ble_eq_true rfl, Nat.le_of_ble_eq_true rfl⟩) hS (fun q _ h => hF q h) (fun q h => hF q h) (fun q _ h => Or.inr h) (fun E ce q9 u t H locs ht hvm hno hE hz hk hS hq hv0 hcl => ?_) (fun r u t H locs ht hvm hw hB hz hk hS => ?_)
  · obtain rfl : E = "java/util/NoSuchElementException" := hE
    refine vx_widen (k := 1) (n := 6) (Nat.le_of_ble_eq_true rfl) (Nat.le_of_ble_eq_true rfl) ?_
    refine vx_catch (own := RL) (name := "java/util/NoSuchElementException") hown [] ⟨0, 9, 12, 13⟩ [] htab (fun z hz => nomatch hz) (by decide) (by decide) (hts (.classLink RL 13 "java/util/NoSuchElementException") (List.mem_of_getElem? (i := 1) rfl)) (va_Nw.use rfl (hLB (.castable "java/util/NoSuchElementException" "java/util/NoSuchElementException") (by decide +kernel))) hq hv0 hcl ?_
    refine lv_astore_n (lv' := [(3, .ref q9), (0, .ref a0), (1, .int k1), (2, .ref a9)]) hx hb (zat zrL_led_0_ok 8 rfl) rfl hl (by decide) rfl (fun ls hl => ?_)
    refine lv_iconst (v := 1) hx hb (zat zrL_led_0_ok 9 rfl) (by decide) ?_
    have hP9 : va_P (dC, dI) vwCl ((a0, .inr (7, [.ref a2, g3, g4, .ref a4, g5, g6, g7, g8, g9, g10])) :: bX6 a2 up kp p_p (bX4 a4 un kn n_n [(a9, .inl (cO, 1, .inr (.inl fO)))])) H := vP_iff.mpr (fun q hq => (vP_iff.mp hP q hq).kept (hk q.1 (vP_iff.mp hP q hq).lt (Nat.not_le.mpr (vP_iff.mp hP q hq).lt)))
    have hK9 := hK.sub (tys' := []) [] rfl
    exact W.iret (v := 1) hx hb hr (fun t ht hW => ⟨⟨1, fO, rfl, Or.inr ⟨hno, rfl, rfl⟩, by rw [ht]; exact hP9, va_K.moved hW.alike hK9, hD⟩, hS.F ht⟩) hS.2.2 (zat zrL_led_0_ok 10 rfl)
  · obtain ⟨hP1, hK1, hD1⟩ := hB
    rw [ht] at hP1
    obtain ⟨hP2, hD2⟩ := hs_join hP hD hk hF hP1 hD1
    obtain ⟨a, ha, ho, rfl⟩ := hw
    refine lv_i2l (v := (nI a).toInt64) hx hb (zat zrL_led_0_ok 5 rfl) rfl ?_
    refine va_last hx hb hK hP2 hD2 hS 0 13 rfl rfl (by unfold vp_in; decide) (zat zrL_led_0_ok 6 rfl) (fun H locs hP hD hS => ?_)
    refine lv_goto (tgt := 15) hx hb (zat zrL_led_0_ok 7 rfl) (by decide) ?_
    refine lv_iconst (v := 0) hx hb (zat zrL_led_0_ok 11 rfl) (by decide) ?_
    refine W.widen (k := 1) (n := 6) (by decide) (by decide) ?_
    have hP9 : va_P (dC, dI) vwCl ((a0, .inr (7, [.ref a2, g3, g4, .ref a4, g5, g6, g7, g8, g9, g10])) :: bX6 a2 up kp p_p (bX4 a4 un kn n_n [(a9, .inl (cO, 1, .inr (.inl (vp_updL fO 0 (nI a).toInt64))))])) H := va_P.perm (ws := [(a9, .inl (cO, 1, .inr (.inl (vp_updL fO 0 (nI a).toInt64))))] ++ ((a0, .inr (7, [.ref a2, g3, g4, .ref a4, g5, g6, g7, g8, g9, g10])) :: bX6 a2 up kp p_p (bX4 a4 un kn n_n []))) hP List.perm_append_comm
    have hD9 : va_D (va_A ((a0, .inr (7, [.ref a2, g3, g4, .ref a4, g5, g6, g7, g8, g9, g10])) :: bX6 a2 up kp p_p (bX4 a4 un kn n_n [(a9, .inl (cO, 1, .inr (.inl fO)))])) s.heap.size) ((a0, .inr (7, [.ref a2, g3, g4, .ref a4, g5, g6, g7, g8, g9, g10])) :: bX6 a2 up kp p_p (bX4 a4 un kn n_n [(a9, .inl (cO, 1, .inr (.inl (vp_updL fO 0 (nI a).toInt64))))])) := va_D.perm (ws := [(a9, .inl (cO, 1, .inr (.inl (vp_updL fO 0 (nI a).toInt64))))] ++ ((a0, .inr (7, [.ref a2, g3, g4, .ref a4, g5, g6, g7, g8, g9, g10])) :: bX6 a2 up kp p_p (bX4 a4 un kn n_n []))) hD List.perm_append_comm
    have hK9 := hK.sub (tys' := []) [] rfl
    exact W.iret (v := 0) hx hb hr (fun t ht hW => ⟨⟨0, vp_updL fO 0 (nI a).toInt64, rfl, Or.inl ⟨a, ha, ho, rfl, rfl⟩, by rw [ht]; exact hP9, va_K.moved hW.alike hK9, hD9⟩, hS.F ht⟩) hS.2.2 (zat zrL_led_0_ok 12 rfl)
