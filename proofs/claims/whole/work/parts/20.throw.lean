/-! E(String) with its own place of the pool for super(..): follows JvmDerived/BundleOwnThrow.lean (ctorThrowS) and vx_throwS -/
section GCT
def gxTail (own : String) (ic : Nat) (X : String) : List Cond := [.methodLink own ic (Bundle.initS X), .instantiable X 6, .castable X X, .selects X Bundle.tFill0 Bundle.tFill0, .selects X Bundle.tFill Bundle.tFill,
   .lays X Bundle.tN "cause" "Ljava/lang/Throwable;", .lays X Bundle.tN "stackTrace" Bundle.steD, .lays X Bundle.tN "suppressedExceptions" Bundle.listD, .lays X Bundle.tN "detailMessage" "Ljava/lang/String;",
   .isRef (.static Bundle.tN "UNASSIGNED_STACK" Bundle.steD), .isRef (.static Bundle.tN "SUPPRESSED_SENTINEL" Bundle.listD),
   .fieldLink Bundle.tN 198 Bundle.tN "backtrace" "Ljava/lang/Object;", .lays Bundle.tN Bundle.tN "backtrace" "Ljava/lang/Object;", .lays X Bundle.tN "backtrace" "Ljava/lang/Object;"]
def gxAtoms (own : String) (ic : Nat) (X Y : String) (names : List String) (ix : Nat) (bys : ByteArray) : List Cond :=
  Bundle.throwableAtoms ++ (Bundle.throwableSAtoms ++ (Bundle.passSAtoms X Y ix bys ++ (Bundle.chainSAtoms Y names ++ gxTail own ic X)))
variable {p : Program} {l : Launch} {e : Env} {R : Room} {s : State} {m₀ : MethodId} {args : Array Value} {below : List Frame} {meth : Method} {c : Code} {W : State} {locs : List Loc} {cells slots : Nat}
set_option maxHeartbeats 1000000 in
theorem gx_ctor (X : Stand p l e R s m₀ args below meth c W locs cells slots) (hexec : p.tables.exec = Jvm.exec) (htr : e.platform.stackTraces = false) {own cls Y0 : String} {names : List String} {ic ix : Nat} {bys : ByteArray}
    (q0 : decode bys 0 = .ok (.aload_n 0, 1)) (q1 : decode bys 1 = .ok (.aload_n 1, 1)) (q2 : decode bys 2 = .ok (.invokespecial ix, 3)) (q5 : decode bys 5 = .ok (.return_, 1))
    (hown : s.vm.findClass own = some m₀.cls) (hcls : Bundle.fit cls = true) (hY0 : Bundle.fit Y0 = true) (hnames : ∀ n ∈ names, Bundle.fit n = true)
    (h : ∀ a ∈ gxAtoms own ic cls Y0 names ix bys, a.before args s = true)
    (hlocs : ∀ x ∈ locs, ∀ cell, s.heap[x.base]? = some cell → cell.vm.isStatics = false)
    {a : Addr} {cX : ClassId} {kX : Class} (hfoundX : s.vm.findClass cls = some cX) (hkX : s.vm.classes[cX]? = some kX) (hcell : W.heap[a]? = some (freshCell cX kX)) (hnew : s.heap.size ≤ a)
    {msg : Value} (hmsg : msg.isRef = true)
    {g : JFrame} (hg : g.method = m₀) (hsize : g.locals.size = c.maxLocals) (hlocked : g.locked = none) (hentered : g.entered = []) {rest : List Value} (hstack : g.stack = msg :: .ref a :: .ref a :: rest)
    (hd6 : decode c.code g.pc = .ok (.invokespecial ic, 3)) (hd9 : decode c.code (g.pc + 3) = .ok (.athrow, 1)) (hout : ∀ x ∈ c.exceptionTable.toList, covers x (g.pc + 3) = false)
    (hRframes : names.length + 4 < R.frames) (hRlocals : 2 * g.monitorRoom + ((Value.ref a :: rest).map fun v => v.category).sum + (13 * (names.length + 2) + 42) ≤ R.locals) (hlocks : meth.locks = false) :
    ∃ U : State, Steps p.tables e below (W.setTop g) U ∧ U.status = .running ∧ Ended U below (.threw a) ∧ s.WarmedH U.vm ∧ s.sameButNew ({ U with vm := s.vm } : State) locs cells slots ∧
      ∃ ce, U.heap[a]? = some ce ∧ ce.vm = .none ∧ s.vm.findClass cls = some ce.cls := by
  have howns : e.platform.frameOwnsMonitors = true := by rw [X.admits.platform]
  have hfin : e.platform.finalization = false := by rw [X.admits.platform]
  have hpl : e.platform.magicAccessors = ({} : Platform).magicAccessors := by rw [X.admits.platform]
  have hT9 : ∀ x ∈ gxTail own ic cls, x.before args s = true := fun x hx => h x (by
    unfold gxAtoms
    exact List.mem_append_right _ (List.mem_append_right _ (List.mem_append_right _ (List.mem_append_right _ hx))))
  have a' : ∀ x, x ∈ gxTail own ic cls → x.holds args s none s [] = true := fun x hx => hT9 x hx
  obtain ⟨T, Z0, L, -, Y⟩ := ThrowableC.of_atoms (args := args) howns hfin hpl (fun x hx => h x (List.mem_append_left _ hx))
  obtain ⟨Z, M, LZ, LM, hnZ⟩ := Init0T.ofS_atoms (args := args) hpl L Y (fun x hx => h x (List.mem_append_right _ (List.mem_append_left _ hx)))
  obtain ⟨P0, L0, hP1m, hs0⟩ := PassC.ofS_atoms (args := args) (s := s) hpl (X := cls) (Y := Y0) (Bundle.fit_spec hcls).1 (Bundle.fit_spec hY0).2 q0 q1 q2 q5 (fun x hx => h x (List.mem_append_right _ (List.mem_append_right _ (List.mem_append_left _ hx))))
  obtain ⟨P1, Ps, hlen, L1, hL, hP2m, hlink1, hlink⟩ := Bundle.chainS (args := args) hpl hnZ names Y0 hY0 hnames (fun x hx => h x (List.mem_append_right _ (List.mem_append_right _ (List.mem_append_right _ (List.mem_append_left _ hx)))))
  have hlink0 : P0.sup = P1.m := Option.some.inj (hs0.symm.trans hP2m)
  have hfound : s.vm.findClass cls = some P0.m.cls := findClass_of_methodNamed hP1m
  cases Option.some.inj (hfoundX.symm.trans hfound)
  obtain ⟨c1, kX', hc1, hk, hord, -, -, hn6⟩ := Cond.instantiable_spec (a' (.instantiable cls 6) (by simp [gxTail]))
  cases Option.some.inj (hc1.symm.trans hfound)
  cases Option.some.inj (hkX.symm.trans hk)
  have hsel0 : selectMethod e.platform s.vm P0.m.cls T.fill0 = .method T.fill0 := by
    obtain ⟨c2, r2, m2, q1, q2, q3, q4, -⟩ := Cond.selects_spec (a' (.selects cls Bundle.tFill0 Bundle.tFill0) (by simp [gxTail]))
    cases Option.some.inj (q1.symm.trans hfound)
    cases Option.some.inj (q2.symm.trans (State.methodFound?_of_named Y.fill0 (by decide)))
    cases Option.some.inj (q3.symm.trans Y.fill0)
    rw [Launch.admits_selectMethod X.admits]; exact q4
  have hselF : selectMethod e.platform s.vm P0.m.cls T.fill = .method T.fill := by
    obtain ⟨c2, r2, m2, q1, q2, q3, q4, -⟩ := Cond.selects_spec (a' (.selects cls Bundle.tFill Bundle.tFill) (by simp [gxTail]))
    cases Option.some.inj (q1.symm.trans hfound)
    cases Option.some.inj (q2.symm.trans (State.methodFound?_of_named Y.fill (by decide)))
    cases Option.some.inj (q3.symm.trans Y.fill)
    rw [Launch.admits_selectMethod X.admits]; exact q4
  obtain ⟨cellS0, hcS0, hiss⟩ := Y.statics
  obtain ⟨u0, hu0⟩ := Cond.staticRefV Y.unassigned L.unassignedStatic L.statics hcS0 hiss (a' (.isRef (.static Bundle.tN "UNASSIGNED_STACK" Bundle.steD)) (by simp [gxTail]))
  obtain ⟨sen, hsen⟩ := Cond.staticRefV Y.sentinel L.sentinelStatic L.statics hcS0 hiss (a' (.isRef (.static Bundle.tN "SUPPRESSED_SENTINEL" Bundle.listD)) (by simp [gxTail]))
  obtain ⟨ci198, i198, fB, hk198, hg198, ha198, hsB, -, hnB, htB, hffB⟩ := Cond.ownField (t := .object "java/lang/Object") Y.found L.cls (by decide +kernel) (a' (.fieldLink Bundle.tN 198 Bundle.tN "backtrace" "Ljava/lang/Object;") (by simp [gxTail])) (a' (.lays Bundle.tN Bundle.tN "backtrace" "Ljava/lang/Object;") (by simp [gxTail])) e.platform hpl
  obtain ⟨cellS, hcS', heS, -, hkeep⟩ := X.same.2.2.2.2.2 T.aS cellS0 hcS0
  have hcellS : W.heap[T.aS]? = some cellS := hcS'
  have hout' : ∀ i, (⟨T.aS, i⟩ : Loc) ∉ locs := fun i hmem => by
    have := hlocs _ hmem cellS0 hcS0
    rw [hiss] at this; cases this
  have hknownS : cellS.vm ≠ .unknown := by
    rw [heS]; intro hu
    rw [show cellS0.vm = .unknown from hu] at hiss
    cases hiss
  have hneS : T.aS ≠ a := Nat.ne_of_lt (Nat.lt_of_lt_of_le (Array.getElem?_eq_some_iff.mp hcS0).1 hnew)
  obtain ⟨iM, hffM⟩ := Y.msg
  obtain ⟨tyC, dC, hdC, hdnC⟩ := Cond.laysAt hfound hk Y.cause (a' (.lays cls Bundle.tN "cause" "Ljava/lang/Throwable;") (by simp [gxTail]))
  obtain ⟨tyS, dS, hdS, hdnS⟩ := Cond.laysAt hfound hk Y.stack (a' (.lays cls Bundle.tN "stackTrace" Bundle.steD) (by simp [gxTail]))
  obtain ⟨tyP, dP, hdP, hdnP⟩ := Cond.laysAt hfound hk Y.supp (a' (.lays cls Bundle.tN "suppressedExceptions" Bundle.listD) (by simp [gxTail]))
  obtain ⟨tyM, dM, hdM, hdnM⟩ := Cond.laysAt hfound hk hffM (a' (.lays cls Bundle.tN "detailMessage" "Ljava/lang/String;") (by simp [gxTail]))
  obtain ⟨tyB, dB, hdB, hdnB⟩ := Cond.laysAt hfound hk hffB (a' (.lays cls Bundle.tN "backtrace" "Ljava/lang/Object;") (by simp [gxTail]))
  have bC := Cond.laysApart hdB hdC hdnB hdnC (by rw [hnB, Y.causeName]; decide)
  have bS := Cond.laysApart hdB hdS hdnB hdnS (by rw [hnB, Y.stackName]; decide)
  have bP := Cond.laysApart hdB hdP hdnB hdnP (by rw [hnB, Y.suppName]; decide)
  have hskip : SkipFacts T e.platform s (fun u => u) u0 ((preparedCellV T.toThrowableT (freshCell P0.m.cls kX) a u0 sen).withEntry W.cur) :=
    ⟨{ ci198 := ci198, i198 := i198, fBack := fB }, ⟨hk198, hg198, ha198, hsB⟩, by
      have := fresh_default (c := P0.m.cls) tyB
      rw [htB] at this
      simpa [preparedCellV, Cell.setSlot, Cell.withEntry, Array.getElem?_setIfInBounds, bC, bS, bP, bC.symm, bS.symm, bP.symm, defaultValue] using this, fun _ _ => rfl⟩
  have hin0 : ∀ x ∈ Bundle.passSAtoms cls Y0 ix bys, x.before args s = true := fun x hx => h x (List.mem_append_right _ (List.mem_append_right _ (List.mem_append_left _ hx)))
  obtain ⟨tm, methC, cdC, kC, vm₁, hnC, -, -, -, -, -, -, -, hW₁, st1⟩ := Steps.initColdS (tb := p.tables) (e := e) (below := below) (s := s) (U := W) X.here hexec X.warmed hpl hown (t := Bundle.initS cls) rfl rfl (Bundle.fit_spec hcls).2
    (a' (.methodLink own ic (Bundle.initS cls)) (by simp [gxTail])) (hin0 (.instanceMethod (Bundle.initS cls)) (by simp [Bundle.passSAtoms])) (bytes := bys) (maxL := 2) (hin0 (.code (Bundle.initS cls) bys 2 none) (by simp [Bundle.passSAtoms]))
    (f := g) hg (a := a) (msg := msg) (rest := .ref a :: rest) hstack hd6
  cases Option.some.inj (hnC.symm.trans hP1m)
  have X₁ := X.noted hW₁
  obtain ⟨vm₂, X₂, st2⟩ := X₁.ctorMessageOffV hexec (g := { g with stack := .ref a :: rest }) hg hsize T L Z LZ M LM (P0 :: P1 :: Ps)
    (fun P hP => by
      rcases List.mem_cons.mp hP with rfl | hP
      · exact L0
      · rcases List.mem_cons.mp hP with rfl | hP
        · exact L1
        · exact hL P hP) ⟨hlink0, hlink1, hlink⟩ (u0 := u0) (sen := sen) (self := a) hmsg (cell := freshCell P0.m.cls kX) (cellS := cellS)
    hcell (fun _ => by simp) (by simp) rfl rfl hsel0 hselF hcellS hneS hknownS (by rw [hkeep _ (hout' _)]; exact hu0) (by rw [hkeep _ (hout' _)]; exact hsen)
    (Takes.of_laid hk hord tyC (by rw [Y.causeType]; rfl)) (Takes.of_laid hk hord tyS (by rw [Y.stackType]; exact fits_refV_array _ u0)) (Takes.of_laid hk hord tyP (by rw [Y.suppType]; exact fits_refV_object _ sen))
    (Takes.of_laid hk hord tyM (by rw [Y.msgType]; exact fits_refV_object _ ⟨msg, hmsg⟩)) Y.objLocals hskip htr [] hd6
    (by simp only [List.length_cons, hlen]; omega) (by simp only [List.length_cons, hlen]; exact hRlocals)
  obtain ⟨hwalk, hrun, hended, hWU, hsame⟩ := X₂.athrowLeaves hexec (g := { g with stack := .ref a :: rest, pc := g.pc + 3 }) hg hlocked hentered hout (a := a) (rest := rest) rfl hd9 hlocks
  have hlt : a < ((W.setVm vm₁).setVm vm₂).heap.size := (Array.getElem?_eq_some_iff.mp hcell).1
  have hU := heapAt_setCell_self (s := (W.setVm vm₁).setVm vm₂) (plainBareV T.toThrowableT (freshCell P0.m.cls kX) a u0 sen msg) hlt
  refine ⟨_, st1 _ (fun acts => ?_), hrun, hended, hWU, hsame.weaken (fun y hy hlt' => ?_) (Nat.le_refl _) (Nat.le_refl _), _, hU, rfl, hfound⟩
  · rw [doInvoke_state]
    exact st2 _ hwalk
  · rcases List.mem_append.mp hy with h1 | h1
    · exact h1
    · exfalso
      have hb : y.base = a := by
        simp only [List.mem_cons, List.not_mem_nil, or_false] at h1
        rcases h1 with rfl | rfl | rfl | rfl | rfl <;> rfl
      rw [hb] at hlt'
      exact Nat.not_lt.mpr hnew hlt'
end GCT
section GCW
variable {p : Program} {l : Launch} {e : Env} {R : Room} {s : State} {m : MethodId} {args : Array Value} {below : List Frame} {meth : Method} {c : Code} {H : Heap} {locs : List Loc} {cells slots : Nat} {free : Addr → Prop} {ls : Array Slot} {rest : List Value}
variable {Qc : Array Value → State → Outcome → State → Prop} {XC : String → State → State → Prop}
def gx_at (own : String) (ic : Nat) (X Y : String) (names : List String) (ix : Nat) (bys : ByteArray) : List Cond := (gxAtoms own ic X Y names ix bys).filter vx_no
theorem gx_throw {cc : ByteArray} {pc : Nat} (hexec : p.tables.exec = Jvm.exec) (hb : c.code = cc) (hl : l.stackTraces = false) {own cls text Y0 : String} {names : List String} {ik is ic mc ms sa ix : Nat} {bys : ByteArray} {A : Nat → Prop}
    (q0 : decode bys 0 = .ok (.aload_n 0, 1)) (q1 : decode bys 1 = .ok (.aload_n 1, 1)) (q2 : decode bys 2 = .ok (.invokespecial ix, 3)) (q5 : decode bys 5 = .ok (.return_, 1))
    (hown : s.vm.findClass own = some m.cls) (hcls : Bundle.fit cls = true) (hY0 : Bundle.fit Y0 = true) (hnames : ∀ n ∈ names, Bundle.fit n = true)
    (hk : (Cond.classLink own ik cls).before args s = true) (hini : (Cond.initialized cls).before args s = true) (hstr : vk_R own is text sa s) (hat : ∀ w ∈ gx_at own ic cls Y0 names ix bys, w.before args s = true)
    (hgood : ∀ w ∈ Cond.classLink own ik cls :: Cond.initialized cls :: gx_at own ic cls Y0 names ix bys, vx_ot w = true)
    (hU : vx_Zq Bundle.tN "UNASSIGNED_STACK" Bundle.steD A s s.heap) (hN : vx_Zq Bundle.tN "SUPPRESSED_SENTINEL" Bundle.listD A s s.heap) (hS : va_S A s.heap H locs) (hsize : ls.size = c.maxLocals)
    (d0 : decode cc pc = .ok (.new ik, 3)) (d3 : decode cc (pc + 3) = .ok (.dup, 1)) (d4 : decode cc (pc + 4) = .ok (.ldc is, 2)) (d6 : decode cc (pc + 6) = .ok (.invokespecial ic, 3)) (d9 : decode cc (pc + 9) = .ok (.athrow, 1))
    (hout : ∀ x ∈ c.exceptionTable.toList, covers x (pc + 9) = false)
    (hRframes : names.length + 4 < R.frames) (hRlocals : (rest.map fun v => v.category).sum + (13 * (names.length + 2) + 43) ≤ R.locals) (hRcells : cells + 1 ≤ R.cells) (hRslots : slots + 6 ≤ R.slots) (hlocks : meth.locks = false)
    (hx : ∀ t : State, s.vm.Alike t.vm → H.size ≤ t.heap.size → (∀ q : Nat, q < H.size → t.heap[q]? = H[q]?) → XC cls s t)
    (hf : ∀ z ∈ locs, free z.base) (hc : cells + 1 ≤ mc) (hs : slots + 6 ≤ ms) :
    W p l e R s m args below meth c H locs cells slots (vx_MQ below Qc XC args s mc ms free) (F0 m pc ls rest) := by
  intro T hT X
  have htr : e.platform.stackTraces = false := (show e.platform.stackTraces = l.stackTraces by rw [X.admits.platform]).trans hl
  have Y := vx_rebase X (R' := { frames := R.frames, locals := R.locals, cells := 1, slots := 6 }) (Nat.le_refl _) (Nat.le_refl _) hRcells hRslots
  obtain ⟨s', hA9⟩ : ∃ z, z = (T.setVm s.vm).setFrames (.invoking m args :: below) := ⟨_, rfl⟩
  rw [← hA9] at Y
  have hvm : s'.vm = s.vm := by rw [hA9]; rfl
  have hhp : s'.heap = H := by rw [hA9]; exact hT
  have hW0 : s.WarmedH s'.vm := by rw [hvm]; exact State.WarmedH.refl s
  have hat' : ∀ w ∈ gx_at own ic cls Y0 names ix bys, w.before args s' = true := fun w hw => vx_ot_at hW0 hvm.symm (hgood w (List.mem_cons_of_mem _ (List.mem_cons_of_mem _ hw))) (hat w hw)
  have hk' : (Cond.classLink own ik cls).before args s' = true := vx_ot_at hW0 hvm.symm (hgood _ List.mem_cons_self) hk
  have hini' : (Cond.initialized cls).before args s' = true := vx_ot_at hW0 hvm.symm (hgood _ (List.mem_cons_of_mem _ List.mem_cons_self)) hini
  have hU' : vx_Zq Bundle.tN "UNASSIGNED_STACK" Bundle.steD A s' s'.heap := by rw [hhp]; exact vx_Zq.moved hW0.alike (hU.kept hS.2.1)
  have hN' : vx_Zq Bundle.tN "SUPPRESSED_SENTINEL" Bundle.listD A s' s'.heap := by rw [hhp]; exact vx_Zq.moved hW0.alike (hN.kept hS.2.1)
  have h : ∀ w ∈ gxAtoms own ic cls Y0 names ix bys, w.before args s' = true := vx_own hat' (vx_isRefq hU'.1) (vx_isRefq hN'.1) hU'.2.word hN'.2.word
  have hown' : s'.vm.findClass own = some m.cls := by rw [hvm]; exact hown
  have hins : (Cond.instantiable cls 6).before args s' = true := h _ (List.mem_append_right _ (List.mem_append_right _ (List.mem_append_right _ (List.mem_append_right _ (by simp [gxTail])))))
  obtain ⟨vm₁, cX, kX, hfX, hkX, -, -, X₁, st1⟩ := Y.newCold hexec (own := own) (C := cls) (index := ik) (n := 6) hown' hk' hins hini'
    (g := F0 m pc ls rest) rfl (by rw [hb]; exact d0) (Nat.le_refl _) (Nat.le_refl _)
  generalize hT1 : (T.setVm vm₁).pushCell { cls := cX, slots := kX.instanceTypes.map defaultValue, vm := .none } = T1 at X₁ st1
  have hcat : (Value.ref T.heap.size).category = 1 := rfl
  have hcellA : T1.heap[T.heap.size]? = some (freshCell cX kX) := by rw [← hT1]; exact State.heap_pushCell_size _ _
  have d3' : decode c.code (pc + 3) = .ok (.dup, 1) := by rw [hb]; exact d3
  have d4' : decode c.code (pc + 4) = .ok (.ldc is, 2) := by rw [hb]; exact d4
  have hstr' : vk_R own is text sa s' := vk_R.warm hW0 hstr
  obtain ⟨U, hsteps, hrun, hend, hW, hsame, ce, hce, hcv, hcl⟩ := gx_ctor X₁ hexec htr q0 q1 q2 q5 (own := own) (cls := cls) (names := names) (ic := ic) hown' hcls hY0 hnames h (fun x hx => nomatch hx) hfX hkX hcellA (by rw [hhp, hT]; exact Nat.le_refl _) (msg := .ref sa) rfl
    (g := { method := m, pc := pc + 6, locals := ls, stack := .ref sa :: .ref T.heap.size :: .ref T.heap.size :: rest, locked := none }) rfl hsize rfl rfl (rest := rest) rfl
    (by rw [hb]; exact d6) (by rw [hb]; exact d9) hout hRframes (by simp only [List.map_cons, List.sum_cons, hcat]; omega) hlocks
  obtain ⟨f1, f2⟩ := vx_frame hsame
  rw [hhp] at f1 f2
  have hWs : s.WarmedH U.vm := State.WarmedH.trans hW0 hW
  rw [hvm] at hcl
  have hall : s.sameButNew ({ U with vm := s.vm } : State) locs mc ms := by
    subst hA9
    obtain ⟨e1, e2⟩ := hsame
    rw [State.setFrames_setFrames] at e1
    have h2 : (T.setVm s.vm).sameButNew ({ U with vm := s.vm } : State) [] (0 + 1) (0 + 6) := ⟨e1, e2⟩
    have h3 := X.same.trans h2
    rw [List.append_nil] at h3
    exact h3.mono hc hs
  refine ⟨U, ?_, .threw T.heap.size, hrun, hend, Or.inr ⟨T.heap.size, rfl, cls, ce, locs, hx U hWs.alike f1 (fun q hq => f2 q hq (fun z hz => nomatch hz)), hce, hcv, hcl, hWs, hall, hf⟩⟩
  refine st1 _ ?_
  show Steps p.tables e below (T1.setTop { method := m, pc := pc + 3, locals := ls, stack := .ref T.heap.size :: rest, locked := none }) _
  jvm_step X₁.here [X₁.here.top, hexec, d3', Value.category]
  exact X₁.ldcString hexec (own := own) (text := text) (index := is) (a := sa) hown' hstr'.1 hstr'.2
    (g := { method := m, pc := pc + 4, locals := ls, stack := .ref T.heap.size :: .ref T.heap.size :: rest, locked := none }) rfl d4' _ hsteps
end GCW
/-! methods that may throw: what they rest on beside their world, and how they are called -/
def wsF : List Cond := lw_tbl.filter (fun w => w.onTables && w.keepsFace)
theorem wF_at {w : Cond} {s U : State} {A A' : Array Value} (hw : w ∈ wsF) (hW : s.WarmedH U.vm) (h : w.before A s = true) : w.before A' U = true := by
  have hq := (List.mem_filter.mp hw).2
  simp only [Bool.and_eq_true] at hq
  have h1 : w.before A (s.setVm U.vm) = true := Cond.before_shiftedFace (State.Shifted.of_warmed hW) _ hq.2 h
  exact va_tabs hq.1 (rfl : (s.setVm U.vm).vm = U.vm) h1
theorem wF_sm {w : Cond} {u U : State} {A A' : Array Value} (hw : w ∈ wsF) (hv : U.vm = u.vm) (h : w.before A u = true) : w.before A' U = true := by
  have hq := (List.mem_filter.mp hw).2
  simp only [Bool.and_eq_true] at hq
  exact va_tabs hq.1 hv.symm h
def xStr : List (Nat × String × Nat) := [(111, "no such map", 0), (54, "growing was refused", 1), (120, "the key is not there", 2), (82, "no such thing about a map", 3), (118, "no such place", 4), (104, "the place is free", 5), (107, "no such count", 6)]
def xNm : List String := ["java/lang/Exception"]
def xF (sa : Nat → Nat) (U : State) : Prop := (∀ w ∈ wsF, w.before #[] U = true) ∧ ∀ x ∈ xStr, vk_R R_Hop x.1 x.2.1 (sa x.2.2) U
theorem xF.warm {sa : Nat → Nat} {s U : State} (hW : s.WarmedH U.vm) (h : xF sa s) : xF sa U := ⟨fun w hw => wF_at hw hW (h.1 w hw), fun x hx => vk_R.warm hW (h.2 x hx)⟩
theorem xF.same {sa : Nat → Nat} {u U : State} (hv : U.vm = u.vm) (h : xF sa u) : xF sa U := ⟨fun w hw => wF_sm hw hv (h.1 w hw), fun x hx => vk_R.same hv (h.2 x hx)⟩
def xZ (A : Nat → Prop) (U : State) (H : Heap) : Prop := vx_Zq Bundle.tN "UNASSIGNED_STACK" Bundle.steD A U H ∧ vx_Zq Bundle.tN "SUPPRESSED_SENTINEL" Bundle.listD A U H
theorem xZ.moved {A : Nat → Prop} {u U : State} {H : Heap} (hvm : u.vm.Alike U.vm) (h : xZ A u H) : xZ A U H := ⟨vx_Zq.moved hvm h.1, vx_Zq.moved hvm h.2⟩
theorem xZ.kept {A : Nat → Prop} {U : State} {H H1 : Heap} (h : xZ A U H) (hq : ∀ a : Nat, a < H.size → ¬ A a → H1[a]? = H[a]?) : xZ A U H1 := ⟨vx_Zq.kept h.1 hq, vx_Zq.kept h.2 hq⟩
theorem xZ.narrow {A B : Nat → Prop} {U : State} {H : Heap} (h : xZ A U H) (hAB : ∀ q, B q → A q) : xZ B U H := ⟨vx_Zq.narrow h.1 hAB, vx_Zq.narrow h.2 hAB⟩
def hb_X (D : va_G) (cl : List vw_C) (ws : va_W) (tys : List (ClassId × FieldType)) (sa : Nat → Nat) (U : State) : Prop := va_P D cl ws U.heap ∧ va_K D cl tys U ∧ va_D (fun _ => True) ws ∧ xF sa U ∧ xZ (hA ws) U U.heap
def hX_Q (r : Option Value ⊕ String) (D : va_G) (cl : List vw_C) (w1 : va_W) (A : Nat → Prop) : Array Value → State → Outcome → State → Prop := fun _ st o t => ∃ v, r = .inl v ∧ o = .returned v ∧ va_P D cl w1 t.heap ∧ va_F A st t
def hX_X (r : Option Value ⊕ String) (D : va_G) (cl : List vw_C) (w1 : va_W) (A : Nat → Prop) : String → State → State → Prop := fun E st t => r = .inr E ∧ va_P D cl w1 t.heap ∧ va_F A st t
section HXA
variable {p : Program} {l : Launch} {e : Env} {R : Room} {s : State} {m : MethodId} {args : Array Value} {below : List Frame} {meth : Method} {c : Code} {H : Heap} {locs : List Loc} {cells slots : Nat} {Q : State → Prop}
variable {cc : ByteArray} {pc nL : Nat} {ls : Array Slot} {rest st0 : List Value} {D : va_G} {cl : List vw_C} {A : Nat → Prop} {H0 : Heap} {tys : List (ClassId × FieldType)} {ws w1 : va_W} {sa : Nat → Nat}
theorem hb_blindX {av : List Value} : FrameBlind (va_Pc av (hb_X D cl ws tys sa)) := fun a U g mk q => ⟨q.1, q.2.1, va_K.moved (u := U) (U := U.calling g mk a) (Vm.Alike.refl U.vm) q.2.2.1, q.2.2.2.1, xF.same (u := U) (U := U.calling g mk a) rfl q.2.2.2.2.1, xZ.moved (u := U) (U := U.calling g mk a) (Vm.Alike.refl U.vm) q.2.2.2.2.2⟩
theorem hb_preX {As : List Value} (hP : va_P D cl ws H) (hK : va_K D cl tys s) (hD : va_D A ws) (hS : va_S A s.heap H locs) (hF : xF sa s) (hZ : xZ A s s.heap) : ∀ U : State, U.heap = H → s.WarmedH U.vm → va_Pc As (hb_X D cl ws tys sa) As.toArray U :=
  fun U hU hW => ⟨rfl, by rw [hU]; exact hP, va_K.moved hW.alike hK, hD.weaken (fun _ _ _ _ => trivial), hF.warm hW, by rw [hU]; exact ((hZ.kept hS.2.1).moved hW.alike).narrow (hA_sub hD)⟩
theorem hX_call {a : Array Value} {r : Option Value ⊕ String} {mc ms : Nat} (hr : vx_Run p l e R s m args below meth c H locs cells slots mc ms (F0 m pc ls st0) rest (hX_Q r D cl w1 (hA ws) a) (hX_X r D cl w1 (hA ws)) (hA ws)) (hD : va_D A ws) (hD1 : va_D A w1) (hS : va_S A s.heap H locs) (kx : ∀ (E : String) (ce : Cell) (q9 : Addr) (H1 : Heap) (locs1 : List Loc), r = .inr E → va_P D cl w1 H1 → va_D A w1 → va_S A s.heap H1 locs1 → H1[q9]? = some ce → ce.vm = .none → s.vm.findClass E = some ce.cls → vx_W p l e R s m args below meth c H1 locs1 (cells + mc) (slots + ms) Q (F0 m pc ls rest) q9) (kk : ∀ (v : Option Value) (H1 : Heap) (locs1 : List Loc), r = .inl v → va_P D cl w1 H1 → va_D A w1 → va_S A s.heap H1 locs1 → W p l e R s m args below meth c H1 locs1 (cells + mc) (slots + ms) Q (F0 m (pc + 3) ls (v.toList ++ rest))) : W p l e R s m args below meth c H locs cells slots Q (F0 m pc ls st0) := by
  intro T hT X
  rcases hr T hT X with ⟨v, st₀, t, T', L, h0, X', hL, e1, e2, ⟨v', hv, ho, hp, hF⟩, st⟩ | ⟨q, st₀, t, T', L, E, ce, h0, X', hL, e1, e2, ⟨hv, hp, hF⟩, hce, hcv, hcl, st⟩
  · cases ho
    obtain ⟨k1, k2, k3⟩ := vx_keep h0 e1 hS (fun q _ z => hA_sub hD q z) (hA_sub hD) hL hF
    obtain ⟨t2, a1, b1⟩ := kk v T'.heap (locs ++ L) hv (by rw [e1]; exact hp) hD1 k3 T' rfl X'
    exact ⟨t2, st t2 a1, b1⟩
  · obtain ⟨k1, k2, k3⟩ := vx_keep h0 e1 hS (fun q _ z => hA_sub hD q z) (hA_sub hD) hL hF
    obtain ⟨t2, a1, b1⟩ := kx E ce q T'.heap (locs ++ L) hv (by rw [e1]; exact hp) hD1 k3 (by rw [e1]; exact hce) hcv hcl T' rfl X'
    exact ⟨t2, st.trans a1, b1⟩
variable {y : MethodName} {bytes : ByteArray} {maxL mc ms n index : Nat} {ret : Option FieldType} {wy : List Cond} {rm : Room} {Ts : List Cond} {own C : String} {b : Addr} {As : List Value}
theorem hX_V {r : Option Value ⊕ String} (S : CallFix p m c cc nL s args Ts own) (hM : vx_Met l y wy rm (va_Pc (.ref b :: As) (hb_X D cl ws tys sa)) (hX_Q r D cl w1 (hA ws)) (hX_X r D cl w1 (hA ws)) mc ms (hA ws)) (cw : CallW R s args own C index y bytes maxL ret wy rm mc ms n) (hP : va_P D cl ws H) (hK : va_K D cl tys s) (hD : va_D A ws) (hD1 : va_D A w1) (hS : va_S A s.heap H locs) (hF : xF sa s) (hZ : xZ A s s.heap) (hrec : ∃ cellB : Cell, H[b]? = some cellB ∧ cellB.vm.isStatics = false ∧ s.vm.findClass C = some cellB.cls)
    (hn : As.length = n) (hsz : ls.size = nL) (hst : st0 = As.reverse ++ .ref b :: rest) (hrm : (rest.map fun v => v.category).sum ≤ 8) (hf : cells + mc ≤ R.cells ∧ slots + ms ≤ R.slots) (d : decode cc pc = .ok (.invokevirtual index, 3)) (kx : ∀ (E : String) (ce : Cell) (q9 : Addr) (H1 : Heap) (locs1 : List Loc), r = .inr E → va_P D cl w1 H1 → va_D A w1 → va_S A s.heap H1 locs1 → H1[q9]? = some ce → ce.vm = .none → s.vm.findClass E = some ce.cls → vx_W p l e R s m args below meth c H1 locs1 (cells + mc) (slots + ms) Q (F0 m pc ls rest) q9) (kk : ∀ (v : Option Value) (H1 : Heap) (locs1 : List Loc), r = .inl v → va_P D cl w1 H1 → va_D A w1 → va_S A s.heap H1 locs1 → W p l e R s m args below meth c H1 locs1 (cells + mc) (slots + ms) Q (F0 m (pc + 3) ls (v.toList ++ rest))) : W p l e R s m args below meth c H locs cells slots Q (F0 m pc ls st0) :=
  hX_call (vx_runV (As := As) (rest := rest) S hM cw ⟨hb_blindX, hrec, hb_preX hP hK hD hS hF hZ⟩ rfl hn hsz hst (lv_room hrm) d hf) hD hD1 hS kx kk
theorem hX_S {r : Option Value ⊕ String} (S : CallFix p m c cc nL s args Ts own) (hM : vx_Met l y wy rm (va_Pc As (hb_X D cl ws tys sa)) (hX_Q r D cl w1 (hA ws)) (hX_X r D cl w1 (hA ws)) mc ms (hA ws)) (cw : CallB R s args own index y bytes maxL ret wy rm mc ms n ∧ (Cond.static y).before args s = true) (hP : va_P D cl ws H) (hK : va_K D cl tys s) (hD : va_D A ws) (hD1 : va_D A w1) (hS : va_S A s.heap H locs) (hF : xF sa s) (hZ : xZ A s s.heap)
    (hn : As.length = n) (hsz : ls.size = nL) (hst : st0 = As.reverse ++ rest) (hrm : (rest.map fun v => v.category).sum ≤ 8) (hf : cells + mc ≤ R.cells ∧ slots + ms ≤ R.slots) (d : decode cc pc = .ok (.invokestatic index, 3)) (kx : ∀ (E : String) (ce : Cell) (q9 : Addr) (H1 : Heap) (locs1 : List Loc), r = .inr E → va_P D cl w1 H1 → va_D A w1 → va_S A s.heap H1 locs1 → H1[q9]? = some ce → ce.vm = .none → s.vm.findClass E = some ce.cls → vx_W p l e R s m args below meth c H1 locs1 (cells + mc) (slots + ms) Q (F0 m pc ls rest) q9) (kk : ∀ (v : Option Value) (H1 : Heap) (locs1 : List Loc), r = .inl v → va_P D cl w1 H1 → va_D A w1 → va_S A s.heap H1 locs1 → W p l e R s m args below meth c H1 locs1 (cells + mc) (slots + ms) Q (F0 m (pc + 3) ls (v.toList ++ rest))) : W p l e R s m args below meth c H locs cells slots Q (F0 m pc ls st0) :=
  hX_call (vx_runS (As := As) (rest := rest) S hM cw ⟨hb_blindX, hb_preX hP hK hD hS hF hZ⟩ rfl hn hsz hst (lv_room hrm) d hf) hD hD1 hS kx kk
theorem hX_out {r : Option Value ⊕ String} {E : String} {ce : Cell} {q9 : Addr} (hnt : ∀ x ∈ c.exceptionTable.toList, False) (hlocks : meth.locks = false) (hr : r = .inr E) (hP : va_P D cl w1 H) (hS : va_S (hA ws) s.heap H locs) (hce : H[q9]? = some ce) (hcv : ce.vm = .none) (hcl : s.vm.findClass E = some ce.cls) (hc : cells ≤ mc) (hs : slots ≤ ms) :
    vx_W p l e R s m args below meth c H locs cells slots (vx_MQ below (hX_Q r D cl w1 (hA ws)) (hX_X r D cl w1 (hA ws)) args s mc ms (hA ws)) (F0 m pc ls rest) q9 :=
  vx_out (fun x hx => (hnt x hx).elim) hlocks hce hcv hcl (fun t ht _ => ⟨hr, by rw [ht]; exact hP, hS.F ht⟩) hS.2.2 hc hs
theorem hX_throw {r : Option Value ⊕ String} (X : CallFix p m c cc nL s args wsA R_Hop) (hlt : l.stackTraces = false) (hF : xF sa s) (hZ : xZ (hA ws) s s.heap) (hP : va_P D cl w1 H) (hS : va_S (hA ws) s.heap H locs) (hsz : ls.size = nL) {cls text : String} {ik is ic k ix : Nat} {bys : ByteArray} (q0 : decode bys 0 = .ok (.aload_n 0, 1)) (q1 : decode bys 1 = .ok (.aload_n 1, 1)) (q2 : decode bys 2 = .ok (.invokespecial ix, 3)) (q5 : decode bys 5 = .ok (.return_, 1)) (hx1 : (is, text, k) ∈ xStr) (hk : Cond.classLink R_Hop ik cls ∈ wsA) (hi : Cond.initialized cls ∈ wsA) (hcls : Bundle.fit cls = true) (hat : ∀ w ∈ gx_at R_Hop ic cls "java/lang/RuntimeException" xNm ix bys, w ∈ wsF) (hgd : ∀ w ∈ Cond.classLink R_Hop ik cls :: Cond.initialized cls :: gx_at R_Hop ic cls "java/lang/RuntimeException" xNm ix bys, vx_ot w = true)
    (d0 : decode cc pc = .ok (.new ik, 3)) (d3 : decode cc (pc + 3) = .ok (.dup, 1)) (d4 : decode cc (pc + 4) = .ok (.ldc is, 2)) (d6 : decode cc (pc + 6) = .ok (.invokespecial ic, 3)) (d9 : decode cc (pc + 9) = .ok (.athrow, 1)) (hnt : ∀ x ∈ c.exceptionTable.toList, False) (hR : 6 ≤ R.frames ∧ 120 ≤ R.locals) (hrm : (rest.map fun v => v.category).sum ≤ 8) (hRc : cells + 1 ≤ R.cells) (hRs : slots + 6 ≤ R.slots) (hlocks : meth.locks = false) (hr : r = .inr cls) (hc : cells + 1 ≤ mc) (hs : slots + 6 ≤ ms) :
    W p l e R s m args below meth c H locs cells slots (vx_MQ below (hX_Q r D cl w1 (hA ws)) (hX_X r D cl w1 (hA ws)) args s mc ms (hA ws)) (F0 m pc ls rest) :=
  gx_throw (sa := sa k) X.1 X.2.1 hlt q0 q1 q2 q5 X.2.2.2.1 hcls (by decide +kernel) (by decide +kernel) (X.2.2.2.2 _ hk) (X.2.2.2.2 _ hi) (hF.2 _ hx1) (fun w hw => wF_sm (hat w hw) rfl (hF.1 w (hat w hw))) hgd hZ.1 hZ.2 hS (hsz.trans X.2.2.1.symm) d0 d3 d4 d6 d9 (fun x hx => (hnt x hx).elim) (by show 1 + 4 < _; omega) (by show _ + (13 * (1 + 2) + 43) ≤ _; omega) hRc hRs hlocks
    (fun t _ h1 h2 => ⟨hr, hP.kept (fun k q hq => h2 q.1 (hP k q hq).lt), Nat.le_trans hS.1 h1, fun q hq hn => (h2 q (Nat.lt_of_lt_of_le hq hS.1)).trans (hS.2.1 q hq hn)⟩) hS.2.2 hc hs
end HXA
def bys7 : ByteArray := ⟨#[0x2a, 0x2b, 0xb7, 0x00, 0x07, 0xb1]⟩
def bys13 : ByteArray := ⟨#[0x2a, 0x2b, 0xb7, 0x00, 0x0d, 0xb1]⟩
theorem by7_0 : decode bys7 0 = .ok (.aload_n 0, 1) := by decide +kernel
theorem by7_1 : decode bys7 1 = .ok (.aload_n 1, 1) := by decide +kernel
theorem by7_2 : decode bys7 2 = .ok (.invokespecial 7, 3) := by decide +kernel
theorem by7_5 : decode bys7 5 = .ok (.return_, 1) := by decide +kernel
theorem by13_0 : decode bys13 0 = .ok (.aload_n 0, 1) := by decide +kernel
theorem by13_1 : decode bys13 1 = .ok (.aload_n 1, 1) := by decide +kernel
theorem by13_2 : decode bys13 2 = .ok (.invokespecial 13, 3) := by decide +kernel
theorem by13_5 : decode bys13 5 = .ok (.return_, 1) := by decide +kernel
theorem at_IOOBE : ∀ w ∈ gx_at R_Hop 113 "java/lang/IndexOutOfBoundsException" "java/lang/RuntimeException" xNm 7 bys7, w ∈ wsF := by decide +kernel
theorem ot_IOOBE : ∀ w ∈ Cond.classLink R_Hop 109 "java/lang/IndexOutOfBoundsException" :: Cond.initialized "java/lang/IndexOutOfBoundsException" :: gx_at R_Hop 113 "java/lang/IndexOutOfBoundsException" "java/lang/RuntimeException" xNm 7 bys7, vx_ot w = true := by decide +kernel
theorem at_AE : ∀ w ∈ gx_at R_Hop 56 "java/lang/ArithmeticException" "java/lang/RuntimeException" xNm 7 bys7, w ∈ wsF := by decide +kernel
theorem ot_AE : ∀ w ∈ Cond.classLink R_Hop 52 "java/lang/ArithmeticException" :: Cond.initialized "java/lang/ArithmeticException" :: gx_at R_Hop 56 "java/lang/ArithmeticException" "java/lang/RuntimeException" xNm 7 bys7, vx_ot w = true := by decide +kernel
theorem at_NSE : ∀ w ∈ gx_at R_Hop 106 "java/util/NoSuchElementException" "java/lang/RuntimeException" xNm 13 bys13, w ∈ wsF := by decide +kernel
theorem ot_NSE : ∀ w ∈ Cond.classLink R_Hop 102 "java/util/NoSuchElementException" :: Cond.initialized "java/util/NoSuchElementException" :: gx_at R_Hop 106 "java/util/NoSuchElementException" "java/lang/RuntimeException" xNm 13 bys13, vx_ot w = true := by decide +kernel
theorem at_IAE : ∀ w ∈ gx_at R_Hop 84 "java/lang/IllegalArgumentException" "java/lang/RuntimeException" xNm 7 bys7, w ∈ wsF := by decide +kernel
theorem ot_IAE : ∀ w ∈ Cond.classLink R_Hop 80 "java/lang/IllegalArgumentException" :: Cond.initialized "java/lang/IllegalArgumentException" :: gx_at R_Hop 84 "java/lang/IllegalArgumentException" "java/lang/RuntimeException" xNm 7 bys7, vx_ot w = true := by decide +kernel
