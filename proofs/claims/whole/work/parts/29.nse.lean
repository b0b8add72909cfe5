def vE : String := "java/util/NoSuchElementException"
def vRE : String := "java/lang/RuntimeException"
def vn_six : ByteArray := ⟨#[0x2a, 0x2b, 0xb7, 0x00, 0x0d, 0xb1]⟩
theorem vn_6_0 : decode vn_six 0 = .ok (.aload_n 0, 1) := by decide +kernel
theorem vn_6_1 : decode vn_six 1 = .ok (.aload_n 1, 1) := by decide +kernel
theorem vn_6_2 : decode vn_six 2 = .ok (.invokespecial 13, 3) := by decide +kernel
theorem vn_6_5 : decode vn_six 5 = .ok (.return_, 1) := by decide +kernel
def vn_own (own : String) (ic : Nat) : List Cond := Bundle.throwableAtoms ++ Bundle.throwableSAtoms ++ (Bundle.passSAtoms vE vRE 13 vn_six ++ Bundle.chainSAtoms vRE ["java/lang/Exception"]) ++
  [.methodLink own ic (Bundle.initS vE), .instantiable vE 6, .castable vE vE, .selects vE Bundle.tFill0 Bundle.tFill0, .selects vE Bundle.tFill Bundle.tFill,
   .lays vE Bundle.tN "cause" "Ljava/lang/Throwable;", .lays vE Bundle.tN "stackTrace" Bundle.steD, .lays vE Bundle.tN "suppressedExceptions" Bundle.listD, .lays vE Bundle.tN "detailMessage" "Ljava/lang/String;",
   .isRef (.static Bundle.tN "UNASSIGNED_STACK" Bundle.steD), .isRef (.static Bundle.tN "SUPPRESSED_SENTINEL" Bundle.listD),
   .fieldLink Bundle.tN 198 Bundle.tN "backtrace" "Ljava/lang/Object;", .lays Bundle.tN Bundle.tN "backtrace" "Ljava/lang/Object;", .lays vE Bundle.tN "backtrace" "Ljava/lang/Object;"]
def vn_at (own : String) (ic : Nat) : List Cond := (vn_own own ic).filter vx_no
theorem vn_fitE : Bundle.fit vE = true := by decide +kernel
theorem vn_fitR : Bundle.fit vRE = true := by decide +kernel
section VN
variable {p : Program} {l : Launch} {e : Env} {R : Room} {s : State} {m : MethodId} {args : Array Value} {below : List Frame} {meth : Method} {c : Code} {H : Heap} {locs : List Loc} {cells slots : Nat} {Q : State → Prop}
variable {mc ms : Nat} {free : Addr → Prop} {ls : Array Slot} {rest : List Value}
variable {Qc : Array Value → State → Outcome → State → Prop} {XC : String → State → State → Prop}
set_option maxHeartbeats 1000000 in
theorem vn_ctor {W : State} (X : Stand p l e R s m args below meth c W locs cells slots) (hexec : p.tables.exec = Jvm.exec) (htr : e.platform.stackTraces = false) {own : String} {ic : Nat} (hown : s.vm.findClass own = some m.cls) (h : ∀ a ∈ vn_own own ic, a.before args s = true)
    (hlocs : ∀ x ∈ locs, ∀ cell, s.heap[x.base]? = some cell → cell.vm.isStatics = false) {a : Addr} {cX : ClassId} {kX : Class} (hfoundX : s.vm.findClass vE = some cX) (hkX : s.vm.classes[cX]? = some kX) (hcell : W.heap[a]? = some (freshCell cX kX)) (hnew : s.heap.size ≤ a) {msg : Value} (hmsg : msg.isRef = true)
    {g : JFrame} (hg : g.method = m) (hsize : g.locals.size = c.maxLocals) (hlocked : g.locked = none) (hentered : g.entered = []) (hstack : g.stack = msg :: .ref a :: .ref a :: rest) (hd6 : decode c.code g.pc = .ok (.invokespecial ic, 3)) (hd9 : decode c.code (g.pc + 3) = .ok (.athrow, 1)) (hout : ∀ x ∈ c.exceptionTable.toList, covers x (g.pc + 3) = false)
    (hRframes : 5 < R.frames) (hRlocals : 2 * g.monitorRoom + ((Value.ref a :: rest).map fun v => v.category).sum + 81 ≤ R.locals) (hlocks : meth.locks = false) :
    ∃ U : State, Steps p.tables e below (W.setTop g) U ∧ U.status = .running ∧ Ended U below (.threw a) ∧ s.WarmedH U.vm ∧ s.sameButNew ({ U with vm := s.vm } : State) locs cells slots ∧ ∃ ce : Cell, U.heap[a]? = some ce ∧ ce.vm = .none ∧ s.vm.findClass vE = some ce.cls := by
  have howns : e.platform.frameOwnsMonitors = true := by rw [X.admits.platform]
  have hfin : e.platform.finalization = false := by rw [X.admits.platform]
  have hpl : e.platform.magicAccessors = ({} : Platform).magicAccessors := by rw [X.admits.platform]
  have hh : ∀ x, x ∈ vn_own own ic → x.holds args s none s [] = true := fun x hx => h x hx
  obtain ⟨T, Z0, L, -, Y⟩ := ThrowableC.of_atoms (args := args) howns hfin hpl (fun x hx => h x (by simp [vn_own, hx]))
  obtain ⟨Z, M, LZ, LM, hnZ⟩ := Init0T.ofS_atoms (args := args) hpl L Y (fun x hx => h x (by simp [vn_own, hx]))
  obtain ⟨P', Ps, hlen, L', hL, hPm', hlink1, hlink⟩ := Bundle.chainS (args := args) hpl hnZ ["java/lang/Exception"] vRE vn_fitR (by decide +kernel) (fun x hx => h x (by simp [vn_own, hx]))
  obtain ⟨P1, L1, hP1m, hs1⟩ := PassC.ofS_atoms (args := args) (s := s) hpl (X := vE) (Y := vRE) (Bundle.fit_spec vn_fitE).1 (Bundle.fit_spec vn_fitR).2 vn_6_0 vn_6_1 vn_6_2 vn_6_5 (fun x hx => h x (by simp [vn_own, hx]))
  have hsup : P1.sup = P'.m := Option.some.inj (hs1.symm.trans hPm')
  have hfound : s.vm.findClass vE = some P1.m.cls := findClass_of_methodNamed hP1m
  cases Option.some.inj (hfoundX.symm.trans hfound)
  obtain ⟨c1, kX', hc1, hk, hord, -, -, hn6⟩ := Cond.instantiable_spec (hh (.instantiable vE 6) (by simp [vn_own]))
  cases Option.some.inj (hc1.symm.trans hfound)
  cases Option.some.inj (hkX.symm.trans hk)
  have hsel0 : selectMethod e.platform s.vm P1.m.cls T.fill0 = .method T.fill0 := by
    obtain ⟨c2, r2, m2, q1, q2, q3, q4, -⟩ := Cond.selects_spec (hh (.selects vE Bundle.tFill0 Bundle.tFill0) (by simp [vn_own]))
    cases Option.some.inj (q1.symm.trans hfound)
    cases Option.some.inj (q2.symm.trans (State.methodFound?_of_named Y.fill0 (by decide)))
    cases Option.some.inj (q3.symm.trans Y.fill0)
    rw [Launch.admits_selectMethod X.admits]; exact q4
  have hselF : selectMethod e.platform s.vm P1.m.cls T.fill = .method T.fill := by
    obtain ⟨c2, r2, m2, q1, q2, q3, q4, -⟩ := Cond.selects_spec (hh (.selects vE Bundle.tFill Bundle.tFill) (by simp [vn_own]))
    cases Option.some.inj (q1.symm.trans hfound)
    cases Option.some.inj (q2.symm.trans (State.methodFound?_of_named Y.fill (by decide)))
    cases Option.some.inj (q3.symm.trans Y.fill)
    rw [Launch.admits_selectMethod X.admits]; exact q4
  obtain ⟨cellS0, hcS0, hiss⟩ := Y.statics
  obtain ⟨u0, hu0⟩ := Cond.staticRefV Y.unassigned L.unassignedStatic L.statics hcS0 hiss (hh (.isRef (.static Bundle.tN "UNASSIGNED_STACK" Bundle.steD)) (by simp [vn_own]))
  obtain ⟨sen, hsen⟩ := Cond.staticRefV Y.sentinel L.sentinelStatic L.statics hcS0 hiss (hh (.isRef (.static Bundle.tN "SUPPRESSED_SENTINEL" Bundle.listD)) (by simp [vn_own]))
  obtain ⟨ci198, i198, fB, hk198, hg198, ha198, hsB, -, hnB, htB, hffB⟩ := Cond.ownField (t := .object "java/lang/Object") Y.found L.cls (by decide +kernel) (hh (.fieldLink Bundle.tN 198 Bundle.tN "backtrace" "Ljava/lang/Object;") (by simp [vn_own])) (hh (.lays Bundle.tN Bundle.tN "backtrace" "Ljava/lang/Object;") (by simp [vn_own])) e.platform hpl
  obtain ⟨cellS, hcS', heS, -, hkeep⟩ := X.same.2.2.2.2.2 T.aS cellS0 hcS0
  have hcellS : W.heap[T.aS]? = some cellS := hcS'
  have hout' : ∀ i, (⟨T.aS, i⟩ : Loc) ∉ locs := fun i hmem => by
    have := hlocs _ hmem cellS0 hcS0
    rw [hiss] at this; cases this
  have hknownS : cellS.vm ≠ .unknown := by
    rw [heS]; intro hu
    rw [show cellS0.vm = .unknown from hu] at hiss
    cases hiss
  have hneS : T.aS ≠ a := Nat.ne_of_lt (Nat.lt_of_lt_of_le (Array.getElem?_eq_some_iff.mp hcS0).1 hnew)
  obtain ⟨iM, hffM⟩ := Y.msg
  obtain ⟨tyC, dC, hdC, hdnC⟩ := Cond.laysAt hfound hk Y.cause (hh (.lays vE Bundle.tN "cause" "Ljava/lang/Throwable;") (by simp [vn_own]))
  obtain ⟨tyS, dS, hdS, hdnS⟩ := Cond.laysAt hfound hk Y.stack (hh (.lays vE Bundle.tN "stackTrace" Bundle.steD) (by simp [vn_own]))
  obtain ⟨tyP, dP, hdP, hdnP⟩ := Cond.laysAt hfound hk Y.supp (hh (.lays vE Bundle.tN "suppressedExceptions" Bundle.listD) (by simp [vn_own]))
  obtain ⟨tyM, dM, hdM, hdnM⟩ := Cond.laysAt hfound hk hffM (hh (.lays vE Bundle.tN "detailMessage" "Ljava/lang/String;") (by simp [vn_own]))
  obtain ⟨tyB, dB, hdB, hdnB⟩ := Cond.laysAt hfound hk hffB (hh (.lays vE Bundle.tN "backtrace" "Ljava/lang/Object;") (by simp [vn_own]))
  have bC := Cond.laysApart hdB hdC hdnB hdnC (by rw [hnB, Y.causeName]; decide)
  have bS := Cond.laysApart hdB hdS hdnB hdnS (by rw [hnB, Y.stackName]; decide)
  have bP := Cond.laysApart hdB hdP hdnB hdnP (by rw [hnB, Y.suppName]; decide)
  have hskip : SkipFacts T e.platform s (fun u => u) u0 ((preparedCellV T.toThrowableT (freshCell P1.m.cls kX) a u0 sen).withEntry W.cur) :=
    ⟨{ ci198 := ci198, i198 := i198, fBack := fB }, ⟨hk198, hg198, ha198, hsB⟩, by
      have := fresh_default (c := P1.m.cls) tyB
      rw [htB] at this
      simpa [preparedCellV, Cell.setSlot, Cell.withEntry, Array.getElem?_setIfInBounds, bC, bS, bP, bC.symm, bS.symm, bP.symm, defaultValue] using this, fun _ _ => rfl⟩
  obtain ⟨tm, methC, cdC, kC, vm₁, hnC, -, -, -, -, -, -, -, hW₁, st1⟩ := Steps.initColdS (tb := p.tables) (e := e) (below := below) (s := s) (U := W) X.here hexec X.warmed hpl hown (t := Bundle.initS vE) rfl rfl (Bundle.fit_spec vn_fitE).2
    (hh (.methodLink own ic (Bundle.initS vE)) (by simp [vn_own])) (h (.instanceMethod (Bundle.initS vE)) (by simp [vn_own, Bundle.passSAtoms])) (bytes := vn_six) (maxL := 2) (h (.code (Bundle.initS vE) vn_six 2 none) (by simp [vn_own, Bundle.passSAtoms]))
    (f := g) hg (a := a) (msg := msg) (rest := .ref a :: rest) hstack hd6
  cases Option.some.inj (hnC.symm.trans hP1m)
  have X₁ := X.noted hW₁
  obtain ⟨vm₂, X₂, st2⟩ := X₁.ctorMessageOffV hexec (g := { g with stack := .ref a :: rest }) hg hsize T L Z LZ M LM (P1 :: P' :: Ps)
    (fun P hP => by
      rcases List.mem_cons.mp hP with rfl | hP
      · exact L1
      · rcases List.mem_cons.mp hP with rfl | hP
        · exact L'
        · exact hL P hP) ⟨hsup, hlink1, hlink⟩ (u0 := u0) (sen := sen) (self := a) hmsg (cell := freshCell P1.m.cls kX) (cellS := cellS)
    hcell (fun _ => by simp) (by simp) rfl rfl hsel0 hselF hcellS hneS hknownS (by rw [hkeep _ (hout' _)]; exact hu0) (by rw [hkeep _ (hout' _)]; exact hsen)
    (Takes.of_laid hk hord tyC (by rw [Y.causeType]; rfl)) (Takes.of_laid hk hord tyS (by rw [Y.stackType]; exact fits_refV_array _ u0)) (Takes.of_laid hk hord tyP (by rw [Y.suppType]; exact fits_refV_object _ sen))
    (Takes.of_laid hk hord tyM (by rw [Y.msgType]; exact fits_refV_object _ ⟨msg, hmsg⟩)) Y.objLocals hskip htr [] hd6
    (by simp only [List.length_cons, hlen, List.length_nil]; omega) (by simp only [List.length_cons, hlen, List.length_nil]; exact hRlocals)
  obtain ⟨hwalk, hrun, hended, hWU, hsame⟩ := X₂.athrowLeaves hexec (g := { g with stack := .ref a :: rest, pc := g.pc + 3 }) hg hlocked hentered hout (a := a) (rest := rest) rfl hd9
  have hlt : a < ((W.setVm vm₁).setVm vm₂).heap.size := (Array.getElem?_eq_some_iff.mp hcell).1
  have hU := heapAt_setCell_self (s := (W.setVm vm₁).setVm vm₂) (plainBareV T.toThrowableT (freshCell P1.m.cls kX) a u0 sen msg) hlt
  refine ⟨_, st1 _ (fun acts => ?_), hrun, hended, hWU, hsame.weaken (fun y hy hlt' => ?_) (Nat.le_refl _) (Nat.le_refl _), _, hU, rfl, hfound⟩
  · rw [doInvoke_state]
    exact st2 _ hwalk
  · rcases List.mem_append.mp hy with h1 | h1
    · exact h1
    · exfalso
      have hb : y.base = a := by
        simp only [List.mem_cons, List.not_mem_nil, or_false] at h1
        rcases h1 with rfl | rfl | rfl | rfl | rfl <;> rfl
      rw [hb] at hlt'
      exact Nat.not_lt.mpr hnew hlt'

theorem vn_throwSW {cc : ByteArray} {pc : Nat} (hexec : p.tables.exec = Jvm.exec) (hb : c.code = cc) (hl : l.stackTraces = false) {own text : String} {ik is ic mc ms sa : Nat} {A : Nat → Prop}
    (hown : s.vm.findClass own = some m.cls)
    (hk : (Cond.classLink own ik vE).before args s = true) (hini : (Cond.initialized vE).before args s = true) (hstr : vk_R own is text sa s) (hat : ∀ w ∈ vn_at own ic, w.before args s = true)
    (hgood : ∀ w ∈ Cond.classLink own ik vE :: Cond.initialized vE :: vn_at own ic, vx_ot w = true)
    (hU : vx_Zq Bundle.tN "UNASSIGNED_STACK" Bundle.steD A s s.heap) (hN : vx_Zq Bundle.tN "SUPPRESSED_SENTINEL" Bundle.listD A s s.heap) (hS : va_S A s.heap H locs) (hsize : ls.size = c.maxLocals)
    (d0 : decode cc pc = .ok (.new ik, 3)) (d3 : decode cc (pc + 3) = .ok (.dup, 1)) (d4 : decode cc (pc + 4) = .ok (.ldc_w is, 3)) (d7 : decode cc (pc + 7) = .ok (.invokespecial ic, 3)) (d10 : decode cc (pc + 10) = .ok (.athrow, 1))
    (hout : ∀ x ∈ c.exceptionTable.toList, covers x (pc + 10) = false)
    (hRframes : 5 < R.frames) (hRlocals : (rest.map fun v => v.category).sum + 82 ≤ R.locals) (hRcells : cells + 1 ≤ R.cells) (hRslots : slots + 6 ≤ R.slots) (hlocks : meth.locks = false)
    (hx : ∀ t : State, s.vm.Alike t.vm → H.size ≤ t.heap.size → (∀ q : Nat, q < H.size → t.heap[q]? = H[q]?) → XC vE s t)
    (hf : ∀ z ∈ locs, free z.base) (hc : cells + 1 ≤ mc) (hs : slots + 6 ≤ ms) :
    W p l e R s m args below meth c H locs cells slots (vx_MQ below Qc XC args s mc ms free) (F0 m pc ls rest) := by
  intro T hT X
  have htr : e.platform.stackTraces = false := (show e.platform.stackTraces = l.stackTraces by rw [X.admits.platform]).trans hl
  have Y := vx_rebase X (R' := { frames := R.frames, locals := R.locals, cells := 1, slots := 6 }) (Nat.le_refl _) (Nat.le_refl _) hRcells hRslots
  obtain ⟨s', hA⟩ : ∃ z, z = (T.setVm s.vm).setFrames (.invoking m args :: below) := ⟨_, rfl⟩
  rw [← hA] at Y
  have hvm : s'.vm = s.vm := by rw [hA]; rfl
  have hhp : s'.heap = H := by rw [hA]; exact hT
  have hW0 : s.WarmedH s'.vm := by rw [hvm]; exact State.WarmedH.refl s
  have hat' : ∀ w ∈ vn_at own ic, w.before args s' = true := fun w hw => vx_ot_at hW0 hvm.symm (hgood w (List.mem_cons_of_mem _ (List.mem_cons_of_mem _ hw))) (hat w hw)
  have hk' : (Cond.classLink own ik vE).before args s' = true := vx_ot_at hW0 hvm.symm (hgood _ List.mem_cons_self) hk
  have hini' : (Cond.initialized vE).before args s' = true := vx_ot_at hW0 hvm.symm (hgood _ (List.mem_cons_of_mem _ List.mem_cons_self)) hini
  have hU' : vx_Zq Bundle.tN "UNASSIGNED_STACK" Bundle.steD A s' s'.heap := by rw [hhp]; exact vx_Zq.moved hW0.alike (hU.kept hS.2.1)
  have hN' : vx_Zq Bundle.tN "SUPPRESSED_SENTINEL" Bundle.listD A s' s'.heap := by rw [hhp]; exact vx_Zq.moved hW0.alike (hN.kept hS.2.1)
  have h : ∀ w ∈ vn_own own ic, w.before args s' = true := vx_own hat' (vx_isRefq hU'.1) (vx_isRefq hN'.1) hU'.2.word hN'.2.word
  have hown' : s'.vm.findClass own = some m.cls := by rw [hvm]; exact hown
  have hins : (Cond.instantiable vE 6).before args s' = true := h _ (by simp [vn_own])
  obtain ⟨vm₁, cX, kX, hfX, hkX, -, -, X₁, st1⟩ := Y.newCold hexec (own := own) (C := vE) (index := ik) (n := 6) hown' hk' hins hini'
    (g := F0 m pc ls rest) rfl (by rw [hb]; exact d0) (Nat.le_refl _) (Nat.le_refl _)
  generalize hT1 : (T.setVm vm₁).pushCell { cls := cX, slots := kX.instanceTypes.map defaultValue, vm := .none } = T1 at X₁ st1
  have hcat : (Value.ref T.heap.size).category = 1 := rfl
  have hcellA : T1.heap[T.heap.size]? = some (freshCell cX kX) := by rw [← hT1]; exact State.heap_pushCell_size _ _
  have d3' : decode c.code (pc + 3) = .ok (.dup, 1) := by rw [hb]; exact d3
  have d4' : decode c.code (pc + 4) = .ok (.ldc_w is, 3) := by rw [hb]; exact d4
  have hstr' : vk_R own is text sa s' := vk_R.warm hW0 hstr
  obtain ⟨U, hsteps, hrun, hend, hW, hsame, ce, hce, hO2, hO1⟩ := vn_ctor X₁ hexec htr (own := own) (ic := ic) hown' h (fun x hx => nomatch hx) hfX hkX hcellA (by rw [hhp, hT]; exact Nat.le_refl _) (msg := .ref sa) rfl
    (g := { method := m, pc := pc + 7, locals := ls, stack := .ref sa :: .ref T.heap.size :: .ref T.heap.size :: rest, locked := none }) rfl hsize rfl rfl (rest := rest) rfl
    (by rw [hb]; exact d7) (by rw [hb]; exact d10) hout hRframes (by simp only [List.map_cons, List.sum_cons, hcat]; omega) hlocks
  obtain ⟨f1, f2⟩ := vx_frame hsame
  rw [hhp] at f1 f2
  have hWs : s.WarmedH U.vm := State.WarmedH.trans hW0 hW
  have hcl : s.vm.findClass vE = some ce.cls := by
    have h9 := hO1
    rw [hvm] at h9
    exact h9
  have hall : s.sameButNew ({ U with vm := s.vm } : State) locs mc ms := by
    subst hA
    obtain ⟨e1, e2⟩ := hsame
    rw [State.setFrames_setFrames] at e1
    have h2 : (T.setVm s.vm).sameButNew ({ U with vm := s.vm } : State) [] (0 + 1) (0 + 6) := ⟨e1, e2⟩
    have h3 := X.same.trans h2
    rw [List.append_nil] at h3
    exact h3.mono hc hs
  refine ⟨U, ?_, .threw T.heap.size, hrun, hend, Or.inr ⟨T.heap.size, rfl, vE, ce, locs, hx U hWs.alike f1 (fun q hq => f2 q hq (fun z hz => nomatch hz)), hce, hO2, hcl, hWs, hall, hf⟩⟩
  refine st1 _ ?_
  show Steps p.tables e below (T1.setTop { method := m, pc := pc + 3, locals := ls, stack := .ref T.heap.size :: rest, locked := none }) _
  jvm_step X₁.here [X₁.here.top, hexec, d3', Value.category]
  exact X₁.ldcStringW hexec (own := own) (text := text) (index := is) (a := sa) hown' hstr'.1 hstr'.2
    (g := { method := m, pc := pc + 4, locals := ls, stack := .ref T.heap.size :: .ref T.heap.size :: rest, locked := none }) rfl d4' _ hsteps
end VN
theorem vq_9 : Cond.initialized Bundle.tN ∈ zGood := zin1 (List.mem_of_getElem? (i := 9) rfl) (by decide +kernel)
theorem vq_732 : Cond.superclass Bundle.tN "java/lang/Object" ∈ zGood := zin4 (List.mem_of_getElem? (i := 12) rfl) (by decide +kernel)
theorem vq_741 : Cond.instanceMethod Bundle.tFill ∈ zGood := zin4 (List.mem_of_getElem? (i := 21) rfl) (by decide +kernel)
theorem vq_746 : Cond.codeSync Bundle.tFill LibCode.Throwable.Fill.code 1 (some (.object Bundle.tN)) ∈ zGood := zin4 (List.mem_of_getElem? (i := 26) rfl) (by decide +kernel)
theorem vq_749 : Cond.instanceMethod Bundle.tFill0 ∈ zGood := zin4 (List.mem_of_getElem? (i := 29) rfl) (by decide +kernel)
theorem vq_751 : Cond.native Bundle.tFill0 ∈ zGood := zin4 (List.mem_of_getElem? (i := 31) rfl) (by decide +kernel)
theorem vq_733 : Cond.instanceMethod Bundle.tInit0 ∈ zGood := zin4 (List.mem_of_getElem? (i := 13) rfl) (by decide +kernel)
theorem vq_734 : Cond.code Bundle.tInit0 LibCode.Throwable.Init0.code 1 none ∈ zGood := zin4 (List.mem_of_getElem? (i := 14) rfl) (by decide +kernel)
theorem vq_29 : Cond.instanceMethod Bundle.oInit ∈ zGood := zin1 (List.mem_of_getElem? (i := 29) rfl) (by decide +kernel)
theorem vq_30 : Cond.code Bundle.oInit ⟨#[0xb1]⟩ 1 none ∈ zGood := zin1 (List.mem_of_getElem? (i := 30) rfl) (by decide +kernel)
theorem vq_735 : Cond.methodLink Bundle.tN 1 Bundle.oInit ∈ zGood := zin4 (List.mem_of_getElem? (i := 15) rfl) (by decide +kernel)
theorem vq_740 : Cond.methodLink Bundle.tN 27 Bundle.tFill ∈ zGood := zin4 (List.mem_of_getElem? (i := 20) rfl) (by decide +kernel)
theorem vq_747 : Cond.methodLink Bundle.tN 202 Bundle.tFill0 ∈ zGood := zin4 (List.mem_of_getElem? (i := 27) rfl) (by decide +kernel)
theorem vq_767 : Cond.fieldLink Bundle.tN 7 Bundle.tN "cause" "Ljava/lang/Throwable;" ∈ zGood := zin4 (List.mem_of_getElem? (i := 47) rfl) (by decide +kernel)
theorem vq_722 : Cond.lays Bundle.tN Bundle.tN "cause" "Ljava/lang/Throwable;" ∈ zGood := zin4 (List.mem_of_getElem? (i := 2) rfl) (by decide +kernel)
theorem vq_768 : Cond.fieldLink Bundle.tN 17 Bundle.tN "stackTrace" Bundle.steD ∈ zGood := zin4 (List.mem_of_getElem? (i := 48) rfl) (by decide +kernel)
theorem vq_724 : Cond.lays Bundle.tN Bundle.tN "stackTrace" Bundle.steD ∈ zGood := zin4 (List.mem_of_getElem? (i := 4) rfl) (by decide +kernel)
theorem vq_769 : Cond.fieldLink Bundle.tN 24 Bundle.tN "suppressedExceptions" Bundle.listD ∈ zGood := zin4 (List.mem_of_getElem? (i := 49) rfl) (by decide +kernel)
theorem vq_726 : Cond.lays Bundle.tN Bundle.tN "suppressedExceptions" Bundle.listD ∈ zGood := zin4 (List.mem_of_getElem? (i := 6) rfl) (by decide +kernel)
theorem vq_736 : Cond.fieldLink Bundle.tN 13 Bundle.tN "UNASSIGNED_STACK" Bundle.steD ∈ zGood := zin4 (List.mem_of_getElem? (i := 16) rfl) (by decide +kernel)
theorem vq_738 : Cond.fieldLink Bundle.tN 20 Bundle.tN "SUPPRESSED_SENTINEL" Bundle.listD ∈ zGood := zin4 (List.mem_of_getElem? (i := 18) rfl) (by decide +kernel)
theorem vq_728 : Cond.lays Bundle.tN Bundle.tN "detailMessage" "Ljava/lang/String;" ∈ zGood := zin4 (List.mem_of_getElem? (i := 8) rfl) (by decide +kernel)
theorem vq_763 : Cond.instanceMethod (Bundle.initS Bundle.tN) ∈ zGood := zin4 (List.mem_of_getElem? (i := 43) rfl) (by decide +kernel)
theorem vq_764 : Cond.code (Bundle.initS Bundle.tN) LibCode.Throwable.InitS.code 2 none ∈ zGood := zin4 (List.mem_of_getElem? (i := 44) rfl) (by decide +kernel)
theorem vq_766 : Cond.fieldLink Bundle.tN 31 Bundle.tN "detailMessage" "Ljava/lang/String;" ∈ zGood := zin4 (List.mem_of_getElem? (i := 46) rfl) (by decide +kernel)
theorem vq_1083 : Cond.instanceMethod (Bundle.initS vE) ∈ zGood := zin5 (List.mem_of_getElem? (i := 123) rfl) (by decide +kernel)
theorem vq_1084 : Cond.code (Bundle.initS vE) vn_six 2 none ∈ zGood := zin5 (List.mem_of_getElem? (i := 124) rfl) (by decide +kernel)
theorem vq_1085 : Cond.methodLink vE 13 (Bundle.initS vRE) ∈ zGood := zin5 (List.mem_of_getElem? (i := 125) rfl) (by decide +kernel)
theorem vq_757 : Cond.instanceMethod (Bundle.initS vRE) ∈ zGood := zin4 (List.mem_of_getElem? (i := 37) rfl) (by decide +kernel)
theorem vq_n714 : Cond.declares (Bundle.initS vRE) ∈ zNw := List.mem_of_getElem? (i := 3) rfl
theorem vq_758 : Cond.code (Bundle.initS vRE) Bundle.six 2 none ∈ zGood := zin4 (List.mem_of_getElem? (i := 38) rfl) (by decide +kernel)
theorem vq_759 : Cond.methodLink vRE 7 (Bundle.initS "java/lang/Exception") ∈ zGood := zin4 (List.mem_of_getElem? (i := 39) rfl) (by decide +kernel)
theorem vq_760 : Cond.instanceMethod (Bundle.initS "java/lang/Exception") ∈ zGood := zin4 (List.mem_of_getElem? (i := 40) rfl) (by decide +kernel)
theorem vq_n716 : Cond.declares (Bundle.initS "java/lang/Exception") ∈ zNw := List.mem_of_getElem? (i := 5) rfl
theorem vq_761 : Cond.code (Bundle.initS "java/lang/Exception") Bundle.six 2 none ∈ zGood := zin4 (List.mem_of_getElem? (i := 41) rfl) (by decide +kernel)
theorem vq_762 : Cond.methodLink "java/lang/Exception" 7 (Bundle.initS Bundle.tN) ∈ zGood := zin4 (List.mem_of_getElem? (i := 42) rfl) (by decide +kernel)
theorem vq_n718 : Cond.declares (Bundle.initS Bundle.tN) ∈ zNw := List.mem_of_getElem? (i := 7) rfl
theorem vq_1082 : Cond.methodLink RX5 347 (Bundle.initS vE) ∈ zGood := zin5 (List.mem_of_getElem? (i := 122) rfl) (by decide +kernel)
theorem vq_1073 : Cond.instantiable vE 6 ∈ zGood := zin5 (List.mem_of_getElem? (i := 113) rfl) (by decide +kernel)
theorem vq_n1074 : Cond.castable vE vE ∈ zNw := List.mem_of_getElem? (i := 10) rfl
theorem vq_1075 : Cond.selects vE Bundle.tFill0 Bundle.tFill0 ∈ zGood := zin5 (List.mem_of_getElem? (i := 115) rfl) (by decide +kernel)
theorem vq_745 : Cond.selects vE Bundle.tFill Bundle.tFill ∈ zGood := zin4 (List.mem_of_getElem? (i := 25) rfl) (by decide +kernel)
theorem vq_1076 : Cond.lays vE Bundle.tN "cause" "Ljava/lang/Throwable;" ∈ zGood := zin5 (List.mem_of_getElem? (i := 116) rfl) (by decide +kernel)
theorem vq_1077 : Cond.lays vE Bundle.tN "stackTrace" Bundle.steD ∈ zGood := zin5 (List.mem_of_getElem? (i := 117) rfl) (by decide +kernel)
theorem vq_1078 : Cond.lays vE Bundle.tN "suppressedExceptions" Bundle.listD ∈ zGood := zin5 (List.mem_of_getElem? (i := 118) rfl) (by decide +kernel)
theorem vq_1079 : Cond.lays vE Bundle.tN "detailMessage" "Ljava/lang/String;" ∈ zGood := zin5 (List.mem_of_getElem? (i := 119) rfl) (by decide +kernel)
theorem vq_731 : Cond.fieldLink Bundle.tN 198 Bundle.tN "backtrace" "Ljava/lang/Object;" ∈ zGood := zin4 (List.mem_of_getElem? (i := 11) rfl) (by decide +kernel)
theorem vq_730 : Cond.lays Bundle.tN Bundle.tN "backtrace" "Ljava/lang/Object;" ∈ zGood := zin4 (List.mem_of_getElem? (i := 10) rfl) (by decide +kernel)
theorem vq_1080 : Cond.lays vE Bundle.tN "backtrace" "Ljava/lang/Object;" ∈ zGood := zin5 (List.mem_of_getElem? (i := 120) rfl) (by decide +kernel)
set_option maxRecDepth 10000 in
theorem vn_all : ∀ w ∈ vn_own RX5 347, vx_no w = true → w ∈ zGood ∨ w ∈ zNw := List.forall_mem_cons.mpr ⟨fun _ => Or.inl vq_9, List.forall_mem_cons.mpr ⟨fun _ => Or.inl vq_732, List.forall_mem_cons.mpr ⟨fun _ => Or.inl vq_741, List.forall_mem_cons.mpr ⟨fun _ => Or.inl vq_746, List.forall_mem_cons.mpr ⟨fun _ => Or.inl vq_749, List.forall_mem_cons.mpr ⟨fun _ => Or.inl vq_751, List.forall_mem_cons.mpr ⟨fun _ => Or.inl vq_733, List.forall_mem_cons.mpr ⟨fun _ => Or.inl vq_734, List.forall_mem_cons.mpr ⟨fun _ => Or.inl vq_29, List.forall_mem_cons.mpr ⟨fun _ => Or.inl vq_30, List.forall_mem_cons.mpr ⟨fun _ => Or.inl vq_735, List.forall_mem_cons.mpr ⟨fun _ => Or.inl vq_740, List.forall_mem_cons.mpr ⟨fun _ => Or.inl vq_747, List.forall_mem_cons.mpr ⟨fun _ => Or.inl vq_767, List.forall_mem_cons.mpr ⟨fun _ => Or.inl vq_722, List.forall_mem_cons.mpr ⟨fun _ => Or.inl vq_768, List.forall_mem_cons.mpr ⟨fun _ => Or.inl vq_724, List.forall_mem_cons.mpr ⟨fun _ => Or.inl vq_769, List.forall_mem_cons.mpr ⟨fun _ => Or.inl vq_726, List.forall_mem_cons.mpr ⟨fun _ => Or.inl vq_736, List.forall_mem_cons.mpr ⟨fun h => absurd h (by decide +kernel), List.forall_mem_cons.mpr ⟨fun _ => Or.inl vq_738, List.forall_mem_cons.mpr ⟨fun h => absurd h (by decide +kernel), List.forall_mem_cons.mpr ⟨fun _ => Or.inl vq_728, List.forall_mem_cons.mpr ⟨fun _ => Or.inl vq_763, List.forall_mem_cons.mpr ⟨fun _ => Or.inl vq_764, List.forall_mem_cons.mpr ⟨fun _ => Or.inl vq_766, List.forall_mem_cons.mpr ⟨fun _ => Or.inl vq_728, List.forall_mem_cons.mpr ⟨fun _ => Or.inl vq_1083, List.forall_mem_cons.mpr ⟨fun _ => Or.inl vq_1084, List.forall_mem_cons.mpr ⟨fun _ => Or.inl vq_1085, List.forall_mem_cons.mpr ⟨fun _ => Or.inl vq_757, List.forall_mem_cons.mpr ⟨fun _ => Or.inr vq_n714, List.forall_mem_cons.mpr ⟨fun _ => Or.inl vq_757, List.forall_mem_cons.mpr ⟨fun _ => Or.inl vq_758, List.forall_mem_cons.mpr ⟨fun _ => Or.inl vq_759, List.forall_mem_cons.mpr ⟨fun _ => Or.inl vq_760, List.forall_mem_cons.mpr ⟨fun _ => Or.inr vq_n716, List.forall_mem_cons.mpr ⟨fun _ => Or.inl vq_760, List.forall_mem_cons.mpr ⟨fun _ => Or.inl vq_761, List.forall_mem_cons.mpr ⟨fun _ => Or.inl vq_762, List.forall_mem_cons.mpr ⟨fun _ => Or.inl vq_763, List.forall_mem_cons.mpr ⟨fun _ => Or.inr vq_n718, List.forall_mem_cons.mpr ⟨fun _ => Or.inl vq_1082, List.forall_mem_cons.mpr ⟨fun _ => Or.inl vq_1073, List.forall_mem_cons.mpr ⟨fun _ => Or.inr vq_n1074, List.forall_mem_cons.mpr ⟨fun _ => Or.inl vq_1075, List.forall_mem_cons.mpr ⟨fun _ => Or.inl vq_745, List.forall_mem_cons.mpr ⟨fun _ => Or.inl vq_1076, List.forall_mem_cons.mpr ⟨fun _ => Or.inl vq_1077, List.forall_mem_cons.mpr ⟨fun _ => Or.inl vq_1078, List.forall_mem_cons.mpr ⟨fun _ => Or.inl vq_1079, List.forall_mem_cons.mpr ⟨fun h => absurd h (by decide +kernel), List.forall_mem_cons.mpr ⟨fun h => absurd h (by decide +kernel), List.forall_mem_cons.mpr ⟨fun _ => Or.inl vq_731, List.forall_mem_cons.mpr ⟨fun _ => Or.inl vq_730, List.forall_mem_cons.mpr ⟨fun _ => Or.inl vq_1080, fun _ h => absurd h List.not_mem_nil⟩⟩⟩⟩⟩⟩⟩⟩⟩⟩⟩⟩⟩⟩⟩⟩⟩⟩⟩⟩⟩⟩⟩⟩⟩⟩⟩⟩⟩⟩⟩⟩⟩⟩⟩⟩⟩⟩⟩⟩⟩⟩⟩⟩⟩⟩⟩⟩⟩⟩⟩⟩⟩⟩⟩⟩⟩
theorem vn_all2 : ∀ w ∈ vn_at RX5 347, w ∈ zGood ∨ w ∈ zNw := fun w hw => let q := List.mem_filter.mp hw; vn_all w q.1 q.2
set_option maxRecDepth 10000 in
theorem vn_ot : ∀ w ∈ Cond.classLink RX5 343 vE :: Cond.initialized vE :: vn_at RX5 347, vx_ot w = true := by decide +kernel
section zRows29
variable {l : Launch} {K : zK} {Z : zZ} {α : Type} {F : α → State → Prop} {cc : ByteArray} {own : String} {nL fr lo mc ms cb sb pc : Nat} {ret : Option FieldType} {lv : List (Nat × Value)} {st rest : List Value} {μ : zM} {res A : Option α}
theorem g_throwNW (hK : zOk K Z cc RX5 nL ret fr lo mc ms) {enc : α → zRes zM} {a0 : α} {text : String} {is i9 : Nat} (hex : ∀ x ∈ K.2.2.2.2.2.2.2.2.2.exceptionTable.toList, False) (he : enc a0 = (.inl "java/util/NoSuchElementException", μ, True)) (hk : Cond.classLink RX5 343 "java/util/NoSuchElementException" ∈ zGood) (hini : Cond.initialized "java/util/NoSuchElementException" ∈ zGood) (hstr : zStr[i9]? = some (RX5, is, text))
    (d0 : decode cc pc = .ok (.new 343, 3)) (d3 : decode cc (pc + 3) = .ok (.dup, 1)) (d4 : decode cc (pc + 4) = .ok (.ldc_w is, 3)) (d6 : decode cc (pc + 7) = .ok (.invokespecial 347, 3)) (d9 : decode cc (pc + 10) = .ok (.athrow, 1)) (hfr : 5 < fr) (hlo : (st.map fun v => v.category).sum + 82 ≤ lo) (hcb : 1 ≤ cb) (hsb : 6 ≤ sb) : zG K Z (zΩ Z) (zF K Z (zΩ Z) enc) cb sb pc lv st μ (some a0) := by
  intro a ha H locs ls cells slots hΩ hS hl hc hs
  cases ha
  have hR : K.2.2.2.1 = _ := hK.2.2.2.2.2.2.2.1
  have hKw := hK.2.2.2.2.2.2.1
  refine vn_throwSW (A := fun q : Nat => Z.2.2.1 < q) (own := RX5) (ik := 343) (ic := 347) hK.1 hK.2.1 hK.2.2.2.2.2.2.2.2.1 hK.2.2.2.1 (hK.2.2.2.2.1 _ hk) (hK.2.2.2.2.1 _ hini) (hKw.2.2.2.1 i9 _ hstr) (fun w hw => (vn_all2 w hw).elim (hK.2.2.2.2.1 w) (fun h => va_Nw.use (zNwk_tabs (zNw_k w h)) (hKw.2.2.2.2.2.2.1 w h))) vn_ot hKw.2.1 hKw.2.2.1 hS hl.1 d0 d3 d4 d6 d9 (fun x hx => (hex x hx).elim) ?_ ?_ (by omega) (by omega) hK.2.2.2.2.2.1 (fun t hA hz hq => ⟨by rw [he]; rfl, by rw [he]; exact zΩ_kept hΩ hq, Nat.le_trans hS.1 hz, fun q h1 h2 => (hq q (Nat.lt_of_lt_of_le h1 hS.1)).trans (hS.2.1 q h1 h2)⟩) hS.2.2 (by omega) (by omega)
  · rw [hR]; exact hfr
  · rw [hR]; exact hlo
end zRows29
