/-! 'throw new X()' where stack traces are off: the method is left by the new exception; no other cell changes. -/
section MQT
variable {p : Program} {l : Launch} {e : Env} {R : Room} {s : State} {m : MethodId} {args : Array Value} {below : List Frame} {meth : Method} {c : Code} {T : State} {locs : List Loc} {cells slots : Nat}
set_option maxHeartbeats 2000000 in
theorem mq_throwNew (X : Stand p l e R s m args below meth c T locs cells slots) (hx : p.tables.exec = Jvm.exec) (htr : e.platform.stackTraces = false) {own cls : String} {names : List String} {ic : Nat} (hown : s.vm.findClass own = some m.cls) (hcls : Bundle.fit cls = true) (hnames : ∀ n ∈ names, Bundle.fit n = true) (hat : ∀ w ∈ Bundle.ownAtoms0 own ic cls names, w.before args s = true)
    (hlocs : ∀ x ∈ locs, ∀ cell, s.heap[x.base]? = some cell → cell.vm.isStatics = false) {a : Addr} {cX : ClassId} {kX : Class} (hfX : s.vm.findClass cls = some cX) (hkX : s.vm.classes[cX]? = some kX) (hcell : T.heap[a]? = some (freshCell cX kX)) (hnew : s.heap.size ≤ a)
    {pc : Nat} {ls : Array Slot} {rest : List Value} (hsize : ls.size = c.maxLocals) (hd1 : decode c.code pc = .ok (.invokespecial ic, 3)) (hd2 : decode c.code (pc + 3) = .ok (.athrow, 1)) (hout : ∀ x ∈ c.exceptionTable.toList, covers x (pc + 3) = false) (hlocks : meth.locks = false)
    (hRf : names.length + 3 < R.frames) (hRl : (rest.map fun v => v.category).sum + 1 + (13 * (names.length + 1) + 41) ≤ R.locals) :
    ∃ (U : State) (La : List Loc) (ce : Cell), Steps p.tables e below (T.setTop (F0 m pc ls (.ref a :: .ref a :: rest))) U ∧ U.status = .running ∧ Ended U below (.threw a) ∧ s.WarmedH U.vm ∧ s.sameButNew ({ U with vm := s.vm } : State) (locs ++ La) cells slots ∧ (∀ q ∈ La, q.base = a) ∧ U.heap[a]? = some ce ∧ ce.cls = cX ∧ ce.vm = .none ∧ U.heap.size = T.heap.size ∧ ∀ q, q ≠ a → U.heap[q]? = T.heap[q]? := by
  have hpl : e.platform.magicAccessors = ({} : Platform).magicAccessors := by rw [X.admits.platform]
  have at' : ∀ w, w ∈ Bundle.ownAtoms0 own ic cls names → w.holds args s none s [] = true := fun w hw => hat w hw
  obtain ⟨Tc, Z, Lk, LZ, Y⟩ := ThrowableC.of_atoms (args := args) (pl := e.platform) (by rw [X.admits.platform]) (by rw [X.admits.platform]) hpl (fun w hw => hat w (by simp [Bundle.ownAtoms0, hw]))
  obtain ⟨P1, Ps, hlen, L1, hL, hP1m, hlink1, hlink⟩ := Bundle.chain0 (args := args) hpl Y.init0 names cls hcls hnames (fun w hw => hat w (by simp [Bundle.ownAtoms0, hw]))
  have hfound : s.vm.findClass cls = some P1.m.cls := findClass_of_methodNamed hP1m
  have hcXe : cX = P1.m.cls := Option.some.inj (hfX.symm.trans hfound)
  subst hcXe
  obtain ⟨c1, k1, hc1, hk1, hord, -, -, hn6⟩ := Cond.instantiable_spec (at' (.instantiable cls 6) (by simp [Bundle.ownAtoms0]))
  cases Option.some.inj (hc1.symm.trans hfound)
  cases Option.some.inj (hkX.symm.trans hk1)
  have sel : ∀ {y : MethodName} {my : MethodId}, s.methodNamed? y = some my → (y.cls ≠ "java/lang/invoke/MethodHandle" ∧ y.cls ≠ "java/lang/invoke/VarHandle") → (Cond.selects cls y y).holds args s none s [] = true → selectMethod e.platform s.vm P1.m.cls my = .method my := by
    intro y my hy hne hs
    obtain ⟨c2, r2, m2, q1, q2, q3, q4, -⟩ := Cond.selects_spec hs
    cases Option.some.inj (q1.symm.trans hfound)
    cases Option.some.inj (q2.symm.trans (State.methodFound?_of_named hy hne))
    cases Option.some.inj (q3.symm.trans hy)
    rw [Launch.admits_selectMethod X.admits]
    exact q4
  have hsel0 := sel Y.fill0 (by decide) (at' (.selects cls Bundle.tFill0 Bundle.tFill0) (by simp [Bundle.ownAtoms0]))
  have hselF := sel Y.fill (by decide) (at' (.selects cls Bundle.tFill Bundle.tFill) (by simp [Bundle.ownAtoms0]))
  obtain ⟨cS, hcS, hiss⟩ := Y.statics
  obtain ⟨u0, hu0⟩ := Cond.staticRefV Y.unassigned Lk.unassignedStatic Lk.statics hcS hiss (at' (.isRef (.static Bundle.tN "UNASSIGNED_STACK" Bundle.steD)) (by simp [Bundle.ownAtoms0]))
  obtain ⟨sen, hsen⟩ := Cond.staticRefV Y.sentinel Lk.sentinelStatic Lk.statics hcS hiss (at' (.isRef (.static Bundle.tN "SUPPRESSED_SENTINEL" Bundle.listD)) (by simp [Bundle.ownAtoms0]))
  obtain ⟨ciB, iB, fB, hkB, hgB, haB, hsB, -, hnB, htB, hffB⟩ := Cond.ownField (t := .object "java/lang/Object") Y.found Lk.cls (by decide +kernel) (at' (.fieldLink Bundle.tN 198 Bundle.tN "backtrace" "Ljava/lang/Object;") (by simp [Bundle.ownAtoms0])) (at' (.lays Bundle.tN Bundle.tN "backtrace" "Ljava/lang/Object;") (by simp [Bundle.ownAtoms0])) e.platform hpl
  obtain ⟨cS', hcS', heS, -, hkeep⟩ := X.same.2.2.2.2.2 Tc.aS cS hcS
  have hcellS : T.heap[Tc.aS]? = some cS' := hcS'
  have hout' : ∀ i, (⟨Tc.aS, i⟩ : Loc) ∉ locs := by
    intro i hm
    have := hlocs _ hm cS hcS
    rw [hiss] at this
    cases this
  have hknS : cS'.vm ≠ .unknown := by
    intro hu
    rw [heS] at hu
    rw [show cS.vm = .unknown from hu] at hiss
    cases hiss
  have hneS : Tc.aS ≠ a := Nat.ne_of_lt (Nat.lt_of_lt_of_le (Array.getElem?_eq_some_iff.mp hcS).1 hnew)
  obtain ⟨tyC, dC, hdC, hdnC⟩ := Cond.laysAt hfound hkX Y.cause (at' (.lays cls Bundle.tN "cause" "Ljava/lang/Throwable;") (by simp [Bundle.ownAtoms0]))
  obtain ⟨tyS, dS, hdS, hdnS⟩ := Cond.laysAt hfound hkX Y.stack (at' (.lays cls Bundle.tN "stackTrace" Bundle.steD) (by simp [Bundle.ownAtoms0]))
  obtain ⟨tyP, dP, hdP, hdnP⟩ := Cond.laysAt hfound hkX Y.supp (at' (.lays cls Bundle.tN "suppressedExceptions" Bundle.listD) (by simp [Bundle.ownAtoms0]))
  obtain ⟨tyB, dB, hdB, hdnB⟩ := Cond.laysAt hfound hkX hffB (at' (.lays cls Bundle.tN "backtrace" "Ljava/lang/Object;") (by simp [Bundle.ownAtoms0]))
  have bC := Cond.laysApart hdB hdC hdnB hdnC (by rw [hnB, Y.causeName]; decide)
  have bS := Cond.laysApart hdB hdS hdnB hdnS (by rw [hnB, Y.stackName]; decide)
  have bP := Cond.laysApart hdB hdP hdnB hdnP (by rw [hnB, Y.suppName]; decide)
  have hskip : SkipFacts Tc e.platform s (fun u => u) u0 ((preparedCellV Tc.toThrowableT (freshCell P1.m.cls kX) a u0 sen).withEntry T.cur) :=
    ⟨{ ci198 := ciB, i198 := iB, fBack := fB }, ⟨hkB, hgB, haB, hsB⟩, by
      have := fresh_default (c := P1.m.cls) tyB
      rw [htB] at this
      simpa [preparedCellV, Cell.setSlot, Cell.withEntry, Array.getElem?_setIfInBounds, bC, bS, bP, bC.symm, bS.symm, bP.symm, defaultValue] using this, fun _ _ => rfl⟩
  obtain ⟨tm, methC, cdC, kC, vm₁, hnC, -, -, -, -, -, -, -, hW₁, st1⟩ := Steps.initCold (tb := p.tables) (e := e) (below := below) (s := s) (U := T) X.here hx X.warmed hpl hown (t := Bundle.init0 cls) rfl rfl (Bundle.fit_spec hcls).2
    (at' (.methodLink own ic (Bundle.init0 cls)) (by simp [Bundle.ownAtoms0])) (hat (.instanceMethod (Bundle.init0 cls)) (by cases names <;> simp [Bundle.ownAtoms0, Bundle.chain0Atoms, Bundle.passAtoms])) (bytes := Bundle.five) (maxL := 1) (hat (.code (Bundle.init0 cls) Bundle.five 1 none) (by cases names <;> simp [Bundle.ownAtoms0, Bundle.chain0Atoms, Bundle.passAtoms]))
    (f := F0 m pc ls (.ref a :: .ref a :: rest)) rfl (a := a) (rest := .ref a :: rest) rfl hd1
  cases Option.some.inj (hnC.symm.trans hP1m)
  have X₁ := X.noted hW₁
  obtain ⟨vm₂, X₂, st2⟩ := X₁.ctorPlainOffV hx (g := F0 m pc ls (.ref a :: rest)) rfl hsize Tc Lk Z LZ (P1 :: Ps)
    (fun P hP => by rcases List.mem_cons.mp hP with rfl | hP; exact L1; exact hL P hP) ⟨hlink1, hlink⟩ (u0 := u0) (sen := sen) (self := a) (cell := freshCell P1.m.cls kX) (cellS := cS')
    hcell (fun _ => by simp) (by simp) rfl rfl hsel0 hselF hcellS hneS hknS (by rw [hkeep _ (hout' _)]; exact hu0) (by rw [hkeep _ (hout' _)]; exact hsen)
    (Takes.of_laid hkX hord tyC (by rw [Y.causeType]; rfl)) (Takes.of_laid hkX hord tyS (by rw [Y.stackType]; exact fits_refV_array _ u0)) (Takes.of_laid hkX hord tyP (by rw [Y.suppType]; exact fits_refV_object _ sen)) Y.objLocals hskip htr [] hd1
    (by simp only [List.length_cons, hlen]; omega)
    (by
      simp only [List.length_cons, hlen]
      show 2 * 0 + ((Value.ref a :: rest).map fun v => v.category).sum + _ ≤ _
      have e9 : ((Value.ref a :: rest).map fun v => v.category).sum = 1 + (rest.map fun v => v.category).sum := by
        rw [List.map_cons, List.sum_cons]
        rfl
      rw [e9]
      omega)
  obtain ⟨hwalk, hrun, hended, hWU, hsame⟩ := X₂.athrowLeaves hx (g := F0 m (pc + 3) ls (.ref a :: rest)) rfl rfl rfl hout (a := a) (rest := rest) rfl hd2 hlocks
  have hlt : a < T.heap.size := (Array.getElem?_eq_some_iff.mp hcell).1
  refine ⟨_, [⟨a, Tc.fCause.slot⟩, ⟨a, Tc.fStack.slot⟩, ⟨a, Tc.fSupp.slot⟩, ⟨a, Tc.fStack.slot⟩], (preparedCellV Tc.toThrowableT (freshCell P1.m.cls kX) a u0 sen).setSlot Tc.fStack.slot u0.v, st1 _ (fun acts => ?_), hrun, hended, hWU, hsame, ?_, ?_, rfl, rfl, ?_, ?_⟩
  · rw [doInvoke_state]
    exact st2 _ hwalk
  · intro q hq
    simp only [List.mem_cons, List.not_mem_nil, or_false] at hq
    rcases hq with rfl | rfl | rfl | rfl <;> rfl
  · exact heapAt_setCell_self (s := (T.setVm vm₁).setVm vm₂) _ hlt
  · exact size_setCell ((T.setVm vm₁).setVm vm₂) a _
  · intro q hq
    exact heapAt_setCell_ne (s := (T.setVm vm₁).setVm vm₂) _ (Ne.symm hq)
end MQT
