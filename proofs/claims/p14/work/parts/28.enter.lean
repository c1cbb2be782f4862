/-! A call's first step: the arguments are taken, the method is entered. -/
def mq_pl (N : mq_Nm) (n : Nat) : Bool := plainName N.1.cls && decide (N.1.cls ≠ "java/lang/invoke/MethodHandle") && decide (N.1.cls ≠ "java/lang/invoke/VarHandle") && decide ((parseMethodDescriptor N.1.desc).map (fun d => d.parameters.length) = some n)
theorem mq_pl_spec {N : mq_Nm} {n : Nat} (h : mq_pl N n = true) : plainName N.1.cls = true ∧ (N.1.cls ≠ "java/lang/invoke/MethodHandle" ∧ N.1.cls ≠ "java/lang/invoke/VarHandle") ∧ ∀ sig, parseMethodDescriptor N.1.desc = some sig → n = sig.parameters.length := by
  unfold mq_pl at h
  simp only [Bool.and_eq_true, decide_eq_true_eq] at h
  obtain ⟨⟨⟨h1, h2⟩, h3⟩, h4⟩ := h
  refine ⟨h1, ⟨h2, h3⟩, fun sig hs => ?_⟩
  rw [hs] at h4
  exact (Option.some.inj h4).symm
section MQE
variable {p : Program} {l : Launch} {e : Env} {R : Room} {s : State} {m : MethodId} {args : Array Value} {below : List Frame} {meth : Method} {c : Code} {T : State} {locs : List Loc} {cells slots : Nat}
/-- a method's entry links, by the plain road or by the nest's -/
def mq_ml (own : String) (index : Nat) (y : MethodName) (args : Array Value) (s : State) : Prop := (Cond.methodLink own index y).before args s = true ∨ ∃ host, (Cond.methodLinkNest own index y host).before args s = true
theorem mq_enterS (X : Stand p l e R s m args below meth c T locs cells slots) (hx : p.tables.exec = Jvm.exec) {own : String} (hown : s.vm.findClass own = some m.cls) {N : mq_Nm} {index n pc : Nat} {ls : Array Slot} {As rest : List Value} (hlink : mq_ml own index N.1 args s) (hstat : (Cond.static N.1).before args s = true) (hinit : (Cond.initialized N.1.cls).before args s = true) (hcw : (mq_cw N).before args s = true) (hpl : mq_pl N n = true) (hn : As.length = n) (hd : decode c.code pc = .ok (.invokestatic index, 3)) :
    ∃ mk methk ck vm₁, mq_is N s mk methk ck ∧ Stand p l e R s m args below meth c (T.setVm vm₁) locs cells slots ∧ ∀ target, Steps p.tables e below (doInvoke e ((T.setVm vm₁).setTop (F0 m pc ls rest)) [] mk As.toArray).1 target → Steps p.tables e below (T.setTop (F0 m pc ls (As.reverse ++ rest))) target := by
  obtain ⟨mk, methk, ck, hk⟩ := mq_is_of hcw
  obtain ⟨-, hy, hlen⟩ := mq_pl_spec hpl
  obtain ⟨k1, k2, k3, k4, k5, k6, k7, k8, k9⟩ := id hk
  have hst : methk.isStatic = true := Cond.static_spec k1 k2 hstat
  obtain ⟨kP, hkP, -⟩ := className_of_methodNamed k1
  have hin : kP.init = .initialized := Cond.initialized_spec (findClass_of_methodNamed k1) hkP hinit
  rcases hlink with hl | ⟨host, hl⟩
  · obtain ⟨vm₁, X₁, hs⟩ := X.invokestatic hx hown hl k1 k2 hst hkP hin hy (g := F0 m pc ls (As.reverse ++ rest)) rfl (argsL := As) (rest := rest) (hn.trans (hlen _ k9)) rfl hd
    exact ⟨mk, methk, ck, vm₁, hk, X₁, fun target h => hs target fun acts => by rw [doInvoke_state]; exact h⟩
  · obtain ⟨vm₁, X₁, hs⟩ := X.invokestaticNest hx hown hl k1 k2 hst hkP hin hy (g := F0 m pc ls (As.reverse ++ rest)) rfl (argsL := As) (rest := rest) (hn.trans (hlen _ k9)) rfl hd
    exact ⟨mk, methk, ck, vm₁, hk, X₁, fun target h => hs target fun acts => by rw [doInvoke_state]; exact h⟩
theorem mq_enterV (X : Stand p l e R s m args below meth c T locs cells slots) (hx : p.tables.exec = Jvm.exec) {own C : String} (hown : s.vm.findClass own = some m.cls) {N : mq_Nm} {index n pc b : Nat} {ls : Array Slot} {As rest : List Value} (hlink : mq_ml own index N.1 args s) (hinst : (Cond.instanceMethod N.1).before args s = true) (hsel : (Cond.selects C N.1 N.1).before args s = true) (hcw : (mq_cw N).before args s = true) (hpl : mq_pl N n = true) (hn : As.length = n) (hrecv : ∃ cell : Cell, T.heap[b]? = some cell ∧ cell.vm.isStatics = false ∧ s.vm.findClass C = some cell.cls) (hd : decode c.code pc = .ok (.invokevirtual index, 3)) :
    ∃ mk methk ck vm₁, mq_is N s mk methk ck ∧ Stand p l e R s m args below meth c (T.setVm vm₁) locs cells slots ∧ ∀ target, Steps p.tables e below (doInvoke e ((T.setVm vm₁).setTop (F0 m pc ls rest)) [] mk (Value.ref b :: As).toArray).1 target → Steps p.tables e below (T.setTop (F0 m pc ls (As.reverse ++ .ref b :: rest))) target := by
  obtain ⟨mk, methk, ck, hk⟩ := mq_is_of hcw
  obtain ⟨-, hy, hlen⟩ := mq_pl_spec hpl
  obtain ⟨k1, k2, k3, k4, k5, k6, k7, k8, k9⟩ := id hk
  obtain ⟨cellB, hcell, hobj, hcls⟩ := hrecv
  obtain ⟨mk', methM, hnamed, hmethM, hstM, habM⟩ := Cond.instanceMethod_spec hinst
  cases k1.symm.trans hnamed
  cases k2.symm.trans hmethM
  obtain ⟨c2, r2, m2, q1, q2, q3, q4, kP, hkP, hkPi⟩ := Cond.selects_spec hsel
  cases hcls.symm.trans q1
  cases (State.methodFound?_of_named k1 hy).symm.trans q2
  cases k1.symm.trans q3
  have hselP : selectMethod e.platform s.vm cellB.cls mk = .method mk := by rw [Launch.admits_selectMethod X.admits]; exact q4
  rcases hlink with hl | ⟨host, hl⟩
  · obtain ⟨vm₁, X₁, hs⟩ := X.invokevirtual hx hown hl k1 k2 hstM hkP hkPi hy (a := b) (cell := cellB) hcell (fun z h => by rw [h] at hobj; cases hobj) hselP k2 habM hkP hkPi (g := F0 m pc ls (As.reverse ++ .ref b :: rest)) rfl (argsL := As) (rest := rest) (hn.trans (hlen _ k9)) rfl hd
    exact ⟨mk, methk, ck, vm₁, hk, X₁, fun target h => hs target fun acts => by rw [doInvoke_state]; exact h⟩
  · obtain ⟨vm₁, X₁, hs⟩ := X.invokevirtualNest hx hown hl k1 k2 hstM hkP hkPi hy (a := b) (cell := cellB) hcell (fun z h => by rw [h] at hobj; cases hobj) hselP k2 habM hkP hkPi (g := F0 m pc ls (As.reverse ++ .ref b :: rest)) rfl (argsL := As) (rest := rest) (hn.trans (hlen _ k9)) rfl hd
    exact ⟨mk, methk, ck, vm₁, hk, X₁, fun target h => hs target fun acts => by rw [doInvoke_state]; exact h⟩
theorem mq_enterI (X : Stand p l e R s m args below meth c T locs cells slots) (hx : p.tables.exec = Jvm.exec) {own : String} (hown : s.vm.findClass own = some m.cls) {N : mq_Nm} {index n pc b : Nat} {ls : Array Slot} {As rest : List Value} (hlink : mq_ml own index N.1 args s) (hinst : (Cond.instanceMethod N.1).before args s = true) (hname : N.1.name = "<init>") (hcw : (mq_cw N).before args s = true) (hh : N.2.2.2.2 = []) (hr : N.2.2.2.1 = none) (hpl : mq_pl N n = true) (hn : As.length = n) (hd : decode c.code pc = .ok (.invokespecial index, 3)) :
    ∃ mk methk ck vm₁, mq_is N s mk methk ck ∧ Stand p l e R s m args below meth c (T.setVm vm₁) locs cells slots ∧ ∀ target, Steps p.tables e below (doInvoke e ((T.setVm vm₁).setTop (F0 m pc ls rest)) [] mk (Value.ref b :: As).toArray).1 target → Steps p.tables e below (T.setTop (F0 m pc ls (As.reverse ++ .ref b :: rest))) target := by
  obtain ⟨mk, methk, ck, hk⟩ := mq_is_of hcw
  obtain ⟨-, hy, hlen⟩ := mq_pl_spec hpl
  have hcode : (Cond.code N.1 N.2.1 N.2.2.1 none).before args s = true := by
    have := hcw
    unfold mq_cw at this
    rwa [if_pos hh, hr] at this
  have hple : e.platform.magicAccessors = ({} : Platform).magicAccessors := by rw [X.admits.platform]
  rcases hlink with hl | ⟨host, hl⟩
  · obtain ⟨mk', methM, cM, kP, vm₁, hnamed, hmethM, hcodeM, -, hlocalsM, -, hkP, -, hW₁, hstep₁⟩ := Steps.initColdArgs (e := e) X.here hx X.warmed hple hown hname hy hl hinst hcode (f := F0 m pc ls (As.reverse ++ .ref b :: rest)) rfl (argsL := As) (rest := rest) (fun sig h => hn.trans (hlen sig h)) rfl hd
    cases hk.1.symm.trans hnamed
    exact ⟨mk, methk, ck, vm₁, hk, X.noted hW₁, fun target h => hstep₁ target fun acts => by rw [doInvoke_state]; exact h⟩
  · obtain ⟨mk', methM, cM, kP, vm₁, hnamed, hmethM, hcodeM, -, hlocalsM, -, hkP, -, hW₁, hstep₁⟩ := Steps.initColdArgsNest (e := e) X.here hx X.warmed hple hown hname hy hl hinst hcode (f := F0 m pc ls (As.reverse ++ .ref b :: rest)) rfl (argsL := As) (rest := rest) (fun sig h => hn.trans (hlen sig h)) rfl hd
    cases hk.1.symm.trans hnamed
    exact ⟨mk, methk, ck, vm₁, hk, X.noted hW₁, fun target h => hstep₁ target fun acts => by rw [doInvoke_state]; exact h⟩
end MQE
