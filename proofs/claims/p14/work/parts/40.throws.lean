/-! The mini-machine's throw and catch, out of the tables' words. -/
theorem mq_ls_keep {C n d : String} {args args' : Array Value} {s0 s : State} (h : (Cond.laysStatic C n d).before args s0 = true) (hW : s0.WarmedH s.vm) (hq : ∀ q : Nat, q < s0.heap.size → s.heap[q]? = s0.heap[q]?) : (Cond.laysStatic C n d).before args' s = true ∧ ((Cond.isRef (.static C n d)).before args s0 = true → (Cond.isRef (.static C n d)).before args' s = true) := by
  obtain ⟨c, k, i, f, a, cell, hc, hi, hst, ha, hcell, hs, hcls, hlt, hty⟩ := Cond.laysStatic_spec h
  obtain ⟨k', hi0, he⟩ := State.fieldFound?_setVm hW.alike hi
  have hi' : s.fieldFound? C n d = some (c, k', i, f) := hi0
  have hc' : s.vm.findClass C = some c := by rw [hW.alike.findClass]; exact hc
  have hcell' : s.heap[a]? = some cell := by rw [hq a (Array.getElem?_eq_some_iff.mp hcell).1]; exact hcell
  have ha' : k'.statics = some a := by rw [he]; exact ha
  have hty' : k'.staticTypes[f.slot]? = some f.type := by rw [he]; exact hty
  have e0 : (Term.static C n d).eval args s0 none [] s0 = cell.slots[f.slot]? := by
    simp [Term.eval, State.fieldNamed?, hi, hst, ha, hcell, hs]
  have e1 : (Term.static C n d).eval args' s none [] s = cell.slots[f.slot]? := by
    simp [Term.eval, State.fieldNamed?, hi', hst, ha', hcell', hs]
  constructor
  · simp [Cond.before, Cond.holds, Cond.value, hc', hi', ha', hcell', hst, hs, hcls, hlt, hty']
  · intro h2
    simp only [Cond.before, Cond.holds, Cond.value] at h2 ⊢
    rw [e1]
    rw [e0] at h2
    exact h2
theorem mq_hw_at {G : mq_G} {s : State} (h : mq_bs G s) : ∀ w ∈ mq_HW, ∀ args : Array Value, w.before args s = true := by
  obtain ⟨-, s0, b1, b2, b3, b4⟩ := h
  have hq : ∀ q : Nat, q < s0.heap.size → s.heap[q]? = s0.heap[q]? := by rw [b2]; exact b4
  intro w hw args
  have l1 := mq_ls_keep (args' := args) (b1 (.laysStatic Bundle.tN "UNASSIGNED_STACK" Bundle.steD) (by simp [mq_HW]) #[]) b3 hq
  have l2 := mq_ls_keep (args' := args) (b1 (.laysStatic Bundle.tN "SUPPRESSED_SENTINEL" Bundle.listD) (by simp [mq_HW]) #[]) b3 hq
  simp only [mq_HW, List.mem_cons, List.not_mem_nil, or_false] at hw
  rcases hw with hw | hw | hw | hw
  · rw [hw]; exact l1.1
  · rw [hw]; exact l2.1
  · rw [hw]; exact l1.2 (b1 _ (by simp [mq_HW]) #[])
  · rw [hw]; exact l2.2 (b1 _ (by simp [mq_HW]) #[])
theorem mq_ok.vm {cl : List vw_C} {G : mq_G} {S : mq_S} {s : State} {H : Heap} (h : mq_ok cl G S s H) {q : Nat} {cell : Cell} (hq : G.2.2.2 ≤ q) (hc : H[q]? = some cell) : cell.vm = .none := by
  obtain ⟨kP, k0, k1, -⟩ := h
  have hlt : q < H.size := (Array.getElem?_eq_some_iff.mp hc).1
  have hi : q - G.2.2.2 < S.2.1 - 8 := by omega
  have hat := kP (q - G.2.2.2) _ (mq_ws_get hi)
  have e : mq_f G (8 + (q - G.2.2.2)) = q := by rw [mq_f_new (by omega)]; omega
  rw [e] at hat
  unfold va_at at hat
  generalize mq_tr G (S.1 (8 + (q - G.2.2.2))) = x at hat
  cases x with
  | inl a =>
    have h9 : H[q]? = some (vp_cell a.1 a.2) := hat
    cases hc.symm.trans h9
    obtain ⟨c, n, f | f | f | f | f⟩ := a <;> rfl
  | inr o =>
    obtain ⟨r, -, cell', q1, -, q3, -⟩ := hat
    cases hc.symm.trans q1
    exact q3
section MQ40
variable {p : Program} {l : Launch} {cl : List vw_C} {TT : List Cond} {Zs : List (Nat × String × String × String)} {ks : List Nat} {G : mq_G} {N : mq_Nm}
set_option maxHeartbeats 2000000 in
theorem mq_HT_of (htr : ∀ e : Env, l.admits e → e.platform.stackTraces = false) {pc x index ic : Nat} {X : String} {T : u_T} {names : List String} (hd0 : decode N.2.1 pc = .ok (.new index, 3)) (hd1 : decode N.2.1 (pc + 3) = .ok (.dup, 1)) (hd2 : decode N.2.1 (pc + 4) = .ok (.invokespecial ic, 3)) (hd3 : decode N.2.1 (pc + 7) = .ok (.athrow, 1)) (hh : N.2.2.2.2 = []) (hc : cl[x]? = some (X, T, 0)) (h60 : x < 60)
    (hw1 : Cond.classLink N.1.cls index X ∈ TT) (hw2 : Cond.instantiable X 6 ∈ TT) (hw3 : Cond.initialized X ∈ TT) (hat : ∀ w ∈ Bundle.ownAtoms0 N.1.cls ic X names, w ∈ TT ∨ w ∈ mq_HW) (hf1 : Bundle.fit X = true) (hf2 : ∀ n ∈ names, Bundle.fit n = true) (hn4 : names.length ≤ 4) : mq_HT cl TT Zs ks G p l N pc x := by
  intro e R s m args below meth c H locs cells slots ls rest M z u hst hok hS hls hw8 hc1 hs6 hR3 hR4
  obtain ⟨hx, hN, hts, hK, hbs, hZs⟩ := hst
  obtain ⟨hn1, hn2, hn3, hb, hml, hret, hlocks, hhd, hsig⟩ := hN
  have hown : s.vm.findClass N.1.cls = some m.cls := findClass_of_methodNamed hn1
  have hKn := hK.1 x _ hc
  refine W.newcK hx hb hown (hts _ hw1) (hts _ hw2) (hts _ hw3) rfl hd0 hc1 hs6 hKn.2.1 rfl fun H1 kC hkC e1 z1 o1 => ?_
  refine lv_dup hx hb hd1 rfl ?_
  intro T' hT X'
  have hsz0 : s.heap.size ≤ H.size := hS.1
  have hlocs : ∀ y ∈ locs, ∀ cell, s.heap[y.base]? = some cell → cell.vm.isStatics = false := by
    intro y hy cell hcell
    obtain ⟨cell', hc', heq, -⟩ := X'.same.2.2.2.2.2 y.base cell hcell
    have hlt : y.base < s.heap.size := (Array.getElem?_eq_some_iff.mp hcell).1
    have hc1 : T'.heap[y.base]? = some cell' := hc'
    rw [hT, o1 y.base (Nat.lt_of_lt_of_le hlt hsz0)] at hc1
    have hv := hok.vm (hS.2.2 y hy) hc1
    have : cell'.vm = cell.vm := by rw [heq]
    rw [← this, hv]
    rfl
  have hout : ∀ y ∈ c.exceptionTable.toList, covers y (pc + 4 + 3) = false := by
    intro y hy
    have hm : (y.startPc, y.endPc, y.handlerPc, y.catchType) ∈ N.2.2.2.2 := by
      rw [← hhd]
      exact List.mem_map.mpr ⟨y, hy, rfl⟩
    rw [hh] at hm
    cases hm
  obtain ⟨U, La, ce, st, hrun, hend, hWU, hsame, hLa, hce, hcls, hvm, hsz, hoth⟩ := mq_throwNew X' hx (htr e X'.admits) hown hf1 hf2 (fun w hw => by rcases hat w hw with h | h; exact hts w h; exact mq_hw_at hbs w h args) hlocs hKn.2.1 hkC (a := H.size) (by rw [hT]; exact e1) hsz0 (pc := pc + 4) (ls := ls) (rest := rest) (hls.trans hml.symm) (by rw [hb]; exact hd2) (by rw [hb]; exact hd3) hout hlocks (by omega) (by omega)
  have hh1 : U.heap.size = H.size + 1 := by rw [hsz, hT]; exact z1
  have ho1 : ∀ q : Nat, q < H.size → U.heap[q]? = H[q]? := by
    intro q hq
    rw [hoth q (Nat.ne_of_lt hq), hT]
    exact o1 q hq
  have hva : va_at G.1 cl (H.size, mq_tr G (x, [])) U.heap := by
    unfold mq_tr
    rw [if_pos (show x < 60 from h60)]
    exact ⟨_, hc, ce, hce, hcls, hvm, fun k hk => absurd hk (Nat.not_lt_zero k)⟩
  obtain ⟨ok1, ef⟩ := hok.push (u' := u + 6) (H1 := U.heap) (c := (x, [])) (by show x ≠ 60; omega) hva hh1 ho1
  refine ⟨U, st, hrun, ?_, hWU, ⟨locs ++ La, hsame.mono hc1 hs6, ?_⟩, ok1, ?_⟩
  · show Ended U below (.threw (mq_f G z))
    rw [ef]
    exact hend
  · intro q hq
    rcases List.mem_append.mp hq with h | h
    · exact hS.2.2 q h
    · rw [hLa q h]
      have := hok.2.1
      omega
  · have hg := mq_grow hS hh1 ho1
    exact hg.F rfl
/-- an entry of the table: linked to the class 'name', which takes an object of the class X or not -/
def mq_hk (TT : List Cond) (own X : String) (pc : Nat) (hit : Bool) (y : Nat × Nat × Nat × Nat) : Prop :=
  y.1 ≤ pc ∧ pc < y.2.1 ∧ y.2.2.2 ≠ 0 ∧ ∃ name, Cond.classLink own y.2.2.2 name ∈ TT ∧ (if hit = true then Cond.castable X name else Cond.not (.castable X name)) ∈ TT
set_option maxHeartbeats 2000000 in
theorem mq_HC_of {pc kind h : Nat} {X : String} {T : u_T} (hc : cl[kind]? = some (X, T, 0)) (h60 : kind < 60) (pre post : List (Nat × Nat × Nat × Nat)) (y : Nat × Nat × Nat × Nat) (hsplit : N.2.2.2.2 = pre ++ y :: post) (hy : mq_hk TT N.1.cls X pc true y) (hpre : ∀ w ∈ pre, mq_hk TT N.1.cls X pc false w) (hh : y.2.2.1 = h) : mq_HC cl TT Zs ks G p l N pc kind h := by
  intro e R s m args below meth c T' locs cells slots ls rest S a hst hok hka X'
  obtain ⟨hx, hN, hts, hK, hbs, hZs⟩ := hst
  obtain ⟨hn1, hn2, hn3, hb, hml, hret, hlocks, hhd, hsig⟩ := hN
  have hown : s.vm.findClass N.1.cls = some m.cls := findClass_of_methodNamed hn1
  have hpl : e.platform.magicAccessors = ({} : Platform).magicAccessors := by rw [X'.admits.platform]
  obtain ⟨M, z, u⟩ := S
  have hka' : (M a).1 = kind := hka
  obtain ⟨h8, hz, hat⟩ := mq_at_obj (M := M) (z := z) (u := u) (a := a) (fs := (M a).2) hok h60 (by rw [← hka'])
  obtain ⟨r, hr, cell, q1, q2, q3, -⟩ := hok.1 (a - 8) _ hat
  have hKn := hK.1 kind _ hc
  have hcX : s.vm.findClass X = some cell.cls := by rw [q2]; exact hKn.2.1
  obtain ⟨kX, hkX, -⟩ := hKn.2.2
  -- the rows of the table
  have row : ∀ (hit : Bool) (w : ExceptionTableEntry), mq_hk TT N.1.cls X pc hit (w.startPc, w.endPc, w.handlerPc, w.catchType) → mq_row e.platform s m.cls pc cell.cls hit w := by
    intro hit w hw
    obtain ⟨w1, w2, w3, name, w4, w5⟩ := hw
    obtain ⟨c', hc', hcl⟩ := Cond.classLink_spec hown (hts _ w4) e.platform hpl
    refine Or.inr ⟨?_, w3, c', hcl, ?_⟩
    · have h1 : w.startPc ≤ pc := w1
      have h2 : pc < w.endPc := w2
      simp [covers, h1, h2]
    · cases hit with
      | true =>
        obtain ⟨c3, c4, r1, r2, r3⟩ := Cond.castable_spec (hts _ w5)
        cases hcX.symm.trans r1
        cases hc'.symm.trans r2
        exact r3
      | false =>
        have hno := hts _ w5
        have hv := Cond.holds_not_iff.mp hno
        simp only [Cond.value, hcX, hc'] at hv
        exact Option.some.inj hv
  obtain ⟨l1, l2, e1, e2, e3⟩ := List.map_eq_append_iff.mp (hhd.trans hsplit)
  obtain ⟨y', l3, e4, e5, e6⟩ := List.map_eq_cons_iff.mp e3
  subst e4
  have hh' : y'.handlerPc = h := by rw [← hh, ← e5]
  have := mq_caught X' (mq_f G a) (pc := pc) (ls := ls) (rest := rest) q1 (fun k hk => by rw [q3] at hk; cases hk) ⟨kX, by rw [q2]; exact hkX⟩ l1 y' l3 e1 (fun w hw => row false w (hpre _ (by rw [← e2]; exact List.mem_map.mpr ⟨w, hw, rfl⟩))) (row true y' (by rw [e5]; exact hy))
  rw [hh'] at this
  exact this
end MQ40
