/-! The walk, method by method, by induction on the mini-machine's steps. -/
theorem mq_set1_len {L L' : mq_L} {i : Nat} {v : Value} (hs : mq_set1 L i v = some L') : L'.length = L.length := by
  unfold mq_set1 at hs
  split at hs
  · cases hs
  · cases hs; rw [List.length_set]
theorem mq_set2_len {L L' : mq_L} {i : Nat} {v : Value} (hs : mq_set2 L i v = some L') : L'.length = L.length := by
  unfold mq_set2 at hs
  split at hs
  · cases hs
  · cases hs; rw [List.length_set, List.length_set]
def mq_lenok (L : mq_L) (o : mq_O) : Prop := match o with
  | .inl (_, L', _, _) => L'.length = L.length
  | .inr (.inr (.inr (_, _, _, L', _, _))) => L'.length = L.length
  | _ => True
set_option maxHeartbeats 4000000 in
theorem mq_ops_len : ∀ f ∈ mq_ops, ∀ (ns : List Nat) (cs : List Int) (L : mq_L) (st : List Value) (S : mq_S) (o : mq_O), f ns cs L st S = some o → mq_lenok L o := by
  intro f hf
  unfold mq_ops at hf
  simp only [List.mem_cons, List.not_mem_nil, or_false] at hf
  repeat' (rcases hf with hf | hf)
  all_goals
    intro ns cs L st S o h
    simp only [mq_o_iconst, mq_o_lconst, mq_o_iload, mq_o_lload, mq_o_aload, mq_o_istore, mq_o_lstore, mq_o_astore, mq_o_iinc, mq_bi, mq_bd, mq_bl, mq_sl, mq_ui, mq_ul, mq_o_lcmp, mq_o_dup, mq_o_pop, mq_o_dup_x1, mq_o_dup_x2, mq_o_dup2, mq_if1, mq_if2, mq_o_goto, mq_o_switch, mq_o_get, mq_o_put, mq_o_gets, mq_o_new, mq_o_newarr, mq_o_alen, mq_o_ald, mq_o_ast, mq_o_static, mq_o_virtual, mq_o_object, mq_o_min, mq_o_max, mq_o_copy, mq_o_ret, mq_o_retv, mq_o_throw] at h
    repeat' (split at h)
    all_goals first
      | (cases h; done)
      | (cases h; exact rfl)
      | (cases h; exact trivial)
      | (cases h; exact mq_set1_len (by assumption))
      | (cases h; exact mq_set2_len (by assumption))
theorem mq_ex_len {o : mq_P} {L : mq_L} {st : List Value} {S : mq_S} {x : mq_O} (h : mq_ex o L st S = some x) : mq_lenok L x := by
  unfold mq_ex at h
  split at h
  next f hf => exact mq_ops_len f (List.mem_of_getElem? hf) _ _ _ _ _ _ h
  · cases h
/-- the words stay true as the tables warm -/
def mq_stable (TT : List Cond) : Prop := ∀ w ∈ TT, ∀ (args args' : Array Value) (s U : State), s.WarmedH U.vm → w.before args s = true → w.before args' U = true
/-- throw new ..: the machine leaves the method by the new exception -/
def mq_HT (cl : List vw_C) (TT : List Cond) (Zs : List (Nat × String × String × String)) (ks : List Nat) (G : mq_G) (p : Program) (l : Launch) (N : mq_Nm) (pc x : Nat) : Prop :=
  ∀ (e : Env) (R : Room) (s : State) (m : MethodId) (args : Array Value) (below : List Frame) (meth : Method) (c : Code) (H : Heap) (locs : List Loc) (cells slots : Nat) (ls : Array Slot) (rest : List Value) (M : Nat → mq_C) (z u : Nat),
    mq_St cl TT Zs ks N G p s m args meth c → mq_ok cl G (M, z, u) s H → va_S (fun q => G.2.2.2 ≤ q) s.heap H locs → ls.size = N.2.2.1 → (rest.map fun v => v.category).sum ≤ 8 → cells + 1 ≤ R.cells → slots + 6 ≤ R.slots → 12 ≤ R.frames → 300 ≤ R.locals →
    W p l e R s m args below meth c H locs cells slots (mq_fin cl G below s R.cells R.slots (.inr z) (va_up M z (x, []), z + 1, u + 6)) (F0 m pc ls rest)
/-- a callee threw, and the exception is caught here -/
def mq_HC (cl : List vw_C) (TT : List Cond) (Zs : List (Nat × String × String × String)) (ks : List Nat) (G : mq_G) (p : Program) (l : Launch) (N : mq_Nm) (pc kind h : Nat) : Prop :=
  ∀ (e : Env) (R : Room) (s : State) (m : MethodId) (args : Array Value) (below : List Frame) (meth : Method) (c : Code) (T : State) (locs : List Loc) (cells slots : Nat) (ls : Array Slot) (rest : List Value) (S : mq_S) (a : Nat),
    mq_St cl TT Zs ks N G p s m args meth c → mq_ok cl G S s T.heap → (S.1 a).1 = kind → Stand p l e R s m args below meth c T locs cells slots →
    ∃ vm₁, Stand p l e R s m args below meth c (T.setVm vm₁) locs cells slots ∧ ∀ target, Steps p.tables e below ((T.setVm vm₁).setTop (F0 m h ls [.ref (mq_f G a)])) target → Steps p.tables e below ((T.setTop (F0 m pc ls rest)).pushFrame (.throwing (mq_f G a))) target
def mq_prog (cl : List vw_C) (TT : List Cond) (Zs : List (Nat × String × String × String)) (ks : List Nat) (G : mq_G) (p : Program) (l : Launch) (P : List mq_T) (Nms : List mq_Nm) : Prop :=
  ∀ (k : Nat) (t : mq_T), P[k]? = some t → ∃ N, Nms[k]? = some N ∧ t.1 = N.2.2.1 ∧ t.1 ≤ 40 ∧
    (∀ (pc kind h : Nat), mq_hx pc kind t.2.1 = some h → mq_HC cl TT Zs ks G p l N pc kind h) ∧
    ∀ (pc : Nat) (o : mq_P), t.2.2.lookup pc = some o → mq_fc cl TT Zs ks N pc o ∨ (mq_fcall cl TT Nms N pc o ∧ (t.2.1 = [] → N.2.2.2.2 = [])) ∨ mq_fret N pc o ∨ ∃ x ns, o = (68, x :: ns, []) ∧ mq_HT cl TT Zs ks G p l N pc x
section MQX
variable {p : Program} {l : Launch} {e : Env} {R : Room} {s : State} {m : MethodId} {args : Array Value} {below : List Frame} {meth : Method} {c : Code} {T : State} {locs : List Loc} {cells slots : Nat}
variable {cl : List vw_C} {TT : List Cond} {Zs : List (Nat × String × String × String)} {ks : List Nat} {G : mq_G} {N Nj : mq_Nm}
theorem mq_is_move (X : Stand p l e R s m args below meth c T locs cells slots) {mk : MethodId} {methk : Method} {ck : Code} (hk : mq_is Nj s mk methk ck) : mq_is Nj T mk methk ck := by
  obtain ⟨k1, k2, k3⟩ := hk
  exact ⟨X.named k1, by rw [X.warmed.alike.method?]; exact k2, k3⟩
theorem mq_St_into (hTT : mq_stable TT) (hst : mq_St cl TT Zs ks N G p s m args meth c) (X : Stand p l e R s m args below meth c T locs cells slots) (hS : va_S (fun q => G.2.2.2 ≤ q) s.heap T.heap locs) {mk : MethodId} {methk : Method} {ck : Code} (hk : mq_is Nj s mk methk ck) (g : JFrame) (a : Array Value) : mq_St cl TT Zs ks Nj G p (T.calling g mk a) mk a methk ck := by
  obtain ⟨hx, hN, hts, hK, hh0, hZs⟩ := hst
  have hal : s.vm.Alike (T.calling g mk a).vm := X.warmed.alike
  refine ⟨hx, mq_is_move X hk, fun w hw => hTT w hw args a s (T.calling g mk a) X.warmed (hts w hw), va_K.moved hal hK, ?_, fun a9 C n d hz => ?_⟩
  · obtain ⟨h0, s0, b1, b2, b3, b4⟩ := hh0
    refine ⟨Nat.le_trans h0 hS.1, s0, b1, b2, State.WarmedH.trans b3 X.warmed, fun q hq => ?_⟩
    exact (hS.2.1 q (Nat.lt_of_lt_of_le hq h0) (Nat.not_le.mpr hq)).trans (b4 q hq)
  refine ⟨fun h8 => (((hZs a9 C n d hz).1 h8).kept hS.2.1).moved hal, fun h8 => ?_⟩
  obtain ⟨v, hv, hz9⟩ := (hZs a9 C n d hz).2 h8
  exact ⟨v, hv, (hz9.kept hS.2.1).moved hal⟩
/-- behind a call that came back -/
theorem mq_back (X : Stand p l e R s m args below meth c T locs cells slots) (hS : va_S (fun q => G.2.2.2 ≤ q) s.heap T.heap locs) {pc : Nat} {ls : Array Slot} {rest : List Value} {ig : Instr} (hd : decode c.code pc = .ok (ig, 3)) {mk : MethodId} {a : Array Value} {mc ms : Nat} {v : Option Value} {S1 : mq_S} {t : State} (hf : mq_fin cl G (.java (F0 m pc ls rest) :: below) (T.calling (F0 m pc ls rest) mk a) mc ms (.inl v) S1 t) :
    ∃ (T' : State) (locs' : List Loc), Stand p l e R s m args below meth c T' locs' (cells + mc) (slots + ms) ∧ mq_ok cl G S1 s T'.heap ∧ va_S (fun q => G.2.2.2 ≤ q) s.heap T'.heap locs' ∧ t = T'.setTop (F0 m (pc + 3) ls ((v.map (mq_v (mq_f G))).toList ++ rest)) := by
  obtain ⟨f1, f2, f3, ⟨Lw, f4, f5⟩, f6, f7⟩ := hf
  obtain ⟨T', X', hW', -, ht⟩ := X.outOf (g := F0 m pc ls rest) rfl hd f2 f3 f4
  have hh : t.heap = T'.heap := by rw [ht]; simp [State.setTop, State.modifyTopJava, State.setFrames]
  refine ⟨T', locs ++ Lw, X', ?_, ?_, ht⟩
  · rw [← hh]
    exact f6.moved X.warmed.alike.symm
  · rw [← hh]
    refine ⟨Nat.le_trans hS.1 f7.1, fun q h1 h2 => ?_, fun q hq => ?_⟩
    · rw [f7.2 q (Nat.lt_of_lt_of_le h1 hS.1) h2]
      exact hS.2.1 q h1 h2
    · rcases List.mem_append.mp hq with h | h
      · exact hS.2.2 q h
      · exact f5 q h
/-- behind a call that threw -/
theorem mq_backT (X : Stand p l e R s m args below meth c T locs cells slots) (hS : va_S (fun q => G.2.2.2 ≤ q) s.heap T.heap locs) {pc : Nat} {ls : Array Slot} {rest : List Value} {mk : MethodId} {a : Array Value} {mc ms x : Nat} {S1 : mq_S} {t : State} (hf : mq_fin cl G (.java (F0 m pc ls rest) :: below) (T.calling (F0 m pc ls rest) mk a) mc ms (.inr x) S1 t) :
    ∃ (T' : State) (locs' : List Loc), Stand p l e R s m args below meth c T' locs' (cells + mc) (slots + ms) ∧ mq_ok cl G S1 s T'.heap ∧ va_S (fun q => G.2.2.2 ≤ q) s.heap T'.heap locs' ∧ t = (T'.setTop (F0 m pc ls rest)).pushFrame (.throwing (mq_f G x)) := by
  obtain ⟨f1, f2, f3, ⟨Lw, f4, f5⟩, f6, f7⟩ := hf
  obtain ⟨T', X', hW', -, ht⟩ := X.outOfThrown (g := F0 m pc ls rest) rfl f2 f3 f4
  have hh : t.heap = T'.heap := by rw [ht]; simp [State.pushFrame, State.setTop, State.modifyTopJava, State.setFrames]
  refine ⟨T', locs ++ Lw, X', ?_, ?_, ht⟩
  · rw [← hh]
    exact f6.moved X.warmed.alike.symm
  · rw [← hh]
    refine ⟨Nat.le_trans hS.1 f7.1, fun q h1 h2 => ?_, fun q hq => ?_⟩
    · rw [f7.2 q (Nat.lt_of_lt_of_le h1 hS.1) h2]
      exact hS.2.1 q h1 h2
    · rcases List.mem_append.mp hq with h | h
      · exact hS.2.2 q h
      · exact f5 q h
end MQX
