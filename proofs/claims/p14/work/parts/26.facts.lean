/-! What is known of an instruction of the program (facts about its bytes and the tables' words alone), and one step of the walk. -/
theorem mq_i_get {n ci k : Nat} {ns : List Nat} {L : mq_L} {st : List Value} {S : mq_S} {o : mq_O} (h : mq_o_get (n :: ci :: k :: ns) [] L st S = some o) : ∃ (a : Nat) (r : List Value) (v : Value), st = .ref a :: r ∧ (S.1 a).1 = ci ∧ (S.1 a).2[k]? = some v ∧ o = .inl (n, L, v :: r, S) := by
  unfold mq_o_get at h
  split at h
  next a r e1 =>
    cases e1
    by_cases hc : (S.1 a).1 = ci
    · rw [if_pos hc] at h
      split at h
      next v hv => cases h; exact ⟨_, _, v, rfl, hc, hv, rfl⟩
      · cases h
    · rw [if_neg hc] at h
      cases h
  · cases h
theorem mq_i_put {n ci k t : Nat} {ns : List Nat} {L : mq_L} {st : List Value} {S : mq_S} {o : mq_O} (h : mq_o_put (n :: ci :: k :: t :: ns) [] L st S = some o) : ∃ (v : Value) (a : Nat) (r : List Value), st = v :: .ref a :: r ∧ ((S.1 a).1 = ci ∧ k < (S.1 a).2.length ∧ mq_fit t v = true) ∧ o = .inl (n, L, r, (va_up S.1 a (ci, (S.1 a).2.set k v), S.2.1, S.2.2)) := by
  unfold mq_o_put at h
  split at h
  next e1 =>
    cases e1
    obtain ⟨hc, rfl⟩ := mq_if h
    exact ⟨_, _, _, rfl, hc, rfl⟩
  · cases h
theorem mq_i_newarr {n kind : Nat} {ns : List Nat} {L : mq_L} {st : List Value} {S : mq_S} {o : mq_O} (h : mq_o_newarr (n :: kind :: ns) [] L st S = some o) : ∃ (c : Int32) (r : List Value), st = .int c :: r ∧ ¬ (c < 0 ∨ 1000000 < c.toNatClampNeg) ∧ o = .inl (n, L, .ref S.2.1 :: r, (va_up S.1 S.2.1 (kind, List.replicate c.toNatClampNeg (mq_av kind)), S.2.1 + 1, S.2.2 + c.toNatClampNeg)) := by
  unfold mq_o_newarr at h
  split at h
  next e1 =>
    cases e1
    obtain ⟨hc, rfl⟩ := mq_if2_ h
    exact ⟨_, _, rfl, hc, rfl⟩
  · cases h
theorem mq_i_alen {n : Nat} {L : mq_L} {st : List Value} {S : mq_S} {o : mq_O} (h : mq_o_alen [n] [] L st S = some o) : ∃ (a : Nat) (r : List Value), st = .ref a :: r ∧ mq_isarr (S.1 a).1 = true ∧ o = .inl (n, L, .int (Int32.ofNat (S.1 a).2.length) :: r, S) := by
  unfold mq_o_alen at h
  split at h
  next e1 =>
    cases e1
    obtain ⟨hc, rfl⟩ := mq_if h
    exact ⟨_, _, rfl, hc, rfl⟩
  · cases h
theorem mq_i_ald {n kind : Nat} {L : mq_L} {st : List Value} {S : mq_S} {o : mq_O} (h : mq_o_ald [n, kind] [] L st S = some o) : ∃ (i : Int32) (a : Nat) (r : List Value) (v : Value), st = .int i :: .ref a :: r ∧ ((S.1 a).1 = kind ∨ (kind = 64 ∧ (S.1 a).1 = 60)) ∧ ¬ i < 0 ∧ (S.1 a).2[i.toNatClampNeg]? = some v ∧ mq_fit (if kind = 66 then 2 else if kind < 70 then 0 else 3) v = true ∧ o = .inl (n, L, v :: r, S) := by
  unfold mq_o_ald at h
  split at h
  next e1 =>
    cases e1
    rename_i i a r
    by_cases hc : ((S.1 a).1 = kind ∨ (kind = 64 ∧ (S.1 a).1 = 60)) ∧ ¬ i < 0
    · rw [if_pos hc] at h
      split at h
      next v hv =>
        obtain ⟨hf, rfl⟩ := mq_if h
        exact ⟨i, a, r, v, rfl, hc.1, hc.2, hv, hf, rfl⟩
      · cases h
    · rw [if_neg hc] at h
      cases h
  · cases h
theorem mq_i_ast {n kind : Nat} {L : mq_L} {st : List Value} {S : mq_S} {o : mq_O} (h : mq_o_ast [n, kind] [] L st S = some o) : ∃ (v : Value) (i : Int32) (a : Nat) (r : List Value), st = v :: .int i :: .ref a :: r ∧ ((S.1 a).1 = kind ∧ ¬ i < 0 ∧ i.toNatClampNeg < (S.1 a).2.length ∧ mq_fit (mq_ak kind) v = true ∧ (kind < 70 ∨ mq_rk S.1 kind v = true)) ∧ o = .inl (n, L, r, (va_up S.1 a (kind, (S.1 a).2.set i.toNatClampNeg v), S.2.1, S.2.2)) := by
  unfold mq_o_ast at h
  split at h
  next e1 =>
    cases e1
    obtain ⟨hc, rfl⟩ := mq_if h
    exact ⟨_, _, _, _, rfl, hc, rfl⟩
  · cases h
theorem mq_i_object {n : Nat} {ns : List Nat} {L : mq_L} {st : List Value} {S : mq_S} {o : mq_O} (h : mq_o_object (n :: ns) [] L st S = some o) : ∃ (a : Nat) (r : List Value), st = .ref a :: r ∧ mq_wt r ≤ 8 ∧ o = .inl (n, L, r, S) := by
  unfold mq_o_object at h
  split at h
  next e1 =>
    cases e1
    obtain ⟨hc, rfl⟩ := mq_if h
    exact ⟨_, _, rfl, hc, rfl⟩
  · cases h
theorem mq_i_min {n : Nat} {ns : List Nat} {L : mq_L} {st : List Value} {S : mq_S} {o : mq_O} (h : mq_o_min (n :: ns) [] L st S = some o) : ∃ (x y : Int32) (r : List Value), st = .int y :: .int x :: r ∧ mq_wt r ≤ 8 ∧ o = .inl (n, L, .int (if y < x then y else x) :: r, S) := by
  unfold mq_o_min at h
  split at h
  next e1 =>
    cases e1
    obtain ⟨hc, rfl⟩ := mq_if h
    exact ⟨_, _, _, rfl, hc, rfl⟩
  · cases h
theorem mq_i_copy {n : Nat} {ns : List Nat} {L : mq_L} {st : List Value} {S : mq_S} {o : mq_O} (h : mq_o_copy (n :: ns) [] L st S = some o) : ∃ (c dp : Int32) (b : Nat) (sp : Int32) (a : Nat) (r : List Value), st = .int c :: .int dp :: .ref b :: .int sp :: .ref a :: r ∧ (mq_wt r ≤ 8 ∧ (S.1 a).1 = 64 ∧ (S.1 b).1 = 64 ∧ ¬ c < 0 ∧ ¬ dp < 0 ∧ ¬ sp < 0 ∧ sp.toNatClampNeg + c.toNatClampNeg ≤ (S.1 a).2.length ∧ dp.toNatClampNeg + c.toNatClampNeg ≤ (S.1 b).2.length) ∧ o = .inl (n, L, r, (va_up S.1 b (64, mq_cpy (S.1 a).2 (S.1 b).2 sp.toNatClampNeg dp.toNatClampNeg c.toNatClampNeg), S.2.1, S.2.2)) := by
  unfold mq_o_copy at h
  split at h
  next e1 =>
    cases e1
    obtain ⟨hc, rfl⟩ := mq_if h
    exact ⟨_, _, _, _, _, _, rfl, hc, rfl⟩
  · cases h
theorem mq_fit_0 {v : Value} (h : mq_fit 0 v = true) : ∃ x, v = .int x := by
  unfold mq_fit at h
  split at h <;> first | exact ⟨_, rfl⟩ | (simp at *; done) | skip
  all_goals simp_all
theorem mq_fit_1 {v : Value} (h : mq_fit 1 v = true) : ∃ x : Int32, v = .int x ∧ (x = 0 ∨ x = 1) := by
  cases v <;> simp [mq_fit] at h
  exact ⟨_, rfl, h⟩
theorem mq_fit_2 {v : Value} (h : mq_fit 2 v = true) : ∃ x, v = .long x := by
  cases v <;> simp [mq_fit] at h
  exact ⟨_, rfl⟩
theorem mq_fit_3 {v : Value} (h : mq_fit 3 v = true) : ∃ x, v = .ref x := by
  cases v <;> simp [mq_fit] at h
  exact ⟨_, rfl⟩
def mq_ty (cl : List vw_C) (kind : Nat) : FieldType := if kind = 64 then .int else if kind = 65 then .boolean else if kind = 66 then .long else match cl[kind - 70]? with
  | some r => .object r.1
  | none => .int
def mq_tys (cl : List vw_C) (ks : List Nat) (G : mq_G) : List (ClassId × FieldType) := ks.map (fun k => (G.2.1 k, mq_ty cl k))
theorem mq_tys_at {cl : List vw_C} {ks : List Nat} {G : mq_G} {kind : Nat} (h : kind ∈ ks) : ∃ t0 : Nat, (mq_tys cl ks G)[t0]? = some (G.2.1 kind, mq_ty cl kind) := by
  obtain ⟨t0, ht⟩ := List.getElem?_of_mem h
  refine ⟨t0, ?_⟩
  unfold mq_tys
  rw [List.getElem?_map, ht]
  rfl
/-- a field's entry links, by the plain road or by the nest's -/
def mq_lk (TT : List Cond) (own : String) (index : Nat) (f : String × String × String × Bool) : Prop := Cond.fieldLink own index f.1 f.2.1 f.2.2.1 ∈ TT ∨ ∃ host, Cond.fieldLinkNest own index f.1 f.2.1 f.2.2.1 host ∈ TT
/-- the classes' words, names and types are in order -/
def mq_cls (cl : List vw_C) (TT : List Cond) : Prop := ∀ (ci : Nat) (r : vw_C), cl[ci]? = some r → (∀ w ∈ u_ws r.1 r.2.1 r.2.2, w ∈ TT) ∧ (∃ ty0 : Nat → FieldType, ∀ k, k < r.2.2 → parseFieldDescriptor (r.2.1 k).2.2.1 = some (ty0 k)) ∧ ∀ a, a < r.2.2 → ∀ b, b < r.2.2 → a ≠ b → (r.2.1 a).2.1 ≠ (r.2.1 b).2.1
/-- what is known of a plain step -/
def mq_fc (cl : List vw_C) (TT : List Cond) (Zs : List (Nat × String × String × String)) (ks : List Nat) (N : mq_Nm) (pc : Nat) (o : mq_P) : Prop :=
  (∃ i len, decode N.2.1 pc = .ok (i, len) ∧ mq_can pc i len = some o) ∨
  (∃ i len, decode N.2.1 pc = .ok (i, len) ∧ mq_csw pc i = some o) ∨
  (∃ index v, decode N.2.1 pc = .ok (.ldc index, 2) ∧ Cond.constant N.1.cls index (Int32.ofInt v) ∈ TT ∧ o = (0, [pc + 2], [v])) ∨
  (∃ index v, decode N.2.1 pc = .ok (.ldc2_w index, 3) ∧ Cond.constantLong N.1.cls index (Int64.ofInt v) ∈ TT ∧ o = (1, [pc + 3], [v])) ∨
  (∃ ci k r index ns, decode N.2.1 pc = .ok (.getfield index, 3) ∧ cl[ci]? = some r ∧ ci < 60 ∧ k < r.2.2 ∧ mq_lk TT N.1.cls index (r.2.1 k) ∧ o = (52, (pc + 3) :: ci :: k :: ns, [])) ∨
  (∃ ci k t r index ns ty, decode N.2.1 pc = .ok (.putfield index, 3) ∧ cl[ci]? = some r ∧ ci < 60 ∧ k < r.2.2 ∧ parseFieldDescriptor (r.2.1 k).2.2.1 = some ty ∧ mq_tk t ty = true ∧ (((r.2.1 k).2.2.2 = false ∧ mq_lk TT N.1.cls index (r.2.1 k)) ∨ ((r.2.1 k).2.2.2 = true ∧ N.1.name = "<init>" ∧ (r.2.1 k).1 = N.1.cls ∧ Cond.fieldLink N.1.cls index (r.2.1 k).1 (r.2.1 k).2.1 (r.2.1 k).2.2.1 ∈ TT)) ∧ o = (53, (pc + 3) :: ci :: k :: t :: ns, [])) ∨
  (∃ a C n d index ns, decode N.2.1 pc = .ok (.getstatic index, 3) ∧ (a, C, n, d) ∈ Zs ∧ a < 8 ∧ Cond.fieldLink N.1.cls index C n d ∈ TT ∧ o = (54, (pc + 3) :: a :: ns, [])) ∨
  (∃ ci r ts index w, decode N.2.1 pc = .ok (.new index, 3) ∧ cl[ci]? = some r ∧ ci < 60 ∧ ts.length = r.2.2 ∧ (∀ j, j < r.2.2 → ∃ ty, parseFieldDescriptor (r.2.1 j).2.2.1 = some ty ∧ defaultValue ty = vp_V (ts.map mq_dv) j) ∧ Cond.classLink N.1.cls index r.1 ∈ TT ∧ Cond.instantiable r.1 r.2.2 ∈ TT ∧ Cond.initialized r.1 ∈ TT ∧ o = (55, (pc + 3) :: ci :: w :: ts, [])) ∨
  (∃ at_ ns, decode N.2.1 pc = .ok (.newarray at_, 2) ∧ (at_ = .int ∨ at_ = .boolean ∨ at_ = .long) ∧ mq_kd at_ ∈ ks ∧ Cond.arrayClass (newarray.typeOf at_) ∈ TT ∧ o = (56, (pc + 2) :: mq_kd at_ :: ns, [])) ∨
  (∃ ci r index ns, decode N.2.1 pc = .ok (.anewarray index, 3) ∧ cl[ci]? = some r ∧ ci < 60 ∧ 70 + ci ∈ ks ∧ Cond.classLink N.1.cls index r.1 ∈ TT ∧ Cond.arrayOver (.object r.1) ∈ TT ∧ o = (56, (pc + 3) :: (70 + ci) :: ns, [])) ∨
  (decode N.2.1 pc = .ok (.arraylength, 1) ∧ 64 ∈ ks ∧ 65 ∈ ks ∧ 66 ∈ ks ∧ o = (57, [pc + 1], [])) ∨
  (decode N.2.1 pc = .ok (.iaload, 1) ∧ 64 ∈ ks ∧ o = (58, [pc + 1, 64], [])) ∨
  (decode N.2.1 pc = .ok (.baload, 1) ∧ 65 ∈ ks ∧ o = (58, [pc + 1, 65], [])) ∨
  (decode N.2.1 pc = .ok (.laload, 1) ∧ 66 ∈ ks ∧ o = (58, [pc + 1, 66], [])) ∨
  (∃ ci r, decode N.2.1 pc = .ok (.aaload, 1) ∧ cl[ci]? = some r ∧ ci < 60 ∧ 70 + ci ∈ ks ∧ o = (58, [pc + 1, 70 + ci], [])) ∨
  (decode N.2.1 pc = .ok (.iastore, 1) ∧ 64 ∈ ks ∧ o = (59, [pc + 1, 64], [])) ∨
  (decode N.2.1 pc = .ok (.bastore, 1) ∧ 65 ∈ ks ∧ o = (59, [pc + 1, 65], [])) ∨
  (decode N.2.1 pc = .ok (.lastore, 1) ∧ 66 ∈ ks ∧ o = (59, [pc + 1, 66], [])) ∨
  (∃ ci r, decode N.2.1 pc = .ok (.aastore, 1) ∧ cl[ci]? = some r ∧ ci < 60 ∧ 70 + ci ∈ ks ∧ o = (59, [pc + 1, 70 + ci], [])) ∨
  (∃ index ns, decode N.2.1 pc = .ok (.invokespecial index, 3) ∧ Cond.methodLink N.1.cls index Lib.objectInit ∈ TT ∧ Cond.instanceMethod Lib.objectInit ∈ TT ∧ Cond.code Lib.objectInit ⟨#[0xb1]⟩ 1 none ∈ TT ∧ o = (62, (pc + 3) :: ns, [])) ∨
  (∃ index ns, decode N.2.1 pc = .ok (.invokestatic index, 3) ∧ Cond.methodLink N.1.cls index Lib.Math.min.name ∈ TT ∧ Cond.static Lib.Math.min.name ∈ TT ∧ Cond.initialized "java/lang/Math" ∈ TT ∧ Cond.code Lib.Math.min.name Lib.Math.min.code 2 (some .int) ∈ TT ∧ o = (63, (pc + 3) :: ns, [])) ∨
  (∃ index ns, decode N.2.1 pc = .ok (.invokestatic index, 3) ∧ Cond.methodLink N.1.cls index arraycopyName ∈ TT ∧ Cond.native arraycopyName ∈ TT ∧ Cond.static arraycopyName ∈ TT ∧ Cond.initialized "java/lang/System" ∈ TT ∧ 64 ∈ ks ∧ o = (65, (pc + 3) :: ns, []))
/-- words that look at static cells: they held at the start, and nobody has written there since -/
def mq_HW : List Cond := [.laysStatic Bundle.tN "UNASSIGNED_STACK" Bundle.steD, .laysStatic Bundle.tN "SUPPRESSED_SENTINEL" Bundle.listD, .isRef (.static Bundle.tN "UNASSIGNED_STACK" Bundle.steD), .isRef (.static Bundle.tN "SUPPRESSED_SENTINEL" Bundle.listD)]
def mq_bs (G : mq_G) (s : State) : Prop := G.2.2.2 ≤ s.heap.size ∧ ∃ s0 : State, (∀ w ∈ mq_HW, ∀ args : Array Value, w.before args s0 = true) ∧ s0.heap.size = G.2.2.2 ∧ s0.WarmedH s.vm ∧ ∀ q : Nat, q < G.2.2.2 → s.heap[q]? = s0.heap[q]?
/-- what holds through an invocation of the method N -/
def mq_St (cl : List vw_C) (TT : List Cond) (Zs : List (Nat × String × String × String)) (ks : List Nat) (N : mq_Nm) (G : mq_G) (p : Program) (s : State) (m : MethodId) (args : Array Value) (meth : Method) (c : Code) : Prop :=
  p.tables.exec = Jvm.exec ∧ mq_is N s m meth c ∧ (∀ w ∈ TT, w.before args s = true) ∧ va_K G.1 cl (mq_tys cl ks G) s ∧ mq_bs G s ∧ ∀ a C n d, (a, C, n, d) ∈ Zs → (a < 8 → va_Z C n d (.ref (G.2.2.1 a)) (fun q => G.2.2.2 ≤ q) s s.heap) ∧ (8 ≤ a → ∃ v : Value, v.isRef = true ∧ va_Z C n d v (fun q => G.2.2.2 ≤ q) s s.heap)
section MQS
variable {p : Program} {l : Launch} {e : Env} {R : Room} {s : State} {m : MethodId} {args : Array Value} {below : List Frame} {meth : Method} {c : Code} {H : Heap} {locs : List Loc} {cells slots : Nat} {Q : State → Prop}
set_option maxHeartbeats 4000000 in
theorem mq_stepW {cl : List vw_C} {TT : List Cond} {Zs : List (Nat × String × String × String)} {ks : List Nat} {N : mq_Nm} {G : mq_G} (hcls : mq_cls cl TT) (hst : mq_St cl TT Zs ks N G p s m args meth c) {S S' : mq_S} (hok : mq_ok cl G S s H) (hS : va_S (fun q => G.2.2.2 ≤ q) s.heap H locs) {L L' : mq_L} {ls : Array Slot} (hl : mq_lr (mq_f G) L ls) (hln : L.length = N.2.2.1) {pc n : Nat} {o : mq_P} (hf : mq_fc cl TT Zs ks N pc o) {st st' : List Value} (he : mq_ex o L st S = some (.inl (n, L', st', S')))
    (hR1 : cells + (S'.2.1 - S.2.1) ≤ R.cells) (hR2 : slots + (S'.2.2 - S.2.2) ≤ R.slots) (hR3 : 2 ≤ R.frames) (hR4 : 8 + (nativeFrameWords "java/lang/System" "arraycopy" 5 + 11) + 60 ≤ R.locals)
    (kk : ∀ (H1 : Heap) (locs1 : List Loc) (ls1 : Array Slot), mq_ok cl G S' s H1 → va_S (fun q => G.2.2.2 ≤ q) s.heap H1 locs1 → mq_lr (mq_f G) L' ls1 → W p l e R s m args below meth c H1 locs1 (cells + (S'.2.1 - S.2.1)) (slots + (S'.2.2 - S.2.2)) Q (F0 m n ls1 (st'.map (mq_v (mq_f G))))) :
    W p l e R s m args below meth c H locs cells slots Q (F0 m pc ls (st.map (mq_v (mq_f G)))) := by
  obtain ⟨hx, hN, hts, hK, hh0, hZs⟩ := hst
  obtain ⟨hn1, hn2, hn3, hb, hml, hret, hlocks, hhd, hsig⟩ := hN
  have hown : s.vm.findClass N.1.cls = some m.cls := findClass_of_methodNamed hn1
  have hnm : meth.name = N.1.name := (name_of_methodNamed hn1 hn2).1
  obtain ⟨M, z, u⟩ := S
  have lk : ∀ {index : Nat} {f : String × String × String × Bool}, mq_lk TT N.1.cls index f → (Cond.fieldLink N.1.cls index f.1 f.2.1 f.2.2.1).before args s = true ∨ ∃ host, (Cond.fieldLinkNest N.1.cls index f.1 f.2.1 f.2.2.1 host).before args s = true := by
    intro index f h
    rcases h with h | ⟨host, h⟩
    · exact Or.inl (hts _ h)
    · exact Or.inr ⟨host, hts _ h⟩
  have kk0 : ∀ (ls1 : Array Slot), S' = (M, z, u) → mq_lr (mq_f G) L' ls1 → W p l e R s m args below meth c H locs cells slots Q (F0 m n ls1 (st'.map (mq_v (mq_f G)))) := by
    intro ls1 hS' hl1
    subst hS'
    have := kk H locs ls1 hok hS hl1
    simpa using this
  rcases hf with ⟨i, len, hd, hc⟩ | ⟨i, len, hd, hc⟩ | ⟨index, v, hd, hw, rfl⟩ | ⟨index, v, hd, hw, rfl⟩ | ⟨ci, k, r, index, ns, hd, hc, h60, hk, hlk, rfl⟩ | ⟨ci, k, t, r, index, ns, ty, hd, hc, h60, hk, hty, htk, hlk, rfl⟩ | ⟨a, C, nm, d, index, ns, hd, hz, ha, hw, rfl⟩ | ⟨ci, r, ts, index, w9, hd, hc, h60, hlen, hdf, hw1, hw2, hw3, rfl⟩ | ⟨at_, ns, hd, hat, hks, hw, rfl⟩ | ⟨ci, r, index, ns, hd, hc, h60, hks, hw1, hw2, rfl⟩ | ⟨hd, hk64, hk65, hk66, rfl⟩ | ⟨hd, hks, rfl⟩ | ⟨hd, hks, rfl⟩ | ⟨hd, hks, rfl⟩ | ⟨ci, r, hd, hc, h60, hks, rfl⟩ | ⟨hd, hks, rfl⟩ | ⟨hd, hks, rfl⟩ | ⟨hd, hks, rfl⟩ | ⟨ci, r, hd, hc, h60, hks, rfl⟩ | ⟨index, ns, hd, hw1, hw2, hw3, rfl⟩ | ⟨index, ns, hd, hw1, hw2, hw3, hw4, rfl⟩ | ⟨index, ns, hd, hw1, hw2, hw3, hw4, hks, rfl⟩
  · exact mq_plain hx hb hd hc he hl kk0
  · exact mq_w_switch hx hb hd hc he (fun h1 h2 => kk0 ls h1 (by rw [h2]; exact hl))
  · cases he
    exact lv_ldc hx hb hown (hts _ hw) hd (kk0 ls rfl hl)
  · cases he
    exact lv_ldc2 hx hb hown (hts _ hw) hd (kk0 ls rfl hl)
  · obtain ⟨a, r9, v, rfl, h1, h2, h3⟩ := mq_i_get he
    cases h3
    obtain ⟨C, T, n9⟩ := r
    exact mq_w_get hx hb hts hown hK hok (hcls ci _ hc).1 hc h60 (fs := (M a).2) (by rw [← h1]) hk h2 (lk hlk) hd (kk0 ls rfl hl)
  · obtain ⟨v, a, r9, rfl, ⟨h1, h2, h3⟩, h4⟩ := mq_i_put he
    cases h4
    obtain ⟨C, T, n9⟩ := r
    obtain ⟨g1, ⟨ty0, g2⟩, g3⟩ := hcls ci _ hc
    refine mq_w_put hx hb hts hown hK hok hS g1 ty0 g2 g3 hc h60 (fs := (M a).2) (by rw [← h1]) hk h2 hty htk h3 ?_ hd (fun H1 locs1 ok1 S1 => ?_)
    · rcases hlk with ⟨q1, q2⟩ | ⟨q1, q2, q3, q4⟩
      · exact Or.inl ⟨q1, lk q2⟩
      · exact Or.inr ⟨q1, by rw [hnm]; exact q2, q3, hts _ q4⟩
    · have := kk H1 locs1 ls ok1 S1 hl
      simpa using this
  · cases he
    have e9 : mq_f G a = G.2.2.1 a := by unfold mq_f; rw [if_pos ha]
    have := kk0 ls rfl hl
    rw [List.map_cons] at this
    have e8 : mq_v (mq_f G) (.ref a) = .ref (G.2.2.1 a) := by show Value.ref (mq_f G a) = _; rw [e9]
    rw [e8] at this
    exact va_gets hx hb ((hZs a C nm d hz).1 ha) hS hown (hts _ hw) (fun _ h => h) hd this
  · cases he
    obtain ⟨C, T, n9⟩ := r
    obtain ⟨g1, ⟨ty0, g2⟩, g3⟩ := hcls ci _ hc
    have hcl1 : cells + 1 ≤ R.cells := by
      have : cells + (z + 1 - z) ≤ R.cells := hR1
      omega
    have hsl1 : slots + ts.length ≤ R.slots := by
      have : slots + (u + ts.length - u) ≤ R.slots := hR2
      omega
    refine mq_w_new hx hb hts hown hK hok hS g1 ty0 g2 hc h60 hlen (fun j hj => ?_) (hts _ hw1) (hts _ hw2) (hts _ hw3) hcl1 hsl1 hd (fun H1 ok1 S1 => ?_)
    · obtain ⟨ty, q1, q2⟩ := hdf j hj
      cases (g2 j hj).symm.trans q1
      exact q2
    · have := kk H1 locs ls ok1 S1 hl
      have e1 : z + 1 - z = 1 := by omega
      have e2 : u + ts.length - u = ts.length := by omega
      simp only [e1, e2] at this
      exact this
  · obtain ⟨c9, r9, rfl, h1, h2⟩ := mq_i_newarr he
    cases h2
    obtain ⟨t0, ht0⟩ := mq_tys_at (cl := cl) (G := G) hks
    have hty : mq_ty cl (mq_kd at_) = newarray.typeOf at_ := by rcases hat with rfl | rfl | rfl <;> rfl
    rw [hty] at ht0
    have hcl1 : cells + 1 ≤ R.cells := by
      have : cells + (z + 1 - z) ≤ R.cells := hR1
      omega
    have hsl1 : slots + c9.toNatClampNeg ≤ R.slots := by
      have : slots + (u + c9.toNatClampNeg - u) ≤ R.slots := hR2
      omega
    refine mq_w_newarr hx hb hK hok hS hat ht0 (hts _ hw) h1 hcl1 hsl1 hd (fun H1 ok1 S1 => ?_)
    have := kk H1 locs ls ok1 S1 hl
    have e1 : z + 1 - z = 1 := by omega
    have e2 : u + c9.toNatClampNeg - u = c9.toNatClampNeg := by omega
    simp only [e1, e2] at this
    exact this
  · obtain ⟨c9, r9, rfl, h1, h2⟩ := mq_i_newarr he
    have hav : mq_av (70 + ci) = .null := by unfold mq_av; rw [if_neg (by omega), if_neg (by omega)]
    rw [hav] at h2
    cases h2
    obtain ⟨t0, ht0⟩ := mq_tys_at (cl := cl) (G := G) hks
    have hty : mq_ty cl (70 + ci) = .object r.1 := by
      unfold mq_ty
      rw [if_neg (by omega), if_neg (by omega), if_neg (by omega), show 70 + ci - 70 = ci by omega, hc]
    rw [hty] at ht0
    have hcl1 : cells + 1 ≤ R.cells := by
      have : cells + (z + 1 - z) ≤ R.cells := hR1
      omega
    have hsl1 : slots + c9.toNatClampNeg ≤ R.slots := by
      have : slots + (u + c9.toNatClampNeg - u) ≤ R.slots := hR2
      omega
    refine mq_w_anew hx hb hown hK hok hS hc h60 ht0 (hts _ hw1) (va_AO.of (hts _ hw2)) h1 hcl1 hsl1 hd (fun H1 ok1 S1 => ?_)
    have := kk H1 locs ls ok1 S1 hl
    have e1 : z + 1 - z = 1 := by omega
    have e2 : u + c9.toNatClampNeg - u = c9.toNatClampNeg := by omega
    simp only [e1, e2] at this
    exact this
  · obtain ⟨a, r9, rfl, hk, h2⟩ := mq_i_alen he
    cases h2
    have hk' : ((M a).1 = 60 ∨ (M a).1 = 64 ∨ (M a).1 = 65 ∨ (M a).1 = 66) := of_decide_eq_true hk
    have ht : ∃ (t0 : Nat) (ty : FieldType), (M a).1 = 60 ∨ (mq_tys cl ks G)[t0]? = some (G.2.1 (M a).1, ty) := by
      rcases hk' with q | q | q | q
      · exact ⟨0, .int, Or.inl q⟩
      · obtain ⟨t0, ht0⟩ := mq_tys_at (cl := cl) (G := G) hk64
        exact ⟨t0, _, Or.inr (by rw [q]; exact ht0)⟩
      · obtain ⟨t0, ht0⟩ := mq_tys_at (cl := cl) (G := G) hk65
        exact ⟨t0, _, Or.inr (by rw [q]; exact ht0)⟩
      · obtain ⟨t0, ht0⟩ := mq_tys_at (cl := cl) (G := G) hk66
        exact ⟨t0, _, Or.inr (by rw [q]; exact ht0)⟩
    obtain ⟨t0, ty, ht⟩ := ht
    exact mq_w_alen hx hb hK hok ht hk (vs := (M a).2) rfl hd (kk0 ls rfl hl)
  · obtain ⟨i, a, r9, v, rfl, h1, h0, hv, hfit, h3⟩ := mq_i_ald he
    cases h3
    obtain ⟨x, rfl⟩ := mq_fit_0 (v := v) hfit
    obtain ⟨t0, ht0⟩ := mq_tys_at (cl := cl) (G := G) hks
    rcases h1 with h1 | ⟨-, h1⟩
    · exact mq_w_iald hx hb hK hok ht0 (vs := (M a).2) (by rw [← h1]) h0 hv hd (kk0 ls rfl hl)
    · exact mq_w_iald0 hx hb hok (vs := (M a).2) (by rw [← h1]) h0 hv hd (kk0 ls rfl hl)
  · obtain ⟨i, a, r9, v, rfl, h1, h0, hv, hfit, h3⟩ := mq_i_ald he
    cases h3
    obtain ⟨x, rfl⟩ := mq_fit_0 (v := v) hfit
    obtain ⟨t0, ht0⟩ := mq_tys_at (cl := cl) (G := G) hks
    rcases h1 with h1 | ⟨h9, h1⟩
    · exact mq_w_zald hx hb hK hok ht0 (vs := (M a).2) (by rw [← h1]) h0 hv hd (kk0 ls rfl hl)
    · exact absurd h9 (by decide)
  · obtain ⟨i, a, r9, v, rfl, h1, h0, hv, hfit, h3⟩ := mq_i_ald he
    cases h3
    obtain ⟨x, rfl⟩ := mq_fit_2 (v := v) hfit
    obtain ⟨t0, ht0⟩ := mq_tys_at (cl := cl) (G := G) hks
    rcases h1 with h1 | ⟨h9, h1⟩
    · exact mq_w_lald hx hb hK hok ht0 (vs := (M a).2) (by rw [← h1]) h0 hv hd (kk0 ls rfl hl)
    · exact absurd h9 (by decide)
  · obtain ⟨i, a, r9, v, rfl, h1, h0, hv, hfit, h3⟩ := mq_i_ald he
    cases h3
    rw [if_neg (by omega), if_neg (by omega)] at hfit
    obtain ⟨x, rfl⟩ := mq_fit_3 (v := v) hfit
    obtain ⟨t0, ht0⟩ := mq_tys_at (cl := cl) (G := G) hks
    have hty : mq_ty cl (70 + ci) = .object r.1 := by
      unfold mq_ty
      rw [if_neg (by omega), if_neg (by omega), if_neg (by omega), show 70 + ci - 70 = ci by omega, hc]
    rw [hty] at ht0
    rcases h1 with h1 | ⟨h9, h1⟩
    · exact mq_w_aald hx hb hK hok ht0 (by omega) (by omega) (vs := (M a).2) (by rw [← h1]) h0 hv hd (kk0 ls rfl hl)
    · exact absurd h9 (by omega)
  · obtain ⟨v, i, a, r9, rfl, ⟨h1, h0, hl9, hfit, -⟩, h3⟩ := mq_i_ast he
    cases h3
    obtain ⟨x, rfl⟩ := mq_fit_0 (v := v) hfit
    obtain ⟨t0, ht0⟩ := mq_tys_at (cl := cl) (G := G) hks
    refine mq_w_iast hx hb hK hok hS ht0 (vs := (M a).2) (by rw [← h1]) h0 hl9 hd (fun H1 locs1 ok1 S1 => ?_)
    have := kk H1 locs1 ls ok1 S1 hl
    simpa using this
  · obtain ⟨v, i, a, r9, rfl, ⟨h1, h0, hl9, hfit, -⟩, h3⟩ := mq_i_ast he
    cases h3
    obtain ⟨x, rfl, h01⟩ := mq_fit_1 (v := v) hfit
    obtain ⟨t0, ht0⟩ := mq_tys_at (cl := cl) (G := G) hks
    refine mq_w_zast hx hb hK hok hS ht0 (vs := (M a).2) (by rw [← h1]) h0 hl9 (by rcases h01 with rfl | rfl <;> decide) hd (fun H1 locs1 ok1 S1 => ?_)
    have := kk H1 locs1 ls ok1 S1 hl
    simpa using this
  · obtain ⟨v, i, a, r9, rfl, ⟨h1, h0, hl9, hfit, -⟩, h3⟩ := mq_i_ast he
    cases h3
    obtain ⟨x, rfl⟩ := mq_fit_2 (v := v) hfit
    obtain ⟨t0, ht0⟩ := mq_tys_at (cl := cl) (G := G) hks
    refine mq_w_last hx hb hK hok hS ht0 (vs := (M a).2) (by rw [← h1]) h0 hl9 hd (fun H1 locs1 ok1 S1 => ?_)
    have := kk H1 locs1 ls ok1 S1 hl
    simpa using this
  · obtain ⟨v, i, a, r9, rfl, ⟨h1, h0, hl9, hfit, hrk⟩, h3⟩ := mq_i_ast he
    have hak : mq_ak (70 + ci) = 3 := by unfold mq_ak; rw [if_neg (by omega), if_neg (by omega), if_neg (by omega)]
    rw [hak] at hfit
    obtain ⟨x, rfl⟩ := mq_fit_3 (v := v) hfit
    cases h3
    have hx9 : (M x).1 = ci := by
      rcases hrk with q | q
      · omega
      · have := of_decide_eq_true q
        have : (M x).1 + 70 = 70 + ci := this
        omega
    obtain ⟨t0, ht0⟩ := mq_tys_at (cl := cl) (G := G) hks
    have hty : mq_ty cl (70 + ci) = .object r.1 := by
      unfold mq_ty
      rw [if_neg (by omega), if_neg (by omega), if_neg (by omega), show 70 + ci - 70 = ci by omega, hc]
    rw [hty] at ht0
    refine mq_w_aast hx hb hK hok hS hc h60 ht0 (vs := (M a).2) (by rw [← h1]) (fs := (M x).2) (by rw [← hx9]) h0 hl9 hd (fun H1 locs1 ok1 S1 => ?_)
    have := kk H1 locs1 ls ok1 S1 hl
    simpa using this
  · obtain ⟨a, r9, rfl, hw, h2⟩ := mq_i_object he
    cases h2
    refine W.objInit hx hb hown (hts _ hw1) (hts _ hw2) (hts _ hw3) rfl (by rw [hml, ← hln]; exact hl.1) rfl hd (by omega) ?_ (kk0 ls rfl hl)
    show 2 * 0 + _ + 12 ≤ _
    rw [mq_v_wt]
    omega
  · obtain ⟨x, y, r9, rfl, hw, h2⟩ := mq_i_min he
    cases h2
    refine va_mmin hx hb (by rw [hml, ← hln]; exact hl.1.symm) hown (hts _ hw1) (hts _ hw2) (hts _ hw3) (hts _ hw4) (by omega) ?_ (by omega) (by omega) hd (kk0 ls rfl hl)
    rw [mq_v_wt]
    omega
  · obtain ⟨c9, dp, b, sp, a, r9, rfl, ⟨g0, g1, g2, g3, g4, g5, g6, g7⟩, h2⟩ := mq_i_copy he
    cases h2
    obtain ⟨t0, ht0⟩ := mq_tys_at (cl := cl) (G := G) hks
    refine mq_w_copy hx hb (by rw [hml, ← hln]; exact hl.1.symm) hown hK hok hS (hts _ hw1) (hts _ hw2) (hts _ hw3) (hts _ hw4) ht0 (f := (M a).2) (g := (M b).2) (by rw [← g1]) (by rw [← g2]) g5 g4 g3 g6 g7 (by omega) ?_ hd (fun H1 locs1 ok1 S1 => ?_)
    · rw [mq_v_wt]
      omega
    · have := kk H1 locs1 ls ok1 S1 hl
      simpa using this
end MQS
