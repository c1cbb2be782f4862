/-! The induction. -/
theorem mq_nfw : nativeFrameWords "java/lang/System" "arraycopy" 5 ≤ 200 := by decide +kernel
def mq_tag (x : mq_O) : Nat := match x with
  | .inl _ => 0
  | .inr (.inl _) => 1
  | .inr (.inr (.inl _)) => 2
  | .inr (.inr (.inr _)) => 3
set_option maxHeartbeats 4000000 in
theorem mq_tag_ok : ∀ q ∈ mq_ops.zip mq_tg, ∀ (ns : List Nat) (cs : List Int) (L : mq_L) (st : List Value) (S : mq_S) (x : mq_O), q.1 ns cs L st S = some x → q.2 = mq_tag x := by
  intro q hq
  unfold mq_ops mq_tg at hq
  simp only [List.zip_cons_cons, List.zip_nil_left, List.zip_nil_right, List.mem_cons, List.not_mem_nil, or_false] at hq
  repeat' (rcases hq with hq | hq)
  all_goals
    intro ns cs L st S x h
    simp only [mq_o_iconst, mq_o_lconst, mq_o_iload, mq_o_lload, mq_o_aload, mq_o_istore, mq_o_lstore, mq_o_astore, mq_o_iinc, mq_bi, mq_bd, mq_bl, mq_sl, mq_ui, mq_ul, mq_o_lcmp, mq_o_dup, mq_o_pop, mq_o_dup_x1, mq_o_dup_x2, mq_o_dup2, mq_if1, mq_if2, mq_o_goto, mq_o_switch, mq_o_get, mq_o_put, mq_o_gets, mq_o_new, mq_o_newarr, mq_o_alen, mq_o_ald, mq_o_ast, mq_o_static, mq_o_virtual, mq_o_object, mq_o_min, mq_o_max, mq_o_copy, mq_o_ret, mq_o_retv, mq_o_throw] at h
    repeat' (split at h)
    all_goals first
      | (cases h; done)
      | (cases h; exact rfl)
theorem mq_ex_tag {o : mq_P} {L : mq_L} {st : List Value} {S : mq_S} {x : mq_O} (h : mq_ex o L st S = some x) : mq_tg[o.1]? = some (mq_tag x) := by
  unfold mq_ex at h
  split at h
  next f hf =>
    have hi : o.1 < mq_ops.length := (List.getElem?_eq_some_iff.mp hf).1
    have hi2 : o.1 < mq_tg.length := hi
    have ht : mq_tg[o.1]? = some mq_tg[o.1] := List.getElem?_eq_getElem hi2
    have hz : (mq_ops.zip mq_tg)[o.1]? = some (f, mq_tg[o.1]) := by
      rw [List.getElem?_zip_eq_some]
      exact ⟨hf, ht⟩
    rw [ht]
    exact congrArg some (mq_tag_ok _ (List.mem_of_getElem? hz) _ _ _ _ _ _ h)
  · cases h
theorem mq_can_tag {pc len : Nat} {i : Instr} {o : mq_P} (h : mq_can pc i len = some o) : mq_tg[o.1]? = some 0 := by
  unfold mq_can at h
  split at h
  all_goals first
    | (cases h; done)
    | (obtain ⟨-, rfl⟩ := mq_if h; rfl)
theorem mq_csw_tag {pc : Nat} {i : Instr} {o : mq_P} (h : mq_csw pc i = some o) : mq_tg[o.1]? = some 0 := by
  unfold mq_csw at h
  split at h
  · obtain ⟨-, rfl⟩ := mq_if h; rfl
  · obtain ⟨-, rfl⟩ := mq_if h; rfl
  · cases h
theorem mq_fc_tag {cl : List vw_C} {TT : List Cond} {Zs : List (Nat × String × String × String)} {ks : List Nat} {N : mq_Nm} {pc : Nat} {o : mq_P} (hf : mq_fc cl TT Zs ks N pc o) : mq_tg[o.1]? = some 0 := by
  rcases hf with ⟨i, len, hd, hc⟩ | ⟨i, len, hd, hc⟩ | ⟨index, v, hd, hw, rfl⟩ | ⟨index, v, hd, hw, rfl⟩ | ⟨ci, k, r, index, ns, hd, hc, h60, hk, hlk, rfl⟩ | ⟨ci, k, t, r, index, ns, ty, hd, hc, h60, hk, hty, htk, hlk, rfl⟩ | ⟨a, C, nm, d, index, ns, hd, hz, ha, hw, rfl⟩ | ⟨ci, r, ts, index, w9, hd, hc, h60, hlen, hdf, hw1, hw2, hw3, rfl⟩ | ⟨at_, ns, hd, hat, hks, hw, rfl⟩ | ⟨ci, r, index, ns, hd, hc, h60, hks, hw1, hw2, rfl⟩ | ⟨hd, hk64, hk65, hk66, rfl⟩ | ⟨hd, hks, rfl⟩ | ⟨hd, hks, rfl⟩ | ⟨hd, hks, rfl⟩ | ⟨ci, r, hd, hc, h60, hks, rfl⟩ | ⟨hd, hks, rfl⟩ | ⟨hd, hks, rfl⟩ | ⟨hd, hks, rfl⟩ | ⟨ci, r, hd, hc, h60, hks, rfl⟩ | ⟨index, ns, hd, hw1, hw2, hw3, rfl⟩ | ⟨index, ns, hd, hw1, hw2, hw3, hw4, rfl⟩ | ⟨index, ns, hd, hw1, hw2, hw3, hw4, hks, rfl⟩
  · exact mq_can_tag hc
  · exact mq_csw_tag hc
  all_goals rfl
theorem mq_fcall_tag {cl : List vw_C} {TT : List Cond} {Nms : List mq_Nm} {N : mq_Nm} {pc : Nat} {o : mq_P} (hf : mq_fcall cl TT Nms N pc o) : mq_tg[o.1]? = some 3 := by
  rcases hf with ⟨j, Nj, index, n, ns, -, -, -, -, -, -, -, rfl⟩ | ⟨j, Nj, index, n, ci, r, ns, -, -, -, -, -, -, -, -, -, rfl⟩ | ⟨j, Nj, index, n, ci, ns, -, -, -, -, -, -, -, -, -, rfl⟩ <;> rfl
theorem mq_fret_tag {N : mq_Nm} {pc : Nat} {o : mq_P} (hf : mq_fret N pc o) : mq_tg[o.1]? = some 1 := by
  rcases hf with ⟨-, -, rfl⟩ | ⟨-, -, rfl⟩ | ⟨-, -, rfl⟩ | ⟨-, -, rfl⟩ | ⟨-, -, rfl⟩ <;> rfl
theorem mq_i_static {n j c mx : Nat} {ns : List Nat} {L : mq_L} {st : List Value} {S : mq_S} {o : mq_O} (h : mq_o_static (n :: j :: c :: mx :: ns) [] L st S = some o) : (c ≤ st.length ∧ mq_wt (st.drop c) ≤ 8 ∧ (mq_sp (st.take c).reverse).length ≤ mx) ∧ o = .inr (.inr (.inr (j, (st.take c).reverse, n, L, st.drop c, S))) := by
  unfold mq_o_static at h
  obtain ⟨h1, h2⟩ := mq_if h
  exact ⟨h1, h2.symm⟩
theorem mq_i_virtual {n j c ci mx : Nat} {ns : List Nat} {L : mq_L} {st : List Value} {S : mq_S} {o : mq_O} (h : mq_o_virtual (n :: j :: c :: ci :: mx :: ns) [] L st S = some o) : ∃ (b : Nat) (r : List Value), st.drop c = .ref b :: r ∧ ((S.1 b).1 = ci ∧ mq_wt r ≤ 8 ∧ (mq_sp (.ref b :: (st.take c).reverse)).length ≤ mx) ∧ o = .inr (.inr (.inr (j, .ref b :: (st.take c).reverse, n, L, r, S))) := by
  unfold mq_o_virtual at h
  simp only at h
  split at h
  next b r hb =>
    obtain ⟨h1, h2⟩ := mq_if h
    exact ⟨b, r, hb, h1, h2.symm⟩
  · cases h
set_option maxRecDepth 20000 in
theorem mq_room_ar {d x y r : Nat} (h1 : x ≤ 8) (h2 : y ≤ 40) (h3 : 64 * (d + 1) + 300 ≤ r) : 2 * 0 + x + (y + 11) + (64 * d + 300) ≤ r := by
  have e : 64 * (d + 1) = 64 * d + 64 := Nat.mul_succ 64 d
  rw [e] at h3
  generalize 64 * d = w at h3 ⊢
  omega
section MQI
variable {p : Program} {l : Launch} {cl : List vw_C} {TT : List Cond} {Zs : List (Nat × String × String × String)} {ks : List Nat} {G : mq_G} {P : List mq_T} {Nms : List mq_Nm}
/-- the walk from a place of the method k -/
def mq_J (p : Program) (l : Launch) (cl : List vw_C) (TT : List Cond) (Zs : List (Nat × String × String × String)) (ks : List Nat) (G : mq_G) (P : List mq_T) (Nms : List mq_Nm) (n : Nat) : Prop :=
  ∀ (d k pc : Nat) (L : mq_L) (st : List Value) (S : mq_S) (r : Option Value ⊕ Nat) (S' : mq_S), mq_run P n d k pc L st S = some (r, S') → ∀ (t : mq_T) (N : mq_Nm), P[k]? = some t → Nms[k]? = some N → L.length = t.1 →
    ∀ (e : Env) (R : Room) (s : State) (m : MethodId) (args : Array Value) (below : List Frame) (meth : Method) (c : Code) (H : Heap) (locs : List Loc) (cells slots : Nat) (ls : Array Slot), mq_St cl TT Zs ks N G p s m args meth c → mq_ok cl G S s H → va_S (fun q => G.2.2.2 ≤ q) s.heap H locs → mq_lr (mq_f G) L ls →
      cells + (S'.2.1 - S.2.1) ≤ R.cells → slots + (S'.2.2 - S.2.2) ≤ R.slots → d + 12 ≤ R.frames → 64 * d + 300 ≤ R.locals →
      W p l e R s m args below meth c H locs cells slots (mq_fin cl G below s R.cells R.slots r S') (F0 m pc ls (st.map (mq_v (mq_f G))))
set_option maxHeartbeats 4000000 in
theorem mq_callW (hTT : mq_stable TT) (hP : mq_prog cl TT Zs ks G p l P Nms) {n : Nat} (ih : mq_J p l cl TT Zs ks G P Nms n) {d' k pc j : Nat} {L : mq_L} {st rest as : List Value} {S S' : mq_S} {r : Option Value ⊕ Nat} {x : mq_A} (hc : mq_run P n d' j 0 (mq_en P j as) [] S = some x)
    (h : (match (some x : Option mq_A) with
      | none => none
      | some (.inl v, S1) => mq_run P n (d' + 1) k (pc + 3) L (v.toList ++ rest) S1
      | some (.inr a, S1) => match mq_hd P k pc (S1.1 a).1 with
        | some q => mq_run P n (d' + 1) k q L [.ref a] S1
        | none => if mq_nh P k = true then some (.inr a, S1) else none) = some (r, S')) {t : mq_T} {N Nj : mq_Nm} (ht : P[k]? = some t) (hN : Nms[k]? = some N) (hNj : Nms[j]? = some Nj) (hL : L.length = t.1) (hmx : (mq_sp as).length ≤ Nj.2.2.1) (hplain : plainName Nj.1.cls = true) (hw8 : mq_wt rest ≤ 8)
    (hnoh : t.2.1 = [] → N.2.2.2.2 = [])
    {e : Env} {R : Room} {s : State} {m : MethodId} {args : Array Value} {below : List Frame} {meth : Method} {c : Code} {H : Heap} {locs : List Loc} {cells slots : Nat} {ls : Array Slot} (hst : mq_St cl TT Zs ks N G p s m args meth c) (hok : mq_ok cl G S s H) (hS : va_S (fun q => G.2.2.2 ≤ q) s.heap H locs) (hl : mq_lr (mq_f G) L ls)
    (hR1 : cells + (S'.2.1 - S.2.1) ≤ R.cells) (hR2 : slots + (S'.2.2 - S.2.2) ≤ R.slots) (hR3 : d' + 1 + 12 ≤ R.frames) (hR4 : 64 * (d' + 1) + 300 ≤ R.locals) {ig : Instr} (hd : decode N.2.1 pc = .ok (ig, 3))
    (enter : ∀ T : State, T.heap = H → Stand p l e R s m args below meth c T locs cells slots → ∃ mk methk ck vm₁, mq_is Nj s mk methk ck ∧ Stand p l e R s m args below meth c (T.setVm vm₁) locs cells slots ∧ ∀ target, Steps p.tables e below (doInvoke e ((T.setVm vm₁).setTop (F0 m pc ls (rest.map (mq_v (mq_f G))))) [] mk (as.map (mq_v (mq_f G))).toArray).1 target → Steps p.tables e below (T.setTop (F0 m pc ls (st.map (mq_v (mq_f G))))) target) :
    W p l e R s m args below meth c H locs cells slots (mq_fin cl G below s R.cells R.slots r S') (F0 m pc ls (st.map (mq_v (mq_f G)))) := by
  intro T hT X
  obtain ⟨mk, methk, ck, vm₁, hk, X₁, hsteps⟩ := enter T hT X
  obtain ⟨N', hN', hmaxl, h40, hHC, -⟩ := hP k t ht
  cases hN.symm.trans hN'
  obtain ⟨hn1, hn2, hn3, hb, hml, hret, hlocks, hhd, hsig⟩ := hst.2.1
  obtain ⟨rc, S1⟩ := x
  have hle1 : mq_le S S1 := mq_run_le P _ _ _ _ _ _ _ _ hc
  have hle2 : mq_le S1 S' := by
    cases rc with
    | inl v => exact mq_run_le P _ _ _ _ _ _ _ _ h
    | inr a =>
      simp only at h
      cases hh : mq_hd P k pc (S1.1 a).1 with
      | none =>
        rw [hh] at h
        obtain ⟨-, h2⟩ := mq_if h
        cases h2
        exact mq_le_rfl
      | some q => rw [hh] at h; exact mq_run_le P _ _ _ _ _ _ _ _ h
  -- the callee's own entry
  cases hPj : P[j]? with
  | none =>
    exfalso
    cases n with
    | zero => simp [mq_run] at hc
    | succ n => simp [mq_run, mq_stp, mq_at, hPj] at hc
  | some tj =>
    obtain ⟨Nj', hNj', hmaxj, h40j, -, -⟩ := hP j tj hPj
    cases hNj.symm.trans hNj'
    have hen : mq_en P j as = mq_sp as ++ List.replicate (Nj.2.2.1 - (mq_sp as).length) none := by
      unfold mq_en
      rw [hPj]
      simp only [hmaxj]
    have hsz : ls.size = c.maxLocals := by rw [hml, ← hmaxl, ← hL]; exact hl.1
    have hh1 : (T.setVm vm₁).heap = H := hT
    have hS1 : va_S (fun q => G.2.2.2 ≤ q) s.heap (T.setVm vm₁).heap locs := by rw [hh1]; exact hS
    have hstj := mq_St_into (g := F0 m pc ls (rest.map (mq_v (mq_f G)))) (a := (as.map (mq_v (mq_f G))).toArray) hTT hst X₁ hS1 hk
    have hokj : mq_ok cl G S ((T.setVm vm₁).calling (F0 m pc ls (rest.map (mq_v (mq_f G)))) mk (as.map (mq_v (mq_f G))).toArray) (T.setVm vm₁).heap := by
      rw [hh1]
      exact hok.moved X₁.warmed.alike
    have hwt : (((F0 m pc ls (rest.map (mq_v (mq_f G)))).stack).map fun v => v.category).sum ≤ 8 := by
      show ((rest.map (mq_v (mq_f G))).map fun v => v.category).sum ≤ 8
      rw [mq_v_wt]; exact hw8
    have hwj : W p l e ({ frames := d' + 12, cells := S1.2.1 - S.2.1, slots := S1.2.2 - S.2.2, locals := 64 * d' + 300 } : Room) ((T.setVm vm₁).calling (F0 m pc ls (rest.map (mq_v (mq_f G)))) mk (as.map (mq_v (mq_f G))).toArray) mk (as.map (mq_v (mq_f G))).toArray (.java (F0 m pc ls (rest.map (mq_v (mq_f G)))) :: below) methk ck (T.setVm vm₁).heap [] 0 0 (mq_fin cl G (.java (F0 m pc ls (rest.map (mq_v (mq_f G)))) :: below) ((T.setVm vm₁).calling (F0 m pc ls (rest.map (mq_v (mq_f G)))) mk (as.map (mq_v (mq_f G))).toArray) (S1.2.1 - S.2.1) (S1.2.2 - S.2.2) rc S1) (entryFrame mk (as.map (mq_v (mq_f G))).toArray Nj.2.2.1) := by
      rw [lg_entry_eq]
      refine ih d' j 0 (mq_en P j as) [] S rc S1 hc tj Nj hPj hNj ?_ e _ _ mk _ _ methk ck _ [] 0 0 _ hstj hokj va_S.rf ?_ ?_ ?_ ?_ ?_
      · rw [hen, hmaxj]; simp; omega
      · rw [hen]; exact mq_lr_entry (mq_f G) as hmx
      · show 0 + (S1.2.1 - S.2.1) ≤ S1.2.1 - S.2.1; omega
      · show 0 + (S1.2.2 - S.2.2) ≤ S1.2.2 - S.2.2; omega
      · exact Nat.le_refl _
      · exact Nat.le_refl _
    have hd' : decode c.code pc = .ok (ig, 3) := by rw [hb]; exact hd
    obtain ⟨t1, st1, fin1⟩ := mq_into (R' := { frames := d' + 12, cells := S1.2.1 - S.2.1, slots := S1.2.2 - S.2.2, locals := 64 * d' + 300 }) X₁ (g := F0 m pc ls (rest.map (mq_v (mq_f G)))) rfl hsz hd' (mq_is_move X₁ hk) hplain (as.map (mq_v (mq_f G))).toArray
      (by show d' + 12 + 1 ≤ R.frames; omega)
      (mq_room_ar hwt (by rw [← hmaxj]; exact h40j) hR4)
      (by show cells + (S1.2.1 - S.2.1) ≤ R.cells; have := hle1.1; have := hle2.1; omega)
      (by show slots + (S1.2.2 - S.2.2) ≤ R.slots; have := hle1.2; have := hle2.2; omega) hwj
    cases rc with
    | inl v =>
      obtain ⟨T', locs', X', ok', S'', ht1⟩ := mq_back X₁ hS1 hd' fin1
      have hres := ih (d' + 1) k (pc + 3) L (v.toList ++ rest) S1 r S' h t N ht hN hL e R s m args below meth c T'.heap locs' (cells + (S1.2.1 - S.2.1)) (slots + (S1.2.2 - S.2.2)) ls hst ok' S'' hl (by have := hle1.1; have := hle2.1; omega) (by have := hle1.2; have := hle2.2; omega) hR3 hR4
      obtain ⟨t2, st2, fin2⟩ := hres T' rfl X'
      refine ⟨t2, hsteps _ (st1.trans ?_), fin2⟩
      rw [ht1]
      have e9 : (v.toList ++ rest).map (mq_v (mq_f G)) = (v.map (mq_v (mq_f G))).toList ++ rest.map (mq_v (mq_f G)) := by cases v <;> simp
      rw [e9] at st2
      exact st2
    | inr a =>
      obtain ⟨T', locs', X', ok', S'', ht1⟩ := mq_backT X₁ hS1 fin1
      simp only at h
      cases hh : mq_hd P k pc (S1.1 a).1 with
      | none =>
        rw [hh] at h
        obtain ⟨hnh, h2⟩ := mq_if h
        have hnone : t.2.1 = [] := by
          unfold mq_nh at hnh
          rw [ht] at hnh
          exact List.isEmpty_iff.mp hnh
        obtain ⟨rfl, rfl⟩ := Prod.mk.inj h2
        have hout : ∀ y ∈ c.exceptionTable.toList, covers y pc = false := by
          intro y hy
          have hm : (y.startPc, y.endPc, y.handlerPc, y.catchType) ∈ N.2.2.2.2 := by
            rw [← hhd]
            exact List.mem_map.mpr ⟨y, hy, rfl⟩
          rw [hnoh hnone] at hm
          cases hm
        obtain ⟨q1, q2, q3, q4, q5⟩ := X'.leaveThrown (mq_f G a) (g := F0 m pc ls (rest.map (mq_v (mq_f G)))) rfl rfl rfl hout hlocks
        refine ⟨_, hsteps _ (st1.trans (by rw [ht1]; exact q1)), q2, q3, q4, ⟨locs', ?_, S''.2.2⟩, ?_, ?_⟩
        · exact q5.mono (by have := hle1.1; omega) (by have := hle1.2; omega)
        · have : (T'.setFrames (.throwing (mq_f G a) :: below)).heap = T'.heap := rfl
          rw [this]; exact ok'
        · exact S''.F rfl
      | some q =>
        rw [hh] at h
        have hsome : mq_hx pc (S1.1 a).1 t.2.1 = some q := by
          unfold mq_hd at hh
          rw [ht] at hh
          exact hh
        obtain ⟨vm₂, X2, hsteps2⟩ := hHC pc (S1.1 a).1 q hsome e R s m args below meth c T' locs' (cells + (S1.2.1 - S.2.1)) (slots + (S1.2.2 - S.2.2)) ls (rest.map (mq_v (mq_f G))) S1 a hst ok' rfl X'
        have hres := ih (d' + 1) k q L [.ref a] S1 r S' h t N ht hN hL e R s m args below meth c (T'.setVm vm₂).heap locs' (cells + (S1.2.1 - S.2.1)) (slots + (S1.2.2 - S.2.2)) ls hst ok' S'' hl (by have := hle1.1; have := hle2.1; omega) (by have := hle1.2; have := hle2.2; omega) hR3 hR4
        obtain ⟨t2, st2, fin2⟩ := hres (T'.setVm vm₂) rfl X2
        refine ⟨t2, hsteps _ (st1.trans ?_), fin2⟩
        rw [ht1]
        exact hsteps2 t2 st2
set_option maxHeartbeats 4000000 in
theorem mq_main (hcls : mq_cls cl TT) (hTT : mq_stable TT) (hP : mq_prog cl TT Zs ks G p l P Nms) : ∀ n, mq_J p l cl TT Zs ks G P Nms n := by
  intro n
  induction n with
  | zero => intro d k pc L st S r S' h; simp [mq_run] at h
  | succ n ih =>
    intro d k pc L st S r S' h t N ht hN hL e R s m args below meth c H locs cells slots ls hst hok hS hl hR1 hR2 hR3 hR4
    obtain ⟨N', hN', hmaxl, h40, hHC, hfacts⟩ := hP k t ht
    cases hN.symm.trans hN'
    rw [mq_run] at h
    cases hs : mq_stp P k pc L st S with
    | none => rw [hs] at h; cases h
    | some o9 =>
      rw [hs] at h
      have hat : ∃ o, t.2.2.lookup pc = some o ∧ mq_ex o L st S = some o9 := by
        unfold mq_stp mq_at at hs
        rw [ht] at hs
        simp only at hs
        cases hlk : t.2.2.lookup pc with
        | none => rw [hlk] at hs; cases hs
        | some o => rw [hlk] at hs; exact ⟨o, rfl, hs⟩
      obtain ⟨o, hlook, hex⟩ := hat
      have hle := mq_ex_le hex
      have hlen := mq_ex_len hex
      have htag := mq_ex_tag hex
      have hff := hfacts pc o hlook
      rcases o9 with ⟨pc', L', st', S1⟩ | ⟨v, S1⟩ | ⟨a, S1⟩ | ⟨j, as, pc', L', st', S1⟩
      · have hle2 : mq_le S1 S' := mq_run_le P _ _ _ _ _ _ _ _ h
        have hle1 : mq_le S S1 := hle
        rcases hff with hf | ⟨hf, -⟩ | hf | ⟨x, ns, rfl, hf⟩
        · refine mq_stepW hcls hst hok hS hl (hL.trans hmaxl) hf hex (by have := hle1.1; have := hle2.1; omega) (by have := hle1.2; have := hle2.2; omega) (by omega) (by have := mq_nfw; omega) (fun H1 locs1 ls1 ok1 hS1 hl1 => ?_)
          exact ih d k pc' L' st' S1 r S' h t N ht hN (Eq.trans hlen hL) e R s m args below meth c H1 locs1 _ _ ls1 hst ok1 hS1 hl1 (by have := hle1.1; have := hle2.1; omega) (by have := hle1.2; have := hle2.2; omega) hR3 hR4
        · rw [mq_fcall_tag hf] at htag; cases htag
        · rw [mq_fret_tag hf] at htag; cases htag
        · cases htag
      · rcases hff with hf | ⟨hf, -⟩ | hf | ⟨x, ns, rfl, hf⟩
        · rw [mq_fc_tag hf] at htag; cases htag
        · rw [mq_fcall_tag hf] at htag; cases htag
        · cases h
          exact mq_w_ret hst hok hS hf hex (by omega) (by omega)
        · cases htag
      · rcases hff with hf | ⟨hf, -⟩ | hf | ⟨x, ns, rfl, hf⟩
        · rw [mq_fc_tag hf] at htag; cases htag
        · rw [mq_fcall_tag hf] at htag; cases htag
        · rw [mq_fret_tag hf] at htag; cases htag
        · cases h
          have hex' : mq_o_throw (x :: ns) [] L st S = some (.inr (.inr (.inl (a, S')))) := hex
          unfold mq_o_throw at hex'
          obtain ⟨hw8, h2⟩ := mq_if hex'
          obtain ⟨M, z, u⟩ := S
          cases h2
          refine hf e R s m args below meth c H locs cells slots ls (st.map (mq_v (mq_f G))) M z u hst hok hS ?_ ?_ ?_ ?_ (by omega) (by omega)
          · rw [← hmaxl, ← hL]; exact hl.1
          · rw [mq_v_wt]; exact hw8
          · have : cells + (z + 1 - z) ≤ R.cells := hR1
            omega
          · have : slots + (u + 6 - u) ≤ R.slots := hR2
            omega
      · cases d with
        | zero => cases h
        | succ d' =>
          simp only at h
          cases hc : mq_run P n d' j 0 (mq_en P j as) [] S1 with
          | none => rw [hc] at h; cases h
          | some x =>
            rw [hc] at h
            have hown : s.vm.findClass N.1.cls = some m.cls := findClass_of_methodNamed hst.2.1.1
            have hx := hst.1
            have hts := hst.2.2.1
            have hb := hst.2.1.2.2.2.1
            have ml : ∀ {index : Nat} {y : MethodName}, mq_mlk TT N.1.cls index y → mq_ml N.1.cls index y args s := by
              intro index y hm
              rcases hm with hm | ⟨host, hm⟩
              · exact Or.inl (hts _ hm)
              · exact Or.inr ⟨host, hts _ hm⟩
            rcases hff with hf | ⟨hf, hnoh⟩ | hf | ⟨x9, ns, rfl, hf⟩
            · rw [mq_fc_tag hf] at htag; cases htag
            · rcases hf with ⟨j9, Nj, index, n9, ns, hd, hNj, hlk, hw1, hw2, hw3, hpl, rfl⟩ | ⟨j9, Nj, index, n9, ci, r9, ns, hd, hNj, hlk, hw1, hci, h60, hw2, hw3, hpl, rfl⟩ | ⟨j9, Nj, index, n9, ci, ns, hd, hNj, hlk, hw1, hname, hh9, hr9, hw3, hpl, rfl⟩
              · obtain ⟨⟨g1, g2, g3⟩, g4⟩ := mq_i_static (ns := ns) hex
                cases g4
                refine mq_callW hTT hP ih hc h ht hN hNj hL g3 (mq_pl_spec hpl).1 g2 hnoh hst hok hS hl hR1 hR2 hR3 hR4 hd (fun T hT X => ?_)
                have := mq_enterS X hx hown (N := Nj) (pc := pc) (ls := ls) (As := ((st.take n9).reverse).map (mq_v (mq_f G))) (rest := (st.drop n9).map (mq_v (mq_f G))) (ml hlk) (hts _ hw1) (hts _ hw2) (hts _ hw3) hpl (by simp; omega) (by rw [hb]; exact hd)
                have e9 : (((st.take n9).reverse).map (mq_v (mq_f G))).reverse ++ (st.drop n9).map (mq_v (mq_f G)) = st.map (mq_v (mq_f G)) := by
                  rw [← List.map_reverse, List.reverse_reverse, ← List.map_append, List.take_append_drop]
                rw [e9] at this
                exact this
              · obtain ⟨b, r8, gb, ⟨g1, g2, g3⟩, g4⟩ := mq_i_virtual (ns := ns) hex
                cases g4
                have hlen9 : n9 ≤ st.length := by
                  have := congrArg List.length gb
                  simp at this
                  omega
                have e9 : (((st.take n9).reverse).map (mq_v (mq_f G))).reverse ++ .ref (mq_f G b) :: st'.map (mq_v (mq_f G)) = st.map (mq_v (mq_f G)) := by
                  rw [← List.map_reverse, List.reverse_reverse]
                  have : Value.ref (mq_f G b) :: st'.map (mq_v (mq_f G)) = (st.drop n9).map (mq_v (mq_f G)) := by rw [gb]; rfl
                  rw [this, ← List.map_append, List.take_append_drop]
                refine mq_callW hTT hP ih hc h ht hN hNj hL g3 (mq_pl_spec hpl).1 g2 hnoh hst hok hS hl hR1 hR2 hR3 hR4 hd (fun T hT X => ?_)
                obtain ⟨M, z, u⟩ := S
                obtain ⟨h8, hz, hat9⟩ := mq_at_obj (M := M) (z := z) (u := u) (a := b) (fs := (M b).2) hok h60 (by rw [← g1])
                have hrecv := va_recv hst.2.2.2.1 hok.1 hci hat9
                have := mq_enterV X hx hown (N := Nj) (C := r9.1) (pc := pc) (b := mq_f G b) (ls := ls) (As := ((st.take n9).reverse).map (mq_v (mq_f G))) (rest := st'.map (mq_v (mq_f G))) (ml hlk) (hts _ hw1) (hts _ hw2) (hts _ hw3) hpl (by simp; omega) (by rw [hT]; exact hrecv) (by rw [hb]; exact hd)
                rw [e9] at this
                exact this
              · obtain ⟨b, r8, gb, ⟨g1, g2, g3⟩, g4⟩ := mq_i_virtual (ns := ns) hex
                cases g4
                have hlen9 : n9 ≤ st.length := by
                  have := congrArg List.length gb
                  simp at this
                  omega
                have e9 : (((st.take n9).reverse).map (mq_v (mq_f G))).reverse ++ .ref (mq_f G b) :: st'.map (mq_v (mq_f G)) = st.map (mq_v (mq_f G)) := by
                  rw [← List.map_reverse, List.reverse_reverse]
                  have : Value.ref (mq_f G b) :: st'.map (mq_v (mq_f G)) = (st.drop n9).map (mq_v (mq_f G)) := by rw [gb]; rfl
                  rw [this, ← List.map_append, List.take_append_drop]
                refine mq_callW hTT hP ih hc h ht hN hNj hL g3 (mq_pl_spec hpl).1 g2 hnoh hst hok hS hl hR1 hR2 hR3 hR4 hd (fun T hT X => ?_)
                have := mq_enterI X hx hown (N := Nj) (pc := pc) (b := mq_f G b) (ls := ls) (As := ((st.take n9).reverse).map (mq_v (mq_f G))) (rest := st'.map (mq_v (mq_f G))) (ml hlk) (hts _ hw1) hname (hts _ hw3) hh9 hr9 hpl (by simp; omega) (by rw [hb]; exact hd)
                rw [e9] at this
                exact this
            · rw [mq_fret_tag hf] at htag; cases htag
            · cases htag
end MQI
